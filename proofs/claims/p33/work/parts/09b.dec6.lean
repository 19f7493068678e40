theorem goodIn_cons {big a : List Cond} {c : Cond} (hc : GoodIn big [c]) (ha : GoodIn big a) : GoodIn big (c :: a) := fun w h => (List.mem_cons.mp h).elim (fun e => hc w (List.mem_cons.mpr (Or.inl e))) (ha w)
set_option maxRecDepth 20000 in
theorem ggL_isWell_X5_safeByTrying : GoodIn wsL_isWell wsX5_safeByTrying := goodIn_r _ [5, 6, 7, 8, 9, 10, 11, 12, 13, 14, 15, 16, 17, 18, 19, 20, 21, 22, 23, 24, 25, 26, 27, 28, 29, 30, 31, 32, 33, 34, 35, 36, 37, 38, 39, 40, 41, 42, 43, 44, 45, 46, 47, 48, 49, 50, 51, 52, 53, 54, 55, 56, 57, 58, 59, 60, 61, 62, 63, 64, 65, 66, 67, 68, 69, 70, 71, 72, 73, 74, 75, 76, 77, 78, 79, 80, 81, 82, 83, 84, 85, 86, 87, 88, 89, 230, 231, 232, 233, 234, 235, 236, 237, 238, 239, 240, 241, 242, 243] (by decide +kernel) (by decide +kernel)
set_option maxRecDepth 20000 in
theorem gL_isWell_X5_safeByTrying : GoodIn wsL_isWell (wsV RL 147 RX5 yX5_safeByTrying wsX5_safeByTrying) := goodIn_app (goodIn_of _ (by decide +kernel)) ggL_isWell_X5_safeByTrying
set_option maxRecDepth 20000 in
theorem ggL_isWell_X5_isOver : GoodIn wsL_isWell wsX5_isOver := goodIn_r _ [93, 6, 8, 9, 10, 11, 12, 13, 14, 15, 16, 17, 18, 19, 20, 21, 22, 23, 24, 25, 26, 27, 28, 29, 30, 31, 230, 231, 232, 233, 234, 235, 236, 237, 238, 239, 240, 241, 242, 243] (by decide +kernel) (by decide +kernel)
set_option maxRecDepth 20000 in
theorem gL_isWell_X5_isOver : GoodIn wsL_isWell (wsV RL 95 RX5 yX5_isOver wsX5_isOver) := goodIn_app (goodIn_of _ (by decide +kernel)) ggL_isWell_X5_isOver
set_option maxRecDepth 20000 in
theorem ggL_isWell_X5_safeByLines : GoodIn wsL_isWell wsX5_safeByLines := goodIn_r _ [97, 6, 8, 9, 10, 11, 12, 13, 14, 15, 16, 17, 18, 19, 20, 21, 22, 23, 24, 25, 26, 27, 28, 29, 30, 31, 53, 54, 55, 56, 98, 99, 100, 101, 77, 78, 79, 80, 42, 102, 103, 104, 105, 106, 107, 108, 85, 109, 110, 111, 112, 44, 45, 46, 47, 48, 36, 49, 50, 51, 52, 43, 113, 114, 4, 115, 230, 231, 232, 233, 234, 235, 236, 237, 238, 239, 240, 241, 242, 243] (by decide +kernel) (by decide +kernel)
set_option maxRecDepth 20000 in
theorem gL_isWell_X5_safeByLines : GoodIn wsL_isWell (wsV RL 112 RX5 yX5_safeByLines wsX5_safeByLines) := goodIn_app (goodIn_of _ (by decide +kernel)) ggL_isWell_X5_safeByLines
set_option maxRecDepth 20000 in
theorem ggL_isWell_X5_lines : GoodIn wsL_isWell wsX5_lines := goodIn_r _ [119, 6, 53, 54, 55, 11, 56, 14, 120, 78, 79, 18, 80, 42, 230, 231, 232, 233, 234, 235, 236, 237, 238, 239, 240, 241, 242, 243] (by decide +kernel) (by decide +kernel)
set_option maxRecDepth 20000 in
theorem gL_isWell_X5_lines : GoodIn wsL_isWell (wsV RL 135 RX5 yX5_lines wsX5_lines) := goodIn_app (goodIn_of _ (by decide +kernel)) ggL_isWell_X5_lines
set_option maxRecDepth 20000 in
theorem ggL_isWell_X5_rule : GoodIn wsL_isWell wsX5_rule := goodIn_r _ [124, 6, 53, 54, 55, 11, 56, 14, 125, 126, 127, 18, 128, 42, 230, 231, 232, 233, 234, 235, 236, 237, 238, 239, 240, 241, 242, 243] (by decide +kernel) (by decide +kernel)
set_option maxRecDepth 20000 in
theorem gL_isWell_X5_rule : GoodIn wsL_isWell (wsV RL 101 RX5 yX5_rule wsX5_rule) := goodIn_app (goodIn_of _ (by decide +kernel)) ggL_isWell_X5_rule
set_option maxRecDepth 20000 in
theorem ggL_isWell_L_pieceOn : GoodIn wsL_isWell wsL_pieceOn := goodIn_ca (goodIn_r _ [132, 133, 134, 135, 136, 137, 4, 138, 6, 139, 140, 141, 142, 143, 53, 54, 55, 11, 56, 14, 144, 145, 146, 18, 147, 44, 61, 62, 63, 64, 24, 230, 231, 232, 233, 234, 235, 236, 237, 238, 239, 240, 241, 242, 243] (by decide +kernel) (by decide +kernel)) (goodIn_sub (fun _ h => List.mem_cons_of_mem _ (List.mem_append_right _ h)) (by decide +kernel))
set_option maxRecDepth 20000 in
theorem gL_isWell_L_pieceOn : GoodIn wsL_isWell (va_wsS RL 125 yL_pieceOn wsL_pieceOn) := goodIn_app (goodIn_of _ (by decide +kernel)) ggL_isWell_L_pieceOn
set_option maxRecDepth 20000 in
theorem ggL_isWell_L_cellOf : GoodIn wsL_isWell wsL_cellOf := goodIn_ca (goodIn_r _ [150, 133, 134, 151, 152, 153, 4, 154, 6, 155, 156, 157, 142, 143, 53, 54, 55, 11, 56, 14, 158, 159, 160, 18, 161, 162, 145, 146, 147, 44, 61, 62, 63, 64, 24, 230, 231, 232, 233, 234, 235, 236, 237, 238, 239, 240, 241, 242, 243] (by decide +kernel) (by decide +kernel)) (goodIn_sub (fun _ h => List.mem_cons_of_mem _ (List.mem_append_right _ h)) (by decide +kernel))
set_option maxRecDepth 20000 in
theorem gL_isWell_L_cellOf : GoodIn wsL_isWell (va_wsS RL 115 yL_cellOf wsL_cellOf) := goodIn_app (goodIn_of _ (by decide +kernel)) ggL_isWell_L_cellOf
set_option maxRecDepth 20000 in
theorem ggL_isWell_L_winningCell : GoodIn wsL_isWell wsL_winningCell := goodIn_ca (goodIn_r _ [165, 133, 134, 166, 167, 168, 4, 169, 6, 7, 155, 156, 157, 142, 143, 8, 9, 10, 11, 12, 13, 14, 15, 16, 17, 18, 19, 20, 21, 22, 23, 24, 25, 26, 27, 28, 29, 30, 31, 53, 54, 55, 56, 170, 50, 51, 52, 43, 32, 33, 34, 35, 36, 37, 38, 39, 40, 41, 42, 44, 57, 58, 59, 60, 61, 62, 63, 64, 65, 66, 67, 68, 69, 70, 71, 72, 73, 74, 75, 76, 77, 78, 79, 80, 81, 82, 83, 84, 85, 86, 87, 88, 89, 230, 231, 232, 233, 234, 235, 236, 237, 238, 239, 240, 241, 242, 243] (by decide +kernel) (by decide +kernel)) (goodIn_sub (fun _ h => List.mem_cons_of_mem _ (List.mem_append_right _ h)) (by decide +kernel))
set_option maxRecDepth 20000 in
theorem gL_isWell_L_winningCell : GoodIn wsL_isWell (va_wsS RL 123 yL_winningCell wsL_winningCell) := goodIn_app (goodIn_of _ (by decide +kernel)) ggL_isWell_L_winningCell
set_option maxRecDepth 20000 in
theorem ggL_isWell_X5_gift : GoodIn wsL_isWell wsX5_gift := goodIn_r _ [174, 6, 175, 176, 177, 11, 178, 36, 230, 231, 232, 233, 234, 235, 236, 237, 238, 239] (by decide +kernel) (by decide +kernel)
set_option maxRecDepth 20000 in
theorem gL_isWell_X5_gift : GoodIn wsL_isWell (wsV RL 89 RX5 yX5_gift wsX5_gift) := goodIn_app (goodIn_of _ (by decide +kernel)) ggL_isWell_X5_gift
set_option maxRecDepth 20000 in
theorem ggL_isWell_L_piecesOn : GoodIn wsL_isWell wsL_piecesOn := goodIn_ca (goodIn_r _ [181, 133, 134, 182, 183, 184, 4, 185, 6, 186, 187, 188, 189, 142, 143, 53, 54, 55, 11, 56, 14, 120, 78, 79, 18, 80, 42, 190, 103, 104, 105, 24, 106, 107, 108, 85, 25, 26, 27, 28, 29, 30, 31, 230, 231, 232, 233, 234, 235, 236, 237, 238, 239, 240, 241, 242, 243] (by decide +kernel) (by decide +kernel)) (goodIn_sub (fun _ h => List.mem_cons_of_mem _ (List.mem_append_right _ h)) (by decide +kernel))
set_option maxRecDepth 20000 in
theorem gL_isWell_L_piecesOn : GoodIn wsL_isWell (va_wsS RL 158 yL_piecesOn wsL_piecesOn) := goodIn_app (goodIn_of _ (by decide +kernel)) ggL_isWell_L_piecesOn
set_option maxRecDepth 20000 in
theorem ggL_isWell_L_shared : GoodIn wsL_isWell wsL_shared := goodIn_ca (goodIn_r _ [193, 133, 134, 194, 195, 196, 4, 197, 6, 186, 187, 188, 189, 142, 143, 53, 54, 55, 11, 56, 14, 120, 78, 79, 18, 80, 42, 198, 110, 111, 112, 24, 44, 106, 107, 108, 85, 230, 231, 232, 233, 234, 235, 236, 237, 238, 239, 240, 241, 242, 243] (by decide +kernel) (by decide +kernel)) (goodIn_sub (fun _ h => List.mem_cons_of_mem _ (List.mem_append_right _ h)) (by decide +kernel))
set_option maxRecDepth 20000 in
theorem gL_isWell_L_shared : GoodIn wsL_isWell (va_wsS RL 155 yL_shared wsL_shared) := goodIn_app (goodIn_of _ (by decide +kernel)) ggL_isWell_L_shared
set_option maxRecDepth 20000 in
theorem ggL_isWell_X5_placed : GoodIn wsL_isWell wsX5_placed := goodIn_r _ [202, 6, 53, 54, 55, 11, 56, 14, 203, 21, 22, 18, 23, 24, 25, 26, 27, 28, 29, 30, 31, 230, 231, 232, 233, 234, 235, 236, 237, 238, 239, 240, 241, 242, 243] (by decide +kernel) (by decide +kernel)
set_option maxRecDepth 20000 in
theorem gL_isWell_X5_placed : GoodIn wsL_isWell (wsV RL 86 RX5 yX5_placed wsX5_placed) := goodIn_app (goodIn_of _ (by decide +kernel)) ggL_isWell_X5_placed
set_option maxRecDepth 20000 in
theorem ggL_isWell_X5_wonLines : GoodIn wsL_isWell wsX5_wonLines := goodIn_r _ [207, 6, 53, 54, 55, 11, 56, 14, 208, 209, 210, 18, 211, 77, 78, 79, 80, 42, 81, 82, 83, 84, 85, 24, 44, 230, 231, 232, 233, 234, 235, 236, 237, 238, 239, 240, 241, 242, 243] (by decide +kernel) (by decide +kernel)
set_option maxRecDepth 20000 in
theorem gL_isWell_X5_wonLines : GoodIn wsL_isWell (wsV RL 138 RX5 yX5_wonLines wsX5_wonLines) := goodIn_app (goodIn_of _ (by decide +kernel)) ggL_isWell_X5_wonLines
set_option maxRecDepth 20000 in
theorem ggL_isWell_X5_winner : GoodIn wsL_isWell wsX5_winner := goodIn_r _ [215, 6, 216, 217, 218, 11, 219, 13, 230, 231, 232, 233, 234, 235, 236, 237, 238, 239] (by decide +kernel) (by decide +kernel)
set_option maxRecDepth 20000 in
theorem gL_isWell_X5_winner : GoodIn wsL_isWell (wsV RL 132 RX5 yX5_winner wsX5_winner) := goodIn_app (goodIn_of _ (by decide +kernel)) ggL_isWell_X5_winner
set_option maxRecDepth 20000 in
theorem ggL_isWell_X5_playerToMove : GoodIn wsL_isWell wsX5_playerToMove := goodIn_r _ [223, 6, 224, 225, 226, 11, 227, 14, 36, 228, 9, 10, 12, 13, 15, 16, 17, 18, 19, 20, 21, 22, 23, 24, 25, 26, 27, 28, 29, 30, 31, 229, 230, 231, 232, 233, 234, 235, 236, 237, 238, 239, 240, 241, 242, 243] (by decide +kernel) (by decide +kernel)
set_option maxRecDepth 20000 in
theorem gL_isWell_X5_playerToMove : GoodIn wsL_isWell (wsV RL 92 RX5 yX5_playerToMove wsX5_playerToMove) := goodIn_app (goodIn_of _ (by decide +kernel)) ggL_isWell_X5_playerToMove
theorem dL_isWell_0 : decode cL_isWell 0 = .ok (.iconst 0, 1) := by decide +kernel
theorem dL_isWell_1 : decode cL_isWell 1 = .ok (.istore_n 1, 1) := by decide +kernel
theorem dL_isWell_2 : decode cL_isWell 2 = .ok (.iconst 0, 1) := by decide +kernel
theorem dL_isWell_3 : decode cL_isWell 3 = .ok (.istore_n 2, 1) := by decide +kernel
theorem dL_isWell_4 : decode cL_isWell 4 = .ok (.aload_n 0, 1) := by decide +kernel
theorem dL_isWell_5 : decode cL_isWell 5 = .ok (.invokevirtual 147, 3) := by decide +kernel
theorem dL_isWell_8 : decode cL_isWell 8 = .ok (.istore_n 3, 1) := by decide +kernel
theorem dL_isWell_9 : decode cL_isWell 9 = .ok (.aload_n 0, 1) := by decide +kernel
theorem dL_isWell_10 : decode cL_isWell 10 = .ok (.invokevirtual 95, 3) := by decide +kernel
theorem dL_isWell_13 : decode cL_isWell 13 = .ok (.istore 4, 2) := by decide +kernel
theorem dL_isWell_15 : decode cL_isWell 15 = .ok (.iload_n 3, 1) := by decide +kernel
theorem dL_isWell_16 : decode cL_isWell 16 = .ok (.aload_n 0, 1) := by decide +kernel
theorem dL_isWell_17 : decode cL_isWell 17 = .ok (.invokevirtual 112, 3) := by decide +kernel
theorem dL_isWell_20 : decode cL_isWell 20 = .ok (.if_icmp .ne 28, 3) := by decide +kernel
theorem dL_isWell_23 : decode cL_isWell 23 = .ok (.aload_n 0, 1) := by decide +kernel
theorem dL_isWell_24 : decode cL_isWell 24 = .ok (.invokevirtual 135, 3) := by decide +kernel
theorem dL_isWell_27 : decode cL_isWell 27 = .ok (.aload_n 0, 1) := by decide +kernel
theorem dL_isWell_28 : decode cL_isWell 28 = .ok (.invokevirtual 101, 3) := by decide +kernel
theorem dL_isWell_31 : decode cL_isWell 31 = .ok (.ifCond .ne 8, 3) := by decide +kernel
theorem dL_isWell_34 : decode cL_isWell 34 = .ok (.bipush 10, 2) := by decide +kernel
theorem dL_isWell_36 : decode cL_isWell 36 = .ok (.goto 5, 3) := by decide +kernel
theorem dL_isWell_39 : decode cL_isWell 39 = .ok (.bipush 19, 2) := by decide +kernel
theorem dL_isWell_41 : decode cL_isWell 41 = .ok (.if_icmp .ne 7, 3) := by decide +kernel
theorem dL_isWell_44 : decode cL_isWell 44 = .ok (.iconst 1, 1) := by decide +kernel
theorem dL_isWell_45 : decode cL_isWell 45 = .ok (.goto 4, 3) := by decide +kernel
theorem dL_isWell_48 : decode cL_isWell 48 = .ok (.iconst 0, 1) := by decide +kernel
theorem dL_isWell_49 : decode cL_isWell 49 = .ok (.istore 5, 2) := by decide +kernel
theorem dL_isWell_51 : decode cL_isWell 51 = .ok (.iconst 0, 1) := by decide +kernel
theorem dL_isWell_52 : decode cL_isWell 52 = .ok (.istore 6, 2) := by decide +kernel
theorem dL_isWell_54 : decode cL_isWell 54 = .ok (.iload 6, 2) := by decide +kernel
theorem dL_isWell_56 : decode cL_isWell 56 = .ok (.bipush 16, 2) := by decide +kernel
theorem dL_isWell_58 : decode cL_isWell 58 = .ok (.if_icmp .ge 140, 3) := by decide +kernel
theorem dL_isWell_61 : decode cL_isWell 61 = .ok (.aload_n 0, 1) := by decide +kernel
theorem dL_isWell_62 : decode cL_isWell 62 = .ok (.iload 6, 2) := by decide +kernel
theorem dL_isWell_64 : decode cL_isWell 64 = .ok (.invokestatic 125, 3) := by decide +kernel
theorem dL_isWell_67 : decode cL_isWell 67 = .ok (.istore 7, 2) := by decide +kernel
theorem dL_isWell_69 : decode cL_isWell 69 = .ok (.iload_n 1, 1) := by decide +kernel
theorem dL_isWell_70 : decode cL_isWell 70 = .ok (.iload 7, 2) := by decide +kernel
theorem dL_isWell_72 : decode cL_isWell 72 = .ok (.ifCond .ge 7, 3) := by decide +kernel
theorem dL_isWell_75 : decode cL_isWell 75 = .ok (.iconst 0, 1) := by decide +kernel
theorem dL_isWell_76 : decode cL_isWell 76 = .ok (.goto 4, 3) := by decide +kernel
theorem dL_isWell_79 : decode cL_isWell 79 = .ok (.iconst 1, 1) := by decide +kernel
theorem dL_isWell_80 : decode cL_isWell 80 = .ok (.iadd, 1) := by decide +kernel
theorem dL_isWell_81 : decode cL_isWell 81 = .ok (.istore_n 1, 1) := by decide +kernel
theorem dL_isWell_82 : decode cL_isWell 82 = .ok (.iload 5, 2) := by decide +kernel
theorem dL_isWell_84 : decode cL_isWell 84 = .ok (.ifCond .eq 105, 3) := by decide +kernel
theorem dL_isWell_87 : decode cL_isWell 87 = .ok (.iload 7, 2) := by decide +kernel
theorem dL_isWell_89 : decode cL_isWell 89 = .ok (.ifCond .lt 14, 3) := by decide +kernel
theorem dL_isWell_92 : decode cL_isWell 92 = .ok (.aload_n 0, 1) := by decide +kernel
theorem dL_isWell_93 : decode cL_isWell 93 = .ok (.iload 7, 2) := by decide +kernel
theorem dL_isWell_95 : decode cL_isWell 95 = .ok (.invokestatic 115, 3) := by decide +kernel
theorem dL_isWell_98 : decode cL_isWell 98 = .ok (.iload 6, 2) := by decide +kernel
theorem dL_isWell_100 : decode cL_isWell 100 = .ok (.if_icmp .ne 89, 3) := by decide +kernel
theorem dL_isWell_103 : decode cL_isWell 103 = .ok (.aload_n 0, 1) := by decide +kernel
theorem dL_isWell_104 : decode cL_isWell 104 = .ok (.iload 6, 2) := by decide +kernel
theorem dL_isWell_106 : decode cL_isWell 106 = .ok (.invokestatic 115, 3) := by decide +kernel
theorem dL_isWell_109 : decode cL_isWell 109 = .ok (.ifCond .lt 12, 3) := by decide +kernel
theorem dL_isWell_112 : decode cL_isWell 112 = .ok (.iload_n 3, 1) := by decide +kernel
theorem dL_isWell_113 : decode cL_isWell 113 = .ok (.iload 6, 2) := by decide +kernel
theorem dL_isWell_115 : decode cL_isWell 115 = .ok (.ishr, 1) := by decide +kernel
theorem dL_isWell_116 : decode cL_isWell 116 = .ok (.iconst 1, 1) := by decide +kernel
theorem dL_isWell_117 : decode cL_isWell 117 = .ok (.iand, 1) := by decide +kernel
theorem dL_isWell_118 : decode cL_isWell 118 = .ok (.ifCond .ne 71, 3) := by decide +kernel
theorem dL_isWell_121 : decode cL_isWell 121 = .ok (.iload_n 3, 1) := by decide +kernel
theorem dL_isWell_122 : decode cL_isWell 122 = .ok (.iload 6, 2) := by decide +kernel
theorem dL_isWell_124 : decode cL_isWell 124 = .ok (.ishr, 1) := by decide +kernel
theorem dL_isWell_125 : decode cL_isWell 125 = .ok (.iconst 1, 1) := by decide +kernel
theorem dL_isWell_126 : decode cL_isWell 126 = .ok (.iand, 1) := by decide +kernel
theorem dL_isWell_127 : decode cL_isWell 127 = .ok (.ifCond .eq 12, 3) := by decide +kernel
theorem dL_isWell_130 : decode cL_isWell 130 = .ok (.aload_n 0, 1) := by decide +kernel
theorem dL_isWell_131 : decode cL_isWell 131 = .ok (.iload 6, 2) := by decide +kernel
theorem dL_isWell_133 : decode cL_isWell 133 = .ok (.invokestatic 123, 3) := by decide +kernel
theorem dL_isWell_136 : decode cL_isWell 136 = .ok (.ifCond .ge 53, 3) := by decide +kernel
theorem dL_isWell_139 : decode cL_isWell 139 = .ok (.iload 4, 2) := by decide +kernel
theorem dL_isWell_141 : decode cL_isWell 141 = .ok (.ifCond .ne 44, 3) := by decide +kernel
theorem dL_isWell_144 : decode cL_isWell 144 = .ok (.aload_n 0, 1) := by decide +kernel
theorem dL_isWell_145 : decode cL_isWell 145 = .ok (.iload 6, 2) := by decide +kernel
theorem dL_isWell_147 : decode cL_isWell 147 = .ok (.invokestatic 115, 3) := by decide +kernel
theorem dL_isWell_150 : decode cL_isWell 150 = .ok (.ifCond .ge 35, 3) := by decide +kernel
theorem dL_isWell_153 : decode cL_isWell 153 = .ok (.aload_n 0, 1) := by decide +kernel
theorem dL_isWell_154 : decode cL_isWell 154 = .ok (.invokevirtual 89, 3) := by decide +kernel
theorem dL_isWell_157 : decode cL_isWell 157 = .ok (.iload 6, 2) := by decide +kernel
theorem dL_isWell_159 : decode cL_isWell 159 = .ok (.if_icmp .eq 26, 3) := by decide +kernel
theorem dL_isWell_162 : decode cL_isWell 162 = .ok (.iload_n 3, 1) := by decide +kernel
theorem dL_isWell_163 : decode cL_isWell 163 = .ok (.iload 6, 2) := by decide +kernel
theorem dL_isWell_165 : decode cL_isWell 165 = .ok (.ishr, 1) := by decide +kernel
theorem dL_isWell_166 : decode cL_isWell 166 = .ok (.iconst 1, 1) := by decide +kernel
theorem dL_isWell_167 : decode cL_isWell 167 = .ok (.iand, 1) := by decide +kernel
theorem dL_isWell_168 : decode cL_isWell 168 = .ok (.aload_n 0, 1) := by decide +kernel
theorem dL_isWell_169 : decode cL_isWell 169 = .ok (.iload 6, 2) := by decide +kernel
theorem dL_isWell_171 : decode cL_isWell 171 = .ok (.invokestatic 123, 3) := by decide +kernel
theorem dL_isWell_174 : decode cL_isWell 174 = .ok (.ifCond .ge 7, 3) := by decide +kernel
theorem dL_isWell_177 : decode cL_isWell 177 = .ok (.iconst 1, 1) := by decide +kernel
theorem dL_isWell_178 : decode cL_isWell 178 = .ok (.goto 4, 3) := by decide +kernel
theorem dL_isWell_181 : decode cL_isWell 181 = .ok (.iconst 0, 1) := by decide +kernel
theorem dL_isWell_182 : decode cL_isWell 182 = .ok (.if_icmp .ne 7, 3) := by decide +kernel
theorem dL_isWell_185 : decode cL_isWell 185 = .ok (.iconst 1, 1) := by decide +kernel
theorem dL_isWell_186 : decode cL_isWell 186 = .ok (.goto 4, 3) := by decide +kernel
theorem dL_isWell_189 : decode cL_isWell 189 = .ok (.iconst 0, 1) := by decide +kernel
theorem dL_isWell_190 : decode cL_isWell 190 = .ok (.istore 5, 2) := by decide +kernel
theorem dL_isWell_192 : decode cL_isWell 192 = .ok (.iinc 6 1, 3) := by decide +kernel
theorem dL_isWell_195 : decode cL_isWell 195 = .ok (.goto (-141), 3) := by decide +kernel
theorem dL_isWell_198 : decode cL_isWell 198 = .ok (.iconst 0, 1) := by decide +kernel
theorem dL_isWell_199 : decode cL_isWell 199 = .ok (.istore 6, 2) := by decide +kernel
theorem dL_isWell_201 : decode cL_isWell 201 = .ok (.iload 6, 2) := by decide +kernel
theorem dL_isWell_203 : decode cL_isWell 203 = .ok (.aload_n 0, 1) := by decide +kernel
theorem dL_isWell_204 : decode cL_isWell 204 = .ok (.invokevirtual 135, 3) := by decide +kernel
theorem dL_isWell_207 : decode cL_isWell 207 = .ok (.if_icmp .ge 119, 3) := by decide +kernel
theorem dL_isWell_210 : decode cL_isWell 210 = .ok (.iload_n 2, 1) := by decide +kernel
theorem dL_isWell_211 : decode cL_isWell 211 = .ok (.aload_n 0, 1) := by decide +kernel
theorem dL_isWell_212 : decode cL_isWell 212 = .ok (.iload 6, 2) := by decide +kernel
theorem dL_isWell_214 : decode cL_isWell 214 = .ok (.invokestatic 158, 3) := by decide +kernel
theorem dL_isWell_217 : decode cL_isWell 217 = .ok (.iconst 4, 1) := by decide +kernel
theorem dL_isWell_218 : decode cL_isWell 218 = .ok (.if_icmp .ne 16, 3) := by decide +kernel
theorem dL_isWell_221 : decode cL_isWell 221 = .ok (.aload_n 0, 1) := by decide +kernel
theorem dL_isWell_222 : decode cL_isWell 222 = .ok (.iload 6, 2) := by decide +kernel
theorem dL_isWell_224 : decode cL_isWell 224 = .ok (.invokestatic 155, 3) := by decide +kernel
theorem dL_isWell_227 : decode cL_isWell 227 = .ok (.ifCond .eq 7, 3) := by decide +kernel
theorem dL_isWell_230 : decode cL_isWell 230 = .ok (.iconst 1, 1) := by decide +kernel
theorem dL_isWell_231 : decode cL_isWell 231 = .ok (.goto 4, 3) := by decide +kernel
theorem dL_isWell_234 : decode cL_isWell 234 = .ok (.iconst 0, 1) := by decide +kernel
theorem dL_isWell_235 : decode cL_isWell 235 = .ok (.iadd, 1) := by decide +kernel
theorem dL_isWell_236 : decode cL_isWell 236 = .ok (.istore_n 2, 1) := by decide +kernel
theorem dL_isWell_237 : decode cL_isWell 237 = .ok (.iload 5, 2) := by decide +kernel
theorem dL_isWell_239 : decode cL_isWell 239 = .ok (.ifCond .eq 78, 3) := by decide +kernel
theorem dL_isWell_242 : decode cL_isWell 242 = .ok (.aload_n 0, 1) := by decide +kernel
theorem dL_isWell_243 : decode cL_isWell 243 = .ok (.iload 6, 2) := by decide +kernel
theorem dL_isWell_245 : decode cL_isWell 245 = .ok (.invokestatic 158, 3) := by decide +kernel
theorem dL_isWell_248 : decode cL_isWell 248 = .ok (.ifCond .le 7, 3) := by decide +kernel
theorem dL_isWell_251 : decode cL_isWell 251 = .ok (.iconst 1, 1) := by decide +kernel
theorem dL_isWell_252 : decode cL_isWell 252 = .ok (.goto 4, 3) := by decide +kernel
theorem dL_isWell_255 : decode cL_isWell 255 = .ok (.iconst 0, 1) := by decide +kernel
theorem dL_isWell_256 : decode cL_isWell 256 = .ok (.aload_n 0, 1) := by decide +kernel
theorem dL_isWell_257 : decode cL_isWell 257 = .ok (.iload 6, 2) := by decide +kernel
theorem dL_isWell_259 : decode cL_isWell 259 = .ok (.invokestatic 155, 3) := by decide +kernel
theorem dL_isWell_262 : decode cL_isWell 262 = .ok (.sipush 255, 3) := by decide +kernel
theorem dL_isWell_265 : decode cL_isWell 265 = .ok (.if_icmp .eq 7, 3) := by decide +kernel
theorem dL_isWell_268 : decode cL_isWell 268 = .ok (.iconst 1, 1) := by decide +kernel
theorem dL_isWell_269 : decode cL_isWell 269 = .ok (.goto 4, 3) := by decide +kernel
theorem dL_isWell_272 : decode cL_isWell 272 = .ok (.iconst 0, 1) := by decide +kernel
theorem dL_isWell_273 : decode cL_isWell 273 = .ok (.if_icmp .ne 44, 3) := by decide +kernel
theorem dL_isWell_276 : decode cL_isWell 276 = .ok (.aload_n 0, 1) := by decide +kernel
theorem dL_isWell_277 : decode cL_isWell 277 = .ok (.iload 6, 2) := by decide +kernel
theorem dL_isWell_279 : decode cL_isWell 279 = .ok (.invokestatic 155, 3) := by decide +kernel
theorem dL_isWell_282 : decode cL_isWell 282 = .ok (.bipush 15, 2) := by decide +kernel
theorem dL_isWell_284 : decode cL_isWell 284 = .ok (.iand, 1) := by decide +kernel
theorem dL_isWell_285 : decode cL_isWell 285 = .ok (.aload_n 0, 1) := by decide +kernel
theorem dL_isWell_286 : decode cL_isWell 286 = .ok (.iload 6, 2) := by decide +kernel
theorem dL_isWell_288 : decode cL_isWell 288 = .ok (.invokestatic 155, 3) := by decide +kernel
theorem dL_isWell_291 : decode cL_isWell 291 = .ok (.bipush 16, 2) := by decide +kernel
theorem dL_isWell_293 : decode cL_isWell 293 = .ok (.idiv, 1) := by decide +kernel
theorem dL_isWell_294 : decode cL_isWell 294 = .ok (.iand, 1) := by decide +kernel
theorem dL_isWell_295 : decode cL_isWell 295 = .ok (.aload_n 0, 1) := by decide +kernel
theorem dL_isWell_296 : decode cL_isWell 296 = .ok (.iload 6, 2) := by decide +kernel
theorem dL_isWell_298 : decode cL_isWell 298 = .ok (.invokestatic 158, 3) := by decide +kernel
theorem dL_isWell_301 : decode cL_isWell 301 = .ok (.ifCond .ne 8, 3) := by decide +kernel
theorem dL_isWell_304 : decode cL_isWell 304 = .ok (.bipush 15, 2) := by decide +kernel
theorem dL_isWell_306 : decode cL_isWell 306 = .ok (.goto 4, 3) := by decide +kernel
theorem dL_isWell_309 : decode cL_isWell 309 = .ok (.iconst 0, 1) := by decide +kernel
theorem dL_isWell_310 : decode cL_isWell 310 = .ok (.if_icmp .ne 7, 3) := by decide +kernel
theorem dL_isWell_313 : decode cL_isWell 313 = .ok (.iconst 1, 1) := by decide +kernel
theorem dL_isWell_314 : decode cL_isWell 314 = .ok (.goto 4, 3) := by decide +kernel
theorem dL_isWell_317 : decode cL_isWell 317 = .ok (.iconst 0, 1) := by decide +kernel
theorem dL_isWell_318 : decode cL_isWell 318 = .ok (.istore 5, 2) := by decide +kernel
theorem dL_isWell_320 : decode cL_isWell 320 = .ok (.iinc 6 1, 3) := by decide +kernel
theorem dL_isWell_323 : decode cL_isWell 323 = .ok (.goto (-122), 3) := by decide +kernel
theorem dL_isWell_326 : decode cL_isWell 326 = .ok (.iload_n 1, 1) := by decide +kernel
theorem dL_isWell_327 : decode cL_isWell 327 = .ok (.iconst 2, 1) := by decide +kernel
theorem dL_isWell_328 : decode cL_isWell 328 = .ok (.irem, 1) := by decide +kernel
theorem dL_isWell_329 : decode cL_isWell 329 = .ok (.istore 6, 2) := by decide +kernel
theorem dL_isWell_331 : decode cL_isWell 331 = .ok (.iload 5, 2) := by decide +kernel
theorem dL_isWell_333 : decode cL_isWell 333 = .ok (.ifCond .eq 131, 3) := by decide +kernel
theorem dL_isWell_336 : decode cL_isWell 336 = .ok (.iload_n 1, 1) := by decide +kernel
theorem dL_isWell_337 : decode cL_isWell 337 = .ok (.aload_n 0, 1) := by decide +kernel
theorem dL_isWell_338 : decode cL_isWell 338 = .ok (.invokevirtual 86, 3) := by decide +kernel
theorem dL_isWell_341 : decode cL_isWell 341 = .ok (.if_icmp .ne 123, 3) := by decide +kernel
theorem dL_isWell_344 : decode cL_isWell 344 = .ok (.iload_n 2, 1) := by decide +kernel
theorem dL_isWell_345 : decode cL_isWell 345 = .ok (.aload_n 0, 1) := by decide +kernel
theorem dL_isWell_346 : decode cL_isWell 346 = .ok (.invokevirtual 138, 3) := by decide +kernel
theorem dL_isWell_349 : decode cL_isWell 349 = .ok (.if_icmp .ne 115, 3) := by decide +kernel
theorem dL_isWell_352 : decode cL_isWell 352 = .ok (.iload_n 2, 1) := by decide +kernel
theorem dL_isWell_353 : decode cL_isWell 353 = .ok (.ifCond .le 7, 3) := by decide +kernel
theorem dL_isWell_356 : decode cL_isWell 356 = .ok (.iconst 1, 1) := by decide +kernel
theorem dL_isWell_357 : decode cL_isWell 357 = .ok (.goto 4, 3) := by decide +kernel
theorem dL_isWell_360 : decode cL_isWell 360 = .ok (.iconst 0, 1) := by decide +kernel
theorem dL_isWell_361 : decode cL_isWell 361 = .ok (.aload_n 0, 1) := by decide +kernel
theorem dL_isWell_362 : decode cL_isWell 362 = .ok (.invokevirtual 132, 3) := by decide +kernel
theorem dL_isWell_365 : decode cL_isWell 365 = .ok (.ifCond .lt 7, 3) := by decide +kernel
theorem dL_isWell_368 : decode cL_isWell 368 = .ok (.iconst 1, 1) := by decide +kernel
theorem dL_isWell_369 : decode cL_isWell 369 = .ok (.goto 4, 3) := by decide +kernel
theorem dL_isWell_372 : decode cL_isWell 372 = .ok (.iconst 0, 1) := by decide +kernel
theorem dL_isWell_373 : decode cL_isWell 373 = .ok (.if_icmp .ne 91, 3) := by decide +kernel
theorem dL_isWell_376 : decode cL_isWell 376 = .ok (.iload 4, 2) := by decide +kernel
theorem dL_isWell_378 : decode cL_isWell 378 = .ok (.iload_n 2, 1) := by decide +kernel
theorem dL_isWell_379 : decode cL_isWell 379 = .ok (.ifCond .gt 9, 3) := by decide +kernel
theorem dL_isWell_382 : decode cL_isWell 382 = .ok (.iload_n 1, 1) := by decide +kernel
theorem dL_isWell_383 : decode cL_isWell 383 = .ok (.bipush 16, 2) := by decide +kernel
theorem dL_isWell_385 : decode cL_isWell 385 = .ok (.if_icmp .ne 7, 3) := by decide +kernel
theorem dL_isWell_388 : decode cL_isWell 388 = .ok (.iconst 1, 1) := by decide +kernel
theorem dL_isWell_389 : decode cL_isWell 389 = .ok (.goto 4, 3) := by decide +kernel
theorem dL_isWell_392 : decode cL_isWell 392 = .ok (.iconst 0, 1) := by decide +kernel
theorem dL_isWell_393 : decode cL_isWell 393 = .ok (.if_icmp .ne 71, 3) := by decide +kernel
theorem dL_isWell_396 : decode cL_isWell 396 = .ok (.aload_n 0, 1) := by decide +kernel
theorem dL_isWell_397 : decode cL_isWell 397 = .ok (.invokevirtual 92, 3) := by decide +kernel
theorem dL_isWell_400 : decode cL_isWell 400 = .ok (.iload 4, 2) := by decide +kernel
theorem dL_isWell_402 : decode cL_isWell 402 = .ok (.ifCond .eq 7, 3) := by decide +kernel
theorem dL_isWell_405 : decode cL_isWell 405 = .ok (.iconst (-1), 1) := by decide +kernel
theorem dL_isWell_406 : decode cL_isWell 406 = .ok (.goto 19, 3) := by decide +kernel
theorem dL_isWell_409 : decode cL_isWell 409 = .ok (.aload_n 0, 1) := by decide +kernel
theorem dL_isWell_410 : decode cL_isWell 410 = .ok (.invokevirtual 89, 3) := by decide +kernel
theorem dL_isWell_413 : decode cL_isWell 413 = .ok (.ifCond .ge 8, 3) := by decide +kernel
theorem dL_isWell_416 : decode cL_isWell 416 = .ok (.iload 6, 2) := by decide +kernel
theorem dL_isWell_418 : decode cL_isWell 418 = .ok (.goto 7, 3) := by decide +kernel
theorem dL_isWell_421 : decode cL_isWell 421 = .ok (.iconst 1, 1) := by decide +kernel
theorem dL_isWell_422 : decode cL_isWell 422 = .ok (.iload 6, 2) := by decide +kernel
theorem dL_isWell_424 : decode cL_isWell 424 = .ok (.isub, 1) := by decide +kernel
theorem dL_isWell_425 : decode cL_isWell 425 = .ok (.if_icmp .ne 39, 3) := by decide +kernel
theorem dL_isWell_428 : decode cL_isWell 428 = .ok (.aload_n 0, 1) := by decide +kernel
theorem dL_isWell_429 : decode cL_isWell 429 = .ok (.invokevirtual 89, 3) := by decide +kernel
theorem dL_isWell_432 : decode cL_isWell 432 = .ok (.ifCond .lt 14, 3) := by decide +kernel
theorem dL_isWell_435 : decode cL_isWell 435 = .ok (.aload_n 0, 1) := by decide +kernel
theorem dL_isWell_436 : decode cL_isWell 436 = .ok (.aload_n 0, 1) := by decide +kernel
theorem dL_isWell_437 : decode cL_isWell 437 = .ok (.invokevirtual 89, 3) := by decide +kernel
theorem dL_isWell_440 : decode cL_isWell 440 = .ok (.invokestatic 115, 3) := by decide +kernel
theorem dL_isWell_443 : decode cL_isWell 443 = .ok (.ifCond .ge 21, 3) := by decide +kernel
theorem dL_isWell_446 : decode cL_isWell 446 = .ok (.iload_n 2, 1) := by decide +kernel
theorem dL_isWell_447 : decode cL_isWell 447 = .ok (.ifCond .eq 13, 3) := by decide +kernel
theorem dL_isWell_450 : decode cL_isWell 450 = .ok (.aload_n 0, 1) := by decide +kernel
theorem dL_isWell_451 : decode cL_isWell 451 = .ok (.invokevirtual 132, 3) := by decide +kernel
theorem dL_isWell_454 : decode cL_isWell 454 = .ok (.iload_n 1, 1) := by decide +kernel
theorem dL_isWell_455 : decode cL_isWell 455 = .ok (.iconst 2, 1) := by decide +kernel
theorem dL_isWell_456 : decode cL_isWell 456 = .ok (.irem, 1) := by decide +kernel
theorem dL_isWell_457 : decode cL_isWell 457 = .ok (.if_icmp .ne 7, 3) := by decide +kernel
theorem dL_isWell_460 : decode cL_isWell 460 = .ok (.iconst 1, 1) := by decide +kernel
theorem dL_isWell_461 : decode cL_isWell 461 = .ok (.goto 4, 3) := by decide +kernel
theorem dL_isWell_464 : decode cL_isWell 464 = .ok (.iconst 0, 1) := by decide +kernel
theorem dL_isWell_465 : decode cL_isWell 465 = .ok (.ireturn, 1) := by decide +kernel
set_option maxRecDepth 20000 in
theorem ggL_law_X5_init : GoodIn wsL_law wsX5_init := goodIn_r _ [5, 6, 7, 8, 9, 10, 11, 12, 13, 14, 15, 16, 17, 18, 19, 20, 21, 22, 23, 24, 25, 26, 27, 28, 29, 30, 31, 32, 33, 34, 35, 36, 37, 38, 39, 40, 41, 42, 43, 44, 45, 46, 47, 48, 49, 50, 51, 52, 53, 54, 55, 56, 57, 58, 59, 535, 536, 537, 538, 529, 530, 531, 532, 533, 534, 539, 540, 541, 542, 543, 544, 545, 546, 547] (by decide +kernel) (by decide +kernel)
set_option maxRecDepth 20000 in
theorem gL_law_X5_init : GoodIn wsL_law (wsX5_init) := ggL_law_X5_init
set_option maxRecDepth 20000 in
theorem ggL_law_L_cell : GoodIn wsL_law wsL_cell := goodIn_r _ [63, 64] (by decide +kernel) (by decide +kernel)
set_option maxRecDepth 20000 in
theorem gL_law_L_cell : GoodIn wsL_law (va_wsS RL 164 yL_cell wsL_cell) := goodIn_app (goodIn_of _ (by decide +kernel)) ggL_law_L_cell
set_option maxRecDepth 20000 in
theorem gg_wsL_isStep_wsL_isStep_r1 : GoodIn wsL_law wsL_isStep_r1 := goodIn_r _ [68, 69, 70, 71, 62, 72, 73, 74, 75, 76, 2, 77, 12, 78, 79, 80, 11, 81, 31, 82, 83, 84, 30, 85] (by decide +kernel) (by decide +kernel)
set_option maxRecDepth 20000 in
theorem gg_wsL_isStep_wsL_isStep_r2 : GoodIn wsL_law wsL_isStep_r2 := goodIn_r _ [41, 86, 87, 88, 89, 90, 91, 92, 93, 94, 95, 96, 97, 98, 99, 100, 32, 101, 102, 103, 104, 105, 106, 107] (by decide +kernel) (by decide +kernel)
set_option maxRecDepth 20000 in
theorem gg_wsL_isStep_wsL_isStep_r3 : GoodIn wsL_law wsL_isStep_r3 := goodIn_r _ [108, 109, 110, 111, 112, 33, 113, 114, 115, 116, 117, 118, 119, 120, 121, 122, 123, 124, 125, 126, 127, 128, 129, 130] (by decide +kernel) (by decide +kernel)
set_option maxRecDepth 20000 in
theorem gg_wsL_isStep_wsL_isStep_r4 : GoodIn wsL_law wsL_isStep_r4 := goodIn_r _ [131, 132, 133, 19, 134, 135, 136, 18, 137, 50, 51, 138, 139, 140, 141, 142, 143, 144, 145, 49, 146, 147, 148, 149] (by decide +kernel) (by decide +kernel)
set_option maxRecDepth 20000 in
theorem gg_wsL_isStep_wsL_isStep_r5 : GoodIn wsL_law wsL_isStep_r5 := goodIn_r _ [35, 150, 151, 152, 153, 40, 42, 43, 154, 155, 156, 157, 158, 159, 160, 161, 162, 163, 164, 165, 166, 167, 168, 169] (by decide +kernel) (by decide +kernel)
set_option maxRecDepth 20000 in
theorem gg_wsL_isStep_wsL_isStep_r6 : GoodIn wsL_law wsL_isStep_r6 := goodIn_r _ [170, 171, 172, 173, 14, 15, 174, 175, 176, 177, 178, 179, 180, 181, 182, 183, 184, 185, 186, 187, 188, 189, 190, 191] (by decide +kernel) (by decide +kernel)
set_option maxRecDepth 20000 in
theorem gg_wsL_isStep_wsL_isStep_r7 : GoodIn wsL_law wsL_isStep_r7 := goodIn_r _ [192, 193, 194, 195, 196, 197, 198, 199, 200, 201, 202, 203, 204, 205, 206, 207, 208, 209, 210, 211, 212, 213, 214, 215] (by decide +kernel) (by decide +kernel)
set_option maxRecDepth 20000 in
theorem gg_wsL_isStep_wsL_isStep_r8 : GoodIn wsL_law wsL_isStep_r8 := goodIn_r _ [216, 217, 218, 219, 220, 221, 222, 223, 224, 225, 226, 227, 228, 229, 230, 231, 232, 233, 234, 235, 236, 237, 238, 239] (by decide +kernel) (by decide +kernel)
set_option maxRecDepth 20000 in
theorem gg_wsL_isStep_wsL_isStep_r9 : GoodIn wsL_law wsL_isStep_r9 := goodIn_r _ [240, 241, 242, 243, 244, 245, 246, 247, 248, 249, 250, 251, 252, 253, 254, 255, 256, 257, 258, 259, 260, 261, 262, 263] (by decide +kernel) (by decide +kernel)
set_option maxRecDepth 20000 in
theorem gg_wsL_isStep_wsL_isStep_r10 : GoodIn wsL_law wsL_isStep_r10 := goodIn_r _ [264, 265, 266, 267, 268, 269, 270, 271, 272, 273, 274, 275, 276, 277, 278, 279, 280, 281, 23, 282, 283, 284, 22, 285] (by decide +kernel) (by decide +kernel)
set_option maxRecDepth 20000 in
theorem gg_wsL_isStep_wsL_isStep_r11 : GoodIn wsL_law wsL_isStep_r11 := goodIn_r _ [59, 286, 287, 288, 289, 290, 291, 292, 293, 294, 295, 296, 297, 298, 299, 300, 301, 302, 303, 304, 58, 305, 306, 307] (by decide +kernel) (by decide +kernel)
set_option maxRecDepth 20000 in
theorem gg_wsL_isStep_wsL_isStep_r12 : GoodIn wsL_law wsL_isStep_r12 := goodIn_r _ [308, 309, 310, 311, 13, 312, 313, 314, 315, 316, 317, 318, 319, 320, 321, 322, 323, 324, 325, 326, 327, 328, 329, 330] (by decide +kernel) (by decide +kernel)
set_option maxRecDepth 20000 in
theorem gg_wsL_isStep_wsL_isStep_r13 : GoodIn wsL_law wsL_isStep_r13 := goodIn_r _ [331, 332, 333, 334, 335, 336, 337, 338, 339, 340, 341, 342, 343, 344, 345, 346, 347, 348, 349, 350, 351, 352, 353, 354] (by decide +kernel) (by decide +kernel)
set_option maxRecDepth 20000 in
theorem gg_wsL_isStep_wsL_isStep_r14 : GoodIn wsL_law wsL_isStep_r14 := goodIn_r _ [355, 356, 357, 358, 359, 360, 361, 362, 363, 364, 365, 366, 367, 368, 369, 370, 371, 372, 373, 374, 375, 376, 377, 378] (by decide +kernel) (by decide +kernel)
set_option maxRecDepth 20000 in
theorem gg_wsL_isStep_wsL_isStep_r15 : GoodIn wsL_law wsL_isStep_r15 := goodIn_r _ [379, 380, 381, 382, 383, 384, 385, 386, 387, 388, 389, 390, 391, 392, 393, 394, 395, 396, 397, 398, 399, 400, 401, 402] (by decide +kernel) (by decide +kernel)
set_option maxRecDepth 20000 in
theorem gg_wsL_isStep_wsL_isStep_r16 : GoodIn wsL_law wsL_isStep_r16 := goodIn_r _ [403, 404, 405, 406, 407, 408, 409, 410, 411, 412, 413, 414, 415, 416, 417, 418, 419, 420, 421, 422, 423, 424, 425, 426] (by decide +kernel) (by decide +kernel)
set_option maxRecDepth 20000 in
theorem gg_wsL_isStep_wsL_isStep_r17 : GoodIn wsL_law wsL_isStep_r17 := goodIn_r _ [427, 428] (by decide +kernel) (by decide +kernel)
set_option maxRecDepth 20000 in
theorem gg_wsL_isStep_wsX50 : GoodIn wsL_law wsX50 := goodIn_r _ [529, 530, 531, 532, 533, 534] (by decide +kernel) (by decide +kernel)
set_option maxRecDepth 20000 in
theorem gg_wsL_isStep_wsX20 : GoodIn wsL_law wsX20 := goodIn_r _ [535, 536, 537, 538] (by decide +kernel) (by decide +kernel)
set_option maxRecDepth 20000 in
theorem gg_wsL_isStep_wsX00 : GoodIn wsL_law wsX00 := goodIn_r _ [544, 545, 546, 547] (by decide +kernel) (by decide +kernel)
set_option maxRecDepth 20000 in
theorem gg_wsL_isStep_wsX30 : GoodIn wsL_law wsX30 := goodIn_r _ [539, 540, 541] (by decide +kernel) (by decide +kernel)
set_option maxRecDepth 20000 in
theorem gg_wsL_isStep_wsX40 : GoodIn wsL_law wsX40 := goodIn_r _ [542, 543] (by decide +kernel) (by decide +kernel)
set_option maxRecDepth 20000 in
theorem ggL_law_L_isStep : GoodIn wsL_law wsL_isStep := goodIn_cons (goodIn_r _ [67] (by decide +kernel) (by decide +kernel)) (goodIn_app (goodIn_app (goodIn_app (goodIn_app (goodIn_app (goodIn_app (goodIn_app (goodIn_app (goodIn_app gg_wsL_isStep_wsL_isStep_r1 (goodIn_app gg_wsL_isStep_wsL_isStep_r2 (goodIn_app gg_wsL_isStep_wsL_isStep_r3 (goodIn_app gg_wsL_isStep_wsL_isStep_r4 (goodIn_app gg_wsL_isStep_wsL_isStep_r5 (goodIn_app gg_wsL_isStep_wsL_isStep_r6 (goodIn_app gg_wsL_isStep_wsL_isStep_r7 (goodIn_app gg_wsL_isStep_wsL_isStep_r8 (goodIn_app gg_wsL_isStep_wsL_isStep_r9 (goodIn_app gg_wsL_isStep_wsL_isStep_r10 (goodIn_app gg_wsL_isStep_wsL_isStep_r11 (goodIn_app gg_wsL_isStep_wsL_isStep_r12 (goodIn_app gg_wsL_isStep_wsL_isStep_r13 (goodIn_app gg_wsL_isStep_wsL_isStep_r14 (goodIn_app gg_wsL_isStep_wsL_isStep_r15 (goodIn_app gg_wsL_isStep_wsL_isStep_r16 gg_wsL_isStep_wsL_isStep_r17)))))))))))))))) gg_wsL_isStep_wsX50) gg_wsL_isStep_wsX20) gg_wsL_isStep_wsX00) gg_wsL_isStep_wsX30) gg_wsL_isStep_wsX40) (goodIn_sub (fun _ h => List.mem_append_left _ (List.mem_append_left _ (List.mem_append_right _ h))) (by decide +kernel))) (goodIn_sub (fun _ h => List.mem_append_left _ (List.mem_append_right _ h)) (by decide +kernel))) (goodIn_sub (fun _ h => List.mem_append_right _ h) (by decide +kernel)))
set_option maxRecDepth 20000 in
theorem gL_law_L_isStep : GoodIn wsL_law (va_wsS RL 168 yL_isStep wsL_isStep) := goodIn_app (goodIn_of _ (by decide +kernel)) ggL_law_L_isStep
set_option maxRecDepth 20000 in
theorem gg_wsL_isWell_wsL_isWell_r1 : GoodIn wsL_law wsL_isWell_r1 := goodIn_r _ [432, 433, 434, 2, 435, 12, 13, 123, 110, 111, 11, 112, 33, 31, 113, 114, 115, 30, 116, 117, 83, 84, 85, 41] (by decide +kernel) (by decide +kernel)
set_option maxRecDepth 20000 in
theorem gg_wsL_isWell_wsL_isWell_r2 : GoodIn wsL_law wsL_isWell_r2 := goodIn_r _ [86, 87, 88, 89, 90, 91, 92, 174, 147, 148, 149, 32, 35, 150, 151, 152, 153, 40, 42, 43, 224, 225, 226, 227] (by decide +kernel) (by decide +kernel)
set_option maxRecDepth 20000 in
theorem gg_wsL_isWell_wsL_isWell_r3 : GoodIn wsL_law wsL_isWell_r3 := goodIn_r _ [228, 229, 230, 231, 78, 79, 80, 81, 384, 385, 386, 387, 256, 257, 258, 259, 388, 389, 390, 391, 392, 360, 361, 362] (by decide +kernel) (by decide +kernel)
set_option maxRecDepth 20000 in
theorem gg_wsL_isWell_wsL_isWell_r4 : GoodIn wsL_law wsL_isWell_r4 := goodIn_r _ [393, 364, 365, 366, 208, 209, 210, 211, 367, 368, 369, 370, 219, 394, 395, 396, 397, 119, 120, 121, 122, 200, 201, 202] (by decide +kernel) (by decide +kernel)
set_option maxRecDepth 20000 in
theorem gg_wsL_isWell_wsL_isWell_r5 : GoodIn wsL_law wsL_isWell_r5 := goodIn_r _ [203, 204, 205, 206, 207, 212, 213, 214, 215, 216, 217, 218, 220, 221, 222, 223, 232, 233, 234, 436, 437, 438, 439, 440] (by decide +kernel) (by decide +kernel)
set_option maxRecDepth 20000 in
theorem gg_wsL_isWell_wsL_isWell_r6 : GoodIn wsL_law wsL_isWell_r6 := goodIn_r _ [162, 163, 164, 165, 166, 167, 168, 169, 398, 399, 62, 400, 238, 69, 401, 402, 403, 404, 405, 406, 407, 246, 247, 408] (by decide +kernel) (by decide +kernel)
set_option maxRecDepth 20000 in
theorem gg_wsL_isWell_wsL_isWell_r7 : GoodIn wsL_law wsL_isWell_r7 := goodIn_r _ [253, 254, 255, 235, 236, 237, 239, 240, 241, 242, 243, 244, 245, 248, 249, 250, 251, 252, 376, 377, 378, 379, 380, 381] (by decide +kernel) (by decide +kernel)
set_option maxRecDepth 20000 in
theorem gg_wsL_isWell_wsL_isWell_r8 : GoodIn wsL_law wsL_isWell_r8 := goodIn_r _ [382, 383, 93, 94, 95, 96, 97, 98, 99, 100, 441, 442, 443, 444, 445, 446, 447, 448, 449, 450, 451, 452, 453, 454] (by decide +kernel) (by decide +kernel)
set_option maxRecDepth 20000 in
theorem gg_wsL_isWell_wsL_isWell_r9 : GoodIn wsL_law wsL_isWell_r9 := goodIn_r _ [455, 456, 457, 458, 459, 460, 74, 75, 76, 77, 82, 461, 462, 463, 464, 465, 466, 467, 468, 421, 422, 423, 424, 425] (by decide +kernel) (by decide +kernel)
set_option maxRecDepth 20000 in
theorem gg_wsL_isWell_wsL_isWell_r10 : GoodIn wsL_law wsL_isWell_r10 := goodIn_r _ [426, 427, 428, 101, 102, 103, 104, 105, 106, 107, 108, 109, 118] (by decide +kernel) (by decide +kernel)
set_option maxRecDepth 20000 in
theorem gg_wsL_isWell_wsX50 : GoodIn wsL_law wsX50 := goodIn_r _ [529, 530, 531, 532, 533, 534] (by decide +kernel) (by decide +kernel)
set_option maxRecDepth 20000 in
theorem gg_wsL_isWell_wsX20 : GoodIn wsL_law wsX20 := goodIn_r _ [535, 536, 537, 538] (by decide +kernel) (by decide +kernel)
set_option maxRecDepth 20000 in
theorem gg_wsL_isWell_wsX00 : GoodIn wsL_law wsX00 := goodIn_r _ [544, 545, 546, 547] (by decide +kernel) (by decide +kernel)
set_option maxRecDepth 20000 in
theorem ggL_law_L_isWell : GoodIn wsL_law wsL_isWell := goodIn_cons (goodIn_r _ [431] (by decide +kernel) (by decide +kernel)) (goodIn_app (goodIn_app (goodIn_app (goodIn_app (goodIn_app gg_wsL_isWell_wsL_isWell_r1 (goodIn_app gg_wsL_isWell_wsL_isWell_r2 (goodIn_app gg_wsL_isWell_wsL_isWell_r3 (goodIn_app gg_wsL_isWell_wsL_isWell_r4 (goodIn_app gg_wsL_isWell_wsL_isWell_r5 (goodIn_app gg_wsL_isWell_wsL_isWell_r6 (goodIn_app gg_wsL_isWell_wsL_isWell_r7 (goodIn_app gg_wsL_isWell_wsL_isWell_r8 (goodIn_app gg_wsL_isWell_wsL_isWell_r9 gg_wsL_isWell_wsL_isWell_r10))))))))) gg_wsL_isWell_wsX50) gg_wsL_isWell_wsX20) gg_wsL_isWell_wsX00) (goodIn_sub (fun _ h => List.mem_append_right _ h) (by decide +kernel)))
set_option maxRecDepth 20000 in
theorem gL_law_L_isWell : GoodIn wsL_law (va_wsS RL 172 yL_isWell wsL_isWell) := goodIn_app (goodIn_of _ (by decide +kernel)) ggL_law_L_isWell
set_option maxRecDepth 20000 in
theorem gg_wsL_areAlike_wsL_areAlike_r1 : GoodIn wsL_law wsL_areAlike_r1 := goodIn_r _ [162, 163, 164, 2, 165, 12, 78, 79, 80, 11, 81, 31, 166, 167, 168, 30, 169, 40, 74, 75, 76, 77, 82, 83] (by decide +kernel) (by decide +kernel)
set_option maxRecDepth 20000 in
theorem gg_wsL_areAlike_wsL_areAlike_r2 : GoodIn wsL_law wsL_areAlike_r2 := goodIn_r _ [84, 85, 41, 86, 87, 88, 89, 90, 91, 92, 93, 94, 95, 96, 97, 98, 99, 100, 32, 101, 102, 103, 104, 105] (by decide +kernel) (by decide +kernel)
set_option maxRecDepth 20000 in
theorem gg_wsL_areAlike_wsL_areAlike_r3 : GoodIn wsL_law wsL_areAlike_r3 := goodIn_r _ [106, 107, 108, 109, 110, 111, 112, 33, 113, 114, 115, 116, 117, 118, 421, 422, 423, 424, 425, 426, 427, 428, 119, 120] (by decide +kernel) (by decide +kernel)
set_option maxRecDepth 20000 in
theorem gg_wsL_areAlike_wsL_areAlike_r4 : GoodIn wsL_law wsL_areAlike_r4 := goodIn_r _ [121, 122, 123, 436, 437, 438, 439, 440, 209, 210, 211, 461, 462, 463, 464, 465, 466, 467, 468, 208, 367, 368, 369, 370] (by decide +kernel) (by decide +kernel)
set_option maxRecDepth 20000 in
theorem gg_wsL_areAlike_wsL_areAlike_r5 : GoodIn wsL_law wsL_areAlike_r5 := goodIn_r _ [219, 43, 472, 473, 62, 474, 238, 69, 475, 476, 477, 478, 246, 247, 479, 480, 481, 482, 35, 483, 484, 485, 486, 19] (by decide +kernel) (by decide +kernel)
set_option maxRecDepth 20000 in
theorem gg_wsL_areAlike_wsL_areAlike_r6 : GoodIn wsL_law wsL_areAlike_r6 := goodIn_r _ [192, 193, 194, 18, 195, 51, 432, 433, 434, 435, 13, 174, 147, 148, 149, 150, 151, 152, 153, 42, 224, 225, 226, 227] (by decide +kernel) (by decide +kernel)
set_option maxRecDepth 20000 in
theorem gg_wsL_areAlike_wsL_areAlike_r7 : GoodIn wsL_law wsL_areAlike_r7 := goodIn_r _ [228, 229, 230, 231, 384, 385, 386, 387, 256, 257, 258, 259, 388, 389, 390, 391, 392, 360, 361, 362, 393, 364, 365, 366] (by decide +kernel) (by decide +kernel)
set_option maxRecDepth 20000 in
theorem gg_wsL_areAlike_wsL_areAlike_r8 : GoodIn wsL_law wsL_areAlike_r8 := goodIn_r _ [394, 395, 396, 397, 487, 488, 489, 200, 201, 202, 203, 204, 205, 206, 207, 212, 213, 214, 215, 216, 217, 218, 220, 221] (by decide +kernel) (by decide +kernel)
set_option maxRecDepth 20000 in
theorem gg_wsL_areAlike_wsL_areAlike_r9 : GoodIn wsL_law wsL_areAlike_r9 := goodIn_r _ [222, 223, 232, 233, 234, 490, 491, 492, 178, 493, 494, 495, 496, 497, 498, 499, 500, 183, 184, 501, 502, 503, 504, 505] (by decide +kernel) (by decide +kernel)
set_option maxRecDepth 20000 in
theorem gg_wsL_areAlike_wsL_areAlike_r10 : GoodIn wsL_law wsL_areAlike_r10 := goodIn_r _ [506, 507, 508, 509, 510, 511, 512, 513, 140, 514, 515, 516, 517, 518, 519, 520, 521, 522, 523, 524, 525, 398, 399, 400] (by decide +kernel) (by decide +kernel)
set_option maxRecDepth 20000 in
theorem gg_wsL_areAlike_wsL_areAlike_r11 : GoodIn wsL_law wsL_areAlike_r11 := goodIn_r _ [401, 402, 403, 404, 405, 406, 407, 408, 253, 254, 255, 235, 236, 237, 239, 240, 241, 242, 243, 244, 245, 248, 249, 250] (by decide +kernel) (by decide +kernel)
set_option maxRecDepth 20000 in
theorem gg_wsL_areAlike_wsL_areAlike_r12 : GoodIn wsL_law wsL_areAlike_r12 := goodIn_r _ [251, 252, 418, 419, 420, 376, 377, 378, 379, 380, 381, 382, 383, 453, 454, 455, 456, 457, 458, 459, 448, 449, 450, 451] (by decide +kernel) (by decide +kernel)
set_option maxRecDepth 20000 in
theorem gg_wsL_areAlike_wsL_areAlike_r13 : GoodIn wsL_law wsL_areAlike_r13 := goodIn_r _ [460, 441, 442, 443, 444, 445, 446, 447, 452, 526, 527, 528] (by decide +kernel) (by decide +kernel)
set_option maxRecDepth 20000 in
theorem gg_wsL_areAlike_wsX50 : GoodIn wsL_law wsX50 := goodIn_r _ [529, 530, 531, 532, 533, 534] (by decide +kernel) (by decide +kernel)
set_option maxRecDepth 20000 in
theorem gg_wsL_areAlike_wsX20 : GoodIn wsL_law wsX20 := goodIn_r _ [535, 536, 537, 538] (by decide +kernel) (by decide +kernel)
set_option maxRecDepth 20000 in
theorem gg_wsL_areAlike_wsX00 : GoodIn wsL_law wsX00 := goodIn_r _ [544, 545, 546, 547] (by decide +kernel) (by decide +kernel)
set_option maxRecDepth 20000 in
theorem gg_wsL_areAlike_wsX30 : GoodIn wsL_law wsX30 := goodIn_r _ [539, 540, 541] (by decide +kernel) (by decide +kernel)
set_option maxRecDepth 20000 in
theorem ggL_law_L_areAlike : GoodIn wsL_law wsL_areAlike := goodIn_cons (goodIn_r _ [471] (by decide +kernel) (by decide +kernel)) (goodIn_app (goodIn_app (goodIn_app (goodIn_app (goodIn_app (goodIn_app (goodIn_app gg_wsL_areAlike_wsL_areAlike_r1 (goodIn_app gg_wsL_areAlike_wsL_areAlike_r2 (goodIn_app gg_wsL_areAlike_wsL_areAlike_r3 (goodIn_app gg_wsL_areAlike_wsL_areAlike_r4 (goodIn_app gg_wsL_areAlike_wsL_areAlike_r5 (goodIn_app gg_wsL_areAlike_wsL_areAlike_r6 (goodIn_app gg_wsL_areAlike_wsL_areAlike_r7 (goodIn_app gg_wsL_areAlike_wsL_areAlike_r8 (goodIn_app gg_wsL_areAlike_wsL_areAlike_r9 (goodIn_app gg_wsL_areAlike_wsL_areAlike_r10 (goodIn_app gg_wsL_areAlike_wsL_areAlike_r11 (goodIn_app gg_wsL_areAlike_wsL_areAlike_r12 gg_wsL_areAlike_wsL_areAlike_r13)))))))))))) gg_wsL_areAlike_wsX50) gg_wsL_areAlike_wsX20) gg_wsL_areAlike_wsX00) gg_wsL_areAlike_wsX30) (goodIn_sub (fun _ h => List.mem_append_right _ h) (by decide +kernel))) (goodIn_sub (fun _ h => List.mem_append_left _ (List.mem_append_right _ h)) (by decide +kernel)))
set_option maxRecDepth 20000 in
theorem gL_law_L_areAlike : GoodIn wsL_law (va_wsS RL 176 yL_areAlike wsL_areAlike) := goodIn_app (goodIn_of _ (by decide +kernel)) ggL_law_L_areAlike
theorem dL_law_0 : decode cL_law 0 = .ok (.new 10, 3) := by decide +kernel
theorem dL_law_3 : decode cL_law 3 = .ok (.dup, 1) := by decide +kernel
theorem dL_law_4 : decode cL_law 4 = .ok (.invokespecial 163, 3) := by decide +kernel
theorem dL_law_7 : decode cL_law 7 = .ok (.astore_n 1, 1) := by decide +kernel
theorem dL_law_8 : decode cL_law 8 = .ok (.new 10, 3) := by decide +kernel
theorem dL_law_11 : decode cL_law 11 = .ok (.dup, 1) := by decide +kernel
theorem dL_law_12 : decode cL_law 12 = .ok (.invokespecial 163, 3) := by decide +kernel
theorem dL_law_15 : decode cL_law 15 = .ok (.astore_n 2, 1) := by decide +kernel
theorem dL_law_16 : decode cL_law 16 = .ok (.iconst 1, 1) := by decide +kernel
theorem dL_law_17 : decode cL_law 17 = .ok (.istore_n 3, 1) := by decide +kernel
theorem dL_law_18 : decode cL_law 18 = .ok (.iconst 0, 1) := by decide +kernel
theorem dL_law_19 : decode cL_law 19 = .ok (.istore 4, 2) := by decide +kernel
theorem dL_law_21 : decode cL_law 21 = .ok (.iload 4, 2) := by decide +kernel
theorem dL_law_23 : decode cL_law 23 = .ok (.bipush 80, 2) := by decide +kernel
theorem dL_law_25 : decode cL_law 25 = .ok (.if_icmp .ge 57, 3) := by decide +kernel
theorem dL_law_28 : decode cL_law 28 = .ok (.iload_n 3, 1) := by decide +kernel
theorem dL_law_29 : decode cL_law 29 = .ok (.ifCond .eq 53, 3) := by decide +kernel
theorem dL_law_32 : decode cL_law 32 = .ok (.aload_n 1, 1) := by decide +kernel
theorem dL_law_33 : decode cL_law 33 = .ok (.aload_n 2, 1) := by decide +kernel
theorem dL_law_34 : decode cL_law 34 = .ok (.aload_n 0, 1) := by decide +kernel
theorem dL_law_35 : decode cL_law 35 = .ok (.iload 4, 2) := by decide +kernel
theorem dL_law_37 : decode cL_law 37 = .ok (.invokestatic 164, 3) := by decide +kernel
theorem dL_law_40 : decode cL_law 40 = .ok (.aload_n 0, 1) := by decide +kernel
theorem dL_law_41 : decode cL_law 41 = .ok (.iload 4, 2) := by decide +kernel
theorem dL_law_43 : decode cL_law 43 = .ok (.iconst 1, 1) := by decide +kernel
theorem dL_law_44 : decode cL_law 44 = .ok (.iadd, 1) := by decide +kernel
theorem dL_law_45 : decode cL_law 45 = .ok (.invokestatic 164, 3) := by decide +kernel
theorem dL_law_48 : decode cL_law 48 = .ok (.iconst 2, 1) := by decide +kernel
theorem dL_law_49 : decode cL_law 49 = .ok (.ishr, 1) := by decide +kernel
theorem dL_law_50 : decode cL_law 50 = .ok (.invokestatic 168, 3) := by decide +kernel
theorem dL_law_53 : decode cL_law 53 = .ok (.ifCond .eq 21, 3) := by decide +kernel
theorem dL_law_56 : decode cL_law 56 = .ok (.iload 4, 2) := by decide +kernel
theorem dL_law_58 : decode cL_law 58 = .ok (.iconst 4, 1) := by decide +kernel
theorem dL_law_59 : decode cL_law 59 = .ok (.irem, 1) := by decide +kernel
theorem dL_law_60 : decode cL_law 60 = .ok (.ifCond .gt 10, 3) := by decide +kernel
theorem dL_law_63 : decode cL_law 63 = .ok (.aload_n 1, 1) := by decide +kernel
theorem dL_law_64 : decode cL_law 64 = .ok (.invokestatic 172, 3) := by decide +kernel
theorem dL_law_67 : decode cL_law 67 = .ok (.ifCond .eq 7, 3) := by decide +kernel
theorem dL_law_70 : decode cL_law 70 = .ok (.iconst 1, 1) := by decide +kernel
theorem dL_law_71 : decode cL_law 71 = .ok (.goto 4, 3) := by decide +kernel
theorem dL_law_74 : decode cL_law 74 = .ok (.iconst 0, 1) := by decide +kernel
theorem dL_law_75 : decode cL_law 75 = .ok (.istore_n 3, 1) := by decide +kernel
theorem dL_law_76 : decode cL_law 76 = .ok (.iinc 4 1, 3) := by decide +kernel
theorem dL_law_79 : decode cL_law 79 = .ok (.goto (-58), 3) := by decide +kernel
theorem dL_law_82 : decode cL_law 82 = .ok (.iload_n 3, 1) := by decide +kernel
theorem dL_law_83 : decode cL_law 83 = .ok (.ifCond .eq 22, 3) := by decide +kernel
theorem dL_law_86 : decode cL_law 86 = .ok (.aload_n 1, 1) := by decide +kernel
theorem dL_law_87 : decode cL_law 87 = .ok (.invokestatic 172, 3) := by decide +kernel
theorem dL_law_90 : decode cL_law 90 = .ok (.ifCond .eq 15, 3) := by decide +kernel
theorem dL_law_93 : decode cL_law 93 = .ok (.aload_n 1, 1) := by decide +kernel
theorem dL_law_94 : decode cL_law 94 = .ok (.aload_n 2, 1) := by decide +kernel
theorem dL_law_95 : decode cL_law 95 = .ok (.invokestatic 176, 3) := by decide +kernel
theorem dL_law_98 : decode cL_law 98 = .ok (.ifCond .eq 7, 3) := by decide +kernel
theorem dL_law_101 : decode cL_law 101 = .ok (.iconst 1, 1) := by decide +kernel
theorem dL_law_102 : decode cL_law 102 = .ok (.goto 4, 3) := by decide +kernel
theorem dL_law_105 : decode cL_law 105 = .ok (.iconst 0, 1) := by decide +kernel
theorem dL_law_106 : decode cL_law 106 = .ok (.ireturn, 1) := by decide +kernel
