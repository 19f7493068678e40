theorem dL_pieceOn_16 : decode cL_pieceOn 16 = .ok (.ireturn, 1) := by decide +kernel
set_option maxRecDepth 20000 in
theorem ggL_cellOf_X5_cellOf : GoodIn wsL_cellOf wsX5_cellOf := goodIn_ca (goodIn_r _ [6, 7, 8, 9, 5, 10, 11, 12, 13, 14, 15, 16, 17, 18, 19, 20, 21, 22, 23, 24, 25, 26, 27, 28, 29, 30, 31, 32, 33, 34, 35, 36, 37, 38, 39, 40, 41, 42, 43, 44, 45, 46, 47] (by decide +kernel) (by decide +kernel)) (goodIn_sub (fun _ h => List.mem_cons_of_mem _ (List.mem_append_right _ h)) (by decide +kernel))
set_option maxRecDepth 20000 in
theorem gL_cellOf_X5_cellOf : GoodIn wsL_cellOf (wsV RL 46 RX5 yX5_cellOf wsX5_cellOf) := goodIn_app (goodIn_of _ (by decide +kernel)) ggL_cellOf_X5_cellOf
theorem dL_cellOf_0 : decode cL_cellOf 0 = .ok (.aload_n 2, 1) := by decide +kernel
theorem dL_cellOf_1 : decode cL_cellOf 1 = .ok (.iconst 0, 1) := by decide +kernel
theorem dL_cellOf_2 : decode cL_cellOf 2 = .ok (.aload_n 0, 1) := by decide +kernel
theorem dL_cellOf_3 : decode cL_cellOf 3 = .ok (.iload_n 1, 1) := by decide +kernel
theorem dL_cellOf_4 : decode cL_cellOf 4 = .ok (.invokevirtual 46, 3) := by decide +kernel
theorem dL_cellOf_7 : decode cL_cellOf 7 = .ok (.i2l, 1) := by decide +kernel
theorem dL_cellOf_8 : decode cL_cellOf 8 = .ok (.lastore, 1) := by decide +kernel
theorem dL_cellOf_9 : decode cL_cellOf 9 = .ok (.goto 6, 3) := by decide +kernel
theorem dL_cellOf_12 : decode cL_cellOf 12 = .ok (.astore_n 3, 1) := by decide +kernel
theorem dL_cellOf_13 : decode cL_cellOf 13 = .ok (.iconst 1, 1) := by decide +kernel
theorem dL_cellOf_14 : decode cL_cellOf 14 = .ok (.ireturn, 1) := by decide +kernel
theorem dL_cellOf_15 : decode cL_cellOf 15 = .ok (.iconst 0, 1) := by decide +kernel
theorem dL_cellOf_16 : decode cL_cellOf 16 = .ok (.ireturn, 1) := by decide +kernel
set_option maxRecDepth 20000 in
theorem ggL_piecesOn_X5_piecesOn : GoodIn wsL_piecesOn wsX5_piecesOn := goodIn_ca (goodIn_r _ [6, 7, 8, 9, 10, 5, 11, 12, 13, 14, 15, 16, 17, 18, 19, 20, 21, 22, 23, 24, 25, 26, 27, 28, 29, 30, 31, 32, 33, 34, 35, 36, 37, 38, 39, 40, 41, 42, 43, 44, 45, 46, 47, 48, 49, 50, 51, 52, 53, 54, 55] (by decide +kernel) (by decide +kernel)) (goodIn_sub (fun _ h => List.mem_cons_of_mem _ (List.mem_append_right _ h)) (by decide +kernel))
set_option maxRecDepth 20000 in
theorem gL_piecesOn_X5_piecesOn : GoodIn wsL_piecesOn (wsV RL 49 RX5 yX5_piecesOn wsX5_piecesOn) := goodIn_app (goodIn_of _ (by decide +kernel)) ggL_piecesOn_X5_piecesOn
theorem dL_piecesOn_0 : decode cL_piecesOn 0 = .ok (.aload_n 2, 1) := by decide +kernel
theorem dL_piecesOn_1 : decode cL_piecesOn 1 = .ok (.iconst 0, 1) := by decide +kernel
theorem dL_piecesOn_2 : decode cL_piecesOn 2 = .ok (.aload_n 0, 1) := by decide +kernel
theorem dL_piecesOn_3 : decode cL_piecesOn 3 = .ok (.iload_n 1, 1) := by decide +kernel
theorem dL_piecesOn_4 : decode cL_piecesOn 4 = .ok (.invokevirtual 49, 3) := by decide +kernel
theorem dL_piecesOn_7 : decode cL_piecesOn 7 = .ok (.i2l, 1) := by decide +kernel
theorem dL_piecesOn_8 : decode cL_piecesOn 8 = .ok (.lastore, 1) := by decide +kernel
theorem dL_piecesOn_9 : decode cL_piecesOn 9 = .ok (.goto 6, 3) := by decide +kernel
theorem dL_piecesOn_12 : decode cL_piecesOn 12 = .ok (.astore_n 3, 1) := by decide +kernel
theorem dL_piecesOn_13 : decode cL_piecesOn 13 = .ok (.iconst 1, 1) := by decide +kernel
theorem dL_piecesOn_14 : decode cL_piecesOn 14 = .ok (.ireturn, 1) := by decide +kernel
theorem dL_piecesOn_15 : decode cL_piecesOn 15 = .ok (.iconst 0, 1) := by decide +kernel
theorem dL_piecesOn_16 : decode cL_piecesOn 16 = .ok (.ireturn, 1) := by decide +kernel
set_option maxRecDepth 20000 in
theorem ggL_sharedOn_X5_sharedOn : GoodIn wsL_sharedOn wsX5_sharedOn := goodIn_ca (goodIn_r _ [6, 7, 8, 9, 10, 5, 11, 12, 13, 14, 15, 16, 17, 18, 19, 20, 21, 22, 23, 24, 25, 26, 27, 28, 29, 30, 31, 32, 33, 34, 35, 36, 37, 38, 39, 40, 41, 42, 43, 44, 45, 46, 47, 48, 49] (by decide +kernel) (by decide +kernel)) (goodIn_sub (fun _ h => List.mem_cons_of_mem _ (List.mem_append_right _ h)) (by decide +kernel))
set_option maxRecDepth 20000 in
theorem gL_sharedOn_X5_sharedOn : GoodIn wsL_sharedOn (wsV RL 52 RX5 yX5_sharedOn wsX5_sharedOn) := goodIn_app (goodIn_of _ (by decide +kernel)) ggL_sharedOn_X5_sharedOn
theorem dL_sharedOn_0 : decode cL_sharedOn 0 = .ok (.aload_n 2, 1) := by decide +kernel
theorem dL_sharedOn_1 : decode cL_sharedOn 1 = .ok (.iconst 0, 1) := by decide +kernel
theorem dL_sharedOn_2 : decode cL_sharedOn 2 = .ok (.aload_n 0, 1) := by decide +kernel
theorem dL_sharedOn_3 : decode cL_sharedOn 3 = .ok (.iload_n 1, 1) := by decide +kernel
theorem dL_sharedOn_4 : decode cL_sharedOn 4 = .ok (.invokevirtual 52, 3) := by decide +kernel
theorem dL_sharedOn_7 : decode cL_sharedOn 7 = .ok (.i2l, 1) := by decide +kernel
theorem dL_sharedOn_8 : decode cL_sharedOn 8 = .ok (.lastore, 1) := by decide +kernel
theorem dL_sharedOn_9 : decode cL_sharedOn 9 = .ok (.goto 6, 3) := by decide +kernel
theorem dL_sharedOn_12 : decode cL_sharedOn 12 = .ok (.astore_n 3, 1) := by decide +kernel
theorem dL_sharedOn_13 : decode cL_sharedOn 13 = .ok (.iconst 1, 1) := by decide +kernel
theorem dL_sharedOn_14 : decode cL_sharedOn 14 = .ok (.ireturn, 1) := by decide +kernel
theorem dL_sharedOn_15 : decode cL_sharedOn 15 = .ok (.iconst 0, 1) := by decide +kernel
theorem dL_sharedOn_16 : decode cL_sharedOn 16 = .ok (.ireturn, 1) := by decide +kernel
set_option maxRecDepth 20000 in
theorem ggL_winsOf_X5_winsOf : GoodIn wsL_winsOf wsX5_winsOf := goodIn_ca (goodIn_r _ [6, 7, 8, 9, 10, 11, 12, 13, 14, 15, 16, 17, 18, 19, 20, 21, 22, 23, 24, 25] (by decide +kernel) (by decide +kernel)) (goodIn_sub (fun _ h => List.mem_cons_of_mem _ (List.mem_append_right _ h)) (by decide +kernel))
set_option maxRecDepth 20000 in
theorem gL_winsOf_X5_winsOf : GoodIn wsL_winsOf (wsV RL 55 RX5 yX5_winsOf wsX5_winsOf) := goodIn_app (goodIn_of _ (by decide +kernel)) ggL_winsOf_X5_winsOf
theorem dL_winsOf_0 : decode cL_winsOf 0 = .ok (.aload_n 2, 1) := by decide +kernel
theorem dL_winsOf_1 : decode cL_winsOf 1 = .ok (.iconst 0, 1) := by decide +kernel
theorem dL_winsOf_2 : decode cL_winsOf 2 = .ok (.aload_n 0, 1) := by decide +kernel
theorem dL_winsOf_3 : decode cL_winsOf 3 = .ok (.iload_n 1, 1) := by decide +kernel
theorem dL_winsOf_4 : decode cL_winsOf 4 = .ok (.invokevirtual 55, 3) := by decide +kernel
theorem dL_winsOf_7 : decode cL_winsOf 7 = .ok (.i2l, 1) := by decide +kernel
theorem dL_winsOf_8 : decode cL_winsOf 8 = .ok (.lastore, 1) := by decide +kernel
theorem dL_winsOf_9 : decode cL_winsOf 9 = .ok (.goto 6, 3) := by decide +kernel
theorem dL_winsOf_12 : decode cL_winsOf 12 = .ok (.astore_n 3, 1) := by decide +kernel
theorem dL_winsOf_13 : decode cL_winsOf 13 = .ok (.iconst 1, 1) := by decide +kernel
theorem dL_winsOf_14 : decode cL_winsOf 14 = .ok (.ireturn, 1) := by decide +kernel
theorem dL_winsOf_15 : decode cL_winsOf 15 = .ok (.iconst 0, 1) := by decide +kernel
theorem dL_winsOf_16 : decode cL_winsOf 16 = .ok (.ireturn, 1) := by decide +kernel
set_option maxRecDepth 20000 in
theorem ggL_winningCell_X5_winningCell : GoodIn wsL_winningCell wsX5_winningCell := goodIn_ca (goodIn_r _ [6, 7, 8, 9, 10, 5, 11, 12, 13, 14, 15, 16, 17, 18, 19, 20, 21, 22, 23, 24, 25, 26, 27, 28, 29, 30, 31, 32, 33, 34, 35, 36, 37, 38, 39, 40, 41, 42, 43, 44, 45, 46, 47, 48, 49, 50, 51, 52, 53, 54, 55, 56, 57, 58, 59, 60, 61, 62, 63, 64, 65, 66, 67, 68, 69, 70, 71, 72, 73, 74, 75, 76, 77, 78, 79, 80, 81, 82, 83, 84, 85, 86, 87, 88, 89, 90, 91, 92, 93, 94, 95, 96, 97, 98, 99, 100, 101, 102, 103, 104, 105] (by decide +kernel) (by decide +kernel)) (goodIn_sub (fun _ h => List.mem_cons_of_mem _ (List.mem_append_right _ h)) (by decide +kernel))
set_option maxRecDepth 20000 in
theorem gL_winningCell_X5_winningCell : GoodIn wsL_winningCell (wsV RL 58 RX5 yX5_winningCell wsX5_winningCell) := goodIn_app (goodIn_of _ (by decide +kernel)) ggL_winningCell_X5_winningCell
theorem dL_winningCell_0 : decode cL_winningCell 0 = .ok (.aload_n 2, 1) := by decide +kernel
theorem dL_winningCell_1 : decode cL_winningCell 1 = .ok (.iconst 0, 1) := by decide +kernel
theorem dL_winningCell_2 : decode cL_winningCell 2 = .ok (.aload_n 0, 1) := by decide +kernel
theorem dL_winningCell_3 : decode cL_winningCell 3 = .ok (.iload_n 1, 1) := by decide +kernel
theorem dL_winningCell_4 : decode cL_winningCell 4 = .ok (.invokevirtual 58, 3) := by decide +kernel
theorem dL_winningCell_7 : decode cL_winningCell 7 = .ok (.i2l, 1) := by decide +kernel
theorem dL_winningCell_8 : decode cL_winningCell 8 = .ok (.lastore, 1) := by decide +kernel
theorem dL_winningCell_9 : decode cL_winningCell 9 = .ok (.goto 6, 3) := by decide +kernel
theorem dL_winningCell_12 : decode cL_winningCell 12 = .ok (.astore_n 3, 1) := by decide +kernel
theorem dL_winningCell_13 : decode cL_winningCell 13 = .ok (.iconst 1, 1) := by decide +kernel
theorem dL_winningCell_14 : decode cL_winningCell 14 = .ok (.ireturn, 1) := by decide +kernel
theorem dL_winningCell_15 : decode cL_winningCell 15 = .ok (.iconst 0, 1) := by decide +kernel
theorem dL_winningCell_16 : decode cL_winningCell 16 = .ok (.ireturn, 1) := by decide +kernel
set_option maxRecDepth 20000 in
theorem ggL_outcome_X5_outcome : GoodIn wsL_outcome wsX5_outcome := goodIn_ca (goodIn_r _ [6, 7, 8, 9, 10, 11, 5, 12, 13, 14, 15, 16, 17, 18, 19, 20, 21, 22, 23, 24, 25, 26, 27, 28, 29, 30, 31, 32, 33, 34, 35, 36, 37, 38, 39, 40, 41, 42, 43, 44, 45, 46, 47, 48, 49, 50, 51, 52, 53, 54, 55, 56, 57, 58, 59, 60, 61, 62, 63, 64, 65, 66, 67, 68, 69, 70, 71, 72, 73, 74, 75, 76, 77, 78, 79, 80, 81, 82, 83, 84, 85, 86, 87, 88, 89, 90, 91, 92, 93, 94, 95, 96, 97, 98, 99, 100, 101, 102, 103, 104, 105, 106, 107, 108, 109, 110, 111, 112, 113, 114, 115, 116, 117, 118, 119, 120, 121, 122] (by decide +kernel) (by decide +kernel)) (goodIn_sub (fun _ h => List.mem_cons_of_mem _ (List.mem_append_right _ h)) (by decide +kernel))
set_option maxRecDepth 20000 in
theorem gL_outcome_X5_outcome : GoodIn wsL_outcome (wsV RL 61 RX5 yX5_outcome wsX5_outcome) := goodIn_app (goodIn_of _ (by decide +kernel)) ggL_outcome_X5_outcome
theorem dL_outcome_0 : decode cL_outcome 0 = .ok (.aload_n 1, 1) := by decide +kernel
theorem dL_outcome_1 : decode cL_outcome 1 = .ok (.iconst 0, 1) := by decide +kernel
theorem dL_outcome_2 : decode cL_outcome 2 = .ok (.aload_n 0, 1) := by decide +kernel
theorem dL_outcome_3 : decode cL_outcome 3 = .ok (.invokevirtual 61, 3) := by decide +kernel
theorem dL_outcome_6 : decode cL_outcome 6 = .ok (.i2l, 1) := by decide +kernel
theorem dL_outcome_7 : decode cL_outcome 7 = .ok (.lastore, 1) := by decide +kernel
theorem dL_outcome_8 : decode cL_outcome 8 = .ok (.goto 6, 3) := by decide +kernel
theorem dL_outcome_11 : decode cL_outcome 11 = .ok (.astore_n 2, 1) := by decide +kernel
theorem dL_outcome_12 : decode cL_outcome 12 = .ok (.iconst 1, 1) := by decide +kernel
theorem dL_outcome_13 : decode cL_outcome 13 = .ok (.ireturn, 1) := by decide +kernel
theorem dL_outcome_14 : decode cL_outcome 14 = .ok (.iconst 0, 1) := by decide +kernel
theorem dL_outcome_15 : decode cL_outcome 15 = .ok (.ireturn, 1) := by decide +kernel
set_option maxRecDepth 20000 in
theorem ggL_bestMove_X5_bestMove : GoodIn wsL_bestMove wsX5_bestMove := goodIn_ca (goodIn_r _ [6, 7, 8, 9, 10, 11, 5, 12, 13, 14, 15, 16, 17, 18, 19, 20, 21, 22, 23, 24, 25, 26, 27, 28, 29, 30, 31, 32, 33, 34, 35, 36, 37, 38, 39, 40, 41, 42, 43, 44, 45, 46, 47, 48, 49, 50, 51, 52, 53, 54, 55, 56, 57, 58, 59, 60, 61, 62, 63, 64, 65, 66, 67, 68, 69, 70, 71, 72, 73, 74, 75, 76, 77, 78, 79, 80, 81, 82, 83, 84, 85, 86, 87, 88, 89, 90, 91, 92, 93, 94, 95, 96, 97, 98, 99, 100, 101, 102, 103, 104, 105, 106, 107, 108, 109, 110, 111, 112, 113, 114, 115, 116, 117, 118, 119, 120, 121, 122, 123, 124, 125, 126, 127, 128, 129, 130, 131, 132, 133, 134, 135, 136, 137, 138, 139, 140, 141, 142] (by decide +kernel) (by decide +kernel)) (goodIn_sub (fun _ h => List.mem_cons_of_mem _ (List.mem_append_right _ h)) (by decide +kernel))
set_option maxRecDepth 20000 in
theorem gL_bestMove_X5_bestMove : GoodIn wsL_bestMove (wsV RL 64 RX5 yX5_bestMove wsX5_bestMove) := goodIn_app (goodIn_of _ (by decide +kernel)) ggL_bestMove_X5_bestMove
theorem dL_bestMove_0 : decode cL_bestMove 0 = .ok (.aload_n 1, 1) := by decide +kernel
theorem dL_bestMove_1 : decode cL_bestMove 1 = .ok (.iconst 0, 1) := by decide +kernel
theorem dL_bestMove_2 : decode cL_bestMove 2 = .ok (.aload_n 0, 1) := by decide +kernel
theorem dL_bestMove_3 : decode cL_bestMove 3 = .ok (.invokevirtual 64, 3) := by decide +kernel
theorem dL_bestMove_6 : decode cL_bestMove 6 = .ok (.i2l, 1) := by decide +kernel
theorem dL_bestMove_7 : decode cL_bestMove 7 = .ok (.lastore, 1) := by decide +kernel
theorem dL_bestMove_8 : decode cL_bestMove 8 = .ok (.goto 6, 3) := by decide +kernel
theorem dL_bestMove_11 : decode cL_bestMove 11 = .ok (.astore_n 2, 1) := by decide +kernel
theorem dL_bestMove_12 : decode cL_bestMove 12 = .ok (.iconst 1, 1) := by decide +kernel
theorem dL_bestMove_13 : decode cL_bestMove 13 = .ok (.ireturn, 1) := by decide +kernel
theorem dL_bestMove_14 : decode cL_bestMove 14 = .ok (.iconst 0, 1) := by decide +kernel
theorem dL_bestMove_15 : decode cL_bestMove 15 = .ok (.ireturn, 1) := by decide +kernel
set_option maxRecDepth 20000 in
theorem ggL_law_X5_init : GoodIn wsL_law wsX5_init := goodIn_r _ [9, 10, 11, 12, 13, 14, 15, 16, 17, 18, 19, 20, 21, 22, 23, 24, 25, 26, 27, 28, 29, 30, 31, 32, 33, 34, 35, 36, 37, 38, 39, 40, 41, 42, 43, 44, 45, 46, 47, 48, 49, 50, 51, 52, 53, 54, 55, 56, 57, 58, 59, 60, 61, 62, 63, 827, 828, 829, 830, 803, 804, 805, 806, 807, 808, 831, 832, 833, 834, 835, 836, 837, 838, 839] (by decide +kernel) (by decide +kernel)
set_option maxRecDepth 20000 in
theorem gL_law_X5_init : GoodIn wsL_law (wsX5_init) := ggL_law_X5_init
set_option maxRecDepth 20000 in
theorem ggL_law_X6_init : GoodIn wsL_law wsX6_init := goodIn_r _ [66, 67, 11, 12, 38, 68, 69, 70, 71, 72, 73, 74, 75, 809, 810, 811, 812, 813, 814, 815, 816, 817, 818, 819, 820, 821, 822, 823, 824, 825, 826] (by decide +kernel) (by decide +kernel)
set_option maxRecDepth 20000 in
theorem gL_law_X6_init : GoodIn wsL_law (wsX6_init) := ggL_law_X6_init
set_option maxRecDepth 20000 in
theorem ggL_law_L_give : GoodIn wsL_law wsL_give := goodIn_ca (goodIn_ca (goodIn_r _ [79, 80, 81, 82, 83, 84, 2, 85, 86, 87, 16, 23, 88, 89, 90, 91, 92, 93, 94, 95, 15, 96, 36, 35, 97, 98, 99, 100, 37, 101, 102, 103, 34, 104, 105, 106, 107, 108, 45, 109, 110, 111, 112, 113, 114, 115, 116, 117, 118, 119, 46, 120, 121, 122, 22, 123, 54, 55, 124, 125, 126, 127, 128, 129, 130, 131, 53, 132, 133, 134, 135, 39, 136, 137, 138, 139, 44, 47, 140, 141, 142, 143, 144, 145, 146, 147, 148, 803, 804, 805, 806, 807, 808, 827, 828, 829, 830, 836, 837, 838, 839, 831, 832, 833] (by decide +kernel) (by decide +kernel)) (goodIn_sub (fun _ h => List.mem_append_left _ (List.mem_append_left _ (List.mem_append_right _ h))) (by decide +kernel))) (goodIn_sub (fun _ h => List.mem_append_left _ (List.mem_append_right _ h)) (by decide +kernel))
set_option maxRecDepth 20000 in
theorem gL_law_L_give : GoodIn wsL_law (va_wsS RL 71 yL_give wsL_give) := goodIn_app (goodIn_of _ (by decide +kernel)) ggL_law_L_give
set_option maxRecDepth 20000 in
theorem ggL_law_X6_give : GoodIn wsL_law wsX6_give := goodIn_r _ [152, 153, 154, 5, 155, 156, 157, 158, 159, 160, 161, 162, 163, 164, 165, 166, 167, 168, 68, 169, 170, 171, 172, 173, 174, 175, 176, 177, 178, 179, 180, 181, 182, 183, 184, 185, 70, 186, 187, 188, 189, 190, 191, 192, 193, 809, 810, 811, 812, 813, 814, 815, 816, 817, 818, 819, 820, 821, 822, 823, 824, 825, 826] (by decide +kernel) (by decide +kernel)
set_option maxRecDepth 20000 in
theorem gL_law_X6_give : GoodIn wsL_law (wsV RL 76 RX6 yX6_give wsX6_give) := goodIn_app (goodIn_of _ (by decide +kernel)) ggL_law_X6_give
