set_option maxRecDepth 20000 in
theorem ggL_law_L_undo : GoodIn wsL_law wsL_undo := goodIn_ca (goodIn_r _ [445, 81, 446, 447, 448, 2, 449, 86, 87, 23, 16, 450, 451, 452, 22, 453, 55, 454, 455, 456, 457, 54, 128, 129, 130, 131, 53, 132, 133, 134, 15, 135, 35, 36, 37, 39, 136, 137, 138, 34, 139, 44, 45, 46, 47, 803, 804, 805, 806, 807, 808, 831, 832, 833, 827, 828, 829, 830, 836, 837, 838, 839] (by decide +kernel) (by decide +kernel)) (goodIn_sub (fun _ h => List.mem_append_left _ (List.mem_append_left _ (List.mem_append_right _ h))) (by decide +kernel))
set_option maxRecDepth 20000 in
theorem gL_law_L_undo : GoodIn wsL_law (va_wsS RL 105 yL_undo wsL_undo) := goodIn_app (goodIn_of _ (by decide +kernel)) ggL_law_L_undo
set_option maxRecDepth 20000 in
theorem ggL_law_X6_undo : GoodIn wsL_law wsX6_undo := goodIn_r _ [461, 185, 164, 68, 70, 160, 161, 162, 5, 163, 809, 810, 811, 812, 813, 814, 815, 816, 817, 818, 819, 820, 821, 822, 823, 824, 825, 826] (by decide +kernel) (by decide +kernel)
set_option maxRecDepth 20000 in
theorem gL_law_X6_undo : GoodIn wsL_law (wsV RL 107 RX6 yX6_undo wsX6_undo) := goodIn_app (goodIn_of _ (by decide +kernel)) ggL_law_X6_undo
set_option maxRecDepth 20000 in
theorem ggL_law_X5_takeSnapshot : GoodIn wsL_law wsX5_takeSnapshot := goodIn_r _ [465, 18, 16, 19, 392, 133, 134, 15, 135, 35, 36, 37, 39, 136, 137, 138, 34, 139, 44, 45, 46, 47, 282, 283, 284, 285, 286, 106, 107, 108, 109, 110, 111, 112, 113, 114, 115, 803, 804, 805, 806, 807, 808, 827, 828, 829, 830, 836, 837, 838, 839] (by decide +kernel) (by decide +kernel)
set_option maxRecDepth 20000 in
theorem gL_law_X5_takeSnapshot : GoodIn wsL_law (wsV RL 108 RX5 yX5_takeSnapshot wsX5_takeSnapshot) := goodIn_app (goodIn_of _ (by decide +kernel)) ggL_law_X5_takeSnapshot
set_option maxRecDepth 20000 in
theorem ggL_law_X6_takeSnapshot : GoodIn wsL_law wsX6_takeSnapshot := goodIn_r _ [469, 71, 68, 470, 173, 174, 175, 5, 176, 373, 374, 375, 376, 164, 809, 810, 811, 812, 813, 814, 815, 816, 817, 818, 819, 820, 821, 822, 823, 824, 825, 826] (by decide +kernel) (by decide +kernel)
set_option maxRecDepth 20000 in
theorem gL_law_X6_takeSnapshot : GoodIn wsL_law (wsV RL 111 RX6 yX6_takeSnapshot wsX6_takeSnapshot) := goodIn_app (goodIn_of _ (by decide +kernel)) ggL_law_X6_takeSnapshot
set_option maxRecDepth 20000 in
theorem ggL_law_L_restoreSnapshot : GoodIn wsL_law wsL_restoreSnapshot := goodIn_ca (goodIn_r _ [473, 81, 474, 475, 476, 2, 477, 86, 87, 19, 23, 16, 18, 120, 121, 122, 22, 123, 54, 55, 124, 125, 126, 127, 128, 129, 130, 131, 53, 132, 133, 134, 15, 135, 35, 36, 37, 39, 136, 137, 138, 34, 139, 44, 45, 46, 47, 392, 282, 283, 284, 285, 286, 106, 107, 108, 109, 110, 111, 112, 113, 114, 115, 803, 804, 805, 806, 807, 808, 831, 832, 833, 827, 828, 829, 830, 836, 837, 838, 839] (by decide +kernel) (by decide +kernel)) (goodIn_sub (fun _ h => List.mem_append_left _ (List.mem_append_left _ (List.mem_append_right _ h))) (by decide +kernel))
set_option maxRecDepth 20000 in
theorem gL_law_L_restoreSnapshot : GoodIn wsL_law (va_wsS RL 112 yL_restoreSnapshot wsL_restoreSnapshot) := goodIn_app (goodIn_of _ (by decide +kernel)) ggL_law_L_restoreSnapshot
set_option maxRecDepth 20000 in
theorem ggL_law_X6_restoreSnapshot : GoodIn wsL_law wsX6_restoreSnapshot := goodIn_r _ [481, 470, 68, 71, 160, 161, 162, 5, 163, 164, 181, 182, 183, 184, 185, 70, 173, 174, 175, 176, 809, 810, 811, 812, 813, 814, 815, 816, 817, 818, 819, 820, 821, 822, 823, 824, 825, 826] (by decide +kernel) (by decide +kernel)
set_option maxRecDepth 20000 in
theorem gL_law_X6_restoreSnapshot : GoodIn wsL_law (wsV RL 114 RX6 yX6_restoreSnapshot wsX6_restoreSnapshot) := goodIn_app (goodIn_of _ (by decide +kernel)) ggL_law_X6_restoreSnapshot
set_option maxRecDepth 20000 in
theorem ggL_law_X5_playerToMove : GoodIn wsL_law wsX5_playerToMove := goodIn_r _ [485, 16, 144, 145, 146, 15, 147, 35, 36, 97, 98, 99, 100, 37, 101, 102, 103, 34, 104, 105, 106, 107, 108, 45, 109, 110, 111, 112, 113, 114, 115, 148, 803, 804, 805, 806, 807, 808, 827, 828, 829, 830, 836, 837, 838, 839] (by decide +kernel) (by decide +kernel)
set_option maxRecDepth 20000 in
theorem gL_law_X5_playerToMove : GoodIn wsL_law (wsV RL 115 RX5 yX5_playerToMove wsX5_playerToMove) := goodIn_app (goodIn_of _ (by decide +kernel)) ggL_law_X5_playerToMove
set_option maxRecDepth 20000 in
theorem ggL_law_X6_playerToMove : GoodIn wsL_law wsX6_playerToMove := goodIn_r _ [489, 169, 170, 171, 5, 172, 68, 173, 174, 175, 176, 190, 191, 192, 193, 373, 374, 375, 376, 164, 809, 810, 811, 812, 813, 814, 815, 816, 817, 818, 819, 820, 821, 822, 823, 824, 825, 826] (by decide +kernel) (by decide +kernel)
set_option maxRecDepth 20000 in
theorem gL_law_X6_playerToMove : GoodIn wsL_law (wsV RL 118 RX6 yX6_playerToMove wsX6_playerToMove) := goodIn_app (goodIn_of _ (by decide +kernel)) ggL_law_X6_playerToMove
set_option maxRecDepth 20000 in
theorem ggL_law_X5_gift : GoodIn wsL_law wsX5_gift := goodIn_r _ [493, 16, 494, 495, 496, 15, 497, 36, 803, 804, 805, 806, 807, 808, 827, 828, 829, 830] (by decide +kernel) (by decide +kernel)
set_option maxRecDepth 20000 in
theorem gL_law_X5_gift : GoodIn wsL_law (wsV RL 119 RX5 yX5_gift wsX5_gift) := goodIn_app (goodIn_of _ (by decide +kernel)) ggL_law_X5_gift
set_option maxRecDepth 20000 in
theorem ggL_law_X6_gift : GoodIn wsL_law wsX6_gift := goodIn_r _ [501, 68, 373, 374, 375, 5, 376, 164, 809, 810, 811, 812, 813, 814, 815, 816, 817, 818, 819, 820, 821, 822, 823, 824, 825, 826] (by decide +kernel) (by decide +kernel)
set_option maxRecDepth 20000 in
theorem gL_law_X6_gift : GoodIn wsL_law (wsV RL 122 RX6 yX6_gift wsX6_gift) := goodIn_app (goodIn_of _ (by decide +kernel)) ggL_law_X6_gift
set_option maxRecDepth 20000 in
theorem ggL_law_L_pieceOn : GoodIn wsL_law wsL_pieceOn := goodIn_ca (goodIn_r _ [504, 80, 505, 506, 507, 2, 508, 16, 205, 206, 207, 91, 92, 282, 283, 284, 15, 285, 35, 509, 510, 511, 34, 512, 47, 513, 213, 214, 215, 45, 803, 804, 805, 806, 807, 808, 827, 828, 829, 830, 836, 837, 838, 839] (by decide +kernel) (by decide +kernel)) (goodIn_sub (fun _ h => List.mem_append_left _ (List.mem_append_right _ h)) (by decide +kernel))
set_option maxRecDepth 20000 in
theorem gL_law_L_pieceOn : GoodIn wsL_law (va_wsS RL 123 yL_pieceOn wsL_pieceOn) := goodIn_app (goodIn_of _ (by decide +kernel)) ggL_law_L_pieceOn
set_option maxRecDepth 20000 in
theorem ggL_law_X6_pieceOn : GoodIn wsL_law wsX6_pieceOn := goodIn_r _ [517, 68, 153, 154, 5, 155, 156, 157, 158, 159, 373, 374, 375, 376, 164, 160, 161, 162, 163, 809, 810, 811, 812, 813, 814, 815, 816, 817, 818, 819, 820, 821, 822, 823, 824, 825, 826] (by decide +kernel) (by decide +kernel)
set_option maxRecDepth 20000 in
theorem gL_law_X6_pieceOn : GoodIn wsL_law (wsV RL 125 RX6 yX6_pieceOn wsX6_pieceOn) := goodIn_app (goodIn_of _ (by decide +kernel)) ggL_law_X6_pieceOn
set_option maxRecDepth 20000 in
theorem ggL_law_L_cellOf : GoodIn wsL_law wsL_cellOf := goodIn_ca (goodIn_r _ [520, 80, 521, 522, 523, 2, 524, 16, 88, 89, 90, 91, 92, 282, 283, 284, 15, 285, 35, 525, 526, 527, 34, 528, 529, 510, 511, 512, 47, 513, 213, 214, 215, 45, 803, 804, 805, 806, 807, 808, 827, 828, 829, 830, 836, 837, 838, 839] (by decide +kernel) (by decide +kernel)) (goodIn_sub (fun _ h => List.mem_append_left _ (List.mem_append_right _ h)) (by decide +kernel))
set_option maxRecDepth 20000 in
theorem gL_law_L_cellOf : GoodIn wsL_law (va_wsS RL 126 yL_cellOf wsL_cellOf) := goodIn_app (goodIn_of _ (by decide +kernel)) ggL_law_L_cellOf
set_option maxRecDepth 20000 in
theorem ggL_law_X6_cellOf : GoodIn wsL_law wsX6_cellOf := goodIn_r _ [533, 153, 154, 5, 155, 156, 157, 158, 159, 177, 178, 179, 180, 68, 373, 374, 375, 376, 164, 160, 161, 162, 163, 809, 810, 811, 812, 813, 814, 815, 816, 817, 818, 819, 820, 821, 822, 823, 824, 825, 826] (by decide +kernel) (by decide +kernel)
set_option maxRecDepth 20000 in
theorem gL_law_X6_cellOf : GoodIn wsL_law (wsV RL 128 RX6 yX6_cellOf wsX6_cellOf) := goodIn_app (goodIn_of _ (by decide +kernel)) ggL_law_X6_cellOf
set_option maxRecDepth 20000 in
theorem ggL_law_X5_placed : GoodIn wsL_law wsX5_placed := goodIn_r _ [537, 16, 282, 283, 284, 15, 285, 35, 286, 106, 107, 34, 108, 45, 109, 110, 111, 112, 113, 114, 115, 803, 804, 805, 806, 807, 808, 827, 828, 829, 830, 836, 837, 838, 839] (by decide +kernel) (by decide +kernel)
set_option maxRecDepth 20000 in
theorem gL_law_X5_placed : GoodIn wsL_law (wsV RL 129 RX5 yX5_placed wsX5_placed) := goodIn_app (goodIn_of _ (by decide +kernel)) ggL_law_X5_placed
