set_option maxRecDepth 20000 in
theorem ggL_law_X6_placed : GoodIn wsL_law wsX6_placed := goodIn_r _ [541, 173, 174, 175, 5, 176, 68, 373, 374, 375, 376, 164, 809, 810, 811, 812, 813, 814, 815, 816, 817, 818, 819, 820, 821, 822, 823, 824, 825, 826] (by decide +kernel) (by decide +kernel)
set_option maxRecDepth 20000 in
theorem gL_law_X6_placed : GoodIn wsL_law (wsV RL 132 RX6 yX6_placed wsX6_placed) := goodIn_app (goodIn_of _ (by decide +kernel)) ggL_law_X6_placed
set_option maxRecDepth 20000 in
theorem ggL_law_X5_winner : GoodIn wsL_law wsX5_winner := goodIn_r _ [545, 16, 546, 547, 548, 15, 549, 37, 803, 804, 805, 806, 807, 808, 827, 828, 829, 830] (by decide +kernel) (by decide +kernel)
set_option maxRecDepth 20000 in
theorem gL_law_X5_winner : GoodIn wsL_law (wsV RL 133 RX5 yX5_winner wsX5_winner) := goodIn_app (goodIn_of _ (by decide +kernel)) ggL_law_X5_winner
set_option maxRecDepth 20000 in
theorem ggL_law_X6_winner : GoodIn wsL_law wsX6_winner := goodIn_r _ [553, 68, 373, 374, 375, 5, 376, 164, 809, 810, 811, 812, 813, 814, 815, 816, 817, 818, 819, 820, 821, 822, 823, 824, 825, 826] (by decide +kernel) (by decide +kernel)
set_option maxRecDepth 20000 in
theorem gL_law_X6_winner : GoodIn wsL_law (wsV RL 136 RX6 yX6_winner wsX6_winner) := goodIn_app (goodIn_of _ (by decide +kernel)) ggL_law_X6_winner
set_option maxRecDepth 20000 in
theorem ggL_law_X5_isOver : GoodIn wsL_law wsX5_isOver := goodIn_r _ [557, 16, 558, 98, 99, 15, 100, 37, 35, 101, 102, 103, 34, 104, 105, 106, 107, 108, 45, 109, 110, 111, 112, 113, 114, 115, 803, 804, 805, 806, 807, 808, 827, 828, 829, 830, 836, 837, 838, 839] (by decide +kernel) (by decide +kernel)
set_option maxRecDepth 20000 in
theorem gL_law_X5_isOver : GoodIn wsL_law (wsV RL 137 RX5 yX5_isOver wsX5_isOver) := goodIn_app (goodIn_of _ (by decide +kernel)) ggL_law_X5_isOver
set_option maxRecDepth 20000 in
theorem ggL_law_X6_isOver : GoodIn wsL_law wsX6_isOver := goodIn_r _ [562, 164, 169, 170, 171, 5, 172, 68, 173, 174, 175, 176, 809, 810, 811, 812, 813, 814, 815, 816, 817, 818, 819, 820, 821, 822, 823, 824, 825, 826] (by decide +kernel) (by decide +kernel)
set_option maxRecDepth 20000 in
theorem gL_law_X6_isOver : GoodIn wsL_law (wsV RL 141 RX6 yX6_isOver wsX6_isOver) := goodIn_app (goodIn_of _ (by decide +kernel)) ggL_law_X6_isOver
set_option maxRecDepth 20000 in
theorem ggL_law_X5_lines : GoodIn wsL_law wsX5_lines := goodIn_r _ [566, 16, 282, 283, 284, 15, 285, 35, 567, 230, 231, 34, 232, 44, 803, 804, 805, 806, 807, 808, 827, 828, 829, 830, 836, 837, 838, 839] (by decide +kernel) (by decide +kernel)
set_option maxRecDepth 20000 in
theorem gL_law_X5_lines : GoodIn wsL_law (wsV RL 142 RX5 yX5_lines wsX5_lines) := goodIn_app (goodIn_of _ (by decide +kernel)) ggL_law_X5_lines
set_option maxRecDepth 20000 in
theorem ggL_law_X6_lines : GoodIn wsL_law wsX6_lines := goodIn_r _ [571, 254, 255, 256, 5, 257, 68, 373, 374, 375, 376, 164, 809, 810, 811, 812, 813, 814, 815, 816, 817, 818, 819, 820, 821, 822, 823, 824, 825, 826] (by decide +kernel) (by decide +kernel)
set_option maxRecDepth 20000 in
theorem gL_law_X6_lines : GoodIn wsL_law (wsV RL 145 RX6 yX6_lines wsX6_lines) := goodIn_app (goodIn_of _ (by decide +kernel)) ggL_law_X6_lines
set_option maxRecDepth 20000 in
theorem ggL_law_L_piecesOn : GoodIn wsL_law wsL_piecesOn := goodIn_ca (goodIn_r _ [574, 80, 575, 576, 577, 2, 578, 16, 579, 580, 581, 582, 91, 92, 282, 283, 284, 15, 285, 35, 567, 230, 231, 34, 232, 44, 583, 584, 585, 586, 45, 587, 588, 589, 237, 109, 110, 111, 112, 113, 114, 115, 803, 804, 805, 806, 807, 808, 827, 828, 829, 830, 836, 837, 838, 839] (by decide +kernel) (by decide +kernel)) (goodIn_sub (fun _ h => List.mem_append_left _ (List.mem_append_right _ h)) (by decide +kernel))
set_option maxRecDepth 20000 in
theorem gL_law_L_piecesOn : GoodIn wsL_law (va_wsS RL 146 yL_piecesOn wsL_piecesOn) := goodIn_app (goodIn_of _ (by decide +kernel)) ggL_law_L_piecesOn
set_option maxRecDepth 20000 in
theorem ggL_law_X6_piecesOn : GoodIn wsL_law wsX6_piecesOn := goodIn_r _ [593, 254, 255, 256, 5, 257, 68, 157, 158, 159, 258, 259, 260, 261, 262, 263, 264, 373, 374, 375, 376, 164, 160, 161, 162, 163, 809, 810, 811, 812, 813, 814, 815, 816, 817, 818, 819, 820, 821, 822, 823, 824, 825, 826] (by decide +kernel) (by decide +kernel)
set_option maxRecDepth 20000 in
theorem gL_law_X6_piecesOn : GoodIn wsL_law (wsV RL 148 RX6 yX6_piecesOn wsX6_piecesOn) := goodIn_app (goodIn_of _ (by decide +kernel)) ggL_law_X6_piecesOn
set_option maxRecDepth 20000 in
theorem ggL_law_L_sharedOn : GoodIn wsL_law wsL_sharedOn := goodIn_ca (goodIn_r _ [596, 80, 597, 598, 599, 2, 600, 16, 579, 580, 581, 582, 91, 92, 282, 283, 284, 15, 285, 35, 567, 230, 231, 34, 232, 44, 601, 602, 603, 604, 45, 47, 587, 588, 589, 237, 803, 804, 805, 806, 807, 808, 827, 828, 829, 830, 836, 837, 838, 839] (by decide +kernel) (by decide +kernel)) (goodIn_sub (fun _ h => List.mem_append_left _ (List.mem_append_right _ h)) (by decide +kernel))
set_option maxRecDepth 20000 in
theorem gL_law_L_sharedOn : GoodIn wsL_law (va_wsS RL 149 yL_sharedOn wsL_sharedOn) := goodIn_app (goodIn_of _ (by decide +kernel)) ggL_law_L_sharedOn
set_option maxRecDepth 20000 in
theorem ggL_law_X6_sharedOn : GoodIn wsL_law wsX6_sharedOn := goodIn_r _ [608, 254, 255, 256, 5, 257, 68, 157, 158, 159, 265, 266, 267, 268, 262, 263, 264, 269, 270, 271, 373, 374, 375, 376, 164, 160, 161, 162, 163, 809, 810, 811, 812, 813, 814, 815, 816, 817, 818, 819, 820, 821, 822, 823, 824, 825, 826] (by decide +kernel) (by decide +kernel)
set_option maxRecDepth 20000 in
theorem gL_law_X6_sharedOn : GoodIn wsL_law (wsV RL 151 RX6 yX6_sharedOn wsX6_sharedOn) := goodIn_app (goodIn_of _ (by decide +kernel)) ggL_law_X6_sharedOn
set_option maxRecDepth 20000 in
theorem ggL_law_X5_wonLines : GoodIn wsL_law wsX5_wonLines := goodIn_r _ [612, 16, 282, 283, 284, 15, 285, 35, 613, 614, 615, 34, 616, 229, 230, 231, 232, 44, 233, 234, 235, 236, 237, 45, 47, 803, 804, 805, 806, 807, 808, 827, 828, 829, 830, 836, 837, 838, 839] (by decide +kernel) (by decide +kernel)
set_option maxRecDepth 20000 in
theorem gL_law_X5_wonLines : GoodIn wsL_law (wsV RL 152 RX5 yX5_wonLines wsX5_wonLines) := goodIn_app (goodIn_of _ (by decide +kernel)) ggL_law_X5_wonLines
set_option maxRecDepth 20000 in
theorem ggL_law_X6_wonLines : GoodIn wsL_law wsX6_wonLines := goodIn_r _ [620, 250, 251, 252, 5, 253, 254, 255, 256, 257, 68, 258, 259, 260, 261, 262, 263, 264, 265, 266, 267, 268, 269, 270, 271, 373, 374, 375, 376, 164, 809, 810, 811, 812, 813, 814, 815, 816, 817, 818, 819, 820, 821, 822, 823, 824, 825, 826] (by decide +kernel) (by decide +kernel)
set_option maxRecDepth 20000 in
theorem gL_law_X6_wonLines : GoodIn wsL_law (wsV RL 155 RX6 yX6_wonLines wsX6_wonLines) := goodIn_app (goodIn_of _ (by decide +kernel)) ggL_law_X6_wonLines
set_option maxRecDepth 20000 in
theorem ggL_law_L_winsOf : GoodIn wsL_law wsL_winsOf := goodIn_ca (goodIn_r _ [623, 80, 624, 625, 626, 2, 627, 91, 92, 16, 628, 629, 630, 15, 631, 39, 803, 804, 805, 806, 807, 808, 827, 828, 829, 830] (by decide +kernel) (by decide +kernel)) (goodIn_sub (fun _ h => List.mem_append_left _ (List.mem_append_right _ h)) (by decide +kernel))
set_option maxRecDepth 20000 in
theorem gL_law_L_winsOf : GoodIn wsL_law (va_wsS RL 156 yL_winsOf wsL_winsOf) := goodIn_app (goodIn_of _ (by decide +kernel)) ggL_law_L_winsOf
set_option maxRecDepth 20000 in
theorem ggL_law_X6_winsOf : GoodIn wsL_law wsX6_winsOf := goodIn_r _ [635, 68, 157, 158, 5, 159, 373, 374, 375, 376, 164, 160, 161, 162, 163, 809, 810, 811, 812, 813, 814, 815, 816, 817, 818, 819, 820, 821, 822, 823, 824, 825, 826] (by decide +kernel) (by decide +kernel)
set_option maxRecDepth 20000 in
theorem gL_law_X6_winsOf : GoodIn wsL_law (wsV RL 158 RX6 yX6_winsOf wsX6_winsOf) := goodIn_app (goodIn_of _ (by decide +kernel)) ggL_law_X6_winsOf
