set_option maxRecDepth 20000 in
theorem ggL_law_L_winningCell : GoodIn wsL_law wsL_winningCell := goodIn_ca (goodIn_r _ [638, 80, 639, 640, 641, 2, 642, 16, 17, 88, 89, 90, 91, 92, 558, 98, 99, 15, 100, 37, 35, 101, 102, 103, 34, 104, 105, 106, 107, 108, 45, 109, 110, 111, 112, 113, 114, 115, 282, 283, 284, 285, 643, 117, 118, 119, 46, 392, 133, 134, 135, 36, 39, 136, 137, 138, 139, 44, 47, 644, 645, 646, 647, 513, 213, 214, 215, 648, 649, 650, 651, 652, 222, 223, 224, 653, 226, 227, 228, 229, 230, 231, 232, 233, 234, 235, 236, 237, 654, 655, 656, 657, 803, 804, 805, 806, 807, 808, 827, 828, 829, 830, 836, 837, 838, 839] (by decide +kernel) (by decide +kernel)) (goodIn_sub (fun _ h => List.mem_append_left _ (List.mem_append_right _ h)) (by decide +kernel))
set_option maxRecDepth 20000 in
theorem gL_law_L_winningCell : GoodIn wsL_law (va_wsS RL 159 yL_winningCell wsL_winningCell) := goodIn_app (goodIn_of _ (by decide +kernel)) ggL_law_L_winningCell
set_option maxRecDepth 20000 in
theorem ggL_law_X6_winningCell : GoodIn wsL_law wsX6_winningCell := goodIn_r _ [661, 153, 154, 5, 155, 156, 157, 158, 159, 662, 663, 664, 665, 68, 169, 170, 171, 172, 173, 174, 175, 176, 177, 178, 179, 180, 666, 667, 668, 669, 250, 251, 252, 253, 254, 255, 256, 257, 258, 259, 260, 261, 262, 263, 264, 265, 266, 267, 268, 269, 270, 271, 373, 374, 375, 376, 164, 160, 161, 162, 163, 809, 810, 811, 812, 813, 814, 815, 816, 817, 818, 819, 820, 821, 822, 823, 824, 825, 826] (by decide +kernel) (by decide +kernel)
set_option maxRecDepth 20000 in
theorem gL_law_X6_winningCell : GoodIn wsL_law (wsV RL 161 RX6 yX6_winningCell wsX6_winningCell) := goodIn_app (goodIn_of _ (by decide +kernel)) ggL_law_X6_winningCell
set_option maxRecDepth 20000 in
theorem ggL_law_X5_safeByTrying : GoodIn wsL_law wsX5_safeByTrying := goodIn_r _ [673, 16, 17, 558, 98, 99, 15, 100, 37, 35, 101, 102, 103, 34, 104, 105, 106, 107, 108, 45, 109, 110, 111, 112, 113, 114, 115, 392, 133, 134, 135, 36, 39, 136, 137, 138, 139, 44, 46, 47, 674, 675, 676, 677, 116, 117, 118, 119, 282, 283, 284, 285, 644, 645, 646, 647, 513, 213, 214, 215, 648, 649, 650, 651, 652, 222, 223, 224, 653, 226, 227, 228, 229, 230, 231, 232, 233, 234, 235, 236, 237, 654, 655, 656, 657, 803, 804, 805, 806, 807, 808, 827, 828, 829, 830, 836, 837, 838, 839] (by decide +kernel) (by decide +kernel)
set_option maxRecDepth 20000 in
theorem gL_law_X5_safeByTrying : GoodIn wsL_law (wsV RL 162 RX5 yX5_safeByTrying wsX5_safeByTrying) := goodIn_app (goodIn_of _ (by decide +kernel)) ggL_law_X5_safeByTrying
set_option maxRecDepth 20000 in
theorem ggL_law_X6_safeByTrying : GoodIn wsL_law wsX6_safeByTrying := goodIn_r _ [681, 682, 683, 684, 5, 685, 68, 169, 170, 171, 172, 173, 174, 175, 176, 177, 178, 179, 180, 662, 663, 664, 665, 666, 667, 668, 669, 250, 251, 252, 253, 254, 255, 256, 257, 258, 259, 260, 261, 262, 263, 264, 265, 266, 267, 268, 269, 270, 271, 373, 374, 375, 376, 164, 809, 810, 811, 812, 813, 814, 815, 816, 817, 818, 819, 820, 821, 822, 823, 824, 825, 826] (by decide +kernel) (by decide +kernel)
set_option maxRecDepth 20000 in
theorem gL_law_X6_safeByTrying : GoodIn wsL_law (wsV RL 165 RX6 yX6_safeByTrying wsX6_safeByTrying) := goodIn_app (goodIn_of _ (by decide +kernel)) ggL_law_X6_safeByTrying
set_option maxRecDepth 20000 in
theorem ggL_law_X5_safeByLines : GoodIn wsL_law wsX5_safeByLines := goodIn_r _ [689, 16, 558, 98, 99, 15, 100, 37, 35, 101, 102, 103, 34, 104, 105, 106, 107, 108, 45, 109, 110, 111, 112, 113, 114, 115, 282, 283, 284, 285, 690, 691, 692, 693, 229, 230, 231, 232, 44, 694, 584, 585, 586, 587, 588, 589, 237, 695, 602, 603, 604, 47, 674, 675, 676, 677, 36, 116, 117, 118, 119, 46, 696, 697, 2, 698, 803, 804, 805, 806, 807, 808, 827, 828, 829, 830, 836, 837, 838, 839] (by decide +kernel) (by decide +kernel)
set_option maxRecDepth 20000 in
theorem gL_law_X5_safeByLines : GoodIn wsL_law (wsV RL 166 RX5 yX5_safeByLines wsX5_safeByLines) := goodIn_app (goodIn_of _ (by decide +kernel)) ggL_law_X5_safeByLines
set_option maxRecDepth 20000 in
theorem ggL_law_X6_safeByLines : GoodIn wsL_law wsX6_safeByLines := goodIn_r _ [702, 682, 683, 684, 5, 685, 68, 169, 170, 171, 172, 173, 174, 175, 176, 177, 178, 179, 180, 662, 663, 664, 665, 666, 667, 668, 669, 250, 251, 252, 253, 254, 255, 256, 257, 258, 259, 260, 261, 262, 263, 264, 265, 266, 267, 268, 269, 270, 271, 373, 374, 375, 376, 164, 809, 810, 811, 812, 813, 814, 815, 816, 817, 818, 819, 820, 821, 822, 823, 824, 825, 826] (by decide +kernel) (by decide +kernel)
set_option maxRecDepth 20000 in
theorem gL_law_X6_safeByLines : GoodIn wsL_law (wsV RL 169 RX6 yX6_safeByLines wsX6_safeByLines) := goodIn_app (goodIn_of _ (by decide +kernel)) ggL_law_X6_safeByLines
set_option maxRecDepth 20000 in
theorem ggL_law_L_outcome : GoodIn wsL_law wsL_outcome := goodIn_ca (goodIn_r _ [705, 81, 706, 707, 708, 2, 709, 17, 16, 710, 711, 712, 713, 86, 87, 558, 98, 99, 15, 100, 37, 35, 101, 102, 103, 34, 104, 105, 106, 107, 108, 45, 109, 110, 111, 112, 113, 114, 115, 282, 283, 284, 285, 714, 392, 133, 134, 135, 36, 39, 136, 137, 138, 139, 44, 46, 47, 715, 716, 717, 718, 719, 720, 721, 495, 496, 497, 722, 723, 724, 725, 726, 126, 727, 728, 117, 118, 119, 729, 730, 731, 732, 222, 223, 224, 733, 226, 227, 228, 229, 230, 231, 232, 233, 234, 235, 236, 237, 734, 655, 656, 657, 735, 736, 213, 214, 215, 737, 738, 803, 804, 805, 806, 807, 808, 827, 828, 829, 830, 836, 837, 838, 839] (by decide +kernel) (by decide +kernel)) (goodIn_sub (fun _ h => List.mem_append_left _ (List.mem_append_left _ (List.mem_append_right _ h))) (by decide +kernel))
set_option maxRecDepth 20000 in
theorem gL_law_L_outcome : GoodIn wsL_law (va_wsS RL 170 yL_outcome wsL_outcome) := goodIn_app (goodIn_of _ (by decide +kernel)) ggL_law_L_outcome
set_option maxRecDepth 20000 in
theorem ggL_law_X6_outcome : GoodIn wsL_law wsX6_outcome := goodIn_r _ [742, 743, 744, 745, 5, 746, 169, 170, 171, 172, 68, 173, 174, 175, 176, 747, 748, 749, 750, 73, 74, 75, 751, 752, 753, 754, 177, 178, 179, 180, 755, 756, 757, 758, 759, 250, 251, 252, 253, 254, 255, 256, 257, 258, 259, 260, 261, 262, 263, 264, 265, 266, 267, 268, 269, 270, 271, 373, 374, 375, 376, 164, 160, 161, 162, 163, 809, 810, 811, 812, 813, 814, 815, 816, 817, 818, 819, 820, 821, 822, 823, 824, 825, 826] (by decide +kernel) (by decide +kernel)
set_option maxRecDepth 20000 in
theorem gL_law_X6_outcome : GoodIn wsL_law (wsV RL 172 RX6 yX6_outcome wsX6_outcome) := goodIn_app (goodIn_of _ (by decide +kernel)) ggL_law_X6_outcome
set_option maxRecDepth 20000 in
theorem ggL_law_L_bestMove : GoodIn wsL_law wsL_bestMove := goodIn_ca (goodIn_r _ [762, 81, 763, 764, 765, 2, 766, 17, 16, 710, 711, 712, 713, 86, 87, 558, 98, 99, 15, 100, 37, 35, 101, 102, 103, 34, 104, 105, 106, 107, 108, 45, 109, 110, 111, 112, 113, 114, 115, 282, 283, 284, 285, 714, 392, 133, 134, 135, 36, 39, 136, 137, 138, 139, 44, 46, 47, 767, 768, 717, 769, 770, 716, 718, 719, 720, 721, 495, 496, 497, 722, 723, 724, 725, 726, 126, 727, 728, 117, 118, 119, 729, 730, 731, 732, 222, 223, 224, 733, 226, 227, 228, 229, 230, 231, 232, 233, 234, 235, 236, 237, 734, 655, 656, 657, 735, 736, 213, 214, 215, 737, 738, 771, 772, 773, 774, 94, 95, 96, 97, 116, 775, 209, 210, 211, 212, 776, 777, 778, 803, 804, 805, 806, 807, 808, 827, 828, 829, 830, 836, 837, 838, 839] (by decide +kernel) (by decide +kernel)) (goodIn_sub (fun _ h => List.mem_append_left _ (List.mem_append_left _ (List.mem_append_right _ h))) (by decide +kernel))
set_option maxRecDepth 20000 in
theorem gL_law_L_bestMove : GoodIn wsL_law (va_wsS RL 173 yL_bestMove wsL_bestMove) := goodIn_app (goodIn_of _ (by decide +kernel)) ggL_law_L_bestMove
set_option maxRecDepth 20000 in
theorem ggL_law_X6_bestMove : GoodIn wsL_law wsX6_bestMove := goodIn_r _ [782, 759, 743, 744, 745, 5, 746, 169, 170, 171, 172, 68, 173, 174, 175, 176, 160, 161, 162, 163, 164, 747, 748, 749, 750, 73, 74, 75, 751, 752, 753, 754, 177, 178, 179, 180, 755, 756, 757, 758, 250, 251, 252, 253, 254, 255, 256, 257, 258, 259, 260, 261, 262, 263, 264, 265, 266, 267, 268, 269, 270, 271, 373, 374, 375, 376, 809, 810, 811, 812, 813, 814, 815, 816, 817, 818, 819, 820, 821, 822, 823, 824, 825, 826] (by decide +kernel) (by decide +kernel)
set_option maxRecDepth 20000 in
theorem gL_law_X6_bestMove : GoodIn wsL_law (wsV RL 175 RX6 yX6_bestMove wsX6_bestMove) := goodIn_app (goodIn_of _ (by decide +kernel)) ggL_law_X6_bestMove
set_option maxRecDepth 20000 in
theorem ggL_law_X5_rule : GoodIn wsL_law wsX5_rule := goodIn_r _ [786, 16, 282, 283, 284, 15, 285, 35, 787, 788, 789, 34, 790, 44, 803, 804, 805, 806, 807, 808, 827, 828, 829, 830, 836, 837, 838, 839] (by decide +kernel) (by decide +kernel)
set_option maxRecDepth 20000 in
theorem gL_law_X5_rule : GoodIn wsL_law (wsV RL 176 RX5 yX5_rule wsX5_rule) := goodIn_app (goodIn_of _ (by decide +kernel)) ggL_law_X5_rule
set_option maxRecDepth 20000 in
theorem ggL_law_X6_rule : GoodIn wsL_law wsX6_rule := goodIn_r _ [794, 68, 373, 374, 375, 5, 376, 164, 809, 810, 811, 812, 813, 814, 815, 816, 817, 818, 819, 820, 821, 822, 823, 824, 825, 826] (by decide +kernel) (by decide +kernel)
set_option maxRecDepth 20000 in
theorem gL_law_X6_rule : GoodIn wsL_law (wsV RL 179 RX6 yX6_rule wsX6_rule) := goodIn_app (goodIn_of _ (by decide +kernel)) ggL_law_X6_rule
set_option maxRecDepth 20000 in
theorem ggL_law_X5_recordedStates : GoodIn wsL_law wsX5_recordedStates := goodIn_r _ [798, 23, 450, 451, 452, 22, 453, 55, 803, 804, 805, 806, 807, 808, 831, 832, 833] (by decide +kernel) (by decide +kernel)
set_option maxRecDepth 20000 in
theorem gL_law_X5_recordedStates : GoodIn wsL_law (wsV RL 180 RX5 yX5_recordedStates wsX5_recordedStates) := goodIn_app (goodIn_of _ (by decide +kernel)) ggL_law_X5_recordedStates
set_option maxRecDepth 20000 in
theorem ggL_law_X6_recordedStates : GoodIn wsL_law wsX6_recordedStates := goodIn_r _ [802, 185, 373, 374, 375, 5, 376, 164, 809, 810, 811, 812, 813, 814, 815, 816, 817, 818, 819, 820, 821, 822, 823, 824, 825, 826] (by decide +kernel) (by decide +kernel)
set_option maxRecDepth 20000 in
theorem gL_law_X6_recordedStates : GoodIn wsL_law (wsV RL 183 RX6 yX6_recordedStates wsX6_recordedStates) := goodIn_app (goodIn_of _ (by decide +kernel)) ggL_law_X6_recordedStates
theorem dL_law_0 : decode cL_law 0 = .ok (.new 8, 3) := by decide +kernel
theorem dL_law_3 : decode cL_law 3 = .ok (.dup, 1) := by decide +kernel
theorem dL_law_4 : decode cL_law 4 = .ok (.invokespecial 67, 3) := by decide +kernel
theorem dL_law_7 : decode cL_law 7 = .ok (.astore_n 1, 1) := by decide +kernel
theorem dL_law_8 : decode cL_law 8 = .ok (.new 68, 3) := by decide +kernel
theorem dL_law_11 : decode cL_law 11 = .ok (.dup, 1) := by decide +kernel
