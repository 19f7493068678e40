set_option maxRecDepth 20000 in
theorem ggL_law_X6_thrown : GoodIn wsL_law wsX6_thrown := goodIn_r _ [197, 164, 809, 810, 811, 812, 813, 814, 815, 816, 817, 818, 819, 820, 821, 822, 823, 824, 825, 826] (by decide +kernel) (by decide +kernel)
set_option maxRecDepth 20000 in
theorem gL_law_X6_thrown : GoodIn wsL_law (wsV RL 77 RX6 yX6_thrown wsX6_thrown) := goodIn_app (goodIn_of _ (by decide +kernel)) ggL_law_X6_thrown
set_option maxRecDepth 20000 in
theorem ggL_law_L_place : GoodIn wsL_law wsL_place := goodIn_ca (goodIn_ca (goodIn_r _ [200, 80, 81, 201, 202, 203, 2, 204, 86, 87, 16, 23, 205, 206, 207, 91, 92, 208, 209, 210, 15, 211, 36, 35, 212, 213, 214, 34, 215, 45, 120, 121, 122, 22, 123, 54, 55, 124, 125, 126, 127, 128, 129, 130, 131, 53, 132, 133, 134, 135, 37, 39, 136, 137, 138, 139, 44, 46, 47, 216, 217, 218, 219, 220, 145, 146, 147, 97, 98, 99, 100, 101, 102, 103, 104, 105, 106, 107, 108, 109, 110, 111, 112, 113, 114, 115, 148, 221, 222, 223, 224, 225, 226, 227, 228, 229, 230, 231, 232, 233, 234, 235, 236, 237, 803, 804, 805, 806, 807, 808, 827, 828, 829, 830, 836, 837, 838, 839, 831, 832, 833] (by decide +kernel) (by decide +kernel)) (goodIn_sub (fun _ h => List.mem_append_left _ (List.mem_append_left _ (List.mem_append_right _ h))) (by decide +kernel))) (goodIn_sub (fun _ h => List.mem_append_left _ (List.mem_append_right _ h)) (by decide +kernel))
set_option maxRecDepth 20000 in
theorem gL_law_L_place : GoodIn wsL_law (va_wsS RL 80 yL_place wsL_place) := goodIn_app (goodIn_of _ (by decide +kernel)) ggL_law_L_place
set_option maxRecDepth 20000 in
theorem ggL_law_X6_place : GoodIn wsL_law wsX6_place := goodIn_r _ [241, 164, 153, 154, 5, 155, 156, 157, 158, 159, 242, 243, 244, 245, 68, 181, 182, 183, 184, 185, 70, 246, 247, 248, 249, 190, 191, 192, 193, 173, 174, 175, 176, 250, 251, 252, 253, 254, 255, 256, 257, 258, 259, 260, 261, 262, 263, 264, 265, 266, 267, 268, 269, 270, 271, 809, 810, 811, 812, 813, 814, 815, 816, 817, 818, 819, 820, 821, 822, 823, 824, 825, 826] (by decide +kernel) (by decide +kernel)
set_option maxRecDepth 20000 in
theorem gL_law_X6_place : GoodIn wsL_law (wsV RL 82 RX6 yX6_place wsX6_place) := goodIn_app (goodIn_of _ (by decide +kernel)) ggL_law_X6_place
set_option maxRecDepth 20000 in
theorem ggL_law_L_restart : GoodIn wsL_law wsL_restart := goodIn_ca (goodIn_r _ [274, 275, 276, 277, 278, 2, 279, 280, 281, 16, 23, 282, 283, 284, 15, 285, 35, 286, 106, 107, 34, 108, 45, 109, 110, 111, 112, 113, 114, 115, 120, 121, 122, 22, 123, 54, 55, 124, 125, 126, 127, 128, 129, 130, 131, 53, 132, 133, 134, 135, 36, 37, 39, 136, 137, 138, 139, 44, 46, 47, 287, 288, 289, 290, 291, 292, 293, 294, 803, 804, 805, 806, 807, 808, 827, 828, 829, 830, 836, 837, 838, 839, 831, 832, 833] (by decide +kernel) (by decide +kernel)) (goodIn_sub (fun _ h => List.mem_append_right _ h) (by decide +kernel))
set_option maxRecDepth 20000 in
theorem gL_law_L_restart : GoodIn wsL_law (va_wsS RL 83 yL_restart wsL_restart) := goodIn_app (goodIn_of _ (by decide +kernel)) ggL_law_L_restart
set_option maxRecDepth 20000 in
theorem ggL_law_X6_restart : GoodIn wsL_law wsX6_restart := goodIn_r _ [298, 68, 157, 158, 5, 159, 160, 161, 162, 163, 164, 181, 182, 183, 184, 185, 70, 173, 174, 175, 176, 809, 810, 811, 812, 813, 814, 815, 816, 817, 818, 819, 820, 821, 822, 823, 824, 825, 826] (by decide +kernel) (by decide +kernel)
set_option maxRecDepth 20000 in
theorem gL_law_X6_restart : GoodIn wsL_law (wsV RL 85 RX6 yX6_restart wsX6_restart) := goodIn_app (goodIn_of _ (by decide +kernel)) ggL_law_X6_restart
set_option maxRecDepth 20000 in
theorem ggL_law_L_type : GoodIn wsL_law wsL_type := goodIn_ca (goodIn_r _ [301, 81, 302, 303, 304, 2, 305, 86, 87, 27, 306, 307, 308, 26, 309, 63, 310, 311, 312, 313, 62, 314, 315, 316, 317, 803, 804, 805, 806, 807, 808, 834, 835] (by decide +kernel) (by decide +kernel)) (goodIn_sub (fun _ h => List.mem_append_left _ (List.mem_append_left _ (List.mem_append_right _ h))) (by decide +kernel))
set_option maxRecDepth 20000 in
theorem gL_law_L_type : GoodIn wsL_law (va_wsS RL 86 yL_type wsL_type) := goodIn_app (goodIn_of _ (by decide +kernel)) ggL_law_L_type
set_option maxRecDepth 20000 in
theorem ggL_law_X6_type : GoodIn wsL_law wsX6_type := goodIn_r _ [321, 322, 164, 72, 160, 161, 162, 5, 163, 809, 810, 811, 812, 813, 814, 815, 816, 817, 818, 819, 820, 821, 822, 823, 824, 825, 826] (by decide +kernel) (by decide +kernel)
set_option maxRecDepth 20000 in
theorem gL_law_X6_type : GoodIn wsL_law (wsV RL 89 RX6 yX6_type wsX6_type) := goodIn_app (goodIn_of _ (by decide +kernel)) ggL_law_X6_type
set_option maxRecDepth 20000 in
theorem ggL_law_X5_clearText : GoodIn wsL_law wsX5_clearText := goodIn_r _ [326, 27, 314, 315, 316, 26, 317, 63, 327, 328, 329, 330, 803, 804, 805, 806, 807, 808, 834, 835] (by decide +kernel) (by decide +kernel)
set_option maxRecDepth 20000 in
theorem gL_law_X5_clearText : GoodIn wsL_law (wsV RL 90 RX5 yX5_clearText wsX5_clearText) := goodIn_app (goodIn_of _ (by decide +kernel)) ggL_law_X5_clearText
set_option maxRecDepth 20000 in
theorem ggL_law_X6_clearText : GoodIn wsL_law wsX6_clearText := goodIn_r _ [334, 164, 322, 809, 810, 811, 812, 813, 814, 815, 816, 817, 818, 819, 820, 821, 822, 823, 824, 825, 826] (by decide +kernel) (by decide +kernel)
set_option maxRecDepth 20000 in
theorem gL_law_X6_clearText : GoodIn wsL_law (wsV RL 93 RX6 yX6_clearText wsX6_clearText) := goodIn_app (goodIn_of _ (by decide +kernel)) ggL_law_X6_clearText
set_option maxRecDepth 20000 in
theorem ggL_law_X5_textError : GoodIn wsL_law wsX5_textError := goodIn_r _ [338, 27, 339, 340, 341, 26, 342, 63, 343, 344, 345, 346, 62, 347, 348, 349, 803, 804, 805, 806, 807, 808, 834, 835] (by decide +kernel) (by decide +kernel)
set_option maxRecDepth 20000 in
theorem gL_law_X5_textError : GoodIn wsL_law (wsV RL 94 RX5 yX5_textError wsX5_textError) := goodIn_app (goodIn_of _ (by decide +kernel)) ggL_law_X5_textError
set_option maxRecDepth 20000 in
theorem ggL_law_X6_textError : GoodIn wsL_law wsX6_textError := goodIn_r _ [353, 354, 355, 356, 5, 357, 358, 322, 359, 360, 361, 362, 72, 363, 364, 365, 366, 367, 368, 369, 370, 371, 372, 157, 158, 159, 373, 374, 375, 376, 164, 809, 810, 811, 812, 813, 814, 815, 816, 817, 818, 819, 820, 821, 822, 823, 824, 825, 826] (by decide +kernel) (by decide +kernel)
set_option maxRecDepth 20000 in
theorem gL_law_X6_textError : GoodIn wsL_law (wsV RL 97 RX6 yX6_textError wsX6_textError) := goodIn_app (goodIn_of _ (by decide +kernel)) ggL_law_X6_textError
set_option maxRecDepth 20000 in
theorem ggL_law_L_impossibleMove : GoodIn wsL_law wsL_impossibleMove := goodIn_ca (goodIn_r _ [379, 81, 380, 381, 382, 2, 383, 384, 385, 386, 387, 86, 87, 27, 339, 340, 341, 26, 342, 63, 343, 344, 345, 346, 62, 347, 348, 349, 388, 389, 390, 391, 17, 16, 392, 133, 134, 15, 135, 35, 36, 37, 39, 136, 137, 138, 34, 139, 44, 45, 46, 47, 314, 315, 316, 317, 393, 394, 395, 396, 397, 398, 399, 400, 401, 402, 403, 404, 405, 406, 407, 408, 409, 94, 95, 96, 97, 98, 99, 100, 101, 102, 103, 104, 105, 106, 107, 108, 109, 110, 111, 112, 113, 114, 115, 116, 117, 118, 119, 410, 141, 142, 143, 411, 209, 210, 211, 212, 213, 214, 215, 412, 217, 218, 219, 220, 145, 146, 147, 148, 221, 222, 223, 224, 225, 226, 227, 228, 229, 230, 231, 232, 233, 234, 235, 236, 237, 803, 804, 805, 806, 807, 808, 834, 835, 827, 828, 829, 830, 836, 837, 838, 839] (by decide +kernel) (by decide +kernel)) (goodIn_sub (fun _ h => List.mem_append_left _ (List.mem_append_left _ (List.mem_append_right _ h))) (by decide +kernel))
set_option maxRecDepth 20000 in
theorem gL_law_L_impossibleMove : GoodIn wsL_law (va_wsS RL 98 yL_impossibleMove wsL_impossibleMove) := goodIn_app (goodIn_of _ (by decide +kernel)) ggL_law_L_impossibleMove
set_option maxRecDepth 20000 in
theorem ggL_law_X6_impossibleMove : GoodIn wsL_law wsX6_impossibleMove := goodIn_r _ [416, 417, 418, 354, 355, 356, 5, 357, 358, 322, 359, 360, 361, 362, 72, 363, 364, 365, 366, 367, 368, 369, 370, 371, 372, 157, 158, 159, 160, 161, 162, 163, 164, 419, 420, 421, 422, 69, 68, 423, 424, 425, 426, 165, 166, 167, 168, 169, 170, 171, 172, 173, 174, 175, 176, 177, 178, 179, 180, 242, 243, 244, 245, 186, 187, 188, 189, 190, 191, 192, 193, 246, 247, 248, 249, 250, 251, 252, 253, 254, 255, 256, 257, 258, 259, 260, 261, 262, 263, 264, 265, 266, 267, 268, 269, 270, 271, 373, 374, 375, 376, 809, 810, 811, 812, 813, 814, 815, 816, 817, 818, 819, 820, 821, 822, 823, 824, 825, 826] (by decide +kernel) (by decide +kernel)
set_option maxRecDepth 20000 in
theorem gL_law_X6_impossibleMove : GoodIn wsL_law (wsV RL 101 RX6 yX6_impossibleMove wsX6_impossibleMove) := goodIn_app (goodIn_of _ (by decide +kernel)) ggL_law_X6_impossibleMove
set_option maxRecDepth 20000 in
theorem ggL_law_L_carryOut : GoodIn wsL_law wsL_carryOut := goodIn_ca (goodIn_r _ [429, 81, 430, 431, 432, 2, 433, 86, 87, 23, 16, 17, 27, 384, 385, 386, 387, 339, 340, 341, 26, 342, 63, 343, 344, 345, 346, 62, 347, 348, 349, 388, 389, 390, 391, 392, 133, 134, 15, 135, 35, 36, 37, 39, 136, 137, 138, 34, 139, 44, 45, 46, 47, 314, 315, 316, 317, 393, 394, 395, 396, 397, 398, 399, 400, 401, 402, 403, 404, 405, 406, 407, 408, 409, 94, 95, 96, 97, 98, 99, 100, 101, 102, 103, 104, 105, 106, 107, 108, 109, 110, 111, 112, 113, 114, 115, 116, 117, 118, 119, 410, 141, 142, 143, 411, 209, 210, 211, 212, 213, 214, 215, 412, 217, 218, 219, 220, 145, 146, 147, 148, 221, 222, 223, 224, 225, 226, 227, 228, 229, 230, 231, 232, 233, 234, 235, 236, 237, 120, 121, 122, 22, 123, 54, 55, 124, 125, 126, 127, 128, 129, 130, 131, 53, 132, 434, 435, 436, 437, 438, 803, 804, 805, 806, 807, 808, 834, 835, 827, 828, 829, 830, 836, 837, 838, 839, 831, 832, 833] (by decide +kernel) (by decide +kernel)) (goodIn_sub (fun _ h => List.mem_append_left _ (List.mem_append_left _ (List.mem_append_right _ h))) (by decide +kernel))
set_option maxRecDepth 20000 in
theorem gL_law_L_carryOut : GoodIn wsL_law (va_wsS RL 102 yL_carryOut wsL_carryOut) := goodIn_app (goodIn_of _ (by decide +kernel)) ggL_law_L_carryOut
set_option maxRecDepth 20000 in
theorem ggL_law_X6_carryOut : GoodIn wsL_law wsX6_carryOut := goodIn_r _ [442, 417, 418, 354, 355, 356, 5, 357, 358, 322, 359, 360, 361, 362, 72, 363, 364, 365, 366, 367, 368, 369, 370, 371, 372, 157, 158, 159, 160, 161, 162, 163, 164, 419, 420, 421, 422, 69, 68, 423, 424, 425, 426, 165, 166, 167, 168, 169, 170, 171, 172, 173, 174, 175, 176, 177, 178, 179, 180, 242, 243, 244, 245, 186, 187, 188, 189, 190, 191, 192, 193, 246, 247, 248, 249, 250, 251, 252, 253, 254, 255, 256, 257, 258, 259, 260, 261, 262, 263, 264, 265, 266, 267, 268, 269, 270, 271, 181, 182, 183, 184, 185, 70, 809, 810, 811, 812, 813, 814, 815, 816, 817, 818, 819, 820, 821, 822, 823, 824, 825, 826] (by decide +kernel) (by decide +kernel)
set_option maxRecDepth 20000 in
theorem gL_law_X6_carryOut : GoodIn wsL_law (wsV RL 104 RX6 yX6_carryOut wsX6_carryOut) := goodIn_app (goodIn_of _ (by decide +kernel)) ggL_law_X6_carryOut
