theorem memr {big : List Cond} (ws : List Cond) (ps : List Nat) (hp : ws = ps.filterMap (fun i => big[i]?)) : ∀ w ∈ ws, w ∈ big := by
  intro w hw
  rw [hp] at hw
  obtain ⟨i, -, hi⟩ := List.mem_filterMap.mp hw
  first | exact List.mem_of_getElem? hi | exact List.getElem?_mem hi
theorem mema {big a b : List Cond} (ha : ∀ w ∈ a, w ∈ big) (hb : ∀ w ∈ b, w ∈ big) : ∀ w ∈ a ++ b, w ∈ big := fun w h => (List.mem_append.mp h).elim (ha w) (hb w)
set_option maxRecDepth 20000 in
theorem wsL_law_i1 : ∀ w ∈ wsL_law0_r1, w ∈ lw_tbl := memr _ [53, 54, 38, 721, 722, 43, 1031, 55, 56, 57, 58, 59, 60, 61, 62, 39, 133, 134, 135, 136, 100, 101, 41, 137] (by decide +kernel)
set_option maxRecDepth 20000 in
theorem wsL_law_i2 : ∀ w ∈ wsL_law0_r2, w ∈ lw_tbl := memr _ [119, 120, 42, 138, 63, 64, 65, 66, 67, 68, 40, 87, 88, 89, 86, 90, 69, 70, 71, 72, 73, 74, 75, 76] (by decide +kernel)
set_option maxRecDepth 20000 in
theorem wsL_law_i3 : ∀ w ∈ wsL_law0_r3, w ∈ lw_tbl := memr _ [102, 103, 104, 105, 106, 109, 110, 111, 108, 121, 122, 123, 124, 132, 125, 126, 723, 724, 725, 726, 727, 728, 729, 731] (by decide +kernel)
set_option maxRecDepth 20000 in
theorem wsL_law_i4 : ∀ w ∈ wsL_law0_r4, w ∈ lw_tbl := memr _ [734, 741, 742, 743, 345, 346, 37, 347, 348, 349, 350, 351, 352, 353, 429, 49, 354, 355, 356, 357, 47, 425, 426, 427] (by decide +kernel)
set_option maxRecDepth 20000 in
theorem wsL_law_i5 : ∀ w ∈ wsL_law0_r5, w ∈ lw_tbl := memr _ [428, 213, 214, 215, 216, 217, 218, 219, 220, 221, 196, 197, 198, 199, 200, 48, 201, 202, 203, 204, 279, 280, 281, 282] (by decide +kernel)
set_option maxRecDepth 20000 in
theorem wsL_law_i6 : ∀ w ∈ wsL_law0_r6, w ∈ lw_tbl := memr _ [445, 446, 447, 448, 454, 455, 50, 456, 449, 451, 4, 452, 453, 184, 185, 186, 187, 188, 189, 190, 457, 458, 459, 460] (by decide +kernel)
set_option maxRecDepth 20000 in
theorem wsL_law_i7 : ∀ w ∈ wsL_law0_r7, w ∈ lw_tbl := memr _ [209, 210, 211, 212, 222, 786, 787, 788, 789, 790, 791, 792, 793, 794, 795, 796, 797, 799, 9, 800, 733, 801, 803, 10] (by decide +kernel)
set_option maxRecDepth 20000 in
theorem wsL_law_i8 : ∀ w ∈ wsL_law0_r8, w ∈ lw_tbl := memr _ [804, 805, 807, 11, 808, 809, 811, 12, 812, 813, 815, 13, 816, 817, 819, 14, 820, 730, 821, 823, 15, 824, 825, 827] (by decide +kernel)
set_option maxRecDepth 20000 in
theorem wsL_law_i9 : ∀ w ∈ wsL_law0_r9, w ∈ lw_tbl := memr _ [16, 828, 782, 783, 784, 785, 461, 462, 463, 464, 465, 466, 467, 468, 469, 470, 472, 473, 474, 475, 476, 288, 289, 290] (by decide +kernel)
set_option maxRecDepth 20000 in
theorem wsL_law_i10 : ∀ w ∈ wsL_law0_r10, w ∈ lw_tbl := memr _ [478, 479, 480, 481, 482, 483, 296, 297, 298, 484, 300, 301, 302, 264, 253, 254, 255, 265, 267, 1, 268, 269, 829, 830] (by decide +kernel)
set_option maxRecDepth 20000 in
theorem wsL_law_i11 : ∀ w ∈ wsL_law0_r11, w ∈ lw_tbl := memr _ [831, 832, 833, 835, 17, 836, 837, 839, 18, 840, 841, 843, 19, 844, 845, 847, 20, 848, 849, 851, 21, 852, 853, 854] (by decide +kernel)
set_option maxRecDepth 20000 in
theorem wsL_law_i12 : ∀ w ∈ wsL_law0_r12, w ∈ lw_tbl := memr _ [855, 856, 858, 22, 859, 860, 861, 862, 485, 486, 487, 488, 489, 490, 491, 492, 493, 51, 191, 192, 193, 194, 195, 509] (by decide +kernel)
set_option maxRecDepth 20000 in
theorem wsL_law_i13 : ∀ w ∈ wsL_law0_r13, w ∈ lw_tbl := memr _ [510, 511, 512, 513, 514, 515, 516, 863, 864, 865, 866, 517, 518, 519, 520, 521, 522, 523, 524, 525, 526, 527, 529, 530] (by decide +kernel)
set_option maxRecDepth 20000 in
theorem wsL_law_i14 : ∀ w ∈ wsL_law0_r14, w ∈ lw_tbl := memr _ [531, 532, 156, 157, 158, 159, 867, 868, 869, 870, 735, 152, 153, 154, 155, 160, 161, 162, 163, 871, 872, 873, 874, 164] (by decide +kernel)
set_option maxRecDepth 20000 in
theorem wsL_law_i15 : ∀ w ∈ wsL_law0_r15, w ∈ lw_tbl := memr _ [165, 166, 167, 168, 169, 170, 171, 172, 174, 0, 175, 176, 177, 178, 875, 876, 877, 878, 879, 881, 23, 882, 736, 883] (by decide +kernel)
set_option maxRecDepth 20000 in
theorem wsL_law_i16 : ∀ w ∈ wsL_law0_r16, w ∈ lw_tbl := memr _ [885, 24, 886, 737, 738, 887, 889, 25, 890, 891, 893, 26, 894, 895, 897, 27, 898, 533, 534, 535, 536, 537, 538, 539] (by decide +kernel)
set_option maxRecDepth 20000 in
theorem wsL_law_i17 : ∀ w ∈ wsL_law0_r17, w ∈ lw_tbl := memr _ [540, 542, 5, 543, 545, 547, 6, 548, 183, 549, 550, 551, 552, 553, 554, 555, 556, 557, 558, 559, 560, 561, 562, 563] (by decide +kernel)
set_option maxRecDepth 20000 in
theorem wsL_law_i18 : ∀ w ∈ wsL_law0_r18, w ∈ lw_tbl := memr _ [564, 565, 566, 567, 568, 899, 900, 901, 902, 740, 739, 903, 905, 28, 906, 907, 909, 29, 910, 569, 570, 571, 572, 573] (by decide +kernel)
set_option maxRecDepth 20000 in
theorem wsL_law_i19 : ∀ w ∈ wsL_law0_r19, w ∈ lw_tbl := memr _ [574, 575, 577, 578, 579, 580, 581, 911, 912, 913, 914, 582, 583, 584, 585, 586, 587, 588, 341, 342, 343, 344, 590, 591] (by decide +kernel)
set_option maxRecDepth 20000 in
theorem wsL_law_i20 : ∀ w ∈ wsL_law0_r20, w ∈ lw_tbl := memr _ [592, 593, 915, 916, 917, 918, 179, 180, 181, 182, 919, 920, 921, 922, 732, 594, 595, 596, 597, 598, 599, 600, 923, 924] (by decide +kernel)
set_option maxRecDepth 20000 in
theorem wsL_law_i21 : ∀ w ∈ wsL_law0_r21, w ∈ lw_tbl := memr _ [925, 926, 205, 206, 207, 208, 927, 928, 929, 930, 223, 224, 225, 226, 227, 228, 229, 230, 931, 932, 933, 934, 602, 603] (by decide +kernel)
set_option maxRecDepth 20000 in
theorem wsL_law_i22 : ∀ w ∈ wsL_law0_r22, w ∈ lw_tbl := memr _ [604, 605, 606, 607, 608, 609, 610, 611, 612, 287, 935, 936, 937, 938, 613, 614, 615, 616, 617, 618, 619, 620, 621, 622] (by decide +kernel)
set_option maxRecDepth 20000 in
theorem wsL_law_i23 : ∀ w ∈ wsL_law0_r23, w ∈ lw_tbl := memr _ [623, 624, 939, 940, 941, 942, 231, 232, 233, 234, 943, 944, 945, 946, 235, 236, 237, 238, 239, 240, 241, 242, 947, 948] (by decide +kernel)
set_option maxRecDepth 20000 in
theorem wsL_law_i24 : ∀ w ∈ wsL_law0_r24, w ∈ lw_tbl := memr _ [949, 950, 243, 244, 245, 246, 247, 951, 952, 953, 954, 248, 249, 250, 251, 252, 955, 956, 957, 958, 625, 626, 627, 628] (by decide +kernel)
set_option maxRecDepth 20000 in
theorem wsL_law_i25 : ∀ w ∈ wsL_law0_r25, w ∈ lw_tbl := memr _ [629, 630, 631, 632, 634, 7, 635, 637, 316, 317, 318, 319, 320, 321, 959, 960, 961, 962, 638, 639, 640, 641, 642, 643] (by decide +kernel)
set_option maxRecDepth 20000 in
theorem wsL_law_i26 : ∀ w ∈ wsL_law0_r26, w ∈ lw_tbl := memr _ [644, 645, 323, 324, 325, 963, 964, 965, 966, 256, 257, 258, 259, 260, 261, 262, 263, 967, 968, 969, 970, 646, 647, 648] (by decide +kernel)
set_option maxRecDepth 20000 in
theorem wsL_law_i27 : ∀ w ∈ wsL_law0_r27, w ∈ lw_tbl := memr _ [649, 650, 651, 652, 654, 655, 656, 657, 971, 972, 973, 974, 658, 659, 660, 661, 662, 663, 664, 665, 283, 284, 285, 286] (by decide +kernel)
set_option maxRecDepth 20000 in
theorem wsL_law_i28 : ∀ w ∈ wsL_law0_r28, w ∈ lw_tbl := memr _ [291, 293, 2, 294, 295, 299, 303, 304, 305, 306, 975, 976, 977, 978, 979, 981, 30, 982, 983, 985, 31, 986, 271, 272] (by decide +kernel)
set_option maxRecDepth 20000 in
theorem wsL_law_i29 : ∀ w ∈ wsL_law0_r29, w ∈ lw_tbl := memr _ [273, 274, 275, 276, 277, 278, 987, 988, 989, 990, 991, 993, 32, 994, 307, 308, 309, 310, 311, 312, 313, 314, 315, 322] (by decide +kernel)
set_option maxRecDepth 20000 in
theorem wsL_law_i30 : ∀ w ∈ wsL_law0_r30, w ∈ lw_tbl := memr _ [326, 327, 328, 995, 996, 997, 998, 666, 667, 668, 669, 670, 671, 672, 673, 675, 8, 676, 677, 679, 680, 52, 681, 682] (by decide +kernel)
set_option maxRecDepth 20000 in
theorem wsL_law_i31 : ∀ w ∈ wsL_law0_r31, w ∈ lw_tbl := memr _ [683, 684, 685, 686, 687, 699, 700, 701, 688, 689, 690, 695, 696, 697, 698, 691, 692, 693, 694, 999, 1000, 1001, 1002, 1003] (by decide +kernel)
set_option maxRecDepth 20000 in
theorem wsL_law_i32 : ∀ w ∈ wsL_law0_r32, w ∈ lw_tbl := memr _ [1005, 33, 1006, 1007, 1009, 34, 1010, 1011, 1013, 35, 1014, 1015, 1017, 36, 1018, 744, 702, 703, 704, 705, 706, 707, 708, 709] (by decide +kernel)
set_option maxRecDepth 20000 in
theorem wsL_law_i33 : ∀ w ∈ wsL_law0_r33, w ∈ lw_tbl := memr _ [710, 711, 712, 713, 714, 715, 716, 717, 718, 719, 720, 1019, 1020, 1021, 1022, 329, 330, 331, 332, 333, 334, 335, 336, 1023] (by decide +kernel)
set_option maxRecDepth 20000 in
theorem wsL_law_i34 : ∀ w ∈ wsL_law0_r34, w ∈ lw_tbl := memr _ [1024, 1025, 1026, 337, 338, 339, 340, 1027, 1028, 1029, 1030] (by decide +kernel)
theorem wsL_law_uX50 : ∀ w ∈ wsX50, w ∈ lw_tbl := memr _ [139, 141, 143, 145, 147, 149] (by decide +kernel)
theorem wsL_law_uX60 : ∀ w ∈ wsX60, w ∈ lw_tbl := memr _ [745, 747, 749, 751, 753, 755, 757, 759, 761, 763, 765, 767, 769, 771, 773, 775, 777, 779] (by decide +kernel)
theorem wsL_law_uX20 : ∀ w ∈ wsX20, w ∈ lw_tbl := memr _ [91, 93, 95, 97] (by decide +kernel)
theorem wsL_law_uX30 : ∀ w ∈ wsX30, w ∈ lw_tbl := memr _ [112, 114, 116] (by decide +kernel)
theorem wsL_law_uX40 : ∀ w ∈ wsX40, w ∈ lw_tbl := memr _ [127, 129] (by decide +kernel)
theorem wsL_law_uX00 : ∀ w ∈ wsX00, w ∈ lw_tbl := memr _ [77, 79, 81, 83] (by decide +kernel)
theorem wsL_law_in0 : ∀ w ∈ wsL_law0, w ∈ lw_tbl := (mema (mema (mema (mema (mema (mema (mema (mema wsL_law_i1 (mema wsL_law_i2 (mema wsL_law_i3 (mema wsL_law_i4 (mema wsL_law_i5 (mema wsL_law_i6 (mema wsL_law_i7 (mema wsL_law_i8 (mema wsL_law_i9 (mema wsL_law_i10 (mema wsL_law_i11 (mema wsL_law_i12 (mema wsL_law_i13 (mema wsL_law_i14 (mema wsL_law_i15 (mema wsL_law_i16 (mema wsL_law_i17 (mema wsL_law_i18 (mema wsL_law_i19 (mema wsL_law_i20 (mema wsL_law_i21 (mema wsL_law_i22 (mema wsL_law_i23 (mema wsL_law_i24 (mema wsL_law_i25 (mema wsL_law_i26 (mema wsL_law_i27 (mema wsL_law_i28 (mema wsL_law_i29 (mema wsL_law_i30 (mema wsL_law_i31 (mema wsL_law_i32 (mema wsL_law_i33 (wsL_law_i34)))))))))))))))))))))))))))))))))) wsL_law_uX50) wsL_law_uX60) wsL_law_uX20) wsL_law_uX30) wsL_law_uX40) wsL_law_uX00) (fun _ h => absurd h List.not_mem_nil))
theorem wsL_law_x0 : ∀ w ∈ (vx_atS RX5 52 "java/lang/IllegalStateException" ["java/lang/RuntimeException", "java/lang/Exception"]).filter goodWord, w ∈ lw_tbl := by decide +kernel
theorem wsL_law_x1 : ∀ w ∈ (vx_atS RX5 172 "java/lang/IndexOutOfBoundsException" ["java/lang/RuntimeException", "java/lang/Exception"]).filter goodWord, w ∈ lw_tbl := by decide +kernel
theorem wsL_law_x2 : ∀ w ∈ (vx_atS RX5 81 "java/lang/IllegalArgumentException" ["java/lang/RuntimeException", "java/lang/Exception"]).filter goodWord, w ∈ lw_tbl := by decide +kernel
theorem wsL_law_in : ∀ w ∈ wsL_law, w ∈ lw_tbl := fun w h => (List.mem_append.mp h).elim (fun h => (List.mem_append.mp h).elim (fun h => (List.mem_append.mp h).elim (fun h => wsL_law_in0 w h) (fun h => wsL_law_x0 w h)) (fun h => wsL_law_x1 w h)) (fun h => wsL_law_x2 w h)
theorem inlX0 : ∀ w ∈ wsX00, w ∈ wsL_law := fun _ h => List.mem_append_left _ (List.mem_append_left _ (List.mem_append_left _ (List.mem_append_left _ (List.mem_append_right _ h))))
theorem inX0 : ∀ w ∈ wsX00, w ∈ lw_tbl := fun w h => wsL_law_in w (inlX0 w h)
theorem inX1 : ∀ w ∈ wsX10, w ∈ lw_tbl := by decide +kernel
theorem inlX2 : ∀ w ∈ wsX20, w ∈ wsL_law := fun _ h => List.mem_append_left _ (List.mem_append_left _ (List.mem_append_left _ (List.mem_append_left _ (List.mem_append_left _ (List.mem_append_left _ (List.mem_append_left _ (List.mem_append_right _ h)))))))
theorem inX2 : ∀ w ∈ wsX20, w ∈ lw_tbl := fun w h => wsL_law_in w (inlX2 w h)
theorem inlX3 : ∀ w ∈ wsX30, w ∈ wsL_law := fun _ h => List.mem_append_left _ (List.mem_append_left _ (List.mem_append_left _ (List.mem_append_left _ (List.mem_append_left _ (List.mem_append_left _ (List.mem_append_right _ h))))))
theorem inX3 : ∀ w ∈ wsX30, w ∈ lw_tbl := fun w h => wsL_law_in w (inlX3 w h)
theorem inlX4 : ∀ w ∈ wsX40, w ∈ wsL_law := fun _ h => List.mem_append_left _ (List.mem_append_left _ (List.mem_append_left _ (List.mem_append_left _ (List.mem_append_left _ (List.mem_append_right _ h)))))
theorem inX4 : ∀ w ∈ wsX40, w ∈ lw_tbl := fun w h => wsL_law_in w (inlX4 w h)
theorem inlX5 : ∀ w ∈ wsX50, w ∈ wsL_law := fun _ h => List.mem_append_left _ (List.mem_append_left _ (List.mem_append_left _ (List.mem_append_left _ (List.mem_append_left _ (List.mem_append_left _ (List.mem_append_left _ (List.mem_append_left _ (List.mem_append_left _ (List.mem_append_right _ h)))))))))
theorem inX5 : ∀ w ∈ wsX50, w ∈ lw_tbl := fun w h => wsL_law_in w (inlX5 w h)
theorem inlX6 : ∀ w ∈ wsX60, w ∈ wsL_law := fun _ h => List.mem_append_left _ (List.mem_append_left _ (List.mem_append_left _ (List.mem_append_left _ (List.mem_append_left _ (List.mem_append_left _ (List.mem_append_left _ (List.mem_append_left _ (List.mem_append_right _ h))))))))
theorem inX6 : ∀ w ∈ wsX60, w ∈ lw_tbl := fun w h => wsL_law_in w (inlX6 w h)
theorem inJ6 : ∀ w ∈ wsJ60, w ∈ lw_tbl := by decide +kernel
theorem inJ9 : ∀ w ∈ wsJ90, w ∈ lw_tbl := by decide +kernel
theorem inJ0 : ∀ w ∈ wsJ00, w ∈ lw_tbl := by decide +kernel
