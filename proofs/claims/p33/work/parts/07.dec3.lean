theorem dJ6_bitCount_0f7a4_0 : decode cJ6_bitCount_0f7a4 0 = .ok (.iload_n 0, 1) := by decide +kernel
theorem dJ6_bitCount_0f7a4_1 : decode cJ6_bitCount_0f7a4 1 = .ok (.iload_n 0, 1) := by decide +kernel
theorem dJ6_bitCount_0f7a4_2 : decode cJ6_bitCount_0f7a4 2 = .ok (.iconst 1, 1) := by decide +kernel
theorem dJ6_bitCount_0f7a4_3 : decode cJ6_bitCount_0f7a4 3 = .ok (.iushr, 1) := by decide +kernel
theorem dJ6_bitCount_0f7a4_4 : decode cJ6_bitCount_0f7a4 4 = .ok (.ldc_w 265, 3) := by decide +kernel
theorem dJ6_bitCount_0f7a4_7 : decode cJ6_bitCount_0f7a4 7 = .ok (.iand, 1) := by decide +kernel
theorem dJ6_bitCount_0f7a4_8 : decode cJ6_bitCount_0f7a4 8 = .ok (.isub, 1) := by decide +kernel
theorem dJ6_bitCount_0f7a4_9 : decode cJ6_bitCount_0f7a4 9 = .ok (.istore_n 0, 1) := by decide +kernel
theorem dJ6_bitCount_0f7a4_10 : decode cJ6_bitCount_0f7a4 10 = .ok (.iload_n 0, 1) := by decide +kernel
theorem dJ6_bitCount_0f7a4_11 : decode cJ6_bitCount_0f7a4 11 = .ok (.ldc_w 266, 3) := by decide +kernel
theorem dJ6_bitCount_0f7a4_14 : decode cJ6_bitCount_0f7a4 14 = .ok (.iand, 1) := by decide +kernel
theorem dJ6_bitCount_0f7a4_15 : decode cJ6_bitCount_0f7a4 15 = .ok (.iload_n 0, 1) := by decide +kernel
theorem dJ6_bitCount_0f7a4_16 : decode cJ6_bitCount_0f7a4 16 = .ok (.iconst 2, 1) := by decide +kernel
theorem dJ6_bitCount_0f7a4_17 : decode cJ6_bitCount_0f7a4 17 = .ok (.iushr, 1) := by decide +kernel
theorem dJ6_bitCount_0f7a4_18 : decode cJ6_bitCount_0f7a4 18 = .ok (.ldc_w 266, 3) := by decide +kernel
theorem dJ6_bitCount_0f7a4_21 : decode cJ6_bitCount_0f7a4 21 = .ok (.iand, 1) := by decide +kernel
theorem dJ6_bitCount_0f7a4_22 : decode cJ6_bitCount_0f7a4 22 = .ok (.iadd, 1) := by decide +kernel
theorem dJ6_bitCount_0f7a4_23 : decode cJ6_bitCount_0f7a4 23 = .ok (.istore_n 0, 1) := by decide +kernel
theorem dJ6_bitCount_0f7a4_24 : decode cJ6_bitCount_0f7a4 24 = .ok (.iload_n 0, 1) := by decide +kernel
theorem dJ6_bitCount_0f7a4_25 : decode cJ6_bitCount_0f7a4 25 = .ok (.iload_n 0, 1) := by decide +kernel
theorem dJ6_bitCount_0f7a4_26 : decode cJ6_bitCount_0f7a4 26 = .ok (.iconst 4, 1) := by decide +kernel
theorem dJ6_bitCount_0f7a4_27 : decode cJ6_bitCount_0f7a4 27 = .ok (.iushr, 1) := by decide +kernel
theorem dJ6_bitCount_0f7a4_28 : decode cJ6_bitCount_0f7a4 28 = .ok (.iadd, 1) := by decide +kernel
theorem dJ6_bitCount_0f7a4_29 : decode cJ6_bitCount_0f7a4 29 = .ok (.ldc_w 267, 3) := by decide +kernel
theorem dJ6_bitCount_0f7a4_32 : decode cJ6_bitCount_0f7a4 32 = .ok (.iand, 1) := by decide +kernel
theorem dJ6_bitCount_0f7a4_33 : decode cJ6_bitCount_0f7a4 33 = .ok (.istore_n 0, 1) := by decide +kernel
theorem dJ6_bitCount_0f7a4_34 : decode cJ6_bitCount_0f7a4 34 = .ok (.iload_n 0, 1) := by decide +kernel
theorem dJ6_bitCount_0f7a4_35 : decode cJ6_bitCount_0f7a4 35 = .ok (.iload_n 0, 1) := by decide +kernel
theorem dJ6_bitCount_0f7a4_36 : decode cJ6_bitCount_0f7a4 36 = .ok (.bipush 8, 2) := by decide +kernel
theorem dJ6_bitCount_0f7a4_38 : decode cJ6_bitCount_0f7a4 38 = .ok (.iushr, 1) := by decide +kernel
theorem dJ6_bitCount_0f7a4_39 : decode cJ6_bitCount_0f7a4 39 = .ok (.iadd, 1) := by decide +kernel
theorem dJ6_bitCount_0f7a4_40 : decode cJ6_bitCount_0f7a4 40 = .ok (.istore_n 0, 1) := by decide +kernel
theorem dJ6_bitCount_0f7a4_41 : decode cJ6_bitCount_0f7a4 41 = .ok (.iload_n 0, 1) := by decide +kernel
theorem dJ6_bitCount_0f7a4_42 : decode cJ6_bitCount_0f7a4 42 = .ok (.iload_n 0, 1) := by decide +kernel
theorem dJ6_bitCount_0f7a4_43 : decode cJ6_bitCount_0f7a4 43 = .ok (.bipush 16, 2) := by decide +kernel
theorem dJ6_bitCount_0f7a4_45 : decode cJ6_bitCount_0f7a4 45 = .ok (.iushr, 1) := by decide +kernel
theorem dJ6_bitCount_0f7a4_46 : decode cJ6_bitCount_0f7a4 46 = .ok (.iadd, 1) := by decide +kernel
theorem dJ6_bitCount_0f7a4_47 : decode cJ6_bitCount_0f7a4 47 = .ok (.istore_n 0, 1) := by decide +kernel
theorem dJ6_bitCount_0f7a4_48 : decode cJ6_bitCount_0f7a4 48 = .ok (.iload_n 0, 1) := by decide +kernel
theorem dJ6_bitCount_0f7a4_49 : decode cJ6_bitCount_0f7a4 49 = .ok (.bipush 63, 2) := by decide +kernel
theorem dJ6_bitCount_0f7a4_51 : decode cJ6_bitCount_0f7a4 51 = .ok (.iand, 1) := by decide +kernel
theorem dJ6_bitCount_0f7a4_52 : decode cJ6_bitCount_0f7a4 52 = .ok (.ireturn, 1) := by decide +kernel
theorem dJ9_max_7cf53_0 : decode cJ9_max_7cf53 0 = .ok (.iload_n 0, 1) := by decide +kernel
theorem dJ9_max_7cf53_1 : decode cJ9_max_7cf53 1 = .ok (.iload_n 1, 1) := by decide +kernel
theorem dJ9_max_7cf53_2 : decode cJ9_max_7cf53 2 = .ok (.if_icmp .lt 7, 3) := by decide +kernel
theorem dJ9_max_7cf53_5 : decode cJ9_max_7cf53 5 = .ok (.iload_n 0, 1) := by decide +kernel
theorem dJ9_max_7cf53_6 : decode cJ9_max_7cf53 6 = .ok (.goto 4, 3) := by decide +kernel
theorem dJ9_max_7cf53_9 : decode cJ9_max_7cf53 9 = .ok (.iload_n 1, 1) := by decide +kernel
theorem dJ9_max_7cf53_10 : decode cJ9_max_7cf53 10 = .ok (.ireturn, 1) := by decide +kernel
theorem dJ9_min_7cf53_0 : decode cJ9_min_7cf53 0 = .ok (.iload_n 0, 1) := by decide +kernel
theorem dJ9_min_7cf53_1 : decode cJ9_min_7cf53 1 = .ok (.iload_n 1, 1) := by decide +kernel
theorem dJ9_min_7cf53_2 : decode cJ9_min_7cf53 2 = .ok (.if_icmp .gt 7, 3) := by decide +kernel
theorem dJ9_min_7cf53_5 : decode cJ9_min_7cf53 5 = .ok (.iload_n 0, 1) := by decide +kernel
theorem dJ9_min_7cf53_6 : decode cJ9_min_7cf53 6 = .ok (.goto 4, 3) := by decide +kernel
theorem dJ9_min_7cf53_9 : decode cJ9_min_7cf53 9 = .ok (.iload_n 1, 1) := by decide +kernel
theorem dJ9_min_7cf53_10 : decode cJ9_min_7cf53 10 = .ok (.ireturn, 1) := by decide +kernel
theorem dL_cell_0 : decode cL_cell 0 = .ok (.iload_n 1, 1) := by decide +kernel
theorem dL_cell_1 : decode cL_cell 1 = .ok (.aload_n 0, 1) := by decide +kernel
theorem dL_cell_2 : decode cL_cell 2 = .ok (.arraylength, 1) := by decide +kernel
theorem dL_cell_3 : decode cL_cell 3 = .ok (.if_icmp .ge 9, 3) := by decide +kernel
theorem dL_cell_6 : decode cL_cell 6 = .ok (.aload_n 0, 1) := by decide +kernel
theorem dL_cell_7 : decode cL_cell 7 = .ok (.iload_n 1, 1) := by decide +kernel
theorem dL_cell_8 : decode cL_cell 8 = .ok (.iaload, 1) := by decide +kernel
theorem dL_cell_9 : decode cL_cell 9 = .ok (.goto 11, 3) := by decide +kernel
theorem dL_cell_12 : decode cL_cell 12 = .ok (.ldc 7, 2) := by decide +kernel
theorem dL_cell_14 : decode cL_cell 14 = .ok (.iload_n 1, 1) := by decide +kernel
theorem dL_cell_15 : decode cL_cell 15 = .ok (.sipush 1907, 3) := by decide +kernel
theorem dL_cell_18 : decode cL_cell 18 = .ok (.iadd, 1) := by decide +kernel
theorem dL_cell_19 : decode cL_cell 19 = .ok (.imul, 1) := by decide +kernel
theorem dL_cell_20 : decode cL_cell 20 = .ok (.ireturn, 1) := by decide +kernel
theorem dL_up_0 : decode cL_up 0 = .ok (.iload_n 0, 1) := by decide +kernel
theorem dL_up_1 : decode cL_up 1 = .ok (.ldc 8, 2) := by decide +kernel
theorem dL_up_3 : decode cL_up 3 = .ok (.iand, 1) := by decide +kernel
theorem dL_up_4 : decode cL_up 4 = .ok (.iload_n 1, 1) := by decide +kernel
theorem dL_up_5 : decode cL_up 5 = .ok (.irem, 1) := by decide +kernel
theorem dL_up_6 : decode cL_up 6 = .ok (.ireturn, 1) := by decide +kernel
set_option maxRecDepth 20000 in
theorem ggL_give_X5_give : GoodIn wsL_give wsX5_give := goodIn_ca (goodIn_ca (goodIn_r _ [9, 10, 11, 12, 13, 14, 15, 8, 16, 17, 18, 19, 20, 21, 22, 23, 24, 25, 26, 27, 28, 29, 30, 31, 32, 33, 34, 35, 36, 37, 38, 39, 40, 41, 42, 43, 44, 45, 46, 47, 48, 49, 50, 51, 52, 53, 54, 55, 56, 57, 58, 59, 60, 61, 62, 63, 64, 65, 66, 67, 68, 69, 70, 71, 72, 73, 74, 75, 76, 77, 78, 79, 80, 81, 82, 83, 84, 85, 86, 87, 88, 89, 90, 91, 92, 93, 94, 95, 96, 97, 98, 99, 100, 101, 102, 103, 104, 105] (by decide +kernel) (by decide +kernel)) (goodIn_sub (fun _ h => List.mem_cons_of_mem _ (List.mem_append_left _ (List.mem_append_right _ h))) (by decide +kernel))) (goodIn_sub (fun _ h => List.mem_cons_of_mem _ (List.mem_append_right _ h)) (by decide +kernel))
set_option maxRecDepth 20000 in
theorem gL_give_X5_give : GoodIn wsL_give (wsV RL 9 RX5 yX5_give wsX5_give) := goodIn_app (goodIn_of _ (by decide +kernel)) ggL_give_X5_give
theorem dL_give_0 : decode cL_give 0 = .ok (.aload_n 0, 1) := by decide +kernel
theorem dL_give_1 : decode cL_give 1 = .ok (.iload_n 1, 1) := by decide +kernel
theorem dL_give_2 : decode cL_give 2 = .ok (.invokevirtual 9, 3) := by decide +kernel
theorem dL_give_5 : decode cL_give 5 = .ok (.ireturn, 1) := by decide +kernel
theorem dL_give_6 : decode cL_give 6 = .ok (.astore_n 2, 1) := by decide +kernel
theorem dL_give_7 : decode cL_give 7 = .ok (.ldc 17, 2) := by decide +kernel
theorem dL_give_9 : decode cL_give 9 = .ok (.ireturn, 1) := by decide +kernel
theorem dL_give_10 : decode cL_give 10 = .ok (.astore_n 2, 1) := by decide +kernel
theorem dL_give_11 : decode cL_give 11 = .ok (.ldc 20, 2) := by decide +kernel
theorem dL_give_13 : decode cL_give 13 = .ok (.ireturn, 1) := by decide +kernel
set_option maxRecDepth 20000 in
theorem ggL_place_X5_place : GoodIn wsL_place wsX5_place := goodIn_ca (goodIn_ca (goodIn_r _ [9, 10, 11, 12, 13, 14, 15, 8, 16, 17, 18, 19, 20, 21, 22, 23, 24, 25, 26, 27, 28, 29, 30, 31, 32, 33, 34, 35, 36, 37, 38, 39, 40, 41, 42, 43, 44, 45, 46, 47, 48, 49, 50, 51, 52, 53, 54, 55, 56, 57, 58, 59, 60, 61, 62, 63, 64, 65, 66, 67, 68, 69, 70, 71, 72, 73, 74, 75, 76, 77, 78, 79, 80, 81, 82, 83, 84, 85, 86, 87, 88, 89, 90, 91, 92, 93, 94, 95, 96, 97, 98, 99, 100, 101, 102, 103, 104, 105, 106, 107, 108, 109, 110, 111, 112, 113, 114, 115, 116, 117, 118, 119, 120, 121, 122] (by decide +kernel) (by decide +kernel)) (goodIn_sub (fun _ h => List.mem_cons_of_mem _ (List.mem_append_left _ (List.mem_append_right _ h))) (by decide +kernel))) (goodIn_sub (fun _ h => List.mem_cons_of_mem _ (List.mem_append_right _ h)) (by decide +kernel))
set_option maxRecDepth 20000 in
theorem gL_place_X5_place : GoodIn wsL_place (wsV RL 21 RX5 yX5_place wsX5_place) := goodIn_app (goodIn_of _ (by decide +kernel)) ggL_place_X5_place
theorem dL_place_0 : decode cL_place 0 = .ok (.aload_n 0, 1) := by decide +kernel
theorem dL_place_1 : decode cL_place 1 = .ok (.iload_n 1, 1) := by decide +kernel
theorem dL_place_2 : decode cL_place 2 = .ok (.invokevirtual 21, 3) := by decide +kernel
theorem dL_place_5 : decode cL_place 5 = .ok (.ifCond .eq 7, 3) := by decide +kernel
theorem dL_place_8 : decode cL_place 8 = .ok (.iconst 1, 1) := by decide +kernel
theorem dL_place_9 : decode cL_place 9 = .ok (.goto 4, 3) := by decide +kernel
theorem dL_place_12 : decode cL_place 12 = .ok (.iconst 0, 1) := by decide +kernel
theorem dL_place_13 : decode cL_place 13 = .ok (.ireturn, 1) := by decide +kernel
theorem dL_place_14 : decode cL_place 14 = .ok (.astore_n 2, 1) := by decide +kernel
theorem dL_place_15 : decode cL_place 15 = .ok (.ldc 17, 2) := by decide +kernel
theorem dL_place_17 : decode cL_place 17 = .ok (.ireturn, 1) := by decide +kernel
theorem dL_place_18 : decode cL_place 18 = .ok (.astore_n 2, 1) := by decide +kernel
theorem dL_place_19 : decode cL_place 19 = .ok (.ldc 20, 2) := by decide +kernel
theorem dL_place_21 : decode cL_place 21 = .ok (.ireturn, 1) := by decide +kernel
set_option maxRecDepth 20000 in
theorem ggL_restart_X5_restart : GoodIn wsL_restart wsX5_restart := goodIn_ca (goodIn_r _ [7, 8, 9, 10, 11, 12, 13, 14, 15, 16, 17, 18, 19, 20, 21, 22, 23, 24, 25, 26, 27, 28, 29, 30, 31, 32, 33, 34, 35, 36, 37, 38, 39, 40, 41, 42, 43, 44, 45, 46, 47, 48, 49, 50, 51, 52, 53, 54, 55, 56, 57, 58, 59, 60, 61, 62, 63, 64, 65, 66, 67, 68, 69, 70, 71, 72, 73, 74, 75, 76, 77, 78, 79, 80, 81, 82, 83, 84, 85] (by decide +kernel) (by decide +kernel)) (goodIn_sub (fun _ h => List.mem_cons_of_mem _ (List.mem_append_right _ h)) (by decide +kernel))
set_option maxRecDepth 20000 in
theorem gL_restart_X5_restart : GoodIn wsL_restart (wsV RL 25 RX5 yX5_restart wsX5_restart) := goodIn_app (goodIn_of _ (by decide +kernel)) ggL_restart_X5_restart
theorem dL_restart_0 : decode cL_restart 0 = .ok (.aload_n 0, 1) := by decide +kernel
theorem dL_restart_1 : decode cL_restart 1 = .ok (.iload_n 1, 1) := by decide +kernel
theorem dL_restart_2 : decode cL_restart 2 = .ok (.invokevirtual 25, 3) := by decide +kernel
theorem dL_restart_5 : decode cL_restart 5 = .ok (.ireturn, 1) := by decide +kernel
theorem dL_restart_6 : decode cL_restart 6 = .ok (.astore_n 2, 1) := by decide +kernel
theorem dL_restart_7 : decode cL_restart 7 = .ok (.ldc 17, 2) := by decide +kernel
theorem dL_restart_9 : decode cL_restart 9 = .ok (.ireturn, 1) := by decide +kernel
set_option maxRecDepth 20000 in
theorem ggL_type_X5_type : GoodIn wsL_type wsX5_type := goodIn_ca (goodIn_r _ [7, 8, 9, 10, 11, 12, 13, 14, 15, 16, 17, 18, 19, 20, 21, 22, 23, 24, 25, 26, 27, 28, 29, 30, 31, 32, 33] (by decide +kernel) (by decide +kernel)) (goodIn_sub (fun _ h => List.mem_cons_of_mem _ (List.mem_append_right _ h)) (by decide +kernel))
set_option maxRecDepth 20000 in
theorem gL_type_X5_type : GoodIn wsL_type (wsV RL 30 RX5 yX5_type wsX5_type) := goodIn_app (goodIn_of _ (by decide +kernel)) ggL_type_X5_type
theorem dL_type_0 : decode cL_type 0 = .ok (.aload_n 0, 1) := by decide +kernel
theorem dL_type_1 : decode cL_type 1 = .ok (.iload_n 1, 1) := by decide +kernel
theorem dL_type_2 : decode cL_type 2 = .ok (.i2c, 1) := by decide +kernel
theorem dL_type_3 : decode cL_type 3 = .ok (.invokevirtual 30, 3) := by decide +kernel
theorem dL_type_6 : decode cL_type 6 = .ok (.ireturn, 1) := by decide +kernel
theorem dL_type_7 : decode cL_type 7 = .ok (.astore_n 2, 1) := by decide +kernel
theorem dL_type_8 : decode cL_type 8 = .ok (.ldc 17, 2) := by decide +kernel
theorem dL_type_10 : decode cL_type 10 = .ok (.ireturn, 1) := by decide +kernel
set_option maxRecDepth 20000 in
theorem ggL_carryOut_X5_carryOut : GoodIn wsL_carryOut wsX5_carryOut := goodIn_ca (goodIn_r _ [7, 8, 9, 10, 11, 12, 13, 14, 15, 16, 6, 17, 18, 19, 20, 21, 22, 23, 24, 25, 26, 27, 28, 29, 30, 31, 32, 33, 34, 35, 36, 37, 38, 39, 40, 41, 42, 43, 44, 45, 46, 47, 48, 49, 50, 51, 52, 53, 54, 55, 56, 57, 58, 59, 60, 61, 62, 63, 64, 65, 66, 67, 68, 69, 70, 71, 72, 73, 74, 75, 76, 77, 78, 79, 80, 81, 82, 83, 84, 85, 86, 87, 88, 89, 90, 91, 92, 93, 94, 95, 96, 97, 98, 99, 100, 101, 102, 103, 104, 105, 106, 107, 108, 109, 110, 111, 112, 113, 114, 115, 116, 117, 118, 119, 120, 121, 122, 123, 124, 125, 126, 127, 128, 129, 130, 131, 132, 133, 134, 135, 136, 137, 138, 139, 140, 141, 142, 143, 144, 145, 146, 147, 148, 149, 150, 151, 152, 153, 154, 155, 156, 157, 158, 159, 160, 161, 162, 163, 164, 165, 166, 167, 168, 169, 170, 171, 172, 173, 174, 175, 176, 177, 178, 179] (by decide +kernel) (by decide +kernel)) (goodIn_sub (fun _ h => List.mem_cons_of_mem _ (List.mem_append_right _ h)) (by decide +kernel))
set_option maxRecDepth 20000 in
theorem gL_carryOut_X5_carryOut : GoodIn wsL_carryOut (wsV RL 38 RX5 yX5_carryOut wsX5_carryOut) := goodIn_app (goodIn_of _ (by decide +kernel)) ggL_carryOut_X5_carryOut
theorem dL_carryOut_0 : decode cL_carryOut 0 = .ok (.aload_n 0, 1) := by decide +kernel
theorem dL_carryOut_1 : decode cL_carryOut 1 = .ok (.invokevirtual 38, 3) := by decide +kernel
theorem dL_carryOut_4 : decode cL_carryOut 4 = .ok (.ireturn, 1) := by decide +kernel
theorem dL_carryOut_5 : decode cL_carryOut 5 = .ok (.astore_n 1, 1) := by decide +kernel
theorem dL_carryOut_6 : decode cL_carryOut 6 = .ok (.ldc 17, 2) := by decide +kernel
theorem dL_carryOut_8 : decode cL_carryOut 8 = .ok (.ireturn, 1) := by decide +kernel
set_option maxRecDepth 20000 in
theorem ggL_undo_X5_undo : GoodIn wsL_undo wsX5_undo := goodIn_ca (goodIn_r _ [7, 8, 9, 10, 11, 12, 13, 14, 15, 16, 17, 18, 19, 20, 21, 22, 23, 24, 25, 26, 27, 28, 29, 30, 31, 32, 33, 34, 35, 36, 37, 38, 39, 40, 41, 42, 43, 44, 45, 46, 47, 48, 49, 50, 51, 52, 53, 54, 55, 56, 57, 58, 59, 60, 61, 62] (by decide +kernel) (by decide +kernel)) (goodIn_sub (fun _ h => List.mem_cons_of_mem _ (List.mem_append_right _ h)) (by decide +kernel))
set_option maxRecDepth 20000 in
theorem gL_undo_X5_undo : GoodIn wsL_undo (wsV RL 41 RX5 yX5_undo wsX5_undo) := goodIn_app (goodIn_of _ (by decide +kernel)) ggL_undo_X5_undo
theorem dL_undo_0 : decode cL_undo 0 = .ok (.aload_n 0, 1) := by decide +kernel
theorem dL_undo_1 : decode cL_undo 1 = .ok (.invokevirtual 41, 3) := by decide +kernel
theorem dL_undo_4 : decode cL_undo 4 = .ok (.ireturn, 1) := by decide +kernel
theorem dL_undo_5 : decode cL_undo 5 = .ok (.astore_n 1, 1) := by decide +kernel
theorem dL_undo_6 : decode cL_undo 6 = .ok (.ldc 17, 2) := by decide +kernel
theorem dL_undo_8 : decode cL_undo 8 = .ok (.ireturn, 1) := by decide +kernel
set_option maxRecDepth 20000 in
theorem ggL_restore_X5_restoreSnapshot : GoodIn wsL_restore wsX5_restoreSnapshot := goodIn_ca (goodIn_r _ [7, 8, 9, 10, 11, 12, 13, 14, 15, 16, 17, 18, 19, 20, 21, 22, 23, 24, 25, 26, 27, 28, 29, 30, 31, 32, 33, 34, 35, 36, 37, 38, 39, 40, 41, 42, 43, 44, 45, 46, 47, 48, 49, 50, 51, 52, 53, 54, 55, 56, 57, 58, 59, 60, 61, 62, 63, 64, 65, 66, 67, 68, 69, 70, 71, 72, 73, 74, 75, 76, 77, 78, 79, 80] (by decide +kernel) (by decide +kernel)) (goodIn_sub (fun _ h => List.mem_cons_of_mem _ (List.mem_append_right _ h)) (by decide +kernel))
set_option maxRecDepth 20000 in
theorem gL_restore_X5_restoreSnapshot : GoodIn wsL_restore (wsV RL 44 RX5 yX5_restoreSnapshot wsX5_restoreSnapshot) := goodIn_app (goodIn_of _ (by decide +kernel)) ggL_restore_X5_restoreSnapshot
theorem dL_restore_0 : decode cL_restore 0 = .ok (.aload_n 0, 1) := by decide +kernel
theorem dL_restore_1 : decode cL_restore 1 = .ok (.invokevirtual 44, 3) := by decide +kernel
theorem dL_restore_4 : decode cL_restore 4 = .ok (.ireturn, 1) := by decide +kernel
theorem dL_restore_5 : decode cL_restore 5 = .ok (.astore_n 1, 1) := by decide +kernel
theorem dL_restore_6 : decode cL_restore 6 = .ok (.ldc 17, 2) := by decide +kernel
theorem dL_restore_8 : decode cL_restore 8 = .ok (.ireturn, 1) := by decide +kernel
set_option maxRecDepth 20000 in
theorem ggL_pieceOn_X5_pieceOn : GoodIn wsL_pieceOn wsX5_pieceOn := goodIn_ca (goodIn_r _ [7, 8, 9, 10, 6, 11, 12, 13, 14, 15, 16, 17, 18, 19, 20, 21, 22, 23, 24, 25, 26, 27, 28, 29, 30, 31, 32, 33, 34, 35, 36, 37, 38, 39, 40, 41, 42, 43, 44] (by decide +kernel) (by decide +kernel)) (goodIn_sub (fun _ h => List.mem_cons_of_mem _ (List.mem_append_right _ h)) (by decide +kernel))
set_option maxRecDepth 20000 in
theorem gL_pieceOn_X5_pieceOn : GoodIn wsL_pieceOn (wsV RL 47 RX5 yX5_pieceOn wsX5_pieceOn) := goodIn_app (goodIn_of _ (by decide +kernel)) ggL_pieceOn_X5_pieceOn
theorem dL_pieceOn_0 : decode cL_pieceOn 0 = .ok (.aload_n 0, 1) := by decide +kernel
theorem dL_pieceOn_1 : decode cL_pieceOn 1 = .ok (.iload_n 1, 1) := by decide +kernel
theorem dL_pieceOn_2 : decode cL_pieceOn 2 = .ok (.invokevirtual 47, 3) := by decide +kernel
theorem dL_pieceOn_5 : decode cL_pieceOn 5 = .ok (.ireturn, 1) := by decide +kernel
theorem dL_pieceOn_6 : decode cL_pieceOn 6 = .ok (.astore_n 2, 1) := by decide +kernel
theorem dL_pieceOn_7 : decode cL_pieceOn 7 = .ok (.ldc 17, 2) := by decide +kernel
theorem dL_pieceOn_9 : decode cL_pieceOn 9 = .ok (.ireturn, 1) := by decide +kernel
set_option maxRecDepth 20000 in
theorem ggL_cellOf_X5_cellOf : GoodIn wsL_cellOf wsX5_cellOf := goodIn_ca (goodIn_r _ [7, 8, 9, 10, 6, 11, 12, 13, 14, 15, 16, 17, 18, 19, 20, 21, 22, 23, 24, 25, 26, 27, 28, 29, 30, 31, 32, 33, 34, 35, 36, 37, 38, 39, 40, 41, 42, 43, 44, 45, 46, 47, 48] (by decide +kernel) (by decide +kernel)) (goodIn_sub (fun _ h => List.mem_cons_of_mem _ (List.mem_append_right _ h)) (by decide +kernel))
set_option maxRecDepth 20000 in
theorem gL_cellOf_X5_cellOf : GoodIn wsL_cellOf (wsV RL 50 RX5 yX5_cellOf wsX5_cellOf) := goodIn_app (goodIn_of _ (by decide +kernel)) ggL_cellOf_X5_cellOf
theorem dL_cellOf_0 : decode cL_cellOf 0 = .ok (.aload_n 0, 1) := by decide +kernel
theorem dL_cellOf_1 : decode cL_cellOf 1 = .ok (.iload_n 1, 1) := by decide +kernel
theorem dL_cellOf_2 : decode cL_cellOf 2 = .ok (.invokevirtual 50, 3) := by decide +kernel
theorem dL_cellOf_5 : decode cL_cellOf 5 = .ok (.ireturn, 1) := by decide +kernel
theorem dL_cellOf_6 : decode cL_cellOf 6 = .ok (.astore_n 2, 1) := by decide +kernel
theorem dL_cellOf_7 : decode cL_cellOf 7 = .ok (.ldc 17, 2) := by decide +kernel
theorem dL_cellOf_9 : decode cL_cellOf 9 = .ok (.ireturn, 1) := by decide +kernel
set_option maxRecDepth 20000 in
theorem ggL_piecesOn_X5_piecesOn : GoodIn wsL_piecesOn wsX5_piecesOn := goodIn_ca (goodIn_r _ [7, 8, 9, 10, 11, 6, 12, 13, 14, 15, 16, 17, 18, 19, 20, 21, 22, 23, 24, 25, 26, 27, 28, 29, 30, 31, 32, 33, 34, 35, 36, 37, 38, 39, 40, 41, 42, 43, 44, 45, 46, 47, 48, 49, 50, 51, 52, 53, 54, 55, 56] (by decide +kernel) (by decide +kernel)) (goodIn_sub (fun _ h => List.mem_cons_of_mem _ (List.mem_append_right _ h)) (by decide +kernel))
set_option maxRecDepth 20000 in
theorem gL_piecesOn_X5_piecesOn : GoodIn wsL_piecesOn (wsV RL 53 RX5 yX5_piecesOn wsX5_piecesOn) := goodIn_app (goodIn_of _ (by decide +kernel)) ggL_piecesOn_X5_piecesOn
theorem dL_piecesOn_0 : decode cL_piecesOn 0 = .ok (.aload_n 0, 1) := by decide +kernel
theorem dL_piecesOn_1 : decode cL_piecesOn 1 = .ok (.iload_n 1, 1) := by decide +kernel
theorem dL_piecesOn_2 : decode cL_piecesOn 2 = .ok (.invokevirtual 53, 3) := by decide +kernel
theorem dL_piecesOn_5 : decode cL_piecesOn 5 = .ok (.ireturn, 1) := by decide +kernel
theorem dL_piecesOn_6 : decode cL_piecesOn 6 = .ok (.astore_n 2, 1) := by decide +kernel
theorem dL_piecesOn_7 : decode cL_piecesOn 7 = .ok (.ldc 17, 2) := by decide +kernel
theorem dL_piecesOn_9 : decode cL_piecesOn 9 = .ok (.ireturn, 1) := by decide +kernel
set_option maxRecDepth 20000 in
theorem ggL_shared_X5_sharedOn : GoodIn wsL_shared wsX5_sharedOn := goodIn_ca (goodIn_r _ [7, 8, 9, 10, 11, 6, 12, 13, 14, 15, 16, 17, 18, 19, 20, 21, 22, 23, 24, 25, 26, 27, 28, 29, 30, 31, 32, 33, 34, 35, 36, 37, 38, 39, 40, 41, 42, 43, 44, 45, 46, 47, 48, 49, 50] (by decide +kernel) (by decide +kernel)) (goodIn_sub (fun _ h => List.mem_cons_of_mem _ (List.mem_append_right _ h)) (by decide +kernel))
set_option maxRecDepth 20000 in
theorem gL_shared_X5_sharedOn : GoodIn wsL_shared (wsV RL 56 RX5 yX5_sharedOn wsX5_sharedOn) := goodIn_app (goodIn_of _ (by decide +kernel)) ggL_shared_X5_sharedOn
theorem dL_shared_0 : decode cL_shared 0 = .ok (.aload_n 0, 1) := by decide +kernel
theorem dL_shared_1 : decode cL_shared 1 = .ok (.iload_n 1, 1) := by decide +kernel
theorem dL_shared_2 : decode cL_shared 2 = .ok (.invokevirtual 56, 3) := by decide +kernel
theorem dL_shared_5 : decode cL_shared 5 = .ok (.ireturn, 1) := by decide +kernel
theorem dL_shared_6 : decode cL_shared 6 = .ok (.astore_n 2, 1) := by decide +kernel
theorem dL_shared_7 : decode cL_shared 7 = .ok (.ldc 17, 2) := by decide +kernel
theorem dL_shared_9 : decode cL_shared 9 = .ok (.ireturn, 1) := by decide +kernel
set_option maxRecDepth 20000 in
theorem ggL_wins_X5_winsOf : GoodIn wsL_wins wsX5_winsOf := goodIn_ca (goodIn_r _ [7, 8, 9, 10, 11, 12, 13, 14, 15, 16, 17, 18, 19, 20, 21, 22, 23, 24, 25, 26] (by decide +kernel) (by decide +kernel)) (goodIn_sub (fun _ h => List.mem_cons_of_mem _ (List.mem_append_right _ h)) (by decide +kernel))
set_option maxRecDepth 20000 in
theorem gL_wins_X5_winsOf : GoodIn wsL_wins (wsV RL 59 RX5 yX5_winsOf wsX5_winsOf) := goodIn_app (goodIn_of _ (by decide +kernel)) ggL_wins_X5_winsOf
theorem dL_wins_0 : decode cL_wins 0 = .ok (.aload_n 0, 1) := by decide +kernel
theorem dL_wins_1 : decode cL_wins 1 = .ok (.iload_n 1, 1) := by decide +kernel
theorem dL_wins_2 : decode cL_wins 2 = .ok (.invokevirtual 59, 3) := by decide +kernel
theorem dL_wins_5 : decode cL_wins 5 = .ok (.ireturn, 1) := by decide +kernel
theorem dL_wins_6 : decode cL_wins 6 = .ok (.astore_n 2, 1) := by decide +kernel
theorem dL_wins_7 : decode cL_wins 7 = .ok (.ldc 17, 2) := by decide +kernel
theorem dL_wins_9 : decode cL_wins 9 = .ok (.ireturn, 1) := by decide +kernel
set_option maxRecDepth 20000 in
theorem ggL_winningCell_X5_winningCell : GoodIn wsL_winningCell wsX5_winningCell := goodIn_ca (goodIn_r _ [7, 8, 9, 10, 11, 6, 12, 13, 14, 15, 16, 17, 18, 19, 20, 21, 22, 23, 24, 25, 26, 27, 28, 29, 30, 31, 32, 33, 34, 35, 36, 37, 38, 39, 40, 41, 42, 43, 44, 45, 46, 47, 48, 49, 50, 51, 52, 53, 54, 55, 56, 57, 58, 59, 60, 61, 62, 63, 64, 65, 66, 67, 68, 69, 70, 71, 72, 73, 74, 75, 76, 77, 78, 79, 80, 81, 82, 83, 84, 85, 86, 87, 88, 89, 90, 91, 92, 93, 94, 95, 96, 97, 98, 99, 100, 101, 102, 103, 104, 105, 106] (by decide +kernel) (by decide +kernel)) (goodIn_sub (fun _ h => List.mem_cons_of_mem _ (List.mem_append_right _ h)) (by decide +kernel))
set_option maxRecDepth 20000 in
theorem gL_winningCell_X5_winningCell : GoodIn wsL_winningCell (wsV RL 62 RX5 yX5_winningCell wsX5_winningCell) := goodIn_app (goodIn_of _ (by decide +kernel)) ggL_winningCell_X5_winningCell
theorem dL_winningCell_0 : decode cL_winningCell 0 = .ok (.aload_n 0, 1) := by decide +kernel
theorem dL_winningCell_1 : decode cL_winningCell 1 = .ok (.iload_n 1, 1) := by decide +kernel
theorem dL_winningCell_2 : decode cL_winningCell 2 = .ok (.invokevirtual 62, 3) := by decide +kernel
theorem dL_winningCell_5 : decode cL_winningCell 5 = .ok (.ireturn, 1) := by decide +kernel
theorem dL_winningCell_6 : decode cL_winningCell 6 = .ok (.astore_n 2, 1) := by decide +kernel
theorem dL_winningCell_7 : decode cL_winningCell 7 = .ok (.ldc 17, 2) := by decide +kernel
theorem dL_winningCell_9 : decode cL_winningCell 9 = .ok (.ireturn, 1) := by decide +kernel
set_option maxRecDepth 20000 in
theorem ggL_outcome_X5_outcome : GoodIn wsL_outcome wsX5_outcome := goodIn_ca (goodIn_r _ [7, 8, 9, 10, 11, 12, 6, 13, 14, 15, 16, 17, 18, 19, 20, 21, 22, 23, 24, 25, 26, 27, 28, 29, 30, 31, 32, 33, 34, 35, 36, 37, 38, 39, 40, 41, 42, 43, 44, 45, 46, 47, 48, 49, 50, 51, 52, 53, 54, 55, 56, 57, 58, 59, 60, 61, 62, 63, 64, 65, 66, 67, 68, 69, 70, 71, 72, 73, 74, 75, 76, 77, 78, 79, 80, 81, 82, 83, 84, 85, 86, 87, 88, 89, 90, 91, 92, 93, 94, 95, 96, 97, 98, 99, 100, 101, 102, 103, 104, 105, 106, 107, 108, 109, 110, 111, 112, 113, 114, 115, 116, 117, 118, 119, 120, 121, 122, 123] (by decide +kernel) (by decide +kernel)) (goodIn_sub (fun _ h => List.mem_cons_of_mem _ (List.mem_append_right _ h)) (by decide +kernel))
set_option maxRecDepth 20000 in
theorem gL_outcome_X5_outcome : GoodIn wsL_outcome (wsV RL 65 RX5 yX5_outcome wsX5_outcome) := goodIn_app (goodIn_of _ (by decide +kernel)) ggL_outcome_X5_outcome
theorem dL_outcome_0 : decode cL_outcome 0 = .ok (.aload_n 0, 1) := by decide +kernel
theorem dL_outcome_1 : decode cL_outcome 1 = .ok (.invokevirtual 65, 3) := by decide +kernel
theorem dL_outcome_4 : decode cL_outcome 4 = .ok (.ireturn, 1) := by decide +kernel
theorem dL_outcome_5 : decode cL_outcome 5 = .ok (.astore_n 1, 1) := by decide +kernel
theorem dL_outcome_6 : decode cL_outcome 6 = .ok (.ldc 17, 2) := by decide +kernel
theorem dL_outcome_8 : decode cL_outcome 8 = .ok (.ireturn, 1) := by decide +kernel
theorem dL_turned_0 : decode cL_turned 0 = .ok (.iload_n 0, 1) := by decide +kernel
theorem dL_turned_1 : decode cL_turned 1 = .ok (.iconst 4, 1) := by decide +kernel
theorem dL_turned_2 : decode cL_turned 2 = .ok (.irem, 1) := by decide +kernel
theorem dL_turned_3 : decode cL_turned 3 = .ok (.iconst 4, 1) := by decide +kernel
theorem dL_turned_4 : decode cL_turned 4 = .ok (.imul, 1) := by decide +kernel
theorem dL_turned_5 : decode cL_turned 5 = .ok (.iload_n 0, 1) := by decide +kernel
theorem dL_turned_6 : decode cL_turned 6 = .ok (.iconst 4, 1) := by decide +kernel
theorem dL_turned_7 : decode cL_turned 7 = .ok (.idiv, 1) := by decide +kernel
theorem dL_turned_8 : decode cL_turned 8 = .ok (.iadd, 1) := by decide +kernel
theorem dL_turned_9 : decode cL_turned 9 = .ok (.ireturn, 1) := by decide +kernel
theorem dL_line_0 : decode cL_line 0 = .ok (.iload_n 0, 1) := by decide +kernel
theorem dL_line_1 : decode cL_line 1 = .ok (.iconst 4, 1) := by decide +kernel
theorem dL_line_2 : decode cL_line 2 = .ok (.if_icmp .ge 9, 3) := by decide +kernel
theorem dL_line_5 : decode cL_line 5 = .ok (.iload_n 0, 1) := by decide +kernel
theorem dL_line_6 : decode cL_line 6 = .ok (.iconst 4, 1) := by decide +kernel
theorem dL_line_7 : decode cL_line 7 = .ok (.iadd, 1) := by decide +kernel
theorem dL_line_8 : decode cL_line 8 = .ok (.goto 43, 3) := by decide +kernel
theorem dL_line_11 : decode cL_line 11 = .ok (.iload_n 0, 1) := by decide +kernel
theorem dL_line_12 : decode cL_line 12 = .ok (.bipush 8, 2) := by decide +kernel
theorem dL_line_14 : decode cL_line 14 = .ok (.if_icmp .ge 9, 3) := by decide +kernel
theorem dL_line_17 : decode cL_line 17 = .ok (.iload_n 0, 1) := by decide +kernel
theorem dL_line_18 : decode cL_line 18 = .ok (.iconst 4, 1) := by decide +kernel
theorem dL_line_19 : decode cL_line 19 = .ok (.isub, 1) := by decide +kernel
theorem dL_line_20 : decode cL_line 20 = .ok (.goto 31, 3) := by decide +kernel
theorem dL_line_23 : decode cL_line 23 = .ok (.iload_n 0, 1) := by decide +kernel
theorem dL_line_24 : decode cL_line 24 = .ok (.bipush 10, 2) := by decide +kernel
theorem dL_line_26 : decode cL_line 26 = .ok (.if_icmp .ge 7, 3) := by decide +kernel
theorem dL_line_29 : decode cL_line 29 = .ok (.iload_n 0, 1) := by decide +kernel
theorem dL_line_30 : decode cL_line 30 = .ok (.goto 21, 3) := by decide +kernel
theorem dL_line_33 : decode cL_line 33 = .ok (.bipush 10, 2) := by decide +kernel
theorem dL_line_35 : decode cL_line 35 = .ok (.iload_n 0, 1) := by decide +kernel
theorem dL_line_36 : decode cL_line 36 = .ok (.bipush 10, 2) := by decide +kernel
theorem dL_line_38 : decode cL_line 38 = .ok (.isub, 1) := by decide +kernel
theorem dL_line_39 : decode cL_line 39 = .ok (.iconst 3, 1) := by decide +kernel
theorem dL_line_40 : decode cL_line 40 = .ok (.irem, 1) := by decide +kernel
theorem dL_line_41 : decode cL_line 41 = .ok (.iconst 3, 1) := by decide +kernel
theorem dL_line_42 : decode cL_line 42 = .ok (.imul, 1) := by decide +kernel
theorem dL_line_43 : decode cL_line 43 = .ok (.iadd, 1) := by decide +kernel
theorem dL_line_44 : decode cL_line 44 = .ok (.iload_n 0, 1) := by decide +kernel
theorem dL_line_45 : decode cL_line 45 = .ok (.bipush 10, 2) := by decide +kernel
theorem dL_line_47 : decode cL_line 47 = .ok (.isub, 1) := by decide +kernel
theorem dL_line_48 : decode cL_line 48 = .ok (.iconst 3, 1) := by decide +kernel
theorem dL_line_49 : decode cL_line 49 = .ok (.idiv, 1) := by decide +kernel
theorem dL_line_50 : decode cL_line 50 = .ok (.iadd, 1) := by decide +kernel
theorem dL_line_51 : decode cL_line 51 = .ok (.ireturn, 1) := by decide +kernel
theorem dL_other_0 : decode cL_other 0 = .ok (.iconst 0, 1) := by decide +kernel
theorem dL_other_1 : decode cL_other 1 = .ok (.istore_n 1, 1) := by decide +kernel
theorem dL_other_2 : decode cL_other 2 = .ok (.iconst 0, 1) := by decide +kernel
theorem dL_other_3 : decode cL_other 3 = .ok (.istore_n 2, 1) := by decide +kernel
theorem dL_other_4 : decode cL_other 4 = .ok (.iload_n 2, 1) := by decide +kernel
theorem dL_other_5 : decode cL_other 5 = .ok (.bipush 16, 2) := by decide +kernel
theorem dL_other_7 : decode cL_other 7 = .ok (.if_icmp .ge 22, 3) := by decide +kernel
theorem dL_other_10 : decode cL_other 10 = .ok (.iload_n 1, 1) := by decide +kernel
theorem dL_other_11 : decode cL_other 11 = .ok (.iload_n 0, 1) := by decide +kernel
theorem dL_other_12 : decode cL_other 12 = .ok (.iload_n 2, 1) := by decide +kernel
theorem dL_other_13 : decode cL_other 13 = .ok (.ishr, 1) := by decide +kernel
theorem dL_other_14 : decode cL_other 14 = .ok (.iconst 1, 1) := by decide +kernel
theorem dL_other_15 : decode cL_other 15 = .ok (.iand, 1) := by decide +kernel
theorem dL_other_16 : decode cL_other 16 = .ok (.bipush 15, 2) := by decide +kernel
theorem dL_other_18 : decode cL_other 18 = .ok (.iload_n 2, 1) := by decide +kernel
theorem dL_other_19 : decode cL_other 19 = .ok (.isub, 1) := by decide +kernel
theorem dL_other_20 : decode cL_other 20 = .ok (.ishl, 1) := by decide +kernel
theorem dL_other_21 : decode cL_other 21 = .ok (.ior, 1) := by decide +kernel
theorem dL_other_22 : decode cL_other 22 = .ok (.istore_n 1, 1) := by decide +kernel
theorem dL_other_23 : decode cL_other 23 = .ok (.iinc 2 1, 3) := by decide +kernel
theorem dL_other_26 : decode cL_other 26 = .ok (.goto (-22), 3) := by decide +kernel
theorem dL_other_29 : decode cL_other 29 = .ok (.iload_n 1, 1) := by decide +kernel
theorem dL_other_30 : decode cL_other 30 = .ok (.ireturn, 1) := by decide +kernel
set_option maxRecDepth 20000 in
theorem ggL_text_X5_clearText : GoodIn wsL_text wsX5_clearText := goodIn_r _ [5, 6, 7, 8, 9, 10, 11, 12, 13, 14, 15, 16, 188, 189, 190, 191, 192, 193, 194, 195] (by decide +kernel) (by decide +kernel)
set_option maxRecDepth 20000 in
theorem gL_text_X5_clearText : GoodIn wsL_text (wsV RL 71 RX5 yX5_clearText wsX5_clearText) := goodIn_app (goodIn_of _ (by decide +kernel)) ggL_text_X5_clearText
set_option maxRecDepth 20000 in
theorem ggL_text_L_type : GoodIn wsL_text wsL_type := goodIn_ca (goodIn_r _ [20, 21, 22, 23, 24, 25, 4, 26, 27, 28, 6, 29, 30, 31, 10, 32, 12, 33, 34, 35, 36, 37, 7, 8, 9, 11, 188, 189, 190, 191, 192, 193, 194, 195] (by decide +kernel) (by decide +kernel)) (goodIn_sub (fun _ h => List.mem_cons_of_mem _ (List.mem_append_right _ h)) (by decide +kernel))
set_option maxRecDepth 20000 in
theorem gL_text_L_type : GoodIn wsL_text (va_wsS RL 74 yL_type wsL_type) := goodIn_app (goodIn_of _ (by decide +kernel)) ggL_text_L_type
set_option maxRecDepth 20000 in
theorem ggL_text_L_carryOut : GoodIn wsL_text wsL_carryOut := goodIn_ca (goodIn_r _ [40, 21, 22, 41, 42, 43, 4, 44, 27, 28, 45, 46, 47, 6, 48, 49, 50, 51, 52, 53, 54, 10, 55, 12, 56, 57, 58, 59, 37, 60, 61, 62, 63, 64, 65, 66, 67, 68, 69, 70, 71, 72, 73, 74, 75, 76, 77, 78, 79, 80, 81, 82, 83, 84, 7, 8, 9, 11, 85, 86, 87, 88, 89, 90, 91, 92, 93, 94, 95, 96, 97, 98, 99, 100, 101, 102, 103, 104, 105, 106, 107, 108, 109, 110, 111, 112, 113, 114, 115, 116, 117, 118, 119, 120, 121, 122, 123, 124, 125, 126, 127, 128, 129, 130, 131, 132, 133, 134, 135, 136, 137, 138, 139, 140, 141, 142, 143, 144, 145, 146, 147, 148, 149, 150, 151, 152, 153, 154, 155, 156, 157, 158, 159, 160, 161, 162, 163, 164, 165, 166, 167, 168, 169, 170, 171, 172, 173, 174, 175, 176, 177, 178, 179, 180, 181, 182, 183, 184, 185, 186, 187, 188, 189, 190, 191, 192, 193, 194, 195, 196, 197, 198, 199, 200, 201, 202, 203, 204, 205, 206] (by decide +kernel) (by decide +kernel)) (goodIn_sub (fun _ h => List.mem_cons_of_mem _ (List.mem_append_right _ h)) (by decide +kernel))
set_option maxRecDepth 20000 in
theorem gL_text_L_carryOut : GoodIn wsL_text (va_wsS RL 79 yL_carryOut wsL_carryOut) := goodIn_app (goodIn_of _ (by decide +kernel)) ggL_text_L_carryOut
theorem dL_text_0 : decode cL_text 0 = .ok (.aload_n 0, 1) := by decide +kernel
theorem dL_text_1 : decode cL_text 1 = .ok (.invokevirtual 71, 3) := by decide +kernel
theorem dL_text_4 : decode cL_text 4 = .ok (.ifCond .lt 47, 3) := by decide +kernel
theorem dL_text_7 : decode cL_text 7 = .ok (.aload_n 0, 1) := by decide +kernel
theorem dL_text_8 : decode cL_text 8 = .ok (.iload_n 1, 1) := by decide +kernel
theorem dL_text_9 : decode cL_text 9 = .ok (.invokestatic 74, 3) := by decide +kernel
theorem dL_text_12 : decode cL_text 12 = .ok (.iconst 1, 1) := by decide +kernel
theorem dL_text_13 : decode cL_text 13 = .ok (.if_icmp .ne 38, 3) := by decide +kernel
theorem dL_text_16 : decode cL_text 16 = .ok (.iload_n 2, 1) := by decide +kernel
theorem dL_text_17 : decode cL_text 17 = .ok (.bipush 10, 2) := by decide +kernel
theorem dL_text_19 : decode cL_text 19 = .ok (.if_icmp .lt 13, 3) := by decide +kernel
theorem dL_text_22 : decode cL_text 22 = .ok (.aload_n 0, 1) := by decide +kernel
theorem dL_text_23 : decode cL_text 23 = .ok (.bipush 49, 2) := by decide +kernel
theorem dL_text_25 : decode cL_text 25 = .ok (.invokestatic 74, 3) := by decide +kernel
theorem dL_text_28 : decode cL_text 28 = .ok (.iconst 2, 1) := by decide +kernel
theorem dL_text_29 : decode cL_text 29 = .ok (.if_icmp .ne 22, 3) := by decide +kernel
theorem dL_text_32 : decode cL_text 32 = .ok (.aload_n 0, 1) := by decide +kernel
theorem dL_text_33 : decode cL_text 33 = .ok (.bipush 48, 2) := by decide +kernel
theorem dL_text_35 : decode cL_text 35 = .ok (.iload_n 2, 1) := by decide +kernel
theorem dL_text_36 : decode cL_text 36 = .ok (.bipush 10, 2) := by decide +kernel
theorem dL_text_38 : decode cL_text 38 = .ok (.irem, 1) := by decide +kernel
theorem dL_text_39 : decode cL_text 39 = .ok (.iadd, 1) := by decide +kernel
theorem dL_text_40 : decode cL_text 40 = .ok (.invokestatic 74, 3) := by decide +kernel
theorem dL_text_43 : decode cL_text 43 = .ok (.iconst 4, 1) := by decide +kernel
theorem dL_text_44 : decode cL_text 44 = .ok (.if_icmp .ge 7, 3) := by decide +kernel
theorem dL_text_47 : decode cL_text 47 = .ok (.iconst 1, 1) := by decide +kernel
theorem dL_text_48 : decode cL_text 48 = .ok (.goto 4, 3) := by decide +kernel
theorem dL_text_51 : decode cL_text 51 = .ok (.iconst 0, 1) := by decide +kernel
theorem dL_text_52 : decode cL_text 52 = .ok (.istore_n 3, 1) := by decide +kernel
theorem dL_text_53 : decode cL_text 53 = .ok (.iload_n 3, 1) := by decide +kernel
theorem dL_text_54 : decode cL_text 54 = .ok (.ifCond .eq 10, 3) := by decide +kernel
theorem dL_text_57 : decode cL_text 57 = .ok (.aload_n 0, 1) := by decide +kernel
theorem dL_text_58 : decode cL_text 58 = .ok (.invokestatic 79, 3) := by decide +kernel
theorem dL_text_61 : decode cL_text 61 = .ok (.goto 5, 3) := by decide +kernel
theorem dL_text_64 : decode cL_text 64 = .ok (.bipush (-99), 2) := by decide +kernel
theorem dL_text_66 : decode cL_text 66 = .ok (.ireturn, 1) := by decide +kernel
