set_option maxRecDepth 20000 in
theorem ggX5_init_X2_init : GoodIn wsX5_init wsX2_init := goodIn_r _ [21, 22, 2, 3, 23, 24, 25, 26, 27, 28, 29, 30, 31, 32, 33, 34, 35, 36, 37, 38, 70, 71, 72, 73, 55, 56, 57, 58] (by decide +kernel) (by decide +kernel)
set_option maxRecDepth 20000 in
theorem gX5_init_X2_init : GoodIn wsX5_init (wsX2_init) := ggX5_init_X2_init
set_option maxRecDepth 20000 in
theorem ggX5_init_X3_init : GoodIn wsX5_init wsX3_init := goodIn_r _ [41, 42, 2, 3, 43, 44, 5, 6, 45, 46, 47, 20, 21, 22, 23, 24, 25, 26, 27, 28, 29, 30, 31, 32, 33, 34, 35, 36, 37, 38, 65, 66, 67, 55, 56, 57, 58, 70, 71, 72, 73] (by decide +kernel) (by decide +kernel)
set_option maxRecDepth 20000 in
theorem gX5_init_X3_init : GoodIn wsX5_init (wsX3_init) := ggX5_init_X3_init
set_option maxRecDepth 20000 in
theorem ggX5_init_X4_init : GoodIn wsX5_init wsX4_init := goodIn_r _ [50, 51, 2, 3, 52, 53, 54, 68, 69] (by decide +kernel) (by decide +kernel)
set_option maxRecDepth 20000 in
theorem gX5_init_X4_init : GoodIn wsX5_init (wsX4_init) := ggX5_init_X4_init
theorem dX5_init_0 : decode cX5_init 0 = .ok (.aload_n 0, 1) := by decide +kernel
theorem dX5_init_1 : decode cX5_init 1 = .ok (.invokespecial 1, 3) := by decide +kernel
theorem dX5_init_4 : decode cX5_init 4 = .ok (.aload_n 0, 1) := by decide +kernel
theorem dX5_init_5 : decode cX5_init 5 = .ok (.new 7, 3) := by decide +kernel
theorem dX5_init_8 : decode cX5_init 8 = .ok (.dup, 1) := by decide +kernel
theorem dX5_init_9 : decode cX5_init 9 = .ok (.invokespecial 9, 3) := by decide +kernel
theorem dX5_init_12 : decode cX5_init 12 = .ok (.putfield 10, 3) := by decide +kernel
theorem dX5_init_15 : decode cX5_init 15 = .ok (.aload_n 0, 1) := by decide +kernel
theorem dX5_init_16 : decode cX5_init 16 = .ok (.new 7, 3) := by decide +kernel
theorem dX5_init_19 : decode cX5_init 19 = .ok (.dup, 1) := by decide +kernel
theorem dX5_init_20 : decode cX5_init 20 = .ok (.invokespecial 9, 3) := by decide +kernel
theorem dX5_init_23 : decode cX5_init 23 = .ok (.putfield 16, 3) := by decide +kernel
theorem dX5_init_26 : decode cX5_init 26 = .ok (.aload_n 0, 1) := by decide +kernel
theorem dX5_init_27 : decode cX5_init 27 = .ok (.new 7, 3) := by decide +kernel
theorem dX5_init_30 : decode cX5_init 30 = .ok (.dup, 1) := by decide +kernel
theorem dX5_init_31 : decode cX5_init 31 = .ok (.invokespecial 9, 3) := by decide +kernel
theorem dX5_init_34 : decode cX5_init 34 = .ok (.putfield 19, 3) := by decide +kernel
theorem dX5_init_37 : decode cX5_init 37 = .ok (.aload_n 0, 1) := by decide +kernel
theorem dX5_init_38 : decode cX5_init 38 = .ok (.iconst 0, 1) := by decide +kernel
theorem dX5_init_39 : decode cX5_init 39 = .ok (.putfield 22, 3) := by decide +kernel
theorem dX5_init_42 : decode cX5_init 42 = .ok (.aload_n 0, 1) := by decide +kernel
theorem dX5_init_43 : decode cX5_init 43 = .ok (.new 26, 3) := by decide +kernel
theorem dX5_init_46 : decode cX5_init 46 = .ok (.dup, 1) := by decide +kernel
theorem dX5_init_47 : decode cX5_init 47 = .ok (.invokespecial 28, 3) := by decide +kernel
theorem dX5_init_50 : decode cX5_init 50 = .ok (.putfield 29, 3) := by decide +kernel
theorem dX5_init_53 : decode cX5_init 53 = .ok (.aload_n 0, 1) := by decide +kernel
theorem dX5_init_54 : decode cX5_init 54 = .ok (.new 33, 3) := by decide +kernel
theorem dX5_init_57 : decode cX5_init 57 = .ok (.dup, 1) := by decide +kernel
theorem dX5_init_58 : decode cX5_init 58 = .ok (.invokespecial 35, 3) := by decide +kernel
theorem dX5_init_61 : decode cX5_init 61 = .ok (.putfield 36, 3) := by decide +kernel
theorem dX5_init_64 : decode cX5_init 64 = .ok (.return_, 1) := by decide +kernel
set_option maxRecDepth 20000 in
theorem ggX5_give_X5_requirePiece : GoodIn wsX5_give wsX5_requirePiece := goodIn_ca (goodIn_r _ [8, 9, 10] (by decide +kernel) (by decide +kernel)) (goodIn_sub (fun _ h => List.mem_cons_of_mem _ (List.mem_append_right _ h)) (by decide +kernel))
set_option maxRecDepth 20000 in
theorem gX5_give_X5_requirePiece : GoodIn wsX5_give (va_wsS RX5 40 yX5_requirePiece wsX5_requirePiece) := goodIn_app (goodIn_of _ (by decide +kernel)) ggX5_give_X5_requirePiece
set_option maxRecDepth 20000 in
theorem ggX5_give_X2_canGive : GoodIn wsX5_give wsX2_canGive := goodIn_r _ [15, 16, 17, 18, 19, 20, 14, 21, 22, 23, 24, 25, 26, 27, 28, 29, 30, 31, 32, 33, 34, 35, 36, 37, 38, 39, 40, 41, 42, 43, 44, 87, 88, 89, 90, 91, 92, 93, 94] (by decide +kernel) (by decide +kernel)
set_option maxRecDepth 20000 in
theorem gX5_give_X2_canGive : GoodIn wsX5_give (wsV RX5 44 RX2 yX2_canGive wsX2_canGive) := goodIn_app (goodIn_of _ (by decide +kernel)) ggX5_give_X2_canGive
set_option maxRecDepth 20000 in
theorem ggX5_give_X3_record : GoodIn wsX5_give wsX3_record := goodIn_r _ [49, 50, 51, 52, 53, 54, 55, 56, 57, 58, 48, 59, 60, 61, 62, 63, 14, 64, 17, 16, 22, 65, 66, 67, 68, 26, 69, 70, 32, 44, 71, 95, 96, 97, 87, 88, 89, 90, 91, 92, 93, 94] (by decide +kernel) (by decide +kernel)
set_option maxRecDepth 20000 in
theorem gX5_give_X3_record : GoodIn wsX5_give (wsV RX5 55 RX3 yX3_record wsX3_record) := goodIn_app (goodIn_of _ (by decide +kernel)) ggX5_give_X3_record
set_option maxRecDepth 20000 in
theorem ggX5_give_X2_setGift : GoodIn wsX5_give wsX2_setGift := goodIn_r _ [75, 16, 87, 88, 89, 90] (by decide +kernel) (by decide +kernel)
set_option maxRecDepth 20000 in
theorem gX5_give_X2_setGift : GoodIn wsX5_give (wsV RX5 59 RX2 yX2_setGift wsX2_setGift) := goodIn_app (goodIn_of _ (by decide +kernel)) ggX5_give_X2_setGift
set_option maxRecDepth 20000 in
theorem ggX5_give_X2_mover : GoodIn wsX5_give wsX2_mover := goodIn_r _ [79, 17, 16, 18, 19, 20, 14, 21, 22, 23, 24, 25, 26, 27, 28, 29, 30, 31, 32, 33, 34, 35, 36, 37, 38, 39, 80, 87, 88, 89, 90, 91, 92, 93, 94] (by decide +kernel) (by decide +kernel)
set_option maxRecDepth 20000 in
theorem gX5_give_X2_mover : GoodIn wsX5_give (wsV RX5 62 RX2 yX2_mover wsX2_mover) := goodIn_app (goodIn_of _ (by decide +kernel)) ggX5_give_X2_mover
theorem dX5_give_0 : decode cX5_give 0 = .ok (.iload_n 1, 1) := by decide +kernel
theorem dX5_give_1 : decode cX5_give 1 = .ok (.invokestatic 40, 3) := by decide +kernel
theorem dX5_give_4 : decode cX5_give 4 = .ok (.aload_n 0, 1) := by decide +kernel
theorem dX5_give_5 : decode cX5_give 5 = .ok (.getfield 10, 3) := by decide +kernel
theorem dX5_give_8 : decode cX5_give 8 = .ok (.iload_n 1, 1) := by decide +kernel
theorem dX5_give_9 : decode cX5_give 9 = .ok (.invokevirtual 44, 3) := by decide +kernel
theorem dX5_give_12 : decode cX5_give 12 = .ok (.ifCond .ne 13, 3) := by decide +kernel
theorem dX5_give_15 : decode cX5_give 15 = .ok (.new 48, 3) := by decide +kernel
theorem dX5_give_18 : decode cX5_give 18 = .ok (.dup, 1) := by decide +kernel
theorem dX5_give_19 : decode cX5_give 19 = .ok (.ldc 50, 2) := by decide +kernel
theorem dX5_give_21 : decode cX5_give 21 = .ok (.invokespecial 52, 3) := by decide +kernel
theorem dX5_give_24 : decode cX5_give 24 = .ok (.athrow, 1) := by decide +kernel
theorem dX5_give_25 : decode cX5_give 25 = .ok (.aload_n 0, 1) := by decide +kernel
theorem dX5_give_26 : decode cX5_give 26 = .ok (.getfield 29, 3) := by decide +kernel
theorem dX5_give_29 : decode cX5_give 29 = .ok (.aload_n 0, 1) := by decide +kernel
theorem dX5_give_30 : decode cX5_give 30 = .ok (.getfield 10, 3) := by decide +kernel
theorem dX5_give_33 : decode cX5_give 33 = .ok (.invokevirtual 55, 3) := by decide +kernel
theorem dX5_give_36 : decode cX5_give 36 = .ok (.aload_n 0, 1) := by decide +kernel
theorem dX5_give_37 : decode cX5_give 37 = .ok (.getfield 10, 3) := by decide +kernel
theorem dX5_give_40 : decode cX5_give 40 = .ok (.iload_n 1, 1) := by decide +kernel
theorem dX5_give_41 : decode cX5_give 41 = .ok (.invokevirtual 59, 3) := by decide +kernel
theorem dX5_give_44 : decode cX5_give 44 = .ok (.aload_n 0, 1) := by decide +kernel
theorem dX5_give_45 : decode cX5_give 45 = .ok (.getfield 10, 3) := by decide +kernel
theorem dX5_give_48 : decode cX5_give 48 = .ok (.invokevirtual 62, 3) := by decide +kernel
theorem dX5_give_51 : decode cX5_give 51 = .ok (.ireturn, 1) := by decide +kernel
set_option maxRecDepth 20000 in
theorem ggX5_place_X5_requireCell : GoodIn wsX5_place wsX5_requireCell := goodIn_ca (goodIn_r _ [8, 9, 10] (by decide +kernel) (by decide +kernel)) (goodIn_sub (fun _ h => List.mem_cons_of_mem _ (List.mem_append_right _ h)) (by decide +kernel))
set_option maxRecDepth 20000 in
theorem gX5_place_X5_requireCell : GoodIn wsX5_place (va_wsS RX5 66 yX5_requireCell wsX5_requireCell) := goodIn_app (goodIn_of _ (by decide +kernel)) ggX5_place_X5_requireCell
set_option maxRecDepth 20000 in
theorem ggX5_place_X2_canPut : GoodIn wsX5_place wsX2_canPut := goodIn_r _ [15, 16, 17, 18, 19, 20, 21, 22, 23, 104, 105, 106, 107, 108, 109, 110, 111] (by decide +kernel) (by decide +kernel)
set_option maxRecDepth 20000 in
theorem gX5_place_X2_canPut : GoodIn wsX5_place (wsV RX5 69 RX2 yX2_canPut wsX2_canPut) := goodIn_app (goodIn_of _ (by decide +kernel)) ggX5_place_X2_canPut
set_option maxRecDepth 20000 in
theorem ggX5_place_X3_record : GoodIn wsX5_place wsX3_record := goodIn_r _ [28, 29, 30, 31, 32, 33, 34, 35, 36, 37, 27, 38, 39, 40, 41, 42, 14, 43, 17, 16, 44, 45, 46, 47, 48, 21, 49, 50, 23, 51, 52, 112, 113, 114, 104, 105, 106, 107, 108, 109, 110, 111] (by decide +kernel) (by decide +kernel)
set_option maxRecDepth 20000 in
theorem gX5_place_X3_record : GoodIn wsX5_place (wsV RX5 55 RX3 yX3_record wsX3_record) := goodIn_app (goodIn_of _ (by decide +kernel)) ggX5_place_X3_record
set_option maxRecDepth 20000 in
theorem ggX5_place_X2_putGift : GoodIn wsX5_place wsX2_putGift := goodIn_r _ [56, 17, 16, 44, 45, 57, 58, 59, 14, 60, 61, 62, 63, 64, 65, 66, 67, 21, 68, 69, 70, 71, 72, 23, 73, 74, 75, 76, 77, 78, 79, 80, 81, 82, 83, 84, 51, 52, 85, 86, 87, 88, 89, 90, 91, 92, 50, 93, 94, 95, 96, 97, 104, 105, 106, 107, 108, 109, 110, 111] (by decide +kernel) (by decide +kernel)
set_option maxRecDepth 20000 in
theorem gX5_place_X2_putGift : GoodIn wsX5_place (wsV RX5 74 RX2 yX2_putGift wsX2_putGift) := goodIn_app (goodIn_of _ (by decide +kernel)) ggX5_place_X2_putGift
theorem dX5_place_0 : decode cX5_place 0 = .ok (.iload_n 1, 1) := by decide +kernel
theorem dX5_place_1 : decode cX5_place 1 = .ok (.invokestatic 66, 3) := by decide +kernel
theorem dX5_place_4 : decode cX5_place 4 = .ok (.aload_n 0, 1) := by decide +kernel
theorem dX5_place_5 : decode cX5_place 5 = .ok (.getfield 10, 3) := by decide +kernel
theorem dX5_place_8 : decode cX5_place 8 = .ok (.iload_n 1, 1) := by decide +kernel
theorem dX5_place_9 : decode cX5_place 9 = .ok (.invokevirtual 69, 3) := by decide +kernel
theorem dX5_place_12 : decode cX5_place 12 = .ok (.ifCond .ne 13, 3) := by decide +kernel
theorem dX5_place_15 : decode cX5_place 15 = .ok (.new 48, 3) := by decide +kernel
theorem dX5_place_18 : decode cX5_place 18 = .ok (.dup, 1) := by decide +kernel
theorem dX5_place_19 : decode cX5_place 19 = .ok (.ldc 72, 2) := by decide +kernel
theorem dX5_place_21 : decode cX5_place 21 = .ok (.invokespecial 52, 3) := by decide +kernel
theorem dX5_place_24 : decode cX5_place 24 = .ok (.athrow, 1) := by decide +kernel
theorem dX5_place_25 : decode cX5_place 25 = .ok (.aload_n 0, 1) := by decide +kernel
theorem dX5_place_26 : decode cX5_place 26 = .ok (.getfield 29, 3) := by decide +kernel
theorem dX5_place_29 : decode cX5_place 29 = .ok (.aload_n 0, 1) := by decide +kernel
theorem dX5_place_30 : decode cX5_place 30 = .ok (.getfield 10, 3) := by decide +kernel
theorem dX5_place_33 : decode cX5_place 33 = .ok (.invokevirtual 55, 3) := by decide +kernel
theorem dX5_place_36 : decode cX5_place 36 = .ok (.aload_n 0, 1) := by decide +kernel
theorem dX5_place_37 : decode cX5_place 37 = .ok (.getfield 10, 3) := by decide +kernel
theorem dX5_place_40 : decode cX5_place 40 = .ok (.iload_n 1, 1) := by decide +kernel
theorem dX5_place_41 : decode cX5_place 41 = .ok (.invokevirtual 74, 3) := by decide +kernel
theorem dX5_place_44 : decode cX5_place 44 = .ok (.ireturn, 1) := by decide +kernel
set_option maxRecDepth 20000 in
theorem ggX5_restart_X2_board : GoodIn wsX5_restart wsX2_board := goodIn_r _ [9, 10, 68, 69, 70, 71] (by decide +kernel) (by decide +kernel)
set_option maxRecDepth 20000 in
theorem gX5_restart_X2_board : GoodIn wsX5_restart (wsV RX5 82 RX2 yX2_board wsX2_board) := goodIn_app (goodIn_of _ (by decide +kernel)) ggX5_restart_X2_board
set_option maxRecDepth 20000 in
theorem ggX5_restart_X0_count : GoodIn wsX5_restart wsX0_count := goodIn_r _ [15, 16, 17, 18, 19, 20, 21, 22, 23, 72, 73, 74, 75] (by decide +kernel) (by decide +kernel)
set_option maxRecDepth 20000 in
theorem gX5_restart_X0_count : GoodIn wsX5_restart (wsV RX5 86 RX0 yX0_count wsX0_count) := goodIn_app (goodIn_of _ (by decide +kernel)) ggX5_restart_X0_count
set_option maxRecDepth 20000 in
theorem ggX5_restart_X3_record : GoodIn wsX5_restart wsX3_record := goodIn_r _ [28, 29, 30, 31, 32, 33, 34, 35, 36, 37, 27, 38, 39, 40, 41, 42, 8, 43, 10, 44, 45, 46, 47, 48, 49, 14, 50, 51, 16, 52, 53, 76, 77, 78, 68, 69, 70, 71, 72, 73, 74, 75] (by decide +kernel) (by decide +kernel)
set_option maxRecDepth 20000 in
theorem gX5_restart_X3_record : GoodIn wsX5_restart (wsV RX5 55 RX3 yX3_record wsX3_record) := goodIn_app (goodIn_of _ (by decide +kernel)) ggX5_restart_X3_record
set_option maxRecDepth 20000 in
theorem ggX5_restart_X2_begin : GoodIn wsX5_restart wsX2_begin := goodIn_r _ [57, 10, 44, 45, 58, 59, 60, 14, 61, 51, 16, 52, 53, 68, 69, 70, 71, 72, 73, 74, 75] (by decide +kernel) (by decide +kernel)
set_option maxRecDepth 20000 in
theorem gX5_restart_X2_begin : GoodIn wsX5_restart (wsV RX5 91 RX2 yX2_begin wsX2_begin) := goodIn_app (goodIn_of _ (by decide +kernel)) ggX5_restart_X2_begin
theorem dX5_restart_0 : decode cX5_restart 0 = .ok (.iload_n 1, 1) := by decide +kernel
theorem dX5_restart_1 : decode cX5_restart 1 = .ok (.ifCond .eq 18, 3) := by decide +kernel
theorem dX5_restart_4 : decode cX5_restart 4 = .ok (.iload_n 1, 1) := by decide +kernel
theorem dX5_restart_5 : decode cX5_restart 5 = .ok (.iconst 1, 1) := by decide +kernel
theorem dX5_restart_6 : decode cX5_restart 6 = .ok (.if_icmp .eq 13, 3) := by decide +kernel
theorem dX5_restart_9 : decode cX5_restart 9 = .ok (.new 77, 3) := by decide +kernel
theorem dX5_restart_12 : decode cX5_restart 12 = .ok (.dup, 1) := by decide +kernel
theorem dX5_restart_13 : decode cX5_restart 13 = .ok (.ldc 79, 2) := by decide +kernel
theorem dX5_restart_15 : decode cX5_restart 15 = .ok (.invokespecial 81, 3) := by decide +kernel
theorem dX5_restart_18 : decode cX5_restart 18 = .ok (.athrow, 1) := by decide +kernel
theorem dX5_restart_19 : decode cX5_restart 19 = .ok (.aload_n 0, 1) := by decide +kernel
theorem dX5_restart_20 : decode cX5_restart 20 = .ok (.getfield 10, 3) := by decide +kernel
theorem dX5_restart_23 : decode cX5_restart 23 = .ok (.invokevirtual 82, 3) := by decide +kernel
theorem dX5_restart_26 : decode cX5_restart 26 = .ok (.invokevirtual 86, 3) := by decide +kernel
theorem dX5_restart_29 : decode cX5_restart 29 = .ok (.istore_n 2, 1) := by decide +kernel
theorem dX5_restart_30 : decode cX5_restart 30 = .ok (.aload_n 0, 1) := by decide +kernel
theorem dX5_restart_31 : decode cX5_restart 31 = .ok (.getfield 29, 3) := by decide +kernel
theorem dX5_restart_34 : decode cX5_restart 34 = .ok (.aload_n 0, 1) := by decide +kernel
theorem dX5_restart_35 : decode cX5_restart 35 = .ok (.getfield 10, 3) := by decide +kernel
theorem dX5_restart_38 : decode cX5_restart 38 = .ok (.invokevirtual 55, 3) := by decide +kernel
theorem dX5_restart_41 : decode cX5_restart 41 = .ok (.aload_n 0, 1) := by decide +kernel
theorem dX5_restart_42 : decode cX5_restart 42 = .ok (.getfield 10, 3) := by decide +kernel
theorem dX5_restart_45 : decode cX5_restart 45 = .ok (.iload_n 1, 1) := by decide +kernel
theorem dX5_restart_46 : decode cX5_restart 46 = .ok (.invokevirtual 91, 3) := by decide +kernel
theorem dX5_restart_49 : decode cX5_restart 49 = .ok (.iload_n 2, 1) := by decide +kernel
theorem dX5_restart_50 : decode cX5_restart 50 = .ok (.ireturn, 1) := by decide +kernel
set_option maxRecDepth 20000 in
theorem ggX5_type_X4_isFull : GoodIn wsX5_type wsX4_isFull := goodIn_r _ [8, 9, 25, 26] (by decide +kernel) (by decide +kernel)
set_option maxRecDepth 20000 in
theorem gX5_type_X4_isFull : GoodIn wsX5_type (wsV RX5 94 RX4 yX4_isFull wsX4_isFull) := goodIn_app (goodIn_of _ (by decide +kernel)) ggX5_type_X4_isFull
set_option maxRecDepth 20000 in
theorem ggX5_type_X4_append : GoodIn wsX5_type wsX4_append := goodIn_r _ [13, 9, 14, 25, 26] (by decide +kernel) (by decide +kernel)
set_option maxRecDepth 20000 in
theorem gX5_type_X4_append : GoodIn wsX5_type (wsV RX5 100 RX4 yX4_append wsX4_append) := goodIn_app (goodIn_of _ (by decide +kernel)) ggX5_type_X4_append
set_option maxRecDepth 20000 in
theorem ggX5_type_X4_length : GoodIn wsX5_type wsX4_length := goodIn_r _ [18, 9, 25, 26] (by decide +kernel) (by decide +kernel)
set_option maxRecDepth 20000 in
theorem gX5_type_X4_length : GoodIn wsX5_type (wsV RX5 104 RX4 yX4_length wsX4_length) := goodIn_app (goodIn_of _ (by decide +kernel)) ggX5_type_X4_length
theorem dX5_type_0 : decode cX5_type 0 = .ok (.aload_n 0, 1) := by decide +kernel
theorem dX5_type_1 : decode cX5_type 1 = .ok (.getfield 36, 3) := by decide +kernel
theorem dX5_type_4 : decode cX5_type 4 = .ok (.invokevirtual 94, 3) := by decide +kernel
theorem dX5_type_7 : decode cX5_type 7 = .ok (.ifCond .eq 13, 3) := by decide +kernel
theorem dX5_type_10 : decode cX5_type 10 = .ok (.new 48, 3) := by decide +kernel
theorem dX5_type_13 : decode cX5_type 13 = .ok (.dup, 1) := by decide +kernel
theorem dX5_type_14 : decode cX5_type 14 = .ok (.ldc 98, 2) := by decide +kernel
theorem dX5_type_16 : decode cX5_type 16 = .ok (.invokespecial 52, 3) := by decide +kernel
theorem dX5_type_19 : decode cX5_type 19 = .ok (.athrow, 1) := by decide +kernel
theorem dX5_type_20 : decode cX5_type 20 = .ok (.aload_n 0, 1) := by decide +kernel
theorem dX5_type_21 : decode cX5_type 21 = .ok (.getfield 36, 3) := by decide +kernel
theorem dX5_type_24 : decode cX5_type 24 = .ok (.iload_n 1, 1) := by decide +kernel
theorem dX5_type_25 : decode cX5_type 25 = .ok (.invokevirtual 100, 3) := by decide +kernel
theorem dX5_type_28 : decode cX5_type 28 = .ok (.aload_n 0, 1) := by decide +kernel
theorem dX5_type_29 : decode cX5_type 29 = .ok (.getfield 36, 3) := by decide +kernel
theorem dX5_type_32 : decode cX5_type 32 = .ok (.invokevirtual 104, 3) := by decide +kernel
theorem dX5_type_35 : decode cX5_type 35 = .ok (.ireturn, 1) := by decide +kernel
set_option maxRecDepth 20000 in
theorem ggX5_clearText_X4_length : GoodIn wsX5_clearText wsX4_length := goodIn_r _ [6, 7, 18, 19] (by decide +kernel) (by decide +kernel)
set_option maxRecDepth 20000 in
theorem gX5_clearText_X4_length : GoodIn wsX5_clearText (wsV RX5 104 RX4 yX4_length wsX4_length) := goodIn_app (goodIn_of _ (by decide +kernel)) ggX5_clearText_X4_length
set_option maxRecDepth 20000 in
theorem ggX5_clearText_X4_empty : GoodIn wsX5_clearText wsX4_empty := goodIn_r _ [11, 7, 18, 19] (by decide +kernel) (by decide +kernel)
set_option maxRecDepth 20000 in
theorem gX5_clearText_X4_empty : GoodIn wsX5_clearText (wsV RX5 107 RX4 yX4_empty wsX4_empty) := goodIn_app (goodIn_of _ (by decide +kernel)) ggX5_clearText_X4_empty
theorem dX5_clearText_0 : decode cX5_clearText 0 = .ok (.aload_n 0, 1) := by decide +kernel
theorem dX5_clearText_1 : decode cX5_clearText 1 = .ok (.getfield 36, 3) := by decide +kernel
theorem dX5_clearText_4 : decode cX5_clearText 4 = .ok (.invokevirtual 104, 3) := by decide +kernel
theorem dX5_clearText_7 : decode cX5_clearText 7 = .ok (.istore_n 1, 1) := by decide +kernel
theorem dX5_clearText_8 : decode cX5_clearText 8 = .ok (.aload_n 0, 1) := by decide +kernel
theorem dX5_clearText_9 : decode cX5_clearText 9 = .ok (.getfield 36, 3) := by decide +kernel
theorem dX5_clearText_12 : decode cX5_clearText 12 = .ok (.invokevirtual 107, 3) := by decide +kernel
theorem dX5_clearText_15 : decode cX5_clearText 15 = .ok (.iload_n 1, 1) := by decide +kernel
theorem dX5_clearText_16 : decode cX5_clearText 16 = .ok (.ireturn, 1) := by decide +kernel
set_option maxRecDepth 20000 in
theorem ggX5_carryOut_X5_requireValidText : GoodIn wsX5_carryOut wsX5_requireValidText := goodIn_ca (goodIn_r _ [11, 1, 2, 6, 12, 13, 14, 15, 16, 17, 18, 19, 20, 21, 22, 23, 24, 25, 155, 156, 157, 158, 159, 160, 161, 162] (by decide +kernel) (by decide +kernel)) (goodIn_sub (fun _ h => List.mem_cons_of_mem _ (List.mem_append_right _ h)) (by decide +kernel))
set_option maxRecDepth 20000 in
theorem gX5_carryOut_X5_requireValidText : GoodIn wsX5_carryOut (wsV RX5 113 RX5 yX5_requireValidText wsX5_requireValidText) := goodIn_app (goodIn_of _ (by decide +kernel)) ggX5_carryOut_X5_requireValidText
set_option maxRecDepth 20000 in
theorem ggX5_carryOut_X5_tryText : GoodIn wsX5_carryOut wsX5_tryText := goodIn_r _ [29, 5, 4, 6, 30, 31, 32, 33, 34, 35, 36, 37, 38, 39, 40, 41, 42, 43, 44, 45, 46, 47, 48, 49, 50, 15, 51, 17, 52, 53, 54, 55, 18, 19, 20, 21, 22, 56, 57, 58, 59, 60, 61, 62, 63, 64, 65, 66, 67, 68, 69, 70, 71, 72, 73, 74, 75, 76, 77, 78, 79, 80, 81, 82, 83, 84, 85, 86, 87, 88, 89, 90, 91, 92, 93, 94, 95, 96, 97, 98, 99, 100, 101, 102, 103, 104, 105, 106, 107, 108, 109, 110, 111, 112, 113, 114, 115, 116, 117, 118, 119, 120, 121, 122, 123, 124, 125, 126, 127, 128, 129, 130, 131, 132, 155, 156, 157, 158, 159, 160, 163, 164, 165, 166, 167, 168, 169, 170, 161, 162] (by decide +kernel) (by decide +kernel)
set_option maxRecDepth 20000 in
theorem gX5_carryOut_X5_tryText : GoodIn wsX5_carryOut (wsV RX5 116 RX5 yX5_tryText wsX5_tryText) := goodIn_app (goodIn_of _ (by decide +kernel)) ggX5_carryOut_X5_tryText
set_option maxRecDepth 20000 in
theorem ggX5_carryOut_X3_record : GoodIn wsX5_carryOut wsX3_record := goodIn_r _ [137, 138, 139, 140, 141, 142, 143, 144, 145, 146, 136, 147, 148, 149, 31, 32, 33, 34, 35, 36, 37, 38, 39, 40, 41, 42, 43, 44, 45, 46, 47, 171, 172, 173, 163, 164, 165, 166, 167, 168, 169, 170] (by decide +kernel) (by decide +kernel)
set_option maxRecDepth 20000 in
theorem gX5_carryOut_X3_record : GoodIn wsX5_carryOut (wsV RX5 55 RX3 yX3_record wsX3_record) := goodIn_app (goodIn_of _ (by decide +kernel)) ggX5_carryOut_X3_record
set_option maxRecDepth 20000 in
theorem ggX5_carryOut_X2_copyFrom : GoodIn wsX5_carryOut wsX2_copyFrom := goodIn_r _ [34, 35, 36, 37, 38, 39, 40, 41, 42, 43, 44, 45, 46, 47, 163, 164, 165, 166, 167, 168, 169, 170] (by decide +kernel) (by decide +kernel)
set_option maxRecDepth 20000 in
theorem gX5_carryOut_X2_copyFrom : GoodIn wsX5_carryOut (wsV RX5 121 RX2 yX2_copyFrom wsX2_copyFrom) := goodIn_app (goodIn_of _ (by decide +kernel)) ggX5_carryOut_X2_copyFrom
set_option maxRecDepth 20000 in
theorem ggX5_carryOut_X4_moves : GoodIn wsX5_carryOut wsX4_moves := goodIn_r _ [153, 17, 154, 53, 54, 15, 55, 18, 19, 20, 21, 22, 161, 162] (by decide +kernel) (by decide +kernel)
set_option maxRecDepth 20000 in
theorem gX5_carryOut_X4_moves : GoodIn wsX5_carryOut (wsV RX5 124 RX4 yX4_moves wsX4_moves) := goodIn_app (goodIn_of _ (by decide +kernel)) ggX5_carryOut_X4_moves
theorem dX5_carryOut_0 : decode cX5_carryOut 0 = .ok (.aload_n 0, 1) := by decide +kernel
theorem dX5_carryOut_1 : decode cX5_carryOut 1 = .ok (.invokevirtual 113, 3) := by decide +kernel
theorem dX5_carryOut_4 : decode cX5_carryOut 4 = .ok (.aload_n 0, 1) := by decide +kernel
theorem dX5_carryOut_5 : decode cX5_carryOut 5 = .ok (.invokevirtual 116, 3) := by decide +kernel
theorem dX5_carryOut_8 : decode cX5_carryOut 8 = .ok (.iconst (-1), 1) := by decide +kernel
theorem dX5_carryOut_9 : decode cX5_carryOut 9 = .ok (.if_icmp .eq 13, 3) := by decide +kernel
theorem dX5_carryOut_12 : decode cX5_carryOut 12 = .ok (.new 48, 3) := by decide +kernel
theorem dX5_carryOut_15 : decode cX5_carryOut 15 = .ok (.dup, 1) := by decide +kernel
theorem dX5_carryOut_16 : decode cX5_carryOut 16 = .ok (.ldc 119, 2) := by decide +kernel
theorem dX5_carryOut_18 : decode cX5_carryOut 18 = .ok (.invokespecial 52, 3) := by decide +kernel
theorem dX5_carryOut_21 : decode cX5_carryOut 21 = .ok (.athrow, 1) := by decide +kernel
theorem dX5_carryOut_22 : decode cX5_carryOut 22 = .ok (.aload_n 0, 1) := by decide +kernel
theorem dX5_carryOut_23 : decode cX5_carryOut 23 = .ok (.getfield 29, 3) := by decide +kernel
theorem dX5_carryOut_26 : decode cX5_carryOut 26 = .ok (.aload_n 0, 1) := by decide +kernel
theorem dX5_carryOut_27 : decode cX5_carryOut 27 = .ok (.getfield 10, 3) := by decide +kernel
theorem dX5_carryOut_30 : decode cX5_carryOut 30 = .ok (.invokevirtual 55, 3) := by decide +kernel
theorem dX5_carryOut_33 : decode cX5_carryOut 33 = .ok (.aload_n 0, 1) := by decide +kernel
theorem dX5_carryOut_34 : decode cX5_carryOut 34 = .ok (.getfield 10, 3) := by decide +kernel
theorem dX5_carryOut_37 : decode cX5_carryOut 37 = .ok (.aload_n 0, 1) := by decide +kernel
theorem dX5_carryOut_38 : decode cX5_carryOut 38 = .ok (.getfield 16, 3) := by decide +kernel
theorem dX5_carryOut_41 : decode cX5_carryOut 41 = .ok (.invokevirtual 121, 3) := by decide +kernel
theorem dX5_carryOut_44 : decode cX5_carryOut 44 = .ok (.aload_n 0, 1) := by decide +kernel
theorem dX5_carryOut_45 : decode cX5_carryOut 45 = .ok (.getfield 36, 3) := by decide +kernel
theorem dX5_carryOut_48 : decode cX5_carryOut 48 = .ok (.invokevirtual 124, 3) := by decide +kernel
theorem dX5_carryOut_51 : decode cX5_carryOut 51 = .ok (.ireturn, 1) := by decide +kernel
set_option maxRecDepth 20000 in
theorem ggX5_undo_X3_size : GoodIn wsX5_undo wsX3_size := goodIn_r _ [9, 10, 45, 46, 47] (by decide +kernel) (by decide +kernel)
set_option maxRecDepth 20000 in
theorem gX5_undo_X3_size : GoodIn wsX5_undo (wsV RX5 127 RX3 yX3_size wsX3_size) := goodIn_app (goodIn_of _ (by decide +kernel)) ggX5_undo_X3_size
set_option maxRecDepth 20000 in
theorem ggX5_undo_X3_takeBack : GoodIn wsX5_undo wsX3_takeBack := goodIn_r _ [14, 15, 10, 16, 17, 18, 8, 19, 20, 21, 22, 23, 24, 25, 26, 27, 28, 29, 30, 31, 32, 33, 34, 35, 36, 37, 38, 45, 46, 47, 48, 49, 50, 51, 52, 53, 54, 55] (by decide +kernel) (by decide +kernel)
set_option maxRecDepth 20000 in
theorem gX5_undo_X3_takeBack : GoodIn wsX5_undo (wsV RX5 132 RX3 yX3_takeBack wsX3_takeBack) := goodIn_app (goodIn_of _ (by decide +kernel)) ggX5_undo_X3_takeBack
theorem dX5_undo_0 : decode cX5_undo 0 = .ok (.aload_n 0, 1) := by decide +kernel
theorem dX5_undo_1 : decode cX5_undo 1 = .ok (.getfield 29, 3) := by decide +kernel
theorem dX5_undo_4 : decode cX5_undo 4 = .ok (.invokevirtual 127, 3) := by decide +kernel
theorem dX5_undo_7 : decode cX5_undo 7 = .ok (.ifCond .ne 13, 3) := by decide +kernel
theorem dX5_undo_10 : decode cX5_undo 10 = .ok (.new 48, 3) := by decide +kernel
theorem dX5_undo_13 : decode cX5_undo 13 = .ok (.dup, 1) := by decide +kernel
theorem dX5_undo_14 : decode cX5_undo 14 = .ok (.ldc 130, 2) := by decide +kernel
theorem dX5_undo_16 : decode cX5_undo 16 = .ok (.invokespecial 52, 3) := by decide +kernel
theorem dX5_undo_19 : decode cX5_undo 19 = .ok (.athrow, 1) := by decide +kernel
theorem dX5_undo_20 : decode cX5_undo 20 = .ok (.aload_n 0, 1) := by decide +kernel
theorem dX5_undo_21 : decode cX5_undo 21 = .ok (.getfield 29, 3) := by decide +kernel
theorem dX5_undo_24 : decode cX5_undo 24 = .ok (.aload_n 0, 1) := by decide +kernel
theorem dX5_undo_25 : decode cX5_undo 25 = .ok (.getfield 10, 3) := by decide +kernel
theorem dX5_undo_28 : decode cX5_undo 28 = .ok (.invokevirtual 132, 3) := by decide +kernel
theorem dX5_undo_31 : decode cX5_undo 31 = .ok (.aload_n 0, 1) := by decide +kernel
theorem dX5_undo_32 : decode cX5_undo 32 = .ok (.getfield 29, 3) := by decide +kernel
theorem dX5_undo_35 : decode cX5_undo 35 = .ok (.invokevirtual 127, 3) := by decide +kernel
theorem dX5_undo_38 : decode cX5_undo 38 = .ok (.ireturn, 1) := by decide +kernel
set_option maxRecDepth 20000 in
theorem ggX5_takeSnapshot_X2_copyFrom : GoodIn wsX5_takeSnapshot wsX2_copyFrom := goodIn_r _ [8, 9, 10, 11, 12, 13, 14, 15, 16, 17, 18, 19, 20, 21, 43, 44, 45, 46, 47, 48, 49, 50] (by decide +kernel) (by decide +kernel)
set_option maxRecDepth 20000 in
theorem gX5_takeSnapshot_X2_copyFrom : GoodIn wsX5_takeSnapshot (wsV RX5 121 RX2 yX2_copyFrom wsX2_copyFrom) := goodIn_app (goodIn_of _ (by decide +kernel)) ggX5_takeSnapshot_X2_copyFrom
set_option maxRecDepth 20000 in
theorem ggX5_takeSnapshot_X2_board : GoodIn wsX5_takeSnapshot wsX2_board := goodIn_r _ [25, 9, 43, 44, 45, 46] (by decide +kernel) (by decide +kernel)
set_option maxRecDepth 20000 in
theorem gX5_takeSnapshot_X2_board : GoodIn wsX5_takeSnapshot (wsV RX5 82 RX2 yX2_board wsX2_board) := goodIn_app (goodIn_of _ (by decide +kernel)) ggX5_takeSnapshot_X2_board
set_option maxRecDepth 20000 in
theorem ggX5_takeSnapshot_X0_count : GoodIn wsX5_takeSnapshot wsX0_count := goodIn_r _ [29, 19, 30, 31, 32, 33, 34, 35, 36, 47, 48, 49, 50] (by decide +kernel) (by decide +kernel)
set_option maxRecDepth 20000 in
theorem gX5_takeSnapshot_X0_count : GoodIn wsX5_takeSnapshot (wsV RX5 86 RX0 yX0_count wsX0_count) := goodIn_app (goodIn_of _ (by decide +kernel)) ggX5_takeSnapshot_X0_count
theorem dX5_takeSnapshot_0 : decode cX5_takeSnapshot 0 = .ok (.aload_n 0, 1) := by decide +kernel
theorem dX5_takeSnapshot_1 : decode cX5_takeSnapshot 1 = .ok (.getfield 19, 3) := by decide +kernel
theorem dX5_takeSnapshot_4 : decode cX5_takeSnapshot 4 = .ok (.aload_n 0, 1) := by decide +kernel
theorem dX5_takeSnapshot_5 : decode cX5_takeSnapshot 5 = .ok (.getfield 10, 3) := by decide +kernel
theorem dX5_takeSnapshot_8 : decode cX5_takeSnapshot 8 = .ok (.invokevirtual 121, 3) := by decide +kernel
theorem dX5_takeSnapshot_11 : decode cX5_takeSnapshot 11 = .ok (.aload_n 0, 1) := by decide +kernel
theorem dX5_takeSnapshot_12 : decode cX5_takeSnapshot 12 = .ok (.iconst 1, 1) := by decide +kernel
theorem dX5_takeSnapshot_13 : decode cX5_takeSnapshot 13 = .ok (.putfield 22, 3) := by decide +kernel
theorem dX5_takeSnapshot_16 : decode cX5_takeSnapshot 16 = .ok (.aload_n 0, 1) := by decide +kernel
theorem dX5_takeSnapshot_17 : decode cX5_takeSnapshot 17 = .ok (.getfield 10, 3) := by decide +kernel
theorem dX5_takeSnapshot_20 : decode cX5_takeSnapshot 20 = .ok (.invokevirtual 82, 3) := by decide +kernel
theorem dX5_takeSnapshot_23 : decode cX5_takeSnapshot 23 = .ok (.invokevirtual 86, 3) := by decide +kernel
theorem dX5_takeSnapshot_26 : decode cX5_takeSnapshot 26 = .ok (.ireturn, 1) := by decide +kernel
set_option maxRecDepth 20000 in
theorem ggX5_restoreSnapshot_X3_record : GoodIn wsX5_restoreSnapshot wsX3_record := goodIn_r _ [11, 12, 13, 14, 15, 16, 17, 18, 19, 20, 10, 21, 22, 23, 24, 25, 26, 27, 28, 29, 30, 31, 32, 33, 34, 35, 36, 37, 38, 39, 40, 63, 64, 65, 66, 67, 68, 69, 70, 71, 72, 73] (by decide +kernel) (by decide +kernel)
set_option maxRecDepth 20000 in
theorem gX5_restoreSnapshot_X3_record : GoodIn wsX5_restoreSnapshot (wsV RX5 55 RX3 yX3_record wsX3_record) := goodIn_app (goodIn_of _ (by decide +kernel)) ggX5_restoreSnapshot_X3_record
set_option maxRecDepth 20000 in
theorem ggX5_restoreSnapshot_X2_copyFrom : GoodIn wsX5_restoreSnapshot wsX2_copyFrom := goodIn_r _ [27, 28, 29, 30, 31, 32, 33, 34, 35, 36, 37, 38, 39, 40, 66, 67, 68, 69, 70, 71, 72, 73] (by decide +kernel) (by decide +kernel)
set_option maxRecDepth 20000 in
theorem gX5_restoreSnapshot_X2_copyFrom : GoodIn wsX5_restoreSnapshot (wsV RX5 121 RX2 yX2_copyFrom wsX2_copyFrom) := goodIn_app (goodIn_of _ (by decide +kernel)) ggX5_restoreSnapshot_X2_copyFrom
set_option maxRecDepth 20000 in
theorem ggX5_restoreSnapshot_X2_board : GoodIn wsX5_restoreSnapshot wsX2_board := goodIn_r _ [45, 28, 66, 67, 68, 69] (by decide +kernel) (by decide +kernel)
set_option maxRecDepth 20000 in
theorem gX5_restoreSnapshot_X2_board : GoodIn wsX5_restoreSnapshot (wsV RX5 82 RX2 yX2_board wsX2_board) := goodIn_app (goodIn_of _ (by decide +kernel)) ggX5_restoreSnapshot_X2_board
set_option maxRecDepth 20000 in
theorem ggX5_restoreSnapshot_X0_count : GoodIn wsX5_restoreSnapshot wsX0_count := goodIn_r _ [49, 38, 50, 51, 52, 53, 54, 55, 56, 70, 71, 72, 73] (by decide +kernel) (by decide +kernel)
set_option maxRecDepth 20000 in
theorem gX5_restoreSnapshot_X0_count : GoodIn wsX5_restoreSnapshot (wsV RX5 86 RX0 yX0_count wsX0_count) := goodIn_app (goodIn_of _ (by decide +kernel)) ggX5_restoreSnapshot_X0_count
theorem dX5_restoreSnapshot_0 : decode cX5_restoreSnapshot 0 = .ok (.aload_n 0, 1) := by decide +kernel
theorem dX5_restoreSnapshot_1 : decode cX5_restoreSnapshot 1 = .ok (.getfield 22, 3) := by decide +kernel
theorem dX5_restoreSnapshot_4 : decode cX5_restoreSnapshot 4 = .ok (.ifCond .ne 13, 3) := by decide +kernel
theorem dX5_restoreSnapshot_7 : decode cX5_restoreSnapshot 7 = .ok (.new 48, 3) := by decide +kernel
theorem dX5_restoreSnapshot_10 : decode cX5_restoreSnapshot 10 = .ok (.dup, 1) := by decide +kernel
theorem dX5_restoreSnapshot_11 : decode cX5_restoreSnapshot 11 = .ok (.ldc 135, 2) := by decide +kernel
theorem dX5_restoreSnapshot_13 : decode cX5_restoreSnapshot 13 = .ok (.invokespecial 52, 3) := by decide +kernel
theorem dX5_restoreSnapshot_16 : decode cX5_restoreSnapshot 16 = .ok (.athrow, 1) := by decide +kernel
theorem dX5_restoreSnapshot_17 : decode cX5_restoreSnapshot 17 = .ok (.aload_n 0, 1) := by decide +kernel
theorem dX5_restoreSnapshot_18 : decode cX5_restoreSnapshot 18 = .ok (.getfield 29, 3) := by decide +kernel
theorem dX5_restoreSnapshot_21 : decode cX5_restoreSnapshot 21 = .ok (.aload_n 0, 1) := by decide +kernel
theorem dX5_restoreSnapshot_22 : decode cX5_restoreSnapshot 22 = .ok (.getfield 10, 3) := by decide +kernel
theorem dX5_restoreSnapshot_25 : decode cX5_restoreSnapshot 25 = .ok (.invokevirtual 55, 3) := by decide +kernel
theorem dX5_restoreSnapshot_28 : decode cX5_restoreSnapshot 28 = .ok (.aload_n 0, 1) := by decide +kernel
theorem dX5_restoreSnapshot_29 : decode cX5_restoreSnapshot 29 = .ok (.getfield 10, 3) := by decide +kernel
theorem dX5_restoreSnapshot_32 : decode cX5_restoreSnapshot 32 = .ok (.aload_n 0, 1) := by decide +kernel
theorem dX5_restoreSnapshot_33 : decode cX5_restoreSnapshot 33 = .ok (.getfield 19, 3) := by decide +kernel
theorem dX5_restoreSnapshot_36 : decode cX5_restoreSnapshot 36 = .ok (.invokevirtual 121, 3) := by decide +kernel
theorem dX5_restoreSnapshot_39 : decode cX5_restoreSnapshot 39 = .ok (.aload_n 0, 1) := by decide +kernel
theorem dX5_restoreSnapshot_40 : decode cX5_restoreSnapshot 40 = .ok (.getfield 10, 3) := by decide +kernel
theorem dX5_restoreSnapshot_43 : decode cX5_restoreSnapshot 43 = .ok (.invokevirtual 82, 3) := by decide +kernel
theorem dX5_restoreSnapshot_46 : decode cX5_restoreSnapshot 46 = .ok (.invokevirtual 86, 3) := by decide +kernel
theorem dX5_restoreSnapshot_49 : decode cX5_restoreSnapshot 49 = .ok (.ireturn, 1) := by decide +kernel
set_option maxRecDepth 20000 in
theorem ggX5_playerToMove_X2_mover : GoodIn wsX5_playerToMove wsX2_mover := goodIn_r _ [6, 7, 8, 9, 10, 11, 5, 12, 13, 14, 15, 16, 17, 18, 19, 20, 21, 22, 23, 24, 25, 26, 27, 28, 29, 30, 31, 38, 39, 40, 41, 42, 43, 44, 45] (by decide +kernel) (by decide +kernel)
set_option maxRecDepth 20000 in
theorem gX5_playerToMove_X2_mover : GoodIn wsX5_playerToMove (wsV RX5 62 RX2 yX2_mover wsX2_mover) := goodIn_app (goodIn_of _ (by decide +kernel)) ggX5_playerToMove_X2_mover
theorem dX5_playerToMove_0 : decode cX5_playerToMove 0 = .ok (.aload_n 0, 1) := by decide +kernel
theorem dX5_playerToMove_1 : decode cX5_playerToMove 1 = .ok (.getfield 10, 3) := by decide +kernel
theorem dX5_playerToMove_4 : decode cX5_playerToMove 4 = .ok (.invokevirtual 62, 3) := by decide +kernel
theorem dX5_playerToMove_7 : decode cX5_playerToMove 7 = .ok (.ireturn, 1) := by decide +kernel
set_option maxRecDepth 20000 in
theorem ggX5_gift_X2_pending : GoodIn wsX5_gift wsX2_pending := goodIn_r _ [6, 7, 14, 15, 16, 17] (by decide +kernel) (by decide +kernel)
set_option maxRecDepth 20000 in
theorem gX5_gift_X2_pending : GoodIn wsX5_gift (wsV RX5 137 RX2 yX2_pending wsX2_pending) := goodIn_app (goodIn_of _ (by decide +kernel)) ggX5_gift_X2_pending
theorem dX5_gift_0 : decode cX5_gift 0 = .ok (.aload_n 0, 1) := by decide +kernel
theorem dX5_gift_1 : decode cX5_gift 1 = .ok (.getfield 10, 3) := by decide +kernel
theorem dX5_gift_4 : decode cX5_gift 4 = .ok (.invokevirtual 137, 3) := by decide +kernel
theorem dX5_gift_7 : decode cX5_gift 7 = .ok (.ireturn, 1) := by decide +kernel
set_option maxRecDepth 20000 in
theorem ggX5_pieceOn_X5_requireCell : GoodIn wsX5_pieceOn wsX5_requireCell := goodIn_ca (goodIn_r _ [5, 6, 7] (by decide +kernel) (by decide +kernel)) (goodIn_sub (fun _ h => List.mem_cons_of_mem _ (List.mem_append_right _ h)) (by decide +kernel))
set_option maxRecDepth 20000 in
theorem gX5_pieceOn_X5_requireCell : GoodIn wsX5_pieceOn (va_wsS RX5 66 yX5_requireCell wsX5_requireCell) := goodIn_app (goodIn_of _ (by decide +kernel)) ggX5_pieceOn_X5_requireCell
set_option maxRecDepth 20000 in
theorem ggX5_pieceOn_X2_board : GoodIn wsX5_pieceOn wsX2_board := goodIn_r _ [12, 13, 31, 32, 33, 34] (by decide +kernel) (by decide +kernel)
set_option maxRecDepth 20000 in
theorem gX5_pieceOn_X2_board : GoodIn wsX5_pieceOn (wsV RX5 82 RX2 yX2_board wsX2_board) := goodIn_app (goodIn_of _ (by decide +kernel)) ggX5_pieceOn_X2_board
set_option maxRecDepth 20000 in
theorem ggX5_pieceOn_X0_pieceAt : GoodIn wsX5_pieceOn wsX0_pieceAt := goodIn_r _ [18, 19, 20, 21, 22, 17, 23, 24, 35, 36, 37, 38] (by decide +kernel) (by decide +kernel)
set_option maxRecDepth 20000 in
theorem gX5_pieceOn_X0_pieceAt : GoodIn wsX5_pieceOn (wsV RX5 140 RX0 yX0_pieceAt wsX0_pieceAt) := goodIn_app (goodIn_of _ (by decide +kernel)) ggX5_pieceOn_X0_pieceAt
theorem dX5_pieceOn_0 : decode cX5_pieceOn 0 = .ok (.iload_n 1, 1) := by decide +kernel
theorem dX5_pieceOn_1 : decode cX5_pieceOn 1 = .ok (.invokestatic 66, 3) := by decide +kernel
theorem dX5_pieceOn_4 : decode cX5_pieceOn 4 = .ok (.aload_n 0, 1) := by decide +kernel
theorem dX5_pieceOn_5 : decode cX5_pieceOn 5 = .ok (.getfield 10, 3) := by decide +kernel
theorem dX5_pieceOn_8 : decode cX5_pieceOn 8 = .ok (.invokevirtual 82, 3) := by decide +kernel
theorem dX5_pieceOn_11 : decode cX5_pieceOn 11 = .ok (.iload_n 1, 1) := by decide +kernel
theorem dX5_pieceOn_12 : decode cX5_pieceOn 12 = .ok (.invokevirtual 140, 3) := by decide +kernel
theorem dX5_pieceOn_15 : decode cX5_pieceOn 15 = .ok (.ireturn, 1) := by decide +kernel
set_option maxRecDepth 20000 in
theorem ggX5_cellOf_X5_requirePiece : GoodIn wsX5_cellOf wsX5_requirePiece := goodIn_ca (goodIn_r _ [5, 6, 7] (by decide +kernel) (by decide +kernel)) (goodIn_sub (fun _ h => List.mem_cons_of_mem _ (List.mem_append_right _ h)) (by decide +kernel))
set_option maxRecDepth 20000 in
theorem gX5_cellOf_X5_requirePiece : GoodIn wsX5_cellOf (va_wsS RX5 40 yX5_requirePiece wsX5_requirePiece) := goodIn_app (goodIn_of _ (by decide +kernel)) ggX5_cellOf_X5_requirePiece
set_option maxRecDepth 20000 in
theorem ggX5_cellOf_X2_board : GoodIn wsX5_cellOf wsX2_board := goodIn_r _ [12, 13, 35, 36, 37, 38] (by decide +kernel) (by decide +kernel)
set_option maxRecDepth 20000 in
theorem gX5_cellOf_X2_board : GoodIn wsX5_cellOf (wsV RX5 82 RX2 yX2_board wsX2_board) := goodIn_app (goodIn_of _ (by decide +kernel)) ggX5_cellOf_X2_board
set_option maxRecDepth 20000 in
theorem ggX5_cellOf_X0_cellWith : GoodIn wsX5_cellOf wsX0_cellWith := goodIn_r _ [18, 19, 20, 21, 17, 22, 23, 24, 25, 26, 27, 28, 39, 40, 41, 42] (by decide +kernel) (by decide +kernel)
set_option maxRecDepth 20000 in
theorem gX5_cellOf_X0_cellWith : GoodIn wsX5_cellOf (wsV RX5 144 RX0 yX0_cellWith wsX0_cellWith) := goodIn_app (goodIn_of _ (by decide +kernel)) ggX5_cellOf_X0_cellWith
theorem dX5_cellOf_0 : decode cX5_cellOf 0 = .ok (.iload_n 1, 1) := by decide +kernel
theorem dX5_cellOf_1 : decode cX5_cellOf 1 = .ok (.invokestatic 40, 3) := by decide +kernel
theorem dX5_cellOf_4 : decode cX5_cellOf 4 = .ok (.aload_n 0, 1) := by decide +kernel
theorem dX5_cellOf_5 : decode cX5_cellOf 5 = .ok (.getfield 10, 3) := by decide +kernel
theorem dX5_cellOf_8 : decode cX5_cellOf 8 = .ok (.invokevirtual 82, 3) := by decide +kernel
theorem dX5_cellOf_11 : decode cX5_cellOf 11 = .ok (.iload_n 1, 1) := by decide +kernel
theorem dX5_cellOf_12 : decode cX5_cellOf 12 = .ok (.invokevirtual 144, 3) := by decide +kernel
theorem dX5_cellOf_15 : decode cX5_cellOf 15 = .ok (.ireturn, 1) := by decide +kernel
set_option maxRecDepth 20000 in
theorem ggX5_placed_X2_board : GoodIn wsX5_placed wsX2_board := goodIn_r _ [6, 7, 27, 28, 29, 30] (by decide +kernel) (by decide +kernel)
set_option maxRecDepth 20000 in
theorem gX5_placed_X2_board : GoodIn wsX5_placed (wsV RX5 82 RX2 yX2_board wsX2_board) := goodIn_app (goodIn_of _ (by decide +kernel)) ggX5_placed_X2_board
set_option maxRecDepth 20000 in
theorem ggX5_placed_X0_count : GoodIn wsX5_placed wsX0_count := goodIn_r _ [12, 13, 14, 15, 16, 17, 18, 19, 20, 31, 32, 33, 34] (by decide +kernel) (by decide +kernel)
set_option maxRecDepth 20000 in
theorem gX5_placed_X0_count : GoodIn wsX5_placed (wsV RX5 86 RX0 yX0_count wsX0_count) := goodIn_app (goodIn_of _ (by decide +kernel)) ggX5_placed_X0_count
theorem dX5_placed_0 : decode cX5_placed 0 = .ok (.aload_n 0, 1) := by decide +kernel
theorem dX5_placed_1 : decode cX5_placed 1 = .ok (.getfield 10, 3) := by decide +kernel
theorem dX5_placed_4 : decode cX5_placed 4 = .ok (.invokevirtual 82, 3) := by decide +kernel
theorem dX5_placed_7 : decode cX5_placed 7 = .ok (.invokevirtual 86, 3) := by decide +kernel
theorem dX5_placed_10 : decode cX5_placed 10 = .ok (.ireturn, 1) := by decide +kernel
set_option maxRecDepth 20000 in
theorem ggX5_winner_X2_victor : GoodIn wsX5_winner wsX2_victor := goodIn_r _ [6, 7, 14, 15, 16, 17] (by decide +kernel) (by decide +kernel)
set_option maxRecDepth 20000 in
theorem gX5_winner_X2_victor : GoodIn wsX5_winner (wsV RX5 147 RX2 yX2_victor wsX2_victor) := goodIn_app (goodIn_of _ (by decide +kernel)) ggX5_winner_X2_victor
theorem dX5_winner_0 : decode cX5_winner 0 = .ok (.aload_n 0, 1) := by decide +kernel
theorem dX5_winner_1 : decode cX5_winner 1 = .ok (.getfield 10, 3) := by decide +kernel
theorem dX5_winner_4 : decode cX5_winner 4 = .ok (.invokevirtual 147, 3) := by decide +kernel
theorem dX5_winner_7 : decode cX5_winner 7 = .ok (.ireturn, 1) := by decide +kernel
set_option maxRecDepth 20000 in
theorem ggX5_isOver_X2_hasEnded : GoodIn wsX5_isOver wsX2_hasEnded := goodIn_r _ [6, 7, 8, 9, 10, 11, 12, 13, 14, 15, 16, 17, 18, 19, 20, 21, 22, 23, 24, 25, 32, 33, 34, 35, 36, 37, 38, 39] (by decide +kernel) (by decide +kernel)
set_option maxRecDepth 20000 in
theorem gX5_isOver_X2_hasEnded : GoodIn wsX5_isOver (wsV RX5 150 RX2 yX2_hasEnded wsX2_hasEnded) := goodIn_app (goodIn_of _ (by decide +kernel)) ggX5_isOver_X2_hasEnded
theorem dX5_isOver_0 : decode cX5_isOver 0 = .ok (.aload_n 0, 1) := by decide +kernel
theorem dX5_isOver_1 : decode cX5_isOver 1 = .ok (.getfield 10, 3) := by decide +kernel
theorem dX5_isOver_4 : decode cX5_isOver 4 = .ok (.invokevirtual 150, 3) := by decide +kernel
theorem dX5_isOver_7 : decode cX5_isOver 7 = .ok (.ireturn, 1) := by decide +kernel
set_option maxRecDepth 20000 in
theorem ggX5_lines_X2_board : GoodIn wsX5_lines wsX2_board := goodIn_r _ [6, 7, 20, 21, 22, 23] (by decide +kernel) (by decide +kernel)
set_option maxRecDepth 20000 in
theorem gX5_lines_X2_board : GoodIn wsX5_lines (wsV RX5 82 RX2 yX2_board wsX2_board) := goodIn_app (goodIn_of _ (by decide +kernel)) ggX5_lines_X2_board
set_option maxRecDepth 20000 in
theorem ggX5_lines_X0_lineCount : GoodIn wsX5_lines wsX0_lineCount := goodIn_r _ [12, 13, 24, 25, 26, 27] (by decide +kernel) (by decide +kernel)
set_option maxRecDepth 20000 in
theorem gX5_lines_X0_lineCount : GoodIn wsX5_lines (wsV RX5 153 RX0 yX0_lineCount wsX0_lineCount) := goodIn_app (goodIn_of _ (by decide +kernel)) ggX5_lines_X0_lineCount
theorem dX5_lines_0 : decode cX5_lines 0 = .ok (.aload_n 0, 1) := by decide +kernel
theorem dX5_lines_1 : decode cX5_lines 1 = .ok (.getfield 10, 3) := by decide +kernel
theorem dX5_lines_4 : decode cX5_lines 4 = .ok (.invokevirtual 82, 3) := by decide +kernel
theorem dX5_lines_7 : decode cX5_lines 7 = .ok (.invokevirtual 153, 3) := by decide +kernel
theorem dX5_lines_10 : decode cX5_lines 10 = .ok (.ireturn, 1) := by decide +kernel
set_option maxRecDepth 20000 in
theorem ggX5_piecesOn_X5_requireLine : GoodIn wsX5_piecesOn wsX5_requireLine := goodIn_ca (goodIn_r _ [6, 7, 8, 1, 9, 10, 11, 12, 13, 14, 15, 16, 17, 18, 19, 20, 37, 38, 39, 40, 41, 42, 43, 44, 45, 46, 47, 48, 49, 50] (by decide +kernel) (by decide +kernel)) (goodIn_sub (fun _ h => List.mem_cons_of_mem _ (List.mem_append_right _ h)) (by decide +kernel))
set_option maxRecDepth 20000 in
theorem gX5_piecesOn_X5_requireLine : GoodIn wsX5_piecesOn (wsV RX5 156 RX5 yX5_requireLine wsX5_requireLine) := goodIn_app (goodIn_of _ (by decide +kernel)) ggX5_piecesOn_X5_requireLine
set_option maxRecDepth 20000 in
theorem ggX5_piecesOn_X2_board : GoodIn wsX5_piecesOn wsX2_board := goodIn_r _ [13, 14, 43, 44, 45, 46] (by decide +kernel) (by decide +kernel)
set_option maxRecDepth 20000 in
theorem gX5_piecesOn_X2_board : GoodIn wsX5_piecesOn (wsV RX5 82 RX2 yX2_board wsX2_board) := goodIn_app (goodIn_of _ (by decide +kernel)) ggX5_piecesOn_X2_board
set_option maxRecDepth 20000 in
theorem ggX5_piecesOn_X0_countOn : GoodIn wsX5_piecesOn wsX0_countOn := goodIn_r _ [24, 25, 26, 27, 18, 28, 29, 30, 31, 32, 33, 34, 35, 36, 47, 48, 49, 50] (by decide +kernel) (by decide +kernel)
set_option maxRecDepth 20000 in
theorem gX5_piecesOn_X0_countOn : GoodIn wsX5_piecesOn (wsV RX5 159 RX0 yX0_countOn wsX0_countOn) := goodIn_app (goodIn_of _ (by decide +kernel)) ggX5_piecesOn_X0_countOn
theorem dX5_piecesOn_0 : decode cX5_piecesOn 0 = .ok (.aload_n 0, 1) := by decide +kernel
theorem dX5_piecesOn_1 : decode cX5_piecesOn 1 = .ok (.iload_n 1, 1) := by decide +kernel
theorem dX5_piecesOn_2 : decode cX5_piecesOn 2 = .ok (.invokevirtual 156, 3) := by decide +kernel
theorem dX5_piecesOn_5 : decode cX5_piecesOn 5 = .ok (.aload_n 0, 1) := by decide +kernel
theorem dX5_piecesOn_6 : decode cX5_piecesOn 6 = .ok (.getfield 10, 3) := by decide +kernel
theorem dX5_piecesOn_9 : decode cX5_piecesOn 9 = .ok (.invokevirtual 82, 3) := by decide +kernel
theorem dX5_piecesOn_12 : decode cX5_piecesOn 12 = .ok (.iload_n 1, 1) := by decide +kernel
theorem dX5_piecesOn_13 : decode cX5_piecesOn 13 = .ok (.invokevirtual 159, 3) := by decide +kernel
theorem dX5_piecesOn_16 : decode cX5_piecesOn 16 = .ok (.ireturn, 1) := by decide +kernel
set_option maxRecDepth 20000 in
theorem ggX5_sharedOn_X5_requireLine : GoodIn wsX5_sharedOn wsX5_requireLine := goodIn_ca (goodIn_r _ [6, 7, 8, 1, 9, 10, 11, 12, 13, 14, 15, 16, 17, 18, 19, 20, 31, 32, 33, 34, 35, 36, 37, 38, 39, 40, 41, 42, 43, 44] (by decide +kernel) (by decide +kernel)) (goodIn_sub (fun _ h => List.mem_cons_of_mem _ (List.mem_append_right _ h)) (by decide +kernel))
set_option maxRecDepth 20000 in
theorem gX5_sharedOn_X5_requireLine : GoodIn wsX5_sharedOn (wsV RX5 156 RX5 yX5_requireLine wsX5_requireLine) := goodIn_app (goodIn_of _ (by decide +kernel)) ggX5_sharedOn_X5_requireLine
set_option maxRecDepth 20000 in
theorem ggX5_sharedOn_X2_board : GoodIn wsX5_sharedOn wsX2_board := goodIn_r _ [13, 14, 37, 38, 39, 40] (by decide +kernel) (by decide +kernel)
set_option maxRecDepth 20000 in
theorem gX5_sharedOn_X2_board : GoodIn wsX5_sharedOn (wsV RX5 82 RX2 yX2_board wsX2_board) := goodIn_app (goodIn_of _ (by decide +kernel)) ggX5_sharedOn_X2_board
set_option maxRecDepth 20000 in
theorem ggX5_sharedOn_X0_sharedTraits : GoodIn wsX5_sharedOn wsX0_sharedTraits := goodIn_r _ [24, 25, 26, 27, 28, 18, 29, 30, 41, 42, 43, 44] (by decide +kernel) (by decide +kernel)
set_option maxRecDepth 20000 in
theorem gX5_sharedOn_X0_sharedTraits : GoodIn wsX5_sharedOn (wsV RX5 162 RX0 yX0_sharedTraits wsX0_sharedTraits) := goodIn_app (goodIn_of _ (by decide +kernel)) ggX5_sharedOn_X0_sharedTraits
theorem dX5_sharedOn_0 : decode cX5_sharedOn 0 = .ok (.aload_n 0, 1) := by decide +kernel
theorem dX5_sharedOn_1 : decode cX5_sharedOn 1 = .ok (.iload_n 1, 1) := by decide +kernel
theorem dX5_sharedOn_2 : decode cX5_sharedOn 2 = .ok (.invokevirtual 156, 3) := by decide +kernel
theorem dX5_sharedOn_5 : decode cX5_sharedOn 5 = .ok (.aload_n 0, 1) := by decide +kernel
theorem dX5_sharedOn_6 : decode cX5_sharedOn 6 = .ok (.getfield 10, 3) := by decide +kernel
theorem dX5_sharedOn_9 : decode cX5_sharedOn 9 = .ok (.invokevirtual 82, 3) := by decide +kernel
theorem dX5_sharedOn_12 : decode cX5_sharedOn 12 = .ok (.iload_n 1, 1) := by decide +kernel
theorem dX5_sharedOn_13 : decode cX5_sharedOn 13 = .ok (.invokevirtual 162, 3) := by decide +kernel
theorem dX5_sharedOn_16 : decode cX5_sharedOn 16 = .ok (.ireturn, 1) := by decide +kernel
set_option maxRecDepth 20000 in
theorem ggX5_wonLines_X2_board : GoodIn wsX5_wonLines wsX2_board := goodIn_r _ [6, 7, 31, 32, 33, 34] (by decide +kernel) (by decide +kernel)
set_option maxRecDepth 20000 in
theorem gX5_wonLines_X2_board : GoodIn wsX5_wonLines (wsV RX5 82 RX2 yX2_board wsX2_board) := goodIn_app (goodIn_of _ (by decide +kernel)) ggX5_wonLines_X2_board
set_option maxRecDepth 20000 in
theorem ggX5_wonLines_X0_wonCount : GoodIn wsX5_wonLines wsX0_wonCount := goodIn_r _ [12, 13, 14, 15, 11, 16, 17, 18, 19, 20, 21, 22, 23, 24, 35, 36, 37, 38] (by decide +kernel) (by decide +kernel)
set_option maxRecDepth 20000 in
theorem gX5_wonLines_X0_wonCount : GoodIn wsX5_wonLines (wsV RX5 165 RX0 yX0_wonCount wsX0_wonCount) := goodIn_app (goodIn_of _ (by decide +kernel)) ggX5_wonLines_X0_wonCount
theorem dX5_wonLines_0 : decode cX5_wonLines 0 = .ok (.aload_n 0, 1) := by decide +kernel
theorem dX5_wonLines_1 : decode cX5_wonLines 1 = .ok (.getfield 10, 3) := by decide +kernel
theorem dX5_wonLines_4 : decode cX5_wonLines 4 = .ok (.invokevirtual 82, 3) := by decide +kernel
theorem dX5_wonLines_7 : decode cX5_wonLines 7 = .ok (.invokevirtual 165, 3) := by decide +kernel
theorem dX5_wonLines_10 : decode cX5_wonLines 10 = .ok (.ireturn, 1) := by decide +kernel
set_option maxRecDepth 20000 in
theorem ggX5_winsOf_X2_victoriesOf : GoodIn wsX5_winsOf wsX2_victoriesOf := goodIn_r _ [8, 9, 16, 17, 18, 19] (by decide +kernel) (by decide +kernel)
set_option maxRecDepth 20000 in
theorem gX5_winsOf_X2_victoriesOf : GoodIn wsX5_winsOf (wsV RX5 173 RX2 yX2_victoriesOf wsX2_victoriesOf) := goodIn_app (goodIn_of _ (by decide +kernel)) ggX5_winsOf_X2_victoriesOf
theorem dX5_winsOf_0 : decode cX5_winsOf 0 = .ok (.iload_n 1, 1) := by decide +kernel
theorem dX5_winsOf_1 : decode cX5_winsOf 1 = .ok (.ifCond .lt 8, 3) := by decide +kernel
theorem dX5_winsOf_4 : decode cX5_winsOf 4 = .ok (.iload_n 1, 1) := by decide +kernel
theorem dX5_winsOf_5 : decode cX5_winsOf 5 = .ok (.iconst 2, 1) := by decide +kernel
theorem dX5_winsOf_6 : decode cX5_winsOf 6 = .ok (.if_icmp .lt 13, 3) := by decide +kernel
theorem dX5_winsOf_9 : decode cX5_winsOf 9 = .ok (.new 168, 3) := by decide +kernel
theorem dX5_winsOf_12 : decode cX5_winsOf 12 = .ok (.dup, 1) := by decide +kernel
theorem dX5_winsOf_13 : decode cX5_winsOf 13 = .ok (.ldc 170, 2) := by decide +kernel
theorem dX5_winsOf_15 : decode cX5_winsOf 15 = .ok (.invokespecial 172, 3) := by decide +kernel
theorem dX5_winsOf_18 : decode cX5_winsOf 18 = .ok (.athrow, 1) := by decide +kernel
theorem dX5_winsOf_19 : decode cX5_winsOf 19 = .ok (.aload_n 0, 1) := by decide +kernel
theorem dX5_winsOf_20 : decode cX5_winsOf 20 = .ok (.getfield 10, 3) := by decide +kernel
theorem dX5_winsOf_23 : decode cX5_winsOf 23 = .ok (.iload_n 1, 1) := by decide +kernel
theorem dX5_winsOf_24 : decode cX5_winsOf 24 = .ok (.invokevirtual 173, 3) := by decide +kernel
theorem dX5_winsOf_27 : decode cX5_winsOf 27 = .ok (.ireturn, 1) := by decide +kernel
set_option maxRecDepth 20000 in
theorem ggX5_winningCell_X5_requirePiece : GoodIn wsX5_winningCell wsX5_requirePiece := goodIn_ca (goodIn_r _ [6, 7, 8] (by decide +kernel) (by decide +kernel)) (goodIn_sub (fun _ h => List.mem_cons_of_mem _ (List.mem_append_right _ h)) (by decide +kernel))
set_option maxRecDepth 20000 in
theorem gX5_winningCell_X5_requirePiece : GoodIn wsX5_winningCell (va_wsS RX5 40 yX5_requirePiece wsX5_requirePiece) := goodIn_app (goodIn_of _ (by decide +kernel)) ggX5_winningCell_X5_requirePiece
set_option maxRecDepth 20000 in
theorem ggX5_winningCell_X2_hasEnded : GoodIn wsX5_winningCell wsX2_hasEnded := goodIn_r _ [13, 14, 15, 16, 17, 18, 19, 20, 21, 22, 23, 24, 25, 26, 27, 28, 29, 30, 31, 32, 93, 94, 95, 96, 97, 98, 99, 100] (by decide +kernel) (by decide +kernel)
set_option maxRecDepth 20000 in
theorem gX5_winningCell_X2_hasEnded : GoodIn wsX5_winningCell (wsV RX5 150 RX2 yX2_hasEnded wsX2_hasEnded) := goodIn_app (goodIn_of _ (by decide +kernel)) ggX5_winningCell_X2_hasEnded
set_option maxRecDepth 20000 in
theorem ggX5_winningCell_X2_board : GoodIn wsX5_winningCell wsX2_board := goodIn_r _ [36, 15, 93, 94, 95, 96] (by decide +kernel) (by decide +kernel)
set_option maxRecDepth 20000 in
theorem gX5_winningCell_X2_board : GoodIn wsX5_winningCell (wsV RX5 82 RX2 yX2_board wsX2_board) := goodIn_app (goodIn_of _ (by decide +kernel)) ggX5_winningCell_X2_board
set_option maxRecDepth 20000 in
theorem ggX5_winningCell_X0_holds : GoodIn wsX5_winningCell wsX0_holds := goodIn_r _ [40, 41, 97, 98, 99, 100] (by decide +kernel) (by decide +kernel)
set_option maxRecDepth 20000 in
theorem gX5_winningCell_X0_holds : GoodIn wsX5_winningCell (wsV RX5 176 RX0 yX0_holds wsX0_holds) := goodIn_app (goodIn_of _ (by decide +kernel)) ggX5_winningCell_X0_holds
set_option maxRecDepth 20000 in
theorem ggX5_winningCell_X2_copyFrom : GoodIn wsX5_winningCell wsX2_copyFrom := goodIn_r _ [45, 15, 46, 14, 47, 48, 49, 50, 19, 51, 52, 25, 41, 53, 93, 94, 95, 96, 97, 98, 99, 100] (by decide +kernel) (by decide +kernel)
set_option maxRecDepth 20000 in
theorem gX5_winningCell_X2_copyFrom : GoodIn wsX5_winningCell (wsV RX5 121 RX2 yX2_copyFrom wsX2_copyFrom) := goodIn_app (goodIn_of _ (by decide +kernel)) ggX5_winningCell_X2_copyFrom
set_option maxRecDepth 20000 in
theorem ggX5_winningCell_X0_firstWinningCell : GoodIn wsX5_winningCell wsX0_firstWinningCell := goodIn_r _ [57, 58, 59, 60, 19, 61, 25, 62, 63, 64, 65, 66, 67, 68, 69, 41, 53, 70, 71, 72, 73, 74, 75, 76, 77, 52, 78, 79, 80, 81, 82, 83, 84, 85, 86, 97, 98, 99, 100] (by decide +kernel) (by decide +kernel)
set_option maxRecDepth 20000 in
theorem gX5_winningCell_X0_firstWinningCell : GoodIn wsX5_winningCell (wsV RX5 179 RX0 yX0_firstWinningCell wsX0_firstWinningCell) := goodIn_app (goodIn_of _ (by decide +kernel)) ggX5_winningCell_X0_firstWinningCell
theorem dX5_winningCell_0 : decode cX5_winningCell 0 = .ok (.iload_n 1, 1) := by decide +kernel
theorem dX5_winningCell_1 : decode cX5_winningCell 1 = .ok (.invokestatic 40, 3) := by decide +kernel
theorem dX5_winningCell_4 : decode cX5_winningCell 4 = .ok (.aload_n 0, 1) := by decide +kernel
theorem dX5_winningCell_5 : decode cX5_winningCell 5 = .ok (.getfield 10, 3) := by decide +kernel
theorem dX5_winningCell_8 : decode cX5_winningCell 8 = .ok (.invokevirtual 150, 3) := by decide +kernel
theorem dX5_winningCell_11 : decode cX5_winningCell 11 = .ok (.ifCond .ne 17, 3) := by decide +kernel
theorem dX5_winningCell_14 : decode cX5_winningCell 14 = .ok (.aload_n 0, 1) := by decide +kernel
theorem dX5_winningCell_15 : decode cX5_winningCell 15 = .ok (.getfield 10, 3) := by decide +kernel
theorem dX5_winningCell_18 : decode cX5_winningCell 18 = .ok (.invokevirtual 82, 3) := by decide +kernel
theorem dX5_winningCell_21 : decode cX5_winningCell 21 = .ok (.iload_n 1, 1) := by decide +kernel
theorem dX5_winningCell_22 : decode cX5_winningCell 22 = .ok (.invokevirtual 176, 3) := by decide +kernel
theorem dX5_winningCell_25 : decode cX5_winningCell 25 = .ok (.ifCond .eq 5, 3) := by decide +kernel
theorem dX5_winningCell_28 : decode cX5_winningCell 28 = .ok (.iconst (-1), 1) := by decide +kernel
theorem dX5_winningCell_29 : decode cX5_winningCell 29 = .ok (.ireturn, 1) := by decide +kernel
theorem dX5_winningCell_30 : decode cX5_winningCell 30 = .ok (.aload_n 0, 1) := by decide +kernel
theorem dX5_winningCell_31 : decode cX5_winningCell 31 = .ok (.getfield 16, 3) := by decide +kernel
theorem dX5_winningCell_34 : decode cX5_winningCell 34 = .ok (.aload_n 0, 1) := by decide +kernel
theorem dX5_winningCell_35 : decode cX5_winningCell 35 = .ok (.getfield 10, 3) := by decide +kernel
theorem dX5_winningCell_38 : decode cX5_winningCell 38 = .ok (.invokevirtual 121, 3) := by decide +kernel
theorem dX5_winningCell_41 : decode cX5_winningCell 41 = .ok (.aload_n 0, 1) := by decide +kernel
theorem dX5_winningCell_42 : decode cX5_winningCell 42 = .ok (.getfield 16, 3) := by decide +kernel
theorem dX5_winningCell_45 : decode cX5_winningCell 45 = .ok (.invokevirtual 82, 3) := by decide +kernel
theorem dX5_winningCell_48 : decode cX5_winningCell 48 = .ok (.iload_n 1, 1) := by decide +kernel
theorem dX5_winningCell_49 : decode cX5_winningCell 49 = .ok (.invokevirtual 179, 3) := by decide +kernel
theorem dX5_winningCell_52 : decode cX5_winningCell 52 = .ok (.ireturn, 1) := by decide +kernel
set_option maxRecDepth 20000 in
theorem ggX5_safeByTrying_X2_hasEnded : GoodIn wsX5_safeByTrying wsX2_hasEnded := goodIn_r _ [7, 8, 9, 10, 11, 12, 13, 14, 15, 16, 17, 18, 19, 20, 21, 22, 23, 24, 25, 26, 91, 92, 93, 94, 95, 96, 97, 98] (by decide +kernel) (by decide +kernel)
set_option maxRecDepth 20000 in
theorem gX5_safeByTrying_X2_hasEnded : GoodIn wsX5_safeByTrying (wsV RX5 150 RX2 yX2_hasEnded wsX2_hasEnded) := goodIn_app (goodIn_of _ (by decide +kernel)) ggX5_safeByTrying_X2_hasEnded
set_option maxRecDepth 20000 in
theorem ggX5_safeByTrying_X2_copyFrom : GoodIn wsX5_safeByTrying wsX2_copyFrom := goodIn_r _ [30, 9, 31, 8, 32, 33, 34, 35, 13, 36, 37, 19, 38, 39, 91, 92, 93, 94, 95, 96, 97, 98] (by decide +kernel) (by decide +kernel)
set_option maxRecDepth 20000 in
theorem gX5_safeByTrying_X2_copyFrom : GoodIn wsX5_safeByTrying (wsV RX5 121 RX2 yX2_copyFrom wsX2_copyFrom) := goodIn_app (goodIn_of _ (by decide +kernel)) ggX5_safeByTrying_X2_copyFrom
set_option maxRecDepth 20000 in
theorem ggX5_safeByTrying_X2_isFree : GoodIn wsX5_safeByTrying wsX2_isFree := goodIn_r _ [43, 31, 9, 44, 45, 46, 13, 47, 38, 91, 92, 93, 94, 95, 96, 97, 98] (by decide +kernel) (by decide +kernel)
set_option maxRecDepth 20000 in
theorem gX5_safeByTrying_X2_isFree : GoodIn wsX5_safeByTrying (wsV RX5 182 RX2 yX2_isFree wsX2_isFree) := goodIn_app (goodIn_of _ (by decide +kernel)) ggX5_safeByTrying_X2_isFree
set_option maxRecDepth 20000 in
theorem ggX5_safeByTrying_X2_board : GoodIn wsX5_safeByTrying wsX2_board := goodIn_r _ [51, 9, 91, 92, 93, 94] (by decide +kernel) (by decide +kernel)
set_option maxRecDepth 20000 in
theorem gX5_safeByTrying_X2_board : GoodIn wsX5_safeByTrying (wsV RX5 82 RX2 yX2_board wsX2_board) := goodIn_app (goodIn_of _ (by decide +kernel)) ggX5_safeByTrying_X2_board
set_option maxRecDepth 20000 in
theorem ggX5_safeByTrying_X0_firstWinningCell : GoodIn wsX5_safeByTrying wsX0_firstWinningCell := goodIn_r _ [55, 56, 57, 58, 13, 59, 19, 60, 61, 62, 63, 64, 65, 66, 67, 38, 39, 68, 69, 70, 71, 72, 73, 74, 75, 37, 76, 77, 78, 79, 80, 81, 82, 83, 84, 95, 96, 97, 98] (by decide +kernel) (by decide +kernel)
set_option maxRecDepth 20000 in
theorem gX5_safeByTrying_X0_firstWinningCell : GoodIn wsX5_safeByTrying (wsV RX5 179 RX0 yX0_firstWinningCell wsX0_firstWinningCell) := goodIn_app (goodIn_of _ (by decide +kernel)) ggX5_safeByTrying_X0_firstWinningCell
theorem dX5_safeByTrying_0 : decode cX5_safeByTrying 0 = .ok (.aload_n 0, 1) := by decide +kernel
theorem dX5_safeByTrying_1 : decode cX5_safeByTrying 1 = .ok (.getfield 10, 3) := by decide +kernel
theorem dX5_safeByTrying_4 : decode cX5_safeByTrying 4 = .ok (.invokevirtual 150, 3) := by decide +kernel
theorem dX5_safeByTrying_7 : decode cX5_safeByTrying 7 = .ok (.ifCond .eq 5, 3) := by decide +kernel
theorem dX5_safeByTrying_10 : decode cX5_safeByTrying 10 = .ok (.iconst 0, 1) := by decide +kernel
theorem dX5_safeByTrying_11 : decode cX5_safeByTrying 11 = .ok (.ireturn, 1) := by decide +kernel
theorem dX5_safeByTrying_12 : decode cX5_safeByTrying 12 = .ok (.aload_n 0, 1) := by decide +kernel
theorem dX5_safeByTrying_13 : decode cX5_safeByTrying 13 = .ok (.getfield 16, 3) := by decide +kernel
theorem dX5_safeByTrying_16 : decode cX5_safeByTrying 16 = .ok (.aload_n 0, 1) := by decide +kernel
theorem dX5_safeByTrying_17 : decode cX5_safeByTrying 17 = .ok (.getfield 10, 3) := by decide +kernel
theorem dX5_safeByTrying_20 : decode cX5_safeByTrying 20 = .ok (.invokevirtual 121, 3) := by decide +kernel
theorem dX5_safeByTrying_23 : decode cX5_safeByTrying 23 = .ok (.iconst 0, 1) := by decide +kernel
theorem dX5_safeByTrying_24 : decode cX5_safeByTrying 24 = .ok (.istore_n 1, 1) := by decide +kernel
theorem dX5_safeByTrying_25 : decode cX5_safeByTrying 25 = .ok (.iconst 0, 1) := by decide +kernel
theorem dX5_safeByTrying_26 : decode cX5_safeByTrying 26 = .ok (.istore_n 2, 1) := by decide +kernel
theorem dX5_safeByTrying_27 : decode cX5_safeByTrying 27 = .ok (.iload_n 2, 1) := by decide +kernel
theorem dX5_safeByTrying_28 : decode cX5_safeByTrying 28 = .ok (.bipush 16, 2) := by decide +kernel
theorem dX5_safeByTrying_30 : decode cX5_safeByTrying 30 = .ok (.if_icmp .ge 41, 3) := by decide +kernel
theorem dX5_safeByTrying_33 : decode cX5_safeByTrying 33 = .ok (.aload_n 0, 1) := by decide +kernel
theorem dX5_safeByTrying_34 : decode cX5_safeByTrying 34 = .ok (.getfield 10, 3) := by decide +kernel
theorem dX5_safeByTrying_37 : decode cX5_safeByTrying 37 = .ok (.iload_n 2, 1) := by decide +kernel
theorem dX5_safeByTrying_38 : decode cX5_safeByTrying 38 = .ok (.invokevirtual 182, 3) := by decide +kernel
theorem dX5_safeByTrying_41 : decode cX5_safeByTrying 41 = .ok (.ifCond .eq 24, 3) := by decide +kernel
theorem dX5_safeByTrying_44 : decode cX5_safeByTrying 44 = .ok (.aload_n 0, 1) := by decide +kernel
theorem dX5_safeByTrying_45 : decode cX5_safeByTrying 45 = .ok (.getfield 16, 3) := by decide +kernel
theorem dX5_safeByTrying_48 : decode cX5_safeByTrying 48 = .ok (.invokevirtual 82, 3) := by decide +kernel
theorem dX5_safeByTrying_51 : decode cX5_safeByTrying 51 = .ok (.iload_n 2, 1) := by decide +kernel
theorem dX5_safeByTrying_52 : decode cX5_safeByTrying 52 = .ok (.invokevirtual 179, 3) := by decide +kernel
theorem dX5_safeByTrying_55 : decode cX5_safeByTrying 55 = .ok (.iconst (-1), 1) := by decide +kernel
theorem dX5_safeByTrying_56 : decode cX5_safeByTrying 56 = .ok (.if_icmp .ne 9, 3) := by decide +kernel
theorem dX5_safeByTrying_59 : decode cX5_safeByTrying 59 = .ok (.iload_n 1, 1) := by decide +kernel
theorem dX5_safeByTrying_60 : decode cX5_safeByTrying 60 = .ok (.iconst 1, 1) := by decide +kernel
theorem dX5_safeByTrying_61 : decode cX5_safeByTrying 61 = .ok (.iload_n 2, 1) := by decide +kernel
theorem dX5_safeByTrying_62 : decode cX5_safeByTrying 62 = .ok (.ishl, 1) := by decide +kernel
theorem dX5_safeByTrying_63 : decode cX5_safeByTrying 63 = .ok (.ior, 1) := by decide +kernel
theorem dX5_safeByTrying_64 : decode cX5_safeByTrying 64 = .ok (.istore_n 1, 1) := by decide +kernel
theorem dX5_safeByTrying_65 : decode cX5_safeByTrying 65 = .ok (.iinc 2 1, 3) := by decide +kernel
theorem dX5_safeByTrying_68 : decode cX5_safeByTrying 68 = .ok (.goto (-41), 3) := by decide +kernel
theorem dX5_safeByTrying_71 : decode cX5_safeByTrying 71 = .ok (.iload_n 1, 1) := by decide +kernel
theorem dX5_safeByTrying_72 : decode cX5_safeByTrying 72 = .ok (.ireturn, 1) := by decide +kernel
set_option maxRecDepth 20000 in
theorem ggX5_safeByLines_X2_hasEnded : GoodIn wsX5_safeByLines wsX2_hasEnded := goodIn_r _ [6, 7, 8, 9, 10, 11, 12, 13, 14, 15, 16, 17, 18, 19, 20, 21, 22, 23, 24, 25, 72, 73, 74, 75, 76, 77, 78, 79] (by decide +kernel) (by decide +kernel)
set_option maxRecDepth 20000 in
theorem gX5_safeByLines_X2_hasEnded : GoodIn wsX5_safeByLines (wsV RX5 150 RX2 yX2_hasEnded wsX2_hasEnded) := goodIn_app (goodIn_of _ (by decide +kernel)) ggX5_safeByLines_X2_hasEnded
set_option maxRecDepth 20000 in
theorem ggX5_safeByLines_X2_board : GoodIn wsX5_safeByLines wsX2_board := goodIn_r _ [29, 8, 72, 73, 74, 75] (by decide +kernel) (by decide +kernel)
set_option maxRecDepth 20000 in
theorem gX5_safeByLines_X2_board : GoodIn wsX5_safeByLines (wsV RX5 82 RX2 yX2_board wsX2_board) := goodIn_app (goodIn_of _ (by decide +kernel)) ggX5_safeByLines_X2_board
set_option maxRecDepth 20000 in
theorem ggX5_safeByLines_X0_dangerousTraits : GoodIn wsX5_safeByLines wsX0_dangerousTraits := goodIn_r _ [33, 34, 35, 36, 12, 37, 38, 39, 40, 41, 42, 18, 43, 44, 45, 46, 19, 20, 21, 22, 23, 24, 25, 47, 48, 49, 50, 51, 76, 77, 78, 79] (by decide +kernel) (by decide +kernel)
set_option maxRecDepth 20000 in
theorem gX5_safeByLines_X0_dangerousTraits : GoodIn wsX5_safeByLines (wsV RX5 185 RX0 yX0_dangerousTraits wsX0_dangerousTraits) := goodIn_app (goodIn_of _ (by decide +kernel)) ggX5_safeByLines_X0_dangerousTraits
set_option maxRecDepth 20000 in
theorem ggX5_safeByLines_X2_isFree : GoodIn wsX5_safeByLines wsX2_isFree := goodIn_r _ [55, 56, 8, 57, 58, 59, 12, 60, 61, 72, 73, 74, 75, 76, 77, 78, 79] (by decide +kernel) (by decide +kernel)
set_option maxRecDepth 20000 in
theorem gX5_safeByLines_X2_isFree : GoodIn wsX5_safeByLines (wsV RX5 182 RX2 yX2_isFree wsX2_isFree) := goodIn_app (goodIn_of _ (by decide +kernel)) ggX5_safeByLines_X2_isFree
set_option maxRecDepth 20000 in
theorem ggX5_safeByLines_X5_traitsOf : GoodIn wsX5_safeByLines wsX5_traitsOf := goodIn_r _ [65] (by decide +kernel) (by decide +kernel)
set_option maxRecDepth 20000 in
theorem gX5_safeByLines_X5_traitsOf : GoodIn wsX5_safeByLines (va_wsS RX5 188 yX5_traitsOf wsX5_traitsOf) := goodIn_app (goodIn_of _ (by decide +kernel)) ggX5_safeByLines_X5_traitsOf
theorem dX5_safeByLines_0 : decode cX5_safeByLines 0 = .ok (.aload_n 0, 1) := by decide +kernel
theorem dX5_safeByLines_1 : decode cX5_safeByLines 1 = .ok (.getfield 10, 3) := by decide +kernel
theorem dX5_safeByLines_4 : decode cX5_safeByLines 4 = .ok (.invokevirtual 150, 3) := by decide +kernel
theorem dX5_safeByLines_7 : decode cX5_safeByLines 7 = .ok (.ifCond .eq 5, 3) := by decide +kernel
theorem dX5_safeByLines_10 : decode cX5_safeByLines 10 = .ok (.iconst 0, 1) := by decide +kernel
theorem dX5_safeByLines_11 : decode cX5_safeByLines 11 = .ok (.ireturn, 1) := by decide +kernel
theorem dX5_safeByLines_12 : decode cX5_safeByLines 12 = .ok (.aload_n 0, 1) := by decide +kernel
theorem dX5_safeByLines_13 : decode cX5_safeByLines 13 = .ok (.getfield 10, 3) := by decide +kernel
theorem dX5_safeByLines_16 : decode cX5_safeByLines 16 = .ok (.invokevirtual 82, 3) := by decide +kernel
theorem dX5_safeByLines_19 : decode cX5_safeByLines 19 = .ok (.invokevirtual 185, 3) := by decide +kernel
theorem dX5_safeByLines_22 : decode cX5_safeByLines 22 = .ok (.istore_n 1, 1) := by decide +kernel
theorem dX5_safeByLines_23 : decode cX5_safeByLines 23 = .ok (.iconst 0, 1) := by decide +kernel
theorem dX5_safeByLines_24 : decode cX5_safeByLines 24 = .ok (.istore_n 2, 1) := by decide +kernel
theorem dX5_safeByLines_25 : decode cX5_safeByLines 25 = .ok (.iconst 0, 1) := by decide +kernel
theorem dX5_safeByLines_26 : decode cX5_safeByLines 26 = .ok (.istore_n 3, 1) := by decide +kernel
theorem dX5_safeByLines_27 : decode cX5_safeByLines 27 = .ok (.iload_n 3, 1) := by decide +kernel
theorem dX5_safeByLines_28 : decode cX5_safeByLines 28 = .ok (.bipush 16, 2) := by decide +kernel
theorem dX5_safeByLines_30 : decode cX5_safeByLines 30 = .ok (.if_icmp .ge 35, 3) := by decide +kernel
theorem dX5_safeByLines_33 : decode cX5_safeByLines 33 = .ok (.aload_n 0, 1) := by decide +kernel
theorem dX5_safeByLines_34 : decode cX5_safeByLines 34 = .ok (.getfield 10, 3) := by decide +kernel
theorem dX5_safeByLines_37 : decode cX5_safeByLines 37 = .ok (.iload_n 3, 1) := by decide +kernel
theorem dX5_safeByLines_38 : decode cX5_safeByLines 38 = .ok (.invokevirtual 182, 3) := by decide +kernel
theorem dX5_safeByLines_41 : decode cX5_safeByLines 41 = .ok (.ifCond .eq 18, 3) := by decide +kernel
theorem dX5_safeByLines_44 : decode cX5_safeByLines 44 = .ok (.iload_n 3, 1) := by decide +kernel
theorem dX5_safeByLines_45 : decode cX5_safeByLines 45 = .ok (.invokestatic 188, 3) := by decide +kernel
theorem dX5_safeByLines_48 : decode cX5_safeByLines 48 = .ok (.iload_n 1, 1) := by decide +kernel
theorem dX5_safeByLines_49 : decode cX5_safeByLines 49 = .ok (.iand, 1) := by decide +kernel
theorem dX5_safeByLines_50 : decode cX5_safeByLines 50 = .ok (.ifCond .ne 9, 3) := by decide +kernel
theorem dX5_safeByLines_53 : decode cX5_safeByLines 53 = .ok (.iload_n 2, 1) := by decide +kernel
theorem dX5_safeByLines_54 : decode cX5_safeByLines 54 = .ok (.iconst 1, 1) := by decide +kernel
theorem dX5_safeByLines_55 : decode cX5_safeByLines 55 = .ok (.iload_n 3, 1) := by decide +kernel
theorem dX5_safeByLines_56 : decode cX5_safeByLines 56 = .ok (.ishl, 1) := by decide +kernel
theorem dX5_safeByLines_57 : decode cX5_safeByLines 57 = .ok (.ior, 1) := by decide +kernel
theorem dX5_safeByLines_58 : decode cX5_safeByLines 58 = .ok (.istore_n 2, 1) := by decide +kernel
theorem dX5_safeByLines_59 : decode cX5_safeByLines 59 = .ok (.iinc 3 1, 3) := by decide +kernel
theorem dX5_safeByLines_62 : decode cX5_safeByLines 62 = .ok (.goto (-35), 3) := by decide +kernel
theorem dX5_safeByLines_65 : decode cX5_safeByLines 65 = .ok (.iload_n 2, 1) := by decide +kernel
theorem dX5_safeByLines_66 : decode cX5_safeByLines 66 = .ok (.ireturn, 1) := by decide +kernel
set_option maxRecDepth 20000 in
theorem ggX5_outcome_X5_requireSearchable : GoodIn wsX5_outcome wsX5_requireSearchable := goodIn_ca (goodIn_r _ [7, 8, 9, 2, 10, 11, 12, 13, 14, 15, 16, 17, 18, 19, 20, 21, 22, 23, 24, 25, 26, 27, 28, 29, 30, 31, 32, 33, 34, 35, 36, 37, 38, 104, 105, 106, 107, 108, 109, 110, 111, 112, 113, 114, 115, 116, 117] (by decide +kernel) (by decide +kernel)) (goodIn_sub (fun _ h => List.mem_cons_of_mem _ (List.mem_append_right _ h)) (by decide +kernel))
set_option maxRecDepth 20000 in
theorem gX5_outcome_X5_requireSearchable : GoodIn wsX5_outcome (wsV RX5 191 RX5 yX5_requireSearchable wsX5_requireSearchable) := goodIn_app (goodIn_of _ (by decide +kernel)) ggX5_outcome_X5_requireSearchable
set_option maxRecDepth 20000 in
theorem ggX5_outcome_X2_copyFrom : GoodIn wsX5_outcome wsX2_copyFrom := goodIn_r _ [42, 16, 43, 15, 44, 45, 46, 47, 20, 48, 49, 26, 50, 51, 110, 111, 112, 113, 114, 115, 116, 117] (by decide +kernel) (by decide +kernel)
set_option maxRecDepth 20000 in
theorem gX5_outcome_X2_copyFrom : GoodIn wsX5_outcome (wsV RX5 121 RX2 yX2_copyFrom wsX2_copyFrom) := goodIn_app (goodIn_of _ (by decide +kernel)) ggX5_outcome_X2_copyFrom
set_option maxRecDepth 20000 in
theorem ggX5_outcome_X1_valueOf : GoodIn wsX5_outcome wsX1_valueOf := goodIn_r _ [55, 56, 35, 36, 13, 37, 16, 57, 18, 19, 20, 21, 22, 23, 24, 25, 26, 27, 28, 29, 30, 31, 32, 33, 58, 59, 60, 61, 43, 62, 63, 54, 64, 65, 66, 67, 68, 69, 70, 71, 72, 50, 73, 74, 75, 76, 77, 78, 79, 51, 80, 81, 82, 83, 84, 85, 86, 87, 49, 88, 89, 90, 91, 92, 93, 94, 95, 96, 97, 98, 99, 100, 101, 102, 103, 110, 111, 112, 113, 114, 115, 116, 117] (by decide +kernel) (by decide +kernel)
set_option maxRecDepth 20000 in
theorem gX5_outcome_X1_valueOf : GoodIn wsX5_outcome (va_wsS RX5 194 yX1_valueOf wsX1_valueOf) := goodIn_app (goodIn_of _ (by decide +kernel)) ggX5_outcome_X1_valueOf
theorem dX5_outcome_0 : decode cX5_outcome 0 = .ok (.aload_n 0, 1) := by decide +kernel
theorem dX5_outcome_1 : decode cX5_outcome 1 = .ok (.invokevirtual 191, 3) := by decide +kernel
theorem dX5_outcome_4 : decode cX5_outcome 4 = .ok (.aload_n 0, 1) := by decide +kernel
theorem dX5_outcome_5 : decode cX5_outcome 5 = .ok (.getfield 16, 3) := by decide +kernel
theorem dX5_outcome_8 : decode cX5_outcome 8 = .ok (.aload_n 0, 1) := by decide +kernel
theorem dX5_outcome_9 : decode cX5_outcome 9 = .ok (.getfield 10, 3) := by decide +kernel
theorem dX5_outcome_12 : decode cX5_outcome 12 = .ok (.invokevirtual 121, 3) := by decide +kernel
theorem dX5_outcome_15 : decode cX5_outcome 15 = .ok (.aload_n 0, 1) := by decide +kernel
theorem dX5_outcome_16 : decode cX5_outcome 16 = .ok (.getfield 16, 3) := by decide +kernel
theorem dX5_outcome_19 : decode cX5_outcome 19 = .ok (.invokestatic 194, 3) := by decide +kernel
theorem dX5_outcome_22 : decode cX5_outcome 22 = .ok (.ireturn, 1) := by decide +kernel
set_option maxRecDepth 20000 in
theorem ggX5_rule_X2_board : GoodIn wsX5_rule wsX2_board := goodIn_r _ [6, 7, 20, 21, 22, 23] (by decide +kernel) (by decide +kernel)
set_option maxRecDepth 20000 in
theorem gX5_rule_X2_board : GoodIn wsX5_rule (wsV RX5 82 RX2 yX2_board wsX2_board) := goodIn_app (goodIn_of _ (by decide +kernel)) ggX5_rule_X2_board
set_option maxRecDepth 20000 in
theorem ggX5_rule_X0_lineRule : GoodIn wsX5_rule wsX0_lineRule := goodIn_r _ [12, 13, 24, 25, 26, 27] (by decide +kernel) (by decide +kernel)
set_option maxRecDepth 20000 in
theorem gX5_rule_X0_lineRule : GoodIn wsX5_rule (wsV RX5 203 RX0 yX0_lineRule wsX0_lineRule) := goodIn_app (goodIn_of _ (by decide +kernel)) ggX5_rule_X0_lineRule
theorem dX5_rule_0 : decode cX5_rule 0 = .ok (.aload_n 0, 1) := by decide +kernel
theorem dX5_rule_1 : decode cX5_rule 1 = .ok (.getfield 10, 3) := by decide +kernel
theorem dX5_rule_4 : decode cX5_rule 4 = .ok (.invokevirtual 82, 3) := by decide +kernel
theorem dX5_rule_7 : decode cX5_rule 7 = .ok (.invokevirtual 203, 3) := by decide +kernel
theorem dX5_rule_10 : decode cX5_rule 10 = .ok (.ireturn, 1) := by decide +kernel
set_option maxRecDepth 20000 in
theorem ggX5_recordedStates_X3_size : GoodIn wsX5_recordedStates wsX3_size := goodIn_r _ [6, 7, 14, 15, 16] (by decide +kernel) (by decide +kernel)
set_option maxRecDepth 20000 in
theorem gX5_recordedStates_X3_size : GoodIn wsX5_recordedStates (wsV RX5 127 RX3 yX3_size wsX3_size) := goodIn_app (goodIn_of _ (by decide +kernel)) ggX5_recordedStates_X3_size
theorem dX5_recordedStates_0 : decode cX5_recordedStates 0 = .ok (.aload_n 0, 1) := by decide +kernel
theorem dX5_recordedStates_1 : decode cX5_recordedStates 1 = .ok (.getfield 29, 3) := by decide +kernel
theorem dX5_recordedStates_4 : decode cX5_recordedStates 4 = .ok (.invokevirtual 127, 3) := by decide +kernel
theorem dX5_recordedStates_7 : decode cX5_recordedStates 7 = .ok (.ireturn, 1) := by decide +kernel
theorem dX5_requirePiece_0 : decode cX5_requirePiece 0 = .ok (.iload_n 0, 1) := by decide +kernel
theorem dX5_requirePiece_1 : decode cX5_requirePiece 1 = .ok (.ifCond .lt 9, 3) := by decide +kernel
theorem dX5_requirePiece_4 : decode cX5_requirePiece 4 = .ok (.iload_n 0, 1) := by decide +kernel
theorem dX5_requirePiece_5 : decode cX5_requirePiece 5 = .ok (.bipush 16, 2) := by decide +kernel
theorem dX5_requirePiece_7 : decode cX5_requirePiece 7 = .ok (.if_icmp .lt 13, 3) := by decide +kernel
theorem dX5_requirePiece_10 : decode cX5_requirePiece 10 = .ok (.new 168, 3) := by decide +kernel
theorem dX5_requirePiece_13 : decode cX5_requirePiece 13 = .ok (.dup, 1) := by decide +kernel
theorem dX5_requirePiece_14 : decode cX5_requirePiece 14 = .ok (.ldc 206, 2) := by decide +kernel
theorem dX5_requirePiece_16 : decode cX5_requirePiece 16 = .ok (.invokespecial 172, 3) := by decide +kernel
theorem dX5_requirePiece_19 : decode cX5_requirePiece 19 = .ok (.athrow, 1) := by decide +kernel
theorem dX5_requirePiece_20 : decode cX5_requirePiece 20 = .ok (.return_, 1) := by decide +kernel
theorem dX5_requireCell_0 : decode cX5_requireCell 0 = .ok (.iload_n 0, 1) := by decide +kernel
theorem dX5_requireCell_1 : decode cX5_requireCell 1 = .ok (.ifCond .lt 9, 3) := by decide +kernel
theorem dX5_requireCell_4 : decode cX5_requireCell 4 = .ok (.iload_n 0, 1) := by decide +kernel
theorem dX5_requireCell_5 : decode cX5_requireCell 5 = .ok (.bipush 16, 2) := by decide +kernel
theorem dX5_requireCell_7 : decode cX5_requireCell 7 = .ok (.if_icmp .lt 13, 3) := by decide +kernel
theorem dX5_requireCell_10 : decode cX5_requireCell 10 = .ok (.new 168, 3) := by decide +kernel
theorem dX5_requireCell_13 : decode cX5_requireCell 13 = .ok (.dup, 1) := by decide +kernel
theorem dX5_requireCell_14 : decode cX5_requireCell 14 = .ok (.ldc 208, 2) := by decide +kernel
theorem dX5_requireCell_16 : decode cX5_requireCell 16 = .ok (.invokespecial 172, 3) := by decide +kernel
theorem dX5_requireCell_19 : decode cX5_requireCell 19 = .ok (.athrow, 1) := by decide +kernel
theorem dX5_requireCell_20 : decode cX5_requireCell 20 = .ok (.return_, 1) := by decide +kernel
set_option maxRecDepth 20000 in
theorem ggX5_requireLine_X2_board : GoodIn wsX5_requireLine wsX2_board := goodIn_r _ [8, 9, 22, 23, 24, 25] (by decide +kernel) (by decide +kernel)
set_option maxRecDepth 20000 in
theorem gX5_requireLine_X2_board : GoodIn wsX5_requireLine (wsV RX5 82 RX2 yX2_board wsX2_board) := goodIn_app (goodIn_of _ (by decide +kernel)) ggX5_requireLine_X2_board
set_option maxRecDepth 20000 in
theorem ggX5_requireLine_X0_lineCount : GoodIn wsX5_requireLine wsX0_lineCount := goodIn_r _ [14, 15, 26, 27, 28, 29] (by decide +kernel) (by decide +kernel)
set_option maxRecDepth 20000 in
theorem gX5_requireLine_X0_lineCount : GoodIn wsX5_requireLine (wsV RX5 153 RX0 yX0_lineCount wsX0_lineCount) := goodIn_app (goodIn_of _ (by decide +kernel)) ggX5_requireLine_X0_lineCount
theorem dX5_requireLine_0 : decode cX5_requireLine 0 = .ok (.iload_n 1, 1) := by decide +kernel
theorem dX5_requireLine_1 : decode cX5_requireLine 1 = .ok (.ifCond .lt 17, 3) := by decide +kernel
theorem dX5_requireLine_4 : decode cX5_requireLine 4 = .ok (.iload_n 1, 1) := by decide +kernel
theorem dX5_requireLine_5 : decode cX5_requireLine 5 = .ok (.aload_n 0, 1) := by decide +kernel
theorem dX5_requireLine_6 : decode cX5_requireLine 6 = .ok (.getfield 10, 3) := by decide +kernel
theorem dX5_requireLine_9 : decode cX5_requireLine 9 = .ok (.invokevirtual 82, 3) := by decide +kernel
theorem dX5_requireLine_12 : decode cX5_requireLine 12 = .ok (.invokevirtual 153, 3) := by decide +kernel
theorem dX5_requireLine_15 : decode cX5_requireLine 15 = .ok (.if_icmp .lt 13, 3) := by decide +kernel
theorem dX5_requireLine_18 : decode cX5_requireLine 18 = .ok (.new 168, 3) := by decide +kernel
theorem dX5_requireLine_21 : decode cX5_requireLine 21 = .ok (.dup, 1) := by decide +kernel
theorem dX5_requireLine_22 : decode cX5_requireLine 22 = .ok (.ldc 210, 2) := by decide +kernel
theorem dX5_requireLine_24 : decode cX5_requireLine 24 = .ok (.invokespecial 172, 3) := by decide +kernel
theorem dX5_requireLine_27 : decode cX5_requireLine 27 = .ok (.athrow, 1) := by decide +kernel
theorem dX5_requireLine_28 : decode cX5_requireLine 28 = .ok (.return_, 1) := by decide +kernel
set_option maxRecDepth 20000 in
theorem ggX5_requireValidText_X4_firstError : GoodIn wsX5_requireValidText wsX4_firstError := goodIn_r _ [8, 9, 10, 11, 12, 7, 13, 14, 15, 16, 17, 24, 25] (by decide +kernel) (by decide +kernel)
set_option maxRecDepth 20000 in
theorem gX5_requireValidText_X4_firstError : GoodIn wsX5_requireValidText (wsV RX5 110 RX4 yX4_firstError wsX4_firstError) := goodIn_app (goodIn_of _ (by decide +kernel)) ggX5_requireValidText_X4_firstError
theorem dX5_requireValidText_0 : decode cX5_requireValidText 0 = .ok (.aload_n 0, 1) := by decide +kernel
theorem dX5_requireValidText_1 : decode cX5_requireValidText 1 = .ok (.getfield 36, 3) := by decide +kernel
theorem dX5_requireValidText_4 : decode cX5_requireValidText 4 = .ok (.invokevirtual 110, 3) := by decide +kernel
theorem dX5_requireValidText_7 : decode cX5_requireValidText 7 = .ok (.iconst (-1), 1) := by decide +kernel
theorem dX5_requireValidText_8 : decode cX5_requireValidText 8 = .ok (.if_icmp .eq 13, 3) := by decide +kernel
theorem dX5_requireValidText_11 : decode cX5_requireValidText 11 = .ok (.new 48, 3) := by decide +kernel
theorem dX5_requireValidText_14 : decode cX5_requireValidText 14 = .ok (.dup, 1) := by decide +kernel
theorem dX5_requireValidText_15 : decode cX5_requireValidText 15 = .ok (.ldc 212, 2) := by decide +kernel
theorem dX5_requireValidText_17 : decode cX5_requireValidText 17 = .ok (.invokespecial 52, 3) := by decide +kernel
theorem dX5_requireValidText_20 : decode cX5_requireValidText 20 = .ok (.athrow, 1) := by decide +kernel
theorem dX5_requireValidText_21 : decode cX5_requireValidText 21 = .ok (.return_, 1) := by decide +kernel
set_option maxRecDepth 20000 in
theorem ggX5_requireSearchable_X2_hasEnded : GoodIn wsX5_requireSearchable wsX2_hasEnded := goodIn_r _ [8, 9, 10, 11, 12, 13, 14, 15, 16, 17, 18, 19, 20, 21, 22, 23, 24, 25, 26, 27, 39, 40, 41, 42, 43, 44, 45, 46] (by decide +kernel) (by decide +kernel)
set_option maxRecDepth 20000 in
theorem gX5_requireSearchable_X2_hasEnded : GoodIn wsX5_requireSearchable (wsV RX5 150 RX2 yX2_hasEnded wsX2_hasEnded) := goodIn_app (goodIn_of _ (by decide +kernel)) ggX5_requireSearchable_X2_hasEnded
set_option maxRecDepth 20000 in
theorem ggX5_requireSearchable_X2_board : GoodIn wsX5_requireSearchable wsX2_board := goodIn_r _ [31, 10, 39, 40, 41, 42] (by decide +kernel) (by decide +kernel)
set_option maxRecDepth 20000 in
theorem gX5_requireSearchable_X2_board : GoodIn wsX5_requireSearchable (wsV RX5 82 RX2 yX2_board wsX2_board) := goodIn_app (goodIn_of _ (by decide +kernel)) ggX5_requireSearchable_X2_board
set_option maxRecDepth 20000 in
theorem ggX5_requireSearchable_X0_emptyCount : GoodIn wsX5_requireSearchable wsX0_emptyCount := goodIn_r _ [15, 16, 17, 18, 14, 19, 20, 21, 22, 23, 24, 25, 26, 27, 43, 44, 45, 46] (by decide +kernel) (by decide +kernel)
set_option maxRecDepth 20000 in
theorem gX5_requireSearchable_X0_emptyCount : GoodIn wsX5_requireSearchable (wsV RX5 214 RX0 yX0_emptyCount wsX0_emptyCount) := goodIn_app (goodIn_of _ (by decide +kernel)) ggX5_requireSearchable_X0_emptyCount
theorem dX5_requireSearchable_0 : decode cX5_requireSearchable 0 = .ok (.aload_n 0, 1) := by decide +kernel
theorem dX5_requireSearchable_1 : decode cX5_requireSearchable 1 = .ok (.getfield 10, 3) := by decide +kernel
theorem dX5_requireSearchable_4 : decode cX5_requireSearchable 4 = .ok (.invokevirtual 150, 3) := by decide +kernel
theorem dX5_requireSearchable_7 : decode cX5_requireSearchable 7 = .ok (.ifCond .ne 17, 3) := by decide +kernel
theorem dX5_requireSearchable_10 : decode cX5_requireSearchable 10 = .ok (.aload_n 0, 1) := by decide +kernel
theorem dX5_requireSearchable_11 : decode cX5_requireSearchable 11 = .ok (.getfield 10, 3) := by decide +kernel
theorem dX5_requireSearchable_14 : decode cX5_requireSearchable 14 = .ok (.invokevirtual 82, 3) := by decide +kernel
theorem dX5_requireSearchable_17 : decode cX5_requireSearchable 17 = .ok (.invokevirtual 214, 3) := by decide +kernel
theorem dX5_requireSearchable_20 : decode cX5_requireSearchable 20 = .ok (.iconst 4, 1) := by decide +kernel
theorem dX5_requireSearchable_21 : decode cX5_requireSearchable 21 = .ok (.if_icmp .le 13, 3) := by decide +kernel
theorem dX5_requireSearchable_24 : decode cX5_requireSearchable 24 = .ok (.new 48, 3) := by decide +kernel
theorem dX5_requireSearchable_27 : decode cX5_requireSearchable 27 = .ok (.dup, 1) := by decide +kernel
theorem dX5_requireSearchable_28 : decode cX5_requireSearchable 28 = .ok (.ldc 217, 2) := by decide +kernel
theorem dX5_requireSearchable_30 : decode cX5_requireSearchable 30 = .ok (.invokespecial 52, 3) := by decide +kernel
theorem dX5_requireSearchable_33 : decode cX5_requireSearchable 33 = .ok (.athrow, 1) := by decide +kernel
theorem dX5_requireSearchable_34 : decode cX5_requireSearchable 34 = .ok (.return_, 1) := by decide +kernel
set_option maxRecDepth 20000 in
theorem ggX5_tryText_X2_copyFrom : GoodIn wsX5_tryText wsX2_copyFrom := goodIn_r _ [8, 9, 10, 11, 12, 13, 14, 15, 16, 17, 18, 19, 20, 21, 120, 121, 122, 123, 124, 125, 126, 127] (by decide +kernel) (by decide +kernel)
set_option maxRecDepth 20000 in
theorem gX5_tryText_X2_copyFrom : GoodIn wsX5_tryText (wsV RX5 121 RX2 yX2_copyFrom wsX2_copyFrom) := goodIn_app (goodIn_of _ (by decide +kernel)) ggX5_tryText_X2_copyFrom
set_option maxRecDepth 20000 in
theorem ggX5_tryText_X4_length : GoodIn wsX5_tryText wsX4_length := goodIn_r _ [26, 27, 128, 129] (by decide +kernel) (by decide +kernel)
set_option maxRecDepth 20000 in
theorem gX5_tryText_X4_length : GoodIn wsX5_tryText (wsV RX5 104 RX4 yX4_length wsX4_length) := goodIn_app (goodIn_of _ (by decide +kernel)) ggX5_tryText_X4_length
set_option maxRecDepth 20000 in
theorem ggX5_tryText_X4_endsMove : GoodIn wsX5_tryText wsX4_endsMove := goodIn_r _ [31, 27, 32, 33, 34, 25, 35, 36, 128, 129] (by decide +kernel) (by decide +kernel)
set_option maxRecDepth 20000 in
theorem gX5_tryText_X4_endsMove : GoodIn wsX5_tryText (wsV RX5 219 RX4 yX4_endsMove wsX4_endsMove) := goodIn_app (goodIn_of _ (by decide +kernel)) ggX5_tryText_X4_endsMove
set_option maxRecDepth 20000 in
theorem ggX5_tryText_X4_isGift : GoodIn wsX5_tryText wsX4_isGift := goodIn_r _ [40, 32, 33, 34, 25, 35, 36, 128, 129] (by decide +kernel) (by decide +kernel)
set_option maxRecDepth 20000 in
theorem gX5_tryText_X4_isGift : GoodIn wsX5_tryText (wsV RX5 222 RX4 yX4_isGift wsX4_isGift) := goodIn_app (goodIn_of _ (by decide +kernel)) ggX5_tryText_X4_isGift
set_option maxRecDepth 20000 in
theorem ggX5_tryText_X4_number : GoodIn wsX5_tryText wsX4_number := goodIn_r _ [44, 32, 33, 34, 25, 35, 36, 128, 129] (by decide +kernel) (by decide +kernel)
set_option maxRecDepth 20000 in
theorem gX5_tryText_X4_number : GoodIn wsX5_tryText (wsV RX5 225 RX4 yX4_number wsX4_number) := goodIn_app (goodIn_of _ (by decide +kernel)) ggX5_tryText_X4_number
set_option maxRecDepth 20000 in
theorem ggX5_tryText_X2_tryMove : GoodIn wsX5_tryText wsX2_tryMove := goodIn_r _ [48, 49, 50, 51, 7, 52, 10, 9, 53, 54, 55, 56, 11, 57, 58, 59, 16, 60, 61, 62, 63, 64, 19, 65, 66, 67, 68, 69, 70, 71, 72, 73, 74, 75, 20, 76, 77, 78, 79, 80, 81, 82, 83, 84, 85, 86, 87, 88, 89, 90, 91, 12, 92, 93, 94, 95, 96, 97, 98, 99, 100, 21, 101, 102, 103, 104, 105, 106, 107, 108, 18, 109, 110, 111, 112, 113, 120, 121, 122, 123, 124, 125, 126, 127] (by decide +kernel) (by decide +kernel)
set_option maxRecDepth 20000 in
theorem gX5_tryText_X2_tryMove : GoodIn wsX5_tryText (wsV RX5 229 RX2 yX2_tryMove wsX2_tryMove) := goodIn_app (goodIn_of _ (by decide +kernel)) ggX5_tryText_X2_tryMove
theorem dX5_tryText_0 : decode cX5_tryText 0 = .ok (.aload_n 0, 1) := by decide +kernel
theorem dX5_tryText_1 : decode cX5_tryText 1 = .ok (.getfield 16, 3) := by decide +kernel
theorem dX5_tryText_4 : decode cX5_tryText 4 = .ok (.aload_n 0, 1) := by decide +kernel
theorem dX5_tryText_5 : decode cX5_tryText 5 = .ok (.getfield 10, 3) := by decide +kernel
theorem dX5_tryText_8 : decode cX5_tryText 8 = .ok (.invokevirtual 121, 3) := by decide +kernel
theorem dX5_tryText_11 : decode cX5_tryText 11 = .ok (.iconst 0, 1) := by decide +kernel
theorem dX5_tryText_12 : decode cX5_tryText 12 = .ok (.istore_n 1, 1) := by decide +kernel
theorem dX5_tryText_13 : decode cX5_tryText 13 = .ok (.iconst 0, 1) := by decide +kernel
theorem dX5_tryText_14 : decode cX5_tryText 14 = .ok (.istore_n 2, 1) := by decide +kernel
theorem dX5_tryText_15 : decode cX5_tryText 15 = .ok (.iconst 0, 1) := by decide +kernel
theorem dX5_tryText_16 : decode cX5_tryText 16 = .ok (.istore_n 3, 1) := by decide +kernel
theorem dX5_tryText_17 : decode cX5_tryText 17 = .ok (.iload_n 3, 1) := by decide +kernel
theorem dX5_tryText_18 : decode cX5_tryText 18 = .ok (.aload_n 0, 1) := by decide +kernel
theorem dX5_tryText_19 : decode cX5_tryText 19 = .ok (.getfield 36, 3) := by decide +kernel
theorem dX5_tryText_22 : decode cX5_tryText 22 = .ok (.invokevirtual 104, 3) := by decide +kernel
theorem dX5_tryText_25 : decode cX5_tryText 25 = .ok (.if_icmp .gt 58, 3) := by decide +kernel
theorem dX5_tryText_28 : decode cX5_tryText 28 = .ok (.aload_n 0, 1) := by decide +kernel
theorem dX5_tryText_29 : decode cX5_tryText 29 = .ok (.getfield 36, 3) := by decide +kernel
theorem dX5_tryText_32 : decode cX5_tryText 32 = .ok (.iload_n 3, 1) := by decide +kernel
theorem dX5_tryText_33 : decode cX5_tryText 33 = .ok (.invokevirtual 219, 3) := by decide +kernel
theorem dX5_tryText_36 : decode cX5_tryText 36 = .ok (.ifCond .eq 41, 3) := by decide +kernel
theorem dX5_tryText_39 : decode cX5_tryText 39 = .ok (.aload_n 0, 1) := by decide +kernel
theorem dX5_tryText_40 : decode cX5_tryText 40 = .ok (.getfield 16, 3) := by decide +kernel
theorem dX5_tryText_43 : decode cX5_tryText 43 = .ok (.aload_n 0, 1) := by decide +kernel
theorem dX5_tryText_44 : decode cX5_tryText 44 = .ok (.getfield 36, 3) := by decide +kernel
theorem dX5_tryText_47 : decode cX5_tryText 47 = .ok (.iload_n 2, 1) := by decide +kernel
theorem dX5_tryText_48 : decode cX5_tryText 48 = .ok (.invokevirtual 222, 3) := by decide +kernel
theorem dX5_tryText_51 : decode cX5_tryText 51 = .ok (.aload_n 0, 1) := by decide +kernel
theorem dX5_tryText_52 : decode cX5_tryText 52 = .ok (.getfield 36, 3) := by decide +kernel
theorem dX5_tryText_55 : decode cX5_tryText 55 = .ok (.iload_n 2, 1) := by decide +kernel
theorem dX5_tryText_56 : decode cX5_tryText 56 = .ok (.iconst 1, 1) := by decide +kernel
theorem dX5_tryText_57 : decode cX5_tryText 57 = .ok (.iadd, 1) := by decide +kernel
theorem dX5_tryText_58 : decode cX5_tryText 58 = .ok (.iload_n 3, 1) := by decide +kernel
theorem dX5_tryText_59 : decode cX5_tryText 59 = .ok (.invokevirtual 225, 3) := by decide +kernel
theorem dX5_tryText_62 : decode cX5_tryText 62 = .ok (.invokevirtual 229, 3) := by decide +kernel
theorem dX5_tryText_65 : decode cX5_tryText 65 = .ok (.ifCond .ne 5, 3) := by decide +kernel
theorem dX5_tryText_68 : decode cX5_tryText 68 = .ok (.iload_n 1, 1) := by decide +kernel
theorem dX5_tryText_69 : decode cX5_tryText 69 = .ok (.ireturn, 1) := by decide +kernel
theorem dX5_tryText_70 : decode cX5_tryText 70 = .ok (.iinc 1 1, 3) := by decide +kernel
theorem dX5_tryText_73 : decode cX5_tryText 73 = .ok (.iload_n 3, 1) := by decide +kernel
theorem dX5_tryText_74 : decode cX5_tryText 74 = .ok (.iconst 1, 1) := by decide +kernel
theorem dX5_tryText_75 : decode cX5_tryText 75 = .ok (.iadd, 1) := by decide +kernel
theorem dX5_tryText_76 : decode cX5_tryText 76 = .ok (.istore_n 2, 1) := by decide +kernel
theorem dX5_tryText_77 : decode cX5_tryText 77 = .ok (.iinc 3 1, 3) := by decide +kernel
theorem dX5_tryText_80 : decode cX5_tryText 80 = .ok (.goto (-63), 3) := by decide +kernel
theorem dX5_tryText_83 : decode cX5_tryText 83 = .ok (.iconst (-1), 1) := by decide +kernel
theorem dX5_tryText_84 : decode cX5_tryText 84 = .ok (.ireturn, 1) := by decide +kernel
theorem dX5_traitsOf_0 : decode cX5_traitsOf 0 = .ok (.iload_n 0, 1) := by decide +kernel
theorem dX5_traitsOf_1 : decode cX5_traitsOf 1 = .ok (.iload_n 0, 1) := by decide +kernel
theorem dX5_traitsOf_2 : decode cX5_traitsOf 2 = .ok (.iconst (-1), 1) := by decide +kernel
theorem dX5_traitsOf_3 : decode cX5_traitsOf 3 = .ok (.ixor, 1) := by decide +kernel
theorem dX5_traitsOf_4 : decode cX5_traitsOf 4 = .ok (.bipush 15, 2) := by decide +kernel
theorem dX5_traitsOf_6 : decode cX5_traitsOf 6 = .ok (.iand, 1) := by decide +kernel
theorem dX5_traitsOf_7 : decode cX5_traitsOf 7 = .ok (.iconst 4, 1) := by decide +kernel
theorem dX5_traitsOf_8 : decode cX5_traitsOf 8 = .ok (.ishl, 1) := by decide +kernel
theorem dX5_traitsOf_9 : decode cX5_traitsOf 9 = .ok (.ior, 1) := by decide +kernel
theorem dX5_traitsOf_10 : decode cX5_traitsOf 10 = .ok (.ireturn, 1) := by decide +kernel
