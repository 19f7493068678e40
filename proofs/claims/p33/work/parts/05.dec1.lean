set_option maxRecDepth 20000 in
theorem ggX2_init_X0_init : GoodIn wsX2_init wsX0_init := goodIn_r _ [14, 15, 2, 3, 16, 17, 18, 10, 19, 20, 21, 22, 23] (by decide +kernel) (by decide +kernel)
set_option maxRecDepth 20000 in
theorem gX2_init_X0_init : GoodIn wsX2_init (wsX0_init) := ggX2_init_X0_init
theorem dX2_init_0 : decode cX2_init 0 = .ok (.aload_n 0, 1) := by decide +kernel
theorem dX2_init_1 : decode cX2_init 1 = .ok (.invokespecial 3, 3) := by decide +kernel
theorem dX2_init_4 : decode cX2_init 4 = .ok (.aload_n 0, 1) := by decide +kernel
theorem dX2_init_5 : decode cX2_init 5 = .ok (.new 9, 3) := by decide +kernel
theorem dX2_init_8 : decode cX2_init 8 = .ok (.dup, 1) := by decide +kernel
theorem dX2_init_9 : decode cX2_init 9 = .ok (.invokespecial 11, 3) := by decide +kernel
theorem dX2_init_12 : decode cX2_init 12 = .ok (.putfield 12, 3) := by decide +kernel
theorem dX2_init_15 : decode cX2_init 15 = .ok (.aload_n 0, 1) := by decide +kernel
theorem dX2_init_16 : decode cX2_init 16 = .ok (.iconst (-1), 1) := by decide +kernel
theorem dX2_init_17 : decode cX2_init 17 = .ok (.putfield 18, 3) := by decide +kernel
theorem dX2_init_20 : decode cX2_init 20 = .ok (.aload_n 0, 1) := by decide +kernel
theorem dX2_init_21 : decode cX2_init 21 = .ok (.iconst (-1), 1) := by decide +kernel
theorem dX2_init_22 : decode cX2_init 22 = .ok (.putfield 22, 3) := by decide +kernel
theorem dX2_init_25 : decode cX2_init 25 = .ok (.aload_n 0, 1) := by decide +kernel
theorem dX2_init_26 : decode cX2_init 26 = .ok (.iconst 2, 1) := by decide +kernel
theorem dX2_init_27 : decode cX2_init 27 = .ok (.newarray .int, 2) := by decide +kernel
theorem dX2_init_29 : decode cX2_init 29 = .ok (.putfield 25, 3) := by decide +kernel
theorem dX2_init_32 : decode cX2_init 32 = .ok (.return_, 1) := by decide +kernel
set_option maxRecDepth 20000 in
theorem ggX2_copyFrom_X0_copyFrom : GoodIn wsX2_copyFrom wsX0_copyFrom := goodIn_r _ [9, 10, 11, 12, 13, 18, 19, 20, 21] (by decide +kernel) (by decide +kernel)
set_option maxRecDepth 20000 in
theorem gX2_copyFrom_X0_copyFrom : GoodIn wsX2_copyFrom (wsV RX2 29 RX0 yX0_copyFrom wsX0_copyFrom) := goodIn_app (goodIn_of _ (by decide +kernel)) ggX2_copyFrom_X0_copyFrom
theorem dX2_copyFrom_0 : decode cX2_copyFrom 0 = .ok (.aload_n 0, 1) := by decide +kernel
theorem dX2_copyFrom_1 : decode cX2_copyFrom 1 = .ok (.getfield 12, 3) := by decide +kernel
theorem dX2_copyFrom_4 : decode cX2_copyFrom 4 = .ok (.aload_n 1, 1) := by decide +kernel
theorem dX2_copyFrom_5 : decode cX2_copyFrom 5 = .ok (.getfield 12, 3) := by decide +kernel
theorem dX2_copyFrom_8 : decode cX2_copyFrom 8 = .ok (.invokevirtual 29, 3) := by decide +kernel
theorem dX2_copyFrom_11 : decode cX2_copyFrom 11 = .ok (.aload_n 0, 1) := by decide +kernel
theorem dX2_copyFrom_12 : decode cX2_copyFrom 12 = .ok (.aload_n 1, 1) := by decide +kernel
theorem dX2_copyFrom_13 : decode cX2_copyFrom 13 = .ok (.getfield 18, 3) := by decide +kernel
theorem dX2_copyFrom_16 : decode cX2_copyFrom 16 = .ok (.putfield 18, 3) := by decide +kernel
theorem dX2_copyFrom_19 : decode cX2_copyFrom 19 = .ok (.aload_n 0, 1) := by decide +kernel
theorem dX2_copyFrom_20 : decode cX2_copyFrom 20 = .ok (.aload_n 1, 1) := by decide +kernel
theorem dX2_copyFrom_21 : decode cX2_copyFrom 21 = .ok (.getfield 22, 3) := by decide +kernel
theorem dX2_copyFrom_24 : decode cX2_copyFrom 24 = .ok (.putfield 22, 3) := by decide +kernel
theorem dX2_copyFrom_27 : decode cX2_copyFrom 27 = .ok (.iconst 0, 1) := by decide +kernel
theorem dX2_copyFrom_28 : decode cX2_copyFrom 28 = .ok (.istore_n 2, 1) := by decide +kernel
theorem dX2_copyFrom_29 : decode cX2_copyFrom 29 = .ok (.iload_n 2, 1) := by decide +kernel
theorem dX2_copyFrom_30 : decode cX2_copyFrom 30 = .ok (.aload_n 0, 1) := by decide +kernel
theorem dX2_copyFrom_31 : decode cX2_copyFrom 31 = .ok (.getfield 25, 3) := by decide +kernel
theorem dX2_copyFrom_34 : decode cX2_copyFrom 34 = .ok (.arraylength, 1) := by decide +kernel
theorem dX2_copyFrom_35 : decode cX2_copyFrom 35 = .ok (.if_icmp .ge 30, 3) := by decide +kernel
theorem dX2_copyFrom_38 : decode cX2_copyFrom 38 = .ok (.iload_n 2, 1) := by decide +kernel
theorem dX2_copyFrom_39 : decode cX2_copyFrom 39 = .ok (.aload_n 1, 1) := by decide +kernel
theorem dX2_copyFrom_40 : decode cX2_copyFrom 40 = .ok (.getfield 25, 3) := by decide +kernel
theorem dX2_copyFrom_43 : decode cX2_copyFrom 43 = .ok (.arraylength, 1) := by decide +kernel
theorem dX2_copyFrom_44 : decode cX2_copyFrom 44 = .ok (.if_icmp .ge 21, 3) := by decide +kernel
theorem dX2_copyFrom_47 : decode cX2_copyFrom 47 = .ok (.aload_n 0, 1) := by decide +kernel
theorem dX2_copyFrom_48 : decode cX2_copyFrom 48 = .ok (.getfield 25, 3) := by decide +kernel
theorem dX2_copyFrom_51 : decode cX2_copyFrom 51 = .ok (.iload_n 2, 1) := by decide +kernel
theorem dX2_copyFrom_52 : decode cX2_copyFrom 52 = .ok (.aload_n 1, 1) := by decide +kernel
theorem dX2_copyFrom_53 : decode cX2_copyFrom 53 = .ok (.getfield 25, 3) := by decide +kernel
theorem dX2_copyFrom_56 : decode cX2_copyFrom 56 = .ok (.iload_n 2, 1) := by decide +kernel
theorem dX2_copyFrom_57 : decode cX2_copyFrom 57 = .ok (.iaload, 1) := by decide +kernel
theorem dX2_copyFrom_58 : decode cX2_copyFrom 58 = .ok (.iastore, 1) := by decide +kernel
theorem dX2_copyFrom_59 : decode cX2_copyFrom 59 = .ok (.iinc 2 1, 3) := by decide +kernel
theorem dX2_copyFrom_62 : decode cX2_copyFrom 62 = .ok (.goto (-33), 3) := by decide +kernel
theorem dX2_copyFrom_65 : decode cX2_copyFrom 65 = .ok (.return_, 1) := by decide +kernel
set_option maxRecDepth 20000 in
theorem ggX2_begin_X0_empty : GoodIn wsX2_begin wsX0_empty := goodIn_r _ [8, 9, 10, 11, 12, 17, 18, 19, 20] (by decide +kernel) (by decide +kernel)
set_option maxRecDepth 20000 in
theorem gX2_begin_X0_empty : GoodIn wsX2_begin (wsV RX2 33 RX0 yX0_empty wsX0_empty) := goodIn_app (goodIn_of _ (by decide +kernel)) ggX2_begin_X0_empty
theorem dX2_begin_0 : decode cX2_begin 0 = .ok (.aload_n 0, 1) := by decide +kernel
theorem dX2_begin_1 : decode cX2_begin 1 = .ok (.getfield 12, 3) := by decide +kernel
theorem dX2_begin_4 : decode cX2_begin 4 = .ok (.iload_n 1, 1) := by decide +kernel
theorem dX2_begin_5 : decode cX2_begin 5 = .ok (.invokevirtual 33, 3) := by decide +kernel
theorem dX2_begin_8 : decode cX2_begin 8 = .ok (.aload_n 0, 1) := by decide +kernel
theorem dX2_begin_9 : decode cX2_begin 9 = .ok (.iconst (-1), 1) := by decide +kernel
theorem dX2_begin_10 : decode cX2_begin 10 = .ok (.putfield 18, 3) := by decide +kernel
theorem dX2_begin_13 : decode cX2_begin 13 = .ok (.aload_n 0, 1) := by decide +kernel
theorem dX2_begin_14 : decode cX2_begin 14 = .ok (.iconst (-1), 1) := by decide +kernel
theorem dX2_begin_15 : decode cX2_begin 15 = .ok (.putfield 22, 3) := by decide +kernel
theorem dX2_begin_18 : decode cX2_begin 18 = .ok (.return_, 1) := by decide +kernel
theorem dX2_board_0 : decode cX2_board 0 = .ok (.aload_n 0, 1) := by decide +kernel
theorem dX2_board_1 : decode cX2_board 1 = .ok (.getfield 12, 3) := by decide +kernel
theorem dX2_board_4 : decode cX2_board 4 = .ok (.areturn, 1) := by decide +kernel
theorem dX2_pending_0 : decode cX2_pending 0 = .ok (.aload_n 0, 1) := by decide +kernel
theorem dX2_pending_1 : decode cX2_pending 1 = .ok (.getfield 18, 3) := by decide +kernel
theorem dX2_pending_4 : decode cX2_pending 4 = .ok (.ireturn, 1) := by decide +kernel
theorem dX2_victor_0 : decode cX2_victor 0 = .ok (.aload_n 0, 1) := by decide +kernel
theorem dX2_victor_1 : decode cX2_victor 1 = .ok (.getfield 22, 3) := by decide +kernel
theorem dX2_victor_4 : decode cX2_victor 4 = .ok (.ireturn, 1) := by decide +kernel
theorem dX2_victoriesOf_0 : decode cX2_victoriesOf 0 = .ok (.iload_n 1, 1) := by decide +kernel
theorem dX2_victoriesOf_1 : decode cX2_victoriesOf 1 = .ok (.ifCond .lt 21, 3) := by decide +kernel
theorem dX2_victoriesOf_4 : decode cX2_victoriesOf 4 = .ok (.iload_n 1, 1) := by decide +kernel
theorem dX2_victoriesOf_5 : decode cX2_victoriesOf 5 = .ok (.aload_n 0, 1) := by decide +kernel
theorem dX2_victoriesOf_6 : decode cX2_victoriesOf 6 = .ok (.getfield 25, 3) := by decide +kernel
theorem dX2_victoriesOf_9 : decode cX2_victoriesOf 9 = .ok (.arraylength, 1) := by decide +kernel
theorem dX2_victoriesOf_10 : decode cX2_victoriesOf 10 = .ok (.if_icmp .ge 12, 3) := by decide +kernel
theorem dX2_victoriesOf_13 : decode cX2_victoriesOf 13 = .ok (.aload_n 0, 1) := by decide +kernel
theorem dX2_victoriesOf_14 : decode cX2_victoriesOf 14 = .ok (.getfield 25, 3) := by decide +kernel
theorem dX2_victoriesOf_17 : decode cX2_victoriesOf 17 = .ok (.iload_n 1, 1) := by decide +kernel
theorem dX2_victoriesOf_18 : decode cX2_victoriesOf 18 = .ok (.iaload, 1) := by decide +kernel
theorem dX2_victoriesOf_19 : decode cX2_victoriesOf 19 = .ok (.goto 4, 3) := by decide +kernel
theorem dX2_victoriesOf_22 : decode cX2_victoriesOf 22 = .ok (.iconst 0, 1) := by decide +kernel
theorem dX2_victoriesOf_23 : decode cX2_victoriesOf 23 = .ok (.ireturn, 1) := by decide +kernel
set_option maxRecDepth 20000 in
theorem ggX2_hasEnded_X0_emptyCount : GoodIn wsX2_hasEnded wsX0_emptyCount := goodIn_r _ [7, 8, 9, 10, 6, 11, 12, 13, 14, 15, 16, 17, 18, 19, 24, 25, 26, 27] (by decide +kernel) (by decide +kernel)
set_option maxRecDepth 20000 in
theorem gX2_hasEnded_X0_emptyCount : GoodIn wsX2_hasEnded (wsV RX2 37 RX0 yX0_emptyCount wsX0_emptyCount) := goodIn_app (goodIn_of _ (by decide +kernel)) ggX2_hasEnded_X0_emptyCount
theorem dX2_hasEnded_0 : decode cX2_hasEnded 0 = .ok (.aload_n 0, 1) := by decide +kernel
theorem dX2_hasEnded_1 : decode cX2_hasEnded 1 = .ok (.getfield 22, 3) := by decide +kernel
theorem dX2_hasEnded_4 : decode cX2_hasEnded 4 = .ok (.iconst (-1), 1) := by decide +kernel
theorem dX2_hasEnded_5 : decode cX2_hasEnded 5 = .ok (.if_icmp .ne 13, 3) := by decide +kernel
theorem dX2_hasEnded_8 : decode cX2_hasEnded 8 = .ok (.aload_n 0, 1) := by decide +kernel
theorem dX2_hasEnded_9 : decode cX2_hasEnded 9 = .ok (.getfield 12, 3) := by decide +kernel
theorem dX2_hasEnded_12 : decode cX2_hasEnded 12 = .ok (.invokevirtual 37, 3) := by decide +kernel
theorem dX2_hasEnded_15 : decode cX2_hasEnded 15 = .ok (.ifCond .ne 7, 3) := by decide +kernel
theorem dX2_hasEnded_18 : decode cX2_hasEnded 18 = .ok (.iconst 1, 1) := by decide +kernel
theorem dX2_hasEnded_19 : decode cX2_hasEnded 19 = .ok (.goto 4, 3) := by decide +kernel
theorem dX2_hasEnded_22 : decode cX2_hasEnded 22 = .ok (.iconst 0, 1) := by decide +kernel
theorem dX2_hasEnded_23 : decode cX2_hasEnded 23 = .ok (.ireturn, 1) := by decide +kernel
set_option maxRecDepth 20000 in
theorem ggX2_mover_X2_hasEnded : GoodIn wsX2_mover wsX2_hasEnded := goodIn_r _ [7, 8, 1, 9, 10, 11, 12, 13, 14, 15, 16, 17, 18, 19, 20, 21, 22, 23, 24, 25, 27, 28, 29, 30, 31, 32, 33, 34] (by decide +kernel) (by decide +kernel)
set_option maxRecDepth 20000 in
theorem gX2_mover_X2_hasEnded : GoodIn wsX2_mover (wsV RX2 41 RX2 yX2_hasEnded wsX2_hasEnded) := goodIn_app (goodIn_of _ (by decide +kernel)) ggX2_mover_X2_hasEnded
set_option maxRecDepth 20000 in
theorem ggX2_mover_X0_count : GoodIn wsX2_mover wsX0_count := goodIn_r _ [17, 18, 19, 20, 21, 22, 23, 24, 25, 31, 32, 33, 34] (by decide +kernel) (by decide +kernel)
set_option maxRecDepth 20000 in
theorem gX2_mover_X0_count : GoodIn wsX2_mover (wsV RX2 45 RX0 yX0_count wsX0_count) := goodIn_app (goodIn_of _ (by decide +kernel)) ggX2_mover_X0_count
theorem dX2_mover_0 : decode cX2_mover 0 = .ok (.aload_n 0, 1) := by decide +kernel
theorem dX2_mover_1 : decode cX2_mover 1 = .ok (.invokevirtual 41, 3) := by decide +kernel
theorem dX2_mover_4 : decode cX2_mover 4 = .ok (.ifCond .eq 5, 3) := by decide +kernel
theorem dX2_mover_7 : decode cX2_mover 7 = .ok (.iconst (-1), 1) := by decide +kernel
theorem dX2_mover_8 : decode cX2_mover 8 = .ok (.ireturn, 1) := by decide +kernel
theorem dX2_mover_9 : decode cX2_mover 9 = .ok (.aload_n 0, 1) := by decide +kernel
theorem dX2_mover_10 : decode cX2_mover 10 = .ok (.getfield 12, 3) := by decide +kernel
theorem dX2_mover_13 : decode cX2_mover 13 = .ok (.invokevirtual 45, 3) := by decide +kernel
theorem dX2_mover_16 : decode cX2_mover 16 = .ok (.iconst 2, 1) := by decide +kernel
theorem dX2_mover_17 : decode cX2_mover 17 = .ok (.irem, 1) := by decide +kernel
theorem dX2_mover_18 : decode cX2_mover 18 = .ok (.istore_n 1, 1) := by decide +kernel
theorem dX2_mover_19 : decode cX2_mover 19 = .ok (.aload_n 0, 1) := by decide +kernel
theorem dX2_mover_20 : decode cX2_mover 20 = .ok (.getfield 18, 3) := by decide +kernel
theorem dX2_mover_23 : decode cX2_mover 23 = .ok (.iconst (-1), 1) := by decide +kernel
theorem dX2_mover_24 : decode cX2_mover 24 = .ok (.if_icmp .ne 7, 3) := by decide +kernel
theorem dX2_mover_27 : decode cX2_mover 27 = .ok (.iload_n 1, 1) := by decide +kernel
theorem dX2_mover_28 : decode cX2_mover 28 = .ok (.goto 6, 3) := by decide +kernel
theorem dX2_mover_31 : decode cX2_mover 31 = .ok (.iconst 1, 1) := by decide +kernel
theorem dX2_mover_32 : decode cX2_mover 32 = .ok (.iload_n 1, 1) := by decide +kernel
theorem dX2_mover_33 : decode cX2_mover 33 = .ok (.isub, 1) := by decide +kernel
theorem dX2_mover_34 : decode cX2_mover 34 = .ok (.ireturn, 1) := by decide +kernel
set_option maxRecDepth 20000 in
theorem ggX2_isFree_X0_holds : GoodIn wsX2_isFree wsX0_holds := goodIn_r _ [7, 8, 13, 14, 15, 16] (by decide +kernel) (by decide +kernel)
set_option maxRecDepth 20000 in
theorem gX2_isFree_X0_holds : GoodIn wsX2_isFree (wsV RX2 48 RX0 yX0_holds wsX0_holds) := goodIn_app (goodIn_of _ (by decide +kernel)) ggX2_isFree_X0_holds
theorem dX2_isFree_0 : decode cX2_isFree 0 = .ok (.iload_n 1, 1) := by decide +kernel
theorem dX2_isFree_1 : decode cX2_isFree 1 = .ok (.aload_n 0, 1) := by decide +kernel
theorem dX2_isFree_2 : decode cX2_isFree 2 = .ok (.getfield 18, 3) := by decide +kernel
theorem dX2_isFree_5 : decode cX2_isFree 5 = .ok (.if_icmp .eq 18, 3) := by decide +kernel
theorem dX2_isFree_8 : decode cX2_isFree 8 = .ok (.aload_n 0, 1) := by decide +kernel
theorem dX2_isFree_9 : decode cX2_isFree 9 = .ok (.getfield 12, 3) := by decide +kernel
theorem dX2_isFree_12 : decode cX2_isFree 12 = .ok (.iload_n 1, 1) := by decide +kernel
theorem dX2_isFree_13 : decode cX2_isFree 13 = .ok (.invokevirtual 48, 3) := by decide +kernel
theorem dX2_isFree_16 : decode cX2_isFree 16 = .ok (.ifCond .ne 7, 3) := by decide +kernel
theorem dX2_isFree_19 : decode cX2_isFree 19 = .ok (.iconst 1, 1) := by decide +kernel
theorem dX2_isFree_20 : decode cX2_isFree 20 = .ok (.goto 4, 3) := by decide +kernel
theorem dX2_isFree_23 : decode cX2_isFree 23 = .ok (.iconst 0, 1) := by decide +kernel
theorem dX2_isFree_24 : decode cX2_isFree 24 = .ok (.ireturn, 1) := by decide +kernel
set_option maxRecDepth 20000 in
theorem ggX2_canGive_X2_hasEnded : GoodIn wsX2_canGive wsX2_hasEnded := goodIn_r _ [7, 8, 2, 9, 10, 11, 12, 13, 14, 15, 16, 17, 18, 19, 20, 21, 22, 23, 24, 25, 31, 32, 33, 34, 35, 36, 37, 38] (by decide +kernel) (by decide +kernel)
set_option maxRecDepth 20000 in
theorem gX2_canGive_X2_hasEnded : GoodIn wsX2_canGive (wsV RX2 41 RX2 yX2_hasEnded wsX2_hasEnded) := goodIn_app (goodIn_of _ (by decide +kernel)) ggX2_canGive_X2_hasEnded
set_option maxRecDepth 20000 in
theorem ggX2_canGive_X0_holds : GoodIn wsX2_canGive wsX0_holds := goodIn_r _ [29, 30, 35, 36, 37, 38] (by decide +kernel) (by decide +kernel)
set_option maxRecDepth 20000 in
theorem gX2_canGive_X0_holds : GoodIn wsX2_canGive (wsV RX2 48 RX0 yX0_holds wsX0_holds) := goodIn_app (goodIn_of _ (by decide +kernel)) ggX2_canGive_X0_holds
theorem dX2_canGive_0 : decode cX2_canGive 0 = .ok (.aload_n 0, 1) := by decide +kernel
theorem dX2_canGive_1 : decode cX2_canGive 1 = .ok (.invokevirtual 41, 3) := by decide +kernel
theorem dX2_canGive_4 : decode cX2_canGive 4 = .ok (.ifCond .ne 26, 3) := by decide +kernel
theorem dX2_canGive_7 : decode cX2_canGive 7 = .ok (.aload_n 0, 1) := by decide +kernel
theorem dX2_canGive_8 : decode cX2_canGive 8 = .ok (.getfield 18, 3) := by decide +kernel
theorem dX2_canGive_11 : decode cX2_canGive 11 = .ok (.iconst (-1), 1) := by decide +kernel
theorem dX2_canGive_12 : decode cX2_canGive 12 = .ok (.if_icmp .ne 18, 3) := by decide +kernel
theorem dX2_canGive_15 : decode cX2_canGive 15 = .ok (.aload_n 0, 1) := by decide +kernel
theorem dX2_canGive_16 : decode cX2_canGive 16 = .ok (.getfield 12, 3) := by decide +kernel
theorem dX2_canGive_19 : decode cX2_canGive 19 = .ok (.iload_n 1, 1) := by decide +kernel
theorem dX2_canGive_20 : decode cX2_canGive 20 = .ok (.invokevirtual 48, 3) := by decide +kernel
theorem dX2_canGive_23 : decode cX2_canGive 23 = .ok (.ifCond .ne 7, 3) := by decide +kernel
theorem dX2_canGive_26 : decode cX2_canGive 26 = .ok (.iconst 1, 1) := by decide +kernel
theorem dX2_canGive_27 : decode cX2_canGive 27 = .ok (.goto 4, 3) := by decide +kernel
theorem dX2_canGive_30 : decode cX2_canGive 30 = .ok (.iconst 0, 1) := by decide +kernel
theorem dX2_canGive_31 : decode cX2_canGive 31 = .ok (.ireturn, 1) := by decide +kernel
set_option maxRecDepth 20000 in
theorem ggX2_canPut_X0_isEmpty : GoodIn wsX2_canPut wsX0_isEmpty := goodIn_r _ [7, 8, 13, 14, 15, 16] (by decide +kernel) (by decide +kernel)
set_option maxRecDepth 20000 in
theorem gX2_canPut_X0_isEmpty : GoodIn wsX2_canPut (wsV RX2 52 RX0 yX0_isEmpty wsX0_isEmpty) := goodIn_app (goodIn_of _ (by decide +kernel)) ggX2_canPut_X0_isEmpty
theorem dX2_canPut_0 : decode cX2_canPut 0 = .ok (.aload_n 0, 1) := by decide +kernel
theorem dX2_canPut_1 : decode cX2_canPut 1 = .ok (.getfield 18, 3) := by decide +kernel
theorem dX2_canPut_4 : decode cX2_canPut 4 = .ok (.iconst (-1), 1) := by decide +kernel
theorem dX2_canPut_5 : decode cX2_canPut 5 = .ok (.if_icmp .eq 18, 3) := by decide +kernel
theorem dX2_canPut_8 : decode cX2_canPut 8 = .ok (.aload_n 0, 1) := by decide +kernel
theorem dX2_canPut_9 : decode cX2_canPut 9 = .ok (.getfield 12, 3) := by decide +kernel
theorem dX2_canPut_12 : decode cX2_canPut 12 = .ok (.iload_n 1, 1) := by decide +kernel
theorem dX2_canPut_13 : decode cX2_canPut 13 = .ok (.invokevirtual 52, 3) := by decide +kernel
theorem dX2_canPut_16 : decode cX2_canPut 16 = .ok (.ifCond .eq 7, 3) := by decide +kernel
theorem dX2_canPut_19 : decode cX2_canPut 19 = .ok (.iconst 1, 1) := by decide +kernel
theorem dX2_canPut_20 : decode cX2_canPut 20 = .ok (.goto 4, 3) := by decide +kernel
theorem dX2_canPut_23 : decode cX2_canPut 23 = .ok (.iconst 0, 1) := by decide +kernel
theorem dX2_canPut_24 : decode cX2_canPut 24 = .ok (.ireturn, 1) := by decide +kernel
theorem dX2_setGift_0 : decode cX2_setGift 0 = .ok (.aload_n 0, 1) := by decide +kernel
theorem dX2_setGift_1 : decode cX2_setGift 1 = .ok (.iload_n 1, 1) := by decide +kernel
theorem dX2_setGift_2 : decode cX2_setGift 2 = .ok (.putfield 18, 3) := by decide +kernel
theorem dX2_setGift_5 : decode cX2_setGift 5 = .ok (.return_, 1) := by decide +kernel
set_option maxRecDepth 20000 in
theorem ggX2_putGift_X2_mover : GoodIn wsX2_putGift wsX2_mover := goodIn_r _ [9, 1, 2, 10, 11, 12, 8, 13, 3, 14, 15, 16, 17, 18, 19, 20, 21, 22, 23, 24, 25, 26, 27, 28, 29, 30, 31, 52, 53, 54, 55, 56, 57, 58, 59] (by decide +kernel) (by decide +kernel)
set_option maxRecDepth 20000 in
theorem gX2_putGift_X2_mover : GoodIn wsX2_putGift (wsV RX2 55 RX2 yX2_mover wsX2_mover) := goodIn_app (goodIn_of _ (by decide +kernel)) ggX2_putGift_X2_mover
set_option maxRecDepth 20000 in
theorem ggX2_putGift_X0_put : GoodIn wsX2_putGift wsX0_put := goodIn_r _ [35, 23, 36, 37, 56, 57, 58, 59] (by decide +kernel) (by decide +kernel)
set_option maxRecDepth 20000 in
theorem gX2_putGift_X0_put : GoodIn wsX2_putGift (wsV RX2 58 RX0 yX0_put wsX0_put) := goodIn_app (goodIn_of _ (by decide +kernel)) ggX2_putGift_X0_put
set_option maxRecDepth 20000 in
theorem ggX2_putGift_X0_hasWonLine : GoodIn wsX2_putGift wsX0_hasWonLine := goodIn_r _ [41, 42, 43, 44, 17, 45, 46, 47, 48, 49, 50, 51, 23, 37, 56, 57, 58, 59] (by decide +kernel) (by decide +kernel)
set_option maxRecDepth 20000 in
theorem gX2_putGift_X0_hasWonLine : GoodIn wsX2_putGift (wsV RX2 62 RX0 yX0_hasWonLine wsX0_hasWonLine) := goodIn_app (goodIn_of _ (by decide +kernel)) ggX2_putGift_X0_hasWonLine
theorem dX2_putGift_0 : decode cX2_putGift 0 = .ok (.aload_n 0, 1) := by decide +kernel
theorem dX2_putGift_1 : decode cX2_putGift 1 = .ok (.invokevirtual 55, 3) := by decide +kernel
theorem dX2_putGift_4 : decode cX2_putGift 4 = .ok (.istore_n 2, 1) := by decide +kernel
theorem dX2_putGift_5 : decode cX2_putGift 5 = .ok (.aload_n 0, 1) := by decide +kernel
theorem dX2_putGift_6 : decode cX2_putGift 6 = .ok (.getfield 12, 3) := by decide +kernel
theorem dX2_putGift_9 : decode cX2_putGift 9 = .ok (.aload_n 0, 1) := by decide +kernel
theorem dX2_putGift_10 : decode cX2_putGift 10 = .ok (.getfield 18, 3) := by decide +kernel
theorem dX2_putGift_13 : decode cX2_putGift 13 = .ok (.iload_n 1, 1) := by decide +kernel
theorem dX2_putGift_14 : decode cX2_putGift 14 = .ok (.invokevirtual 58, 3) := by decide +kernel
theorem dX2_putGift_17 : decode cX2_putGift 17 = .ok (.aload_n 0, 1) := by decide +kernel
theorem dX2_putGift_18 : decode cX2_putGift 18 = .ok (.iconst (-1), 1) := by decide +kernel
theorem dX2_putGift_19 : decode cX2_putGift 19 = .ok (.putfield 18, 3) := by decide +kernel
theorem dX2_putGift_22 : decode cX2_putGift 22 = .ok (.aload_n 0, 1) := by decide +kernel
theorem dX2_putGift_23 : decode cX2_putGift 23 = .ok (.getfield 12, 3) := by decide +kernel
theorem dX2_putGift_26 : decode cX2_putGift 26 = .ok (.invokevirtual 62, 3) := by decide +kernel
theorem dX2_putGift_29 : decode cX2_putGift 29 = .ok (.ifCond .ne 5, 3) := by decide +kernel
theorem dX2_putGift_32 : decode cX2_putGift 32 = .ok (.iconst 0, 1) := by decide +kernel
theorem dX2_putGift_33 : decode cX2_putGift 33 = .ok (.ireturn, 1) := by decide +kernel
theorem dX2_putGift_34 : decode cX2_putGift 34 = .ok (.aload_n 0, 1) := by decide +kernel
theorem dX2_putGift_35 : decode cX2_putGift 35 = .ok (.iload_n 2, 1) := by decide +kernel
theorem dX2_putGift_36 : decode cX2_putGift 36 = .ok (.putfield 22, 3) := by decide +kernel
theorem dX2_putGift_39 : decode cX2_putGift 39 = .ok (.iload_n 2, 1) := by decide +kernel
theorem dX2_putGift_40 : decode cX2_putGift 40 = .ok (.ifCond .lt 22, 3) := by decide +kernel
theorem dX2_putGift_43 : decode cX2_putGift 43 = .ok (.iload_n 2, 1) := by decide +kernel
theorem dX2_putGift_44 : decode cX2_putGift 44 = .ok (.aload_n 0, 1) := by decide +kernel
theorem dX2_putGift_45 : decode cX2_putGift 45 = .ok (.getfield 25, 3) := by decide +kernel
theorem dX2_putGift_48 : decode cX2_putGift 48 = .ok (.arraylength, 1) := by decide +kernel
theorem dX2_putGift_49 : decode cX2_putGift 49 = .ok (.if_icmp .ge 13, 3) := by decide +kernel
theorem dX2_putGift_52 : decode cX2_putGift 52 = .ok (.aload_n 0, 1) := by decide +kernel
theorem dX2_putGift_53 : decode cX2_putGift 53 = .ok (.getfield 25, 3) := by decide +kernel
theorem dX2_putGift_56 : decode cX2_putGift 56 = .ok (.iload_n 2, 1) := by decide +kernel
theorem dX2_putGift_57 : decode cX2_putGift 57 = .ok (.dup2, 1) := by decide +kernel
theorem dX2_putGift_58 : decode cX2_putGift 58 = .ok (.iaload, 1) := by decide +kernel
theorem dX2_putGift_59 : decode cX2_putGift 59 = .ok (.iconst 1, 1) := by decide +kernel
theorem dX2_putGift_60 : decode cX2_putGift 60 = .ok (.iadd, 1) := by decide +kernel
theorem dX2_putGift_61 : decode cX2_putGift 61 = .ok (.iastore, 1) := by decide +kernel
theorem dX2_putGift_62 : decode cX2_putGift 62 = .ok (.iconst 1, 1) := by decide +kernel
theorem dX2_putGift_63 : decode cX2_putGift 63 = .ok (.ireturn, 1) := by decide +kernel
set_option maxRecDepth 20000 in
theorem ggX2_tryMove_X2_canGive : GoodIn wsX2_tryMove wsX2_canGive := goodIn_r _ [5, 6, 7, 8, 9, 10, 4, 11, 12, 13, 14, 15, 16, 17, 18, 19, 20, 21, 22, 23, 24, 25, 26, 27, 28, 29, 30, 31, 32, 33, 34, 76, 77, 78, 79, 80, 81, 82, 83] (by decide +kernel) (by decide +kernel)
set_option maxRecDepth 20000 in
theorem gX2_tryMove_X2_canGive : GoodIn wsX2_tryMove (wsV RX2 65 RX2 yX2_canGive wsX2_canGive) := goodIn_app (goodIn_of _ (by decide +kernel)) ggX2_tryMove_X2_canGive
set_option maxRecDepth 20000 in
theorem ggX2_tryMove_X2_setGift : GoodIn wsX2_tryMove wsX2_setGift := goodIn_r _ [38, 6, 76, 77, 78, 79] (by decide +kernel) (by decide +kernel)
set_option maxRecDepth 20000 in
theorem gX2_tryMove_X2_setGift : GoodIn wsX2_tryMove (wsV RX2 68 RX2 yX2_setGift wsX2_setGift) := goodIn_app (goodIn_of _ (by decide +kernel)) ggX2_tryMove_X2_setGift
set_option maxRecDepth 20000 in
theorem ggX2_tryMove_X2_canPut : GoodIn wsX2_tryMove wsX2_canPut := goodIn_r _ [42, 6, 7, 43, 44, 45, 16, 46, 22, 76, 77, 78, 79, 80, 81, 82, 83] (by decide +kernel) (by decide +kernel)
set_option maxRecDepth 20000 in
theorem gX2_tryMove_X2_canPut : GoodIn wsX2_tryMove (wsV RX2 71 RX2 yX2_canPut wsX2_canPut) := goodIn_app (goodIn_of _ (by decide +kernel)) ggX2_tryMove_X2_canPut
set_option maxRecDepth 20000 in
theorem ggX2_tryMove_X2_putGift : GoodIn wsX2_tryMove wsX2_putGift := goodIn_r _ [50, 7, 6, 12, 51, 52, 53, 54, 4, 55, 8, 9, 10, 11, 13, 14, 15, 16, 17, 18, 19, 20, 21, 22, 23, 24, 25, 26, 27, 28, 29, 56, 57, 58, 59, 60, 34, 61, 62, 63, 64, 65, 66, 67, 68, 69, 70, 71, 72, 73, 74, 75, 76, 77, 78, 79, 80, 81, 82, 83] (by decide +kernel) (by decide +kernel)
set_option maxRecDepth 20000 in
theorem gX2_tryMove_X2_putGift : GoodIn wsX2_tryMove (wsV RX2 74 RX2 yX2_putGift wsX2_putGift) := goodIn_app (goodIn_of _ (by decide +kernel)) ggX2_tryMove_X2_putGift
theorem dX2_tryMove_0 : decode cX2_tryMove 0 = .ok (.iload_n 1, 1) := by decide +kernel
theorem dX2_tryMove_1 : decode cX2_tryMove 1 = .ok (.ifCond .eq 20, 3) := by decide +kernel
theorem dX2_tryMove_4 : decode cX2_tryMove 4 = .ok (.aload_n 0, 1) := by decide +kernel
theorem dX2_tryMove_5 : decode cX2_tryMove 5 = .ok (.iload_n 2, 1) := by decide +kernel
theorem dX2_tryMove_6 : decode cX2_tryMove 6 = .ok (.invokevirtual 65, 3) := by decide +kernel
theorem dX2_tryMove_9 : decode cX2_tryMove 9 = .ok (.ifCond .ne 5, 3) := by decide +kernel
theorem dX2_tryMove_12 : decode cX2_tryMove 12 = .ok (.iconst 0, 1) := by decide +kernel
theorem dX2_tryMove_13 : decode cX2_tryMove 13 = .ok (.ireturn, 1) := by decide +kernel
theorem dX2_tryMove_14 : decode cX2_tryMove 14 = .ok (.aload_n 0, 1) := by decide +kernel
theorem dX2_tryMove_15 : decode cX2_tryMove 15 = .ok (.iload_n 2, 1) := by decide +kernel
theorem dX2_tryMove_16 : decode cX2_tryMove 16 = .ok (.invokevirtual 68, 3) := by decide +kernel
theorem dX2_tryMove_19 : decode cX2_tryMove 19 = .ok (.iconst 1, 1) := by decide +kernel
theorem dX2_tryMove_20 : decode cX2_tryMove 20 = .ok (.ireturn, 1) := by decide +kernel
theorem dX2_tryMove_21 : decode cX2_tryMove 21 = .ok (.aload_n 0, 1) := by decide +kernel
theorem dX2_tryMove_22 : decode cX2_tryMove 22 = .ok (.iload_n 2, 1) := by decide +kernel
theorem dX2_tryMove_23 : decode cX2_tryMove 23 = .ok (.invokevirtual 71, 3) := by decide +kernel
theorem dX2_tryMove_26 : decode cX2_tryMove 26 = .ok (.ifCond .ne 5, 3) := by decide +kernel
theorem dX2_tryMove_29 : decode cX2_tryMove 29 = .ok (.iconst 0, 1) := by decide +kernel
theorem dX2_tryMove_30 : decode cX2_tryMove 30 = .ok (.ireturn, 1) := by decide +kernel
theorem dX2_tryMove_31 : decode cX2_tryMove 31 = .ok (.aload_n 0, 1) := by decide +kernel
theorem dX2_tryMove_32 : decode cX2_tryMove 32 = .ok (.iload_n 2, 1) := by decide +kernel
theorem dX2_tryMove_33 : decode cX2_tryMove 33 = .ok (.invokevirtual 74, 3) := by decide +kernel
theorem dX2_tryMove_36 : decode cX2_tryMove 36 = .ok (.pop, 1) := by decide +kernel
theorem dX2_tryMove_37 : decode cX2_tryMove 37 = .ok (.iconst 1, 1) := by decide +kernel
theorem dX2_tryMove_38 : decode cX2_tryMove 38 = .ok (.ireturn, 1) := by decide +kernel
set_option maxRecDepth 20000 in
theorem ggX3_init_X2_init : GoodIn wsX3_init wsX2_init := goodIn_r _ [12, 13, 2, 3, 14, 15, 16, 17, 18, 19, 20, 21, 22, 23, 24, 25, 26, 27, 28, 29, 37, 38, 39, 40, 33, 34, 35, 36] (by decide +kernel) (by decide +kernel)
set_option maxRecDepth 20000 in
theorem gX3_init_X2_init : GoodIn wsX3_init (wsX2_init) := ggX3_init_X2_init
theorem dX3_init_0 : decode cX3_init 0 = .ok (.aload_n 0, 1) := by decide +kernel
theorem dX3_init_1 : decode cX3_init 1 = .ok (.invokespecial 1, 3) := by decide +kernel
theorem dX3_init_4 : decode cX3_init 4 = .ok (.aload_n 0, 1) := by decide +kernel
theorem dX3_init_5 : decode cX3_init 5 = .ok (.iconst 4, 1) := by decide +kernel
theorem dX3_init_6 : decode cX3_init 6 = .ok (.anewarray 9, 3) := by decide +kernel
theorem dX3_init_9 : decode cX3_init 9 = .ok (.putfield 11, 3) := by decide +kernel
theorem dX3_init_12 : decode cX3_init 12 = .ok (.iconst 0, 1) := by decide +kernel
theorem dX3_init_13 : decode cX3_init 13 = .ok (.istore_n 1, 1) := by decide +kernel
theorem dX3_init_14 : decode cX3_init 14 = .ok (.iload_n 1, 1) := by decide +kernel
theorem dX3_init_15 : decode cX3_init 15 = .ok (.aload_n 0, 1) := by decide +kernel
theorem dX3_init_16 : decode cX3_init 16 = .ok (.getfield 11, 3) := by decide +kernel
theorem dX3_init_19 : decode cX3_init 19 = .ok (.arraylength, 1) := by decide +kernel
theorem dX3_init_20 : decode cX3_init 20 = .ok (.if_icmp .ge 22, 3) := by decide +kernel
theorem dX3_init_23 : decode cX3_init 23 = .ok (.aload_n 0, 1) := by decide +kernel
theorem dX3_init_24 : decode cX3_init 24 = .ok (.getfield 11, 3) := by decide +kernel
theorem dX3_init_27 : decode cX3_init 27 = .ok (.iload_n 1, 1) := by decide +kernel
theorem dX3_init_28 : decode cX3_init 28 = .ok (.new 9, 3) := by decide +kernel
theorem dX3_init_31 : decode cX3_init 31 = .ok (.dup, 1) := by decide +kernel
theorem dX3_init_32 : decode cX3_init 32 = .ok (.invokespecial 15, 3) := by decide +kernel
theorem dX3_init_35 : decode cX3_init 35 = .ok (.aastore, 1) := by decide +kernel
theorem dX3_init_36 : decode cX3_init 36 = .ok (.iinc 1 1, 3) := by decide +kernel
theorem dX3_init_39 : decode cX3_init 39 = .ok (.goto (-25), 3) := by decide +kernel
theorem dX3_init_42 : decode cX3_init 42 = .ok (.aload_n 0, 1) := by decide +kernel
theorem dX3_init_43 : decode cX3_init 43 = .ok (.iconst 0, 1) := by decide +kernel
theorem dX3_init_44 : decode cX3_init 44 = .ok (.putfield 16, 3) := by decide +kernel
theorem dX3_init_47 : decode cX3_init 47 = .ok (.aload_n 0, 1) := by decide +kernel
theorem dX3_init_48 : decode cX3_init 48 = .ok (.iconst 0, 1) := by decide +kernel
theorem dX3_init_49 : decode cX3_init 49 = .ok (.putfield 20, 3) := by decide +kernel
theorem dX3_init_52 : decode cX3_init 52 = .ok (.return_, 1) := by decide +kernel
theorem dX3_size_0 : decode cX3_size 0 = .ok (.aload_n 0, 1) := by decide +kernel
theorem dX3_size_1 : decode cX3_size 1 = .ok (.getfield 20, 3) := by decide +kernel
theorem dX3_size_4 : decode cX3_size 4 = .ok (.ireturn, 1) := by decide +kernel
set_option maxRecDepth 20000 in
theorem ggX3_record_X3_stateAt : GoodIn wsX3_record wsX3_stateAt := goodIn_r _ [11, 12, 31, 32, 33] (by decide +kernel) (by decide +kernel)
set_option maxRecDepth 20000 in
theorem gX3_record_X3_stateAt : GoodIn wsX3_record (wsV RX3 23 RX3 yX3_stateAt wsX3_stateAt) := goodIn_app (goodIn_of _ (by decide +kernel)) ggX3_record_X3_stateAt
set_option maxRecDepth 20000 in
theorem ggX3_record_X2_copyFrom : GoodIn wsX3_record wsX2_copyFrom := goodIn_r _ [17, 18, 19, 20, 21, 22, 23, 24, 25, 26, 27, 28, 29, 30, 34, 35, 36, 37, 38, 39, 40, 41] (by decide +kernel) (by decide +kernel)
set_option maxRecDepth 20000 in
theorem gX3_record_X2_copyFrom : GoodIn wsX3_record (wsV RX3 27 RX2 yX2_copyFrom wsX2_copyFrom) := goodIn_app (goodIn_of _ (by decide +kernel)) ggX3_record_X2_copyFrom
theorem dX3_record_0 : decode cX3_record 0 = .ok (.aload_n 0, 1) := by decide +kernel
theorem dX3_record_1 : decode cX3_record 1 = .ok (.aload_n 0, 1) := by decide +kernel
theorem dX3_record_2 : decode cX3_record 2 = .ok (.getfield 16, 3) := by decide +kernel
theorem dX3_record_5 : decode cX3_record 5 = .ok (.invokevirtual 23, 3) := by decide +kernel
theorem dX3_record_8 : decode cX3_record 8 = .ok (.astore_n 2, 1) := by decide +kernel
theorem dX3_record_9 : decode cX3_record 9 = .ok (.aload_n 2, 1) := by decide +kernel
theorem dX3_record_10 : decode cX3_record 10 = .ok (.ifnull 34, 3) := by decide +kernel
theorem dX3_record_13 : decode cX3_record 13 = .ok (.aload_n 2, 1) := by decide +kernel
theorem dX3_record_14 : decode cX3_record 14 = .ok (.aload_n 1, 1) := by decide +kernel
theorem dX3_record_15 : decode cX3_record 15 = .ok (.invokevirtual 27, 3) := by decide +kernel
theorem dX3_record_18 : decode cX3_record 18 = .ok (.aload_n 0, 1) := by decide +kernel
theorem dX3_record_19 : decode cX3_record 19 = .ok (.aload_n 0, 1) := by decide +kernel
theorem dX3_record_20 : decode cX3_record 20 = .ok (.getfield 16, 3) := by decide +kernel
theorem dX3_record_23 : decode cX3_record 23 = .ok (.iconst 1, 1) := by decide +kernel
theorem dX3_record_24 : decode cX3_record 24 = .ok (.iadd, 1) := by decide +kernel
theorem dX3_record_25 : decode cX3_record 25 = .ok (.iconst 4, 1) := by decide +kernel
theorem dX3_record_26 : decode cX3_record 26 = .ok (.irem, 1) := by decide +kernel
theorem dX3_record_27 : decode cX3_record 27 = .ok (.putfield 16, 3) := by decide +kernel
theorem dX3_record_30 : decode cX3_record 30 = .ok (.aload_n 0, 1) := by decide +kernel
theorem dX3_record_31 : decode cX3_record 31 = .ok (.aload_n 0, 1) := by decide +kernel
theorem dX3_record_32 : decode cX3_record 32 = .ok (.getfield 20, 3) := by decide +kernel
theorem dX3_record_35 : decode cX3_record 35 = .ok (.iconst 1, 1) := by decide +kernel
theorem dX3_record_36 : decode cX3_record 36 = .ok (.iadd, 1) := by decide +kernel
theorem dX3_record_37 : decode cX3_record 37 = .ok (.iconst 4, 1) := by decide +kernel
theorem dX3_record_38 : decode cX3_record 38 = .ok (.invokestatic 31, 3) := by decide +kernel
theorem dX3_record_41 : decode cX3_record 41 = .ok (.putfield 20, 3) := by decide +kernel
theorem dX3_record_44 : decode cX3_record 44 = .ok (.return_, 1) := by decide +kernel
set_option maxRecDepth 20000 in
theorem ggX3_takeBack_X3_stateAt : GoodIn wsX3_takeBack wsX3_stateAt := goodIn_r _ [7, 8, 27, 28, 29] (by decide +kernel) (by decide +kernel)
set_option maxRecDepth 20000 in
theorem gX3_takeBack_X3_stateAt : GoodIn wsX3_takeBack (wsV RX3 23 RX3 yX3_stateAt wsX3_stateAt) := goodIn_app (goodIn_of _ (by decide +kernel)) ggX3_takeBack_X3_stateAt
set_option maxRecDepth 20000 in
theorem ggX3_takeBack_X2_copyFrom : GoodIn wsX3_takeBack wsX2_copyFrom := goodIn_r _ [13, 14, 15, 16, 17, 18, 19, 20, 21, 22, 23, 24, 25, 26, 30, 31, 32, 33, 34, 35, 36, 37] (by decide +kernel) (by decide +kernel)
set_option maxRecDepth 20000 in
theorem gX3_takeBack_X2_copyFrom : GoodIn wsX3_takeBack (wsV RX3 27 RX2 yX2_copyFrom wsX2_copyFrom) := goodIn_app (goodIn_of _ (by decide +kernel)) ggX3_takeBack_X2_copyFrom
theorem dX3_takeBack_0 : decode cX3_takeBack 0 = .ok (.aload_n 0, 1) := by decide +kernel
theorem dX3_takeBack_1 : decode cX3_takeBack 1 = .ok (.getfield 16, 3) := by decide +kernel
theorem dX3_takeBack_4 : decode cX3_takeBack 4 = .ok (.iconst 4, 1) := by decide +kernel
theorem dX3_takeBack_5 : decode cX3_takeBack 5 = .ok (.iadd, 1) := by decide +kernel
theorem dX3_takeBack_6 : decode cX3_takeBack 6 = .ok (.iconst 1, 1) := by decide +kernel
theorem dX3_takeBack_7 : decode cX3_takeBack 7 = .ok (.isub, 1) := by decide +kernel
theorem dX3_takeBack_8 : decode cX3_takeBack 8 = .ok (.iconst 4, 1) := by decide +kernel
theorem dX3_takeBack_9 : decode cX3_takeBack 9 = .ok (.irem, 1) := by decide +kernel
theorem dX3_takeBack_10 : decode cX3_takeBack 10 = .ok (.istore_n 2, 1) := by decide +kernel
theorem dX3_takeBack_11 : decode cX3_takeBack 11 = .ok (.aload_n 0, 1) := by decide +kernel
theorem dX3_takeBack_12 : decode cX3_takeBack 12 = .ok (.iload_n 2, 1) := by decide +kernel
theorem dX3_takeBack_13 : decode cX3_takeBack 13 = .ok (.invokevirtual 23, 3) := by decide +kernel
theorem dX3_takeBack_16 : decode cX3_takeBack 16 = .ok (.astore_n 3, 1) := by decide +kernel
theorem dX3_takeBack_17 : decode cX3_takeBack 17 = .ok (.aload_n 0, 1) := by decide +kernel
theorem dX3_takeBack_18 : decode cX3_takeBack 18 = .ok (.getfield 20, 3) := by decide +kernel
theorem dX3_takeBack_21 : decode cX3_takeBack 21 = .ok (.ifCond .le 27, 3) := by decide +kernel
theorem dX3_takeBack_24 : decode cX3_takeBack 24 = .ok (.aload_n 3, 1) := by decide +kernel
theorem dX3_takeBack_25 : decode cX3_takeBack 25 = .ok (.ifnull 23, 3) := by decide +kernel
theorem dX3_takeBack_28 : decode cX3_takeBack 28 = .ok (.aload_n 1, 1) := by decide +kernel
theorem dX3_takeBack_29 : decode cX3_takeBack 29 = .ok (.aload_n 3, 1) := by decide +kernel
theorem dX3_takeBack_30 : decode cX3_takeBack 30 = .ok (.invokevirtual 27, 3) := by decide +kernel
theorem dX3_takeBack_33 : decode cX3_takeBack 33 = .ok (.aload_n 0, 1) := by decide +kernel
theorem dX3_takeBack_34 : decode cX3_takeBack 34 = .ok (.iload_n 2, 1) := by decide +kernel
theorem dX3_takeBack_35 : decode cX3_takeBack 35 = .ok (.putfield 16, 3) := by decide +kernel
theorem dX3_takeBack_38 : decode cX3_takeBack 38 = .ok (.aload_n 0, 1) := by decide +kernel
theorem dX3_takeBack_39 : decode cX3_takeBack 39 = .ok (.dup, 1) := by decide +kernel
theorem dX3_takeBack_40 : decode cX3_takeBack 40 = .ok (.getfield 20, 3) := by decide +kernel
theorem dX3_takeBack_43 : decode cX3_takeBack 43 = .ok (.iconst 1, 1) := by decide +kernel
theorem dX3_takeBack_44 : decode cX3_takeBack 44 = .ok (.isub, 1) := by decide +kernel
theorem dX3_takeBack_45 : decode cX3_takeBack 45 = .ok (.putfield 20, 3) := by decide +kernel
theorem dX3_takeBack_48 : decode cX3_takeBack 48 = .ok (.return_, 1) := by decide +kernel
theorem dX3_stateAt_0 : decode cX3_stateAt 0 = .ok (.iload_n 1, 1) := by decide +kernel
theorem dX3_stateAt_1 : decode cX3_stateAt 1 = .ok (.ifCond .lt 21, 3) := by decide +kernel
theorem dX3_stateAt_4 : decode cX3_stateAt 4 = .ok (.iload_n 1, 1) := by decide +kernel
theorem dX3_stateAt_5 : decode cX3_stateAt 5 = .ok (.aload_n 0, 1) := by decide +kernel
theorem dX3_stateAt_6 : decode cX3_stateAt 6 = .ok (.getfield 11, 3) := by decide +kernel
theorem dX3_stateAt_9 : decode cX3_stateAt 9 = .ok (.arraylength, 1) := by decide +kernel
theorem dX3_stateAt_10 : decode cX3_stateAt 10 = .ok (.if_icmp .ge 12, 3) := by decide +kernel
theorem dX3_stateAt_13 : decode cX3_stateAt 13 = .ok (.aload_n 0, 1) := by decide +kernel
theorem dX3_stateAt_14 : decode cX3_stateAt 14 = .ok (.getfield 11, 3) := by decide +kernel
theorem dX3_stateAt_17 : decode cX3_stateAt 17 = .ok (.iload_n 1, 1) := by decide +kernel
theorem dX3_stateAt_18 : decode cX3_stateAt 18 = .ok (.aaload, 1) := by decide +kernel
theorem dX3_stateAt_19 : decode cX3_stateAt 19 = .ok (.goto 4, 3) := by decide +kernel
theorem dX3_stateAt_22 : decode cX3_stateAt 22 = .ok (.aconst_null, 1) := by decide +kernel
theorem dX3_stateAt_23 : decode cX3_stateAt 23 = .ok (.areturn, 1) := by decide +kernel
theorem dX4_init_0 : decode cX4_init 0 = .ok (.aload_n 0, 1) := by decide +kernel
theorem dX4_init_1 : decode cX4_init 1 = .ok (.invokespecial 3, 3) := by decide +kernel
theorem dX4_init_4 : decode cX4_init 4 = .ok (.aload_n 0, 1) := by decide +kernel
theorem dX4_init_5 : decode cX4_init 5 = .ok (.bipush 60, 2) := by decide +kernel
theorem dX4_init_7 : decode cX4_init 7 = .ok (.newarray .char, 2) := by decide +kernel
theorem dX4_init_9 : decode cX4_init 9 = .ok (.putfield 11, 3) := by decide +kernel
theorem dX4_init_12 : decode cX4_init 12 = .ok (.aload_n 0, 1) := by decide +kernel
theorem dX4_init_13 : decode cX4_init 13 = .ok (.iconst 0, 1) := by decide +kernel
theorem dX4_init_14 : decode cX4_init 14 = .ok (.putfield 15, 3) := by decide +kernel
theorem dX4_init_17 : decode cX4_init 17 = .ok (.return_, 1) := by decide +kernel
theorem dX4_length_0 : decode cX4_length 0 = .ok (.aload_n 0, 1) := by decide +kernel
theorem dX4_length_1 : decode cX4_length 1 = .ok (.getfield 15, 3) := by decide +kernel
theorem dX4_length_4 : decode cX4_length 4 = .ok (.ireturn, 1) := by decide +kernel
theorem dX4_isFull_0 : decode cX4_isFull 0 = .ok (.aload_n 0, 1) := by decide +kernel
theorem dX4_isFull_1 : decode cX4_isFull 1 = .ok (.getfield 15, 3) := by decide +kernel
theorem dX4_isFull_4 : decode cX4_isFull 4 = .ok (.bipush 60, 2) := by decide +kernel
theorem dX4_isFull_6 : decode cX4_isFull 6 = .ok (.if_icmp .lt 7, 3) := by decide +kernel
theorem dX4_isFull_9 : decode cX4_isFull 9 = .ok (.iconst 1, 1) := by decide +kernel
theorem dX4_isFull_10 : decode cX4_isFull 10 = .ok (.goto 4, 3) := by decide +kernel
theorem dX4_isFull_13 : decode cX4_isFull 13 = .ok (.iconst 0, 1) := by decide +kernel
theorem dX4_isFull_14 : decode cX4_isFull 14 = .ok (.ireturn, 1) := by decide +kernel
theorem dX4_append_0 : decode cX4_append 0 = .ok (.aload_n 0, 1) := by decide +kernel
theorem dX4_append_1 : decode cX4_append 1 = .ok (.getfield 15, 3) := by decide +kernel
theorem dX4_append_4 : decode cX4_append 4 = .ok (.ifCond .lt 35, 3) := by decide +kernel
theorem dX4_append_7 : decode cX4_append 7 = .ok (.aload_n 0, 1) := by decide +kernel
theorem dX4_append_8 : decode cX4_append 8 = .ok (.getfield 15, 3) := by decide +kernel
theorem dX4_append_11 : decode cX4_append 11 = .ok (.aload_n 0, 1) := by decide +kernel
theorem dX4_append_12 : decode cX4_append 12 = .ok (.getfield 11, 3) := by decide +kernel
theorem dX4_append_15 : decode cX4_append 15 = .ok (.arraylength, 1) := by decide +kernel
theorem dX4_append_16 : decode cX4_append 16 = .ok (.if_icmp .ge 23, 3) := by decide +kernel
theorem dX4_append_19 : decode cX4_append 19 = .ok (.aload_n 0, 1) := by decide +kernel
theorem dX4_append_20 : decode cX4_append 20 = .ok (.getfield 11, 3) := by decide +kernel
theorem dX4_append_23 : decode cX4_append 23 = .ok (.aload_n 0, 1) := by decide +kernel
theorem dX4_append_24 : decode cX4_append 24 = .ok (.getfield 15, 3) := by decide +kernel
theorem dX4_append_27 : decode cX4_append 27 = .ok (.iload_n 1, 1) := by decide +kernel
theorem dX4_append_28 : decode cX4_append 28 = .ok (.castore, 1) := by decide +kernel
theorem dX4_append_29 : decode cX4_append 29 = .ok (.aload_n 0, 1) := by decide +kernel
theorem dX4_append_30 : decode cX4_append 30 = .ok (.dup, 1) := by decide +kernel
theorem dX4_append_31 : decode cX4_append 31 = .ok (.getfield 15, 3) := by decide +kernel
theorem dX4_append_34 : decode cX4_append 34 = .ok (.iconst 1, 1) := by decide +kernel
theorem dX4_append_35 : decode cX4_append 35 = .ok (.iadd, 1) := by decide +kernel
theorem dX4_append_36 : decode cX4_append 36 = .ok (.putfield 15, 3) := by decide +kernel
theorem dX4_append_39 : decode cX4_append 39 = .ok (.return_, 1) := by decide +kernel
theorem dX4_empty_0 : decode cX4_empty 0 = .ok (.aload_n 0, 1) := by decide +kernel
theorem dX4_empty_1 : decode cX4_empty 1 = .ok (.iconst 0, 1) := by decide +kernel
theorem dX4_empty_2 : decode cX4_empty 2 = .ok (.putfield 15, 3) := by decide +kernel
theorem dX4_empty_5 : decode cX4_empty 5 = .ok (.return_, 1) := by decide +kernel
set_option maxRecDepth 20000 in
theorem ggX4_firstError_X4_characterAt : GoodIn wsX4_firstError wsX4_characterAt := goodIn_r _ [6, 7, 11, 12] (by decide +kernel) (by decide +kernel)
set_option maxRecDepth 20000 in
theorem gX4_firstError_X4_characterAt : GoodIn wsX4_firstError (wsV RX4 19 RX4 yX4_characterAt wsX4_characterAt) := goodIn_app (goodIn_of _ (by decide +kernel)) ggX4_firstError_X4_characterAt
set_option maxRecDepth 20000 in
theorem ggX4_firstError_X4_dueAfter : GoodIn wsX4_firstError wsX4_dueAfter := goodIn_r _ [10] (by decide +kernel) (by decide +kernel)
set_option maxRecDepth 20000 in
theorem gX4_firstError_X4_dueAfter : GoodIn wsX4_firstError (va_wsS RX4 23 yX4_dueAfter wsX4_dueAfter) := goodIn_app (goodIn_of _ (by decide +kernel)) ggX4_firstError_X4_dueAfter
theorem dX4_firstError_0 : decode cX4_firstError 0 = .ok (.iconst 0, 1) := by decide +kernel
theorem dX4_firstError_1 : decode cX4_firstError 1 = .ok (.istore_n 1, 1) := by decide +kernel
theorem dX4_firstError_2 : decode cX4_firstError 2 = .ok (.iconst 0, 1) := by decide +kernel
theorem dX4_firstError_3 : decode cX4_firstError 3 = .ok (.istore_n 2, 1) := by decide +kernel
theorem dX4_firstError_4 : decode cX4_firstError 4 = .ok (.iload_n 2, 1) := by decide +kernel
theorem dX4_firstError_5 : decode cX4_firstError 5 = .ok (.aload_n 0, 1) := by decide +kernel
theorem dX4_firstError_6 : decode cX4_firstError 6 = .ok (.getfield 15, 3) := by decide +kernel
theorem dX4_firstError_9 : decode cX4_firstError 9 = .ok (.if_icmp .ge 26, 3) := by decide +kernel
theorem dX4_firstError_12 : decode cX4_firstError 12 = .ok (.iload_n 1, 1) := by decide +kernel
theorem dX4_firstError_13 : decode cX4_firstError 13 = .ok (.aload_n 0, 1) := by decide +kernel
theorem dX4_firstError_14 : decode cX4_firstError 14 = .ok (.iload_n 2, 1) := by decide +kernel
theorem dX4_firstError_15 : decode cX4_firstError 15 = .ok (.invokevirtual 19, 3) := by decide +kernel
theorem dX4_firstError_18 : decode cX4_firstError 18 = .ok (.invokestatic 23, 3) := by decide +kernel
theorem dX4_firstError_21 : decode cX4_firstError 21 = .ok (.istore_n 1, 1) := by decide +kernel
theorem dX4_firstError_22 : decode cX4_firstError 22 = .ok (.iload_n 1, 1) := by decide +kernel
theorem dX4_firstError_23 : decode cX4_firstError 23 = .ok (.iconst 4, 1) := by decide +kernel
theorem dX4_firstError_24 : decode cX4_firstError 24 = .ok (.if_icmp .ne 5, 3) := by decide +kernel
theorem dX4_firstError_27 : decode cX4_firstError 27 = .ok (.iload_n 2, 1) := by decide +kernel
theorem dX4_firstError_28 : decode cX4_firstError 28 = .ok (.ireturn, 1) := by decide +kernel
theorem dX4_firstError_29 : decode cX4_firstError 29 = .ok (.iinc 2 1, 3) := by decide +kernel
theorem dX4_firstError_32 : decode cX4_firstError 32 = .ok (.goto (-28), 3) := by decide +kernel
theorem dX4_firstError_35 : decode cX4_firstError 35 = .ok (.iload_n 1, 1) := by decide +kernel
theorem dX4_firstError_36 : decode cX4_firstError 36 = .ok (.iconst 2, 1) := by decide +kernel
theorem dX4_firstError_37 : decode cX4_firstError 37 = .ok (.if_icmp .eq 8, 3) := by decide +kernel
theorem dX4_firstError_40 : decode cX4_firstError 40 = .ok (.iload_n 1, 1) := by decide +kernel
theorem dX4_firstError_41 : decode cX4_firstError 41 = .ok (.iconst 3, 1) := by decide +kernel
theorem dX4_firstError_42 : decode cX4_firstError 42 = .ok (.if_icmp .ne 7, 3) := by decide +kernel
theorem dX4_firstError_45 : decode cX4_firstError 45 = .ok (.iconst (-1), 1) := by decide +kernel
theorem dX4_firstError_46 : decode cX4_firstError 46 = .ok (.goto 7, 3) := by decide +kernel
theorem dX4_firstError_49 : decode cX4_firstError 49 = .ok (.aload_n 0, 1) := by decide +kernel
theorem dX4_firstError_50 : decode cX4_firstError 50 = .ok (.getfield 15, 3) := by decide +kernel
theorem dX4_firstError_53 : decode cX4_firstError 53 = .ok (.ireturn, 1) := by decide +kernel
theorem dX4_dueAfter_0 : decode cX4_dueAfter 0 = .ok (.iload_n 0, 1) := by decide +kernel
theorem dX4_dueAfter_1 : decode cX4_dueAfter 1 = .ok (.tableswitch 113 0 3 #[31, 49, 75, 101], 31) := by decide +kernel
theorem dX4_dueAfter_32 : decode cX4_dueAfter 32 = .ok (.iload_n 1, 1) := by decide +kernel
theorem dX4_dueAfter_33 : decode cX4_dueAfter 33 = .ok (.bipush 103, 2) := by decide +kernel
theorem dX4_dueAfter_35 : decode cX4_dueAfter 35 = .ok (.if_icmp .eq 9, 3) := by decide +kernel
theorem dX4_dueAfter_38 : decode cX4_dueAfter 38 = .ok (.iload_n 1, 1) := by decide +kernel
theorem dX4_dueAfter_39 : decode cX4_dueAfter 39 = .ok (.bipush 112, 2) := by decide +kernel
theorem dX4_dueAfter_41 : decode cX4_dueAfter 41 = .ok (.if_icmp .ne 7, 3) := by decide +kernel
theorem dX4_dueAfter_44 : decode cX4_dueAfter 44 = .ok (.iconst 1, 1) := by decide +kernel
theorem dX4_dueAfter_45 : decode cX4_dueAfter 45 = .ok (.goto 4, 3) := by decide +kernel
theorem dX4_dueAfter_48 : decode cX4_dueAfter 48 = .ok (.iconst 4, 1) := by decide +kernel
theorem dX4_dueAfter_49 : decode cX4_dueAfter 49 = .ok (.ireturn, 1) := by decide +kernel
theorem dX4_dueAfter_50 : decode cX4_dueAfter 50 = .ok (.iload_n 1, 1) := by decide +kernel
theorem dX4_dueAfter_51 : decode cX4_dueAfter 51 = .ok (.bipush 49, 2) := by decide +kernel
theorem dX4_dueAfter_53 : decode cX4_dueAfter 53 = .ok (.if_icmp .ne 5, 3) := by decide +kernel
theorem dX4_dueAfter_56 : decode cX4_dueAfter 56 = .ok (.iconst 2, 1) := by decide +kernel
theorem dX4_dueAfter_57 : decode cX4_dueAfter 57 = .ok (.ireturn, 1) := by decide +kernel
theorem dX4_dueAfter_58 : decode cX4_dueAfter 58 = .ok (.iload_n 1, 1) := by decide +kernel
theorem dX4_dueAfter_59 : decode cX4_dueAfter 59 = .ok (.bipush 48, 2) := by decide +kernel
theorem dX4_dueAfter_61 : decode cX4_dueAfter 61 = .ok (.if_icmp .lt 13, 3) := by decide +kernel
theorem dX4_dueAfter_64 : decode cX4_dueAfter 64 = .ok (.iload_n 1, 1) := by decide +kernel
theorem dX4_dueAfter_65 : decode cX4_dueAfter 65 = .ok (.bipush 57, 2) := by decide +kernel
theorem dX4_dueAfter_67 : decode cX4_dueAfter 67 = .ok (.if_icmp .gt 7, 3) := by decide +kernel
theorem dX4_dueAfter_70 : decode cX4_dueAfter 70 = .ok (.iconst 3, 1) := by decide +kernel
theorem dX4_dueAfter_71 : decode cX4_dueAfter 71 = .ok (.goto 4, 3) := by decide +kernel
theorem dX4_dueAfter_74 : decode cX4_dueAfter 74 = .ok (.iconst 4, 1) := by decide +kernel
theorem dX4_dueAfter_75 : decode cX4_dueAfter 75 = .ok (.ireturn, 1) := by decide +kernel
theorem dX4_dueAfter_76 : decode cX4_dueAfter 76 = .ok (.iload_n 1, 1) := by decide +kernel
theorem dX4_dueAfter_77 : decode cX4_dueAfter 77 = .ok (.bipush 48, 2) := by decide +kernel
theorem dX4_dueAfter_79 : decode cX4_dueAfter 79 = .ok (.if_icmp .lt 11, 3) := by decide +kernel
theorem dX4_dueAfter_82 : decode cX4_dueAfter 82 = .ok (.iload_n 1, 1) := by decide +kernel
theorem dX4_dueAfter_83 : decode cX4_dueAfter 83 = .ok (.bipush 53, 2) := by decide +kernel
theorem dX4_dueAfter_85 : decode cX4_dueAfter 85 = .ok (.if_icmp .gt 5, 3) := by decide +kernel
theorem dX4_dueAfter_88 : decode cX4_dueAfter 88 = .ok (.iconst 3, 1) := by decide +kernel
theorem dX4_dueAfter_89 : decode cX4_dueAfter 89 = .ok (.ireturn, 1) := by decide +kernel
theorem dX4_dueAfter_90 : decode cX4_dueAfter 90 = .ok (.iload_n 1, 1) := by decide +kernel
theorem dX4_dueAfter_91 : decode cX4_dueAfter 91 = .ok (.bipush 59, 2) := by decide +kernel
theorem dX4_dueAfter_93 : decode cX4_dueAfter 93 = .ok (.if_icmp .ne 7, 3) := by decide +kernel
theorem dX4_dueAfter_96 : decode cX4_dueAfter 96 = .ok (.iconst 0, 1) := by decide +kernel
theorem dX4_dueAfter_97 : decode cX4_dueAfter 97 = .ok (.goto 4, 3) := by decide +kernel
theorem dX4_dueAfter_100 : decode cX4_dueAfter 100 = .ok (.iconst 4, 1) := by decide +kernel
theorem dX4_dueAfter_101 : decode cX4_dueAfter 101 = .ok (.ireturn, 1) := by decide +kernel
theorem dX4_dueAfter_102 : decode cX4_dueAfter 102 = .ok (.iload_n 1, 1) := by decide +kernel
theorem dX4_dueAfter_103 : decode cX4_dueAfter 103 = .ok (.bipush 59, 2) := by decide +kernel
theorem dX4_dueAfter_105 : decode cX4_dueAfter 105 = .ok (.if_icmp .ne 7, 3) := by decide +kernel
theorem dX4_dueAfter_108 : decode cX4_dueAfter 108 = .ok (.iconst 0, 1) := by decide +kernel
theorem dX4_dueAfter_109 : decode cX4_dueAfter 109 = .ok (.goto 4, 3) := by decide +kernel
theorem dX4_dueAfter_112 : decode cX4_dueAfter 112 = .ok (.iconst 4, 1) := by decide +kernel
theorem dX4_dueAfter_113 : decode cX4_dueAfter 113 = .ok (.ireturn, 1) := by decide +kernel
theorem dX4_dueAfter_114 : decode cX4_dueAfter 114 = .ok (.iconst 4, 1) := by decide +kernel
theorem dX4_dueAfter_115 : decode cX4_dueAfter 115 = .ok (.ireturn, 1) := by decide +kernel
theorem dX4_characterAt_0 : decode cX4_characterAt 0 = .ok (.iload_n 1, 1) := by decide +kernel
theorem dX4_characterAt_1 : decode cX4_characterAt 1 = .ok (.ifCond .lt 21, 3) := by decide +kernel
theorem dX4_characterAt_4 : decode cX4_characterAt 4 = .ok (.iload_n 1, 1) := by decide +kernel
theorem dX4_characterAt_5 : decode cX4_characterAt 5 = .ok (.aload_n 0, 1) := by decide +kernel
theorem dX4_characterAt_6 : decode cX4_characterAt 6 = .ok (.getfield 11, 3) := by decide +kernel
theorem dX4_characterAt_9 : decode cX4_characterAt 9 = .ok (.arraylength, 1) := by decide +kernel
theorem dX4_characterAt_10 : decode cX4_characterAt 10 = .ok (.if_icmp .ge 12, 3) := by decide +kernel
theorem dX4_characterAt_13 : decode cX4_characterAt 13 = .ok (.aload_n 0, 1) := by decide +kernel
theorem dX4_characterAt_14 : decode cX4_characterAt 14 = .ok (.getfield 11, 3) := by decide +kernel
theorem dX4_characterAt_17 : decode cX4_characterAt 17 = .ok (.iload_n 1, 1) := by decide +kernel
theorem dX4_characterAt_18 : decode cX4_characterAt 18 = .ok (.caload, 1) := by decide +kernel
theorem dX4_characterAt_19 : decode cX4_characterAt 19 = .ok (.goto 5, 3) := by decide +kernel
theorem dX4_characterAt_22 : decode cX4_characterAt 22 = .ok (.bipush 59, 2) := by decide +kernel
theorem dX4_characterAt_24 : decode cX4_characterAt 24 = .ok (.ireturn, 1) := by decide +kernel
set_option maxRecDepth 20000 in
theorem ggX4_endsMove_X4_characterAt : GoodIn wsX4_endsMove wsX4_characterAt := goodIn_r _ [6, 7, 8, 9] (by decide +kernel) (by decide +kernel)
set_option maxRecDepth 20000 in
theorem gX4_endsMove_X4_characterAt : GoodIn wsX4_endsMove (wsV RX4 19 RX4 yX4_characterAt wsX4_characterAt) := goodIn_app (goodIn_of _ (by decide +kernel)) ggX4_endsMove_X4_characterAt
theorem dX4_endsMove_0 : decode cX4_endsMove 0 = .ok (.iload_n 1, 1) := by decide +kernel
theorem dX4_endsMove_1 : decode cX4_endsMove 1 = .ok (.aload_n 0, 1) := by decide +kernel
theorem dX4_endsMove_2 : decode cX4_endsMove 2 = .ok (.getfield 15, 3) := by decide +kernel
theorem dX4_endsMove_5 : decode cX4_endsMove 5 = .ok (.if_icmp .eq 13, 3) := by decide +kernel
theorem dX4_endsMove_8 : decode cX4_endsMove 8 = .ok (.aload_n 0, 1) := by decide +kernel
theorem dX4_endsMove_9 : decode cX4_endsMove 9 = .ok (.iload_n 1, 1) := by decide +kernel
theorem dX4_endsMove_10 : decode cX4_endsMove 10 = .ok (.invokevirtual 19, 3) := by decide +kernel
theorem dX4_endsMove_13 : decode cX4_endsMove 13 = .ok (.bipush 59, 2) := by decide +kernel
theorem dX4_endsMove_15 : decode cX4_endsMove 15 = .ok (.if_icmp .ne 7, 3) := by decide +kernel
theorem dX4_endsMove_18 : decode cX4_endsMove 18 = .ok (.iconst 1, 1) := by decide +kernel
theorem dX4_endsMove_19 : decode cX4_endsMove 19 = .ok (.goto 4, 3) := by decide +kernel
theorem dX4_endsMove_22 : decode cX4_endsMove 22 = .ok (.iconst 0, 1) := by decide +kernel
theorem dX4_endsMove_23 : decode cX4_endsMove 23 = .ok (.ireturn, 1) := by decide +kernel
set_option maxRecDepth 20000 in
theorem ggX4_moves_X4_endsMove : GoodIn wsX4_moves wsX4_endsMove := goodIn_r _ [6, 1, 7, 8, 9, 5, 10, 11, 12, 13] (by decide +kernel) (by decide +kernel)
set_option maxRecDepth 20000 in
theorem gX4_moves_X4_endsMove : GoodIn wsX4_moves (wsV RX4 27 RX4 yX4_endsMove wsX4_endsMove) := goodIn_app (goodIn_of _ (by decide +kernel)) ggX4_moves_X4_endsMove
theorem dX4_moves_0 : decode cX4_moves 0 = .ok (.iconst 0, 1) := by decide +kernel
theorem dX4_moves_1 : decode cX4_moves 1 = .ok (.istore_n 1, 1) := by decide +kernel
theorem dX4_moves_2 : decode cX4_moves 2 = .ok (.iconst 0, 1) := by decide +kernel
theorem dX4_moves_3 : decode cX4_moves 3 = .ok (.istore_n 2, 1) := by decide +kernel
theorem dX4_moves_4 : decode cX4_moves 4 = .ok (.iload_n 2, 1) := by decide +kernel
theorem dX4_moves_5 : decode cX4_moves 5 = .ok (.aload_n 0, 1) := by decide +kernel
theorem dX4_moves_6 : decode cX4_moves 6 = .ok (.getfield 15, 3) := by decide +kernel
theorem dX4_moves_9 : decode cX4_moves 9 = .ok (.if_icmp .gt 20, 3) := by decide +kernel
theorem dX4_moves_12 : decode cX4_moves 12 = .ok (.aload_n 0, 1) := by decide +kernel
theorem dX4_moves_13 : decode cX4_moves 13 = .ok (.iload_n 2, 1) := by decide +kernel
theorem dX4_moves_14 : decode cX4_moves 14 = .ok (.invokevirtual 27, 3) := by decide +kernel
theorem dX4_moves_17 : decode cX4_moves 17 = .ok (.ifCond .eq 6, 3) := by decide +kernel
theorem dX4_moves_20 : decode cX4_moves 20 = .ok (.iinc 1 1, 3) := by decide +kernel
theorem dX4_moves_23 : decode cX4_moves 23 = .ok (.iinc 2 1, 3) := by decide +kernel
theorem dX4_moves_26 : decode cX4_moves 26 = .ok (.goto (-22), 3) := by decide +kernel
theorem dX4_moves_29 : decode cX4_moves 29 = .ok (.iload_n 1, 1) := by decide +kernel
theorem dX4_moves_30 : decode cX4_moves 30 = .ok (.ireturn, 1) := by decide +kernel
set_option maxRecDepth 20000 in
theorem ggX4_isGift_X4_characterAt : GoodIn wsX4_isGift wsX4_characterAt := goodIn_r _ [5, 6, 7, 8] (by decide +kernel) (by decide +kernel)
set_option maxRecDepth 20000 in
theorem gX4_isGift_X4_characterAt : GoodIn wsX4_isGift (wsV RX4 19 RX4 yX4_characterAt wsX4_characterAt) := goodIn_app (goodIn_of _ (by decide +kernel)) ggX4_isGift_X4_characterAt
theorem dX4_isGift_0 : decode cX4_isGift 0 = .ok (.aload_n 0, 1) := by decide +kernel
theorem dX4_isGift_1 : decode cX4_isGift 1 = .ok (.iload_n 1, 1) := by decide +kernel
theorem dX4_isGift_2 : decode cX4_isGift 2 = .ok (.invokevirtual 19, 3) := by decide +kernel
theorem dX4_isGift_5 : decode cX4_isGift 5 = .ok (.bipush 103, 2) := by decide +kernel
theorem dX4_isGift_7 : decode cX4_isGift 7 = .ok (.if_icmp .ne 7, 3) := by decide +kernel
theorem dX4_isGift_10 : decode cX4_isGift 10 = .ok (.iconst 1, 1) := by decide +kernel
theorem dX4_isGift_11 : decode cX4_isGift 11 = .ok (.goto 4, 3) := by decide +kernel
theorem dX4_isGift_14 : decode cX4_isGift 14 = .ok (.iconst 0, 1) := by decide +kernel
theorem dX4_isGift_15 : decode cX4_isGift 15 = .ok (.ireturn, 1) := by decide +kernel
set_option maxRecDepth 20000 in
theorem ggX4_number_X4_characterAt : GoodIn wsX4_number wsX4_characterAt := goodIn_r _ [5, 6, 7, 8] (by decide +kernel) (by decide +kernel)
set_option maxRecDepth 20000 in
theorem gX4_number_X4_characterAt : GoodIn wsX4_number (wsV RX4 19 RX4 yX4_characterAt wsX4_characterAt) := goodIn_app (goodIn_of _ (by decide +kernel)) ggX4_number_X4_characterAt
theorem dX4_number_0 : decode cX4_number 0 = .ok (.iconst 0, 1) := by decide +kernel
theorem dX4_number_1 : decode cX4_number 1 = .ok (.istore_n 3, 1) := by decide +kernel
theorem dX4_number_2 : decode cX4_number 2 = .ok (.iload_n 1, 1) := by decide +kernel
theorem dX4_number_3 : decode cX4_number 3 = .ok (.istore 4, 2) := by decide +kernel
theorem dX4_number_5 : decode cX4_number 5 = .ok (.iload 4, 2) := by decide +kernel
theorem dX4_number_7 : decode cX4_number 7 = .ok (.iload_n 2, 1) := by decide +kernel
theorem dX4_number_8 : decode cX4_number 8 = .ok (.if_icmp .ge 24, 3) := by decide +kernel
theorem dX4_number_11 : decode cX4_number 11 = .ok (.iload_n 3, 1) := by decide +kernel
theorem dX4_number_12 : decode cX4_number 12 = .ok (.bipush 10, 2) := by decide +kernel
theorem dX4_number_14 : decode cX4_number 14 = .ok (.imul, 1) := by decide +kernel
theorem dX4_number_15 : decode cX4_number 15 = .ok (.aload_n 0, 1) := by decide +kernel
theorem dX4_number_16 : decode cX4_number 16 = .ok (.iload 4, 2) := by decide +kernel
theorem dX4_number_18 : decode cX4_number 18 = .ok (.invokevirtual 19, 3) := by decide +kernel
theorem dX4_number_21 : decode cX4_number 21 = .ok (.bipush 48, 2) := by decide +kernel
theorem dX4_number_23 : decode cX4_number 23 = .ok (.isub, 1) := by decide +kernel
theorem dX4_number_24 : decode cX4_number 24 = .ok (.iadd, 1) := by decide +kernel
theorem dX4_number_25 : decode cX4_number 25 = .ok (.istore_n 3, 1) := by decide +kernel
theorem dX4_number_26 : decode cX4_number 26 = .ok (.iinc 4 1, 3) := by decide +kernel
theorem dX4_number_29 : decode cX4_number 29 = .ok (.goto (-24), 3) := by decide +kernel
theorem dX4_number_32 : decode cX4_number 32 = .ok (.iload_n 3, 1) := by decide +kernel
theorem dX4_number_33 : decode cX4_number 33 = .ok (.ireturn, 1) := by decide +kernel
