theorem dX0_init_0 : decode cX0_init 0 = .ok (.aload_n 0, 1) := by decide +kernel
theorem dX0_init_1 : decode cX0_init 1 = .ok (.invokespecial 3, 3) := by decide +kernel
theorem dX0_init_4 : decode cX0_init 4 = .ok (.aload_n 0, 1) := by decide +kernel
theorem dX0_init_5 : decode cX0_init 5 = .ok (.iconst 0, 1) := by decide +kernel
theorem dX0_init_6 : decode cX0_init 6 = .ok (.putfield 9, 3) := by decide +kernel
theorem dX0_init_9 : decode cX0_init 9 = .ok (.aload_n 0, 1) := by decide +kernel
theorem dX0_init_10 : decode cX0_init 10 = .ok (.iconst 0, 1) := by decide +kernel
theorem dX0_init_11 : decode cX0_init 11 = .ok (.putfield 15, 3) := by decide +kernel
theorem dX0_init_14 : decode cX0_init 14 = .ok (.aload_n 0, 1) := by decide +kernel
theorem dX0_init_15 : decode cX0_init 15 = .ok (.iconst 0, 1) := by decide +kernel
theorem dX0_init_16 : decode cX0_init 16 = .ok (.putfield 18, 3) := by decide +kernel
theorem dX0_init_19 : decode cX0_init 19 = .ok (.aload_n 0, 1) := by decide +kernel
theorem dX0_init_20 : decode cX0_init 20 = .ok (.iconst 4, 1) := by decide +kernel
theorem dX0_init_21 : decode cX0_init 21 = .ok (.newarray .int, 2) := by decide +kernel
theorem dX0_init_23 : decode cX0_init 23 = .ok (.putfield 21, 3) := by decide +kernel
theorem dX0_init_26 : decode cX0_init 26 = .ok (.return_, 1) := by decide +kernel
theorem dX0_copyFrom_0 : decode cX0_copyFrom 0 = .ok (.aload_n 0, 1) := by decide +kernel
theorem dX0_copyFrom_1 : decode cX0_copyFrom 1 = .ok (.aload_n 1, 1) := by decide +kernel
theorem dX0_copyFrom_2 : decode cX0_copyFrom 2 = .ok (.getfield 9, 3) := by decide +kernel
theorem dX0_copyFrom_5 : decode cX0_copyFrom 5 = .ok (.putfield 9, 3) := by decide +kernel
theorem dX0_copyFrom_8 : decode cX0_copyFrom 8 = .ok (.aload_n 0, 1) := by decide +kernel
theorem dX0_copyFrom_9 : decode cX0_copyFrom 9 = .ok (.aload_n 1, 1) := by decide +kernel
theorem dX0_copyFrom_10 : decode cX0_copyFrom 10 = .ok (.getfield 15, 3) := by decide +kernel
theorem dX0_copyFrom_13 : decode cX0_copyFrom 13 = .ok (.putfield 15, 3) := by decide +kernel
theorem dX0_copyFrom_16 : decode cX0_copyFrom 16 = .ok (.aload_n 0, 1) := by decide +kernel
theorem dX0_copyFrom_17 : decode cX0_copyFrom 17 = .ok (.aload_n 1, 1) := by decide +kernel
theorem dX0_copyFrom_18 : decode cX0_copyFrom 18 = .ok (.getfield 18, 3) := by decide +kernel
theorem dX0_copyFrom_21 : decode cX0_copyFrom 21 = .ok (.putfield 18, 3) := by decide +kernel
theorem dX0_copyFrom_24 : decode cX0_copyFrom 24 = .ok (.iconst 0, 1) := by decide +kernel
theorem dX0_copyFrom_25 : decode cX0_copyFrom 25 = .ok (.istore_n 2, 1) := by decide +kernel
theorem dX0_copyFrom_26 : decode cX0_copyFrom 26 = .ok (.iload_n 2, 1) := by decide +kernel
theorem dX0_copyFrom_27 : decode cX0_copyFrom 27 = .ok (.aload_n 0, 1) := by decide +kernel
theorem dX0_copyFrom_28 : decode cX0_copyFrom 28 = .ok (.getfield 21, 3) := by decide +kernel
theorem dX0_copyFrom_31 : decode cX0_copyFrom 31 = .ok (.arraylength, 1) := by decide +kernel
theorem dX0_copyFrom_32 : decode cX0_copyFrom 32 = .ok (.if_icmp .ge 30, 3) := by decide +kernel
theorem dX0_copyFrom_35 : decode cX0_copyFrom 35 = .ok (.iload_n 2, 1) := by decide +kernel
theorem dX0_copyFrom_36 : decode cX0_copyFrom 36 = .ok (.aload_n 1, 1) := by decide +kernel
theorem dX0_copyFrom_37 : decode cX0_copyFrom 37 = .ok (.getfield 21, 3) := by decide +kernel
theorem dX0_copyFrom_40 : decode cX0_copyFrom 40 = .ok (.arraylength, 1) := by decide +kernel
theorem dX0_copyFrom_41 : decode cX0_copyFrom 41 = .ok (.if_icmp .ge 21, 3) := by decide +kernel
theorem dX0_copyFrom_44 : decode cX0_copyFrom 44 = .ok (.aload_n 0, 1) := by decide +kernel
theorem dX0_copyFrom_45 : decode cX0_copyFrom 45 = .ok (.getfield 21, 3) := by decide +kernel
theorem dX0_copyFrom_48 : decode cX0_copyFrom 48 = .ok (.iload_n 2, 1) := by decide +kernel
theorem dX0_copyFrom_49 : decode cX0_copyFrom 49 = .ok (.aload_n 1, 1) := by decide +kernel
theorem dX0_copyFrom_50 : decode cX0_copyFrom 50 = .ok (.getfield 21, 3) := by decide +kernel
theorem dX0_copyFrom_53 : decode cX0_copyFrom 53 = .ok (.iload_n 2, 1) := by decide +kernel
theorem dX0_copyFrom_54 : decode cX0_copyFrom 54 = .ok (.iaload, 1) := by decide +kernel
theorem dX0_copyFrom_55 : decode cX0_copyFrom 55 = .ok (.iastore, 1) := by decide +kernel
theorem dX0_copyFrom_56 : decode cX0_copyFrom 56 = .ok (.iinc 2 1, 3) := by decide +kernel
theorem dX0_copyFrom_59 : decode cX0_copyFrom 59 = .ok (.goto (-33), 3) := by decide +kernel
theorem dX0_copyFrom_62 : decode cX0_copyFrom 62 = .ok (.return_, 1) := by decide +kernel
theorem dX0_empty_0 : decode cX0_empty 0 = .ok (.aload_n 0, 1) := by decide +kernel
theorem dX0_empty_1 : decode cX0_empty 1 = .ok (.iload_n 1, 1) := by decide +kernel
theorem dX0_empty_2 : decode cX0_empty 2 = .ok (.putfield 9, 3) := by decide +kernel
theorem dX0_empty_5 : decode cX0_empty 5 = .ok (.aload_n 0, 1) := by decide +kernel
theorem dX0_empty_6 : decode cX0_empty 6 = .ok (.iconst 0, 1) := by decide +kernel
theorem dX0_empty_7 : decode cX0_empty 7 = .ok (.putfield 15, 3) := by decide +kernel
theorem dX0_empty_10 : decode cX0_empty 10 = .ok (.aload_n 0, 1) := by decide +kernel
theorem dX0_empty_11 : decode cX0_empty 11 = .ok (.iconst 0, 1) := by decide +kernel
theorem dX0_empty_12 : decode cX0_empty 12 = .ok (.putfield 18, 3) := by decide +kernel
theorem dX0_empty_15 : decode cX0_empty 15 = .ok (.iconst 0, 1) := by decide +kernel
theorem dX0_empty_16 : decode cX0_empty 16 = .ok (.istore_n 2, 1) := by decide +kernel
theorem dX0_empty_17 : decode cX0_empty 17 = .ok (.iload_n 2, 1) := by decide +kernel
theorem dX0_empty_18 : decode cX0_empty 18 = .ok (.aload_n 0, 1) := by decide +kernel
theorem dX0_empty_19 : decode cX0_empty 19 = .ok (.getfield 21, 3) := by decide +kernel
theorem dX0_empty_22 : decode cX0_empty 22 = .ok (.arraylength, 1) := by decide +kernel
theorem dX0_empty_23 : decode cX0_empty 23 = .ok (.if_icmp .ge 16, 3) := by decide +kernel
theorem dX0_empty_26 : decode cX0_empty 26 = .ok (.aload_n 0, 1) := by decide +kernel
theorem dX0_empty_27 : decode cX0_empty 27 = .ok (.getfield 21, 3) := by decide +kernel
theorem dX0_empty_30 : decode cX0_empty 30 = .ok (.iload_n 2, 1) := by decide +kernel
theorem dX0_empty_31 : decode cX0_empty 31 = .ok (.iconst 0, 1) := by decide +kernel
theorem dX0_empty_32 : decode cX0_empty 32 = .ok (.iastore, 1) := by decide +kernel
theorem dX0_empty_33 : decode cX0_empty 33 = .ok (.iinc 2 1, 3) := by decide +kernel
theorem dX0_empty_36 : decode cX0_empty 36 = .ok (.goto (-19), 3) := by decide +kernel
theorem dX0_empty_39 : decode cX0_empty 39 = .ok (.return_, 1) := by decide +kernel
theorem dX0_lineRule_0 : decode cX0_lineRule 0 = .ok (.aload_n 0, 1) := by decide +kernel
theorem dX0_lineRule_1 : decode cX0_lineRule 1 = .ok (.getfield 9, 3) := by decide +kernel
theorem dX0_lineRule_4 : decode cX0_lineRule 4 = .ok (.ireturn, 1) := by decide +kernel
set_option maxRecDepth 20000 in
theorem ggX0_count_J6_bitCount_0f7a4 : GoodIn wsX0_count wsJ6_bitCount_0f7a4 := goodIn_r _ [5, 6, 7, 8] (by decide +kernel) (by decide +kernel)
set_option maxRecDepth 20000 in
theorem gX0_count_J6_bitCount_0f7a4 : GoodIn wsX0_count (va_wsS RX0 25 yJ6_bitCount_0f7a4 wsJ6_bitCount_0f7a4) := goodIn_app (goodIn_of _ (by decide +kernel)) ggX0_count_J6_bitCount_0f7a4
theorem dX0_count_0 : decode cX0_count 0 = .ok (.aload_n 0, 1) := by decide +kernel
theorem dX0_count_1 : decode cX0_count 1 = .ok (.getfield 15, 3) := by decide +kernel
theorem dX0_count_4 : decode cX0_count 4 = .ok (.invokestatic 25, 3) := by decide +kernel
theorem dX0_count_7 : decode cX0_count 7 = .ok (.ireturn, 1) := by decide +kernel
set_option maxRecDepth 20000 in
theorem ggX0_emptyCount_X0_count : GoodIn wsX0_emptyCount wsX0_count := goodIn_r _ [5, 6, 7, 8, 9, 10, 11, 12, 13, 14, 15, 16, 17] (by decide +kernel) (by decide +kernel)
set_option maxRecDepth 20000 in
theorem gX0_emptyCount_X0_count : GoodIn wsX0_emptyCount (wsV RX0 31 RX0 yX0_count wsX0_count) := goodIn_app (goodIn_of _ (by decide +kernel)) ggX0_emptyCount_X0_count
theorem dX0_emptyCount_0 : decode cX0_emptyCount 0 = .ok (.bipush 16, 2) := by decide +kernel
theorem dX0_emptyCount_2 : decode cX0_emptyCount 2 = .ok (.aload_n 0, 1) := by decide +kernel
theorem dX0_emptyCount_3 : decode cX0_emptyCount 3 = .ok (.invokevirtual 31, 3) := by decide +kernel
theorem dX0_emptyCount_6 : decode cX0_emptyCount 6 = .ok (.isub, 1) := by decide +kernel
theorem dX0_emptyCount_7 : decode cX0_emptyCount 7 = .ok (.ireturn, 1) := by decide +kernel
theorem dX0_holds_0 : decode cX0_holds 0 = .ok (.aload_n 0, 1) := by decide +kernel
theorem dX0_holds_1 : decode cX0_holds 1 = .ok (.getfield 18, 3) := by decide +kernel
theorem dX0_holds_4 : decode cX0_holds 4 = .ok (.iconst 1, 1) := by decide +kernel
theorem dX0_holds_5 : decode cX0_holds 5 = .ok (.iload_n 1, 1) := by decide +kernel
theorem dX0_holds_6 : decode cX0_holds 6 = .ok (.ishl, 1) := by decide +kernel
theorem dX0_holds_7 : decode cX0_holds 7 = .ok (.iand, 1) := by decide +kernel
theorem dX0_holds_8 : decode cX0_holds 8 = .ok (.ifCond .eq 7, 3) := by decide +kernel
theorem dX0_holds_11 : decode cX0_holds 11 = .ok (.iconst 1, 1) := by decide +kernel
theorem dX0_holds_12 : decode cX0_holds 12 = .ok (.goto 4, 3) := by decide +kernel
theorem dX0_holds_15 : decode cX0_holds 15 = .ok (.iconst 0, 1) := by decide +kernel
theorem dX0_holds_16 : decode cX0_holds 16 = .ok (.ireturn, 1) := by decide +kernel
theorem dX0_isEmpty_0 : decode cX0_isEmpty 0 = .ok (.aload_n 0, 1) := by decide +kernel
theorem dX0_isEmpty_1 : decode cX0_isEmpty 1 = .ok (.getfield 15, 3) := by decide +kernel
theorem dX0_isEmpty_4 : decode cX0_isEmpty 4 = .ok (.iconst 1, 1) := by decide +kernel
theorem dX0_isEmpty_5 : decode cX0_isEmpty 5 = .ok (.iload_n 1, 1) := by decide +kernel
theorem dX0_isEmpty_6 : decode cX0_isEmpty 6 = .ok (.ishl, 1) := by decide +kernel
theorem dX0_isEmpty_7 : decode cX0_isEmpty 7 = .ok (.iand, 1) := by decide +kernel
theorem dX0_isEmpty_8 : decode cX0_isEmpty 8 = .ok (.ifCond .ne 7, 3) := by decide +kernel
theorem dX0_isEmpty_11 : decode cX0_isEmpty 11 = .ok (.iconst 1, 1) := by decide +kernel
theorem dX0_isEmpty_12 : decode cX0_isEmpty 12 = .ok (.goto 4, 3) := by decide +kernel
theorem dX0_isEmpty_15 : decode cX0_isEmpty 15 = .ok (.iconst 0, 1) := by decide +kernel
theorem dX0_isEmpty_16 : decode cX0_isEmpty 16 = .ok (.ireturn, 1) := by decide +kernel
set_option maxRecDepth 20000 in
theorem ggX0_pieceAt_X0_isEmpty : GoodIn wsX0_pieceAt wsX0_isEmpty := goodIn_r _ [6, 7, 8, 9, 10, 11] (by decide +kernel) (by decide +kernel)
set_option maxRecDepth 20000 in
theorem gX0_pieceAt_X0_isEmpty : GoodIn wsX0_pieceAt (wsV RX0 35 RX0 yX0_isEmpty wsX0_isEmpty) := goodIn_app (goodIn_of _ (by decide +kernel)) ggX0_pieceAt_X0_isEmpty
theorem dX0_pieceAt_0 : decode cX0_pieceAt 0 = .ok (.aload_n 0, 1) := by decide +kernel
theorem dX0_pieceAt_1 : decode cX0_pieceAt 1 = .ok (.iload_n 1, 1) := by decide +kernel
theorem dX0_pieceAt_2 : decode cX0_pieceAt 2 = .ok (.invokevirtual 35, 3) := by decide +kernel
theorem dX0_pieceAt_5 : decode cX0_pieceAt 5 = .ok (.ifCond .eq 5, 3) := by decide +kernel
theorem dX0_pieceAt_8 : decode cX0_pieceAt 8 = .ok (.iconst (-1), 1) := by decide +kernel
theorem dX0_pieceAt_9 : decode cX0_pieceAt 9 = .ok (.ireturn, 1) := by decide +kernel
theorem dX0_pieceAt_10 : decode cX0_pieceAt 10 = .ok (.iconst 0, 1) := by decide +kernel
theorem dX0_pieceAt_11 : decode cX0_pieceAt 11 = .ok (.istore_n 2, 1) := by decide +kernel
theorem dX0_pieceAt_12 : decode cX0_pieceAt 12 = .ok (.iconst 0, 1) := by decide +kernel
theorem dX0_pieceAt_13 : decode cX0_pieceAt 13 = .ok (.istore_n 3, 1) := by decide +kernel
theorem dX0_pieceAt_14 : decode cX0_pieceAt 14 = .ok (.iload_n 3, 1) := by decide +kernel
theorem dX0_pieceAt_15 : decode cX0_pieceAt 15 = .ok (.aload_n 0, 1) := by decide +kernel
theorem dX0_pieceAt_16 : decode cX0_pieceAt 16 = .ok (.getfield 21, 3) := by decide +kernel
theorem dX0_pieceAt_19 : decode cX0_pieceAt 19 = .ok (.arraylength, 1) := by decide +kernel
theorem dX0_pieceAt_20 : decode cX0_pieceAt 20 = .ok (.if_icmp .ge 24, 3) := by decide +kernel
theorem dX0_pieceAt_23 : decode cX0_pieceAt 23 = .ok (.iload_n 2, 1) := by decide +kernel
theorem dX0_pieceAt_24 : decode cX0_pieceAt 24 = .ok (.aload_n 0, 1) := by decide +kernel
theorem dX0_pieceAt_25 : decode cX0_pieceAt 25 = .ok (.getfield 21, 3) := by decide +kernel
theorem dX0_pieceAt_28 : decode cX0_pieceAt 28 = .ok (.iload_n 3, 1) := by decide +kernel
theorem dX0_pieceAt_29 : decode cX0_pieceAt 29 = .ok (.iaload, 1) := by decide +kernel
theorem dX0_pieceAt_30 : decode cX0_pieceAt 30 = .ok (.iload_n 1, 1) := by decide +kernel
theorem dX0_pieceAt_31 : decode cX0_pieceAt 31 = .ok (.ishr, 1) := by decide +kernel
theorem dX0_pieceAt_32 : decode cX0_pieceAt 32 = .ok (.iconst 1, 1) := by decide +kernel
theorem dX0_pieceAt_33 : decode cX0_pieceAt 33 = .ok (.iand, 1) := by decide +kernel
theorem dX0_pieceAt_34 : decode cX0_pieceAt 34 = .ok (.iload_n 3, 1) := by decide +kernel
theorem dX0_pieceAt_35 : decode cX0_pieceAt 35 = .ok (.ishl, 1) := by decide +kernel
theorem dX0_pieceAt_36 : decode cX0_pieceAt 36 = .ok (.ior, 1) := by decide +kernel
theorem dX0_pieceAt_37 : decode cX0_pieceAt 37 = .ok (.istore_n 2, 1) := by decide +kernel
theorem dX0_pieceAt_38 : decode cX0_pieceAt 38 = .ok (.iinc 3 1, 3) := by decide +kernel
theorem dX0_pieceAt_41 : decode cX0_pieceAt 41 = .ok (.goto (-27), 3) := by decide +kernel
theorem dX0_pieceAt_44 : decode cX0_pieceAt 44 = .ok (.iload_n 2, 1) := by decide +kernel
theorem dX0_pieceAt_45 : decode cX0_pieceAt 45 = .ok (.ireturn, 1) := by decide +kernel
set_option maxRecDepth 20000 in
theorem ggX0_cellWith_X0_pieceAt : GoodIn wsX0_cellWith wsX0_pieceAt := goodIn_r _ [5, 6, 7, 8, 9, 4, 10, 11, 12, 13, 14, 15] (by decide +kernel) (by decide +kernel)
set_option maxRecDepth 20000 in
theorem gX0_cellWith_X0_pieceAt : GoodIn wsX0_cellWith (wsV RX0 39 RX0 yX0_pieceAt wsX0_pieceAt) := goodIn_app (goodIn_of _ (by decide +kernel)) ggX0_cellWith_X0_pieceAt
theorem dX0_cellWith_0 : decode cX0_cellWith 0 = .ok (.iconst 0, 1) := by decide +kernel
theorem dX0_cellWith_1 : decode cX0_cellWith 1 = .ok (.istore_n 2, 1) := by decide +kernel
theorem dX0_cellWith_2 : decode cX0_cellWith 2 = .ok (.iload_n 2, 1) := by decide +kernel
theorem dX0_cellWith_3 : decode cX0_cellWith 3 = .ok (.bipush 16, 2) := by decide +kernel
theorem dX0_cellWith_5 : decode cX0_cellWith 5 = .ok (.if_icmp .ge 20, 3) := by decide +kernel
theorem dX0_cellWith_8 : decode cX0_cellWith 8 = .ok (.aload_n 0, 1) := by decide +kernel
theorem dX0_cellWith_9 : decode cX0_cellWith 9 = .ok (.iload_n 2, 1) := by decide +kernel
theorem dX0_cellWith_10 : decode cX0_cellWith 10 = .ok (.invokevirtual 39, 3) := by decide +kernel
theorem dX0_cellWith_13 : decode cX0_cellWith 13 = .ok (.iload_n 1, 1) := by decide +kernel
theorem dX0_cellWith_14 : decode cX0_cellWith 14 = .ok (.if_icmp .ne 5, 3) := by decide +kernel
theorem dX0_cellWith_17 : decode cX0_cellWith 17 = .ok (.iload_n 2, 1) := by decide +kernel
theorem dX0_cellWith_18 : decode cX0_cellWith 18 = .ok (.ireturn, 1) := by decide +kernel
theorem dX0_cellWith_19 : decode cX0_cellWith 19 = .ok (.iinc 2 1, 3) := by decide +kernel
theorem dX0_cellWith_22 : decode cX0_cellWith 22 = .ok (.goto (-20), 3) := by decide +kernel
theorem dX0_cellWith_25 : decode cX0_cellWith 25 = .ok (.iconst (-1), 1) := by decide +kernel
theorem dX0_cellWith_26 : decode cX0_cellWith 26 = .ok (.ireturn, 1) := by decide +kernel
theorem dX0_put_0 : decode cX0_put 0 = .ok (.aload_n 0, 1) := by decide +kernel
theorem dX0_put_1 : decode cX0_put 1 = .ok (.dup, 1) := by decide +kernel
theorem dX0_put_2 : decode cX0_put 2 = .ok (.getfield 15, 3) := by decide +kernel
theorem dX0_put_5 : decode cX0_put 5 = .ok (.iconst 1, 1) := by decide +kernel
theorem dX0_put_6 : decode cX0_put 6 = .ok (.iload_n 2, 1) := by decide +kernel
theorem dX0_put_7 : decode cX0_put 7 = .ok (.ishl, 1) := by decide +kernel
theorem dX0_put_8 : decode cX0_put 8 = .ok (.ior, 1) := by decide +kernel
theorem dX0_put_9 : decode cX0_put 9 = .ok (.putfield 15, 3) := by decide +kernel
theorem dX0_put_12 : decode cX0_put 12 = .ok (.aload_n 0, 1) := by decide +kernel
theorem dX0_put_13 : decode cX0_put 13 = .ok (.dup, 1) := by decide +kernel
theorem dX0_put_14 : decode cX0_put 14 = .ok (.getfield 18, 3) := by decide +kernel
theorem dX0_put_17 : decode cX0_put 17 = .ok (.iconst 1, 1) := by decide +kernel
theorem dX0_put_18 : decode cX0_put 18 = .ok (.iload_n 1, 1) := by decide +kernel
theorem dX0_put_19 : decode cX0_put 19 = .ok (.ishl, 1) := by decide +kernel
theorem dX0_put_20 : decode cX0_put 20 = .ok (.ior, 1) := by decide +kernel
theorem dX0_put_21 : decode cX0_put 21 = .ok (.putfield 18, 3) := by decide +kernel
theorem dX0_put_24 : decode cX0_put 24 = .ok (.iconst 0, 1) := by decide +kernel
theorem dX0_put_25 : decode cX0_put 25 = .ok (.istore_n 3, 1) := by decide +kernel
theorem dX0_put_26 : decode cX0_put 26 = .ok (.iload_n 3, 1) := by decide +kernel
theorem dX0_put_27 : decode cX0_put 27 = .ok (.aload_n 0, 1) := by decide +kernel
theorem dX0_put_28 : decode cX0_put 28 = .ok (.getfield 21, 3) := by decide +kernel
theorem dX0_put_31 : decode cX0_put 31 = .ok (.arraylength, 1) := by decide +kernel
theorem dX0_put_32 : decode cX0_put 32 = .ok (.if_icmp .ge 25, 3) := by decide +kernel
theorem dX0_put_35 : decode cX0_put 35 = .ok (.aload_n 0, 1) := by decide +kernel
theorem dX0_put_36 : decode cX0_put 36 = .ok (.getfield 21, 3) := by decide +kernel
theorem dX0_put_39 : decode cX0_put 39 = .ok (.iload_n 3, 1) := by decide +kernel
theorem dX0_put_40 : decode cX0_put 40 = .ok (.dup2, 1) := by decide +kernel
theorem dX0_put_41 : decode cX0_put 41 = .ok (.iaload, 1) := by decide +kernel
theorem dX0_put_42 : decode cX0_put 42 = .ok (.iload_n 1, 1) := by decide +kernel
theorem dX0_put_43 : decode cX0_put 43 = .ok (.iload_n 3, 1) := by decide +kernel
theorem dX0_put_44 : decode cX0_put 44 = .ok (.ishr, 1) := by decide +kernel
theorem dX0_put_45 : decode cX0_put 45 = .ok (.iconst 1, 1) := by decide +kernel
theorem dX0_put_46 : decode cX0_put 46 = .ok (.iand, 1) := by decide +kernel
theorem dX0_put_47 : decode cX0_put 47 = .ok (.iload_n 2, 1) := by decide +kernel
theorem dX0_put_48 : decode cX0_put 48 = .ok (.ishl, 1) := by decide +kernel
theorem dX0_put_49 : decode cX0_put 49 = .ok (.ior, 1) := by decide +kernel
theorem dX0_put_50 : decode cX0_put 50 = .ok (.iastore, 1) := by decide +kernel
theorem dX0_put_51 : decode cX0_put 51 = .ok (.iinc 3 1, 3) := by decide +kernel
theorem dX0_put_54 : decode cX0_put 54 = .ok (.goto (-28), 3) := by decide +kernel
theorem dX0_put_57 : decode cX0_put 57 = .ok (.return_, 1) := by decide +kernel
theorem dX0_lift_0 : decode cX0_lift 0 = .ok (.aload_n 0, 1) := by decide +kernel
theorem dX0_lift_1 : decode cX0_lift 1 = .ok (.dup, 1) := by decide +kernel
theorem dX0_lift_2 : decode cX0_lift 2 = .ok (.getfield 15, 3) := by decide +kernel
theorem dX0_lift_5 : decode cX0_lift 5 = .ok (.iconst 1, 1) := by decide +kernel
theorem dX0_lift_6 : decode cX0_lift 6 = .ok (.iload_n 2, 1) := by decide +kernel
theorem dX0_lift_7 : decode cX0_lift 7 = .ok (.ishl, 1) := by decide +kernel
theorem dX0_lift_8 : decode cX0_lift 8 = .ok (.iconst (-1), 1) := by decide +kernel
theorem dX0_lift_9 : decode cX0_lift 9 = .ok (.ixor, 1) := by decide +kernel
theorem dX0_lift_10 : decode cX0_lift 10 = .ok (.iand, 1) := by decide +kernel
theorem dX0_lift_11 : decode cX0_lift 11 = .ok (.putfield 15, 3) := by decide +kernel
theorem dX0_lift_14 : decode cX0_lift 14 = .ok (.aload_n 0, 1) := by decide +kernel
theorem dX0_lift_15 : decode cX0_lift 15 = .ok (.dup, 1) := by decide +kernel
theorem dX0_lift_16 : decode cX0_lift 16 = .ok (.getfield 18, 3) := by decide +kernel
theorem dX0_lift_19 : decode cX0_lift 19 = .ok (.iconst 1, 1) := by decide +kernel
theorem dX0_lift_20 : decode cX0_lift 20 = .ok (.iload_n 1, 1) := by decide +kernel
theorem dX0_lift_21 : decode cX0_lift 21 = .ok (.ishl, 1) := by decide +kernel
theorem dX0_lift_22 : decode cX0_lift 22 = .ok (.iconst (-1), 1) := by decide +kernel
theorem dX0_lift_23 : decode cX0_lift 23 = .ok (.ixor, 1) := by decide +kernel
theorem dX0_lift_24 : decode cX0_lift 24 = .ok (.iand, 1) := by decide +kernel
theorem dX0_lift_25 : decode cX0_lift 25 = .ok (.putfield 18, 3) := by decide +kernel
theorem dX0_lift_28 : decode cX0_lift 28 = .ok (.iconst 0, 1) := by decide +kernel
theorem dX0_lift_29 : decode cX0_lift 29 = .ok (.istore_n 3, 1) := by decide +kernel
theorem dX0_lift_30 : decode cX0_lift 30 = .ok (.iload_n 3, 1) := by decide +kernel
theorem dX0_lift_31 : decode cX0_lift 31 = .ok (.aload_n 0, 1) := by decide +kernel
theorem dX0_lift_32 : decode cX0_lift 32 = .ok (.getfield 21, 3) := by decide +kernel
theorem dX0_lift_35 : decode cX0_lift 35 = .ok (.arraylength, 1) := by decide +kernel
theorem dX0_lift_36 : decode cX0_lift 36 = .ok (.if_icmp .ge 23, 3) := by decide +kernel
theorem dX0_lift_39 : decode cX0_lift 39 = .ok (.aload_n 0, 1) := by decide +kernel
theorem dX0_lift_40 : decode cX0_lift 40 = .ok (.getfield 21, 3) := by decide +kernel
theorem dX0_lift_43 : decode cX0_lift 43 = .ok (.iload_n 3, 1) := by decide +kernel
theorem dX0_lift_44 : decode cX0_lift 44 = .ok (.dup2, 1) := by decide +kernel
theorem dX0_lift_45 : decode cX0_lift 45 = .ok (.iaload, 1) := by decide +kernel
theorem dX0_lift_46 : decode cX0_lift 46 = .ok (.iconst 1, 1) := by decide +kernel
theorem dX0_lift_47 : decode cX0_lift 47 = .ok (.iload_n 2, 1) := by decide +kernel
theorem dX0_lift_48 : decode cX0_lift 48 = .ok (.ishl, 1) := by decide +kernel
theorem dX0_lift_49 : decode cX0_lift 49 = .ok (.iconst (-1), 1) := by decide +kernel
theorem dX0_lift_50 : decode cX0_lift 50 = .ok (.ixor, 1) := by decide +kernel
theorem dX0_lift_51 : decode cX0_lift 51 = .ok (.iand, 1) := by decide +kernel
theorem dX0_lift_52 : decode cX0_lift 52 = .ok (.iastore, 1) := by decide +kernel
theorem dX0_lift_53 : decode cX0_lift 53 = .ok (.iinc 3 1, 3) := by decide +kernel
theorem dX0_lift_56 : decode cX0_lift 56 = .ok (.goto (-26), 3) := by decide +kernel
theorem dX0_lift_59 : decode cX0_lift 59 = .ok (.return_, 1) := by decide +kernel
theorem dX0_lineCount_0 : decode cX0_lineCount 0 = .ok (.aload_n 0, 1) := by decide +kernel
theorem dX0_lineCount_1 : decode cX0_lineCount 1 = .ok (.getfield 9, 3) := by decide +kernel
theorem dX0_lineCount_4 : decode cX0_lineCount 4 = .ok (.iconst 1, 1) := by decide +kernel
theorem dX0_lineCount_5 : decode cX0_lineCount 5 = .ok (.if_icmp .ne 8, 3) := by decide +kernel
theorem dX0_lineCount_8 : decode cX0_lineCount 8 = .ok (.bipush 19, 2) := by decide +kernel
theorem dX0_lineCount_10 : decode cX0_lineCount 10 = .ok (.goto 5, 3) := by decide +kernel
theorem dX0_lineCount_13 : decode cX0_lineCount 13 = .ok (.bipush 10, 2) := by decide +kernel
theorem dX0_lineCount_15 : decode cX0_lineCount 15 = .ok (.ireturn, 1) := by decide +kernel
theorem dX0_cellsOn_0 : decode cX0_cellsOn 0 = .ok (.iload_n 0, 1) := by decide +kernel
theorem dX0_cellsOn_1 : decode cX0_cellsOn 1 = .ok (.ifCond .lt 19, 3) := by decide +kernel
theorem dX0_cellsOn_4 : decode cX0_cellsOn 4 = .ok (.iload_n 0, 1) := by decide +kernel
theorem dX0_cellsOn_5 : decode cX0_cellsOn 5 = .ok (.getstatic 42, 3) := by decide +kernel
theorem dX0_cellsOn_8 : decode cX0_cellsOn 8 = .ok (.arraylength, 1) := by decide +kernel
theorem dX0_cellsOn_9 : decode cX0_cellsOn 9 = .ok (.if_icmp .ge 11, 3) := by decide +kernel
theorem dX0_cellsOn_12 : decode cX0_cellsOn 12 = .ok (.getstatic 42, 3) := by decide +kernel
theorem dX0_cellsOn_15 : decode cX0_cellsOn 15 = .ok (.iload_n 0, 1) := by decide +kernel
theorem dX0_cellsOn_16 : decode cX0_cellsOn 16 = .ok (.iaload, 1) := by decide +kernel
theorem dX0_cellsOn_17 : decode cX0_cellsOn 17 = .ok (.goto 4, 3) := by decide +kernel
theorem dX0_cellsOn_20 : decode cX0_cellsOn 20 = .ok (.iconst 0, 1) := by decide +kernel
theorem dX0_cellsOn_21 : decode cX0_cellsOn 21 = .ok (.ireturn, 1) := by decide +kernel
set_option maxRecDepth 20000 in
theorem ggX0_countOn_X0_cellsOn : GoodIn wsX0_countOn wsX0_cellsOn := goodIn_r _ [5, 6] (by decide +kernel) (by decide +kernel)
set_option maxRecDepth 20000 in
theorem gX0_countOn_X0_cellsOn : GoodIn wsX0_countOn (va_wsS RX0 45 yX0_cellsOn wsX0_cellsOn) := goodIn_app (goodIn_of _ (by decide +kernel)) ggX0_countOn_X0_cellsOn
set_option maxRecDepth 20000 in
theorem ggX0_countOn_J6_bitCount_0f7a4 : GoodIn wsX0_countOn wsJ6_bitCount_0f7a4 := goodIn_r _ [10, 11, 12, 13] (by decide +kernel) (by decide +kernel)
set_option maxRecDepth 20000 in
theorem gX0_countOn_J6_bitCount_0f7a4 : GoodIn wsX0_countOn (va_wsS RX0 25 yJ6_bitCount_0f7a4 wsJ6_bitCount_0f7a4) := goodIn_app (goodIn_of _ (by decide +kernel)) ggX0_countOn_J6_bitCount_0f7a4
theorem dX0_countOn_0 : decode cX0_countOn 0 = .ok (.aload_n 0, 1) := by decide +kernel
theorem dX0_countOn_1 : decode cX0_countOn 1 = .ok (.getfield 15, 3) := by decide +kernel
theorem dX0_countOn_4 : decode cX0_countOn 4 = .ok (.iload_n 1, 1) := by decide +kernel
theorem dX0_countOn_5 : decode cX0_countOn 5 = .ok (.invokestatic 45, 3) := by decide +kernel
theorem dX0_countOn_8 : decode cX0_countOn 8 = .ok (.iand, 1) := by decide +kernel
theorem dX0_countOn_9 : decode cX0_countOn 9 = .ok (.invokestatic 25, 3) := by decide +kernel
theorem dX0_countOn_12 : decode cX0_countOn 12 = .ok (.ireturn, 1) := by decide +kernel
set_option maxRecDepth 20000 in
theorem ggX0_sharedTraits_X0_cellsOn : GoodIn wsX0_sharedTraits wsX0_cellsOn := goodIn_r _ [6, 7] (by decide +kernel) (by decide +kernel)
set_option maxRecDepth 20000 in
theorem gX0_sharedTraits_X0_cellsOn : GoodIn wsX0_sharedTraits (va_wsS RX0 45 yX0_cellsOn wsX0_cellsOn) := goodIn_app (goodIn_of _ (by decide +kernel)) ggX0_sharedTraits_X0_cellsOn
theorem dX0_sharedTraits_0 : decode cX0_sharedTraits 0 = .ok (.aload_n 0, 1) := by decide +kernel
theorem dX0_sharedTraits_1 : decode cX0_sharedTraits 1 = .ok (.getfield 15, 3) := by decide +kernel
theorem dX0_sharedTraits_4 : decode cX0_sharedTraits 4 = .ok (.iload_n 1, 1) := by decide +kernel
theorem dX0_sharedTraits_5 : decode cX0_sharedTraits 5 = .ok (.invokestatic 45, 3) := by decide +kernel
theorem dX0_sharedTraits_8 : decode cX0_sharedTraits 8 = .ok (.iand, 1) := by decide +kernel
theorem dX0_sharedTraits_9 : decode cX0_sharedTraits 9 = .ok (.istore_n 2, 1) := by decide +kernel
theorem dX0_sharedTraits_10 : decode cX0_sharedTraits 10 = .ok (.iconst 0, 1) := by decide +kernel
theorem dX0_sharedTraits_11 : decode cX0_sharedTraits 11 = .ok (.istore_n 3, 1) := by decide +kernel
theorem dX0_sharedTraits_12 : decode cX0_sharedTraits 12 = .ok (.iconst 0, 1) := by decide +kernel
theorem dX0_sharedTraits_13 : decode cX0_sharedTraits 13 = .ok (.istore 4, 2) := by decide +kernel
theorem dX0_sharedTraits_15 : decode cX0_sharedTraits 15 = .ok (.iload 4, 2) := by decide +kernel
theorem dX0_sharedTraits_17 : decode cX0_sharedTraits 17 = .ok (.aload_n 0, 1) := by decide +kernel
theorem dX0_sharedTraits_18 : decode cX0_sharedTraits 18 = .ok (.getfield 21, 3) := by decide +kernel
theorem dX0_sharedTraits_21 : decode cX0_sharedTraits 21 = .ok (.arraylength, 1) := by decide +kernel
theorem dX0_sharedTraits_22 : decode cX0_sharedTraits 22 = .ok (.if_icmp .ge 47, 3) := by decide +kernel
theorem dX0_sharedTraits_25 : decode cX0_sharedTraits 25 = .ok (.aload_n 0, 1) := by decide +kernel
theorem dX0_sharedTraits_26 : decode cX0_sharedTraits 26 = .ok (.getfield 21, 3) := by decide +kernel
theorem dX0_sharedTraits_29 : decode cX0_sharedTraits 29 = .ok (.iload 4, 2) := by decide +kernel
theorem dX0_sharedTraits_31 : decode cX0_sharedTraits 31 = .ok (.iaload, 1) := by decide +kernel
theorem dX0_sharedTraits_32 : decode cX0_sharedTraits 32 = .ok (.iload_n 2, 1) := by decide +kernel
theorem dX0_sharedTraits_33 : decode cX0_sharedTraits 33 = .ok (.iand, 1) := by decide +kernel
theorem dX0_sharedTraits_34 : decode cX0_sharedTraits 34 = .ok (.istore 5, 2) := by decide +kernel
theorem dX0_sharedTraits_36 : decode cX0_sharedTraits 36 = .ok (.iload 5, 2) := by decide +kernel
theorem dX0_sharedTraits_38 : decode cX0_sharedTraits 38 = .ok (.iload_n 2, 1) := by decide +kernel
theorem dX0_sharedTraits_39 : decode cX0_sharedTraits 39 = .ok (.if_icmp .ne 10, 3) := by decide +kernel
theorem dX0_sharedTraits_42 : decode cX0_sharedTraits 42 = .ok (.iload_n 3, 1) := by decide +kernel
theorem dX0_sharedTraits_43 : decode cX0_sharedTraits 43 = .ok (.iconst 1, 1) := by decide +kernel
theorem dX0_sharedTraits_44 : decode cX0_sharedTraits 44 = .ok (.iload 4, 2) := by decide +kernel
theorem dX0_sharedTraits_46 : decode cX0_sharedTraits 46 = .ok (.ishl, 1) := by decide +kernel
theorem dX0_sharedTraits_47 : decode cX0_sharedTraits 47 = .ok (.ior, 1) := by decide +kernel
theorem dX0_sharedTraits_48 : decode cX0_sharedTraits 48 = .ok (.istore_n 3, 1) := by decide +kernel
theorem dX0_sharedTraits_49 : decode cX0_sharedTraits 49 = .ok (.iload 5, 2) := by decide +kernel
theorem dX0_sharedTraits_51 : decode cX0_sharedTraits 51 = .ok (.ifCond .ne 12, 3) := by decide +kernel
theorem dX0_sharedTraits_54 : decode cX0_sharedTraits 54 = .ok (.iload_n 3, 1) := by decide +kernel
theorem dX0_sharedTraits_55 : decode cX0_sharedTraits 55 = .ok (.iconst 1, 1) := by decide +kernel
theorem dX0_sharedTraits_56 : decode cX0_sharedTraits 56 = .ok (.iconst 4, 1) := by decide +kernel
theorem dX0_sharedTraits_57 : decode cX0_sharedTraits 57 = .ok (.iload 4, 2) := by decide +kernel
theorem dX0_sharedTraits_59 : decode cX0_sharedTraits 59 = .ok (.iadd, 1) := by decide +kernel
theorem dX0_sharedTraits_60 : decode cX0_sharedTraits 60 = .ok (.ishl, 1) := by decide +kernel
theorem dX0_sharedTraits_61 : decode cX0_sharedTraits 61 = .ok (.ior, 1) := by decide +kernel
theorem dX0_sharedTraits_62 : decode cX0_sharedTraits 62 = .ok (.istore_n 3, 1) := by decide +kernel
theorem dX0_sharedTraits_63 : decode cX0_sharedTraits 63 = .ok (.iinc 4 1, 3) := by decide +kernel
theorem dX0_sharedTraits_66 : decode cX0_sharedTraits 66 = .ok (.goto (-51), 3) := by decide +kernel
theorem dX0_sharedTraits_69 : decode cX0_sharedTraits 69 = .ok (.iload_n 3, 1) := by decide +kernel
theorem dX0_sharedTraits_70 : decode cX0_sharedTraits 70 = .ok (.ireturn, 1) := by decide +kernel
theorem dX0_isWon_0 : decode cX0_isWon 0 = .ok (.iload_n 1, 1) := by decide +kernel
theorem dX0_isWon_1 : decode cX0_isWon 1 = .ok (.ifCond .lt 11, 3) := by decide +kernel
theorem dX0_isWon_4 : decode cX0_isWon 4 = .ok (.iload_n 1, 1) := by decide +kernel
theorem dX0_isWon_5 : decode cX0_isWon 5 = .ok (.getstatic 42, 3) := by decide +kernel
theorem dX0_isWon_8 : decode cX0_isWon 8 = .ok (.arraylength, 1) := by decide +kernel
theorem dX0_isWon_9 : decode cX0_isWon 9 = .ok (.if_icmp .lt 5, 3) := by decide +kernel
theorem dX0_isWon_12 : decode cX0_isWon 12 = .ok (.iconst 0, 1) := by decide +kernel
theorem dX0_isWon_13 : decode cX0_isWon 13 = .ok (.ireturn, 1) := by decide +kernel
theorem dX0_isWon_14 : decode cX0_isWon 14 = .ok (.getstatic 42, 3) := by decide +kernel
theorem dX0_isWon_17 : decode cX0_isWon 17 = .ok (.iload_n 1, 1) := by decide +kernel
theorem dX0_isWon_18 : decode cX0_isWon 18 = .ok (.iaload, 1) := by decide +kernel
theorem dX0_isWon_19 : decode cX0_isWon 19 = .ok (.istore_n 2, 1) := by decide +kernel
theorem dX0_isWon_20 : decode cX0_isWon 20 = .ok (.aload_n 0, 1) := by decide +kernel
theorem dX0_isWon_21 : decode cX0_isWon 21 = .ok (.getfield 15, 3) := by decide +kernel
theorem dX0_isWon_24 : decode cX0_isWon 24 = .ok (.iload_n 2, 1) := by decide +kernel
theorem dX0_isWon_25 : decode cX0_isWon 25 = .ok (.iand, 1) := by decide +kernel
theorem dX0_isWon_26 : decode cX0_isWon 26 = .ok (.iload_n 2, 1) := by decide +kernel
theorem dX0_isWon_27 : decode cX0_isWon 27 = .ok (.if_icmp .eq 5, 3) := by decide +kernel
theorem dX0_isWon_30 : decode cX0_isWon 30 = .ok (.iconst 0, 1) := by decide +kernel
theorem dX0_isWon_31 : decode cX0_isWon 31 = .ok (.ireturn, 1) := by decide +kernel
theorem dX0_isWon_32 : decode cX0_isWon 32 = .ok (.iconst 0, 1) := by decide +kernel
theorem dX0_isWon_33 : decode cX0_isWon 33 = .ok (.istore_n 3, 1) := by decide +kernel
theorem dX0_isWon_34 : decode cX0_isWon 34 = .ok (.iload_n 3, 1) := by decide +kernel
theorem dX0_isWon_35 : decode cX0_isWon 35 = .ok (.aload_n 0, 1) := by decide +kernel
theorem dX0_isWon_36 : decode cX0_isWon 36 = .ok (.getfield 21, 3) := by decide +kernel
theorem dX0_isWon_39 : decode cX0_isWon 39 = .ok (.arraylength, 1) := by decide +kernel
theorem dX0_isWon_40 : decode cX0_isWon 40 = .ok (.if_icmp .ge 32, 3) := by decide +kernel
theorem dX0_isWon_43 : decode cX0_isWon 43 = .ok (.aload_n 0, 1) := by decide +kernel
theorem dX0_isWon_44 : decode cX0_isWon 44 = .ok (.getfield 21, 3) := by decide +kernel
theorem dX0_isWon_47 : decode cX0_isWon 47 = .ok (.iload_n 3, 1) := by decide +kernel
theorem dX0_isWon_48 : decode cX0_isWon 48 = .ok (.iaload, 1) := by decide +kernel
theorem dX0_isWon_49 : decode cX0_isWon 49 = .ok (.iload_n 2, 1) := by decide +kernel
theorem dX0_isWon_50 : decode cX0_isWon 50 = .ok (.iand, 1) := by decide +kernel
theorem dX0_isWon_51 : decode cX0_isWon 51 = .ok (.istore 4, 2) := by decide +kernel
theorem dX0_isWon_53 : decode cX0_isWon 53 = .ok (.iload 4, 2) := by decide +kernel
theorem dX0_isWon_55 : decode cX0_isWon 55 = .ok (.iload_n 2, 1) := by decide +kernel
theorem dX0_isWon_56 : decode cX0_isWon 56 = .ok (.if_icmp .eq 8, 3) := by decide +kernel
theorem dX0_isWon_59 : decode cX0_isWon 59 = .ok (.iload 4, 2) := by decide +kernel
theorem dX0_isWon_61 : decode cX0_isWon 61 = .ok (.ifCond .ne 5, 3) := by decide +kernel
theorem dX0_isWon_64 : decode cX0_isWon 64 = .ok (.iconst 1, 1) := by decide +kernel
theorem dX0_isWon_65 : decode cX0_isWon 65 = .ok (.ireturn, 1) := by decide +kernel
theorem dX0_isWon_66 : decode cX0_isWon 66 = .ok (.iinc 3 1, 3) := by decide +kernel
theorem dX0_isWon_69 : decode cX0_isWon 69 = .ok (.goto (-35), 3) := by decide +kernel
theorem dX0_isWon_72 : decode cX0_isWon 72 = .ok (.iconst 0, 1) := by decide +kernel
theorem dX0_isWon_73 : decode cX0_isWon 73 = .ok (.ireturn, 1) := by decide +kernel
set_option maxRecDepth 20000 in
theorem ggX0_wonCount_X0_lineCount : GoodIn wsX0_wonCount wsX0_lineCount := goodIn_r _ [5, 6, 14, 15, 16, 17] (by decide +kernel) (by decide +kernel)
set_option maxRecDepth 20000 in
theorem gX0_wonCount_X0_lineCount : GoodIn wsX0_wonCount (wsV RX0 48 RX0 yX0_lineCount wsX0_lineCount) := goodIn_app (goodIn_of _ (by decide +kernel)) ggX0_wonCount_X0_lineCount
set_option maxRecDepth 20000 in
theorem ggX0_wonCount_X0_isWon : GoodIn wsX0_wonCount wsX0_isWon := goodIn_r _ [10, 11, 12, 13, 14, 15, 16, 17] (by decide +kernel) (by decide +kernel)
set_option maxRecDepth 20000 in
theorem gX0_wonCount_X0_isWon : GoodIn wsX0_wonCount (wsV RX0 51 RX0 yX0_isWon wsX0_isWon) := goodIn_app (goodIn_of _ (by decide +kernel)) ggX0_wonCount_X0_isWon
theorem dX0_wonCount_0 : decode cX0_wonCount 0 = .ok (.iconst 0, 1) := by decide +kernel
theorem dX0_wonCount_1 : decode cX0_wonCount 1 = .ok (.istore_n 1, 1) := by decide +kernel
theorem dX0_wonCount_2 : decode cX0_wonCount 2 = .ok (.iconst 0, 1) := by decide +kernel
theorem dX0_wonCount_3 : decode cX0_wonCount 3 = .ok (.istore_n 2, 1) := by decide +kernel
theorem dX0_wonCount_4 : decode cX0_wonCount 4 = .ok (.iload_n 2, 1) := by decide +kernel
theorem dX0_wonCount_5 : decode cX0_wonCount 5 = .ok (.aload_n 0, 1) := by decide +kernel
theorem dX0_wonCount_6 : decode cX0_wonCount 6 = .ok (.invokevirtual 48, 3) := by decide +kernel
theorem dX0_wonCount_9 : decode cX0_wonCount 9 = .ok (.if_icmp .ge 20, 3) := by decide +kernel
theorem dX0_wonCount_12 : decode cX0_wonCount 12 = .ok (.aload_n 0, 1) := by decide +kernel
theorem dX0_wonCount_13 : decode cX0_wonCount 13 = .ok (.iload_n 2, 1) := by decide +kernel
theorem dX0_wonCount_14 : decode cX0_wonCount 14 = .ok (.invokevirtual 51, 3) := by decide +kernel
theorem dX0_wonCount_17 : decode cX0_wonCount 17 = .ok (.ifCond .eq 6, 3) := by decide +kernel
theorem dX0_wonCount_20 : decode cX0_wonCount 20 = .ok (.iinc 1 1, 3) := by decide +kernel
theorem dX0_wonCount_23 : decode cX0_wonCount 23 = .ok (.iinc 2 1, 3) := by decide +kernel
theorem dX0_wonCount_26 : decode cX0_wonCount 26 = .ok (.goto (-22), 3) := by decide +kernel
theorem dX0_wonCount_29 : decode cX0_wonCount 29 = .ok (.iload_n 1, 1) := by decide +kernel
theorem dX0_wonCount_30 : decode cX0_wonCount 30 = .ok (.ireturn, 1) := by decide +kernel
set_option maxRecDepth 20000 in
theorem ggX0_hasWonLine_X0_lineCount : GoodIn wsX0_hasWonLine wsX0_lineCount := goodIn_r _ [5, 6, 14, 15, 16, 17] (by decide +kernel) (by decide +kernel)
set_option maxRecDepth 20000 in
theorem gX0_hasWonLine_X0_lineCount : GoodIn wsX0_hasWonLine (wsV RX0 48 RX0 yX0_lineCount wsX0_lineCount) := goodIn_app (goodIn_of _ (by decide +kernel)) ggX0_hasWonLine_X0_lineCount
set_option maxRecDepth 20000 in
theorem ggX0_hasWonLine_X0_isWon : GoodIn wsX0_hasWonLine wsX0_isWon := goodIn_r _ [10, 11, 12, 13, 14, 15, 16, 17] (by decide +kernel) (by decide +kernel)
set_option maxRecDepth 20000 in
theorem gX0_hasWonLine_X0_isWon : GoodIn wsX0_hasWonLine (wsV RX0 51 RX0 yX0_isWon wsX0_isWon) := goodIn_app (goodIn_of _ (by decide +kernel)) ggX0_hasWonLine_X0_isWon
theorem dX0_hasWonLine_0 : decode cX0_hasWonLine 0 = .ok (.iconst 0, 1) := by decide +kernel
theorem dX0_hasWonLine_1 : decode cX0_hasWonLine 1 = .ok (.istore_n 1, 1) := by decide +kernel
theorem dX0_hasWonLine_2 : decode cX0_hasWonLine 2 = .ok (.iload_n 1, 1) := by decide +kernel
theorem dX0_hasWonLine_3 : decode cX0_hasWonLine 3 = .ok (.aload_n 0, 1) := by decide +kernel
theorem dX0_hasWonLine_4 : decode cX0_hasWonLine 4 = .ok (.invokevirtual 48, 3) := by decide +kernel
theorem dX0_hasWonLine_7 : decode cX0_hasWonLine 7 = .ok (.if_icmp .ge 19, 3) := by decide +kernel
theorem dX0_hasWonLine_10 : decode cX0_hasWonLine 10 = .ok (.aload_n 0, 1) := by decide +kernel
theorem dX0_hasWonLine_11 : decode cX0_hasWonLine 11 = .ok (.iload_n 1, 1) := by decide +kernel
theorem dX0_hasWonLine_12 : decode cX0_hasWonLine 12 = .ok (.invokevirtual 51, 3) := by decide +kernel
theorem dX0_hasWonLine_15 : decode cX0_hasWonLine 15 = .ok (.ifCond .eq 5, 3) := by decide +kernel
theorem dX0_hasWonLine_18 : decode cX0_hasWonLine 18 = .ok (.iconst 1, 1) := by decide +kernel
theorem dX0_hasWonLine_19 : decode cX0_hasWonLine 19 = .ok (.ireturn, 1) := by decide +kernel
theorem dX0_hasWonLine_20 : decode cX0_hasWonLine 20 = .ok (.iinc 1 1, 3) := by decide +kernel
theorem dX0_hasWonLine_23 : decode cX0_hasWonLine 23 = .ok (.goto (-21), 3) := by decide +kernel
theorem dX0_hasWonLine_26 : decode cX0_hasWonLine 26 = .ok (.iconst 0, 1) := by decide +kernel
theorem dX0_hasWonLine_27 : decode cX0_hasWonLine 27 = .ok (.ireturn, 1) := by decide +kernel
set_option maxRecDepth 20000 in
theorem ggX0_firstWinningCell_X0_isEmpty : GoodIn wsX0_firstWinningCell wsX0_isEmpty := goodIn_r _ [5, 6, 35, 36, 37, 38] (by decide +kernel) (by decide +kernel)
set_option maxRecDepth 20000 in
theorem gX0_firstWinningCell_X0_isEmpty : GoodIn wsX0_firstWinningCell (wsV RX0 35 RX0 yX0_isEmpty wsX0_isEmpty) := goodIn_app (goodIn_of _ (by decide +kernel)) ggX0_firstWinningCell_X0_isEmpty
set_option maxRecDepth 20000 in
theorem ggX0_firstWinningCell_X0_winsOn : GoodIn wsX0_firstWinningCell wsX0_winsOn := goodIn_r _ [10, 11, 12, 13, 4, 14, 6, 15, 16, 17, 18, 19, 20, 21, 22, 23, 24, 25, 26, 27, 28, 29, 30, 31, 32, 33, 34, 35, 36, 37, 38] (by decide +kernel) (by decide +kernel)
set_option maxRecDepth 20000 in
theorem gX0_firstWinningCell_X0_winsOn : GoodIn wsX0_firstWinningCell (wsV RX0 54 RX0 yX0_winsOn wsX0_winsOn) := goodIn_app (goodIn_of _ (by decide +kernel)) ggX0_firstWinningCell_X0_winsOn
theorem dX0_firstWinningCell_0 : decode cX0_firstWinningCell 0 = .ok (.iconst 0, 1) := by decide +kernel
theorem dX0_firstWinningCell_1 : decode cX0_firstWinningCell 1 = .ok (.istore_n 2, 1) := by decide +kernel
theorem dX0_firstWinningCell_2 : decode cX0_firstWinningCell 2 = .ok (.iload_n 2, 1) := by decide +kernel
theorem dX0_firstWinningCell_3 : decode cX0_firstWinningCell 3 = .ok (.bipush 16, 2) := by decide +kernel
theorem dX0_firstWinningCell_5 : decode cX0_firstWinningCell 5 = .ok (.if_icmp .ge 28, 3) := by decide +kernel
theorem dX0_firstWinningCell_8 : decode cX0_firstWinningCell 8 = .ok (.aload_n 0, 1) := by decide +kernel
theorem dX0_firstWinningCell_9 : decode cX0_firstWinningCell 9 = .ok (.iload_n 2, 1) := by decide +kernel
theorem dX0_firstWinningCell_10 : decode cX0_firstWinningCell 10 = .ok (.invokevirtual 35, 3) := by decide +kernel
theorem dX0_firstWinningCell_13 : decode cX0_firstWinningCell 13 = .ok (.ifCond .eq 14, 3) := by decide +kernel
theorem dX0_firstWinningCell_16 : decode cX0_firstWinningCell 16 = .ok (.aload_n 0, 1) := by decide +kernel
theorem dX0_firstWinningCell_17 : decode cX0_firstWinningCell 17 = .ok (.iload_n 1, 1) := by decide +kernel
theorem dX0_firstWinningCell_18 : decode cX0_firstWinningCell 18 = .ok (.iload_n 2, 1) := by decide +kernel
theorem dX0_firstWinningCell_19 : decode cX0_firstWinningCell 19 = .ok (.invokevirtual 54, 3) := by decide +kernel
theorem dX0_firstWinningCell_22 : decode cX0_firstWinningCell 22 = .ok (.ifCond .eq 5, 3) := by decide +kernel
theorem dX0_firstWinningCell_25 : decode cX0_firstWinningCell 25 = .ok (.iload_n 2, 1) := by decide +kernel
theorem dX0_firstWinningCell_26 : decode cX0_firstWinningCell 26 = .ok (.ireturn, 1) := by decide +kernel
theorem dX0_firstWinningCell_27 : decode cX0_firstWinningCell 27 = .ok (.iinc 2 1, 3) := by decide +kernel
theorem dX0_firstWinningCell_30 : decode cX0_firstWinningCell 30 = .ok (.goto (-28), 3) := by decide +kernel
theorem dX0_firstWinningCell_33 : decode cX0_firstWinningCell 33 = .ok (.iconst (-1), 1) := by decide +kernel
theorem dX0_firstWinningCell_34 : decode cX0_firstWinningCell 34 = .ok (.ireturn, 1) := by decide +kernel
set_option maxRecDepth 20000 in
theorem ggX0_winsOn_X0_put : GoodIn wsX0_winsOn wsX0_put := goodIn_r _ [5, 6, 7, 8, 27, 28, 29, 30] (by decide +kernel) (by decide +kernel)
set_option maxRecDepth 20000 in
theorem gX0_winsOn_X0_put : GoodIn wsX0_winsOn (wsV RX0 58 RX0 yX0_put wsX0_put) := goodIn_app (goodIn_of _ (by decide +kernel)) ggX0_winsOn_X0_put
set_option maxRecDepth 20000 in
theorem ggX0_winsOn_X0_hasWonLine : GoodIn wsX0_winsOn wsX0_hasWonLine := goodIn_r _ [12, 13, 14, 15, 4, 16, 17, 18, 19, 20, 21, 22, 6, 8, 27, 28, 29, 30] (by decide +kernel) (by decide +kernel)
set_option maxRecDepth 20000 in
theorem gX0_winsOn_X0_hasWonLine : GoodIn wsX0_winsOn (wsV RX0 62 RX0 yX0_hasWonLine wsX0_hasWonLine) := goodIn_app (goodIn_of _ (by decide +kernel)) ggX0_winsOn_X0_hasWonLine
set_option maxRecDepth 20000 in
theorem ggX0_winsOn_X0_lift : GoodIn wsX0_winsOn wsX0_lift := goodIn_r _ [26, 6, 7, 8, 27, 28, 29, 30] (by decide +kernel) (by decide +kernel)
set_option maxRecDepth 20000 in
theorem gX0_winsOn_X0_lift : GoodIn wsX0_winsOn (wsV RX0 66 RX0 yX0_lift wsX0_lift) := goodIn_app (goodIn_of _ (by decide +kernel)) ggX0_winsOn_X0_lift
theorem dX0_winsOn_0 : decode cX0_winsOn 0 = .ok (.aload_n 0, 1) := by decide +kernel
theorem dX0_winsOn_1 : decode cX0_winsOn 1 = .ok (.iload_n 1, 1) := by decide +kernel
theorem dX0_winsOn_2 : decode cX0_winsOn 2 = .ok (.iload_n 2, 1) := by decide +kernel
theorem dX0_winsOn_3 : decode cX0_winsOn 3 = .ok (.invokevirtual 58, 3) := by decide +kernel
theorem dX0_winsOn_6 : decode cX0_winsOn 6 = .ok (.aload_n 0, 1) := by decide +kernel
theorem dX0_winsOn_7 : decode cX0_winsOn 7 = .ok (.invokevirtual 62, 3) := by decide +kernel
theorem dX0_winsOn_10 : decode cX0_winsOn 10 = .ok (.istore_n 3, 1) := by decide +kernel
theorem dX0_winsOn_11 : decode cX0_winsOn 11 = .ok (.aload_n 0, 1) := by decide +kernel
theorem dX0_winsOn_12 : decode cX0_winsOn 12 = .ok (.iload_n 1, 1) := by decide +kernel
theorem dX0_winsOn_13 : decode cX0_winsOn 13 = .ok (.iload_n 2, 1) := by decide +kernel
theorem dX0_winsOn_14 : decode cX0_winsOn 14 = .ok (.invokevirtual 66, 3) := by decide +kernel
theorem dX0_winsOn_17 : decode cX0_winsOn 17 = .ok (.iload_n 3, 1) := by decide +kernel
theorem dX0_winsOn_18 : decode cX0_winsOn 18 = .ok (.ireturn, 1) := by decide +kernel
set_option maxRecDepth 20000 in
theorem ggX0_dangerousTraits_X0_lineCount : GoodIn wsX0_dangerousTraits wsX0_lineCount := goodIn_r _ [5, 6, 28, 29, 30, 31] (by decide +kernel) (by decide +kernel)
set_option maxRecDepth 20000 in
theorem gX0_dangerousTraits_X0_lineCount : GoodIn wsX0_dangerousTraits (wsV RX0 48 RX0 yX0_lineCount wsX0_lineCount) := goodIn_app (goodIn_of _ (by decide +kernel)) ggX0_dangerousTraits_X0_lineCount
set_option maxRecDepth 20000 in
theorem ggX0_dangerousTraits_X0_countOn : GoodIn wsX0_dangerousTraits wsX0_countOn := goodIn_r _ [10, 11, 12, 13, 4, 14, 15, 16, 17, 18, 19, 20, 21, 22, 28, 29, 30, 31] (by decide +kernel) (by decide +kernel)
set_option maxRecDepth 20000 in
theorem gX0_dangerousTraits_X0_countOn : GoodIn wsX0_dangerousTraits (wsV RX0 69 RX0 yX0_countOn wsX0_countOn) := goodIn_app (goodIn_of _ (by decide +kernel)) ggX0_dangerousTraits_X0_countOn
set_option maxRecDepth 20000 in
theorem ggX0_dangerousTraits_X0_sharedTraits : GoodIn wsX0_dangerousTraits wsX0_sharedTraits := goodIn_r _ [26, 11, 27, 12, 13, 4, 14, 15, 28, 29, 30, 31] (by decide +kernel) (by decide +kernel)
set_option maxRecDepth 20000 in
theorem gX0_dangerousTraits_X0_sharedTraits : GoodIn wsX0_dangerousTraits (wsV RX0 72 RX0 yX0_sharedTraits wsX0_sharedTraits) := goodIn_app (goodIn_of _ (by decide +kernel)) ggX0_dangerousTraits_X0_sharedTraits
theorem dX0_dangerousTraits_0 : decode cX0_dangerousTraits 0 = .ok (.iconst 0, 1) := by decide +kernel
theorem dX0_dangerousTraits_1 : decode cX0_dangerousTraits 1 = .ok (.istore_n 1, 1) := by decide +kernel
theorem dX0_dangerousTraits_2 : decode cX0_dangerousTraits 2 = .ok (.iconst 0, 1) := by decide +kernel
theorem dX0_dangerousTraits_3 : decode cX0_dangerousTraits 3 = .ok (.istore_n 2, 1) := by decide +kernel
theorem dX0_dangerousTraits_4 : decode cX0_dangerousTraits 4 = .ok (.iload_n 2, 1) := by decide +kernel
theorem dX0_dangerousTraits_5 : decode cX0_dangerousTraits 5 = .ok (.aload_n 0, 1) := by decide +kernel
theorem dX0_dangerousTraits_6 : decode cX0_dangerousTraits 6 = .ok (.invokevirtual 48, 3) := by decide +kernel
theorem dX0_dangerousTraits_9 : decode cX0_dangerousTraits 9 = .ok (.if_icmp .ge 26, 3) := by decide +kernel
theorem dX0_dangerousTraits_12 : decode cX0_dangerousTraits 12 = .ok (.aload_n 0, 1) := by decide +kernel
theorem dX0_dangerousTraits_13 : decode cX0_dangerousTraits 13 = .ok (.iload_n 2, 1) := by decide +kernel
theorem dX0_dangerousTraits_14 : decode cX0_dangerousTraits 14 = .ok (.invokevirtual 69, 3) := by decide +kernel
theorem dX0_dangerousTraits_17 : decode cX0_dangerousTraits 17 = .ok (.iconst 3, 1) := by decide +kernel
theorem dX0_dangerousTraits_18 : decode cX0_dangerousTraits 18 = .ok (.if_icmp .ne 11, 3) := by decide +kernel
theorem dX0_dangerousTraits_21 : decode cX0_dangerousTraits 21 = .ok (.iload_n 1, 1) := by decide +kernel
theorem dX0_dangerousTraits_22 : decode cX0_dangerousTraits 22 = .ok (.aload_n 0, 1) := by decide +kernel
theorem dX0_dangerousTraits_23 : decode cX0_dangerousTraits 23 = .ok (.iload_n 2, 1) := by decide +kernel
theorem dX0_dangerousTraits_24 : decode cX0_dangerousTraits 24 = .ok (.invokevirtual 72, 3) := by decide +kernel
theorem dX0_dangerousTraits_27 : decode cX0_dangerousTraits 27 = .ok (.ior, 1) := by decide +kernel
theorem dX0_dangerousTraits_28 : decode cX0_dangerousTraits 28 = .ok (.istore_n 1, 1) := by decide +kernel
theorem dX0_dangerousTraits_29 : decode cX0_dangerousTraits 29 = .ok (.iinc 2 1, 3) := by decide +kernel
theorem dX0_dangerousTraits_32 : decode cX0_dangerousTraits 32 = .ok (.goto (-28), 3) := by decide +kernel
theorem dX0_dangerousTraits_35 : decode cX0_dangerousTraits 35 = .ok (.iload_n 1, 1) := by decide +kernel
theorem dX0_dangerousTraits_36 : decode cX0_dangerousTraits 36 = .ok (.ireturn, 1) := by decide +kernel
set_option maxRecDepth 20000 in
theorem ggX1_valueOf_X2_board : GoodIn wsX1_valueOf wsX2_board := goodIn_r _ [5, 6, 75, 76, 77, 78] (by decide +kernel) (by decide +kernel)
set_option maxRecDepth 20000 in
theorem gX1_valueOf_X2_board : GoodIn wsX1_valueOf (wsV RX1 9 RX2 yX2_board wsX2_board) := goodIn_app (goodIn_of _ (by decide +kernel)) ggX1_valueOf_X2_board
set_option maxRecDepth 20000 in
theorem ggX1_valueOf_X0_emptyCount : GoodIn wsX1_valueOf wsX0_emptyCount := goodIn_r _ [11, 12, 13, 14, 10, 15, 16, 17, 18, 19, 20, 21, 22, 23, 79, 80, 81, 82] (by decide +kernel) (by decide +kernel)
set_option maxRecDepth 20000 in
theorem gX1_valueOf_X0_emptyCount : GoodIn wsX1_valueOf (wsV RX1 15 RX0 yX0_emptyCount wsX0_emptyCount) := goodIn_app (goodIn_of _ (by decide +kernel)) ggX1_valueOf_X0_emptyCount
set_option maxRecDepth 20000 in
theorem ggX1_valueOf_X2_pending : GoodIn wsX1_valueOf wsX2_pending := goodIn_r _ [27, 28, 75, 76, 77, 78] (by decide +kernel) (by decide +kernel)
set_option maxRecDepth 20000 in
theorem gX1_valueOf_X2_pending : GoodIn wsX1_valueOf (wsV RX1 21 RX2 yX2_pending wsX2_pending) := goodIn_app (goodIn_of _ (by decide +kernel)) ggX1_valueOf_X2_pending
set_option maxRecDepth 20000 in
theorem ggX1_valueOf_X1_valueToGiver : GoodIn wsX1_valueOf wsX1_valueToGiver := goodIn_r _ [32, 33, 34, 35, 36, 37, 38, 39, 10, 40, 41, 42, 43, 31, 44, 45, 46, 47, 48, 16, 49, 50, 51, 52, 53, 54, 55, 56, 57, 58, 59, 60, 61, 62, 63, 29, 30, 64, 65, 66, 67, 68, 69, 70, 71, 72, 73, 74, 79, 80, 81, 82] (by decide +kernel) (by decide +kernel)
set_option maxRecDepth 20000 in
theorem gX1_valueOf_X1_valueToGiver : GoodIn wsX1_valueOf (va_wsS RX1 24 yX1_valueToGiver wsX1_valueToGiver) := goodIn_app (goodIn_of _ (by decide +kernel)) ggX1_valueOf_X1_valueToGiver
set_option maxRecDepth 20000 in
theorem ggX1_valueOf_X1_valueToPlacer : GoodIn wsX1_valueOf wsX1_valueToPlacer := goodIn_r _ [68, 33, 34, 35, 36, 69, 70, 71, 10, 72, 16, 73, 74, 31, 44, 45, 46, 47, 48, 41, 49, 50, 51, 52, 53, 54, 55, 56, 57, 58, 59, 60, 61, 62, 63, 29, 30, 64, 65, 66, 67, 32, 37, 38, 39, 40, 42, 43, 79, 80, 81, 82] (by decide +kernel) (by decide +kernel)
set_option maxRecDepth 20000 in
theorem gX1_valueOf_X1_valueToPlacer : GoodIn wsX1_valueOf (va_wsS RX1 30 yX1_valueToPlacer wsX1_valueToPlacer) := goodIn_app (goodIn_of _ (by decide +kernel)) ggX1_valueOf_X1_valueToPlacer
theorem dX1_valueOf_0 : decode cX1_valueOf 0 = .ok (.aload_n 0, 1) := by decide +kernel
theorem dX1_valueOf_1 : decode cX1_valueOf 1 = .ok (.invokevirtual 9, 3) := by decide +kernel
theorem dX1_valueOf_4 : decode cX1_valueOf 4 = .ok (.invokevirtual 15, 3) := by decide +kernel
theorem dX1_valueOf_7 : decode cX1_valueOf 7 = .ok (.istore_n 1, 1) := by decide +kernel
theorem dX1_valueOf_8 : decode cX1_valueOf 8 = .ok (.aload_n 0, 1) := by decide +kernel
theorem dX1_valueOf_9 : decode cX1_valueOf 9 = .ok (.invokevirtual 21, 3) := by decide +kernel
theorem dX1_valueOf_12 : decode cX1_valueOf 12 = .ok (.iconst (-1), 1) := by decide +kernel
theorem dX1_valueOf_13 : decode cX1_valueOf 13 = .ok (.if_icmp .ne 12, 3) := by decide +kernel
theorem dX1_valueOf_16 : decode cX1_valueOf 16 = .ok (.aload_n 0, 1) := by decide +kernel
theorem dX1_valueOf_17 : decode cX1_valueOf 17 = .ok (.invokevirtual 9, 3) := by decide +kernel
theorem dX1_valueOf_20 : decode cX1_valueOf 20 = .ok (.iload_n 1, 1) := by decide +kernel
theorem dX1_valueOf_21 : decode cX1_valueOf 21 = .ok (.invokestatic 24, 3) := by decide +kernel
theorem dX1_valueOf_24 : decode cX1_valueOf 24 = .ok (.ireturn, 1) := by decide +kernel
theorem dX1_valueOf_25 : decode cX1_valueOf 25 = .ok (.aload_n 0, 1) := by decide +kernel
theorem dX1_valueOf_26 : decode cX1_valueOf 26 = .ok (.invokevirtual 9, 3) := by decide +kernel
theorem dX1_valueOf_29 : decode cX1_valueOf 29 = .ok (.aload_n 0, 1) := by decide +kernel
theorem dX1_valueOf_30 : decode cX1_valueOf 30 = .ok (.invokevirtual 21, 3) := by decide +kernel
theorem dX1_valueOf_33 : decode cX1_valueOf 33 = .ok (.iload_n 1, 1) := by decide +kernel
theorem dX1_valueOf_34 : decode cX1_valueOf 34 = .ok (.invokestatic 30, 3) := by decide +kernel
theorem dX1_valueOf_37 : decode cX1_valueOf 37 = .ok (.ireturn, 1) := by decide +kernel
set_option maxRecDepth 20000 in
theorem ggX1_valueToGiver_X0_holds : GoodIn wsX1_valueToGiver wsX0_holds := goodIn_r _ [9, 10, 48, 49, 50, 51] (by decide +kernel) (by decide +kernel)
set_option maxRecDepth 20000 in
theorem gX1_valueToGiver_X0_holds : GoodIn wsX1_valueToGiver (wsV RX1 57 RX0 yX0_holds wsX0_holds) := goodIn_app (goodIn_of _ (by decide +kernel)) ggX1_valueToGiver_X0_holds
set_option maxRecDepth 20000 in
theorem ggX1_valueToGiver_X1_valueToPlacer : GoodIn wsX1_valueToGiver wsX1_valueToPlacer := goodIn_r _ [41, 1, 2, 3, 4, 42, 43, 44, 8, 45, 19, 46, 47, 13, 14, 15, 16, 17, 18, 10, 20, 21, 22, 23, 24, 25, 26, 27, 28, 29, 30, 31, 32, 33, 34, 35, 36, 37, 38, 39, 40, 0, 5, 6, 7, 9, 11, 12, 48, 49, 50, 51] (by decide +kernel) (by decide +kernel)
set_option maxRecDepth 20000 in
theorem gX1_valueToGiver_X1_valueToPlacer : GoodIn wsX1_valueToGiver (va_wsS RX1 30 yX1_valueToPlacer wsX1_valueToPlacer) := goodIn_app (goodIn_of _ (by decide +kernel)) ggX1_valueToGiver_X1_valueToPlacer
theorem dX1_valueToGiver_0 : decode cX1_valueToGiver 0 = .ok (.iload_n 1, 1) := by decide +kernel
theorem dX1_valueToGiver_1 : decode cX1_valueToGiver 1 = .ok (.ifCond .le 8, 3) := by decide +kernel
theorem dX1_valueToGiver_4 : decode cX1_valueToGiver 4 = .ok (.iload_n 1, 1) := by decide +kernel
theorem dX1_valueToGiver_5 : decode cX1_valueToGiver 5 = .ok (.iconst 4, 1) := by decide +kernel
theorem dX1_valueToGiver_6 : decode cX1_valueToGiver 6 = .ok (.if_icmp .le 5, 3) := by decide +kernel
theorem dX1_valueToGiver_9 : decode cX1_valueToGiver 9 = .ok (.iconst 0, 1) := by decide +kernel
theorem dX1_valueToGiver_10 : decode cX1_valueToGiver 10 = .ok (.ireturn, 1) := by decide +kernel
theorem dX1_valueToGiver_11 : decode cX1_valueToGiver 11 = .ok (.iconst (-1), 1) := by decide +kernel
theorem dX1_valueToGiver_12 : decode cX1_valueToGiver 12 = .ok (.istore_n 2, 1) := by decide +kernel
theorem dX1_valueToGiver_13 : decode cX1_valueToGiver 13 = .ok (.iconst 0, 1) := by decide +kernel
theorem dX1_valueToGiver_14 : decode cX1_valueToGiver 14 = .ok (.istore_n 3, 1) := by decide +kernel
theorem dX1_valueToGiver_15 : decode cX1_valueToGiver 15 = .ok (.iload_n 3, 1) := by decide +kernel
theorem dX1_valueToGiver_16 : decode cX1_valueToGiver 16 = .ok (.bipush 16, 2) := by decide +kernel
theorem dX1_valueToGiver_18 : decode cX1_valueToGiver 18 = .ok (.if_icmp .ge 34, 3) := by decide +kernel
theorem dX1_valueToGiver_21 : decode cX1_valueToGiver 21 = .ok (.iload_n 2, 1) := by decide +kernel
theorem dX1_valueToGiver_22 : decode cX1_valueToGiver 22 = .ok (.iconst 1, 1) := by decide +kernel
theorem dX1_valueToGiver_23 : decode cX1_valueToGiver 23 = .ok (.if_icmp .eq 29, 3) := by decide +kernel
theorem dX1_valueToGiver_26 : decode cX1_valueToGiver 26 = .ok (.aload_n 0, 1) := by decide +kernel
theorem dX1_valueToGiver_27 : decode cX1_valueToGiver 27 = .ok (.iload_n 3, 1) := by decide +kernel
theorem dX1_valueToGiver_28 : decode cX1_valueToGiver 28 = .ok (.invokevirtual 57, 3) := by decide +kernel
theorem dX1_valueToGiver_31 : decode cX1_valueToGiver 31 = .ok (.ifCond .ne 15, 3) := by decide +kernel
theorem dX1_valueToGiver_34 : decode cX1_valueToGiver 34 = .ok (.iload_n 2, 1) := by decide +kernel
theorem dX1_valueToGiver_35 : decode cX1_valueToGiver 35 = .ok (.aload_n 0, 1) := by decide +kernel
theorem dX1_valueToGiver_36 : decode cX1_valueToGiver 36 = .ok (.iload_n 3, 1) := by decide +kernel
theorem dX1_valueToGiver_37 : decode cX1_valueToGiver 37 = .ok (.iload_n 1, 1) := by decide +kernel
theorem dX1_valueToGiver_38 : decode cX1_valueToGiver 38 = .ok (.invokestatic 30, 3) := by decide +kernel
theorem dX1_valueToGiver_41 : decode cX1_valueToGiver 41 = .ok (.ineg, 1) := by decide +kernel
theorem dX1_valueToGiver_42 : decode cX1_valueToGiver 42 = .ok (.invokestatic 60, 3) := by decide +kernel
theorem dX1_valueToGiver_45 : decode cX1_valueToGiver 45 = .ok (.istore_n 2, 1) := by decide +kernel
theorem dX1_valueToGiver_46 : decode cX1_valueToGiver 46 = .ok (.iinc 3 1, 3) := by decide +kernel
theorem dX1_valueToGiver_49 : decode cX1_valueToGiver 49 = .ok (.goto (-34), 3) := by decide +kernel
theorem dX1_valueToGiver_52 : decode cX1_valueToGiver 52 = .ok (.iload_n 2, 1) := by decide +kernel
theorem dX1_valueToGiver_53 : decode cX1_valueToGiver 53 = .ok (.ireturn, 1) := by decide +kernel
set_option maxRecDepth 20000 in
theorem ggX1_valueToPlacer_X0_isEmpty : GoodIn wsX1_valueToPlacer wsX0_isEmpty := goodIn_r _ [9, 10, 48, 49, 50, 51] (by decide +kernel) (by decide +kernel)
set_option maxRecDepth 20000 in
theorem gX1_valueToPlacer_X0_isEmpty : GoodIn wsX1_valueToPlacer (wsV RX1 66 RX0 yX0_isEmpty wsX0_isEmpty) := goodIn_app (goodIn_of _ (by decide +kernel)) ggX1_valueToPlacer_X0_isEmpty
set_option maxRecDepth 20000 in
theorem ggX1_valueToPlacer_X1_valueOfPlacing : GoodIn wsX1_valueToPlacer wsX1_valueOfPlacing := goodIn_r _ [14, 15, 16, 17, 8, 18, 10, 19, 20, 21, 22, 23, 24, 25, 26, 27, 28, 29, 30, 31, 32, 33, 34, 35, 36, 13, 37, 38, 39, 40, 41, 1, 2, 3, 4, 42, 43, 44, 45, 46, 47, 0, 5, 6, 7, 9, 11, 12, 48, 49, 50, 51] (by decide +kernel) (by decide +kernel)
set_option maxRecDepth 20000 in
theorem gX1_valueToPlacer_X1_valueOfPlacing : GoodIn wsX1_valueToPlacer (va_wsS RX1 53 yX1_valueOfPlacing wsX1_valueOfPlacing) := goodIn_app (goodIn_of _ (by decide +kernel)) ggX1_valueToPlacer_X1_valueOfPlacing
theorem dX1_valueToPlacer_0 : decode cX1_valueToPlacer 0 = .ok (.iload_n 2, 1) := by decide +kernel
theorem dX1_valueToPlacer_1 : decode cX1_valueToPlacer 1 = .ok (.ifCond .le 8, 3) := by decide +kernel
theorem dX1_valueToPlacer_4 : decode cX1_valueToPlacer 4 = .ok (.iload_n 2, 1) := by decide +kernel
theorem dX1_valueToPlacer_5 : decode cX1_valueToPlacer 5 = .ok (.iconst 4, 1) := by decide +kernel
theorem dX1_valueToPlacer_6 : decode cX1_valueToPlacer 6 = .ok (.if_icmp .le 5, 3) := by decide +kernel
theorem dX1_valueToPlacer_9 : decode cX1_valueToPlacer 9 = .ok (.iconst 0, 1) := by decide +kernel
theorem dX1_valueToPlacer_10 : decode cX1_valueToPlacer 10 = .ok (.ireturn, 1) := by decide +kernel
theorem dX1_valueToPlacer_11 : decode cX1_valueToPlacer 11 = .ok (.iconst (-1), 1) := by decide +kernel
theorem dX1_valueToPlacer_12 : decode cX1_valueToPlacer 12 = .ok (.istore_n 3, 1) := by decide +kernel
theorem dX1_valueToPlacer_13 : decode cX1_valueToPlacer 13 = .ok (.iconst 0, 1) := by decide +kernel
theorem dX1_valueToPlacer_14 : decode cX1_valueToPlacer 14 = .ok (.istore 4, 2) := by decide +kernel
theorem dX1_valueToPlacer_16 : decode cX1_valueToPlacer 16 = .ok (.iload 4, 2) := by decide +kernel
theorem dX1_valueToPlacer_18 : decode cX1_valueToPlacer 18 = .ok (.bipush 16, 2) := by decide +kernel
theorem dX1_valueToPlacer_20 : decode cX1_valueToPlacer 20 = .ok (.if_icmp .ge 36, 3) := by decide +kernel
theorem dX1_valueToPlacer_23 : decode cX1_valueToPlacer 23 = .ok (.iload_n 3, 1) := by decide +kernel
theorem dX1_valueToPlacer_24 : decode cX1_valueToPlacer 24 = .ok (.iconst 1, 1) := by decide +kernel
theorem dX1_valueToPlacer_25 : decode cX1_valueToPlacer 25 = .ok (.if_icmp .eq 31, 3) := by decide +kernel
theorem dX1_valueToPlacer_28 : decode cX1_valueToPlacer 28 = .ok (.aload_n 0, 1) := by decide +kernel
theorem dX1_valueToPlacer_29 : decode cX1_valueToPlacer 29 = .ok (.iload 4, 2) := by decide +kernel
theorem dX1_valueToPlacer_31 : decode cX1_valueToPlacer 31 = .ok (.invokevirtual 66, 3) := by decide +kernel
theorem dX1_valueToPlacer_34 : decode cX1_valueToPlacer 34 = .ok (.ifCond .eq 16, 3) := by decide +kernel
theorem dX1_valueToPlacer_37 : decode cX1_valueToPlacer 37 = .ok (.iload_n 3, 1) := by decide +kernel
theorem dX1_valueToPlacer_38 : decode cX1_valueToPlacer 38 = .ok (.aload_n 0, 1) := by decide +kernel
theorem dX1_valueToPlacer_39 : decode cX1_valueToPlacer 39 = .ok (.iload_n 1, 1) := by decide +kernel
theorem dX1_valueToPlacer_40 : decode cX1_valueToPlacer 40 = .ok (.iload 4, 2) := by decide +kernel
theorem dX1_valueToPlacer_42 : decode cX1_valueToPlacer 42 = .ok (.iload_n 2, 1) := by decide +kernel
theorem dX1_valueToPlacer_43 : decode cX1_valueToPlacer 43 = .ok (.invokestatic 53, 3) := by decide +kernel
theorem dX1_valueToPlacer_46 : decode cX1_valueToPlacer 46 = .ok (.invokestatic 60, 3) := by decide +kernel
theorem dX1_valueToPlacer_49 : decode cX1_valueToPlacer 49 = .ok (.istore_n 3, 1) := by decide +kernel
theorem dX1_valueToPlacer_50 : decode cX1_valueToPlacer 50 = .ok (.iinc 4 1, 3) := by decide +kernel
theorem dX1_valueToPlacer_53 : decode cX1_valueToPlacer 53 = .ok (.goto (-37), 3) := by decide +kernel
theorem dX1_valueToPlacer_56 : decode cX1_valueToPlacer 56 = .ok (.iload_n 3, 1) := by decide +kernel
theorem dX1_valueToPlacer_57 : decode cX1_valueToPlacer 57 = .ok (.ireturn, 1) := by decide +kernel
set_option maxRecDepth 20000 in
theorem ggX1_valueOfPlacing_X0_put : GoodIn wsX1_valueOfPlacing wsX0_put := goodIn_r _ [5, 6, 7, 8, 48, 49, 50, 51] (by decide +kernel) (by decide +kernel)
set_option maxRecDepth 20000 in
theorem gX1_valueOfPlacing_X0_put : GoodIn wsX1_valueOfPlacing (wsV RX1 69 RX0 yX0_put wsX0_put) := goodIn_app (goodIn_of _ (by decide +kernel)) ggX1_valueOfPlacing_X0_put
set_option maxRecDepth 20000 in
theorem ggX1_valueOfPlacing_X0_hasWonLine : GoodIn wsX1_valueOfPlacing wsX0_hasWonLine := goodIn_r _ [12, 13, 14, 15, 4, 16, 17, 18, 19, 20, 21, 22, 6, 8, 48, 49, 50, 51] (by decide +kernel) (by decide +kernel)
set_option maxRecDepth 20000 in
theorem gX1_valueOfPlacing_X0_hasWonLine : GoodIn wsX1_valueOfPlacing (wsV RX1 73 RX0 yX0_hasWonLine wsX0_hasWonLine) := goodIn_app (goodIn_of _ (by decide +kernel)) ggX1_valueOfPlacing_X0_hasWonLine
set_option maxRecDepth 20000 in
theorem ggX1_valueOfPlacing_X1_valueToGiver : GoodIn wsX1_valueOfPlacing wsX1_valueToGiver := goodIn_r _ [30, 31, 32, 33, 34, 35, 36, 37, 4, 38, 7, 39, 40, 25, 0, 1, 2, 3, 5, 6, 8, 9, 10, 11, 12, 13, 14, 15, 16, 17, 18, 19, 20, 21, 22, 23, 24, 26, 27, 28, 29, 41, 42, 43, 44, 45, 46, 47, 48, 49, 50, 51] (by decide +kernel) (by decide +kernel)
set_option maxRecDepth 20000 in
theorem gX1_valueOfPlacing_X1_valueToGiver : GoodIn wsX1_valueOfPlacing (va_wsS RX1 24 yX1_valueToGiver wsX1_valueToGiver) := goodIn_app (goodIn_of _ (by decide +kernel)) ggX1_valueOfPlacing_X1_valueToGiver
set_option maxRecDepth 20000 in
theorem ggX1_valueOfPlacing_X0_lift : GoodIn wsX1_valueOfPlacing wsX0_lift := goodIn_r _ [29, 6, 7, 8, 48, 49, 50, 51] (by decide +kernel) (by decide +kernel)
set_option maxRecDepth 20000 in
theorem gX1_valueOfPlacing_X0_lift : GoodIn wsX1_valueOfPlacing (wsV RX1 77 RX0 yX0_lift wsX0_lift) := goodIn_app (goodIn_of _ (by decide +kernel)) ggX1_valueOfPlacing_X0_lift
theorem dX1_valueOfPlacing_0 : decode cX1_valueOfPlacing 0 = .ok (.aload_n 0, 1) := by decide +kernel
theorem dX1_valueOfPlacing_1 : decode cX1_valueOfPlacing 1 = .ok (.iload_n 1, 1) := by decide +kernel
theorem dX1_valueOfPlacing_2 : decode cX1_valueOfPlacing 2 = .ok (.iload_n 2, 1) := by decide +kernel
theorem dX1_valueOfPlacing_3 : decode cX1_valueOfPlacing 3 = .ok (.invokevirtual 69, 3) := by decide +kernel
theorem dX1_valueOfPlacing_6 : decode cX1_valueOfPlacing 6 = .ok (.aload_n 0, 1) := by decide +kernel
theorem dX1_valueOfPlacing_7 : decode cX1_valueOfPlacing 7 = .ok (.invokevirtual 73, 3) := by decide +kernel
theorem dX1_valueOfPlacing_10 : decode cX1_valueOfPlacing 10 = .ok (.ifCond .eq 7, 3) := by decide +kernel
theorem dX1_valueOfPlacing_13 : decode cX1_valueOfPlacing 13 = .ok (.iconst 1, 1) := by decide +kernel
theorem dX1_valueOfPlacing_14 : decode cX1_valueOfPlacing 14 = .ok (.goto 10, 3) := by decide +kernel
theorem dX1_valueOfPlacing_17 : decode cX1_valueOfPlacing 17 = .ok (.aload_n 0, 1) := by decide +kernel
theorem dX1_valueOfPlacing_18 : decode cX1_valueOfPlacing 18 = .ok (.iload_n 3, 1) := by decide +kernel
theorem dX1_valueOfPlacing_19 : decode cX1_valueOfPlacing 19 = .ok (.iconst 1, 1) := by decide +kernel
theorem dX1_valueOfPlacing_20 : decode cX1_valueOfPlacing 20 = .ok (.isub, 1) := by decide +kernel
theorem dX1_valueOfPlacing_21 : decode cX1_valueOfPlacing 21 = .ok (.invokestatic 24, 3) := by decide +kernel
theorem dX1_valueOfPlacing_24 : decode cX1_valueOfPlacing 24 = .ok (.istore 4, 2) := by decide +kernel
theorem dX1_valueOfPlacing_26 : decode cX1_valueOfPlacing 26 = .ok (.aload_n 0, 1) := by decide +kernel
theorem dX1_valueOfPlacing_27 : decode cX1_valueOfPlacing 27 = .ok (.iload_n 1, 1) := by decide +kernel
theorem dX1_valueOfPlacing_28 : decode cX1_valueOfPlacing 28 = .ok (.iload_n 2, 1) := by decide +kernel
theorem dX1_valueOfPlacing_29 : decode cX1_valueOfPlacing 29 = .ok (.invokevirtual 77, 3) := by decide +kernel
theorem dX1_valueOfPlacing_32 : decode cX1_valueOfPlacing 32 = .ok (.iload 4, 2) := by decide +kernel
theorem dX1_valueOfPlacing_34 : decode cX1_valueOfPlacing 34 = .ok (.ireturn, 1) := by decide +kernel
