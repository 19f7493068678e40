theorem dX6_init_0 : decode cX6_init 0 = .ok (.aload_n 0, 1) := by decide +kernel
theorem dX6_init_1 : decode cX6_init 1 = .ok (.invokespecial 1, 3) := by decide +kernel
theorem dX6_init_4 : decode cX6_init 4 = .ok (.aload_n 0, 1) := by decide +kernel
theorem dX6_init_5 : decode cX6_init 5 = .ok (.bipush 21, 2) := by decide +kernel
theorem dX6_init_7 : decode cX6_init 7 = .ok (.newarray .int, 2) := by decide +kernel
theorem dX6_init_9 : decode cX6_init 9 = .ok (.putfield 7, 3) := by decide +kernel
theorem dX6_init_12 : decode cX6_init 12 = .ok (.aload_n 0, 1) := by decide +kernel
theorem dX6_init_13 : decode cX6_init 13 = .ok (.bipush 21, 2) := by decide +kernel
theorem dX6_init_15 : decode cX6_init 15 = .ok (.newarray .int, 2) := by decide +kernel
theorem dX6_init_17 : decode cX6_init 17 = .ok (.putfield 13, 3) := by decide +kernel
theorem dX6_init_20 : decode cX6_init 20 = .ok (.aload_n 0, 1) := by decide +kernel
theorem dX6_init_21 : decode cX6_init 21 = .ok (.bipush 84, 2) := by decide +kernel
theorem dX6_init_23 : decode cX6_init 23 = .ok (.newarray .int, 2) := by decide +kernel
theorem dX6_init_25 : decode cX6_init 25 = .ok (.putfield 16, 3) := by decide +kernel
theorem dX6_init_28 : decode cX6_init 28 = .ok (.aload_n 0, 1) := by decide +kernel
theorem dX6_init_29 : decode cX6_init 29 = .ok (.bipush 21, 2) := by decide +kernel
theorem dX6_init_31 : decode cX6_init 31 = .ok (.newarray .int, 2) := by decide +kernel
theorem dX6_init_33 : decode cX6_init 33 = .ok (.putfield 19, 3) := by decide +kernel
theorem dX6_init_36 : decode cX6_init 36 = .ok (.aload_n 0, 1) := by decide +kernel
theorem dX6_init_37 : decode cX6_init 37 = .ok (.bipush 60, 2) := by decide +kernel
theorem dX6_init_39 : decode cX6_init 39 = .ok (.newarray .int, 2) := by decide +kernel
theorem dX6_init_41 : decode cX6_init 41 = .ok (.putfield 22, 3) := by decide +kernel
theorem dX6_init_44 : decode cX6_init 44 = .ok (.aload_n 0, 1) := by decide +kernel
theorem dX6_init_45 : decode cX6_init 45 = .ok (.bipush 10, 2) := by decide +kernel
theorem dX6_init_47 : decode cX6_init 47 = .ok (.newarray .int, 2) := by decide +kernel
theorem dX6_init_49 : decode cX6_init 49 = .ok (.putfield 25, 3) := by decide +kernel
theorem dX6_init_52 : decode cX6_init 52 = .ok (.aload_n 0, 1) := by decide +kernel
theorem dX6_init_53 : decode cX6_init 53 = .ok (.bipush 10, 2) := by decide +kernel
theorem dX6_init_55 : decode cX6_init 55 = .ok (.newarray .int, 2) := by decide +kernel
theorem dX6_init_57 : decode cX6_init 57 = .ok (.putfield 28, 3) := by decide +kernel
theorem dX6_init_60 : decode cX6_init 60 = .ok (.aload_n 0, 1) := by decide +kernel
theorem dX6_init_61 : decode cX6_init 61 = .ok (.bipush 10, 2) := by decide +kernel
theorem dX6_init_63 : decode cX6_init 63 = .ok (.newarray .int, 2) := by decide +kernel
theorem dX6_init_65 : decode cX6_init 65 = .ok (.putfield 31, 3) := by decide +kernel
theorem dX6_init_68 : decode cX6_init 68 = .ok (.return_, 1) := by decide +kernel
theorem dX6_thrown_0 : decode cX6_thrown 0 = .ok (.aload_n 0, 1) := by decide +kernel
theorem dX6_thrown_1 : decode cX6_thrown 1 = .ok (.getfield 34, 3) := by decide +kernel
theorem dX6_thrown_4 : decode cX6_thrown 4 = .ok (.ireturn, 1) := by decide +kernel
theorem dX6_fails_0 : decode cX6_fails 0 = .ok (.aload_n 0, 1) := by decide +kernel
theorem dX6_fails_1 : decode cX6_fails 1 = .ok (.iload_n 1, 1) := by decide +kernel
theorem dX6_fails_2 : decode cX6_fails 2 = .ok (.putfield 34, 3) := by decide +kernel
theorem dX6_fails_5 : decode cX6_fails 5 = .ok (.iconst 0, 1) := by decide +kernel
theorem dX6_fails_6 : decode cX6_fails 6 = .ok (.ireturn, 1) := by decide +kernel
theorem dX6_in_0 : decode cX6_in 0 = .ok (.lload_n 0, 1) := by decide +kernel
theorem dX6_in_1 : decode cX6_in 1 = .ok (.lload_n 2, 1) := by decide +kernel
theorem dX6_in_2 : decode cX6_in 2 = .ok (.lcmp, 1) := by decide +kernel
theorem dX6_in_3 : decode cX6_in 3 = .ok (.ifCond .lt 14, 3) := by decide +kernel
theorem dX6_in_6 : decode cX6_in 6 = .ok (.lload_n 0, 1) := by decide +kernel
theorem dX6_in_7 : decode cX6_in 7 = .ok (.lload 4, 2) := by decide +kernel
theorem dX6_in_9 : decode cX6_in 9 = .ok (.lcmp, 1) := by decide +kernel
theorem dX6_in_10 : decode cX6_in 10 = .ok (.ifCond .gt 7, 3) := by decide +kernel
theorem dX6_in_13 : decode cX6_in 13 = .ok (.iconst 1, 1) := by decide +kernel
theorem dX6_in_14 : decode cX6_in 14 = .ok (.goto 4, 3) := by decide +kernel
theorem dX6_in_17 : decode cX6_in 17 = .ok (.iconst 0, 1) := by decide +kernel
theorem dX6_in_18 : decode cX6_in 18 = .ok (.ireturn, 1) := by decide +kernel
theorem dX6_records_0 : decode cX6_records 0 = .ok (.aload_n 0, 1) := by decide +kernel
theorem dX6_records_1 : decode cX6_records 1 = .ok (.iconst 0, 1) := by decide +kernel
theorem dX6_records_2 : decode cX6_records 2 = .ok (.putfield 34, 3) := by decide +kernel
theorem dX6_records_5 : decode cX6_records 5 = .ok (.aload_n 0, 1) := by decide +kernel
theorem dX6_records_6 : decode cX6_records 6 = .ok (.getfield 38, 3) := by decide +kernel
theorem dX6_records_9 : decode cX6_records 9 = .ok (.iconst 4, 1) := by decide +kernel
theorem dX6_records_10 : decode cX6_records 10 = .ok (.if_icmp .ne 42, 3) := by decide +kernel
theorem dX6_records_13 : decode cX6_records 13 = .ok (.iconst 0, 1) := by decide +kernel
theorem dX6_records_14 : decode cX6_records 14 = .ok (.istore_n 1, 1) := by decide +kernel
theorem dX6_records_15 : decode cX6_records 15 = .ok (.iload_n 1, 1) := by decide +kernel
theorem dX6_records_16 : decode cX6_records 16 = .ok (.bipush 63, 2) := by decide +kernel
theorem dX6_records_18 : decode cX6_records 18 = .ok (.if_icmp .ge 24, 3) := by decide +kernel
theorem dX6_records_21 : decode cX6_records 21 = .ok (.aload_n 0, 1) := by decide +kernel
theorem dX6_records_22 : decode cX6_records 22 = .ok (.getfield 16, 3) := by decide +kernel
theorem dX6_records_25 : decode cX6_records 25 = .ok (.iload_n 1, 1) := by decide +kernel
theorem dX6_records_26 : decode cX6_records 26 = .ok (.aload_n 0, 1) := by decide +kernel
theorem dX6_records_27 : decode cX6_records 27 = .ok (.getfield 16, 3) := by decide +kernel
theorem dX6_records_30 : decode cX6_records 30 = .ok (.iload_n 1, 1) := by decide +kernel
theorem dX6_records_31 : decode cX6_records 31 = .ok (.bipush 21, 2) := by decide +kernel
theorem dX6_records_33 : decode cX6_records 33 = .ok (.iadd, 1) := by decide +kernel
theorem dX6_records_34 : decode cX6_records 34 = .ok (.iaload, 1) := by decide +kernel
theorem dX6_records_35 : decode cX6_records 35 = .ok (.iastore, 1) := by decide +kernel
theorem dX6_records_36 : decode cX6_records 36 = .ok (.iinc 1 1, 3) := by decide +kernel
theorem dX6_records_39 : decode cX6_records 39 = .ok (.goto (-24), 3) := by decide +kernel
theorem dX6_records_42 : decode cX6_records 42 = .ok (.aload_n 0, 1) := by decide +kernel
theorem dX6_records_43 : decode cX6_records 43 = .ok (.dup, 1) := by decide +kernel
theorem dX6_records_44 : decode cX6_records 44 = .ok (.getfield 38, 3) := by decide +kernel
theorem dX6_records_47 : decode cX6_records 47 = .ok (.iconst 1, 1) := by decide +kernel
theorem dX6_records_48 : decode cX6_records 48 = .ok (.isub, 1) := by decide +kernel
theorem dX6_records_49 : decode cX6_records 49 = .ok (.putfield 38, 3) := by decide +kernel
theorem dX6_records_52 : decode cX6_records 52 = .ok (.iconst 0, 1) := by decide +kernel
theorem dX6_records_53 : decode cX6_records 53 = .ok (.istore_n 1, 1) := by decide +kernel
theorem dX6_records_54 : decode cX6_records 54 = .ok (.iload_n 1, 1) := by decide +kernel
theorem dX6_records_55 : decode cX6_records 55 = .ok (.bipush 21, 2) := by decide +kernel
theorem dX6_records_57 : decode cX6_records 57 = .ok (.if_icmp .ge 29, 3) := by decide +kernel
theorem dX6_records_60 : decode cX6_records 60 = .ok (.aload_n 0, 1) := by decide +kernel
theorem dX6_records_61 : decode cX6_records 61 = .ok (.getfield 16, 3) := by decide +kernel
theorem dX6_records_64 : decode cX6_records 64 = .ok (.bipush 21, 2) := by decide +kernel
theorem dX6_records_66 : decode cX6_records 66 = .ok (.aload_n 0, 1) := by decide +kernel
theorem dX6_records_67 : decode cX6_records 67 = .ok (.getfield 38, 3) := by decide +kernel
theorem dX6_records_70 : decode cX6_records 70 = .ok (.imul, 1) := by decide +kernel
theorem dX6_records_71 : decode cX6_records 71 = .ok (.iload_n 1, 1) := by decide +kernel
theorem dX6_records_72 : decode cX6_records 72 = .ok (.iadd, 1) := by decide +kernel
theorem dX6_records_73 : decode cX6_records 73 = .ok (.aload_n 0, 1) := by decide +kernel
theorem dX6_records_74 : decode cX6_records 74 = .ok (.getfield 7, 3) := by decide +kernel
theorem dX6_records_77 : decode cX6_records 77 = .ok (.iload_n 1, 1) := by decide +kernel
theorem dX6_records_78 : decode cX6_records 78 = .ok (.iaload, 1) := by decide +kernel
theorem dX6_records_79 : decode cX6_records 79 = .ok (.iastore, 1) := by decide +kernel
theorem dX6_records_80 : decode cX6_records 80 = .ok (.iinc 1 1, 3) := by decide +kernel
theorem dX6_records_83 : decode cX6_records 83 = .ok (.goto (-29), 3) := by decide +kernel
theorem dX6_records_86 : decode cX6_records 86 = .ok (.aload_n 0, 1) := by decide +kernel
theorem dX6_records_87 : decode cX6_records 87 = .ok (.dup, 1) := by decide +kernel
theorem dX6_records_88 : decode cX6_records 88 = .ok (.getfield 38, 3) := by decide +kernel
theorem dX6_records_91 : decode cX6_records 91 = .ok (.iconst 1, 1) := by decide +kernel
theorem dX6_records_92 : decode cX6_records 92 = .ok (.iadd, 1) := by decide +kernel
theorem dX6_records_93 : decode cX6_records 93 = .ok (.putfield 38, 3) := by decide +kernel
theorem dX6_records_96 : decode cX6_records 96 = .ok (.return_, 1) := by decide +kernel
theorem dX6_told_0 : decode cX6_told 0 = .ok (.aload_n 0, 1) := by decide +kernel
theorem dX6_told_1 : decode cX6_told 1 = .ok (.iconst 0, 1) := by decide +kernel
theorem dX6_told_2 : decode cX6_told 2 = .ok (.putfield 34, 3) := by decide +kernel
theorem dX6_told_5 : decode cX6_told 5 = .ok (.iload_n 1, 1) := by decide +kernel
theorem dX6_told_6 : decode cX6_told 6 = .ok (.ireturn, 1) := by decide +kernel
set_option maxRecDepth 20000 in
theorem ggX6_isPlace_X6_in : GoodIn wsX6_isPlace wsX6_in := goodIn_r _ [5] (by decide +kernel) (by decide +kernel)
set_option maxRecDepth 20000 in
theorem gX6_isPlace_X6_in : GoodIn wsX6_isPlace (va_wsS RX6 43 yX6_in wsX6_in) := goodIn_app (goodIn_of _ (by decide +kernel)) ggX6_isPlace_X6_in
theorem dX6_isPlace_0 : decode cX6_isPlace 0 = .ok (.iload_n 0, 1) := by decide +kernel
theorem dX6_isPlace_1 : decode cX6_isPlace 1 = .ok (.i2l, 1) := by decide +kernel
theorem dX6_isPlace_2 : decode cX6_isPlace 2 = .ok (.lconst 0, 1) := by decide +kernel
theorem dX6_isPlace_3 : decode cX6_isPlace 3 = .ok (.ldc2_w 41, 3) := by decide +kernel
theorem dX6_isPlace_6 : decode cX6_isPlace 6 = .ok (.invokestatic 43, 3) := by decide +kernel
theorem dX6_isPlace_9 : decode cX6_isPlace 9 = .ok (.ireturn, 1) := by decide +kernel
theorem dX6_count_0 : decode cX6_count 0 = .ok (.iconst 0, 1) := by decide +kernel
theorem dX6_count_1 : decode cX6_count 1 = .ok (.istore_n 1, 1) := by decide +kernel
theorem dX6_count_2 : decode cX6_count 2 = .ok (.iconst 0, 1) := by decide +kernel
theorem dX6_count_3 : decode cX6_count 3 = .ok (.istore_n 2, 1) := by decide +kernel
theorem dX6_count_4 : decode cX6_count 4 = .ok (.iload_n 2, 1) := by decide +kernel
theorem dX6_count_5 : decode cX6_count 5 = .ok (.bipush 16, 2) := by decide +kernel
theorem dX6_count_7 : decode cX6_count 7 = .ok (.if_icmp .ge 28, 3) := by decide +kernel
theorem dX6_count_10 : decode cX6_count 10 = .ok (.iload_n 1, 1) := by decide +kernel
theorem dX6_count_11 : decode cX6_count 11 = .ok (.aload_n 0, 1) := by decide +kernel
theorem dX6_count_12 : decode cX6_count 12 = .ok (.getfield 7, 3) := by decide +kernel
theorem dX6_count_15 : decode cX6_count 15 = .ok (.iconst 0, 1) := by decide +kernel
theorem dX6_count_16 : decode cX6_count 16 = .ok (.iload_n 2, 1) := by decide +kernel
theorem dX6_count_17 : decode cX6_count 17 = .ok (.iadd, 1) := by decide +kernel
theorem dX6_count_18 : decode cX6_count 18 = .ok (.iaload, 1) := by decide +kernel
theorem dX6_count_19 : decode cX6_count 19 = .ok (.ifCond .le 7, 3) := by decide +kernel
theorem dX6_count_22 : decode cX6_count 22 = .ok (.iconst 1, 1) := by decide +kernel
theorem dX6_count_23 : decode cX6_count 23 = .ok (.goto 4, 3) := by decide +kernel
theorem dX6_count_26 : decode cX6_count 26 = .ok (.iconst 0, 1) := by decide +kernel
theorem dX6_count_27 : decode cX6_count 27 = .ok (.iadd, 1) := by decide +kernel
theorem dX6_count_28 : decode cX6_count 28 = .ok (.istore_n 1, 1) := by decide +kernel
theorem dX6_count_29 : decode cX6_count 29 = .ok (.iinc 2 1, 3) := by decide +kernel
theorem dX6_count_32 : decode cX6_count 32 = .ok (.goto (-28), 3) := by decide +kernel
theorem dX6_count_35 : decode cX6_count 35 = .ok (.iload_n 1, 1) := by decide +kernel
theorem dX6_count_36 : decode cX6_count 36 = .ok (.ireturn, 1) := by decide +kernel
set_option maxRecDepth 20000 in
theorem ggX6_isOverNow_X6_count : GoodIn wsX6_isOverNow wsX6_count := goodIn_r _ [6, 1, 7, 8, 9, 10, 11, 12, 13, 14, 15, 16, 17, 18, 19, 20, 21, 22, 23, 24] (by decide +kernel) (by decide +kernel)
set_option maxRecDepth 20000 in
theorem gX6_isOverNow_X6_count : GoodIn wsX6_isOverNow (wsV RX6 47 RX6 yX6_count wsX6_count) := goodIn_app (goodIn_of _ (by decide +kernel)) ggX6_isOverNow_X6_count
theorem dX6_isOverNow_0 : decode cX6_isOverNow 0 = .ok (.aload_n 0, 1) := by decide +kernel
theorem dX6_isOverNow_1 : decode cX6_isOverNow 1 = .ok (.getfield 7, 3) := by decide +kernel
theorem dX6_isOverNow_4 : decode cX6_isOverNow 4 = .ok (.bipush 20, 2) := by decide +kernel
theorem dX6_isOverNow_6 : decode cX6_isOverNow 6 = .ok (.iaload, 1) := by decide +kernel
theorem dX6_isOverNow_7 : decode cX6_isOverNow 7 = .ok (.ifCond .gt 12, 3) := by decide +kernel
theorem dX6_isOverNow_10 : decode cX6_isOverNow 10 = .ok (.aload_n 0, 1) := by decide +kernel
theorem dX6_isOverNow_11 : decode cX6_isOverNow 11 = .ok (.invokevirtual 47, 3) := by decide +kernel
theorem dX6_isOverNow_14 : decode cX6_isOverNow 14 = .ok (.bipush 16, 2) := by decide +kernel
theorem dX6_isOverNow_16 : decode cX6_isOverNow 16 = .ok (.if_icmp .ne 7, 3) := by decide +kernel
theorem dX6_isOverNow_19 : decode cX6_isOverNow 19 = .ok (.iconst 1, 1) := by decide +kernel
theorem dX6_isOverNow_20 : decode cX6_isOverNow 20 = .ok (.goto 4, 3) := by decide +kernel
theorem dX6_isOverNow_23 : decode cX6_isOverNow 23 = .ok (.iconst 0, 1) := by decide +kernel
theorem dX6_isOverNow_24 : decode cX6_isOverNow 24 = .ok (.ireturn, 1) := by decide +kernel
theorem dX6_cell_0 : decode cX6_cell 0 = .ok (.iconst 0, 1) := by decide +kernel
theorem dX6_cell_1 : decode cX6_cell 1 = .ok (.istore_n 2, 1) := by decide +kernel
theorem dX6_cell_2 : decode cX6_cell 2 = .ok (.iload_n 2, 1) := by decide +kernel
theorem dX6_cell_3 : decode cX6_cell 3 = .ok (.bipush 16, 2) := by decide +kernel
theorem dX6_cell_5 : decode cX6_cell 5 = .ok (.if_icmp .ge 25, 3) := by decide +kernel
theorem dX6_cell_8 : decode cX6_cell 8 = .ok (.aload_n 0, 1) := by decide +kernel
theorem dX6_cell_9 : decode cX6_cell 9 = .ok (.getfield 7, 3) := by decide +kernel
theorem dX6_cell_12 : decode cX6_cell 12 = .ok (.iconst 0, 1) := by decide +kernel
theorem dX6_cell_13 : decode cX6_cell 13 = .ok (.iload_n 2, 1) := by decide +kernel
theorem dX6_cell_14 : decode cX6_cell 14 = .ok (.iadd, 1) := by decide +kernel
theorem dX6_cell_15 : decode cX6_cell 15 = .ok (.iaload, 1) := by decide +kernel
theorem dX6_cell_16 : decode cX6_cell 16 = .ok (.iload_n 1, 1) := by decide +kernel
theorem dX6_cell_17 : decode cX6_cell 17 = .ok (.iconst 1, 1) := by decide +kernel
theorem dX6_cell_18 : decode cX6_cell 18 = .ok (.iadd, 1) := by decide +kernel
theorem dX6_cell_19 : decode cX6_cell 19 = .ok (.if_icmp .ne 5, 3) := by decide +kernel
theorem dX6_cell_22 : decode cX6_cell 22 = .ok (.iload_n 2, 1) := by decide +kernel
theorem dX6_cell_23 : decode cX6_cell 23 = .ok (.ireturn, 1) := by decide +kernel
theorem dX6_cell_24 : decode cX6_cell 24 = .ok (.iinc 2 1, 3) := by decide +kernel
theorem dX6_cell_27 : decode cX6_cell 27 = .ok (.goto (-25), 3) := by decide +kernel
theorem dX6_cell_30 : decode cX6_cell 30 = .ok (.iconst (-1), 1) := by decide +kernel
theorem dX6_cell_31 : decode cX6_cell 31 = .ok (.ireturn, 1) := by decide +kernel
set_option maxRecDepth 20000 in
theorem ggX6_mover_X6_count : GoodIn wsX6_mover wsX6_count := goodIn_r _ [6, 1, 7, 8, 9, 10, 11, 12, 13, 14, 15, 16, 17, 18, 19, 20, 21, 22, 23, 24] (by decide +kernel) (by decide +kernel)
set_option maxRecDepth 20000 in
theorem gX6_mover_X6_count : GoodIn wsX6_mover (wsV RX6 47 RX6 yX6_count wsX6_count) := goodIn_app (goodIn_of _ (by decide +kernel)) ggX6_mover_X6_count
theorem dX6_mover_0 : decode cX6_mover 0 = .ok (.aload_n 0, 1) := by decide +kernel
theorem dX6_mover_1 : decode cX6_mover 1 = .ok (.invokevirtual 47, 3) := by decide +kernel
theorem dX6_mover_4 : decode cX6_mover 4 = .ok (.iconst 2, 1) := by decide +kernel
theorem dX6_mover_5 : decode cX6_mover 5 = .ok (.irem, 1) := by decide +kernel
theorem dX6_mover_6 : decode cX6_mover 6 = .ok (.istore_n 1, 1) := by decide +kernel
theorem dX6_mover_7 : decode cX6_mover 7 = .ok (.aload_n 0, 1) := by decide +kernel
theorem dX6_mover_8 : decode cX6_mover 8 = .ok (.getfield 7, 3) := by decide +kernel
theorem dX6_mover_11 : decode cX6_mover 11 = .ok (.bipush 16, 2) := by decide +kernel
theorem dX6_mover_13 : decode cX6_mover 13 = .ok (.iaload, 1) := by decide +kernel
theorem dX6_mover_14 : decode cX6_mover 14 = .ok (.ifCond .le 9, 3) := by decide +kernel
theorem dX6_mover_17 : decode cX6_mover 17 = .ok (.iconst 1, 1) := by decide +kernel
theorem dX6_mover_18 : decode cX6_mover 18 = .ok (.iload_n 1, 1) := by decide +kernel
theorem dX6_mover_19 : decode cX6_mover 19 = .ok (.isub, 1) := by decide +kernel
theorem dX6_mover_20 : decode cX6_mover 20 = .ok (.goto 4, 3) := by decide +kernel
theorem dX6_mover_23 : decode cX6_mover 23 = .ok (.iload_n 1, 1) := by decide +kernel
theorem dX6_mover_24 : decode cX6_mover 24 = .ok (.ireturn, 1) := by decide +kernel
theorem dX6_linesNow_0 : decode cX6_linesNow 0 = .ok (.aload_n 0, 1) := by decide +kernel
theorem dX6_linesNow_1 : decode cX6_linesNow 1 = .ok (.getfield 7, 3) := by decide +kernel
theorem dX6_linesNow_4 : decode cX6_linesNow 4 = .ok (.bipush 17, 2) := by decide +kernel
theorem dX6_linesNow_6 : decode cX6_linesNow 6 = .ok (.iaload, 1) := by decide +kernel
theorem dX6_linesNow_7 : decode cX6_linesNow 7 = .ok (.ifCond .ne 8, 3) := by decide +kernel
theorem dX6_linesNow_10 : decode cX6_linesNow 10 = .ok (.bipush 10, 2) := by decide +kernel
theorem dX6_linesNow_12 : decode cX6_linesNow 12 = .ok (.goto 5, 3) := by decide +kernel
theorem dX6_linesNow_15 : decode cX6_linesNow 15 = .ok (.bipush 19, 2) := by decide +kernel
theorem dX6_linesNow_17 : decode cX6_linesNow 17 = .ok (.ireturn, 1) := by decide +kernel
theorem dX6_cellOfLine_0 : decode cX6_cellOfLine 0 = .ok (.iload_n 0, 1) := by decide +kernel
theorem dX6_cellOfLine_1 : decode cX6_cellOfLine 1 = .ok (.iconst 4, 1) := by decide +kernel
theorem dX6_cellOfLine_2 : decode cX6_cellOfLine 2 = .ok (.if_icmp .ge 9, 3) := by decide +kernel
theorem dX6_cellOfLine_5 : decode cX6_cellOfLine 5 = .ok (.iconst 4, 1) := by decide +kernel
theorem dX6_cellOfLine_6 : decode cX6_cellOfLine 6 = .ok (.iload_n 0, 1) := by decide +kernel
theorem dX6_cellOfLine_7 : decode cX6_cellOfLine 7 = .ok (.imul, 1) := by decide +kernel
theorem dX6_cellOfLine_8 : decode cX6_cellOfLine 8 = .ok (.iload_n 1, 1) := by decide +kernel
theorem dX6_cellOfLine_9 : decode cX6_cellOfLine 9 = .ok (.iadd, 1) := by decide +kernel
theorem dX6_cellOfLine_10 : decode cX6_cellOfLine 10 = .ok (.ireturn, 1) := by decide +kernel
theorem dX6_cellOfLine_11 : decode cX6_cellOfLine 11 = .ok (.iload_n 0, 1) := by decide +kernel
theorem dX6_cellOfLine_12 : decode cX6_cellOfLine 12 = .ok (.bipush 8, 2) := by decide +kernel
theorem dX6_cellOfLine_14 : decode cX6_cellOfLine 14 = .ok (.if_icmp .ge 11, 3) := by decide +kernel
theorem dX6_cellOfLine_17 : decode cX6_cellOfLine 17 = .ok (.iconst 4, 1) := by decide +kernel
theorem dX6_cellOfLine_18 : decode cX6_cellOfLine 18 = .ok (.iload_n 1, 1) := by decide +kernel
theorem dX6_cellOfLine_19 : decode cX6_cellOfLine 19 = .ok (.imul, 1) := by decide +kernel
theorem dX6_cellOfLine_20 : decode cX6_cellOfLine 20 = .ok (.iload_n 0, 1) := by decide +kernel
theorem dX6_cellOfLine_21 : decode cX6_cellOfLine 21 = .ok (.iadd, 1) := by decide +kernel
theorem dX6_cellOfLine_22 : decode cX6_cellOfLine 22 = .ok (.iconst 4, 1) := by decide +kernel
theorem dX6_cellOfLine_23 : decode cX6_cellOfLine 23 = .ok (.isub, 1) := by decide +kernel
theorem dX6_cellOfLine_24 : decode cX6_cellOfLine 24 = .ok (.ireturn, 1) := by decide +kernel
theorem dX6_cellOfLine_25 : decode cX6_cellOfLine 25 = .ok (.iload_n 0, 1) := by decide +kernel
theorem dX6_cellOfLine_26 : decode cX6_cellOfLine 26 = .ok (.bipush 10, 2) := by decide +kernel
theorem dX6_cellOfLine_28 : decode cX6_cellOfLine 28 = .ok (.if_icmp .ge 21, 3) := by decide +kernel
theorem dX6_cellOfLine_31 : decode cX6_cellOfLine 31 = .ok (.iload_n 0, 1) := by decide +kernel
theorem dX6_cellOfLine_32 : decode cX6_cellOfLine 32 = .ok (.bipush 8, 2) := by decide +kernel
theorem dX6_cellOfLine_34 : decode cX6_cellOfLine 34 = .ok (.if_icmp .ne 9, 3) := by decide +kernel
theorem dX6_cellOfLine_37 : decode cX6_cellOfLine 37 = .ok (.iconst 5, 1) := by decide +kernel
theorem dX6_cellOfLine_38 : decode cX6_cellOfLine 38 = .ok (.iload_n 1, 1) := by decide +kernel
theorem dX6_cellOfLine_39 : decode cX6_cellOfLine 39 = .ok (.imul, 1) := by decide +kernel
theorem dX6_cellOfLine_40 : decode cX6_cellOfLine 40 = .ok (.goto 8, 3) := by decide +kernel
theorem dX6_cellOfLine_43 : decode cX6_cellOfLine 43 = .ok (.iconst 3, 1) := by decide +kernel
theorem dX6_cellOfLine_44 : decode cX6_cellOfLine 44 = .ok (.iload_n 1, 1) := by decide +kernel
theorem dX6_cellOfLine_45 : decode cX6_cellOfLine 45 = .ok (.imul, 1) := by decide +kernel
theorem dX6_cellOfLine_46 : decode cX6_cellOfLine 46 = .ok (.iconst 3, 1) := by decide +kernel
theorem dX6_cellOfLine_47 : decode cX6_cellOfLine 47 = .ok (.iadd, 1) := by decide +kernel
theorem dX6_cellOfLine_48 : decode cX6_cellOfLine 48 = .ok (.ireturn, 1) := by decide +kernel
theorem dX6_cellOfLine_49 : decode cX6_cellOfLine 49 = .ok (.iconst 4, 1) := by decide +kernel
theorem dX6_cellOfLine_50 : decode cX6_cellOfLine 50 = .ok (.iload_n 0, 1) := by decide +kernel
theorem dX6_cellOfLine_51 : decode cX6_cellOfLine 51 = .ok (.bipush 10, 2) := by decide +kernel
theorem dX6_cellOfLine_53 : decode cX6_cellOfLine 53 = .ok (.isub, 1) := by decide +kernel
theorem dX6_cellOfLine_54 : decode cX6_cellOfLine 54 = .ok (.iconst 3, 1) := by decide +kernel
theorem dX6_cellOfLine_55 : decode cX6_cellOfLine 55 = .ok (.idiv, 1) := by decide +kernel
theorem dX6_cellOfLine_56 : decode cX6_cellOfLine 56 = .ok (.imul, 1) := by decide +kernel
theorem dX6_cellOfLine_57 : decode cX6_cellOfLine 57 = .ok (.iload_n 0, 1) := by decide +kernel
theorem dX6_cellOfLine_58 : decode cX6_cellOfLine 58 = .ok (.bipush 10, 2) := by decide +kernel
theorem dX6_cellOfLine_60 : decode cX6_cellOfLine 60 = .ok (.isub, 1) := by decide +kernel
theorem dX6_cellOfLine_61 : decode cX6_cellOfLine 61 = .ok (.iconst 3, 1) := by decide +kernel
theorem dX6_cellOfLine_62 : decode cX6_cellOfLine 62 = .ok (.irem, 1) := by decide +kernel
theorem dX6_cellOfLine_63 : decode cX6_cellOfLine 63 = .ok (.iadd, 1) := by decide +kernel
theorem dX6_cellOfLine_64 : decode cX6_cellOfLine 64 = .ok (.istore_n 2, 1) := by decide +kernel
theorem dX6_cellOfLine_65 : decode cX6_cellOfLine 65 = .ok (.iload_n 2, 1) := by decide +kernel
theorem dX6_cellOfLine_66 : decode cX6_cellOfLine 66 = .ok (.iload_n 1, 1) := by decide +kernel
theorem dX6_cellOfLine_67 : decode cX6_cellOfLine 67 = .ok (.iconst 2, 1) := by decide +kernel
theorem dX6_cellOfLine_68 : decode cX6_cellOfLine 68 = .ok (.idiv, 1) := by decide +kernel
theorem dX6_cellOfLine_69 : decode cX6_cellOfLine 69 = .ok (.iconst 4, 1) := by decide +kernel
theorem dX6_cellOfLine_70 : decode cX6_cellOfLine 70 = .ok (.imul, 1) := by decide +kernel
theorem dX6_cellOfLine_71 : decode cX6_cellOfLine 71 = .ok (.iadd, 1) := by decide +kernel
theorem dX6_cellOfLine_72 : decode cX6_cellOfLine 72 = .ok (.iload_n 1, 1) := by decide +kernel
theorem dX6_cellOfLine_73 : decode cX6_cellOfLine 73 = .ok (.iconst 2, 1) := by decide +kernel
theorem dX6_cellOfLine_74 : decode cX6_cellOfLine 74 = .ok (.irem, 1) := by decide +kernel
theorem dX6_cellOfLine_75 : decode cX6_cellOfLine 75 = .ok (.iadd, 1) := by decide +kernel
theorem dX6_cellOfLine_76 : decode cX6_cellOfLine 76 = .ok (.ireturn, 1) := by decide +kernel
set_option maxRecDepth 20000 in
theorem ggX6_many_X6_cellOfLine : GoodIn wsX6_many wsX6_cellOfLine := goodIn_r _ [5] (by decide +kernel) (by decide +kernel)
set_option maxRecDepth 20000 in
theorem gX6_many_X6_cellOfLine : GoodIn wsX6_many (va_wsS RX6 51 yX6_cellOfLine wsX6_cellOfLine) := goodIn_app (goodIn_of _ (by decide +kernel)) ggX6_many_X6_cellOfLine
theorem dX6_many_0 : decode cX6_many 0 = .ok (.iconst 0, 1) := by decide +kernel
theorem dX6_many_1 : decode cX6_many 1 = .ok (.istore_n 2, 1) := by decide +kernel
theorem dX6_many_2 : decode cX6_many 2 = .ok (.iconst 0, 1) := by decide +kernel
theorem dX6_many_3 : decode cX6_many 3 = .ok (.istore_n 3, 1) := by decide +kernel
theorem dX6_many_4 : decode cX6_many 4 = .ok (.iload_n 3, 1) := by decide +kernel
theorem dX6_many_5 : decode cX6_many 5 = .ok (.iconst 4, 1) := by decide +kernel
theorem dX6_many_6 : decode cX6_many 6 = .ok (.if_icmp .ge 32, 3) := by decide +kernel
theorem dX6_many_9 : decode cX6_many 9 = .ok (.iload_n 2, 1) := by decide +kernel
theorem dX6_many_10 : decode cX6_many 10 = .ok (.aload_n 0, 1) := by decide +kernel
theorem dX6_many_11 : decode cX6_many 11 = .ok (.getfield 7, 3) := by decide +kernel
theorem dX6_many_14 : decode cX6_many 14 = .ok (.iconst 0, 1) := by decide +kernel
theorem dX6_many_15 : decode cX6_many 15 = .ok (.iload_n 1, 1) := by decide +kernel
theorem dX6_many_16 : decode cX6_many 16 = .ok (.iload_n 3, 1) := by decide +kernel
theorem dX6_many_17 : decode cX6_many 17 = .ok (.invokestatic 51, 3) := by decide +kernel
theorem dX6_many_20 : decode cX6_many 20 = .ok (.iadd, 1) := by decide +kernel
theorem dX6_many_21 : decode cX6_many 21 = .ok (.iaload, 1) := by decide +kernel
theorem dX6_many_22 : decode cX6_many 22 = .ok (.ifCond .le 7, 3) := by decide +kernel
theorem dX6_many_25 : decode cX6_many 25 = .ok (.iconst 1, 1) := by decide +kernel
theorem dX6_many_26 : decode cX6_many 26 = .ok (.goto 4, 3) := by decide +kernel
theorem dX6_many_29 : decode cX6_many 29 = .ok (.iconst 0, 1) := by decide +kernel
theorem dX6_many_30 : decode cX6_many 30 = .ok (.iadd, 1) := by decide +kernel
theorem dX6_many_31 : decode cX6_many 31 = .ok (.istore_n 2, 1) := by decide +kernel
theorem dX6_many_32 : decode cX6_many 32 = .ok (.iinc 3 1, 3) := by decide +kernel
theorem dX6_many_35 : decode cX6_many 35 = .ok (.goto (-31), 3) := by decide +kernel
theorem dX6_many_38 : decode cX6_many 38 = .ok (.iload_n 2, 1) := by decide +kernel
theorem dX6_many_39 : decode cX6_many 39 = .ok (.ireturn, 1) := by decide +kernel
theorem dX6_traits_0 : decode cX6_traits 0 = .ok (.iload_n 0, 1) := by decide +kernel
theorem dX6_traits_1 : decode cX6_traits 1 = .ok (.bipush 15, 2) := by decide +kernel
theorem dX6_traits_3 : decode cX6_traits 3 = .ok (.iload_n 0, 1) := by decide +kernel
theorem dX6_traits_4 : decode cX6_traits 4 = .ok (.isub, 1) := by decide +kernel
theorem dX6_traits_5 : decode cX6_traits 5 = .ok (.iconst 4, 1) := by decide +kernel
theorem dX6_traits_6 : decode cX6_traits 6 = .ok (.ishl, 1) := by decide +kernel
theorem dX6_traits_7 : decode cX6_traits 7 = .ok (.ior, 1) := by decide +kernel
theorem dX6_traits_8 : decode cX6_traits 8 = .ok (.ireturn, 1) := by decide +kernel
set_option maxRecDepth 20000 in
theorem ggX6_shared_X6_cellOfLine : GoodIn wsX6_shared wsX6_cellOfLine := goodIn_r _ [5] (by decide +kernel) (by decide +kernel)
set_option maxRecDepth 20000 in
theorem gX6_shared_X6_cellOfLine : GoodIn wsX6_shared (va_wsS RX6 51 yX6_cellOfLine wsX6_cellOfLine) := goodIn_app (goodIn_of _ (by decide +kernel)) ggX6_shared_X6_cellOfLine
set_option maxRecDepth 20000 in
theorem ggX6_shared_X6_traits : GoodIn wsX6_shared wsX6_traits := goodIn_r _ [8] (by decide +kernel) (by decide +kernel)
set_option maxRecDepth 20000 in
theorem gX6_shared_X6_traits : GoodIn wsX6_shared (va_wsS RX6 55 yX6_traits wsX6_traits) := goodIn_app (goodIn_of _ (by decide +kernel)) ggX6_shared_X6_traits
theorem dX6_shared_0 : decode cX6_shared 0 = .ok (.sipush 255, 3) := by decide +kernel
theorem dX6_shared_3 : decode cX6_shared 3 = .ok (.istore_n 2, 1) := by decide +kernel
theorem dX6_shared_4 : decode cX6_shared 4 = .ok (.iconst 0, 1) := by decide +kernel
theorem dX6_shared_5 : decode cX6_shared 5 = .ok (.istore_n 3, 1) := by decide +kernel
theorem dX6_shared_6 : decode cX6_shared 6 = .ok (.iload_n 3, 1) := by decide +kernel
theorem dX6_shared_7 : decode cX6_shared 7 = .ok (.iconst 4, 1) := by decide +kernel
theorem dX6_shared_8 : decode cX6_shared 8 = .ok (.if_icmp .ge 44, 3) := by decide +kernel
theorem dX6_shared_11 : decode cX6_shared 11 = .ok (.aload_n 0, 1) := by decide +kernel
theorem dX6_shared_12 : decode cX6_shared 12 = .ok (.getfield 7, 3) := by decide +kernel
theorem dX6_shared_15 : decode cX6_shared 15 = .ok (.iconst 0, 1) := by decide +kernel
theorem dX6_shared_16 : decode cX6_shared 16 = .ok (.iload_n 1, 1) := by decide +kernel
theorem dX6_shared_17 : decode cX6_shared 17 = .ok (.iload_n 3, 1) := by decide +kernel
theorem dX6_shared_18 : decode cX6_shared 18 = .ok (.invokestatic 51, 3) := by decide +kernel
theorem dX6_shared_21 : decode cX6_shared 21 = .ok (.iadd, 1) := by decide +kernel
theorem dX6_shared_22 : decode cX6_shared 22 = .ok (.iaload, 1) := by decide +kernel
theorem dX6_shared_23 : decode cX6_shared 23 = .ok (.istore 4, 2) := by decide +kernel
theorem dX6_shared_25 : decode cX6_shared 25 = .ok (.iload_n 2, 1) := by decide +kernel
theorem dX6_shared_26 : decode cX6_shared 26 = .ok (.iload 4, 2) := by decide +kernel
theorem dX6_shared_28 : decode cX6_shared 28 = .ok (.ifCond .le 13, 3) := by decide +kernel
theorem dX6_shared_31 : decode cX6_shared 31 = .ok (.iload 4, 2) := by decide +kernel
theorem dX6_shared_33 : decode cX6_shared 33 = .ok (.iconst 1, 1) := by decide +kernel
theorem dX6_shared_34 : decode cX6_shared 34 = .ok (.isub, 1) := by decide +kernel
theorem dX6_shared_35 : decode cX6_shared 35 = .ok (.invokestatic 55, 3) := by decide +kernel
theorem dX6_shared_38 : decode cX6_shared 38 = .ok (.goto 6, 3) := by decide +kernel
theorem dX6_shared_41 : decode cX6_shared 41 = .ok (.sipush 255, 3) := by decide +kernel
theorem dX6_shared_44 : decode cX6_shared 44 = .ok (.iand, 1) := by decide +kernel
theorem dX6_shared_45 : decode cX6_shared 45 = .ok (.istore_n 2, 1) := by decide +kernel
theorem dX6_shared_46 : decode cX6_shared 46 = .ok (.iinc 3 1, 3) := by decide +kernel
theorem dX6_shared_49 : decode cX6_shared 49 = .ok (.goto (-43), 3) := by decide +kernel
theorem dX6_shared_52 : decode cX6_shared 52 = .ok (.iload_n 2, 1) := by decide +kernel
theorem dX6_shared_53 : decode cX6_shared 53 = .ok (.ireturn, 1) := by decide +kernel
set_option maxRecDepth 20000 in
theorem ggX6_won_X6_linesNow : GoodIn wsX6_won wsX6_linesNow := goodIn_r _ [5, 6, 21, 22, 23, 24, 25, 26, 27, 28, 29, 30, 31, 32, 33, 34, 35, 36, 37, 38] (by decide +kernel) (by decide +kernel)
set_option maxRecDepth 20000 in
theorem gX6_won_X6_linesNow : GoodIn wsX6_won (wsV RX6 59 RX6 yX6_linesNow wsX6_linesNow) := goodIn_app (goodIn_of _ (by decide +kernel)) ggX6_won_X6_linesNow
set_option maxRecDepth 20000 in
theorem ggX6_won_X6_many : GoodIn wsX6_won wsX6_many := goodIn_r _ [10, 6, 11, 12, 4, 13, 21, 22, 23, 24, 25, 26, 27, 28, 29, 30, 31, 32, 33, 34, 35, 36, 37, 38] (by decide +kernel) (by decide +kernel)
set_option maxRecDepth 20000 in
theorem gX6_won_X6_many : GoodIn wsX6_won (wsV RX6 62 RX6 yX6_many wsX6_many) := goodIn_app (goodIn_of _ (by decide +kernel)) ggX6_won_X6_many
set_option maxRecDepth 20000 in
theorem ggX6_won_X6_shared : GoodIn wsX6_won wsX6_shared := goodIn_r _ [17, 6, 11, 12, 4, 13, 18, 19, 20, 21, 22, 23, 24, 25, 26, 27, 28, 29, 30, 31, 32, 33, 34, 35, 36, 37, 38] (by decide +kernel) (by decide +kernel)
set_option maxRecDepth 20000 in
theorem gX6_won_X6_shared : GoodIn wsX6_won (wsV RX6 65 RX6 yX6_shared wsX6_shared) := goodIn_app (goodIn_of _ (by decide +kernel)) ggX6_won_X6_shared
theorem dX6_won_0 : decode cX6_won 0 = .ok (.iconst 0, 1) := by decide +kernel
theorem dX6_won_1 : decode cX6_won 1 = .ok (.istore_n 1, 1) := by decide +kernel
theorem dX6_won_2 : decode cX6_won 2 = .ok (.iconst 0, 1) := by decide +kernel
theorem dX6_won_3 : decode cX6_won 3 = .ok (.istore_n 2, 1) := by decide +kernel
theorem dX6_won_4 : decode cX6_won 4 = .ok (.iload_n 2, 1) := by decide +kernel
theorem dX6_won_5 : decode cX6_won 5 = .ok (.aload_n 0, 1) := by decide +kernel
theorem dX6_won_6 : decode cX6_won 6 = .ok (.invokevirtual 59, 3) := by decide +kernel
theorem dX6_won_9 : decode cX6_won 9 = .ok (.if_icmp .ge 34, 3) := by decide +kernel
theorem dX6_won_12 : decode cX6_won 12 = .ok (.iload_n 1, 1) := by decide +kernel
theorem dX6_won_13 : decode cX6_won 13 = .ok (.aload_n 0, 1) := by decide +kernel
theorem dX6_won_14 : decode cX6_won 14 = .ok (.iload_n 2, 1) := by decide +kernel
theorem dX6_won_15 : decode cX6_won 15 = .ok (.invokevirtual 62, 3) := by decide +kernel
theorem dX6_won_18 : decode cX6_won 18 = .ok (.iconst 4, 1) := by decide +kernel
theorem dX6_won_19 : decode cX6_won 19 = .ok (.if_icmp .ne 15, 3) := by decide +kernel
theorem dX6_won_22 : decode cX6_won 22 = .ok (.aload_n 0, 1) := by decide +kernel
theorem dX6_won_23 : decode cX6_won 23 = .ok (.iload_n 2, 1) := by decide +kernel
theorem dX6_won_24 : decode cX6_won 24 = .ok (.invokevirtual 65, 3) := by decide +kernel
theorem dX6_won_27 : decode cX6_won 27 = .ok (.ifCond .eq 7, 3) := by decide +kernel
theorem dX6_won_30 : decode cX6_won 30 = .ok (.iconst 1, 1) := by decide +kernel
theorem dX6_won_31 : decode cX6_won 31 = .ok (.goto 4, 3) := by decide +kernel
theorem dX6_won_34 : decode cX6_won 34 = .ok (.iconst 0, 1) := by decide +kernel
theorem dX6_won_35 : decode cX6_won 35 = .ok (.iadd, 1) := by decide +kernel
theorem dX6_won_36 : decode cX6_won 36 = .ok (.istore_n 1, 1) := by decide +kernel
theorem dX6_won_37 : decode cX6_won 37 = .ok (.iinc 2 1, 3) := by decide +kernel
theorem dX6_won_40 : decode cX6_won 40 = .ok (.goto (-36), 3) := by decide +kernel
theorem dX6_won_43 : decode cX6_won 43 = .ok (.iload_n 1, 1) := by decide +kernel
theorem dX6_won_44 : decode cX6_won 44 = .ok (.ireturn, 1) := by decide +kernel
set_option maxRecDepth 20000 in
theorem ggX6_wins_X6_won : GoodIn wsX6_wins wsX6_won := goodIn_r _ [6, 7, 8, 9, 5, 10, 1, 11, 12, 13, 14, 15, 16, 17, 18, 19, 20, 21, 22, 23, 24, 25, 26, 27, 28, 29, 30, 31, 32, 33, 34, 35, 36, 37, 38, 39, 40, 41, 42] (by decide +kernel) (by decide +kernel)
set_option maxRecDepth 20000 in
theorem gX6_wins_X6_won : GoodIn wsX6_wins (wsV RX6 68 RX6 yX6_won wsX6_won) := goodIn_app (goodIn_of _ (by decide +kernel)) ggX6_wins_X6_won
theorem dX6_wins_0 : decode cX6_wins 0 = .ok (.aload_n 0, 1) := by decide +kernel
theorem dX6_wins_1 : decode cX6_wins 1 = .ok (.getfield 7, 3) := by decide +kernel
theorem dX6_wins_4 : decode cX6_wins 4 = .ok (.iconst 0, 1) := by decide +kernel
theorem dX6_wins_5 : decode cX6_wins 5 = .ok (.iload_n 2, 1) := by decide +kernel
theorem dX6_wins_6 : decode cX6_wins 6 = .ok (.iadd, 1) := by decide +kernel
theorem dX6_wins_7 : decode cX6_wins 7 = .ok (.iload_n 1, 1) := by decide +kernel
theorem dX6_wins_8 : decode cX6_wins 8 = .ok (.iconst 1, 1) := by decide +kernel
theorem dX6_wins_9 : decode cX6_wins 9 = .ok (.iadd, 1) := by decide +kernel
theorem dX6_wins_10 : decode cX6_wins 10 = .ok (.iastore, 1) := by decide +kernel
theorem dX6_wins_11 : decode cX6_wins 11 = .ok (.aload_n 0, 1) := by decide +kernel
theorem dX6_wins_12 : decode cX6_wins 12 = .ok (.invokevirtual 68, 3) := by decide +kernel
theorem dX6_wins_15 : decode cX6_wins 15 = .ok (.ifCond .le 7, 3) := by decide +kernel
theorem dX6_wins_18 : decode cX6_wins 18 = .ok (.iconst 1, 1) := by decide +kernel
theorem dX6_wins_19 : decode cX6_wins 19 = .ok (.goto 4, 3) := by decide +kernel
theorem dX6_wins_22 : decode cX6_wins 22 = .ok (.iconst 0, 1) := by decide +kernel
theorem dX6_wins_23 : decode cX6_wins 23 = .ok (.istore_n 3, 1) := by decide +kernel
theorem dX6_wins_24 : decode cX6_wins 24 = .ok (.aload_n 0, 1) := by decide +kernel
theorem dX6_wins_25 : decode cX6_wins 25 = .ok (.getfield 7, 3) := by decide +kernel
theorem dX6_wins_28 : decode cX6_wins 28 = .ok (.iconst 0, 1) := by decide +kernel
theorem dX6_wins_29 : decode cX6_wins 29 = .ok (.iload_n 2, 1) := by decide +kernel
theorem dX6_wins_30 : decode cX6_wins 30 = .ok (.iadd, 1) := by decide +kernel
theorem dX6_wins_31 : decode cX6_wins 31 = .ok (.iconst 0, 1) := by decide +kernel
theorem dX6_wins_32 : decode cX6_wins 32 = .ok (.iastore, 1) := by decide +kernel
theorem dX6_wins_33 : decode cX6_wins 33 = .ok (.iload_n 3, 1) := by decide +kernel
theorem dX6_wins_34 : decode cX6_wins 34 = .ok (.ireturn, 1) := by decide +kernel
set_option maxRecDepth 20000 in
theorem ggX6_winning_X6_isOverNow : GoodIn wsX6_winning wsX6_isOverNow := goodIn_r _ [6, 1, 7, 8, 9, 5, 10, 41, 42, 43, 44, 45, 46, 47, 48, 49, 50, 51, 52, 53, 54, 55, 56, 57, 58] (by decide +kernel) (by decide +kernel)
set_option maxRecDepth 20000 in
theorem gX6_winning_X6_isOverNow : GoodIn wsX6_winning (wsV RX6 71 RX6 yX6_isOverNow wsX6_isOverNow) := goodIn_app (goodIn_of _ (by decide +kernel)) ggX6_winning_X6_isOverNow
set_option maxRecDepth 20000 in
theorem ggX6_winning_X6_cell : GoodIn wsX6_winning wsX6_cell := goodIn_r _ [14, 1, 41, 42, 43, 44, 45, 46, 47, 48, 49, 50, 51, 52, 53, 54, 55, 56, 57, 58] (by decide +kernel) (by decide +kernel)
set_option maxRecDepth 20000 in
theorem gX6_winning_X6_cell : GoodIn wsX6_winning (wsV RX6 75 RX6 yX6_cell wsX6_cell) := goodIn_app (goodIn_of _ (by decide +kernel)) ggX6_winning_X6_cell
set_option maxRecDepth 20000 in
theorem ggX6_winning_X6_wins : GoodIn wsX6_winning wsX6_wins := goodIn_r _ [18, 1, 19, 20, 21, 5, 22, 23, 24, 25, 26, 27, 28, 29, 30, 31, 32, 33, 34, 35, 36, 37, 38, 39, 40, 41, 42, 43, 44, 45, 46, 47, 48, 49, 50, 51, 52, 53, 54, 55, 56, 57, 58] (by decide +kernel) (by decide +kernel)
set_option maxRecDepth 20000 in
theorem gX6_winning_X6_wins : GoodIn wsX6_winning (wsV RX6 78 RX6 yX6_wins wsX6_wins) := goodIn_app (goodIn_of _ (by decide +kernel)) ggX6_winning_X6_wins
theorem dX6_winning_0 : decode cX6_winning 0 = .ok (.iconst 0, 1) := by decide +kernel
theorem dX6_winning_1 : decode cX6_winning 1 = .ok (.istore_n 2, 1) := by decide +kernel
theorem dX6_winning_2 : decode cX6_winning 2 = .ok (.iload_n 2, 1) := by decide +kernel
theorem dX6_winning_3 : decode cX6_winning 3 = .ok (.bipush 16, 2) := by decide +kernel
theorem dX6_winning_5 : decode cX6_winning 5 = .ok (.if_icmp .ge 47, 3) := by decide +kernel
theorem dX6_winning_8 : decode cX6_winning 8 = .ok (.aload_n 0, 1) := by decide +kernel
theorem dX6_winning_9 : decode cX6_winning 9 = .ok (.invokevirtual 71, 3) := by decide +kernel
theorem dX6_winning_12 : decode cX6_winning 12 = .ok (.ifCond .ne 40, 3) := by decide +kernel
theorem dX6_winning_15 : decode cX6_winning 15 = .ok (.aload_n 0, 1) := by decide +kernel
theorem dX6_winning_16 : decode cX6_winning 16 = .ok (.iload_n 1, 1) := by decide +kernel
theorem dX6_winning_17 : decode cX6_winning 17 = .ok (.invokevirtual 75, 3) := by decide +kernel
theorem dX6_winning_20 : decode cX6_winning 20 = .ok (.iconst (-1), 1) := by decide +kernel
theorem dX6_winning_21 : decode cX6_winning 21 = .ok (.if_icmp .ne 31, 3) := by decide +kernel
theorem dX6_winning_24 : decode cX6_winning 24 = .ok (.aload_n 0, 1) := by decide +kernel
theorem dX6_winning_25 : decode cX6_winning 25 = .ok (.getfield 7, 3) := by decide +kernel
theorem dX6_winning_28 : decode cX6_winning 28 = .ok (.iconst 0, 1) := by decide +kernel
theorem dX6_winning_29 : decode cX6_winning 29 = .ok (.iload_n 2, 1) := by decide +kernel
theorem dX6_winning_30 : decode cX6_winning 30 = .ok (.iadd, 1) := by decide +kernel
theorem dX6_winning_31 : decode cX6_winning 31 = .ok (.iaload, 1) := by decide +kernel
theorem dX6_winning_32 : decode cX6_winning 32 = .ok (.ifCond .ne 14, 3) := by decide +kernel
theorem dX6_winning_35 : decode cX6_winning 35 = .ok (.aload_n 0, 1) := by decide +kernel
theorem dX6_winning_36 : decode cX6_winning 36 = .ok (.iload_n 1, 1) := by decide +kernel
theorem dX6_winning_37 : decode cX6_winning 37 = .ok (.iload_n 2, 1) := by decide +kernel
theorem dX6_winning_38 : decode cX6_winning 38 = .ok (.invokevirtual 78, 3) := by decide +kernel
theorem dX6_winning_41 : decode cX6_winning 41 = .ok (.ifCond .eq 5, 3) := by decide +kernel
theorem dX6_winning_44 : decode cX6_winning 44 = .ok (.iload_n 2, 1) := by decide +kernel
theorem dX6_winning_45 : decode cX6_winning 45 = .ok (.ireturn, 1) := by decide +kernel
theorem dX6_winning_46 : decode cX6_winning 46 = .ok (.iinc 2 1, 3) := by decide +kernel
theorem dX6_winning_49 : decode cX6_winning 49 = .ok (.goto (-47), 3) := by decide +kernel
theorem dX6_winning_52 : decode cX6_winning 52 = .ok (.iconst (-1), 1) := by decide +kernel
theorem dX6_winning_53 : decode cX6_winning 53 = .ok (.ireturn, 1) := by decide +kernel
set_option maxRecDepth 20000 in
theorem ggX6_canGive_X6_isOverNow : GoodIn wsX6_canGive wsX6_isOverNow := goodIn_r _ [6, 1, 7, 8, 9, 5, 10, 15, 16, 17, 18, 19, 20, 21, 22, 23, 24, 25, 26, 27, 28, 29, 30, 31, 32] (by decide +kernel) (by decide +kernel)
set_option maxRecDepth 20000 in
theorem gX6_canGive_X6_isOverNow : GoodIn wsX6_canGive (wsV RX6 71 RX6 yX6_isOverNow wsX6_isOverNow) := goodIn_app (goodIn_of _ (by decide +kernel)) ggX6_canGive_X6_isOverNow
set_option maxRecDepth 20000 in
theorem ggX6_canGive_X6_cell : GoodIn wsX6_canGive wsX6_cell := goodIn_r _ [14, 1, 15, 16, 17, 18, 19, 20, 21, 22, 23, 24, 25, 26, 27, 28, 29, 30, 31, 32] (by decide +kernel) (by decide +kernel)
set_option maxRecDepth 20000 in
theorem gX6_canGive_X6_cell : GoodIn wsX6_canGive (wsV RX6 75 RX6 yX6_cell wsX6_cell) := goodIn_app (goodIn_of _ (by decide +kernel)) ggX6_canGive_X6_cell
theorem dX6_canGive_0 : decode cX6_canGive 0 = .ok (.aload_n 0, 1) := by decide +kernel
theorem dX6_canGive_1 : decode cX6_canGive 1 = .ok (.invokevirtual 71, 3) := by decide +kernel
theorem dX6_canGive_4 : decode cX6_canGive 4 = .ok (.ifCond .ne 26, 3) := by decide +kernel
theorem dX6_canGive_7 : decode cX6_canGive 7 = .ok (.aload_n 0, 1) := by decide +kernel
theorem dX6_canGive_8 : decode cX6_canGive 8 = .ok (.getfield 7, 3) := by decide +kernel
theorem dX6_canGive_11 : decode cX6_canGive 11 = .ok (.bipush 16, 2) := by decide +kernel
theorem dX6_canGive_13 : decode cX6_canGive 13 = .ok (.iaload, 1) := by decide +kernel
theorem dX6_canGive_14 : decode cX6_canGive 14 = .ok (.ifCond .ne 16, 3) := by decide +kernel
theorem dX6_canGive_17 : decode cX6_canGive 17 = .ok (.aload_n 0, 1) := by decide +kernel
theorem dX6_canGive_18 : decode cX6_canGive 18 = .ok (.iload_n 1, 1) := by decide +kernel
theorem dX6_canGive_19 : decode cX6_canGive 19 = .ok (.invokevirtual 75, 3) := by decide +kernel
theorem dX6_canGive_22 : decode cX6_canGive 22 = .ok (.iconst (-1), 1) := by decide +kernel
theorem dX6_canGive_23 : decode cX6_canGive 23 = .ok (.if_icmp .ne 7, 3) := by decide +kernel
theorem dX6_canGive_26 : decode cX6_canGive 26 = .ok (.iconst 1, 1) := by decide +kernel
theorem dX6_canGive_27 : decode cX6_canGive 27 = .ok (.goto 4, 3) := by decide +kernel
theorem dX6_canGive_30 : decode cX6_canGive 30 = .ok (.iconst 0, 1) := by decide +kernel
theorem dX6_canGive_31 : decode cX6_canGive 31 = .ok (.ireturn, 1) := by decide +kernel
theorem dX6_canPlace_0 : decode cX6_canPlace 0 = .ok (.aload_n 0, 1) := by decide +kernel
theorem dX6_canPlace_1 : decode cX6_canPlace 1 = .ok (.getfield 7, 3) := by decide +kernel
theorem dX6_canPlace_4 : decode cX6_canPlace 4 = .ok (.bipush 16, 2) := by decide +kernel
theorem dX6_canPlace_6 : decode cX6_canPlace 6 = .ok (.iaload, 1) := by decide +kernel
theorem dX6_canPlace_7 : decode cX6_canPlace 7 = .ok (.ifCond .le 18, 3) := by decide +kernel
theorem dX6_canPlace_10 : decode cX6_canPlace 10 = .ok (.aload_n 0, 1) := by decide +kernel
theorem dX6_canPlace_11 : decode cX6_canPlace 11 = .ok (.getfield 7, 3) := by decide +kernel
theorem dX6_canPlace_14 : decode cX6_canPlace 14 = .ok (.iconst 0, 1) := by decide +kernel
theorem dX6_canPlace_15 : decode cX6_canPlace 15 = .ok (.iload_n 1, 1) := by decide +kernel
theorem dX6_canPlace_16 : decode cX6_canPlace 16 = .ok (.iadd, 1) := by decide +kernel
theorem dX6_canPlace_17 : decode cX6_canPlace 17 = .ok (.iaload, 1) := by decide +kernel
theorem dX6_canPlace_18 : decode cX6_canPlace 18 = .ok (.ifCond .ne 7, 3) := by decide +kernel
theorem dX6_canPlace_21 : decode cX6_canPlace 21 = .ok (.iconst 1, 1) := by decide +kernel
theorem dX6_canPlace_22 : decode cX6_canPlace 22 = .ok (.goto 4, 3) := by decide +kernel
theorem dX6_canPlace_25 : decode cX6_canPlace 25 = .ok (.iconst 0, 1) := by decide +kernel
theorem dX6_canPlace_26 : decode cX6_canPlace 26 = .ok (.ireturn, 1) := by decide +kernel
set_option maxRecDepth 20000 in
theorem ggX6_gives_X6_mover : GoodIn wsX6_gives wsX6_mover := goodIn_r _ [6, 1, 7, 8, 9, 5, 10, 11, 12, 13, 14, 15, 16, 17, 18, 19, 20, 21, 22, 23, 24, 25, 26, 27, 28] (by decide +kernel) (by decide +kernel)
set_option maxRecDepth 20000 in
theorem gX6_gives_X6_mover : GoodIn wsX6_gives (wsV RX6 82 RX6 yX6_mover wsX6_mover) := goodIn_app (goodIn_of _ (by decide +kernel)) ggX6_gives_X6_mover
theorem dX6_gives_0 : decode cX6_gives 0 = .ok (.aload_n 0, 1) := by decide +kernel
theorem dX6_gives_1 : decode cX6_gives 1 = .ok (.getfield 7, 3) := by decide +kernel
theorem dX6_gives_4 : decode cX6_gives 4 = .ok (.bipush 16, 2) := by decide +kernel
theorem dX6_gives_6 : decode cX6_gives 6 = .ok (.iload_n 1, 1) := by decide +kernel
theorem dX6_gives_7 : decode cX6_gives 7 = .ok (.iconst 1, 1) := by decide +kernel
theorem dX6_gives_8 : decode cX6_gives 8 = .ok (.iadd, 1) := by decide +kernel
theorem dX6_gives_9 : decode cX6_gives 9 = .ok (.iastore, 1) := by decide +kernel
theorem dX6_gives_10 : decode cX6_gives 10 = .ok (.aload_n 0, 1) := by decide +kernel
theorem dX6_gives_11 : decode cX6_gives 11 = .ok (.invokevirtual 82, 3) := by decide +kernel
theorem dX6_gives_14 : decode cX6_gives 14 = .ok (.ireturn, 1) := by decide +kernel
set_option maxRecDepth 20000 in
theorem ggX6_places_X6_mover : GoodIn wsX6_places wsX6_mover := goodIn_r _ [6, 1, 7, 8, 9, 5, 10, 33, 34, 35, 36, 37, 38, 39, 40, 41, 42, 43, 44, 45, 46, 47, 48, 49, 50] (by decide +kernel) (by decide +kernel)
set_option maxRecDepth 20000 in
theorem gX6_places_X6_mover : GoodIn wsX6_places (wsV RX6 82 RX6 yX6_mover wsX6_mover) := goodIn_app (goodIn_of _ (by decide +kernel)) ggX6_places_X6_mover
set_option maxRecDepth 20000 in
theorem ggX6_places_X6_won : GoodIn wsX6_places wsX6_won := goodIn_r _ [14, 15, 16, 17, 5, 18, 1, 19, 20, 21, 22, 23, 24, 25, 26, 27, 28, 29, 30, 31, 32, 33, 34, 35, 36, 37, 38, 39, 40, 41, 42, 43, 44, 45, 46, 47, 48, 49, 50] (by decide +kernel) (by decide +kernel)
set_option maxRecDepth 20000 in
theorem gX6_places_X6_won : GoodIn wsX6_places (wsV RX6 68 RX6 yX6_won wsX6_won) := goodIn_app (goodIn_of _ (by decide +kernel)) ggX6_places_X6_won
theorem dX6_places_0 : decode cX6_places 0 = .ok (.aload_n 0, 1) := by decide +kernel
theorem dX6_places_1 : decode cX6_places 1 = .ok (.invokevirtual 82, 3) := by decide +kernel
theorem dX6_places_4 : decode cX6_places 4 = .ok (.istore_n 2, 1) := by decide +kernel
theorem dX6_places_5 : decode cX6_places 5 = .ok (.aload_n 0, 1) := by decide +kernel
theorem dX6_places_6 : decode cX6_places 6 = .ok (.getfield 7, 3) := by decide +kernel
theorem dX6_places_9 : decode cX6_places 9 = .ok (.iconst 0, 1) := by decide +kernel
theorem dX6_places_10 : decode cX6_places 10 = .ok (.iload_n 1, 1) := by decide +kernel
theorem dX6_places_11 : decode cX6_places 11 = .ok (.iadd, 1) := by decide +kernel
theorem dX6_places_12 : decode cX6_places 12 = .ok (.aload_n 0, 1) := by decide +kernel
theorem dX6_places_13 : decode cX6_places 13 = .ok (.getfield 7, 3) := by decide +kernel
theorem dX6_places_16 : decode cX6_places 16 = .ok (.bipush 16, 2) := by decide +kernel
theorem dX6_places_18 : decode cX6_places 18 = .ok (.iaload, 1) := by decide +kernel
theorem dX6_places_19 : decode cX6_places 19 = .ok (.iastore, 1) := by decide +kernel
theorem dX6_places_20 : decode cX6_places 20 = .ok (.aload_n 0, 1) := by decide +kernel
theorem dX6_places_21 : decode cX6_places 21 = .ok (.getfield 7, 3) := by decide +kernel
theorem dX6_places_24 : decode cX6_places 24 = .ok (.bipush 16, 2) := by decide +kernel
theorem dX6_places_26 : decode cX6_places 26 = .ok (.iconst 0, 1) := by decide +kernel
theorem dX6_places_27 : decode cX6_places 27 = .ok (.iastore, 1) := by decide +kernel
theorem dX6_places_28 : decode cX6_places 28 = .ok (.aload_n 0, 1) := by decide +kernel
theorem dX6_places_29 : decode cX6_places 29 = .ok (.invokevirtual 68, 3) := by decide +kernel
theorem dX6_places_32 : decode cX6_places 32 = .ok (.ifCond .le 7, 3) := by decide +kernel
theorem dX6_places_35 : decode cX6_places 35 = .ok (.iconst 1, 1) := by decide +kernel
theorem dX6_places_36 : decode cX6_places 36 = .ok (.goto 4, 3) := by decide +kernel
theorem dX6_places_39 : decode cX6_places 39 = .ok (.iconst 0, 1) := by decide +kernel
theorem dX6_places_40 : decode cX6_places 40 = .ok (.istore_n 3, 1) := by decide +kernel
theorem dX6_places_41 : decode cX6_places 41 = .ok (.aload_n 0, 1) := by decide +kernel
theorem dX6_places_42 : decode cX6_places 42 = .ok (.getfield 7, 3) := by decide +kernel
theorem dX6_places_45 : decode cX6_places 45 = .ok (.bipush 18, 2) := by decide +kernel
theorem dX6_places_47 : decode cX6_places 47 = .ok (.iload_n 2, 1) := by decide +kernel
theorem dX6_places_48 : decode cX6_places 48 = .ok (.iadd, 1) := by decide +kernel
theorem dX6_places_49 : decode cX6_places 49 = .ok (.dup2, 1) := by decide +kernel
theorem dX6_places_50 : decode cX6_places 50 = .ok (.iaload, 1) := by decide +kernel
theorem dX6_places_51 : decode cX6_places 51 = .ok (.iload_n 3, 1) := by decide +kernel
theorem dX6_places_52 : decode cX6_places 52 = .ok (.ifCond .eq 7, 3) := by decide +kernel
theorem dX6_places_55 : decode cX6_places 55 = .ok (.iconst 1, 1) := by decide +kernel
theorem dX6_places_56 : decode cX6_places 56 = .ok (.goto 4, 3) := by decide +kernel
theorem dX6_places_59 : decode cX6_places 59 = .ok (.iconst 0, 1) := by decide +kernel
theorem dX6_places_60 : decode cX6_places 60 = .ok (.iadd, 1) := by decide +kernel
theorem dX6_places_61 : decode cX6_places 61 = .ok (.iastore, 1) := by decide +kernel
theorem dX6_places_62 : decode cX6_places 62 = .ok (.aload_n 0, 1) := by decide +kernel
theorem dX6_places_63 : decode cX6_places 63 = .ok (.getfield 7, 3) := by decide +kernel
theorem dX6_places_66 : decode cX6_places 66 = .ok (.bipush 20, 2) := by decide +kernel
theorem dX6_places_68 : decode cX6_places 68 = .ok (.iload_n 3, 1) := by decide +kernel
theorem dX6_places_69 : decode cX6_places 69 = .ok (.ifCond .eq 9, 3) := by decide +kernel
theorem dX6_places_72 : decode cX6_places 72 = .ok (.iload_n 2, 1) := by decide +kernel
theorem dX6_places_73 : decode cX6_places 73 = .ok (.iconst 1, 1) := by decide +kernel
theorem dX6_places_74 : decode cX6_places 74 = .ok (.iadd, 1) := by decide +kernel
theorem dX6_places_75 : decode cX6_places 75 = .ok (.goto 4, 3) := by decide +kernel
theorem dX6_places_78 : decode cX6_places 78 = .ok (.iconst 0, 1) := by decide +kernel
theorem dX6_places_79 : decode cX6_places 79 = .ok (.iastore, 1) := by decide +kernel
theorem dX6_places_80 : decode cX6_places 80 = .ok (.iload_n 3, 1) := by decide +kernel
theorem dX6_places_81 : decode cX6_places 81 = .ok (.ireturn, 1) := by decide +kernel
set_option maxRecDepth 20000 in
theorem ggX6_give_X6_isPlace : GoodIn wsX6_give wsX6_isPlace := goodIn_r _ [4, 5, 6, 7, 3, 8] (by decide +kernel) (by decide +kernel)
set_option maxRecDepth 20000 in
theorem gX6_give_X6_isPlace : GoodIn wsX6_give (va_wsS RX6 85 yX6_isPlace wsX6_isPlace) := goodIn_app (goodIn_of _ (by decide +kernel)) ggX6_give_X6_isPlace
set_option maxRecDepth 20000 in
theorem ggX6_give_X6_fails : GoodIn wsX6_give wsX6_fails := goodIn_r _ [12, 13, 45, 46, 47, 48, 49, 50, 51, 52, 53, 54, 55, 56, 57, 58, 59, 60, 61, 62] (by decide +kernel) (by decide +kernel)
set_option maxRecDepth 20000 in
theorem gX6_give_X6_fails : GoodIn wsX6_give (wsV RX6 89 RX6 yX6_fails wsX6_fails) := goodIn_app (goodIn_of _ (by decide +kernel)) ggX6_give_X6_fails
set_option maxRecDepth 20000 in
theorem ggX6_give_X6_canGive : GoodIn wsX6_give wsX6_canGive := goodIn_r _ [17, 18, 19, 20, 21, 3, 22, 23, 24, 25, 26, 27, 28, 29, 30, 45, 46, 47, 48, 49, 50, 51, 52, 53, 54, 55, 56, 57, 58, 59, 60, 61, 62] (by decide +kernel) (by decide +kernel)
set_option maxRecDepth 20000 in
theorem gX6_give_X6_canGive : GoodIn wsX6_give (wsV RX6 92 RX6 yX6_canGive wsX6_canGive) := goodIn_app (goodIn_of _ (by decide +kernel)) ggX6_give_X6_canGive
set_option maxRecDepth 20000 in
theorem ggX6_give_X6_records : GoodIn wsX6_give wsX6_records := goodIn_r _ [34, 13, 35, 36, 18, 45, 46, 47, 48, 49, 50, 51, 52, 53, 54, 55, 56, 57, 58, 59, 60, 61, 62] (by decide +kernel) (by decide +kernel)
set_option maxRecDepth 20000 in
theorem gX6_give_X6_records : GoodIn wsX6_give (wsV RX6 95 RX6 yX6_records wsX6_records) := goodIn_app (goodIn_of _ (by decide +kernel)) ggX6_give_X6_records
set_option maxRecDepth 20000 in
theorem ggX6_give_X6_gives : GoodIn wsX6_give wsX6_gives := goodIn_r _ [40, 18, 41, 42, 43, 3, 44, 23, 24, 25, 26, 45, 46, 47, 48, 49, 50, 51, 52, 53, 54, 55, 56, 57, 58, 59, 60, 61, 62] (by decide +kernel) (by decide +kernel)
set_option maxRecDepth 20000 in
theorem gX6_give_X6_gives : GoodIn wsX6_give (wsV RX6 98 RX6 yX6_gives wsX6_gives) := goodIn_app (goodIn_of _ (by decide +kernel)) ggX6_give_X6_gives
theorem dX6_give_0 : decode cX6_give 0 = .ok (.iload_n 1, 1) := by decide +kernel
theorem dX6_give_1 : decode cX6_give 1 = .ok (.invokestatic 85, 3) := by decide +kernel
theorem dX6_give_4 : decode cX6_give 4 = .ok (.ifCond .ne 9, 3) := by decide +kernel
theorem dX6_give_7 : decode cX6_give 7 = .ok (.aload_n 0, 1) := by decide +kernel
theorem dX6_give_8 : decode cX6_give 8 = .ok (.iconst 1, 1) := by decide +kernel
theorem dX6_give_9 : decode cX6_give 9 = .ok (.invokevirtual 89, 3) := by decide +kernel
theorem dX6_give_12 : decode cX6_give 12 = .ok (.ireturn, 1) := by decide +kernel
theorem dX6_give_13 : decode cX6_give 13 = .ok (.aload_n 0, 1) := by decide +kernel
theorem dX6_give_14 : decode cX6_give 14 = .ok (.iload_n 1, 1) := by decide +kernel
theorem dX6_give_15 : decode cX6_give 15 = .ok (.invokevirtual 92, 3) := by decide +kernel
theorem dX6_give_18 : decode cX6_give 18 = .ok (.ifCond .ne 9, 3) := by decide +kernel
theorem dX6_give_21 : decode cX6_give 21 = .ok (.aload_n 0, 1) := by decide +kernel
theorem dX6_give_22 : decode cX6_give 22 = .ok (.iconst 2, 1) := by decide +kernel
theorem dX6_give_23 : decode cX6_give 23 = .ok (.invokevirtual 89, 3) := by decide +kernel
theorem dX6_give_26 : decode cX6_give 26 = .ok (.ireturn, 1) := by decide +kernel
theorem dX6_give_27 : decode cX6_give 27 = .ok (.aload_n 0, 1) := by decide +kernel
theorem dX6_give_28 : decode cX6_give 28 = .ok (.invokevirtual 95, 3) := by decide +kernel
theorem dX6_give_31 : decode cX6_give 31 = .ok (.aload_n 0, 1) := by decide +kernel
theorem dX6_give_32 : decode cX6_give 32 = .ok (.iload_n 1, 1) := by decide +kernel
theorem dX6_give_33 : decode cX6_give 33 = .ok (.invokevirtual 98, 3) := by decide +kernel
theorem dX6_give_36 : decode cX6_give 36 = .ok (.ireturn, 1) := by decide +kernel
set_option maxRecDepth 20000 in
theorem ggX6_place_X6_isPlace : GoodIn wsX6_place wsX6_isPlace := goodIn_r _ [5, 6, 7, 8, 4, 9] (by decide +kernel) (by decide +kernel)
set_option maxRecDepth 20000 in
theorem gX6_place_X6_isPlace : GoodIn wsX6_place (va_wsS RX6 85 yX6_isPlace wsX6_isPlace) := goodIn_app (goodIn_of _ (by decide +kernel)) ggX6_place_X6_isPlace
set_option maxRecDepth 20000 in
theorem ggX6_place_X6_canPlace : GoodIn wsX6_place wsX6_canPlace := goodIn_r _ [13, 14, 55, 56, 57, 58, 59, 60, 61, 62, 63, 64, 65, 66, 67, 68, 69, 70, 71, 72] (by decide +kernel) (by decide +kernel)
set_option maxRecDepth 20000 in
theorem gX6_place_X6_canPlace : GoodIn wsX6_place (wsV RX6 101 RX6 yX6_canPlace wsX6_canPlace) := goodIn_app (goodIn_of _ (by decide +kernel)) ggX6_place_X6_canPlace
set_option maxRecDepth 20000 in
theorem ggX6_place_X6_records : GoodIn wsX6_place wsX6_records := goodIn_r _ [18, 1, 19, 20, 14, 55, 56, 57, 58, 59, 60, 61, 62, 63, 64, 65, 66, 67, 68, 69, 70, 71, 72] (by decide +kernel) (by decide +kernel)
set_option maxRecDepth 20000 in
theorem gX6_place_X6_records : GoodIn wsX6_place (wsV RX6 95 RX6 yX6_records wsX6_records) := goodIn_app (goodIn_of _ (by decide +kernel)) ggX6_place_X6_records
set_option maxRecDepth 20000 in
theorem ggX6_place_X6_places : GoodIn wsX6_place wsX6_places := goodIn_r _ [24, 14, 25, 26, 27, 4, 28, 29, 30, 31, 32, 33, 34, 35, 36, 37, 38, 39, 40, 41, 42, 43, 44, 45, 46, 47, 48, 49, 50, 51, 52, 53, 54, 55, 56, 57, 58, 59, 60, 61, 62, 63, 64, 65, 66, 67, 68, 69, 70, 71, 72] (by decide +kernel) (by decide +kernel)
set_option maxRecDepth 20000 in
theorem gX6_place_X6_places : GoodIn wsX6_place (wsV RX6 104 RX6 yX6_places wsX6_places) := goodIn_app (goodIn_of _ (by decide +kernel)) ggX6_place_X6_places
theorem dX6_place_0 : decode cX6_place 0 = .ok (.aload_n 0, 1) := by decide +kernel
theorem dX6_place_1 : decode cX6_place 1 = .ok (.iload_n 1, 1) := by decide +kernel
theorem dX6_place_2 : decode cX6_place 2 = .ok (.invokestatic 85, 3) := by decide +kernel
theorem dX6_place_5 : decode cX6_place 5 = .ok (.ifCond .ne 7, 3) := by decide +kernel
theorem dX6_place_8 : decode cX6_place 8 = .ok (.iconst 1, 1) := by decide +kernel
theorem dX6_place_9 : decode cX6_place 9 = .ok (.goto 16, 3) := by decide +kernel
theorem dX6_place_12 : decode cX6_place 12 = .ok (.aload_n 0, 1) := by decide +kernel
theorem dX6_place_13 : decode cX6_place 13 = .ok (.iload_n 1, 1) := by decide +kernel
theorem dX6_place_14 : decode cX6_place 14 = .ok (.invokevirtual 101, 3) := by decide +kernel
theorem dX6_place_17 : decode cX6_place 17 = .ok (.ifCond .eq 7, 3) := by decide +kernel
theorem dX6_place_20 : decode cX6_place 20 = .ok (.iconst 0, 1) := by decide +kernel
theorem dX6_place_21 : decode cX6_place 21 = .ok (.goto 4, 3) := by decide +kernel
theorem dX6_place_24 : decode cX6_place 24 = .ok (.iconst 2, 1) := by decide +kernel
theorem dX6_place_25 : decode cX6_place 25 = .ok (.putfield 34, 3) := by decide +kernel
theorem dX6_place_28 : decode cX6_place 28 = .ok (.aload_n 0, 1) := by decide +kernel
theorem dX6_place_29 : decode cX6_place 29 = .ok (.getfield 34, 3) := by decide +kernel
theorem dX6_place_32 : decode cX6_place 32 = .ok (.ifCond .eq 5, 3) := by decide +kernel
theorem dX6_place_35 : decode cX6_place 35 = .ok (.iconst 0, 1) := by decide +kernel
theorem dX6_place_36 : decode cX6_place 36 = .ok (.ireturn, 1) := by decide +kernel
theorem dX6_place_37 : decode cX6_place 37 = .ok (.aload_n 0, 1) := by decide +kernel
theorem dX6_place_38 : decode cX6_place 38 = .ok (.invokevirtual 95, 3) := by decide +kernel
theorem dX6_place_41 : decode cX6_place 41 = .ok (.aload_n 0, 1) := by decide +kernel
theorem dX6_place_42 : decode cX6_place 42 = .ok (.iload_n 1, 1) := by decide +kernel
theorem dX6_place_43 : decode cX6_place 43 = .ok (.invokevirtual 104, 3) := by decide +kernel
theorem dX6_place_46 : decode cX6_place 46 = .ok (.ireturn, 1) := by decide +kernel
set_option maxRecDepth 20000 in
theorem ggX6_restart_X6_in : GoodIn wsX6_restart wsX6_in := goodIn_r _ [5] (by decide +kernel) (by decide +kernel)
set_option maxRecDepth 20000 in
theorem gX6_restart_X6_in : GoodIn wsX6_restart (va_wsS RX6 43 yX6_in wsX6_in) := goodIn_app (goodIn_of _ (by decide +kernel)) ggX6_restart_X6_in
set_option maxRecDepth 20000 in
theorem ggX6_restart_X6_fails : GoodIn wsX6_restart wsX6_fails := goodIn_r _ [9, 10, 21, 22, 23, 24, 25, 26, 27, 28, 29, 30, 31, 32, 33, 34, 35, 36, 37, 38] (by decide +kernel) (by decide +kernel)
set_option maxRecDepth 20000 in
theorem gX6_restart_X6_fails : GoodIn wsX6_restart (wsV RX6 89 RX6 yX6_fails wsX6_fails) := goodIn_app (goodIn_of _ (by decide +kernel)) ggX6_restart_X6_fails
set_option maxRecDepth 20000 in
theorem ggX6_restart_X6_records : GoodIn wsX6_restart wsX6_records := goodIn_r _ [14, 10, 15, 16, 1, 21, 22, 23, 24, 25, 26, 27, 28, 29, 30, 31, 32, 33, 34, 35, 36, 37, 38] (by decide +kernel) (by decide +kernel)
set_option maxRecDepth 20000 in
theorem gX6_restart_X6_records : GoodIn wsX6_restart (wsV RX6 95 RX6 yX6_records wsX6_records) := goodIn_app (goodIn_of _ (by decide +kernel)) ggX6_restart_X6_records
set_option maxRecDepth 20000 in
theorem ggX6_restart_X6_count : GoodIn wsX6_restart wsX6_count := goodIn_r _ [20, 1, 21, 22, 23, 24, 25, 26, 27, 28, 29, 30, 31, 32, 33, 34, 35, 36, 37, 38] (by decide +kernel) (by decide +kernel)
set_option maxRecDepth 20000 in
theorem gX6_restart_X6_count : GoodIn wsX6_restart (wsV RX6 47 RX6 yX6_count wsX6_count) := goodIn_app (goodIn_of _ (by decide +kernel)) ggX6_restart_X6_count
theorem dX6_restart_0 : decode cX6_restart 0 = .ok (.iload_n 1, 1) := by decide +kernel
theorem dX6_restart_1 : decode cX6_restart 1 = .ok (.i2l, 1) := by decide +kernel
theorem dX6_restart_2 : decode cX6_restart 2 = .ok (.lconst 0, 1) := by decide +kernel
theorem dX6_restart_3 : decode cX6_restart 3 = .ok (.lconst 1, 1) := by decide +kernel
theorem dX6_restart_4 : decode cX6_restart 4 = .ok (.invokestatic 43, 3) := by decide +kernel
theorem dX6_restart_7 : decode cX6_restart 7 = .ok (.ifCond .ne 9, 3) := by decide +kernel
theorem dX6_restart_10 : decode cX6_restart 10 = .ok (.aload_n 0, 1) := by decide +kernel
theorem dX6_restart_11 : decode cX6_restart 11 = .ok (.iconst 1, 1) := by decide +kernel
theorem dX6_restart_12 : decode cX6_restart 12 = .ok (.invokevirtual 89, 3) := by decide +kernel
theorem dX6_restart_15 : decode cX6_restart 15 = .ok (.ireturn, 1) := by decide +kernel
theorem dX6_restart_16 : decode cX6_restart 16 = .ok (.aload_n 0, 1) := by decide +kernel
theorem dX6_restart_17 : decode cX6_restart 17 = .ok (.invokevirtual 95, 3) := by decide +kernel
theorem dX6_restart_20 : decode cX6_restart 20 = .ok (.aload_n 0, 1) := by decide +kernel
theorem dX6_restart_21 : decode cX6_restart 21 = .ok (.invokevirtual 47, 3) := by decide +kernel
theorem dX6_restart_24 : decode cX6_restart 24 = .ok (.istore_n 2, 1) := by decide +kernel
theorem dX6_restart_25 : decode cX6_restart 25 = .ok (.iconst 0, 1) := by decide +kernel
theorem dX6_restart_26 : decode cX6_restart 26 = .ok (.istore_n 3, 1) := by decide +kernel
theorem dX6_restart_27 : decode cX6_restart 27 = .ok (.iload_n 3, 1) := by decide +kernel
theorem dX6_restart_28 : decode cX6_restart 28 = .ok (.bipush 16, 2) := by decide +kernel
theorem dX6_restart_30 : decode cX6_restart 30 = .ok (.if_icmp .gt 16, 3) := by decide +kernel
theorem dX6_restart_33 : decode cX6_restart 33 = .ok (.aload_n 0, 1) := by decide +kernel
theorem dX6_restart_34 : decode cX6_restart 34 = .ok (.getfield 7, 3) := by decide +kernel
theorem dX6_restart_37 : decode cX6_restart 37 = .ok (.iload_n 3, 1) := by decide +kernel
theorem dX6_restart_38 : decode cX6_restart 38 = .ok (.iconst 0, 1) := by decide +kernel
theorem dX6_restart_39 : decode cX6_restart 39 = .ok (.iastore, 1) := by decide +kernel
theorem dX6_restart_40 : decode cX6_restart 40 = .ok (.iinc 3 1, 3) := by decide +kernel
theorem dX6_restart_43 : decode cX6_restart 43 = .ok (.goto (-16), 3) := by decide +kernel
theorem dX6_restart_46 : decode cX6_restart 46 = .ok (.aload_n 0, 1) := by decide +kernel
theorem dX6_restart_47 : decode cX6_restart 47 = .ok (.getfield 7, 3) := by decide +kernel
theorem dX6_restart_50 : decode cX6_restart 50 = .ok (.bipush 17, 2) := by decide +kernel
theorem dX6_restart_52 : decode cX6_restart 52 = .ok (.iload_n 1, 1) := by decide +kernel
theorem dX6_restart_53 : decode cX6_restart 53 = .ok (.iastore, 1) := by decide +kernel
theorem dX6_restart_54 : decode cX6_restart 54 = .ok (.aload_n 0, 1) := by decide +kernel
theorem dX6_restart_55 : decode cX6_restart 55 = .ok (.getfield 7, 3) := by decide +kernel
theorem dX6_restart_58 : decode cX6_restart 58 = .ok (.bipush 20, 2) := by decide +kernel
theorem dX6_restart_60 : decode cX6_restart 60 = .ok (.iconst 0, 1) := by decide +kernel
theorem dX6_restart_61 : decode cX6_restart 61 = .ok (.iastore, 1) := by decide +kernel
theorem dX6_restart_62 : decode cX6_restart 62 = .ok (.iload_n 2, 1) := by decide +kernel
theorem dX6_restart_63 : decode cX6_restart 63 = .ok (.ireturn, 1) := by decide +kernel
