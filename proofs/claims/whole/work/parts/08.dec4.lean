set_option maxRecDepth 20000 in
theorem ggX6_type_X6_fails : GoodIn wsX6_type wsX6_fails := goodIn_r _ [8, 2, 9, 10, 11, 12, 13, 14, 15, 16, 17, 18, 19, 20, 21, 22, 23, 24, 25, 26] (by decide +kernel) (by decide +kernel)
set_option maxRecDepth 20000 in
theorem gX6_type_X6_fails : GoodIn wsX6_type (wsV RX6 89 RX6 yX6_fails wsX6_fails) := goodIn_app (goodIn_of _ (by decide +kernel)) ggX6_type_X6_fails
theorem dX6_type_0 : decode cX6_type 0 = .ok (.aload_n 0, 1) := by decide +kernel
theorem dX6_type_1 : decode cX6_type 1 = .ok (.getfield 107, 3) := by decide +kernel
theorem dX6_type_4 : decode cX6_type 4 = .ok (.bipush 60, 2) := by decide +kernel
theorem dX6_type_6 : decode cX6_type 6 = .ok (.if_icmp .ne 9, 3) := by decide +kernel
theorem dX6_type_9 : decode cX6_type 9 = .ok (.aload_n 0, 1) := by decide +kernel
theorem dX6_type_10 : decode cX6_type 10 = .ok (.iconst 1, 1) := by decide +kernel
theorem dX6_type_11 : decode cX6_type 11 = .ok (.invokevirtual 89, 3) := by decide +kernel
theorem dX6_type_14 : decode cX6_type 14 = .ok (.ireturn, 1) := by decide +kernel
theorem dX6_type_15 : decode cX6_type 15 = .ok (.aload_n 0, 1) := by decide +kernel
theorem dX6_type_16 : decode cX6_type 16 = .ok (.iconst 0, 1) := by decide +kernel
theorem dX6_type_17 : decode cX6_type 17 = .ok (.putfield 34, 3) := by decide +kernel
theorem dX6_type_20 : decode cX6_type 20 = .ok (.aload_n 0, 1) := by decide +kernel
theorem dX6_type_21 : decode cX6_type 21 = .ok (.getfield 22, 3) := by decide +kernel
theorem dX6_type_24 : decode cX6_type 24 = .ok (.aload_n 0, 1) := by decide +kernel
theorem dX6_type_25 : decode cX6_type 25 = .ok (.getfield 107, 3) := by decide +kernel
theorem dX6_type_28 : decode cX6_type 28 = .ok (.iload_n 1, 1) := by decide +kernel
theorem dX6_type_29 : decode cX6_type 29 = .ok (.iastore, 1) := by decide +kernel
theorem dX6_type_30 : decode cX6_type 30 = .ok (.aload_n 0, 1) := by decide +kernel
theorem dX6_type_31 : decode cX6_type 31 = .ok (.dup, 1) := by decide +kernel
theorem dX6_type_32 : decode cX6_type 32 = .ok (.getfield 107, 3) := by decide +kernel
theorem dX6_type_35 : decode cX6_type 35 = .ok (.iconst 1, 1) := by decide +kernel
theorem dX6_type_36 : decode cX6_type 36 = .ok (.iadd, 1) := by decide +kernel
theorem dX6_type_37 : decode cX6_type 37 = .ok (.putfield 107, 3) := by decide +kernel
theorem dX6_type_40 : decode cX6_type 40 = .ok (.aload_n 0, 1) := by decide +kernel
theorem dX6_type_41 : decode cX6_type 41 = .ok (.getfield 107, 3) := by decide +kernel
theorem dX6_type_44 : decode cX6_type 44 = .ok (.ireturn, 1) := by decide +kernel
theorem dX6_clearText_0 : decode cX6_clearText 0 = .ok (.aload_n 0, 1) := by decide +kernel
theorem dX6_clearText_1 : decode cX6_clearText 1 = .ok (.iconst 0, 1) := by decide +kernel
theorem dX6_clearText_2 : decode cX6_clearText 2 = .ok (.putfield 34, 3) := by decide +kernel
theorem dX6_clearText_5 : decode cX6_clearText 5 = .ok (.aload_n 0, 1) := by decide +kernel
theorem dX6_clearText_6 : decode cX6_clearText 6 = .ok (.getfield 107, 3) := by decide +kernel
theorem dX6_clearText_9 : decode cX6_clearText 9 = .ok (.istore_n 1, 1) := by decide +kernel
theorem dX6_clearText_10 : decode cX6_clearText 10 = .ok (.aload_n 0, 1) := by decide +kernel
theorem dX6_clearText_11 : decode cX6_clearText 11 = .ok (.iconst 0, 1) := by decide +kernel
theorem dX6_clearText_12 : decode cX6_clearText 12 = .ok (.putfield 107, 3) := by decide +kernel
theorem dX6_clearText_15 : decode cX6_clearText 15 = .ok (.iload_n 1, 1) := by decide +kernel
theorem dX6_clearText_16 : decode cX6_clearText 16 = .ok (.ireturn, 1) := by decide +kernel
set_option maxRecDepth 20000 in
theorem ggX6_isHere_X6_in : GoodIn wsX6_isHere wsX6_in := goodIn_r _ [7] (by decide +kernel) (by decide +kernel)
set_option maxRecDepth 20000 in
theorem gX6_isHere_X6_in : GoodIn wsX6_isHere (va_wsS RX6 43 yX6_in wsX6_in) := goodIn_app (goodIn_of _ (by decide +kernel)) ggX6_isHere_X6_in
theorem dX6_isHere_0 : decode cX6_isHere 0 = .ok (.aload_n 0, 1) := by decide +kernel
theorem dX6_isHere_1 : decode cX6_isHere 1 = .ok (.getfield 110, 3) := by decide +kernel
theorem dX6_isHere_4 : decode cX6_isHere 4 = .ok (.aload_n 0, 1) := by decide +kernel
theorem dX6_isHere_5 : decode cX6_isHere 5 = .ok (.getfield 107, 3) := by decide +kernel
theorem dX6_isHere_8 : decode cX6_isHere 8 = .ok (.if_icmp .ge 27, 3) := by decide +kernel
theorem dX6_isHere_11 : decode cX6_isHere 11 = .ok (.aload_n 0, 1) := by decide +kernel
theorem dX6_isHere_12 : decode cX6_isHere 12 = .ok (.getfield 22, 3) := by decide +kernel
theorem dX6_isHere_15 : decode cX6_isHere 15 = .ok (.aload_n 0, 1) := by decide +kernel
theorem dX6_isHere_16 : decode cX6_isHere 16 = .ok (.getfield 110, 3) := by decide +kernel
theorem dX6_isHere_19 : decode cX6_isHere 19 = .ok (.iaload, 1) := by decide +kernel
theorem dX6_isHere_20 : decode cX6_isHere 20 = .ok (.i2l, 1) := by decide +kernel
theorem dX6_isHere_21 : decode cX6_isHere 21 = .ok (.iload_n 1, 1) := by decide +kernel
theorem dX6_isHere_22 : decode cX6_isHere 22 = .ok (.i2l, 1) := by decide +kernel
theorem dX6_isHere_23 : decode cX6_isHere 23 = .ok (.iload_n 2, 1) := by decide +kernel
theorem dX6_isHere_24 : decode cX6_isHere 24 = .ok (.i2l, 1) := by decide +kernel
theorem dX6_isHere_25 : decode cX6_isHere 25 = .ok (.invokestatic 43, 3) := by decide +kernel
theorem dX6_isHere_28 : decode cX6_isHere 28 = .ok (.ifCond .eq 7, 3) := by decide +kernel
theorem dX6_isHere_31 : decode cX6_isHere 31 = .ok (.iconst 1, 1) := by decide +kernel
theorem dX6_isHere_32 : decode cX6_isHere 32 = .ok (.goto 4, 3) := by decide +kernel
theorem dX6_isHere_35 : decode cX6_isHere 35 = .ok (.iconst 0, 1) := by decide +kernel
theorem dX6_isHere_36 : decode cX6_isHere 36 = .ok (.ireturn, 1) := by decide +kernel
set_option maxRecDepth 20000 in
theorem ggX6_takesOne_X6_isHere : GoodIn wsX6_takesOne wsX6_isHere := goodIn_r _ [6, 1, 7, 8, 9, 10, 5, 11, 12, 13, 14, 15, 16, 17, 18, 19, 20, 21, 22, 23, 24, 25, 26, 27, 28, 29] (by decide +kernel) (by decide +kernel)
set_option maxRecDepth 20000 in
theorem gX6_takesOne_X6_isHere : GoodIn wsX6_takesOne (wsV RX6 113 RX6 yX6_isHere wsX6_isHere) := goodIn_app (goodIn_of _ (by decide +kernel)) ggX6_takesOne_X6_isHere
theorem dX6_takesOne_0 : decode cX6_takesOne 0 = .ok (.aload_n 0, 1) := by decide +kernel
theorem dX6_takesOne_1 : decode cX6_takesOne 1 = .ok (.iload_n 1, 1) := by decide +kernel
theorem dX6_takesOne_2 : decode cX6_takesOne 2 = .ok (.iload_n 1, 1) := by decide +kernel
theorem dX6_takesOne_3 : decode cX6_takesOne 3 = .ok (.invokevirtual 113, 3) := by decide +kernel
theorem dX6_takesOne_6 : decode cX6_takesOne 6 = .ok (.istore_n 2, 1) := by decide +kernel
theorem dX6_takesOne_7 : decode cX6_takesOne 7 = .ok (.aload_n 0, 1) := by decide +kernel
theorem dX6_takesOne_8 : decode cX6_takesOne 8 = .ok (.dup, 1) := by decide +kernel
theorem dX6_takesOne_9 : decode cX6_takesOne 9 = .ok (.getfield 110, 3) := by decide +kernel
theorem dX6_takesOne_12 : decode cX6_takesOne 12 = .ok (.iload_n 2, 1) := by decide +kernel
theorem dX6_takesOne_13 : decode cX6_takesOne 13 = .ok (.ifCond .eq 7, 3) := by decide +kernel
theorem dX6_takesOne_16 : decode cX6_takesOne 16 = .ok (.iconst 1, 1) := by decide +kernel
theorem dX6_takesOne_17 : decode cX6_takesOne 17 = .ok (.goto 4, 3) := by decide +kernel
theorem dX6_takesOne_20 : decode cX6_takesOne 20 = .ok (.iconst 0, 1) := by decide +kernel
theorem dX6_takesOne_21 : decode cX6_takesOne 21 = .ok (.iadd, 1) := by decide +kernel
theorem dX6_takesOne_22 : decode cX6_takesOne 22 = .ok (.putfield 110, 3) := by decide +kernel
theorem dX6_takesOne_25 : decode cX6_takesOne 25 = .ok (.iload_n 2, 1) := by decide +kernel
theorem dX6_takesOne_26 : decode cX6_takesOne 26 = .ok (.ireturn, 1) := by decide +kernel
set_option maxRecDepth 20000 in
theorem ggX6_readsMove_X6_takesOne : GoodIn wsX6_readsMove wsX6_takesOne := goodIn_r _ [10, 1, 11, 12, 13, 9, 14, 2, 3, 15, 16, 17, 18, 19, 20, 21, 22, 23, 24, 25, 26, 27, 28, 29, 30, 31, 32, 33, 34, 35] (by decide +kernel) (by decide +kernel)
set_option maxRecDepth 20000 in
theorem gX6_readsMove_X6_takesOne : GoodIn wsX6_readsMove (wsV RX6 119 RX6 yX6_takesOne wsX6_takesOne) := goodIn_app (goodIn_of _ (by decide +kernel)) ggX6_readsMove_X6_takesOne
set_option maxRecDepth 20000 in
theorem ggX6_readsMove_X6_isHere : GoodIn wsX6_readsMove wsX6_isHere := goodIn_r _ [14, 1, 2, 3, 15, 16, 9, 17, 18, 19, 20, 21, 22, 23, 24, 25, 26, 27, 28, 29, 30, 31, 32, 33, 34, 35] (by decide +kernel) (by decide +kernel)
set_option maxRecDepth 20000 in
theorem gX6_readsMove_X6_isHere : GoodIn wsX6_readsMove (wsV RX6 113 RX6 yX6_isHere wsX6_isHere) := goodIn_app (goodIn_of _ (by decide +kernel)) ggX6_readsMove_X6_isHere
theorem dX6_readsMove_0 : decode cX6_readsMove 0 = .ok (.aload_n 0, 1) := by decide +kernel
theorem dX6_readsMove_1 : decode cX6_readsMove 1 = .ok (.aload_n 0, 1) := by decide +kernel
theorem dX6_readsMove_2 : decode cX6_readsMove 2 = .ok (.getfield 110, 3) := by decide +kernel
theorem dX6_readsMove_5 : decode cX6_readsMove 5 = .ok (.aload_n 0, 1) := by decide +kernel
theorem dX6_readsMove_6 : decode cX6_readsMove 6 = .ok (.getfield 107, 3) := by decide +kernel
theorem dX6_readsMove_9 : decode cX6_readsMove 9 = .ok (.if_icmp .ge 15, 3) := by decide +kernel
theorem dX6_readsMove_12 : decode cX6_readsMove 12 = .ok (.aload_n 0, 1) := by decide +kernel
theorem dX6_readsMove_13 : decode cX6_readsMove 13 = .ok (.getfield 22, 3) := by decide +kernel
theorem dX6_readsMove_16 : decode cX6_readsMove 16 = .ok (.aload_n 0, 1) := by decide +kernel
theorem dX6_readsMove_17 : decode cX6_readsMove 17 = .ok (.getfield 110, 3) := by decide +kernel
theorem dX6_readsMove_20 : decode cX6_readsMove 20 = .ok (.iaload, 1) := by decide +kernel
theorem dX6_readsMove_21 : decode cX6_readsMove 21 = .ok (.goto 4, 3) := by decide +kernel
theorem dX6_readsMove_24 : decode cX6_readsMove 24 = .ok (.iconst 0, 1) := by decide +kernel
theorem dX6_readsMove_25 : decode cX6_readsMove 25 = .ok (.putfield 116, 3) := by decide +kernel
theorem dX6_readsMove_28 : decode cX6_readsMove 28 = .ok (.aload_n 0, 1) := by decide +kernel
theorem dX6_readsMove_29 : decode cX6_readsMove 29 = .ok (.bipush 103, 2) := by decide +kernel
theorem dX6_readsMove_31 : decode cX6_readsMove 31 = .ok (.invokevirtual 119, 3) := by decide +kernel
theorem dX6_readsMove_34 : decode cX6_readsMove 34 = .ok (.ifCond .ne 12, 3) := by decide +kernel
theorem dX6_readsMove_37 : decode cX6_readsMove 37 = .ok (.aload_n 0, 1) := by decide +kernel
theorem dX6_readsMove_38 : decode cX6_readsMove 38 = .ok (.bipush 112, 2) := by decide +kernel
theorem dX6_readsMove_40 : decode cX6_readsMove 40 = .ok (.invokevirtual 119, 3) := by decide +kernel
theorem dX6_readsMove_43 : decode cX6_readsMove 43 = .ok (.ifCond .eq 14, 3) := by decide +kernel
theorem dX6_readsMove_46 : decode cX6_readsMove 46 = .ok (.aload_n 0, 1) := by decide +kernel
theorem dX6_readsMove_47 : decode cX6_readsMove 47 = .ok (.bipush 48, 2) := by decide +kernel
theorem dX6_readsMove_49 : decode cX6_readsMove 49 = .ok (.bipush 57, 2) := by decide +kernel
theorem dX6_readsMove_51 : decode cX6_readsMove 51 = .ok (.invokevirtual 113, 3) := by decide +kernel
theorem dX6_readsMove_54 : decode cX6_readsMove 54 = .ok (.ifCond .ne 5, 3) := by decide +kernel
theorem dX6_readsMove_57 : decode cX6_readsMove 57 = .ok (.iconst 0, 1) := by decide +kernel
theorem dX6_readsMove_58 : decode cX6_readsMove 58 = .ok (.ireturn, 1) := by decide +kernel
theorem dX6_readsMove_59 : decode cX6_readsMove 59 = .ok (.aload_n 0, 1) := by decide +kernel
theorem dX6_readsMove_60 : decode cX6_readsMove 60 = .ok (.aload_n 0, 1) := by decide +kernel
theorem dX6_readsMove_61 : decode cX6_readsMove 61 = .ok (.getfield 22, 3) := by decide +kernel
theorem dX6_readsMove_64 : decode cX6_readsMove 64 = .ok (.aload_n 0, 1) := by decide +kernel
theorem dX6_readsMove_65 : decode cX6_readsMove 65 = .ok (.getfield 110, 3) := by decide +kernel
theorem dX6_readsMove_68 : decode cX6_readsMove 68 = .ok (.iaload, 1) := by decide +kernel
theorem dX6_readsMove_69 : decode cX6_readsMove 69 = .ok (.bipush 48, 2) := by decide +kernel
theorem dX6_readsMove_71 : decode cX6_readsMove 71 = .ok (.isub, 1) := by decide +kernel
theorem dX6_readsMove_72 : decode cX6_readsMove 72 = .ok (.putfield 122, 3) := by decide +kernel
theorem dX6_readsMove_75 : decode cX6_readsMove 75 = .ok (.aload_n 0, 1) := by decide +kernel
theorem dX6_readsMove_76 : decode cX6_readsMove 76 = .ok (.dup, 1) := by decide +kernel
theorem dX6_readsMove_77 : decode cX6_readsMove 77 = .ok (.getfield 110, 3) := by decide +kernel
theorem dX6_readsMove_80 : decode cX6_readsMove 80 = .ok (.iconst 1, 1) := by decide +kernel
theorem dX6_readsMove_81 : decode cX6_readsMove 81 = .ok (.iadd, 1) := by decide +kernel
theorem dX6_readsMove_82 : decode cX6_readsMove 82 = .ok (.putfield 110, 3) := by decide +kernel
theorem dX6_readsMove_85 : decode cX6_readsMove 85 = .ok (.aload_n 0, 1) := by decide +kernel
theorem dX6_readsMove_86 : decode cX6_readsMove 86 = .ok (.getfield 122, 3) := by decide +kernel
theorem dX6_readsMove_89 : decode cX6_readsMove 89 = .ok (.iconst 1, 1) := by decide +kernel
theorem dX6_readsMove_90 : decode cX6_readsMove 90 = .ok (.if_icmp .ne 43, 3) := by decide +kernel
theorem dX6_readsMove_93 : decode cX6_readsMove 93 = .ok (.aload_n 0, 1) := by decide +kernel
theorem dX6_readsMove_94 : decode cX6_readsMove 94 = .ok (.bipush 48, 2) := by decide +kernel
theorem dX6_readsMove_96 : decode cX6_readsMove 96 = .ok (.bipush 53, 2) := by decide +kernel
theorem dX6_readsMove_98 : decode cX6_readsMove 98 = .ok (.invokevirtual 113, 3) := by decide +kernel
theorem dX6_readsMove_101 : decode cX6_readsMove 101 = .ok (.ifCond .eq 32, 3) := by decide +kernel
theorem dX6_readsMove_104 : decode cX6_readsMove 104 = .ok (.aload_n 0, 1) := by decide +kernel
theorem dX6_readsMove_105 : decode cX6_readsMove 105 = .ok (.bipush 10, 2) := by decide +kernel
theorem dX6_readsMove_107 : decode cX6_readsMove 107 = .ok (.aload_n 0, 1) := by decide +kernel
theorem dX6_readsMove_108 : decode cX6_readsMove 108 = .ok (.getfield 22, 3) := by decide +kernel
theorem dX6_readsMove_111 : decode cX6_readsMove 111 = .ok (.aload_n 0, 1) := by decide +kernel
theorem dX6_readsMove_112 : decode cX6_readsMove 112 = .ok (.getfield 110, 3) := by decide +kernel
theorem dX6_readsMove_115 : decode cX6_readsMove 115 = .ok (.iaload, 1) := by decide +kernel
theorem dX6_readsMove_116 : decode cX6_readsMove 116 = .ok (.iadd, 1) := by decide +kernel
theorem dX6_readsMove_117 : decode cX6_readsMove 117 = .ok (.bipush 48, 2) := by decide +kernel
theorem dX6_readsMove_119 : decode cX6_readsMove 119 = .ok (.isub, 1) := by decide +kernel
theorem dX6_readsMove_120 : decode cX6_readsMove 120 = .ok (.putfield 122, 3) := by decide +kernel
theorem dX6_readsMove_123 : decode cX6_readsMove 123 = .ok (.aload_n 0, 1) := by decide +kernel
theorem dX6_readsMove_124 : decode cX6_readsMove 124 = .ok (.dup, 1) := by decide +kernel
theorem dX6_readsMove_125 : decode cX6_readsMove 125 = .ok (.getfield 110, 3) := by decide +kernel
theorem dX6_readsMove_128 : decode cX6_readsMove 128 = .ok (.iconst 1, 1) := by decide +kernel
theorem dX6_readsMove_129 : decode cX6_readsMove 129 = .ok (.iadd, 1) := by decide +kernel
theorem dX6_readsMove_130 : decode cX6_readsMove 130 = .ok (.putfield 110, 3) := by decide +kernel
theorem dX6_readsMove_133 : decode cX6_readsMove 133 = .ok (.iconst 1, 1) := by decide +kernel
theorem dX6_readsMove_134 : decode cX6_readsMove 134 = .ok (.ireturn, 1) := by decide +kernel
set_option maxRecDepth 20000 in
theorem ggX6_errorOfText_X6_readsMove : GoodIn wsX6_errorOfText wsX6_readsMove := goodIn_r _ [7, 1, 2, 8, 9, 10, 11, 12, 13, 6, 14, 15, 16, 17, 18, 19, 20, 21, 22, 23, 24, 25, 26, 27, 28, 29, 30, 31, 32, 33, 34, 35, 36, 37, 38, 39] (by decide +kernel) (by decide +kernel)
set_option maxRecDepth 20000 in
theorem gX6_errorOfText_X6_readsMove : GoodIn wsX6_errorOfText (wsV RX6 125 RX6 yX6_readsMove wsX6_readsMove) := goodIn_app (goodIn_of _ (by decide +kernel)) ggX6_errorOfText_X6_readsMove
set_option maxRecDepth 20000 in
theorem ggX6_errorOfText_X6_takesOne : GoodIn wsX6_errorOfText wsX6_takesOne := goodIn_r _ [14, 1, 15, 16, 17, 6, 18, 2, 8, 19, 20, 21, 22, 23, 24, 25, 26, 27, 28, 29, 30, 31, 32, 33, 34, 35, 36, 37, 38, 39] (by decide +kernel) (by decide +kernel)
set_option maxRecDepth 20000 in
theorem gX6_errorOfText_X6_takesOne : GoodIn wsX6_errorOfText (wsV RX6 119 RX6 yX6_takesOne wsX6_takesOne) := goodIn_app (goodIn_of _ (by decide +kernel)) ggX6_errorOfText_X6_takesOne
theorem dX6_errorOfText_0 : decode cX6_errorOfText 0 = .ok (.aload_n 0, 1) := by decide +kernel
theorem dX6_errorOfText_1 : decode cX6_errorOfText 1 = .ok (.iconst 0, 1) := by decide +kernel
theorem dX6_errorOfText_2 : decode cX6_errorOfText 2 = .ok (.putfield 110, 3) := by decide +kernel
theorem dX6_errorOfText_5 : decode cX6_errorOfText 5 = .ok (.iconst 1, 1) := by decide +kernel
theorem dX6_errorOfText_6 : decode cX6_errorOfText 6 = .ok (.istore_n 1, 1) := by decide +kernel
theorem dX6_errorOfText_7 : decode cX6_errorOfText 7 = .ok (.iload_n 1, 1) := by decide +kernel
theorem dX6_errorOfText_8 : decode cX6_errorOfText 8 = .ok (.ifCond .eq 25, 3) := by decide +kernel
theorem dX6_errorOfText_11 : decode cX6_errorOfText 11 = .ok (.aload_n 0, 1) := by decide +kernel
theorem dX6_errorOfText_12 : decode cX6_errorOfText 12 = .ok (.invokevirtual 125, 3) := by decide +kernel
theorem dX6_errorOfText_15 : decode cX6_errorOfText 15 = .ok (.ifCond .ne 8, 3) := by decide +kernel
theorem dX6_errorOfText_18 : decode cX6_errorOfText 18 = .ok (.aload_n 0, 1) := by decide +kernel
theorem dX6_errorOfText_19 : decode cX6_errorOfText 19 = .ok (.getfield 110, 3) := by decide +kernel
theorem dX6_errorOfText_22 : decode cX6_errorOfText 22 = .ok (.ireturn, 1) := by decide +kernel
theorem dX6_errorOfText_23 : decode cX6_errorOfText 23 = .ok (.aload_n 0, 1) := by decide +kernel
theorem dX6_errorOfText_24 : decode cX6_errorOfText 24 = .ok (.bipush 59, 2) := by decide +kernel
theorem dX6_errorOfText_26 : decode cX6_errorOfText 26 = .ok (.invokevirtual 119, 3) := by decide +kernel
theorem dX6_errorOfText_29 : decode cX6_errorOfText 29 = .ok (.istore_n 1, 1) := by decide +kernel
theorem dX6_errorOfText_30 : decode cX6_errorOfText 30 = .ok (.goto (-23), 3) := by decide +kernel
theorem dX6_errorOfText_33 : decode cX6_errorOfText 33 = .ok (.aload_n 0, 1) := by decide +kernel
theorem dX6_errorOfText_34 : decode cX6_errorOfText 34 = .ok (.getfield 110, 3) := by decide +kernel
theorem dX6_errorOfText_37 : decode cX6_errorOfText 37 = .ok (.aload_n 0, 1) := by decide +kernel
theorem dX6_errorOfText_38 : decode cX6_errorOfText 38 = .ok (.getfield 107, 3) := by decide +kernel
theorem dX6_errorOfText_41 : decode cX6_errorOfText 41 = .ok (.if_icmp .ne 7, 3) := by decide +kernel
theorem dX6_errorOfText_44 : decode cX6_errorOfText 44 = .ok (.iconst (-1), 1) := by decide +kernel
theorem dX6_errorOfText_45 : decode cX6_errorOfText 45 = .ok (.goto 7, 3) := by decide +kernel
theorem dX6_errorOfText_48 : decode cX6_errorOfText 48 = .ok (.aload_n 0, 1) := by decide +kernel
theorem dX6_errorOfText_49 : decode cX6_errorOfText 49 = .ok (.getfield 110, 3) := by decide +kernel
theorem dX6_errorOfText_52 : decode cX6_errorOfText 52 = .ok (.ireturn, 1) := by decide +kernel
set_option maxRecDepth 20000 in
theorem ggX6_textError_X6_errorOfText : GoodIn wsX6_textError wsX6_errorOfText := goodIn_r _ [5, 6, 7, 8, 9, 10, 4, 11, 12, 13, 14, 15, 16, 17, 18, 19, 20, 21, 22, 23, 24, 25, 31, 32, 33, 34, 35, 36, 37, 38, 39, 40, 41, 42, 43, 44, 45, 46, 47, 48] (by decide +kernel) (by decide +kernel)
set_option maxRecDepth 20000 in
theorem gX6_textError_X6_errorOfText : GoodIn wsX6_textError (wsV RX6 128 RX6 yX6_errorOfText wsX6_errorOfText) := goodIn_app (goodIn_of _ (by decide +kernel)) ggX6_textError_X6_errorOfText
set_option maxRecDepth 20000 in
theorem ggX6_textError_X6_told : GoodIn wsX6_textError wsX6_told := goodIn_r _ [29, 30, 31, 32, 33, 34, 35, 36, 37, 38, 39, 40, 41, 42, 43, 44, 45, 46, 47, 48] (by decide +kernel) (by decide +kernel)
set_option maxRecDepth 20000 in
theorem gX6_textError_X6_told : GoodIn wsX6_textError (wsV RX6 131 RX6 yX6_told wsX6_told) := goodIn_app (goodIn_of _ (by decide +kernel)) ggX6_textError_X6_told
theorem dX6_textError_0 : decode cX6_textError 0 = .ok (.aload_n 0, 1) := by decide +kernel
theorem dX6_textError_1 : decode cX6_textError 1 = .ok (.aload_n 0, 1) := by decide +kernel
theorem dX6_textError_2 : decode cX6_textError 2 = .ok (.invokevirtual 128, 3) := by decide +kernel
theorem dX6_textError_5 : decode cX6_textError 5 = .ok (.invokevirtual 131, 3) := by decide +kernel
theorem dX6_textError_8 : decode cX6_textError 8 = .ok (.ireturn, 1) := by decide +kernel
set_option maxRecDepth 20000 in
theorem ggX6_makesAll_X6_readsMove : GoodIn wsX6_makesAll wsX6_readsMove := goodIn_r _ [10, 1, 11, 12, 4, 5, 13, 14, 15, 9, 16, 17, 18, 19, 20, 21, 22, 23, 79, 80, 81, 82, 83, 84, 85, 86, 87, 88, 89, 90, 91, 92, 93, 94, 95, 96] (by decide +kernel) (by decide +kernel)
set_option maxRecDepth 20000 in
theorem gX6_makesAll_X6_readsMove : GoodIn wsX6_makesAll (wsV RX6 125 RX6 yX6_readsMove wsX6_readsMove) := goodIn_app (goodIn_of _ (by decide +kernel)) ggX6_makesAll_X6_readsMove
set_option maxRecDepth 20000 in
theorem ggX6_makesAll_X6_canGive : GoodIn wsX6_makesAll wsX6_canGive := goodIn_r _ [27, 28, 29, 30, 31, 9, 32, 33, 34, 35, 36, 37, 38, 39, 40, 79, 80, 81, 82, 83, 84, 85, 86, 87, 88, 89, 90, 91, 92, 93, 94, 95, 96] (by decide +kernel) (by decide +kernel)
set_option maxRecDepth 20000 in
theorem gX6_makesAll_X6_canGive : GoodIn wsX6_makesAll (wsV RX6 92 RX6 yX6_canGive wsX6_canGive) := goodIn_app (goodIn_of _ (by decide +kernel)) ggX6_makesAll_X6_canGive
set_option maxRecDepth 20000 in
theorem ggX6_makesAll_X6_canPlace : GoodIn wsX6_makesAll wsX6_canPlace := goodIn_r _ [44, 28, 79, 80, 81, 82, 83, 84, 85, 86, 87, 88, 89, 90, 91, 92, 93, 94, 95, 96] (by decide +kernel) (by decide +kernel)
set_option maxRecDepth 20000 in
theorem gX6_makesAll_X6_canPlace : GoodIn wsX6_makesAll (wsV RX6 101 RX6 yX6_canPlace wsX6_canPlace) := goodIn_app (goodIn_of _ (by decide +kernel)) ggX6_makesAll_X6_canPlace
set_option maxRecDepth 20000 in
theorem ggX6_makesAll_X6_gives : GoodIn wsX6_makesAll wsX6_gives := goodIn_r _ [48, 28, 49, 50, 51, 9, 52, 33, 34, 35, 36, 79, 80, 81, 82, 83, 84, 85, 86, 87, 88, 89, 90, 91, 92, 93, 94, 95, 96] (by decide +kernel) (by decide +kernel)
set_option maxRecDepth 20000 in
theorem gX6_makesAll_X6_gives : GoodIn wsX6_makesAll (wsV RX6 98 RX6 yX6_gives wsX6_gives) := goodIn_app (goodIn_of _ (by decide +kernel)) ggX6_makesAll_X6_gives
set_option maxRecDepth 20000 in
theorem ggX6_makesAll_X6_places : GoodIn wsX6_makesAll wsX6_places := goodIn_r _ [56, 28, 49, 50, 51, 9, 52, 33, 34, 35, 36, 57, 58, 59, 60, 61, 62, 63, 64, 65, 66, 67, 68, 69, 70, 71, 72, 73, 74, 75, 76, 77, 78, 79, 80, 81, 82, 83, 84, 85, 86, 87, 88, 89, 90, 91, 92, 93, 94, 95, 96] (by decide +kernel) (by decide +kernel)
set_option maxRecDepth 20000 in
theorem gX6_makesAll_X6_places : GoodIn wsX6_makesAll (wsV RX6 104 RX6 yX6_places wsX6_places) := goodIn_app (goodIn_of _ (by decide +kernel)) ggX6_makesAll_X6_places
set_option maxRecDepth 20000 in
theorem ggX6_makesAll_X6_takesOne : GoodIn wsX6_makesAll wsX6_takesOne := goodIn_r _ [16, 1, 17, 18, 19, 9, 20, 11, 12, 21, 22, 23, 79, 80, 81, 82, 83, 84, 85, 86, 87, 88, 89, 90, 91, 92, 93, 94, 95, 96] (by decide +kernel) (by decide +kernel)
set_option maxRecDepth 20000 in
theorem gX6_makesAll_X6_takesOne : GoodIn wsX6_makesAll (wsV RX6 119 RX6 yX6_takesOne wsX6_takesOne) := goodIn_app (goodIn_of _ (by decide +kernel)) ggX6_makesAll_X6_takesOne
theorem dX6_makesAll_0 : decode cX6_makesAll 0 = .ok (.aload_n 0, 1) := by decide +kernel
theorem dX6_makesAll_1 : decode cX6_makesAll 1 = .ok (.iconst 0, 1) := by decide +kernel
theorem dX6_makesAll_2 : decode cX6_makesAll 2 = .ok (.putfield 110, 3) := by decide +kernel
theorem dX6_makesAll_5 : decode cX6_makesAll 5 = .ok (.aload_n 0, 1) := by decide +kernel
theorem dX6_makesAll_6 : decode cX6_makesAll 6 = .ok (.iconst 0, 1) := by decide +kernel
theorem dX6_makesAll_7 : decode cX6_makesAll 7 = .ok (.putfield 134, 3) := by decide +kernel
theorem dX6_makesAll_10 : decode cX6_makesAll 10 = .ok (.aload_n 0, 1) := by decide +kernel
theorem dX6_makesAll_11 : decode cX6_makesAll 11 = .ok (.iconst 0, 1) := by decide +kernel
theorem dX6_makesAll_12 : decode cX6_makesAll 12 = .ok (.putfield 137, 3) := by decide +kernel
theorem dX6_makesAll_15 : decode cX6_makesAll 15 = .ok (.iconst 1, 1) := by decide +kernel
theorem dX6_makesAll_16 : decode cX6_makesAll 16 = .ok (.istore_n 1, 1) := by decide +kernel
theorem dX6_makesAll_17 : decode cX6_makesAll 17 = .ok (.iload_n 1, 1) := by decide +kernel
theorem dX6_makesAll_18 : decode cX6_makesAll 18 = .ok (.ifCond .eq 102, 3) := by decide +kernel
theorem dX6_makesAll_21 : decode cX6_makesAll 21 = .ok (.aload_n 0, 1) := by decide +kernel
theorem dX6_makesAll_22 : decode cX6_makesAll 22 = .ok (.invokevirtual 125, 3) := by decide +kernel
theorem dX6_makesAll_25 : decode cX6_makesAll 25 = .ok (.ifCond .eq 37, 3) := by decide +kernel
theorem dX6_makesAll_28 : decode cX6_makesAll 28 = .ok (.aload_n 0, 1) := by decide +kernel
theorem dX6_makesAll_29 : decode cX6_makesAll 29 = .ok (.getfield 116, 3) := by decide +kernel
theorem dX6_makesAll_32 : decode cX6_makesAll 32 = .ok (.bipush 103, 2) := by decide +kernel
theorem dX6_makesAll_34 : decode cX6_makesAll 34 = .ok (.if_icmp .ne 17, 3) := by decide +kernel
theorem dX6_makesAll_37 : decode cX6_makesAll 37 = .ok (.aload_n 0, 1) := by decide +kernel
theorem dX6_makesAll_38 : decode cX6_makesAll 38 = .ok (.aload_n 0, 1) := by decide +kernel
theorem dX6_makesAll_39 : decode cX6_makesAll 39 = .ok (.getfield 122, 3) := by decide +kernel
theorem dX6_makesAll_42 : decode cX6_makesAll 42 = .ok (.invokevirtual 92, 3) := by decide +kernel
theorem dX6_makesAll_45 : decode cX6_makesAll 45 = .ok (.ifCond .ne 18, 3) := by decide +kernel
theorem dX6_makesAll_48 : decode cX6_makesAll 48 = .ok (.goto 14, 3) := by decide +kernel
theorem dX6_makesAll_51 : decode cX6_makesAll 51 = .ok (.aload_n 0, 1) := by decide +kernel
theorem dX6_makesAll_52 : decode cX6_makesAll 52 = .ok (.aload_n 0, 1) := by decide +kernel
theorem dX6_makesAll_53 : decode cX6_makesAll 53 = .ok (.getfield 122, 3) := by decide +kernel
theorem dX6_makesAll_56 : decode cX6_makesAll 56 = .ok (.invokevirtual 101, 3) := by decide +kernel
theorem dX6_makesAll_59 : decode cX6_makesAll 59 = .ok (.ifCond .ne 4, 3) := by decide +kernel
theorem dX6_makesAll_62 : decode cX6_makesAll 62 = .ok (.return_, 1) := by decide +kernel
theorem dX6_makesAll_63 : decode cX6_makesAll 63 = .ok (.aload_n 0, 1) := by decide +kernel
theorem dX6_makesAll_64 : decode cX6_makesAll 64 = .ok (.getfield 116, 3) := by decide +kernel
theorem dX6_makesAll_67 : decode cX6_makesAll 67 = .ok (.bipush 103, 2) := by decide +kernel
theorem dX6_makesAll_69 : decode cX6_makesAll 69 = .ok (.if_icmp .ne 22, 3) := by decide +kernel
theorem dX6_makesAll_72 : decode cX6_makesAll 72 = .ok (.aload_n 0, 1) := by decide +kernel
theorem dX6_makesAll_73 : decode cX6_makesAll 73 = .ok (.aload_n 0, 1) := by decide +kernel
theorem dX6_makesAll_74 : decode cX6_makesAll 74 = .ok (.getfield 122, 3) := by decide +kernel
theorem dX6_makesAll_77 : decode cX6_makesAll 77 = .ok (.invokevirtual 98, 3) := by decide +kernel
theorem dX6_makesAll_80 : decode cX6_makesAll 80 = .ok (.ifCond .lt 7, 3) := by decide +kernel
theorem dX6_makesAll_83 : decode cX6_makesAll 83 = .ok (.iconst 1, 1) := by decide +kernel
theorem dX6_makesAll_84 : decode cX6_makesAll 84 = .ok (.goto 15, 3) := by decide +kernel
theorem dX6_makesAll_87 : decode cX6_makesAll 87 = .ok (.iconst 0, 1) := by decide +kernel
theorem dX6_makesAll_88 : decode cX6_makesAll 88 = .ok (.goto 11, 3) := by decide +kernel
theorem dX6_makesAll_91 : decode cX6_makesAll 91 = .ok (.aload_n 0, 1) := by decide +kernel
theorem dX6_makesAll_92 : decode cX6_makesAll 92 = .ok (.aload_n 0, 1) := by decide +kernel
theorem dX6_makesAll_93 : decode cX6_makesAll 93 = .ok (.getfield 122, 3) := by decide +kernel
theorem dX6_makesAll_96 : decode cX6_makesAll 96 = .ok (.invokevirtual 104, 3) := by decide +kernel
theorem dX6_makesAll_99 : decode cX6_makesAll 99 = .ok (.istore_n 2, 1) := by decide +kernel
theorem dX6_makesAll_100 : decode cX6_makesAll 100 = .ok (.aload_n 0, 1) := by decide +kernel
theorem dX6_makesAll_101 : decode cX6_makesAll 101 = .ok (.dup, 1) := by decide +kernel
theorem dX6_makesAll_102 : decode cX6_makesAll 102 = .ok (.getfield 134, 3) := by decide +kernel
theorem dX6_makesAll_105 : decode cX6_makesAll 105 = .ok (.iconst 1, 1) := by decide +kernel
theorem dX6_makesAll_106 : decode cX6_makesAll 106 = .ok (.iadd, 1) := by decide +kernel
theorem dX6_makesAll_107 : decode cX6_makesAll 107 = .ok (.putfield 134, 3) := by decide +kernel
theorem dX6_makesAll_110 : decode cX6_makesAll 110 = .ok (.aload_n 0, 1) := by decide +kernel
theorem dX6_makesAll_111 : decode cX6_makesAll 111 = .ok (.bipush 59, 2) := by decide +kernel
theorem dX6_makesAll_113 : decode cX6_makesAll 113 = .ok (.invokevirtual 119, 3) := by decide +kernel
theorem dX6_makesAll_116 : decode cX6_makesAll 116 = .ok (.istore_n 1, 1) := by decide +kernel
theorem dX6_makesAll_117 : decode cX6_makesAll 117 = .ok (.goto (-100), 3) := by decide +kernel
theorem dX6_makesAll_120 : decode cX6_makesAll 120 = .ok (.aload_n 0, 1) := by decide +kernel
theorem dX6_makesAll_121 : decode cX6_makesAll 121 = .ok (.iconst 1, 1) := by decide +kernel
theorem dX6_makesAll_122 : decode cX6_makesAll 122 = .ok (.putfield 137, 3) := by decide +kernel
theorem dX6_makesAll_125 : decode cX6_makesAll 125 = .ok (.return_, 1) := by decide +kernel
set_option maxRecDepth 20000 in
theorem ggX6_tries_X6_makesAll : GoodIn wsX6_tries wsX6_makesAll := goodIn_r _ [7, 8, 9, 10, 11, 12, 13, 14, 15, 6, 16, 17, 18, 19, 20, 21, 22, 23, 24, 25, 26, 27, 28, 29, 30, 31, 32, 33, 2, 34, 35, 36, 37, 38, 39, 40, 41, 42, 43, 44, 45, 46, 47, 48, 49, 50, 51, 52, 53, 54, 55, 56, 57, 58, 59, 60, 61, 62, 63, 64, 65, 66, 67, 68, 69, 70, 71, 72, 73, 74, 75, 76, 77, 78, 79, 80, 81, 82, 83, 84, 85, 86, 87, 88, 89, 90, 91, 92, 93, 94, 95, 96, 97, 98, 99, 100, 101] (by decide +kernel) (by decide +kernel)
set_option maxRecDepth 20000 in
theorem gX6_tries_X6_makesAll : GoodIn wsX6_tries (wsV RX6 141 RX6 yX6_makesAll wsX6_makesAll) := goodIn_app (goodIn_of _ (by decide +kernel)) ggX6_tries_X6_makesAll
theorem dX6_tries_0 : decode cX6_tries 0 = .ok (.iconst 0, 1) := by decide +kernel
theorem dX6_tries_1 : decode cX6_tries 1 = .ok (.istore_n 1, 1) := by decide +kernel
theorem dX6_tries_2 : decode cX6_tries 2 = .ok (.iload_n 1, 1) := by decide +kernel
theorem dX6_tries_3 : decode cX6_tries 3 = .ok (.bipush 21, 2) := by decide +kernel
theorem dX6_tries_5 : decode cX6_tries 5 = .ok (.if_icmp .ge 21, 3) := by decide +kernel
theorem dX6_tries_8 : decode cX6_tries 8 = .ok (.aload_n 0, 1) := by decide +kernel
theorem dX6_tries_9 : decode cX6_tries 9 = .ok (.getfield 13, 3) := by decide +kernel
theorem dX6_tries_12 : decode cX6_tries 12 = .ok (.iload_n 1, 1) := by decide +kernel
theorem dX6_tries_13 : decode cX6_tries 13 = .ok (.aload_n 0, 1) := by decide +kernel
theorem dX6_tries_14 : decode cX6_tries 14 = .ok (.getfield 7, 3) := by decide +kernel
theorem dX6_tries_17 : decode cX6_tries 17 = .ok (.iload_n 1, 1) := by decide +kernel
theorem dX6_tries_18 : decode cX6_tries 18 = .ok (.iaload, 1) := by decide +kernel
theorem dX6_tries_19 : decode cX6_tries 19 = .ok (.iastore, 1) := by decide +kernel
theorem dX6_tries_20 : decode cX6_tries 20 = .ok (.iinc 1 1, 3) := by decide +kernel
theorem dX6_tries_23 : decode cX6_tries 23 = .ok (.goto (-21), 3) := by decide +kernel
theorem dX6_tries_26 : decode cX6_tries 26 = .ok (.aload_n 0, 1) := by decide +kernel
theorem dX6_tries_27 : decode cX6_tries 27 = .ok (.invokevirtual 141, 3) := by decide +kernel
theorem dX6_tries_30 : decode cX6_tries 30 = .ok (.iconst 0, 1) := by decide +kernel
theorem dX6_tries_31 : decode cX6_tries 31 = .ok (.istore_n 1, 1) := by decide +kernel
theorem dX6_tries_32 : decode cX6_tries 32 = .ok (.iload_n 1, 1) := by decide +kernel
theorem dX6_tries_33 : decode cX6_tries 33 = .ok (.bipush 21, 2) := by decide +kernel
theorem dX6_tries_35 : decode cX6_tries 35 = .ok (.if_icmp .ge 21, 3) := by decide +kernel
theorem dX6_tries_38 : decode cX6_tries 38 = .ok (.aload_n 0, 1) := by decide +kernel
theorem dX6_tries_39 : decode cX6_tries 39 = .ok (.getfield 7, 3) := by decide +kernel
theorem dX6_tries_42 : decode cX6_tries 42 = .ok (.iload_n 1, 1) := by decide +kernel
theorem dX6_tries_43 : decode cX6_tries 43 = .ok (.aload_n 0, 1) := by decide +kernel
theorem dX6_tries_44 : decode cX6_tries 44 = .ok (.getfield 13, 3) := by decide +kernel
theorem dX6_tries_47 : decode cX6_tries 47 = .ok (.iload_n 1, 1) := by decide +kernel
theorem dX6_tries_48 : decode cX6_tries 48 = .ok (.iaload, 1) := by decide +kernel
theorem dX6_tries_49 : decode cX6_tries 49 = .ok (.iastore, 1) := by decide +kernel
theorem dX6_tries_50 : decode cX6_tries 50 = .ok (.iinc 1 1, 3) := by decide +kernel
theorem dX6_tries_53 : decode cX6_tries 53 = .ok (.goto (-21), 3) := by decide +kernel
theorem dX6_tries_56 : decode cX6_tries 56 = .ok (.return_, 1) := by decide +kernel
set_option maxRecDepth 20000 in
theorem ggX6_impossibleMove_X6_errorOfText : GoodIn wsX6_impossibleMove wsX6_errorOfText := goodIn_r _ [7, 8, 9, 10, 11, 12, 6, 13, 14, 15, 16, 17, 18, 19, 20, 21, 22, 23, 24, 25, 26, 27, 101, 102, 103, 104, 105, 106, 107, 108, 109, 110, 111, 112, 113, 114, 115, 116, 117, 118] (by decide +kernel) (by decide +kernel)
set_option maxRecDepth 20000 in
theorem gX6_impossibleMove_X6_errorOfText : GoodIn wsX6_impossibleMove (wsV RX6 128 RX6 yX6_errorOfText wsX6_errorOfText) := goodIn_app (goodIn_of _ (by decide +kernel)) ggX6_impossibleMove_X6_errorOfText
set_option maxRecDepth 20000 in
theorem ggX6_impossibleMove_X6_fails : GoodIn wsX6_impossibleMove wsX6_fails := goodIn_r _ [31, 32, 101, 102, 103, 104, 105, 106, 107, 108, 109, 110, 111, 112, 113, 114, 115, 116, 117, 118] (by decide +kernel) (by decide +kernel)
set_option maxRecDepth 20000 in
theorem gX6_impossibleMove_X6_fails : GoodIn wsX6_impossibleMove (wsV RX6 89 RX6 yX6_fails wsX6_fails) := goodIn_app (goodIn_of _ (by decide +kernel)) ggX6_impossibleMove_X6_fails
set_option maxRecDepth 20000 in
theorem ggX6_impossibleMove_X6_tries : GoodIn wsX6_impossibleMove wsX6_tries := goodIn_r _ [36, 37, 38, 39, 40, 41, 6, 42, 8, 2, 1, 15, 16, 10, 11, 12, 13, 9, 14, 17, 18, 19, 20, 21, 22, 23, 24, 25, 26, 27, 43, 44, 45, 46, 47, 48, 49, 50, 51, 52, 53, 54, 55, 56, 57, 58, 59, 60, 61, 62, 63, 64, 65, 66, 67, 68, 69, 70, 71, 72, 73, 74, 75, 76, 77, 78, 79, 80, 81, 82, 83, 84, 85, 86, 87, 88, 89, 90, 91, 92, 93, 94, 95, 96, 101, 102, 103, 104, 105, 106, 107, 108, 109, 110, 111, 112, 113, 114, 115, 116, 117, 118] (by decide +kernel) (by decide +kernel)
set_option maxRecDepth 20000 in
theorem gX6_impossibleMove_X6_tries : GoodIn wsX6_impossibleMove (wsV RX6 144 RX6 yX6_tries wsX6_tries) := goodIn_app (goodIn_of _ (by decide +kernel)) ggX6_impossibleMove_X6_tries
set_option maxRecDepth 20000 in
theorem ggX6_impossibleMove_X6_told : GoodIn wsX6_impossibleMove wsX6_told := goodIn_r _ [100, 32, 101, 102, 103, 104, 105, 106, 107, 108, 109, 110, 111, 112, 113, 114, 115, 116, 117, 118] (by decide +kernel) (by decide +kernel)
set_option maxRecDepth 20000 in
theorem gX6_impossibleMove_X6_told : GoodIn wsX6_impossibleMove (wsV RX6 131 RX6 yX6_told wsX6_told) := goodIn_app (goodIn_of _ (by decide +kernel)) ggX6_impossibleMove_X6_told
theorem dX6_impossibleMove_0 : decode cX6_impossibleMove 0 = .ok (.aload_n 0, 1) := by decide +kernel
theorem dX6_impossibleMove_1 : decode cX6_impossibleMove 1 = .ok (.invokevirtual 128, 3) := by decide +kernel
theorem dX6_impossibleMove_4 : decode cX6_impossibleMove 4 = .ok (.iconst (-1), 1) := by decide +kernel
theorem dX6_impossibleMove_5 : decode cX6_impossibleMove 5 = .ok (.if_icmp .eq 9, 3) := by decide +kernel
theorem dX6_impossibleMove_8 : decode cX6_impossibleMove 8 = .ok (.aload_n 0, 1) := by decide +kernel
theorem dX6_impossibleMove_9 : decode cX6_impossibleMove 9 = .ok (.iconst 1, 1) := by decide +kernel
theorem dX6_impossibleMove_10 : decode cX6_impossibleMove 10 = .ok (.invokevirtual 89, 3) := by decide +kernel
theorem dX6_impossibleMove_13 : decode cX6_impossibleMove 13 = .ok (.ireturn, 1) := by decide +kernel
theorem dX6_impossibleMove_14 : decode cX6_impossibleMove 14 = .ok (.aload_n 0, 1) := by decide +kernel
theorem dX6_impossibleMove_15 : decode cX6_impossibleMove 15 = .ok (.invokevirtual 144, 3) := by decide +kernel
theorem dX6_impossibleMove_18 : decode cX6_impossibleMove 18 = .ok (.aload_n 0, 1) := by decide +kernel
theorem dX6_impossibleMove_19 : decode cX6_impossibleMove 19 = .ok (.aload_n 0, 1) := by decide +kernel
theorem dX6_impossibleMove_20 : decode cX6_impossibleMove 20 = .ok (.getfield 137, 3) := by decide +kernel
theorem dX6_impossibleMove_23 : decode cX6_impossibleMove 23 = .ok (.ifCond .eq 7, 3) := by decide +kernel
theorem dX6_impossibleMove_26 : decode cX6_impossibleMove 26 = .ok (.iconst (-1), 1) := by decide +kernel
theorem dX6_impossibleMove_27 : decode cX6_impossibleMove 27 = .ok (.goto 7, 3) := by decide +kernel
theorem dX6_impossibleMove_30 : decode cX6_impossibleMove 30 = .ok (.aload_n 0, 1) := by decide +kernel
theorem dX6_impossibleMove_31 : decode cX6_impossibleMove 31 = .ok (.getfield 134, 3) := by decide +kernel
theorem dX6_impossibleMove_34 : decode cX6_impossibleMove 34 = .ok (.invokevirtual 131, 3) := by decide +kernel
theorem dX6_impossibleMove_37 : decode cX6_impossibleMove 37 = .ok (.ireturn, 1) := by decide +kernel
set_option maxRecDepth 20000 in
theorem ggX6_carryOut_X6_errorOfText : GoodIn wsX6_carryOut wsX6_errorOfText := goodIn_r _ [7, 8, 9, 10, 11, 12, 6, 13, 14, 15, 16, 17, 18, 19, 20, 21, 22, 23, 24, 25, 26, 27, 103, 104, 105, 106, 107, 108, 109, 110, 111, 112, 113, 114, 115, 116, 117, 118, 119, 120] (by decide +kernel) (by decide +kernel)
set_option maxRecDepth 20000 in
theorem gX6_carryOut_X6_errorOfText : GoodIn wsX6_carryOut (wsV RX6 128 RX6 yX6_errorOfText wsX6_errorOfText) := goodIn_app (goodIn_of _ (by decide +kernel)) ggX6_carryOut_X6_errorOfText
set_option maxRecDepth 20000 in
theorem ggX6_carryOut_X6_fails : GoodIn wsX6_carryOut wsX6_fails := goodIn_r _ [31, 32, 103, 104, 105, 106, 107, 108, 109, 110, 111, 112, 113, 114, 115, 116, 117, 118, 119, 120] (by decide +kernel) (by decide +kernel)
set_option maxRecDepth 20000 in
theorem gX6_carryOut_X6_fails : GoodIn wsX6_carryOut (wsV RX6 89 RX6 yX6_fails wsX6_fails) := goodIn_app (goodIn_of _ (by decide +kernel)) ggX6_carryOut_X6_fails
set_option maxRecDepth 20000 in
theorem ggX6_carryOut_X6_tries : GoodIn wsX6_carryOut wsX6_tries := goodIn_r _ [36, 37, 38, 39, 40, 41, 6, 42, 8, 2, 1, 15, 16, 10, 11, 12, 13, 9, 14, 17, 18, 19, 20, 21, 22, 23, 24, 25, 26, 27, 43, 44, 45, 46, 47, 48, 49, 50, 51, 52, 53, 54, 55, 56, 57, 58, 59, 60, 61, 62, 63, 64, 65, 66, 67, 68, 69, 70, 71, 72, 73, 74, 75, 76, 77, 78, 79, 80, 81, 82, 83, 84, 85, 86, 87, 88, 89, 90, 91, 92, 93, 94, 95, 96, 103, 104, 105, 106, 107, 108, 109, 110, 111, 112, 113, 114, 115, 116, 117, 118, 119, 120] (by decide +kernel) (by decide +kernel)
set_option maxRecDepth 20000 in
theorem gX6_carryOut_X6_tries : GoodIn wsX6_carryOut (wsV RX6 144 RX6 yX6_tries wsX6_tries) := goodIn_app (goodIn_of _ (by decide +kernel)) ggX6_carryOut_X6_tries
set_option maxRecDepth 20000 in
theorem ggX6_carryOut_X6_records : GoodIn wsX6_carryOut wsX6_records := goodIn_r _ [100, 32, 101, 102, 38, 103, 104, 105, 106, 107, 108, 109, 110, 111, 112, 113, 114, 115, 116, 117, 118, 119, 120] (by decide +kernel) (by decide +kernel)
set_option maxRecDepth 20000 in
theorem gX6_carryOut_X6_records : GoodIn wsX6_carryOut (wsV RX6 95 RX6 yX6_records wsX6_records) := goodIn_app (goodIn_of _ (by decide +kernel)) ggX6_carryOut_X6_records
set_option maxRecDepth 20000 in
theorem ggX6_carryOut_X6_makesAll : GoodIn wsX6_carryOut wsX6_makesAll := goodIn_r _ [42, 8, 2, 1, 15, 16, 10, 11, 12, 6, 13, 9, 14, 17, 18, 19, 20, 21, 22, 23, 24, 25, 26, 27, 43, 44, 45, 46, 38, 47, 48, 49, 50, 51, 52, 53, 54, 55, 56, 57, 58, 59, 60, 61, 62, 63, 64, 65, 66, 67, 68, 69, 70, 71, 72, 73, 74, 75, 76, 77, 78, 79, 80, 81, 82, 83, 84, 85, 86, 87, 88, 89, 90, 91, 92, 93, 94, 95, 96, 103, 104, 105, 106, 107, 108, 109, 110, 111, 112, 113, 114, 115, 116, 117, 118, 119, 120] (by decide +kernel) (by decide +kernel)
set_option maxRecDepth 20000 in
theorem gX6_carryOut_X6_makesAll : GoodIn wsX6_carryOut (wsV RX6 141 RX6 yX6_makesAll wsX6_makesAll) := goodIn_app (goodIn_of _ (by decide +kernel)) ggX6_carryOut_X6_makesAll
theorem dX6_carryOut_0 : decode cX6_carryOut 0 = .ok (.aload_n 0, 1) := by decide +kernel
theorem dX6_carryOut_1 : decode cX6_carryOut 1 = .ok (.invokevirtual 128, 3) := by decide +kernel
theorem dX6_carryOut_4 : decode cX6_carryOut 4 = .ok (.iconst (-1), 1) := by decide +kernel
theorem dX6_carryOut_5 : decode cX6_carryOut 5 = .ok (.if_icmp .eq 9, 3) := by decide +kernel
theorem dX6_carryOut_8 : decode cX6_carryOut 8 = .ok (.aload_n 0, 1) := by decide +kernel
theorem dX6_carryOut_9 : decode cX6_carryOut 9 = .ok (.iconst 1, 1) := by decide +kernel
theorem dX6_carryOut_10 : decode cX6_carryOut 10 = .ok (.invokevirtual 89, 3) := by decide +kernel
theorem dX6_carryOut_13 : decode cX6_carryOut 13 = .ok (.ireturn, 1) := by decide +kernel
theorem dX6_carryOut_14 : decode cX6_carryOut 14 = .ok (.aload_n 0, 1) := by decide +kernel
theorem dX6_carryOut_15 : decode cX6_carryOut 15 = .ok (.invokevirtual 144, 3) := by decide +kernel
theorem dX6_carryOut_18 : decode cX6_carryOut 18 = .ok (.aload_n 0, 1) := by decide +kernel
theorem dX6_carryOut_19 : decode cX6_carryOut 19 = .ok (.getfield 137, 3) := by decide +kernel
theorem dX6_carryOut_22 : decode cX6_carryOut 22 = .ok (.ifCond .ne 9, 3) := by decide +kernel
theorem dX6_carryOut_25 : decode cX6_carryOut 25 = .ok (.aload_n 0, 1) := by decide +kernel
theorem dX6_carryOut_26 : decode cX6_carryOut 26 = .ok (.iconst 1, 1) := by decide +kernel
theorem dX6_carryOut_27 : decode cX6_carryOut 27 = .ok (.invokevirtual 89, 3) := by decide +kernel
theorem dX6_carryOut_30 : decode cX6_carryOut 30 = .ok (.ireturn, 1) := by decide +kernel
theorem dX6_carryOut_31 : decode cX6_carryOut 31 = .ok (.aload_n 0, 1) := by decide +kernel
theorem dX6_carryOut_32 : decode cX6_carryOut 32 = .ok (.invokevirtual 95, 3) := by decide +kernel
theorem dX6_carryOut_35 : decode cX6_carryOut 35 = .ok (.aload_n 0, 1) := by decide +kernel
theorem dX6_carryOut_36 : decode cX6_carryOut 36 = .ok (.invokevirtual 141, 3) := by decide +kernel
theorem dX6_carryOut_39 : decode cX6_carryOut 39 = .ok (.aload_n 0, 1) := by decide +kernel
theorem dX6_carryOut_40 : decode cX6_carryOut 40 = .ok (.getfield 134, 3) := by decide +kernel
theorem dX6_carryOut_43 : decode cX6_carryOut 43 = .ok (.ireturn, 1) := by decide +kernel
set_option maxRecDepth 20000 in
theorem ggX6_undo_X6_fails : GoodIn wsX6_undo wsX6_fails := goodIn_r _ [9, 2, 10, 11, 12, 13, 14, 15, 16, 17, 18, 19, 20, 21, 22, 23, 24, 25, 26, 27] (by decide +kernel) (by decide +kernel)
set_option maxRecDepth 20000 in
theorem gX6_undo_X6_fails : GoodIn wsX6_undo (wsV RX6 89 RX6 yX6_fails wsX6_fails) := goodIn_app (goodIn_of _ (by decide +kernel)) ggX6_undo_X6_fails
theorem dX6_undo_0 : decode cX6_undo 0 = .ok (.aload_n 0, 1) := by decide +kernel
theorem dX6_undo_1 : decode cX6_undo 1 = .ok (.getfield 38, 3) := by decide +kernel
theorem dX6_undo_4 : decode cX6_undo 4 = .ok (.ifCond .ne 9, 3) := by decide +kernel
theorem dX6_undo_7 : decode cX6_undo 7 = .ok (.aload_n 0, 1) := by decide +kernel
theorem dX6_undo_8 : decode cX6_undo 8 = .ok (.iconst 1, 1) := by decide +kernel
theorem dX6_undo_9 : decode cX6_undo 9 = .ok (.invokevirtual 89, 3) := by decide +kernel
theorem dX6_undo_12 : decode cX6_undo 12 = .ok (.ireturn, 1) := by decide +kernel
theorem dX6_undo_13 : decode cX6_undo 13 = .ok (.aload_n 0, 1) := by decide +kernel
theorem dX6_undo_14 : decode cX6_undo 14 = .ok (.iconst 0, 1) := by decide +kernel
theorem dX6_undo_15 : decode cX6_undo 15 = .ok (.putfield 34, 3) := by decide +kernel
theorem dX6_undo_18 : decode cX6_undo 18 = .ok (.aload_n 0, 1) := by decide +kernel
theorem dX6_undo_19 : decode cX6_undo 19 = .ok (.dup, 1) := by decide +kernel
theorem dX6_undo_20 : decode cX6_undo 20 = .ok (.getfield 38, 3) := by decide +kernel
theorem dX6_undo_23 : decode cX6_undo 23 = .ok (.iconst 1, 1) := by decide +kernel
theorem dX6_undo_24 : decode cX6_undo 24 = .ok (.isub, 1) := by decide +kernel
theorem dX6_undo_25 : decode cX6_undo 25 = .ok (.putfield 38, 3) := by decide +kernel
theorem dX6_undo_28 : decode cX6_undo 28 = .ok (.iconst 0, 1) := by decide +kernel
theorem dX6_undo_29 : decode cX6_undo 29 = .ok (.istore_n 1, 1) := by decide +kernel
theorem dX6_undo_30 : decode cX6_undo 30 = .ok (.iload_n 1, 1) := by decide +kernel
theorem dX6_undo_31 : decode cX6_undo 31 = .ok (.bipush 21, 2) := by decide +kernel
theorem dX6_undo_33 : decode cX6_undo 33 = .ok (.if_icmp .ge 29, 3) := by decide +kernel
theorem dX6_undo_36 : decode cX6_undo 36 = .ok (.aload_n 0, 1) := by decide +kernel
theorem dX6_undo_37 : decode cX6_undo 37 = .ok (.getfield 7, 3) := by decide +kernel
theorem dX6_undo_40 : decode cX6_undo 40 = .ok (.iload_n 1, 1) := by decide +kernel
theorem dX6_undo_41 : decode cX6_undo 41 = .ok (.aload_n 0, 1) := by decide +kernel
theorem dX6_undo_42 : decode cX6_undo 42 = .ok (.getfield 16, 3) := by decide +kernel
theorem dX6_undo_45 : decode cX6_undo 45 = .ok (.bipush 21, 2) := by decide +kernel
theorem dX6_undo_47 : decode cX6_undo 47 = .ok (.aload_n 0, 1) := by decide +kernel
theorem dX6_undo_48 : decode cX6_undo 48 = .ok (.getfield 38, 3) := by decide +kernel
theorem dX6_undo_51 : decode cX6_undo 51 = .ok (.imul, 1) := by decide +kernel
theorem dX6_undo_52 : decode cX6_undo 52 = .ok (.iload_n 1, 1) := by decide +kernel
theorem dX6_undo_53 : decode cX6_undo 53 = .ok (.iadd, 1) := by decide +kernel
theorem dX6_undo_54 : decode cX6_undo 54 = .ok (.iaload, 1) := by decide +kernel
theorem dX6_undo_55 : decode cX6_undo 55 = .ok (.iastore, 1) := by decide +kernel
theorem dX6_undo_56 : decode cX6_undo 56 = .ok (.iinc 1 1, 3) := by decide +kernel
theorem dX6_undo_59 : decode cX6_undo 59 = .ok (.goto (-29), 3) := by decide +kernel
theorem dX6_undo_62 : decode cX6_undo 62 = .ok (.aload_n 0, 1) := by decide +kernel
theorem dX6_undo_63 : decode cX6_undo 63 = .ok (.getfield 38, 3) := by decide +kernel
theorem dX6_undo_66 : decode cX6_undo 66 = .ok (.ireturn, 1) := by decide +kernel
set_option maxRecDepth 20000 in
theorem ggX6_takeSnapshot_X6_count : GoodIn wsX6_takeSnapshot wsX6_count := goodIn_r _ [8, 2, 14, 15, 16, 17, 18, 19, 20, 21, 22, 23, 24, 25, 26, 27, 28, 29, 30, 31] (by decide +kernel) (by decide +kernel)
set_option maxRecDepth 20000 in
theorem gX6_takeSnapshot_X6_count : GoodIn wsX6_takeSnapshot (wsV RX6 47 RX6 yX6_count wsX6_count) := goodIn_app (goodIn_of _ (by decide +kernel)) ggX6_takeSnapshot_X6_count
set_option maxRecDepth 20000 in
theorem ggX6_takeSnapshot_X6_told : GoodIn wsX6_takeSnapshot wsX6_told := goodIn_r _ [12, 13, 14, 15, 16, 17, 18, 19, 20, 21, 22, 23, 24, 25, 26, 27, 28, 29, 30, 31] (by decide +kernel) (by decide +kernel)
set_option maxRecDepth 20000 in
theorem gX6_takeSnapshot_X6_told : GoodIn wsX6_takeSnapshot (wsV RX6 131 RX6 yX6_told wsX6_told) := goodIn_app (goodIn_of _ (by decide +kernel)) ggX6_takeSnapshot_X6_told
theorem dX6_takeSnapshot_0 : decode cX6_takeSnapshot 0 = .ok (.iconst 0, 1) := by decide +kernel
theorem dX6_takeSnapshot_1 : decode cX6_takeSnapshot 1 = .ok (.istore_n 1, 1) := by decide +kernel
theorem dX6_takeSnapshot_2 : decode cX6_takeSnapshot 2 = .ok (.iload_n 1, 1) := by decide +kernel
theorem dX6_takeSnapshot_3 : decode cX6_takeSnapshot 3 = .ok (.bipush 21, 2) := by decide +kernel
theorem dX6_takeSnapshot_5 : decode cX6_takeSnapshot 5 = .ok (.if_icmp .ge 21, 3) := by decide +kernel
theorem dX6_takeSnapshot_8 : decode cX6_takeSnapshot 8 = .ok (.aload_n 0, 1) := by decide +kernel
theorem dX6_takeSnapshot_9 : decode cX6_takeSnapshot 9 = .ok (.getfield 19, 3) := by decide +kernel
theorem dX6_takeSnapshot_12 : decode cX6_takeSnapshot 12 = .ok (.iload_n 1, 1) := by decide +kernel
theorem dX6_takeSnapshot_13 : decode cX6_takeSnapshot 13 = .ok (.aload_n 0, 1) := by decide +kernel
theorem dX6_takeSnapshot_14 : decode cX6_takeSnapshot 14 = .ok (.getfield 7, 3) := by decide +kernel
theorem dX6_takeSnapshot_17 : decode cX6_takeSnapshot 17 = .ok (.iload_n 1, 1) := by decide +kernel
theorem dX6_takeSnapshot_18 : decode cX6_takeSnapshot 18 = .ok (.iaload, 1) := by decide +kernel
theorem dX6_takeSnapshot_19 : decode cX6_takeSnapshot 19 = .ok (.iastore, 1) := by decide +kernel
theorem dX6_takeSnapshot_20 : decode cX6_takeSnapshot 20 = .ok (.iinc 1 1, 3) := by decide +kernel
theorem dX6_takeSnapshot_23 : decode cX6_takeSnapshot 23 = .ok (.goto (-21), 3) := by decide +kernel
theorem dX6_takeSnapshot_26 : decode cX6_takeSnapshot 26 = .ok (.aload_n 0, 1) := by decide +kernel
theorem dX6_takeSnapshot_27 : decode cX6_takeSnapshot 27 = .ok (.iconst 1, 1) := by decide +kernel
theorem dX6_takeSnapshot_28 : decode cX6_takeSnapshot 28 = .ok (.putfield 147, 3) := by decide +kernel
theorem dX6_takeSnapshot_31 : decode cX6_takeSnapshot 31 = .ok (.aload_n 0, 1) := by decide +kernel
theorem dX6_takeSnapshot_32 : decode cX6_takeSnapshot 32 = .ok (.aload_n 0, 1) := by decide +kernel
theorem dX6_takeSnapshot_33 : decode cX6_takeSnapshot 33 = .ok (.invokevirtual 47, 3) := by decide +kernel
theorem dX6_takeSnapshot_36 : decode cX6_takeSnapshot 36 = .ok (.invokevirtual 131, 3) := by decide +kernel
theorem dX6_takeSnapshot_39 : decode cX6_takeSnapshot 39 = .ok (.ireturn, 1) := by decide +kernel
set_option maxRecDepth 20000 in
theorem ggX6_restoreSnapshot_X6_fails : GoodIn wsX6_restoreSnapshot wsX6_fails := goodIn_r _ [8, 9, 20, 21, 22, 23, 24, 25, 26, 27, 28, 29, 30, 31, 32, 33, 34, 35, 36, 37] (by decide +kernel) (by decide +kernel)
set_option maxRecDepth 20000 in
theorem gX6_restoreSnapshot_X6_fails : GoodIn wsX6_restoreSnapshot (wsV RX6 89 RX6 yX6_fails wsX6_fails) := goodIn_app (goodIn_of _ (by decide +kernel)) ggX6_restoreSnapshot_X6_fails
set_option maxRecDepth 20000 in
theorem ggX6_restoreSnapshot_X6_records : GoodIn wsX6_restoreSnapshot wsX6_records := goodIn_r _ [13, 9, 14, 15, 2, 20, 21, 22, 23, 24, 25, 26, 27, 28, 29, 30, 31, 32, 33, 34, 35, 36, 37] (by decide +kernel) (by decide +kernel)
set_option maxRecDepth 20000 in
theorem gX6_restoreSnapshot_X6_records : GoodIn wsX6_restoreSnapshot (wsV RX6 95 RX6 yX6_records wsX6_records) := goodIn_app (goodIn_of _ (by decide +kernel)) ggX6_restoreSnapshot_X6_records
set_option maxRecDepth 20000 in
theorem ggX6_restoreSnapshot_X6_count : GoodIn wsX6_restoreSnapshot wsX6_count := goodIn_r _ [19, 2, 20, 21, 22, 23, 24, 25, 26, 27, 28, 29, 30, 31, 32, 33, 34, 35, 36, 37] (by decide +kernel) (by decide +kernel)
set_option maxRecDepth 20000 in
theorem gX6_restoreSnapshot_X6_count : GoodIn wsX6_restoreSnapshot (wsV RX6 47 RX6 yX6_count wsX6_count) := goodIn_app (goodIn_of _ (by decide +kernel)) ggX6_restoreSnapshot_X6_count
theorem dX6_restoreSnapshot_0 : decode cX6_restoreSnapshot 0 = .ok (.aload_n 0, 1) := by decide +kernel
theorem dX6_restoreSnapshot_1 : decode cX6_restoreSnapshot 1 = .ok (.getfield 147, 3) := by decide +kernel
theorem dX6_restoreSnapshot_4 : decode cX6_restoreSnapshot 4 = .ok (.ifCond .ne 9, 3) := by decide +kernel
theorem dX6_restoreSnapshot_7 : decode cX6_restoreSnapshot 7 = .ok (.aload_n 0, 1) := by decide +kernel
theorem dX6_restoreSnapshot_8 : decode cX6_restoreSnapshot 8 = .ok (.iconst 1, 1) := by decide +kernel
theorem dX6_restoreSnapshot_9 : decode cX6_restoreSnapshot 9 = .ok (.invokevirtual 89, 3) := by decide +kernel
theorem dX6_restoreSnapshot_12 : decode cX6_restoreSnapshot 12 = .ok (.ireturn, 1) := by decide +kernel
theorem dX6_restoreSnapshot_13 : decode cX6_restoreSnapshot 13 = .ok (.aload_n 0, 1) := by decide +kernel
theorem dX6_restoreSnapshot_14 : decode cX6_restoreSnapshot 14 = .ok (.invokevirtual 95, 3) := by decide +kernel
theorem dX6_restoreSnapshot_17 : decode cX6_restoreSnapshot 17 = .ok (.iconst 0, 1) := by decide +kernel
theorem dX6_restoreSnapshot_18 : decode cX6_restoreSnapshot 18 = .ok (.istore_n 1, 1) := by decide +kernel
theorem dX6_restoreSnapshot_19 : decode cX6_restoreSnapshot 19 = .ok (.iload_n 1, 1) := by decide +kernel
theorem dX6_restoreSnapshot_20 : decode cX6_restoreSnapshot 20 = .ok (.bipush 21, 2) := by decide +kernel
theorem dX6_restoreSnapshot_22 : decode cX6_restoreSnapshot 22 = .ok (.if_icmp .ge 21, 3) := by decide +kernel
theorem dX6_restoreSnapshot_25 : decode cX6_restoreSnapshot 25 = .ok (.aload_n 0, 1) := by decide +kernel
theorem dX6_restoreSnapshot_26 : decode cX6_restoreSnapshot 26 = .ok (.getfield 7, 3) := by decide +kernel
theorem dX6_restoreSnapshot_29 : decode cX6_restoreSnapshot 29 = .ok (.iload_n 1, 1) := by decide +kernel
theorem dX6_restoreSnapshot_30 : decode cX6_restoreSnapshot 30 = .ok (.aload_n 0, 1) := by decide +kernel
theorem dX6_restoreSnapshot_31 : decode cX6_restoreSnapshot 31 = .ok (.getfield 19, 3) := by decide +kernel
theorem dX6_restoreSnapshot_34 : decode cX6_restoreSnapshot 34 = .ok (.iload_n 1, 1) := by decide +kernel
theorem dX6_restoreSnapshot_35 : decode cX6_restoreSnapshot 35 = .ok (.iaload, 1) := by decide +kernel
theorem dX6_restoreSnapshot_36 : decode cX6_restoreSnapshot 36 = .ok (.iastore, 1) := by decide +kernel
theorem dX6_restoreSnapshot_37 : decode cX6_restoreSnapshot 37 = .ok (.iinc 1 1, 3) := by decide +kernel
theorem dX6_restoreSnapshot_40 : decode cX6_restoreSnapshot 40 = .ok (.goto (-21), 3) := by decide +kernel
theorem dX6_restoreSnapshot_43 : decode cX6_restoreSnapshot 43 = .ok (.aload_n 0, 1) := by decide +kernel
theorem dX6_restoreSnapshot_44 : decode cX6_restoreSnapshot 44 = .ok (.invokevirtual 47, 3) := by decide +kernel
theorem dX6_restoreSnapshot_47 : decode cX6_restoreSnapshot 47 = .ok (.ireturn, 1) := by decide +kernel
set_option maxRecDepth 20000 in
theorem ggX6_playerToMove_X6_isOverNow : GoodIn wsX6_playerToMove wsX6_isOverNow := goodIn_r _ [5, 6, 7, 8, 9, 4, 10, 20, 21, 22, 23, 24, 25, 26, 27, 28, 29, 30, 31, 32, 33, 34, 35, 36, 37] (by decide +kernel) (by decide +kernel)
set_option maxRecDepth 20000 in
theorem gX6_playerToMove_X6_isOverNow : GoodIn wsX6_playerToMove (wsV RX6 71 RX6 yX6_isOverNow wsX6_isOverNow) := goodIn_app (goodIn_of _ (by decide +kernel)) ggX6_playerToMove_X6_isOverNow
set_option maxRecDepth 20000 in
theorem ggX6_playerToMove_X6_mover : GoodIn wsX6_playerToMove wsX6_mover := goodIn_r _ [14, 6, 7, 8, 9, 4, 10, 20, 21, 22, 23, 24, 25, 26, 27, 28, 29, 30, 31, 32, 33, 34, 35, 36, 37] (by decide +kernel) (by decide +kernel)
set_option maxRecDepth 20000 in
theorem gX6_playerToMove_X6_mover : GoodIn wsX6_playerToMove (wsV RX6 82 RX6 yX6_mover wsX6_mover) := goodIn_app (goodIn_of _ (by decide +kernel)) ggX6_playerToMove_X6_mover
set_option maxRecDepth 20000 in
theorem ggX6_playerToMove_X6_told : GoodIn wsX6_playerToMove wsX6_told := goodIn_r _ [18, 19, 20, 21, 22, 23, 24, 25, 26, 27, 28, 29, 30, 31, 32, 33, 34, 35, 36, 37] (by decide +kernel) (by decide +kernel)
set_option maxRecDepth 20000 in
theorem gX6_playerToMove_X6_told : GoodIn wsX6_playerToMove (wsV RX6 131 RX6 yX6_told wsX6_told) := goodIn_app (goodIn_of _ (by decide +kernel)) ggX6_playerToMove_X6_told
theorem dX6_playerToMove_0 : decode cX6_playerToMove 0 = .ok (.aload_n 0, 1) := by decide +kernel
theorem dX6_playerToMove_1 : decode cX6_playerToMove 1 = .ok (.aload_n 0, 1) := by decide +kernel
theorem dX6_playerToMove_2 : decode cX6_playerToMove 2 = .ok (.invokevirtual 71, 3) := by decide +kernel
theorem dX6_playerToMove_5 : decode cX6_playerToMove 5 = .ok (.ifCond .eq 7, 3) := by decide +kernel
theorem dX6_playerToMove_8 : decode cX6_playerToMove 8 = .ok (.iconst (-1), 1) := by decide +kernel
theorem dX6_playerToMove_9 : decode cX6_playerToMove 9 = .ok (.goto 7, 3) := by decide +kernel
theorem dX6_playerToMove_12 : decode cX6_playerToMove 12 = .ok (.aload_n 0, 1) := by decide +kernel
theorem dX6_playerToMove_13 : decode cX6_playerToMove 13 = .ok (.invokevirtual 82, 3) := by decide +kernel
theorem dX6_playerToMove_16 : decode cX6_playerToMove 16 = .ok (.invokevirtual 131, 3) := by decide +kernel
theorem dX6_playerToMove_19 : decode cX6_playerToMove 19 = .ok (.ireturn, 1) := by decide +kernel
set_option maxRecDepth 20000 in
theorem ggX6_gift_X6_told : GoodIn wsX6_gift wsX6_told := goodIn_r _ [6, 7, 8, 9, 10, 11, 12, 13, 14, 15, 16, 17, 18, 19, 20, 21, 22, 23, 24, 25] (by decide +kernel) (by decide +kernel)
set_option maxRecDepth 20000 in
theorem gX6_gift_X6_told : GoodIn wsX6_gift (wsV RX6 131 RX6 yX6_told wsX6_told) := goodIn_app (goodIn_of _ (by decide +kernel)) ggX6_gift_X6_told
theorem dX6_gift_0 : decode cX6_gift 0 = .ok (.aload_n 0, 1) := by decide +kernel
theorem dX6_gift_1 : decode cX6_gift 1 = .ok (.aload_n 0, 1) := by decide +kernel
theorem dX6_gift_2 : decode cX6_gift 2 = .ok (.getfield 7, 3) := by decide +kernel
theorem dX6_gift_5 : decode cX6_gift 5 = .ok (.bipush 16, 2) := by decide +kernel
theorem dX6_gift_7 : decode cX6_gift 7 = .ok (.iaload, 1) := by decide +kernel
theorem dX6_gift_8 : decode cX6_gift 8 = .ok (.iconst 1, 1) := by decide +kernel
theorem dX6_gift_9 : decode cX6_gift 9 = .ok (.isub, 1) := by decide +kernel
theorem dX6_gift_10 : decode cX6_gift 10 = .ok (.invokevirtual 131, 3) := by decide +kernel
theorem dX6_gift_13 : decode cX6_gift 13 = .ok (.ireturn, 1) := by decide +kernel
set_option maxRecDepth 20000 in
theorem ggX6_pieceOn_X6_isPlace : GoodIn wsX6_pieceOn wsX6_isPlace := goodIn_r _ [5, 6, 7, 8, 4, 9] (by decide +kernel) (by decide +kernel)
set_option maxRecDepth 20000 in
theorem gX6_pieceOn_X6_isPlace : GoodIn wsX6_pieceOn (va_wsS RX6 85 yX6_isPlace wsX6_isPlace) := goodIn_app (goodIn_of _ (by decide +kernel)) ggX6_pieceOn_X6_isPlace
set_option maxRecDepth 20000 in
theorem ggX6_pieceOn_X6_told : GoodIn wsX6_pieceOn wsX6_told := goodIn_r _ [13, 14, 19, 20, 21, 22, 23, 24, 25, 26, 27, 28, 29, 30, 31, 32, 33, 34, 35, 36] (by decide +kernel) (by decide +kernel)
set_option maxRecDepth 20000 in
theorem gX6_pieceOn_X6_told : GoodIn wsX6_pieceOn (wsV RX6 131 RX6 yX6_told wsX6_told) := goodIn_app (goodIn_of _ (by decide +kernel)) ggX6_pieceOn_X6_told
set_option maxRecDepth 20000 in
theorem ggX6_pieceOn_X6_fails : GoodIn wsX6_pieceOn wsX6_fails := goodIn_r _ [18, 14, 19, 20, 21, 22, 23, 24, 25, 26, 27, 28, 29, 30, 31, 32, 33, 34, 35, 36] (by decide +kernel) (by decide +kernel)
set_option maxRecDepth 20000 in
theorem gX6_pieceOn_X6_fails : GoodIn wsX6_pieceOn (wsV RX6 89 RX6 yX6_fails wsX6_fails) := goodIn_app (goodIn_of _ (by decide +kernel)) ggX6_pieceOn_X6_fails
theorem dX6_pieceOn_0 : decode cX6_pieceOn 0 = .ok (.iload_n 1, 1) := by decide +kernel
theorem dX6_pieceOn_1 : decode cX6_pieceOn 1 = .ok (.invokestatic 85, 3) := by decide +kernel
theorem dX6_pieceOn_4 : decode cX6_pieceOn 4 = .ok (.ifCond .eq 20, 3) := by decide +kernel
theorem dX6_pieceOn_7 : decode cX6_pieceOn 7 = .ok (.aload_n 0, 1) := by decide +kernel
theorem dX6_pieceOn_8 : decode cX6_pieceOn 8 = .ok (.aload_n 0, 1) := by decide +kernel
theorem dX6_pieceOn_9 : decode cX6_pieceOn 9 = .ok (.getfield 7, 3) := by decide +kernel
theorem dX6_pieceOn_12 : decode cX6_pieceOn 12 = .ok (.iconst 0, 1) := by decide +kernel
theorem dX6_pieceOn_13 : decode cX6_pieceOn 13 = .ok (.iload_n 1, 1) := by decide +kernel
theorem dX6_pieceOn_14 : decode cX6_pieceOn 14 = .ok (.iadd, 1) := by decide +kernel
theorem dX6_pieceOn_15 : decode cX6_pieceOn 15 = .ok (.iaload, 1) := by decide +kernel
theorem dX6_pieceOn_16 : decode cX6_pieceOn 16 = .ok (.iconst 1, 1) := by decide +kernel
theorem dX6_pieceOn_17 : decode cX6_pieceOn 17 = .ok (.isub, 1) := by decide +kernel
theorem dX6_pieceOn_18 : decode cX6_pieceOn 18 = .ok (.invokevirtual 131, 3) := by decide +kernel
theorem dX6_pieceOn_21 : decode cX6_pieceOn 21 = .ok (.goto 8, 3) := by decide +kernel
theorem dX6_pieceOn_24 : decode cX6_pieceOn 24 = .ok (.aload_n 0, 1) := by decide +kernel
theorem dX6_pieceOn_25 : decode cX6_pieceOn 25 = .ok (.iconst 1, 1) := by decide +kernel
theorem dX6_pieceOn_26 : decode cX6_pieceOn 26 = .ok (.invokevirtual 89, 3) := by decide +kernel
theorem dX6_pieceOn_29 : decode cX6_pieceOn 29 = .ok (.ireturn, 1) := by decide +kernel
set_option maxRecDepth 20000 in
theorem ggX6_cellOf_X6_isPlace : GoodIn wsX6_cellOf wsX6_isPlace := goodIn_r _ [4, 5, 6, 7, 3, 8] (by decide +kernel) (by decide +kernel)
set_option maxRecDepth 20000 in
theorem gX6_cellOf_X6_isPlace : GoodIn wsX6_cellOf (va_wsS RX6 85 yX6_isPlace wsX6_isPlace) := goodIn_app (goodIn_of _ (by decide +kernel)) ggX6_cellOf_X6_isPlace
set_option maxRecDepth 20000 in
theorem ggX6_cellOf_X6_cell : GoodIn wsX6_cellOf wsX6_cell := goodIn_r _ [12, 13, 23, 24, 25, 26, 27, 28, 29, 30, 31, 32, 33, 34, 35, 36, 37, 38, 39, 40] (by decide +kernel) (by decide +kernel)
set_option maxRecDepth 20000 in
theorem gX6_cellOf_X6_cell : GoodIn wsX6_cellOf (wsV RX6 75 RX6 yX6_cell wsX6_cell) := goodIn_app (goodIn_of _ (by decide +kernel)) ggX6_cellOf_X6_cell
set_option maxRecDepth 20000 in
theorem ggX6_cellOf_X6_told : GoodIn wsX6_cellOf wsX6_told := goodIn_r _ [17, 18, 23, 24, 25, 26, 27, 28, 29, 30, 31, 32, 33, 34, 35, 36, 37, 38, 39, 40] (by decide +kernel) (by decide +kernel)
set_option maxRecDepth 20000 in
theorem gX6_cellOf_X6_told : GoodIn wsX6_cellOf (wsV RX6 131 RX6 yX6_told wsX6_told) := goodIn_app (goodIn_of _ (by decide +kernel)) ggX6_cellOf_X6_told
set_option maxRecDepth 20000 in
theorem ggX6_cellOf_X6_fails : GoodIn wsX6_cellOf wsX6_fails := goodIn_r _ [22, 18, 23, 24, 25, 26, 27, 28, 29, 30, 31, 32, 33, 34, 35, 36, 37, 38, 39, 40] (by decide +kernel) (by decide +kernel)
set_option maxRecDepth 20000 in
theorem gX6_cellOf_X6_fails : GoodIn wsX6_cellOf (wsV RX6 89 RX6 yX6_fails wsX6_fails) := goodIn_app (goodIn_of _ (by decide +kernel)) ggX6_cellOf_X6_fails
theorem dX6_cellOf_0 : decode cX6_cellOf 0 = .ok (.iload_n 1, 1) := by decide +kernel
theorem dX6_cellOf_1 : decode cX6_cellOf 1 = .ok (.invokestatic 85, 3) := by decide +kernel
theorem dX6_cellOf_4 : decode cX6_cellOf 4 = .ok (.ifCond .eq 15, 3) := by decide +kernel
theorem dX6_cellOf_7 : decode cX6_cellOf 7 = .ok (.aload_n 0, 1) := by decide +kernel
theorem dX6_cellOf_8 : decode cX6_cellOf 8 = .ok (.aload_n 0, 1) := by decide +kernel
theorem dX6_cellOf_9 : decode cX6_cellOf 9 = .ok (.iload_n 1, 1) := by decide +kernel
theorem dX6_cellOf_10 : decode cX6_cellOf 10 = .ok (.invokevirtual 75, 3) := by decide +kernel
theorem dX6_cellOf_13 : decode cX6_cellOf 13 = .ok (.invokevirtual 131, 3) := by decide +kernel
theorem dX6_cellOf_16 : decode cX6_cellOf 16 = .ok (.goto 8, 3) := by decide +kernel
theorem dX6_cellOf_19 : decode cX6_cellOf 19 = .ok (.aload_n 0, 1) := by decide +kernel
theorem dX6_cellOf_20 : decode cX6_cellOf 20 = .ok (.iconst 1, 1) := by decide +kernel
theorem dX6_cellOf_21 : decode cX6_cellOf 21 = .ok (.invokevirtual 89, 3) := by decide +kernel
theorem dX6_cellOf_24 : decode cX6_cellOf 24 = .ok (.ireturn, 1) := by decide +kernel
set_option maxRecDepth 20000 in
theorem ggX6_placed_X6_count : GoodIn wsX6_placed wsX6_count := goodIn_r _ [5, 6, 12, 13, 14, 15, 16, 17, 18, 19, 20, 21, 22, 23, 24, 25, 26, 27, 28, 29] (by decide +kernel) (by decide +kernel)
set_option maxRecDepth 20000 in
theorem gX6_placed_X6_count : GoodIn wsX6_placed (wsV RX6 47 RX6 yX6_count wsX6_count) := goodIn_app (goodIn_of _ (by decide +kernel)) ggX6_placed_X6_count
set_option maxRecDepth 20000 in
theorem ggX6_placed_X6_told : GoodIn wsX6_placed wsX6_told := goodIn_r _ [10, 11, 12, 13, 14, 15, 16, 17, 18, 19, 20, 21, 22, 23, 24, 25, 26, 27, 28, 29] (by decide +kernel) (by decide +kernel)
set_option maxRecDepth 20000 in
theorem gX6_placed_X6_told : GoodIn wsX6_placed (wsV RX6 131 RX6 yX6_told wsX6_told) := goodIn_app (goodIn_of _ (by decide +kernel)) ggX6_placed_X6_told
theorem dX6_placed_0 : decode cX6_placed 0 = .ok (.aload_n 0, 1) := by decide +kernel
theorem dX6_placed_1 : decode cX6_placed 1 = .ok (.aload_n 0, 1) := by decide +kernel
theorem dX6_placed_2 : decode cX6_placed 2 = .ok (.invokevirtual 47, 3) := by decide +kernel
theorem dX6_placed_5 : decode cX6_placed 5 = .ok (.invokevirtual 131, 3) := by decide +kernel
theorem dX6_placed_8 : decode cX6_placed 8 = .ok (.ireturn, 1) := by decide +kernel
set_option maxRecDepth 20000 in
theorem ggX6_winner_X6_told : GoodIn wsX6_winner wsX6_told := goodIn_r _ [6, 7, 8, 9, 10, 11, 12, 13, 14, 15, 16, 17, 18, 19, 20, 21, 22, 23, 24, 25] (by decide +kernel) (by decide +kernel)
set_option maxRecDepth 20000 in
theorem gX6_winner_X6_told : GoodIn wsX6_winner (wsV RX6 131 RX6 yX6_told wsX6_told) := goodIn_app (goodIn_of _ (by decide +kernel)) ggX6_winner_X6_told
theorem dX6_winner_0 : decode cX6_winner 0 = .ok (.aload_n 0, 1) := by decide +kernel
theorem dX6_winner_1 : decode cX6_winner 1 = .ok (.aload_n 0, 1) := by decide +kernel
theorem dX6_winner_2 : decode cX6_winner 2 = .ok (.getfield 7, 3) := by decide +kernel
theorem dX6_winner_5 : decode cX6_winner 5 = .ok (.bipush 20, 2) := by decide +kernel
theorem dX6_winner_7 : decode cX6_winner 7 = .ok (.iaload, 1) := by decide +kernel
theorem dX6_winner_8 : decode cX6_winner 8 = .ok (.iconst 1, 1) := by decide +kernel
theorem dX6_winner_9 : decode cX6_winner 9 = .ok (.isub, 1) := by decide +kernel
theorem dX6_winner_10 : decode cX6_winner 10 = .ok (.invokevirtual 131, 3) := by decide +kernel
theorem dX6_winner_13 : decode cX6_winner 13 = .ok (.ireturn, 1) := by decide +kernel
set_option maxRecDepth 20000 in
theorem ggX6_isOver_X6_isOverNow : GoodIn wsX6_isOver wsX6_isOverNow := goodIn_r _ [6, 7, 8, 9, 10, 5, 11, 12, 13, 14, 15, 16, 17, 18, 19, 20, 21, 22, 23, 24, 25, 26, 27, 28, 29] (by decide +kernel) (by decide +kernel)
set_option maxRecDepth 20000 in
theorem gX6_isOver_X6_isOverNow : GoodIn wsX6_isOver (wsV RX6 71 RX6 yX6_isOverNow wsX6_isOverNow) := goodIn_app (goodIn_of _ (by decide +kernel)) ggX6_isOver_X6_isOverNow
theorem dX6_isOver_0 : decode cX6_isOver 0 = .ok (.aload_n 0, 1) := by decide +kernel
theorem dX6_isOver_1 : decode cX6_isOver 1 = .ok (.iconst 0, 1) := by decide +kernel
theorem dX6_isOver_2 : decode cX6_isOver 2 = .ok (.putfield 34, 3) := by decide +kernel
theorem dX6_isOver_5 : decode cX6_isOver 5 = .ok (.aload_n 0, 1) := by decide +kernel
theorem dX6_isOver_6 : decode cX6_isOver 6 = .ok (.invokevirtual 71, 3) := by decide +kernel
theorem dX6_isOver_9 : decode cX6_isOver 9 = .ok (.ireturn, 1) := by decide +kernel
set_option maxRecDepth 20000 in
theorem ggX6_lines_X6_linesNow : GoodIn wsX6_lines wsX6_linesNow := goodIn_r _ [5, 6, 12, 13, 14, 15, 16, 17, 18, 19, 20, 21, 22, 23, 24, 25, 26, 27, 28, 29] (by decide +kernel) (by decide +kernel)
set_option maxRecDepth 20000 in
theorem gX6_lines_X6_linesNow : GoodIn wsX6_lines (wsV RX6 59 RX6 yX6_linesNow wsX6_linesNow) := goodIn_app (goodIn_of _ (by decide +kernel)) ggX6_lines_X6_linesNow
set_option maxRecDepth 20000 in
theorem ggX6_lines_X6_told : GoodIn wsX6_lines wsX6_told := goodIn_r _ [10, 11, 12, 13, 14, 15, 16, 17, 18, 19, 20, 21, 22, 23, 24, 25, 26, 27, 28, 29] (by decide +kernel) (by decide +kernel)
set_option maxRecDepth 20000 in
theorem gX6_lines_X6_told : GoodIn wsX6_lines (wsV RX6 131 RX6 yX6_told wsX6_told) := goodIn_app (goodIn_of _ (by decide +kernel)) ggX6_lines_X6_told
theorem dX6_lines_0 : decode cX6_lines 0 = .ok (.aload_n 0, 1) := by decide +kernel
theorem dX6_lines_1 : decode cX6_lines 1 = .ok (.aload_n 0, 1) := by decide +kernel
theorem dX6_lines_2 : decode cX6_lines 2 = .ok (.invokevirtual 59, 3) := by decide +kernel
theorem dX6_lines_5 : decode cX6_lines 5 = .ok (.invokevirtual 131, 3) := by decide +kernel
theorem dX6_lines_8 : decode cX6_lines 8 = .ok (.ireturn, 1) := by decide +kernel
set_option maxRecDepth 20000 in
theorem ggX6_piecesOn_X6_linesNow : GoodIn wsX6_piecesOn wsX6_linesNow := goodIn_r _ [5, 6, 26, 27, 28, 29, 30, 31, 32, 33, 34, 35, 36, 37, 38, 39, 40, 41, 42, 43] (by decide +kernel) (by decide +kernel)
set_option maxRecDepth 20000 in
theorem gX6_piecesOn_X6_linesNow : GoodIn wsX6_piecesOn (wsV RX6 59 RX6 yX6_linesNow wsX6_linesNow) := goodIn_app (goodIn_of _ (by decide +kernel)) ggX6_piecesOn_X6_linesNow
set_option maxRecDepth 20000 in
theorem ggX6_piecesOn_X6_in : GoodIn wsX6_piecesOn wsX6_in := goodIn_r _ [9] (by decide +kernel) (by decide +kernel)
set_option maxRecDepth 20000 in
theorem gX6_piecesOn_X6_in : GoodIn wsX6_piecesOn (va_wsS RX6 43 yX6_in wsX6_in) := goodIn_app (goodIn_of _ (by decide +kernel)) ggX6_piecesOn_X6_in
set_option maxRecDepth 20000 in
theorem ggX6_piecesOn_X6_many : GoodIn wsX6_piecesOn wsX6_many := goodIn_r _ [13, 6, 14, 15, 4, 16, 26, 27, 28, 29, 30, 31, 32, 33, 34, 35, 36, 37, 38, 39, 40, 41, 42, 43] (by decide +kernel) (by decide +kernel)
set_option maxRecDepth 20000 in
theorem gX6_piecesOn_X6_many : GoodIn wsX6_piecesOn (wsV RX6 62 RX6 yX6_many wsX6_many) := goodIn_app (goodIn_of _ (by decide +kernel)) ggX6_piecesOn_X6_many
set_option maxRecDepth 20000 in
theorem ggX6_piecesOn_X6_told : GoodIn wsX6_piecesOn wsX6_told := goodIn_r _ [20, 21, 26, 27, 28, 29, 30, 31, 32, 33, 34, 35, 36, 37, 38, 39, 40, 41, 42, 43] (by decide +kernel) (by decide +kernel)
set_option maxRecDepth 20000 in
theorem gX6_piecesOn_X6_told : GoodIn wsX6_piecesOn (wsV RX6 131 RX6 yX6_told wsX6_told) := goodIn_app (goodIn_of _ (by decide +kernel)) ggX6_piecesOn_X6_told
set_option maxRecDepth 20000 in
theorem ggX6_piecesOn_X6_fails : GoodIn wsX6_piecesOn wsX6_fails := goodIn_r _ [25, 21, 26, 27, 28, 29, 30, 31, 32, 33, 34, 35, 36, 37, 38, 39, 40, 41, 42, 43] (by decide +kernel) (by decide +kernel)
set_option maxRecDepth 20000 in
theorem gX6_piecesOn_X6_fails : GoodIn wsX6_piecesOn (wsV RX6 89 RX6 yX6_fails wsX6_fails) := goodIn_app (goodIn_of _ (by decide +kernel)) ggX6_piecesOn_X6_fails
theorem dX6_piecesOn_0 : decode cX6_piecesOn 0 = .ok (.iload_n 1, 1) := by decide +kernel
theorem dX6_piecesOn_1 : decode cX6_piecesOn 1 = .ok (.i2l, 1) := by decide +kernel
theorem dX6_piecesOn_2 : decode cX6_piecesOn 2 = .ok (.lconst 0, 1) := by decide +kernel
theorem dX6_piecesOn_3 : decode cX6_piecesOn 3 = .ok (.aload_n 0, 1) := by decide +kernel
theorem dX6_piecesOn_4 : decode cX6_piecesOn 4 = .ok (.invokevirtual 59, 3) := by decide +kernel
theorem dX6_piecesOn_7 : decode cX6_piecesOn 7 = .ok (.i2l, 1) := by decide +kernel
theorem dX6_piecesOn_8 : decode cX6_piecesOn 8 = .ok (.lconst 1, 1) := by decide +kernel
theorem dX6_piecesOn_9 : decode cX6_piecesOn 9 = .ok (.lsub, 1) := by decide +kernel
theorem dX6_piecesOn_10 : decode cX6_piecesOn 10 = .ok (.invokestatic 43, 3) := by decide +kernel
theorem dX6_piecesOn_13 : decode cX6_piecesOn 13 = .ok (.ifCond .eq 15, 3) := by decide +kernel
theorem dX6_piecesOn_16 : decode cX6_piecesOn 16 = .ok (.aload_n 0, 1) := by decide +kernel
theorem dX6_piecesOn_17 : decode cX6_piecesOn 17 = .ok (.aload_n 0, 1) := by decide +kernel
theorem dX6_piecesOn_18 : decode cX6_piecesOn 18 = .ok (.iload_n 1, 1) := by decide +kernel
theorem dX6_piecesOn_19 : decode cX6_piecesOn 19 = .ok (.invokevirtual 62, 3) := by decide +kernel
theorem dX6_piecesOn_22 : decode cX6_piecesOn 22 = .ok (.invokevirtual 131, 3) := by decide +kernel
theorem dX6_piecesOn_25 : decode cX6_piecesOn 25 = .ok (.goto 8, 3) := by decide +kernel
theorem dX6_piecesOn_28 : decode cX6_piecesOn 28 = .ok (.aload_n 0, 1) := by decide +kernel
theorem dX6_piecesOn_29 : decode cX6_piecesOn 29 = .ok (.iconst 1, 1) := by decide +kernel
theorem dX6_piecesOn_30 : decode cX6_piecesOn 30 = .ok (.invokevirtual 89, 3) := by decide +kernel
theorem dX6_piecesOn_33 : decode cX6_piecesOn 33 = .ok (.ireturn, 1) := by decide +kernel
set_option maxRecDepth 20000 in
theorem ggX6_sharedOn_X6_linesNow : GoodIn wsX6_sharedOn wsX6_linesNow := goodIn_r _ [5, 6, 29, 30, 31, 32, 33, 34, 35, 36, 37, 38, 39, 40, 41, 42, 43, 44, 45, 46] (by decide +kernel) (by decide +kernel)
set_option maxRecDepth 20000 in
theorem gX6_sharedOn_X6_linesNow : GoodIn wsX6_sharedOn (wsV RX6 59 RX6 yX6_linesNow wsX6_linesNow) := goodIn_app (goodIn_of _ (by decide +kernel)) ggX6_sharedOn_X6_linesNow
set_option maxRecDepth 20000 in
theorem ggX6_sharedOn_X6_in : GoodIn wsX6_sharedOn wsX6_in := goodIn_r _ [9] (by decide +kernel) (by decide +kernel)
set_option maxRecDepth 20000 in
theorem gX6_sharedOn_X6_in : GoodIn wsX6_sharedOn (va_wsS RX6 43 yX6_in wsX6_in) := goodIn_app (goodIn_of _ (by decide +kernel)) ggX6_sharedOn_X6_in
set_option maxRecDepth 20000 in
theorem ggX6_sharedOn_X6_shared : GoodIn wsX6_sharedOn wsX6_shared := goodIn_r _ [13, 6, 14, 15, 4, 16, 17, 18, 19, 29, 30, 31, 32, 33, 34, 35, 36, 37, 38, 39, 40, 41, 42, 43, 44, 45, 46] (by decide +kernel) (by decide +kernel)
set_option maxRecDepth 20000 in
theorem gX6_sharedOn_X6_shared : GoodIn wsX6_sharedOn (wsV RX6 65 RX6 yX6_shared wsX6_shared) := goodIn_app (goodIn_of _ (by decide +kernel)) ggX6_sharedOn_X6_shared
set_option maxRecDepth 20000 in
theorem ggX6_sharedOn_X6_told : GoodIn wsX6_sharedOn wsX6_told := goodIn_r _ [23, 24, 29, 30, 31, 32, 33, 34, 35, 36, 37, 38, 39, 40, 41, 42, 43, 44, 45, 46] (by decide +kernel) (by decide +kernel)
set_option maxRecDepth 20000 in
theorem gX6_sharedOn_X6_told : GoodIn wsX6_sharedOn (wsV RX6 131 RX6 yX6_told wsX6_told) := goodIn_app (goodIn_of _ (by decide +kernel)) ggX6_sharedOn_X6_told
set_option maxRecDepth 20000 in
theorem ggX6_sharedOn_X6_fails : GoodIn wsX6_sharedOn wsX6_fails := goodIn_r _ [28, 24, 29, 30, 31, 32, 33, 34, 35, 36, 37, 38, 39, 40, 41, 42, 43, 44, 45, 46] (by decide +kernel) (by decide +kernel)
set_option maxRecDepth 20000 in
theorem gX6_sharedOn_X6_fails : GoodIn wsX6_sharedOn (wsV RX6 89 RX6 yX6_fails wsX6_fails) := goodIn_app (goodIn_of _ (by decide +kernel)) ggX6_sharedOn_X6_fails
theorem dX6_sharedOn_0 : decode cX6_sharedOn 0 = .ok (.iload_n 1, 1) := by decide +kernel
theorem dX6_sharedOn_1 : decode cX6_sharedOn 1 = .ok (.i2l, 1) := by decide +kernel
theorem dX6_sharedOn_2 : decode cX6_sharedOn 2 = .ok (.lconst 0, 1) := by decide +kernel
theorem dX6_sharedOn_3 : decode cX6_sharedOn 3 = .ok (.aload_n 0, 1) := by decide +kernel
theorem dX6_sharedOn_4 : decode cX6_sharedOn 4 = .ok (.invokevirtual 59, 3) := by decide +kernel
theorem dX6_sharedOn_7 : decode cX6_sharedOn 7 = .ok (.i2l, 1) := by decide +kernel
theorem dX6_sharedOn_8 : decode cX6_sharedOn 8 = .ok (.lconst 1, 1) := by decide +kernel
theorem dX6_sharedOn_9 : decode cX6_sharedOn 9 = .ok (.lsub, 1) := by decide +kernel
theorem dX6_sharedOn_10 : decode cX6_sharedOn 10 = .ok (.invokestatic 43, 3) := by decide +kernel
theorem dX6_sharedOn_13 : decode cX6_sharedOn 13 = .ok (.ifCond .eq 15, 3) := by decide +kernel
theorem dX6_sharedOn_16 : decode cX6_sharedOn 16 = .ok (.aload_n 0, 1) := by decide +kernel
theorem dX6_sharedOn_17 : decode cX6_sharedOn 17 = .ok (.aload_n 0, 1) := by decide +kernel
theorem dX6_sharedOn_18 : decode cX6_sharedOn 18 = .ok (.iload_n 1, 1) := by decide +kernel
theorem dX6_sharedOn_19 : decode cX6_sharedOn 19 = .ok (.invokevirtual 65, 3) := by decide +kernel
theorem dX6_sharedOn_22 : decode cX6_sharedOn 22 = .ok (.invokevirtual 131, 3) := by decide +kernel
theorem dX6_sharedOn_25 : decode cX6_sharedOn 25 = .ok (.goto 8, 3) := by decide +kernel
theorem dX6_sharedOn_28 : decode cX6_sharedOn 28 = .ok (.aload_n 0, 1) := by decide +kernel
theorem dX6_sharedOn_29 : decode cX6_sharedOn 29 = .ok (.iconst 1, 1) := by decide +kernel
theorem dX6_sharedOn_30 : decode cX6_sharedOn 30 = .ok (.invokevirtual 89, 3) := by decide +kernel
theorem dX6_sharedOn_33 : decode cX6_sharedOn 33 = .ok (.ireturn, 1) := by decide +kernel
set_option maxRecDepth 20000 in
theorem ggX6_wonLines_X6_won : GoodIn wsX6_wonLines wsX6_won := goodIn_r _ [5, 6, 7, 8, 4, 9, 10, 11, 12, 13, 14, 15, 16, 17, 18, 19, 20, 21, 22, 23, 24, 30, 31, 32, 33, 34, 35, 36, 37, 38, 39, 40, 41, 42, 43, 44, 45, 46, 47] (by decide +kernel) (by decide +kernel)
set_option maxRecDepth 20000 in
theorem gX6_wonLines_X6_won : GoodIn wsX6_wonLines (wsV RX6 68 RX6 yX6_won wsX6_won) := goodIn_app (goodIn_of _ (by decide +kernel)) ggX6_wonLines_X6_won
set_option maxRecDepth 20000 in
theorem ggX6_wonLines_X6_told : GoodIn wsX6_wonLines wsX6_told := goodIn_r _ [28, 29, 30, 31, 32, 33, 34, 35, 36, 37, 38, 39, 40, 41, 42, 43, 44, 45, 46, 47] (by decide +kernel) (by decide +kernel)
set_option maxRecDepth 20000 in
theorem gX6_wonLines_X6_told : GoodIn wsX6_wonLines (wsV RX6 131 RX6 yX6_told wsX6_told) := goodIn_app (goodIn_of _ (by decide +kernel)) ggX6_wonLines_X6_told
theorem dX6_wonLines_0 : decode cX6_wonLines 0 = .ok (.aload_n 0, 1) := by decide +kernel
theorem dX6_wonLines_1 : decode cX6_wonLines 1 = .ok (.aload_n 0, 1) := by decide +kernel
theorem dX6_wonLines_2 : decode cX6_wonLines 2 = .ok (.invokevirtual 68, 3) := by decide +kernel
theorem dX6_wonLines_5 : decode cX6_wonLines 5 = .ok (.invokevirtual 131, 3) := by decide +kernel
theorem dX6_wonLines_8 : decode cX6_wonLines 8 = .ok (.ireturn, 1) := by decide +kernel
set_option maxRecDepth 20000 in
theorem ggX6_winsOf_X6_in : GoodIn wsX6_winsOf wsX6_in := goodIn_r _ [5] (by decide +kernel) (by decide +kernel)
set_option maxRecDepth 20000 in
theorem gX6_winsOf_X6_in : GoodIn wsX6_winsOf (va_wsS RX6 43 yX6_in wsX6_in) := goodIn_app (goodIn_of _ (by decide +kernel)) ggX6_winsOf_X6_in
set_option maxRecDepth 20000 in
theorem ggX6_winsOf_X6_told : GoodIn wsX6_winsOf wsX6_told := goodIn_r _ [9, 10, 15, 16, 17, 18, 19, 20, 21, 22, 23, 24, 25, 26, 27, 28, 29, 30, 31, 32] (by decide +kernel) (by decide +kernel)
set_option maxRecDepth 20000 in
theorem gX6_winsOf_X6_told : GoodIn wsX6_winsOf (wsV RX6 131 RX6 yX6_told wsX6_told) := goodIn_app (goodIn_of _ (by decide +kernel)) ggX6_winsOf_X6_told
set_option maxRecDepth 20000 in
theorem ggX6_winsOf_X6_fails : GoodIn wsX6_winsOf wsX6_fails := goodIn_r _ [14, 10, 15, 16, 17, 18, 19, 20, 21, 22, 23, 24, 25, 26, 27, 28, 29, 30, 31, 32] (by decide +kernel) (by decide +kernel)
set_option maxRecDepth 20000 in
theorem gX6_winsOf_X6_fails : GoodIn wsX6_winsOf (wsV RX6 89 RX6 yX6_fails wsX6_fails) := goodIn_app (goodIn_of _ (by decide +kernel)) ggX6_winsOf_X6_fails
theorem dX6_winsOf_0 : decode cX6_winsOf 0 = .ok (.iload_n 1, 1) := by decide +kernel
theorem dX6_winsOf_1 : decode cX6_winsOf 1 = .ok (.i2l, 1) := by decide +kernel
theorem dX6_winsOf_2 : decode cX6_winsOf 2 = .ok (.lconst 0, 1) := by decide +kernel
theorem dX6_winsOf_3 : decode cX6_winsOf 3 = .ok (.lconst 1, 1) := by decide +kernel
theorem dX6_winsOf_4 : decode cX6_winsOf 4 = .ok (.invokestatic 43, 3) := by decide +kernel
theorem dX6_winsOf_7 : decode cX6_winsOf 7 = .ok (.ifCond .eq 19, 3) := by decide +kernel
theorem dX6_winsOf_10 : decode cX6_winsOf 10 = .ok (.aload_n 0, 1) := by decide +kernel
theorem dX6_winsOf_11 : decode cX6_winsOf 11 = .ok (.aload_n 0, 1) := by decide +kernel
theorem dX6_winsOf_12 : decode cX6_winsOf 12 = .ok (.getfield 7, 3) := by decide +kernel
theorem dX6_winsOf_15 : decode cX6_winsOf 15 = .ok (.bipush 18, 2) := by decide +kernel
theorem dX6_winsOf_17 : decode cX6_winsOf 17 = .ok (.iload_n 1, 1) := by decide +kernel
theorem dX6_winsOf_18 : decode cX6_winsOf 18 = .ok (.iadd, 1) := by decide +kernel
theorem dX6_winsOf_19 : decode cX6_winsOf 19 = .ok (.iaload, 1) := by decide +kernel
theorem dX6_winsOf_20 : decode cX6_winsOf 20 = .ok (.invokevirtual 131, 3) := by decide +kernel
theorem dX6_winsOf_23 : decode cX6_winsOf 23 = .ok (.goto 8, 3) := by decide +kernel
theorem dX6_winsOf_26 : decode cX6_winsOf 26 = .ok (.aload_n 0, 1) := by decide +kernel
theorem dX6_winsOf_27 : decode cX6_winsOf 27 = .ok (.iconst 1, 1) := by decide +kernel
theorem dX6_winsOf_28 : decode cX6_winsOf 28 = .ok (.invokevirtual 89, 3) := by decide +kernel
theorem dX6_winsOf_31 : decode cX6_winsOf 31 = .ok (.ireturn, 1) := by decide +kernel
set_option maxRecDepth 20000 in
theorem ggX6_winningCell_X6_isPlace : GoodIn wsX6_winningCell wsX6_isPlace := goodIn_r _ [4, 5, 6, 7, 3, 8] (by decide +kernel) (by decide +kernel)
set_option maxRecDepth 20000 in
theorem gX6_winningCell_X6_isPlace : GoodIn wsX6_winningCell (va_wsS RX6 85 yX6_isPlace wsX6_isPlace) := goodIn_app (goodIn_of _ (by decide +kernel)) ggX6_winningCell_X6_isPlace
set_option maxRecDepth 20000 in
theorem ggX6_winningCell_X6_winning : GoodIn wsX6_winningCell wsX6_winning := goodIn_r _ [12, 13, 14, 15, 16, 3, 17, 18, 19, 20, 21, 22, 23, 24, 25, 26, 27, 28, 29, 30, 31, 32, 33, 34, 35, 36, 37, 38, 39, 40, 41, 42, 43, 44, 45, 46, 47, 48, 49, 50, 51, 61, 62, 63, 64, 65, 66, 67, 68, 69, 70, 71, 72, 73, 74, 75, 76, 77, 78] (by decide +kernel) (by decide +kernel)
set_option maxRecDepth 20000 in
theorem gX6_winningCell_X6_winning : GoodIn wsX6_winningCell (wsV RX6 150 RX6 yX6_winning wsX6_winning) := goodIn_app (goodIn_of _ (by decide +kernel)) ggX6_winningCell_X6_winning
set_option maxRecDepth 20000 in
theorem ggX6_winningCell_X6_told : GoodIn wsX6_winningCell wsX6_told := goodIn_r _ [55, 56, 61, 62, 63, 64, 65, 66, 67, 68, 69, 70, 71, 72, 73, 74, 75, 76, 77, 78] (by decide +kernel) (by decide +kernel)
set_option maxRecDepth 20000 in
theorem gX6_winningCell_X6_told : GoodIn wsX6_winningCell (wsV RX6 131 RX6 yX6_told wsX6_told) := goodIn_app (goodIn_of _ (by decide +kernel)) ggX6_winningCell_X6_told
set_option maxRecDepth 20000 in
theorem ggX6_winningCell_X6_fails : GoodIn wsX6_winningCell wsX6_fails := goodIn_r _ [60, 56, 61, 62, 63, 64, 65, 66, 67, 68, 69, 70, 71, 72, 73, 74, 75, 76, 77, 78] (by decide +kernel) (by decide +kernel)
set_option maxRecDepth 20000 in
theorem gX6_winningCell_X6_fails : GoodIn wsX6_winningCell (wsV RX6 89 RX6 yX6_fails wsX6_fails) := goodIn_app (goodIn_of _ (by decide +kernel)) ggX6_winningCell_X6_fails
theorem dX6_winningCell_0 : decode cX6_winningCell 0 = .ok (.iload_n 1, 1) := by decide +kernel
theorem dX6_winningCell_1 : decode cX6_winningCell 1 = .ok (.invokestatic 85, 3) := by decide +kernel
theorem dX6_winningCell_4 : decode cX6_winningCell 4 = .ok (.ifCond .eq 15, 3) := by decide +kernel
theorem dX6_winningCell_7 : decode cX6_winningCell 7 = .ok (.aload_n 0, 1) := by decide +kernel
theorem dX6_winningCell_8 : decode cX6_winningCell 8 = .ok (.aload_n 0, 1) := by decide +kernel
theorem dX6_winningCell_9 : decode cX6_winningCell 9 = .ok (.iload_n 1, 1) := by decide +kernel
theorem dX6_winningCell_10 : decode cX6_winningCell 10 = .ok (.invokevirtual 150, 3) := by decide +kernel
theorem dX6_winningCell_13 : decode cX6_winningCell 13 = .ok (.invokevirtual 131, 3) := by decide +kernel
theorem dX6_winningCell_16 : decode cX6_winningCell 16 = .ok (.goto 8, 3) := by decide +kernel
theorem dX6_winningCell_19 : decode cX6_winningCell 19 = .ok (.aload_n 0, 1) := by decide +kernel
theorem dX6_winningCell_20 : decode cX6_winningCell 20 = .ok (.iconst 1, 1) := by decide +kernel
theorem dX6_winningCell_21 : decode cX6_winningCell 21 = .ok (.invokevirtual 89, 3) := by decide +kernel
theorem dX6_winningCell_24 : decode cX6_winningCell 24 = .ok (.ireturn, 1) := by decide +kernel
set_option maxRecDepth 20000 in
theorem ggX6_safe_X6_isOverNow : GoodIn wsX6_safe wsX6_isOverNow := goodIn_r _ [6, 1, 7, 8, 9, 5, 10, 45, 46, 47, 48, 49, 50, 51, 52, 53, 54, 55, 56, 57, 58, 59, 60, 61, 62] (by decide +kernel) (by decide +kernel)
set_option maxRecDepth 20000 in
theorem gX6_safe_X6_isOverNow : GoodIn wsX6_safe (wsV RX6 71 RX6 yX6_isOverNow wsX6_isOverNow) := goodIn_app (goodIn_of _ (by decide +kernel)) ggX6_safe_X6_isOverNow
set_option maxRecDepth 20000 in
theorem ggX6_safe_X6_cell : GoodIn wsX6_safe wsX6_cell := goodIn_r _ [14, 1, 45, 46, 47, 48, 49, 50, 51, 52, 53, 54, 55, 56, 57, 58, 59, 60, 61, 62] (by decide +kernel) (by decide +kernel)
set_option maxRecDepth 20000 in
theorem gX6_safe_X6_cell : GoodIn wsX6_safe (wsV RX6 75 RX6 yX6_cell wsX6_cell) := goodIn_app (goodIn_of _ (by decide +kernel)) ggX6_safe_X6_cell
set_option maxRecDepth 20000 in
theorem ggX6_safe_X6_winning : GoodIn wsX6_safe wsX6_winning := goodIn_r _ [18, 1, 2, 3, 4, 5, 6, 7, 8, 9, 10, 11, 12, 13, 14, 19, 20, 21, 22, 23, 24, 25, 26, 27, 28, 29, 30, 31, 32, 33, 34, 35, 36, 37, 38, 39, 40, 41, 42, 43, 44, 45, 46, 47, 48, 49, 50, 51, 52, 53, 54, 55, 56, 57, 58, 59, 60, 61, 62] (by decide +kernel) (by decide +kernel)
set_option maxRecDepth 20000 in
theorem gX6_safe_X6_winning : GoodIn wsX6_safe (wsV RX6 150 RX6 yX6_winning wsX6_winning) := goodIn_app (goodIn_of _ (by decide +kernel)) ggX6_safe_X6_winning
theorem dX6_safe_0 : decode cX6_safe 0 = .ok (.iconst 0, 1) := by decide +kernel
theorem dX6_safe_1 : decode cX6_safe 1 = .ok (.istore_n 1, 1) := by decide +kernel
theorem dX6_safe_2 : decode cX6_safe 2 = .ok (.iconst 0, 1) := by decide +kernel
theorem dX6_safe_3 : decode cX6_safe 3 = .ok (.istore_n 2, 1) := by decide +kernel
theorem dX6_safe_4 : decode cX6_safe 4 = .ok (.iload_n 2, 1) := by decide +kernel
theorem dX6_safe_5 : decode cX6_safe 5 = .ok (.bipush 16, 2) := by decide +kernel
theorem dX6_safe_7 : decode cX6_safe 7 = .ok (.if_icmp .ge 57, 3) := by decide +kernel
theorem dX6_safe_10 : decode cX6_safe 10 = .ok (.aload_n 0, 1) := by decide +kernel
theorem dX6_safe_11 : decode cX6_safe 11 = .ok (.invokevirtual 71, 3) := by decide +kernel
theorem dX6_safe_14 : decode cX6_safe 14 = .ok (.ifCond .ne 50, 3) := by decide +kernel
theorem dX6_safe_17 : decode cX6_safe 17 = .ok (.iload_n 1, 1) := by decide +kernel
theorem dX6_safe_18 : decode cX6_safe 18 = .ok (.aload_n 0, 1) := by decide +kernel
theorem dX6_safe_19 : decode cX6_safe 19 = .ok (.iload_n 2, 1) := by decide +kernel
theorem dX6_safe_20 : decode cX6_safe 20 = .ok (.invokevirtual 75, 3) := by decide +kernel
theorem dX6_safe_23 : decode cX6_safe 23 = .ok (.iconst (-1), 1) := by decide +kernel
theorem dX6_safe_24 : decode cX6_safe 24 = .ok (.if_icmp .ne 31, 3) := by decide +kernel
theorem dX6_safe_27 : decode cX6_safe 27 = .ok (.aload_n 0, 1) := by decide +kernel
theorem dX6_safe_28 : decode cX6_safe 28 = .ok (.getfield 7, 3) := by decide +kernel
theorem dX6_safe_31 : decode cX6_safe 31 = .ok (.bipush 16, 2) := by decide +kernel
theorem dX6_safe_33 : decode cX6_safe 33 = .ok (.iaload, 1) := by decide +kernel
theorem dX6_safe_34 : decode cX6_safe 34 = .ok (.iload_n 2, 1) := by decide +kernel
theorem dX6_safe_35 : decode cX6_safe 35 = .ok (.iconst 1, 1) := by decide +kernel
theorem dX6_safe_36 : decode cX6_safe 36 = .ok (.iadd, 1) := by decide +kernel
theorem dX6_safe_37 : decode cX6_safe 37 = .ok (.if_icmp .eq 18, 3) := by decide +kernel
theorem dX6_safe_40 : decode cX6_safe 40 = .ok (.aload_n 0, 1) := by decide +kernel
theorem dX6_safe_41 : decode cX6_safe 41 = .ok (.iload_n 2, 1) := by decide +kernel
theorem dX6_safe_42 : decode cX6_safe 42 = .ok (.invokevirtual 150, 3) := by decide +kernel
theorem dX6_safe_45 : decode cX6_safe 45 = .ok (.iconst (-1), 1) := by decide +kernel
theorem dX6_safe_46 : decode cX6_safe 46 = .ok (.if_icmp .ne 9, 3) := by decide +kernel
theorem dX6_safe_49 : decode cX6_safe 49 = .ok (.iconst 1, 1) := by decide +kernel
theorem dX6_safe_50 : decode cX6_safe 50 = .ok (.iload_n 2, 1) := by decide +kernel
theorem dX6_safe_51 : decode cX6_safe 51 = .ok (.ishl, 1) := by decide +kernel
theorem dX6_safe_52 : decode cX6_safe 52 = .ok (.goto 4, 3) := by decide +kernel
theorem dX6_safe_55 : decode cX6_safe 55 = .ok (.iconst 0, 1) := by decide +kernel
theorem dX6_safe_56 : decode cX6_safe 56 = .ok (.ior, 1) := by decide +kernel
theorem dX6_safe_57 : decode cX6_safe 57 = .ok (.istore_n 1, 1) := by decide +kernel
theorem dX6_safe_58 : decode cX6_safe 58 = .ok (.iinc 2 1, 3) := by decide +kernel
theorem dX6_safe_61 : decode cX6_safe 61 = .ok (.goto (-57), 3) := by decide +kernel
theorem dX6_safe_64 : decode cX6_safe 64 = .ok (.iload_n 1, 1) := by decide +kernel
theorem dX6_safe_65 : decode cX6_safe 65 = .ok (.ireturn, 1) := by decide +kernel
set_option maxRecDepth 20000 in
theorem ggX6_safeByTrying_X6_safe : GoodIn wsX6_safeByTrying wsX6_safe := goodIn_r _ [5, 6, 7, 8, 9, 4, 10, 11, 12, 13, 14, 15, 16, 17, 18, 19, 20, 21, 22, 23, 24, 25, 26, 27, 28, 29, 30, 31, 32, 33, 34, 35, 36, 37, 38, 39, 40, 41, 42, 43, 44, 45, 46, 47, 48, 54, 55, 56, 57, 58, 59, 60, 61, 62, 63, 64, 65, 66, 67, 68, 69, 70, 71] (by decide +kernel) (by decide +kernel)
set_option maxRecDepth 20000 in
theorem gX6_safeByTrying_X6_safe : GoodIn wsX6_safeByTrying (wsV RX6 153 RX6 yX6_safe wsX6_safe) := goodIn_app (goodIn_of _ (by decide +kernel)) ggX6_safeByTrying_X6_safe
set_option maxRecDepth 20000 in
theorem ggX6_safeByTrying_X6_told : GoodIn wsX6_safeByTrying wsX6_told := goodIn_r _ [52, 53, 54, 55, 56, 57, 58, 59, 60, 61, 62, 63, 64, 65, 66, 67, 68, 69, 70, 71] (by decide +kernel) (by decide +kernel)
set_option maxRecDepth 20000 in
theorem gX6_safeByTrying_X6_told : GoodIn wsX6_safeByTrying (wsV RX6 131 RX6 yX6_told wsX6_told) := goodIn_app (goodIn_of _ (by decide +kernel)) ggX6_safeByTrying_X6_told
theorem dX6_safeByTrying_0 : decode cX6_safeByTrying 0 = .ok (.aload_n 0, 1) := by decide +kernel
theorem dX6_safeByTrying_1 : decode cX6_safeByTrying 1 = .ok (.aload_n 0, 1) := by decide +kernel
theorem dX6_safeByTrying_2 : decode cX6_safeByTrying 2 = .ok (.invokevirtual 153, 3) := by decide +kernel
theorem dX6_safeByTrying_5 : decode cX6_safeByTrying 5 = .ok (.invokevirtual 131, 3) := by decide +kernel
theorem dX6_safeByTrying_8 : decode cX6_safeByTrying 8 = .ok (.ireturn, 1) := by decide +kernel
set_option maxRecDepth 20000 in
theorem ggX6_safeByLines_X6_safe : GoodIn wsX6_safeByLines wsX6_safe := goodIn_r _ [5, 6, 7, 8, 9, 4, 10, 11, 12, 13, 14, 15, 16, 17, 18, 19, 20, 21, 22, 23, 24, 25, 26, 27, 28, 29, 30, 31, 32, 33, 34, 35, 36, 37, 38, 39, 40, 41, 42, 43, 44, 45, 46, 47, 48, 54, 55, 56, 57, 58, 59, 60, 61, 62, 63, 64, 65, 66, 67, 68, 69, 70, 71] (by decide +kernel) (by decide +kernel)
set_option maxRecDepth 20000 in
theorem gX6_safeByLines_X6_safe : GoodIn wsX6_safeByLines (wsV RX6 153 RX6 yX6_safe wsX6_safe) := goodIn_app (goodIn_of _ (by decide +kernel)) ggX6_safeByLines_X6_safe
set_option maxRecDepth 20000 in
theorem ggX6_safeByLines_X6_told : GoodIn wsX6_safeByLines wsX6_told := goodIn_r _ [52, 53, 54, 55, 56, 57, 58, 59, 60, 61, 62, 63, 64, 65, 66, 67, 68, 69, 70, 71] (by decide +kernel) (by decide +kernel)
set_option maxRecDepth 20000 in
theorem gX6_safeByLines_X6_told : GoodIn wsX6_safeByLines (wsV RX6 131 RX6 yX6_told wsX6_told) := goodIn_app (goodIn_of _ (by decide +kernel)) ggX6_safeByLines_X6_told
theorem dX6_safeByLines_0 : decode cX6_safeByLines 0 = .ok (.aload_n 0, 1) := by decide +kernel
theorem dX6_safeByLines_1 : decode cX6_safeByLines 1 = .ok (.aload_n 0, 1) := by decide +kernel
theorem dX6_safeByLines_2 : decode cX6_safeByLines 2 = .ok (.invokevirtual 153, 3) := by decide +kernel
theorem dX6_safeByLines_5 : decode cX6_safeByLines 5 = .ok (.invokevirtual 131, 3) := by decide +kernel
theorem dX6_safeByLines_8 : decode cX6_safeByLines 8 = .ok (.ireturn, 1) := by decide +kernel
set_option maxRecDepth 20000 in
theorem ggX6_canMake_X6_cell : GoodIn wsX6_canMake wsX6_cell := goodIn_r _ [6, 1, 7, 8, 9, 10, 11, 12, 13, 14, 15, 16, 17, 18, 19, 20, 21, 22, 23, 24] (by decide +kernel) (by decide +kernel)
set_option maxRecDepth 20000 in
theorem gX6_canMake_X6_cell : GoodIn wsX6_canMake (wsV RX6 75 RX6 yX6_cell wsX6_cell) := goodIn_app (goodIn_of _ (by decide +kernel)) ggX6_canMake_X6_cell
theorem dX6_canMake_0 : decode cX6_canMake 0 = .ok (.aload_n 0, 1) := by decide +kernel
theorem dX6_canMake_1 : decode cX6_canMake 1 = .ok (.getfield 7, 3) := by decide +kernel
theorem dX6_canMake_4 : decode cX6_canMake 4 = .ok (.bipush 16, 2) := by decide +kernel
theorem dX6_canMake_6 : decode cX6_canMake 6 = .ok (.iaload, 1) := by decide +kernel
theorem dX6_canMake_7 : decode cX6_canMake 7 = .ok (.ifCond .le 22, 3) := by decide +kernel
theorem dX6_canMake_10 : decode cX6_canMake 10 = .ok (.aload_n 0, 1) := by decide +kernel
theorem dX6_canMake_11 : decode cX6_canMake 11 = .ok (.getfield 7, 3) := by decide +kernel
theorem dX6_canMake_14 : decode cX6_canMake 14 = .ok (.iconst 0, 1) := by decide +kernel
theorem dX6_canMake_15 : decode cX6_canMake 15 = .ok (.iload_n 1, 1) := by decide +kernel
theorem dX6_canMake_16 : decode cX6_canMake 16 = .ok (.iadd, 1) := by decide +kernel
theorem dX6_canMake_17 : decode cX6_canMake 17 = .ok (.iaload, 1) := by decide +kernel
theorem dX6_canMake_18 : decode cX6_canMake 18 = .ok (.ifCond .ne 7, 3) := by decide +kernel
theorem dX6_canMake_21 : decode cX6_canMake 21 = .ok (.iconst 1, 1) := by decide +kernel
theorem dX6_canMake_22 : decode cX6_canMake 22 = .ok (.goto 21, 3) := by decide +kernel
theorem dX6_canMake_25 : decode cX6_canMake 25 = .ok (.iconst 0, 1) := by decide +kernel
theorem dX6_canMake_26 : decode cX6_canMake 26 = .ok (.goto 17, 3) := by decide +kernel
theorem dX6_canMake_29 : decode cX6_canMake 29 = .ok (.aload_n 0, 1) := by decide +kernel
theorem dX6_canMake_30 : decode cX6_canMake 30 = .ok (.iload_n 1, 1) := by decide +kernel
theorem dX6_canMake_31 : decode cX6_canMake 31 = .ok (.invokevirtual 75, 3) := by decide +kernel
theorem dX6_canMake_34 : decode cX6_canMake 34 = .ok (.iconst (-1), 1) := by decide +kernel
theorem dX6_canMake_35 : decode cX6_canMake 35 = .ok (.if_icmp .ne 7, 3) := by decide +kernel
theorem dX6_canMake_38 : decode cX6_canMake 38 = .ok (.iconst 1, 1) := by decide +kernel
theorem dX6_canMake_39 : decode cX6_canMake 39 = .ok (.goto 4, 3) := by decide +kernel
theorem dX6_canMake_42 : decode cX6_canMake 42 = .ok (.iconst 0, 1) := by decide +kernel
theorem dX6_canMake_43 : decode cX6_canMake 43 = .ok (.ireturn, 1) := by decide +kernel
theorem dX6_keeps_0 : decode cX6_keeps 0 = .ok (.iload_n 2, 1) := by decide +kernel
theorem dX6_keeps_1 : decode cX6_keeps 1 = .ok (.aload_n 0, 1) := by decide +kernel
theorem dX6_keeps_2 : decode cX6_keeps 2 = .ok (.getfield 28, 3) := by decide +kernel
theorem dX6_keeps_5 : decode cX6_keeps 5 = .ok (.iload_n 1, 1) := by decide +kernel
theorem dX6_keeps_6 : decode cX6_keeps 6 = .ok (.iaload, 1) := by decide +kernel
theorem dX6_keeps_7 : decode cX6_keeps 7 = .ok (.if_icmp .le 31, 3) := by decide +kernel
theorem dX6_keeps_10 : decode cX6_keeps 10 = .ok (.aload_n 0, 1) := by decide +kernel
theorem dX6_keeps_11 : decode cX6_keeps 11 = .ok (.getfield 28, 3) := by decide +kernel
theorem dX6_keeps_14 : decode cX6_keeps 14 = .ok (.iload_n 1, 1) := by decide +kernel
theorem dX6_keeps_15 : decode cX6_keeps 15 = .ok (.iload_n 2, 1) := by decide +kernel
theorem dX6_keeps_16 : decode cX6_keeps 16 = .ok (.iastore, 1) := by decide +kernel
theorem dX6_keeps_17 : decode cX6_keeps 17 = .ok (.aload_n 0, 1) := by decide +kernel
theorem dX6_keeps_18 : decode cX6_keeps 18 = .ok (.iload_n 1, 1) := by decide +kernel
theorem dX6_keeps_19 : decode cX6_keeps 19 = .ok (.ifCond .ne 12, 3) := by decide +kernel
theorem dX6_keeps_22 : decode cX6_keeps 22 = .ok (.aload_n 0, 1) := by decide +kernel
theorem dX6_keeps_23 : decode cX6_keeps 23 = .ok (.getfield 25, 3) := by decide +kernel
theorem dX6_keeps_26 : decode cX6_keeps 26 = .ok (.iconst 0, 1) := by decide +kernel
theorem dX6_keeps_27 : decode cX6_keeps 27 = .ok (.iaload, 1) := by decide +kernel
theorem dX6_keeps_28 : decode cX6_keeps 28 = .ok (.goto 7, 3) := by decide +kernel
theorem dX6_keeps_31 : decode cX6_keeps 31 = .ok (.aload_n 0, 1) := by decide +kernel
theorem dX6_keeps_32 : decode cX6_keeps 32 = .ok (.getfield 156, 3) := by decide +kernel
theorem dX6_keeps_35 : decode cX6_keeps 35 = .ok (.putfield 156, 3) := by decide +kernel
theorem dX6_keeps_38 : decode cX6_keeps 38 = .ok (.return_, 1) := by decide +kernel
set_option maxRecDepth 20000 in
theorem ggX6_searches_X6_canMake : GoodIn wsX6_searches wsX6_canMake := goodIn_r _ [9, 4, 10, 11, 12, 8, 13, 45, 46, 47, 48, 49, 50, 51, 52, 53, 54, 55, 56, 57, 58, 59, 60, 61, 62] (by decide +kernel) (by decide +kernel)
set_option maxRecDepth 20000 in
theorem gX6_searches_X6_canMake : GoodIn wsX6_searches (wsV RX6 159 RX6 yX6_canMake wsX6_canMake) := goodIn_app (goodIn_of _ (by decide +kernel)) ggX6_searches_X6_canMake
set_option maxRecDepth 20000 in
theorem ggX6_searches_X6_keeps : GoodIn wsX6_searches wsX6_keeps := goodIn_r _ [17, 2, 1, 18, 45, 46, 47, 48, 49, 50, 51, 52, 53, 54, 55, 56, 57, 58, 59, 60, 61, 62] (by decide +kernel) (by decide +kernel)
set_option maxRecDepth 20000 in
theorem gX6_searches_X6_keeps : GoodIn wsX6_searches (wsV RX6 162 RX6 yX6_keeps wsX6_keeps) := goodIn_app (goodIn_of _ (by decide +kernel)) ggX6_searches_X6_keeps
set_option maxRecDepth 20000 in
theorem ggX6_searches_X6_won : GoodIn wsX6_searches wsX6_won := goodIn_r _ [22, 23, 24, 25, 8, 26, 4, 27, 28, 29, 30, 31, 32, 33, 34, 35, 36, 37, 38, 39, 40, 45, 46, 47, 48, 49, 50, 51, 52, 53, 54, 55, 56, 57, 58, 59, 60, 61, 62] (by decide +kernel) (by decide +kernel)
set_option maxRecDepth 20000 in
theorem gX6_searches_X6_won : GoodIn wsX6_searches (wsV RX6 68 RX6 yX6_won wsX6_won) := goodIn_app (goodIn_of _ (by decide +kernel)) ggX6_searches_X6_won
set_option maxRecDepth 20000 in
theorem ggX6_searches_X6_count : GoodIn wsX6_searches wsX6_count := goodIn_r _ [44, 4, 45, 46, 47, 48, 49, 50, 51, 52, 53, 54, 55, 56, 57, 58, 59, 60, 61, 62] (by decide +kernel) (by decide +kernel)
set_option maxRecDepth 20000 in
theorem gX6_searches_X6_count : GoodIn wsX6_searches (wsV RX6 47 RX6 yX6_count wsX6_count) := goodIn_app (goodIn_of _ (by decide +kernel)) ggX6_searches_X6_count
theorem dX6_searches_0 : decode cX6_searches 0 = .ok (.iconst 0, 1) := by decide +kernel
theorem dX6_searches_1 : decode cX6_searches 1 = .ok (.istore_n 1, 1) := by decide +kernel
theorem dX6_searches_2 : decode cX6_searches 2 = .ok (.aload_n 0, 1) := by decide +kernel
theorem dX6_searches_3 : decode cX6_searches 3 = .ok (.getfield 25, 3) := by decide +kernel
theorem dX6_searches_6 : decode cX6_searches 6 = .ok (.iconst 0, 1) := by decide +kernel
theorem dX6_searches_7 : decode cX6_searches 7 = .ok (.iconst (-1), 1) := by decide +kernel
theorem dX6_searches_8 : decode cX6_searches 8 = .ok (.iastore, 1) := by decide +kernel
theorem dX6_searches_9 : decode cX6_searches 9 = .ok (.aload_n 0, 1) := by decide +kernel
theorem dX6_searches_10 : decode cX6_searches 10 = .ok (.getfield 28, 3) := by decide +kernel
theorem dX6_searches_13 : decode cX6_searches 13 = .ok (.iconst 0, 1) := by decide +kernel
theorem dX6_searches_14 : decode cX6_searches 14 = .ok (.bipush (-2), 2) := by decide +kernel
theorem dX6_searches_16 : decode cX6_searches 16 = .ok (.iastore, 1) := by decide +kernel
theorem dX6_searches_17 : decode cX6_searches 17 = .ok (.iload_n 1, 1) := by decide +kernel
theorem dX6_searches_18 : decode cX6_searches 18 = .ok (.ifCond .lt 333, 3) := by decide +kernel
theorem dX6_searches_21 : decode cX6_searches 21 = .ok (.aload_n 0, 1) := by decide +kernel
theorem dX6_searches_22 : decode cX6_searches 22 = .ok (.getfield 25, 3) := by decide +kernel
theorem dX6_searches_25 : decode cX6_searches 25 = .ok (.iload_n 1, 1) := by decide +kernel
theorem dX6_searches_26 : decode cX6_searches 26 = .ok (.dup2, 1) := by decide +kernel
theorem dX6_searches_27 : decode cX6_searches 27 = .ok (.iaload, 1) := by decide +kernel
theorem dX6_searches_28 : decode cX6_searches 28 = .ok (.iconst 1, 1) := by decide +kernel
theorem dX6_searches_29 : decode cX6_searches 29 = .ok (.iadd, 1) := by decide +kernel
theorem dX6_searches_30 : decode cX6_searches 30 = .ok (.iastore, 1) := by decide +kernel
theorem dX6_searches_31 : decode cX6_searches 31 = .ok (.aload_n 0, 1) := by decide +kernel
theorem dX6_searches_32 : decode cX6_searches 32 = .ok (.getfield 25, 3) := by decide +kernel
theorem dX6_searches_35 : decode cX6_searches 35 = .ok (.iload_n 1, 1) := by decide +kernel
theorem dX6_searches_36 : decode cX6_searches 36 = .ok (.iaload, 1) := by decide +kernel
theorem dX6_searches_37 : decode cX6_searches 37 = .ok (.bipush 16, 2) := by decide +kernel
theorem dX6_searches_39 : decode cX6_searches 39 = .ok (.if_icmp .ge 29, 3) := by decide +kernel
theorem dX6_searches_42 : decode cX6_searches 42 = .ok (.aload_n 0, 1) := by decide +kernel
theorem dX6_searches_43 : decode cX6_searches 43 = .ok (.aload_n 0, 1) := by decide +kernel
theorem dX6_searches_44 : decode cX6_searches 44 = .ok (.getfield 25, 3) := by decide +kernel
theorem dX6_searches_47 : decode cX6_searches 47 = .ok (.iload_n 1, 1) := by decide +kernel
theorem dX6_searches_48 : decode cX6_searches 48 = .ok (.iaload, 1) := by decide +kernel
theorem dX6_searches_49 : decode cX6_searches 49 = .ok (.invokevirtual 159, 3) := by decide +kernel
theorem dX6_searches_52 : decode cX6_searches 52 = .ok (.ifCond .ne 16, 3) := by decide +kernel
theorem dX6_searches_55 : decode cX6_searches 55 = .ok (.aload_n 0, 1) := by decide +kernel
theorem dX6_searches_56 : decode cX6_searches 56 = .ok (.getfield 25, 3) := by decide +kernel
theorem dX6_searches_59 : decode cX6_searches 59 = .ok (.iload_n 1, 1) := by decide +kernel
theorem dX6_searches_60 : decode cX6_searches 60 = .ok (.dup2, 1) := by decide +kernel
theorem dX6_searches_61 : decode cX6_searches 61 = .ok (.iaload, 1) := by decide +kernel
theorem dX6_searches_62 : decode cX6_searches 62 = .ok (.iconst 1, 1) := by decide +kernel
theorem dX6_searches_63 : decode cX6_searches 63 = .ok (.iadd, 1) := by decide +kernel
theorem dX6_searches_64 : decode cX6_searches 64 = .ok (.iastore, 1) := by decide +kernel
theorem dX6_searches_65 : decode cX6_searches 65 = .ok (.goto (-34), 3) := by decide +kernel
theorem dX6_searches_68 : decode cX6_searches 68 = .ok (.aload_n 0, 1) := by decide +kernel
theorem dX6_searches_69 : decode cX6_searches 69 = .ok (.getfield 25, 3) := by decide +kernel
theorem dX6_searches_72 : decode cX6_searches 72 = .ok (.iload_n 1, 1) := by decide +kernel
theorem dX6_searches_73 : decode cX6_searches 73 = .ok (.iaload, 1) := by decide +kernel
theorem dX6_searches_74 : decode cX6_searches 74 = .ok (.bipush 16, 2) := by decide +kernel
theorem dX6_searches_76 : decode cX6_searches 76 = .ok (.if_icmp .ge 13, 3) := by decide +kernel
theorem dX6_searches_79 : decode cX6_searches 79 = .ok (.aload_n 0, 1) := by decide +kernel
theorem dX6_searches_80 : decode cX6_searches 80 = .ok (.getfield 28, 3) := by decide +kernel
theorem dX6_searches_83 : decode cX6_searches 83 = .ok (.iload_n 1, 1) := by decide +kernel
theorem dX6_searches_84 : decode cX6_searches 84 = .ok (.iaload, 1) := by decide +kernel
theorem dX6_searches_85 : decode cX6_searches 85 = .ok (.iconst 1, 1) := by decide +kernel
theorem dX6_searches_86 : decode cX6_searches 86 = .ok (.if_icmp .ne 97, 3) := by decide +kernel
theorem dX6_searches_89 : decode cX6_searches 89 = .ok (.aload_n 0, 1) := by decide +kernel
theorem dX6_searches_90 : decode cX6_searches 90 = .ok (.getfield 28, 3) := by decide +kernel
theorem dX6_searches_93 : decode cX6_searches 93 = .ok (.iload_n 1, 1) := by decide +kernel
theorem dX6_searches_94 : decode cX6_searches 94 = .ok (.iaload, 1) := by decide +kernel
theorem dX6_searches_95 : decode cX6_searches 95 = .ok (.istore_n 2, 1) := by decide +kernel
theorem dX6_searches_96 : decode cX6_searches 96 = .ok (.iinc 1 (-1), 3) := by decide +kernel
theorem dX6_searches_99 : decode cX6_searches 99 = .ok (.iload_n 1, 1) := by decide +kernel
theorem dX6_searches_100 : decode cX6_searches 100 = .ok (.ifCond .lt 80, 3) := by decide +kernel
theorem dX6_searches_103 : decode cX6_searches 103 = .ok (.aload_n 0, 1) := by decide +kernel
theorem dX6_searches_104 : decode cX6_searches 104 = .ok (.getfield 31, 3) := by decide +kernel
theorem dX6_searches_107 : decode cX6_searches 107 = .ok (.iload_n 1, 1) := by decide +kernel
theorem dX6_searches_108 : decode cX6_searches 108 = .ok (.iaload, 1) := by decide +kernel
theorem dX6_searches_109 : decode cX6_searches 109 = .ok (.ifCond .ne 7, 3) := by decide +kernel
theorem dX6_searches_112 : decode cX6_searches 112 = .ok (.iconst 1, 1) := by decide +kernel
theorem dX6_searches_113 : decode cX6_searches 113 = .ok (.goto 4, 3) := by decide +kernel
theorem dX6_searches_116 : decode cX6_searches 116 = .ok (.iconst 0, 1) := by decide +kernel
theorem dX6_searches_117 : decode cX6_searches 117 = .ok (.istore_n 3, 1) := by decide +kernel
theorem dX6_searches_118 : decode cX6_searches 118 = .ok (.aload_n 0, 1) := by decide +kernel
theorem dX6_searches_119 : decode cX6_searches 119 = .ok (.getfield 7, 3) := by decide +kernel
theorem dX6_searches_122 : decode cX6_searches 122 = .ok (.bipush 16, 2) := by decide +kernel
theorem dX6_searches_124 : decode cX6_searches 124 = .ok (.aload_n 0, 1) := by decide +kernel
theorem dX6_searches_125 : decode cX6_searches 125 = .ok (.getfield 31, 3) := by decide +kernel
theorem dX6_searches_128 : decode cX6_searches 128 = .ok (.iload_n 1, 1) := by decide +kernel
theorem dX6_searches_129 : decode cX6_searches 129 = .ok (.iaload, 1) := by decide +kernel
theorem dX6_searches_130 : decode cX6_searches 130 = .ok (.iastore, 1) := by decide +kernel
theorem dX6_searches_131 : decode cX6_searches 131 = .ok (.aload_n 0, 1) := by decide +kernel
theorem dX6_searches_132 : decode cX6_searches 132 = .ok (.getfield 7, 3) := by decide +kernel
theorem dX6_searches_135 : decode cX6_searches 135 = .ok (.iconst 0, 1) := by decide +kernel
theorem dX6_searches_136 : decode cX6_searches 136 = .ok (.aload_n 0, 1) := by decide +kernel
theorem dX6_searches_137 : decode cX6_searches 137 = .ok (.getfield 25, 3) := by decide +kernel
theorem dX6_searches_140 : decode cX6_searches 140 = .ok (.iload_n 1, 1) := by decide +kernel
theorem dX6_searches_141 : decode cX6_searches 141 = .ok (.iaload, 1) := by decide +kernel
theorem dX6_searches_142 : decode cX6_searches 142 = .ok (.iadd, 1) := by decide +kernel
theorem dX6_searches_143 : decode cX6_searches 143 = .ok (.iload_n 3, 1) := by decide +kernel
theorem dX6_searches_144 : decode cX6_searches 144 = .ok (.ifCond .eq 19, 3) := by decide +kernel
theorem dX6_searches_147 : decode cX6_searches 147 = .ok (.aload_n 0, 1) := by decide +kernel
theorem dX6_searches_148 : decode cX6_searches 148 = .ok (.getfield 7, 3) := by decide +kernel
theorem dX6_searches_151 : decode cX6_searches 151 = .ok (.iconst 0, 1) := by decide +kernel
theorem dX6_searches_152 : decode cX6_searches 152 = .ok (.aload_n 0, 1) := by decide +kernel
theorem dX6_searches_153 : decode cX6_searches 153 = .ok (.getfield 25, 3) := by decide +kernel
theorem dX6_searches_156 : decode cX6_searches 156 = .ok (.iload_n 1, 1) := by decide +kernel
theorem dX6_searches_157 : decode cX6_searches 157 = .ok (.iaload, 1) := by decide +kernel
theorem dX6_searches_158 : decode cX6_searches 158 = .ok (.iadd, 1) := by decide +kernel
theorem dX6_searches_159 : decode cX6_searches 159 = .ok (.iaload, 1) := by decide +kernel
theorem dX6_searches_160 : decode cX6_searches 160 = .ok (.goto 4, 3) := by decide +kernel
theorem dX6_searches_163 : decode cX6_searches 163 = .ok (.iconst 0, 1) := by decide +kernel
theorem dX6_searches_164 : decode cX6_searches 164 = .ok (.iastore, 1) := by decide +kernel
theorem dX6_searches_165 : decode cX6_searches 165 = .ok (.aload_n 0, 1) := by decide +kernel
theorem dX6_searches_166 : decode cX6_searches 166 = .ok (.iload_n 1, 1) := by decide +kernel
theorem dX6_searches_167 : decode cX6_searches 167 = .ok (.iload_n 3, 1) := by decide +kernel
theorem dX6_searches_168 : decode cX6_searches 168 = .ok (.ifCond .eq 8, 3) := by decide +kernel
theorem dX6_searches_171 : decode cX6_searches 171 = .ok (.iload_n 2, 1) := by decide +kernel
theorem dX6_searches_172 : decode cX6_searches 172 = .ok (.ineg, 1) := by decide +kernel
theorem dX6_searches_173 : decode cX6_searches 173 = .ok (.goto 4, 3) := by decide +kernel
theorem dX6_searches_176 : decode cX6_searches 176 = .ok (.iload_n 2, 1) := by decide +kernel
theorem dX6_searches_177 : decode cX6_searches 177 = .ok (.invokevirtual 162, 3) := by decide +kernel
theorem dX6_searches_180 : decode cX6_searches 180 = .ok (.goto (-163), 3) := by decide +kernel
theorem dX6_searches_183 : decode cX6_searches 183 = .ok (.aload_n 0, 1) := by decide +kernel
theorem dX6_searches_184 : decode cX6_searches 184 = .ok (.getfield 25, 3) := by decide +kernel
theorem dX6_searches_187 : decode cX6_searches 187 = .ok (.iload_n 1, 1) := by decide +kernel
theorem dX6_searches_188 : decode cX6_searches 188 = .ok (.iaload, 1) := by decide +kernel
theorem dX6_searches_189 : decode cX6_searches 189 = .ok (.istore_n 2, 1) := by decide +kernel
theorem dX6_searches_190 : decode cX6_searches 190 = .ok (.aload_n 0, 1) := by decide +kernel
theorem dX6_searches_191 : decode cX6_searches 191 = .ok (.getfield 31, 3) := by decide +kernel
theorem dX6_searches_194 : decode cX6_searches 194 = .ok (.iload_n 1, 1) := by decide +kernel
theorem dX6_searches_195 : decode cX6_searches 195 = .ok (.aload_n 0, 1) := by decide +kernel
theorem dX6_searches_196 : decode cX6_searches 196 = .ok (.getfield 7, 3) := by decide +kernel
theorem dX6_searches_199 : decode cX6_searches 199 = .ok (.bipush 16, 2) := by decide +kernel
theorem dX6_searches_201 : decode cX6_searches 201 = .ok (.iaload, 1) := by decide +kernel
theorem dX6_searches_202 : decode cX6_searches 202 = .ok (.iastore, 1) := by decide +kernel
theorem dX6_searches_203 : decode cX6_searches 203 = .ok (.iconst 0, 1) := by decide +kernel
theorem dX6_searches_204 : decode cX6_searches 204 = .ok (.istore_n 3, 1) := by decide +kernel
theorem dX6_searches_205 : decode cX6_searches 205 = .ok (.aload_n 0, 1) := by decide +kernel
theorem dX6_searches_206 : decode cX6_searches 206 = .ok (.getfield 7, 3) := by decide +kernel
theorem dX6_searches_209 : decode cX6_searches 209 = .ok (.bipush 16, 2) := by decide +kernel
theorem dX6_searches_211 : decode cX6_searches 211 = .ok (.iaload, 1) := by decide +kernel
theorem dX6_searches_212 : decode cX6_searches 212 = .ok (.ifCond .ne 16, 3) := by decide +kernel
theorem dX6_searches_215 : decode cX6_searches 215 = .ok (.aload_n 0, 1) := by decide +kernel
theorem dX6_searches_216 : decode cX6_searches 216 = .ok (.getfield 7, 3) := by decide +kernel
theorem dX6_searches_219 : decode cX6_searches 219 = .ok (.bipush 16, 2) := by decide +kernel
theorem dX6_searches_221 : decode cX6_searches 221 = .ok (.iload_n 2, 1) := by decide +kernel
theorem dX6_searches_222 : decode cX6_searches 222 = .ok (.iconst 1, 1) := by decide +kernel
theorem dX6_searches_223 : decode cX6_searches 223 = .ok (.iadd, 1) := by decide +kernel
theorem dX6_searches_224 : decode cX6_searches 224 = .ok (.iastore, 1) := by decide +kernel
theorem dX6_searches_225 : decode cX6_searches 225 = .ok (.goto 101, 3) := by decide +kernel
theorem dX6_searches_228 : decode cX6_searches 228 = .ok (.aload_n 0, 1) := by decide +kernel
theorem dX6_searches_229 : decode cX6_searches 229 = .ok (.getfield 7, 3) := by decide +kernel
theorem dX6_searches_232 : decode cX6_searches 232 = .ok (.iconst 0, 1) := by decide +kernel
theorem dX6_searches_233 : decode cX6_searches 233 = .ok (.iload_n 2, 1) := by decide +kernel
theorem dX6_searches_234 : decode cX6_searches 234 = .ok (.iadd, 1) := by decide +kernel
theorem dX6_searches_235 : decode cX6_searches 235 = .ok (.aload_n 0, 1) := by decide +kernel
theorem dX6_searches_236 : decode cX6_searches 236 = .ok (.getfield 7, 3) := by decide +kernel
theorem dX6_searches_239 : decode cX6_searches 239 = .ok (.bipush 16, 2) := by decide +kernel
theorem dX6_searches_241 : decode cX6_searches 241 = .ok (.iaload, 1) := by decide +kernel
theorem dX6_searches_242 : decode cX6_searches 242 = .ok (.iastore, 1) := by decide +kernel
theorem dX6_searches_243 : decode cX6_searches 243 = .ok (.aload_n 0, 1) := by decide +kernel
theorem dX6_searches_244 : decode cX6_searches 244 = .ok (.getfield 7, 3) := by decide +kernel
theorem dX6_searches_247 : decode cX6_searches 247 = .ok (.bipush 16, 2) := by decide +kernel
theorem dX6_searches_249 : decode cX6_searches 249 = .ok (.iconst 0, 1) := by decide +kernel
theorem dX6_searches_250 : decode cX6_searches 250 = .ok (.iastore, 1) := by decide +kernel
theorem dX6_searches_251 : decode cX6_searches 251 = .ok (.aload_n 0, 1) := by decide +kernel
theorem dX6_searches_252 : decode cX6_searches 252 = .ok (.invokevirtual 68, 3) := by decide +kernel
theorem dX6_searches_255 : decode cX6_searches 255 = .ok (.ifCond .le 7, 3) := by decide +kernel
theorem dX6_searches_258 : decode cX6_searches 258 = .ok (.iconst 1, 1) := by decide +kernel
theorem dX6_searches_259 : decode cX6_searches 259 = .ok (.goto 4, 3) := by decide +kernel
theorem dX6_searches_262 : decode cX6_searches 262 = .ok (.iconst 0, 1) := by decide +kernel
theorem dX6_searches_263 : decode cX6_searches 263 = .ok (.istore 4, 2) := by decide +kernel
theorem dX6_searches_265 : decode cX6_searches 265 = .ok (.iload 4, 2) := by decide +kernel
theorem dX6_searches_267 : decode cX6_searches 267 = .ok (.ifCond .ne 12, 3) := by decide +kernel
theorem dX6_searches_270 : decode cX6_searches 270 = .ok (.aload_n 0, 1) := by decide +kernel
theorem dX6_searches_271 : decode cX6_searches 271 = .ok (.invokevirtual 47, 3) := by decide +kernel
theorem dX6_searches_274 : decode cX6_searches 274 = .ok (.bipush 16, 2) := by decide +kernel
theorem dX6_searches_276 : decode cX6_searches 276 = .ok (.if_icmp .ne 7, 3) := by decide +kernel
theorem dX6_searches_279 : decode cX6_searches 279 = .ok (.iconst 1, 1) := by decide +kernel
theorem dX6_searches_280 : decode cX6_searches 280 = .ok (.goto 4, 3) := by decide +kernel
theorem dX6_searches_283 : decode cX6_searches 283 = .ok (.iconst 0, 1) := by decide +kernel
theorem dX6_searches_284 : decode cX6_searches 284 = .ok (.istore_n 3, 1) := by decide +kernel
theorem dX6_searches_285 : decode cX6_searches 285 = .ok (.iload_n 3, 1) := by decide +kernel
theorem dX6_searches_286 : decode cX6_searches 286 = .ok (.ifCond .eq 40, 3) := by decide +kernel
theorem dX6_searches_289 : decode cX6_searches 289 = .ok (.aload_n 0, 1) := by decide +kernel
theorem dX6_searches_290 : decode cX6_searches 290 = .ok (.getfield 7, 3) := by decide +kernel
theorem dX6_searches_293 : decode cX6_searches 293 = .ok (.iconst 0, 1) := by decide +kernel
theorem dX6_searches_294 : decode cX6_searches 294 = .ok (.iload_n 2, 1) := by decide +kernel
theorem dX6_searches_295 : decode cX6_searches 295 = .ok (.iadd, 1) := by decide +kernel
theorem dX6_searches_296 : decode cX6_searches 296 = .ok (.iconst 0, 1) := by decide +kernel
theorem dX6_searches_297 : decode cX6_searches 297 = .ok (.iastore, 1) := by decide +kernel
theorem dX6_searches_298 : decode cX6_searches 298 = .ok (.aload_n 0, 1) := by decide +kernel
theorem dX6_searches_299 : decode cX6_searches 299 = .ok (.getfield 7, 3) := by decide +kernel
theorem dX6_searches_302 : decode cX6_searches 302 = .ok (.bipush 16, 2) := by decide +kernel
theorem dX6_searches_304 : decode cX6_searches 304 = .ok (.aload_n 0, 1) := by decide +kernel
theorem dX6_searches_305 : decode cX6_searches 305 = .ok (.getfield 31, 3) := by decide +kernel
theorem dX6_searches_308 : decode cX6_searches 308 = .ok (.iload_n 1, 1) := by decide +kernel
theorem dX6_searches_309 : decode cX6_searches 309 = .ok (.iaload, 1) := by decide +kernel
theorem dX6_searches_310 : decode cX6_searches 310 = .ok (.iastore, 1) := by decide +kernel
theorem dX6_searches_311 : decode cX6_searches 311 = .ok (.aload_n 0, 1) := by decide +kernel
theorem dX6_searches_312 : decode cX6_searches 312 = .ok (.iload_n 1, 1) := by decide +kernel
theorem dX6_searches_313 : decode cX6_searches 313 = .ok (.iload 4, 2) := by decide +kernel
theorem dX6_searches_315 : decode cX6_searches 315 = .ok (.ifCond .eq 7, 3) := by decide +kernel
theorem dX6_searches_318 : decode cX6_searches 318 = .ok (.iconst 1, 1) := by decide +kernel
theorem dX6_searches_319 : decode cX6_searches 319 = .ok (.goto 4, 3) := by decide +kernel
theorem dX6_searches_322 : decode cX6_searches 322 = .ok (.iconst 0, 1) := by decide +kernel
theorem dX6_searches_323 : decode cX6_searches 323 = .ok (.invokevirtual 162, 3) := by decide +kernel
theorem dX6_searches_326 : decode cX6_searches 326 = .ok (.iload_n 3, 1) := by decide +kernel
theorem dX6_searches_327 : decode cX6_searches 327 = .ok (.ifCond .ne 21, 3) := by decide +kernel
theorem dX6_searches_330 : decode cX6_searches 330 = .ok (.iinc 1 1, 3) := by decide +kernel
theorem dX6_searches_333 : decode cX6_searches 333 = .ok (.aload_n 0, 1) := by decide +kernel
theorem dX6_searches_334 : decode cX6_searches 334 = .ok (.getfield 25, 3) := by decide +kernel
theorem dX6_searches_337 : decode cX6_searches 337 = .ok (.iload_n 1, 1) := by decide +kernel
theorem dX6_searches_338 : decode cX6_searches 338 = .ok (.iconst (-1), 1) := by decide +kernel
theorem dX6_searches_339 : decode cX6_searches 339 = .ok (.iastore, 1) := by decide +kernel
theorem dX6_searches_340 : decode cX6_searches 340 = .ok (.aload_n 0, 1) := by decide +kernel
theorem dX6_searches_341 : decode cX6_searches 341 = .ok (.getfield 28, 3) := by decide +kernel
theorem dX6_searches_344 : decode cX6_searches 344 = .ok (.iload_n 1, 1) := by decide +kernel
theorem dX6_searches_345 : decode cX6_searches 345 = .ok (.bipush (-2), 2) := by decide +kernel
theorem dX6_searches_347 : decode cX6_searches 347 = .ok (.iastore, 1) := by decide +kernel
theorem dX6_searches_348 : decode cX6_searches 348 = .ok (.goto (-331), 3) := by decide +kernel
theorem dX6_searches_351 : decode cX6_searches 351 = .ok (.aload_n 0, 1) := by decide +kernel
theorem dX6_searches_352 : decode cX6_searches 352 = .ok (.getfield 28, 3) := by decide +kernel
theorem dX6_searches_355 : decode cX6_searches 355 = .ok (.iconst 0, 1) := by decide +kernel
theorem dX6_searches_356 : decode cX6_searches 356 = .ok (.iaload, 1) := by decide +kernel
theorem dX6_searches_357 : decode cX6_searches 357 = .ok (.ireturn, 1) := by decide +kernel
set_option maxRecDepth 20000 in
theorem ggX6_canSearch_X6_isOverNow : GoodIn wsX6_canSearch wsX6_isOverNow := goodIn_r _ [5, 6, 7, 8, 9, 4, 10, 11, 12, 13, 14, 15, 16, 17, 18, 19, 20, 21, 22, 23, 24, 25, 26, 27, 28] (by decide +kernel) (by decide +kernel)
set_option maxRecDepth 20000 in
theorem gX6_canSearch_X6_isOverNow : GoodIn wsX6_canSearch (wsV RX6 71 RX6 yX6_isOverNow wsX6_isOverNow) := goodIn_app (goodIn_of _ (by decide +kernel)) ggX6_canSearch_X6_isOverNow
set_option maxRecDepth 20000 in
theorem ggX6_canSearch_X6_count : GoodIn wsX6_canSearch wsX6_count := goodIn_r _ [10, 6, 11, 12, 13, 14, 15, 16, 17, 18, 19, 20, 21, 22, 23, 24, 25, 26, 27, 28] (by decide +kernel) (by decide +kernel)
set_option maxRecDepth 20000 in
theorem gX6_canSearch_X6_count : GoodIn wsX6_canSearch (wsV RX6 47 RX6 yX6_count wsX6_count) := goodIn_app (goodIn_of _ (by decide +kernel)) ggX6_canSearch_X6_count
theorem dX6_canSearch_0 : decode cX6_canSearch 0 = .ok (.aload_n 0, 1) := by decide +kernel
theorem dX6_canSearch_1 : decode cX6_canSearch 1 = .ok (.invokevirtual 71, 3) := by decide +kernel
theorem dX6_canSearch_4 : decode cX6_canSearch 4 = .ok (.ifCond .ne 18, 3) := by decide +kernel
theorem dX6_canSearch_7 : decode cX6_canSearch 7 = .ok (.bipush 16, 2) := by decide +kernel
theorem dX6_canSearch_9 : decode cX6_canSearch 9 = .ok (.aload_n 0, 1) := by decide +kernel
theorem dX6_canSearch_10 : decode cX6_canSearch 10 = .ok (.invokevirtual 47, 3) := by decide +kernel
theorem dX6_canSearch_13 : decode cX6_canSearch 13 = .ok (.isub, 1) := by decide +kernel
theorem dX6_canSearch_14 : decode cX6_canSearch 14 = .ok (.iconst 4, 1) := by decide +kernel
theorem dX6_canSearch_15 : decode cX6_canSearch 15 = .ok (.if_icmp .gt 7, 3) := by decide +kernel
theorem dX6_canSearch_18 : decode cX6_canSearch 18 = .ok (.iconst 1, 1) := by decide +kernel
theorem dX6_canSearch_19 : decode cX6_canSearch 19 = .ok (.goto 4, 3) := by decide +kernel
theorem dX6_canSearch_22 : decode cX6_canSearch 22 = .ok (.iconst 0, 1) := by decide +kernel
theorem dX6_canSearch_23 : decode cX6_canSearch 23 = .ok (.ireturn, 1) := by decide +kernel
set_option maxRecDepth 20000 in
theorem ggX6_outcome_X6_canSearch : GoodIn wsX6_outcome wsX6_canSearch := goodIn_r _ [5, 6, 7, 8, 4, 9, 10, 11, 12, 13, 14, 66, 67, 68, 69, 70, 71, 72, 73, 74, 75, 76, 77, 78, 79, 80, 81, 82, 83] (by decide +kernel) (by decide +kernel)
set_option maxRecDepth 20000 in
theorem gX6_outcome_X6_canSearch : GoodIn wsX6_outcome (wsV RX6 166 RX6 yX6_canSearch wsX6_canSearch) := goodIn_app (goodIn_of _ (by decide +kernel)) ggX6_outcome_X6_canSearch
set_option maxRecDepth 20000 in
theorem ggX6_outcome_X6_searches : GoodIn wsX6_outcome wsX6_searches := goodIn_r _ [18, 19, 20, 21, 10, 22, 23, 24, 4, 25, 26, 27, 28, 29, 30, 31, 32, 33, 34, 35, 36, 37, 38, 39, 40, 41, 42, 43, 44, 45, 46, 47, 48, 49, 50, 51, 52, 53, 54, 55, 56, 11, 12, 13, 14, 66, 67, 68, 69, 70, 71, 72, 73, 74, 75, 76, 77, 78, 79, 80, 81, 82, 83] (by decide +kernel) (by decide +kernel)
set_option maxRecDepth 20000 in
theorem gX6_outcome_X6_searches : GoodIn wsX6_outcome (wsV RX6 169 RX6 yX6_searches wsX6_searches) := goodIn_app (goodIn_of _ (by decide +kernel)) ggX6_outcome_X6_searches
set_option maxRecDepth 20000 in
theorem ggX6_outcome_X6_told : GoodIn wsX6_outcome wsX6_told := goodIn_r _ [60, 61, 66, 67, 68, 69, 70, 71, 72, 73, 74, 75, 76, 77, 78, 79, 80, 81, 82, 83] (by decide +kernel) (by decide +kernel)
set_option maxRecDepth 20000 in
theorem gX6_outcome_X6_told : GoodIn wsX6_outcome (wsV RX6 131 RX6 yX6_told wsX6_told) := goodIn_app (goodIn_of _ (by decide +kernel)) ggX6_outcome_X6_told
set_option maxRecDepth 20000 in
theorem ggX6_outcome_X6_fails : GoodIn wsX6_outcome wsX6_fails := goodIn_r _ [65, 61, 66, 67, 68, 69, 70, 71, 72, 73, 74, 75, 76, 77, 78, 79, 80, 81, 82, 83] (by decide +kernel) (by decide +kernel)
set_option maxRecDepth 20000 in
theorem gX6_outcome_X6_fails : GoodIn wsX6_outcome (wsV RX6 89 RX6 yX6_fails wsX6_fails) := goodIn_app (goodIn_of _ (by decide +kernel)) ggX6_outcome_X6_fails
theorem dX6_outcome_0 : decode cX6_outcome 0 = .ok (.aload_n 0, 1) := by decide +kernel
theorem dX6_outcome_1 : decode cX6_outcome 1 = .ok (.invokevirtual 166, 3) := by decide +kernel
theorem dX6_outcome_4 : decode cX6_outcome 4 = .ok (.ifCond .eq 14, 3) := by decide +kernel
theorem dX6_outcome_7 : decode cX6_outcome 7 = .ok (.aload_n 0, 1) := by decide +kernel
theorem dX6_outcome_8 : decode cX6_outcome 8 = .ok (.aload_n 0, 1) := by decide +kernel
theorem dX6_outcome_9 : decode cX6_outcome 9 = .ok (.invokevirtual 169, 3) := by decide +kernel
theorem dX6_outcome_12 : decode cX6_outcome 12 = .ok (.invokevirtual 131, 3) := by decide +kernel
theorem dX6_outcome_15 : decode cX6_outcome 15 = .ok (.goto 8, 3) := by decide +kernel
theorem dX6_outcome_18 : decode cX6_outcome 18 = .ok (.aload_n 0, 1) := by decide +kernel
theorem dX6_outcome_19 : decode cX6_outcome 19 = .ok (.iconst 1, 1) := by decide +kernel
theorem dX6_outcome_20 : decode cX6_outcome 20 = .ok (.invokevirtual 89, 3) := by decide +kernel
theorem dX6_outcome_23 : decode cX6_outcome 23 = .ok (.ireturn, 1) := by decide +kernel
set_option maxRecDepth 20000 in
theorem ggX6_bestMove_X6_canSearch : GoodIn wsX6_bestMove wsX6_canSearch := goodIn_r _ [6, 7, 8, 9, 5, 10, 11, 12, 13, 14, 15, 66, 67, 68, 69, 70, 71, 72, 73, 74, 75, 76, 77, 78, 79, 80, 81, 82, 83] (by decide +kernel) (by decide +kernel)
set_option maxRecDepth 20000 in
theorem gX6_bestMove_X6_canSearch : GoodIn wsX6_bestMove (wsV RX6 166 RX6 yX6_canSearch wsX6_canSearch) := goodIn_app (goodIn_of _ (by decide +kernel)) ggX6_bestMove_X6_canSearch
set_option maxRecDepth 20000 in
theorem ggX6_bestMove_X6_fails : GoodIn wsX6_bestMove wsX6_fails := goodIn_r _ [19, 20, 66, 67, 68, 69, 70, 71, 72, 73, 74, 75, 76, 77, 78, 79, 80, 81, 82, 83] (by decide +kernel) (by decide +kernel)
set_option maxRecDepth 20000 in
theorem gX6_bestMove_X6_fails : GoodIn wsX6_bestMove (wsV RX6 89 RX6 yX6_fails wsX6_fails) := goodIn_app (goodIn_of _ (by decide +kernel)) ggX6_bestMove_X6_fails
set_option maxRecDepth 20000 in
theorem ggX6_bestMove_X6_searches : GoodIn wsX6_bestMove wsX6_searches := goodIn_r _ [24, 25, 26, 27, 11, 28, 29, 30, 5, 31, 32, 33, 34, 35, 36, 37, 38, 39, 1, 40, 41, 42, 43, 44, 45, 46, 47, 48, 49, 50, 51, 52, 53, 54, 55, 56, 57, 58, 59, 60, 61, 12, 13, 14, 15, 66, 67, 68, 69, 70, 71, 72, 73, 74, 75, 76, 77, 78, 79, 80, 81, 82, 83] (by decide +kernel) (by decide +kernel)
set_option maxRecDepth 20000 in
theorem gX6_bestMove_X6_searches : GoodIn wsX6_bestMove (wsV RX6 169 RX6 yX6_searches wsX6_searches) := goodIn_app (goodIn_of _ (by decide +kernel)) ggX6_bestMove_X6_searches
set_option maxRecDepth 20000 in
theorem ggX6_bestMove_X6_told : GoodIn wsX6_bestMove wsX6_told := goodIn_r _ [65, 20, 66, 67, 68, 69, 70, 71, 72, 73, 74, 75, 76, 77, 78, 79, 80, 81, 82, 83] (by decide +kernel) (by decide +kernel)
set_option maxRecDepth 20000 in
theorem gX6_bestMove_X6_told : GoodIn wsX6_bestMove (wsV RX6 131 RX6 yX6_told wsX6_told) := goodIn_app (goodIn_of _ (by decide +kernel)) ggX6_bestMove_X6_told
theorem dX6_bestMove_0 : decode cX6_bestMove 0 = .ok (.aload_n 0, 1) := by decide +kernel
theorem dX6_bestMove_1 : decode cX6_bestMove 1 = .ok (.invokevirtual 166, 3) := by decide +kernel
theorem dX6_bestMove_4 : decode cX6_bestMove 4 = .ok (.ifCond .ne 9, 3) := by decide +kernel
theorem dX6_bestMove_7 : decode cX6_bestMove 7 = .ok (.aload_n 0, 1) := by decide +kernel
theorem dX6_bestMove_8 : decode cX6_bestMove 8 = .ok (.iconst 1, 1) := by decide +kernel
theorem dX6_bestMove_9 : decode cX6_bestMove 9 = .ok (.invokevirtual 89, 3) := by decide +kernel
theorem dX6_bestMove_12 : decode cX6_bestMove 12 = .ok (.ireturn, 1) := by decide +kernel
theorem dX6_bestMove_13 : decode cX6_bestMove 13 = .ok (.aload_n 0, 1) := by decide +kernel
theorem dX6_bestMove_14 : decode cX6_bestMove 14 = .ok (.invokevirtual 169, 3) := by decide +kernel
theorem dX6_bestMove_17 : decode cX6_bestMove 17 = .ok (.istore_n 1, 1) := by decide +kernel
theorem dX6_bestMove_18 : decode cX6_bestMove 18 = .ok (.aload_n 0, 1) := by decide +kernel
theorem dX6_bestMove_19 : decode cX6_bestMove 19 = .ok (.aload_n 0, 1) := by decide +kernel
theorem dX6_bestMove_20 : decode cX6_bestMove 20 = .ok (.getfield 156, 3) := by decide +kernel
theorem dX6_bestMove_23 : decode cX6_bestMove 23 = .ok (.invokevirtual 131, 3) := by decide +kernel
theorem dX6_bestMove_26 : decode cX6_bestMove 26 = .ok (.ireturn, 1) := by decide +kernel
set_option maxRecDepth 20000 in
theorem ggX6_rule_X6_told : GoodIn wsX6_rule wsX6_told := goodIn_r _ [6, 7, 8, 9, 10, 11, 12, 13, 14, 15, 16, 17, 18, 19, 20, 21, 22, 23, 24, 25] (by decide +kernel) (by decide +kernel)
set_option maxRecDepth 20000 in
theorem gX6_rule_X6_told : GoodIn wsX6_rule (wsV RX6 131 RX6 yX6_told wsX6_told) := goodIn_app (goodIn_of _ (by decide +kernel)) ggX6_rule_X6_told
theorem dX6_rule_0 : decode cX6_rule 0 = .ok (.aload_n 0, 1) := by decide +kernel
theorem dX6_rule_1 : decode cX6_rule 1 = .ok (.aload_n 0, 1) := by decide +kernel
theorem dX6_rule_2 : decode cX6_rule 2 = .ok (.getfield 7, 3) := by decide +kernel
theorem dX6_rule_5 : decode cX6_rule 5 = .ok (.bipush 17, 2) := by decide +kernel
theorem dX6_rule_7 : decode cX6_rule 7 = .ok (.iaload, 1) := by decide +kernel
theorem dX6_rule_8 : decode cX6_rule 8 = .ok (.invokevirtual 131, 3) := by decide +kernel
theorem dX6_rule_11 : decode cX6_rule 11 = .ok (.ireturn, 1) := by decide +kernel
set_option maxRecDepth 20000 in
theorem ggX6_recordedStates_X6_told : GoodIn wsX6_recordedStates wsX6_told := goodIn_r _ [6, 7, 8, 9, 10, 11, 12, 13, 14, 15, 16, 17, 18, 19, 20, 21, 22, 23, 24, 25] (by decide +kernel) (by decide +kernel)
set_option maxRecDepth 20000 in
theorem gX6_recordedStates_X6_told : GoodIn wsX6_recordedStates (wsV RX6 131 RX6 yX6_told wsX6_told) := goodIn_app (goodIn_of _ (by decide +kernel)) ggX6_recordedStates_X6_told
theorem dX6_recordedStates_0 : decode cX6_recordedStates 0 = .ok (.aload_n 0, 1) := by decide +kernel
theorem dX6_recordedStates_1 : decode cX6_recordedStates 1 = .ok (.aload_n 0, 1) := by decide +kernel
theorem dX6_recordedStates_2 : decode cX6_recordedStates 2 = .ok (.getfield 38, 3) := by decide +kernel
theorem dX6_recordedStates_5 : decode cX6_recordedStates 5 = .ok (.invokevirtual 131, 3) := by decide +kernel
theorem dX6_recordedStates_8 : decode cX6_recordedStates 8 = .ok (.ireturn, 1) := by decide +kernel
