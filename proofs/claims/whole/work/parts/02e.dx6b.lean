theorem dX6_errorPosition_0 : decode cX6_errorPosition 0 = .ok (.aload_n 0, 1) := by decide +kernel
theorem dX6_errorPosition_1 : decode cX6_errorPosition 1 = .ok (.iconst 0, 1) := by decide +kernel
theorem dX6_errorPosition_2 : decode cX6_errorPosition 2 = .ok (.putfield 38, 3) := by decide +kernel
theorem dX6_errorPosition_5 : decode cX6_errorPosition 5 = .ok (.aload_n 0, 1) := by decide +kernel
theorem dX6_errorPosition_6 : decode cX6_errorPosition 6 = .ok (.invokevirtual 128, 3) := by decide +kernel
theorem dX6_errorPosition_9 : decode cX6_errorPosition 9 = .ok (.ifCond .eq 9, 3) := by decide +kernel
theorem dX6_errorPosition_12 : decode cX6_errorPosition 12 = .ok (.sipush (-9999), 3) := by decide +kernel
theorem dX6_errorPosition_15 : decode cX6_errorPosition 15 = .ok (.goto 7, 3) := by decide +kernel
theorem dX6_errorPosition_18 : decode cX6_errorPosition 18 = .ok (.aload_n 0, 1) := by decide +kernel
theorem dX6_errorPosition_19 : decode cX6_errorPosition 19 = .ok (.getfield 115, 3) := by decide +kernel
theorem dX6_errorPosition_22 : decode cX6_errorPosition 22 = .ok (.ireturn, 1) := by decide +kernel
set_option maxRecDepth 20000 in
theorem ggX6_load_X6_readAll : GoodIn wsX6_load wsX6_readAll := goodIn_r _ [9, 10, 1, 11, 12, 13, 14, 8, 15, 16, 17, 18, 19, 20, 21, 22, 23, 24, 25, 26, 27, 28, 29, 30, 31, 32, 33, 42, 43, 44, 45, 46, 47, 48, 49, 50, 51, 52, 53, 54] (by decide +kernel) (by decide +kernel)
set_option maxRecDepth 20000 in
theorem gX6_load_X6_readAll : GoodIn wsX6_load (wsV RX6 128 RX6 yX6_readAll wsX6_readAll) := goodIn_app (goodIn_of _ (by decide +kernel)) ggX6_load_X6_readAll
set_option maxRecDepth 20000 in
theorem ggX6_load_X6_refused : GoodIn wsX6_load wsX6_refused := goodIn_r _ [37, 38, 42, 43, 44, 45, 46, 47, 48, 49, 50, 51, 52, 53, 54] (by decide +kernel) (by decide +kernel)
set_option maxRecDepth 20000 in
theorem gX6_load_X6_refused : GoodIn wsX6_load (wsV RX6 111 RX6 yX6_refused wsX6_refused) := goodIn_app (goodIn_of _ (by decide +kernel)) ggX6_load_X6_refused
set_option maxRecDepth 20000 in
theorem ggX6_load_X6_copyPage : GoodIn wsX6_load wsX6_copyPage := goodIn_r _ [41] (by decide +kernel) (by decide +kernel)
set_option maxRecDepth 20000 in
theorem gX6_load_X6_copyPage : GoodIn wsX6_load (va_wsS RX6 131 yX6_copyPage wsX6_copyPage) := goodIn_app (goodIn_of _ (by decide +kernel)) ggX6_load_X6_copyPage
theorem dX6_load_0 : decode cX6_load 0 = .ok (.aload_n 0, 1) := by decide +kernel
theorem dX6_load_1 : decode cX6_load 1 = .ok (.aload_n 0, 1) := by decide +kernel
theorem dX6_load_2 : decode cX6_load 2 = .ok (.invokevirtual 128, 3) := by decide +kernel
theorem dX6_load_5 : decode cX6_load 5 = .ok (.ifCond .eq 7, 3) := by decide +kernel
theorem dX6_load_8 : decode cX6_load 8 = .ok (.iconst 0, 1) := by decide +kernel
theorem dX6_load_9 : decode cX6_load 9 = .ok (.goto 4, 3) := by decide +kernel
theorem dX6_load_12 : decode cX6_load 12 = .ok (.iconst 1, 1) := by decide +kernel
theorem dX6_load_13 : decode cX6_load 13 = .ok (.invokevirtual 111, 3) := by decide +kernel
theorem dX6_load_16 : decode cX6_load 16 = .ok (.ifCond .eq 5, 3) := by decide +kernel
theorem dX6_load_19 : decode cX6_load 19 = .ok (.iconst 0, 1) := by decide +kernel
theorem dX6_load_20 : decode cX6_load 20 = .ok (.ireturn, 1) := by decide +kernel
theorem dX6_load_21 : decode cX6_load 21 = .ok (.aload_n 0, 1) := by decide +kernel
theorem dX6_load_22 : decode cX6_load 22 = .ok (.getfield 13, 3) := by decide +kernel
theorem dX6_load_25 : decode cX6_load 25 = .ok (.iconst 0, 1) := by decide +kernel
theorem dX6_load_26 : decode cX6_load 26 = .ok (.aload_n 0, 1) := by decide +kernel
theorem dX6_load_27 : decode cX6_load 27 = .ok (.getfield 16, 3) := by decide +kernel
theorem dX6_load_30 : decode cX6_load 30 = .ok (.iconst 0, 1) := by decide +kernel
theorem dX6_load_31 : decode cX6_load 31 = .ok (.invokestatic 131, 3) := by decide +kernel
theorem dX6_load_34 : decode cX6_load 34 = .ok (.aload_n 0, 1) := by decide +kernel
theorem dX6_load_35 : decode cX6_load 35 = .ok (.iconst 0, 1) := by decide +kernel
theorem dX6_load_36 : decode cX6_load 36 = .ok (.putfield 135, 3) := by decide +kernel
theorem dX6_load_39 : decode cX6_load 39 = .ok (.aload_n 0, 1) := by decide +kernel
theorem dX6_load_40 : decode cX6_load 40 = .ok (.getfield 28, 3) := by decide +kernel
theorem dX6_load_43 : decode cX6_load 43 = .ok (.iconst 0, 1) := by decide +kernel
theorem dX6_load_44 : decode cX6_load 44 = .ok (.iconst 0, 1) := by decide +kernel
theorem dX6_load_45 : decode cX6_load 45 = .ok (.bastore, 1) := by decide +kernel
theorem dX6_load_46 : decode cX6_load 46 = .ok (.aload_n 0, 1) := by decide +kernel
theorem dX6_load_47 : decode cX6_load 47 = .ok (.getfield 28, 3) := by decide +kernel
theorem dX6_load_50 : decode cX6_load 50 = .ok (.iconst 1, 1) := by decide +kernel
theorem dX6_load_51 : decode cX6_load 51 = .ok (.iconst 0, 1) := by decide +kernel
theorem dX6_load_52 : decode cX6_load 52 = .ok (.bastore, 1) := by decide +kernel
theorem dX6_load_53 : decode cX6_load 53 = .ok (.aload_n 0, 1) := by decide +kernel
theorem dX6_load_54 : decode cX6_load 54 = .ok (.getfield 16, 3) := by decide +kernel
theorem dX6_load_57 : decode cX6_load 57 = .ok (.iconst 0, 1) := by decide +kernel
theorem dX6_load_58 : decode cX6_load 58 = .ok (.iaload, 1) := by decide +kernel
theorem dX6_load_59 : decode cX6_load 59 = .ok (.ireturn, 1) := by decide +kernel
set_option maxRecDepth 20000 in
theorem ggX6_over_X6_at : GoodIn wsX6_over wsX6_at := goodIn_r _ [4] (by decide +kernel) (by decide +kernel)
set_option maxRecDepth 20000 in
theorem gX6_over_X6_at : GoodIn wsX6_over (va_wsS RX6 46 yX6_at wsX6_at) := goodIn_app (goodIn_of _ (by decide +kernel)) ggX6_over_X6_at
set_option maxRecDepth 20000 in
theorem ggX6_over_X6_valueOf : GoodIn wsX6_over wsX6_valueOf := goodIn_r _ [7, 8, 9, 3, 10, 11, 12, 13, 1, 2, 4, 14, 15, 16] (by decide +kernel) (by decide +kernel)
set_option maxRecDepth 20000 in
theorem gX6_over_X6_valueOf : GoodIn wsX6_over (va_wsS RX6 78 yX6_valueOf wsX6_valueOf) := goodIn_app (goodIn_of _ (by decide +kernel)) ggX6_over_X6_valueOf
set_option maxRecDepth 20000 in
theorem ggX6_over_X6_block : GoodIn wsX6_over wsX6_block := goodIn_r _ [19, 20, 21, 3, 22, 11, 12, 13, 1, 2, 4, 23, 24, 25, 26, 27, 28, 8, 9, 10, 14, 15, 16] (by decide +kernel) (by decide +kernel)
set_option maxRecDepth 20000 in
theorem gX6_over_X6_block : GoodIn wsX6_over (va_wsS RX6 85 yX6_block wsX6_block) := goodIn_app (goodIn_of _ (by decide +kernel)) ggX6_over_X6_block
set_option maxRecDepth 20000 in
theorem ggX6_over_X6_fit : GoodIn wsX6_over wsX6_fit := goodIn_r _ [22, 11, 12, 3, 13, 1, 2, 4] (by decide +kernel) (by decide +kernel)
set_option maxRecDepth 20000 in
theorem gX6_over_X6_fit : GoodIn wsX6_over (va_wsS RX6 64 yX6_fit wsX6_fit) := goodIn_app (goodIn_of _ (by decide +kernel)) ggX6_over_X6_fit
theorem dX6_over_0 : decode cX6_over 0 = .ok (.iconst 0, 1) := by decide +kernel
theorem dX6_over_1 : decode cX6_over 1 = .ok (.istore_n 2, 1) := by decide +kernel
theorem dX6_over_2 : decode cX6_over 2 = .ok (.iconst 0, 1) := by decide +kernel
theorem dX6_over_3 : decode cX6_over 3 = .ok (.istore_n 3, 1) := by decide +kernel
theorem dX6_over_4 : decode cX6_over 4 = .ok (.iload_n 3, 1) := by decide +kernel
theorem dX6_over_5 : decode cX6_over 5 = .ok (.aload_n 0, 1) := by decide +kernel
theorem dX6_over_6 : decode cX6_over 6 = .ok (.iconst 0, 1) := by decide +kernel
theorem dX6_over_7 : decode cX6_over 7 = .ok (.iaload, 1) := by decide +kernel
theorem dX6_over_8 : decode cX6_over 8 = .ok (.if_icmp .ge 121, 3) := by decide +kernel
theorem dX6_over_11 : decode cX6_over 11 = .ok (.iload_n 3, 1) := by decide +kernel
theorem dX6_over_12 : decode cX6_over 12 = .ok (.iconst 1, 1) := by decide +kernel
theorem dX6_over_13 : decode cX6_over 13 = .ok (.iadd, 1) := by decide +kernel
theorem dX6_over_14 : decode cX6_over 14 = .ok (.istore 4, 2) := by decide +kernel
theorem dX6_over_16 : decode cX6_over 16 = .ok (.iload 4, 2) := by decide +kernel
theorem dX6_over_18 : decode cX6_over 18 = .ok (.aload_n 0, 1) := by decide +kernel
theorem dX6_over_19 : decode cX6_over 19 = .ok (.iconst 0, 1) := by decide +kernel
theorem dX6_over_20 : decode cX6_over 20 = .ok (.iaload, 1) := by decide +kernel
theorem dX6_over_21 : decode cX6_over 21 = .ok (.if_icmp .ge 102, 3) := by decide +kernel
theorem dX6_over_24 : decode cX6_over 24 = .ok (.aload_n 0, 1) := by decide +kernel
theorem dX6_over_25 : decode cX6_over 25 = .ok (.iload_n 3, 1) := by decide +kernel
theorem dX6_over_26 : decode cX6_over 26 = .ok (.invokestatic 46, 3) := by decide +kernel
theorem dX6_over_29 : decode cX6_over 29 = .ok (.bipush 8, 2) := by decide +kernel
theorem dX6_over_31 : decode cX6_over 31 = .ok (.iadd, 1) := by decide +kernel
theorem dX6_over_32 : decode cX6_over 32 = .ok (.iaload, 1) := by decide +kernel
theorem dX6_over_33 : decode cX6_over 33 = .ok (.iload 4, 2) := by decide +kernel
theorem dX6_over_35 : decode cX6_over 35 = .ok (.if_icmp .ne 7, 3) := by decide +kernel
theorem dX6_over_38 : decode cX6_over 38 = .ok (.iconst 1, 1) := by decide +kernel
theorem dX6_over_39 : decode cX6_over 39 = .ok (.goto 4, 3) := by decide +kernel
theorem dX6_over_42 : decode cX6_over 42 = .ok (.iconst 0, 1) := by decide +kernel
theorem dX6_over_43 : decode cX6_over 43 = .ok (.istore 5, 2) := by decide +kernel
theorem dX6_over_45 : decode cX6_over 45 = .ok (.iload_n 2, 1) := by decide +kernel
theorem dX6_over_46 : decode cX6_over 46 = .ok (.iload_n 1, 1) := by decide +kernel
theorem dX6_over_47 : decode cX6_over 47 = .ok (.iconst 1, 1) := by decide +kernel
theorem dX6_over_48 : decode cX6_over 48 = .ok (.if_icmp .ne 22, 3) := by decide +kernel
theorem dX6_over_51 : decode cX6_over 51 = .ok (.iload 5, 2) := by decide +kernel
theorem dX6_over_53 : decode cX6_over 53 = .ok (.ifCond .eq 13, 3) := by decide +kernel
theorem dX6_over_56 : decode cX6_over 56 = .ok (.aload_n 0, 1) := by decide +kernel
theorem dX6_over_57 : decode cX6_over 57 = .ok (.iload_n 3, 1) := by decide +kernel
theorem dX6_over_58 : decode cX6_over 58 = .ok (.iload 4, 2) := by decide +kernel
theorem dX6_over_60 : decode cX6_over 60 = .ok (.invokestatic 78, 3) := by decide +kernel
theorem dX6_over_63 : decode cX6_over 63 = .ok (.goto 52, 3) := by decide +kernel
theorem dX6_over_66 : decode cX6_over 66 = .ok (.iconst 0, 1) := by decide +kernel
theorem dX6_over_67 : decode cX6_over 67 = .ok (.goto 48, 3) := by decide +kernel
theorem dX6_over_70 : decode cX6_over 70 = .ok (.iload_n 1, 1) := by decide +kernel
theorem dX6_over_71 : decode cX6_over 71 = .ok (.ifCond .ne 11, 3) := by decide +kernel
theorem dX6_over_74 : decode cX6_over 74 = .ok (.iload 5, 2) := by decide +kernel
theorem dX6_over_76 : decode cX6_over 76 = .ok (.ifCond .eq 38, 3) := by decide +kernel
theorem dX6_over_79 : decode cX6_over 79 = .ok (.goto 31, 3) := by decide +kernel
theorem dX6_over_82 : decode cX6_over 82 = .ok (.iload_n 1, 1) := by decide +kernel
theorem dX6_over_83 : decode cX6_over 83 = .ok (.iconst 2, 1) := by decide +kernel
theorem dX6_over_84 : decode cX6_over 84 = .ok (.if_icmp .ne 16, 3) := by decide +kernel
theorem dX6_over_87 : decode cX6_over 87 = .ok (.aload_n 0, 1) := by decide +kernel
theorem dX6_over_88 : decode cX6_over 88 = .ok (.iload_n 3, 1) := by decide +kernel
theorem dX6_over_89 : decode cX6_over 89 = .ok (.iload 4, 2) := by decide +kernel
theorem dX6_over_91 : decode cX6_over 91 = .ok (.invokestatic 85, 3) := by decide +kernel
theorem dX6_over_94 : decode cX6_over 94 = .ok (.ifCond .eq 20, 3) := by decide +kernel
theorem dX6_over_97 : decode cX6_over 97 = .ok (.goto 13, 3) := by decide +kernel
theorem dX6_over_100 : decode cX6_over 100 = .ok (.aload_n 0, 1) := by decide +kernel
theorem dX6_over_101 : decode cX6_over 101 = .ok (.iload_n 3, 1) := by decide +kernel
theorem dX6_over_102 : decode cX6_over 102 = .ok (.iload 4, 2) := by decide +kernel
theorem dX6_over_104 : decode cX6_over 104 = .ok (.invokestatic 64, 3) := by decide +kernel
theorem dX6_over_107 : decode cX6_over 107 = .ok (.ifCond .eq 7, 3) := by decide +kernel
theorem dX6_over_110 : decode cX6_over 110 = .ok (.iconst 1, 1) := by decide +kernel
theorem dX6_over_111 : decode cX6_over 111 = .ok (.goto 4, 3) := by decide +kernel
theorem dX6_over_114 : decode cX6_over 114 = .ok (.iconst 0, 1) := by decide +kernel
theorem dX6_over_115 : decode cX6_over 115 = .ok (.iadd, 1) := by decide +kernel
theorem dX6_over_116 : decode cX6_over 116 = .ok (.istore_n 2, 1) := by decide +kernel
theorem dX6_over_117 : decode cX6_over 117 = .ok (.iinc 4 1, 3) := by decide +kernel
theorem dX6_over_120 : decode cX6_over 120 = .ok (.goto (-104), 3) := by decide +kernel
theorem dX6_over_123 : decode cX6_over 123 = .ok (.iinc 3 1, 3) := by decide +kernel
theorem dX6_over_126 : decode cX6_over 126 = .ok (.goto (-122), 3) := by decide +kernel
theorem dX6_over_129 : decode cX6_over 129 = .ok (.iload_n 2, 1) := by decide +kernel
theorem dX6_over_130 : decode cX6_over 130 = .ok (.ireturn, 1) := by decide +kernel
set_option maxRecDepth 20000 in
theorem ggX6_creditsOf_X6_at : GoodIn wsX6_creditsOf wsX6_at := goodIn_r _ [4] (by decide +kernel) (by decide +kernel)
set_option maxRecDepth 20000 in
theorem gX6_creditsOf_X6_at : GoodIn wsX6_creditsOf (va_wsS RX6 46 yX6_at wsX6_at) := goodIn_app (goodIn_of _ (by decide +kernel)) ggX6_creditsOf_X6_at
theorem dX6_creditsOf_0 : decode cX6_creditsOf 0 = .ok (.iconst 0, 1) := by decide +kernel
theorem dX6_creditsOf_1 : decode cX6_creditsOf 1 = .ok (.istore_n 1, 1) := by decide +kernel
theorem dX6_creditsOf_2 : decode cX6_creditsOf 2 = .ok (.iconst 0, 1) := by decide +kernel
theorem dX6_creditsOf_3 : decode cX6_creditsOf 3 = .ok (.istore_n 2, 1) := by decide +kernel
theorem dX6_creditsOf_4 : decode cX6_creditsOf 4 = .ok (.iload_n 2, 1) := by decide +kernel
theorem dX6_creditsOf_5 : decode cX6_creditsOf 5 = .ok (.aload_n 0, 1) := by decide +kernel
theorem dX6_creditsOf_6 : decode cX6_creditsOf 6 = .ok (.iconst 0, 1) := by decide +kernel
theorem dX6_creditsOf_7 : decode cX6_creditsOf 7 = .ok (.iaload, 1) := by decide +kernel
theorem dX6_creditsOf_8 : decode cX6_creditsOf 8 = .ok (.if_icmp .ge 21, 3) := by decide +kernel
theorem dX6_creditsOf_11 : decode cX6_creditsOf 11 = .ok (.iload_n 1, 1) := by decide +kernel
theorem dX6_creditsOf_12 : decode cX6_creditsOf 12 = .ok (.aload_n 0, 1) := by decide +kernel
theorem dX6_creditsOf_13 : decode cX6_creditsOf 13 = .ok (.iload_n 2, 1) := by decide +kernel
theorem dX6_creditsOf_14 : decode cX6_creditsOf 14 = .ok (.invokestatic 46, 3) := by decide +kernel
theorem dX6_creditsOf_17 : decode cX6_creditsOf 17 = .ok (.bipush 6, 2) := by decide +kernel
theorem dX6_creditsOf_19 : decode cX6_creditsOf 19 = .ok (.iadd, 1) := by decide +kernel
theorem dX6_creditsOf_20 : decode cX6_creditsOf 20 = .ok (.iaload, 1) := by decide +kernel
theorem dX6_creditsOf_21 : decode cX6_creditsOf 21 = .ok (.iadd, 1) := by decide +kernel
theorem dX6_creditsOf_22 : decode cX6_creditsOf 22 = .ok (.istore_n 1, 1) := by decide +kernel
theorem dX6_creditsOf_23 : decode cX6_creditsOf 23 = .ok (.iinc 2 1, 3) := by decide +kernel
theorem dX6_creditsOf_26 : decode cX6_creditsOf 26 = .ok (.goto (-22), 3) := by decide +kernel
theorem dX6_creditsOf_29 : decode cX6_creditsOf 29 = .ok (.iload_n 1, 1) := by decide +kernel
theorem dX6_creditsOf_30 : decode cX6_creditsOf 30 = .ok (.ireturn, 1) := by decide +kernel
set_option maxRecDepth 20000 in
theorem ggX6_about_X6_in : GoodIn wsX6_about wsX6_in := goodIn_r _ [6] (by decide +kernel) (by decide +kernel)
set_option maxRecDepth 20000 in
theorem gX6_about_X6_in : GoodIn wsX6_about (va_wsS RX6 42 yX6_in wsX6_in) := goodIn_app (goodIn_of _ (by decide +kernel)) ggX6_about_X6_in
set_option maxRecDepth 20000 in
theorem ggX6_about_X6_refused : GoodIn wsX6_about wsX6_refused := goodIn_r _ [10, 11, 45, 46, 47, 48, 49, 50, 51, 52, 53, 54, 55, 56, 57] (by decide +kernel) (by decide +kernel)
set_option maxRecDepth 20000 in
theorem gX6_about_X6_refused : GoodIn wsX6_about (wsV RX6 111 RX6 yX6_refused wsX6_refused) := goodIn_app (goodIn_of _ (by decide +kernel)) ggX6_about_X6_refused
set_option maxRecDepth 20000 in
theorem ggX6_about_X6_over : GoodIn wsX6_about wsX6_over := goodIn_r _ [14, 15, 16, 5, 17, 18, 19, 20, 21, 22, 23, 24, 25, 26, 27, 28, 29, 30, 31, 32, 33, 34, 35, 36, 37, 38, 39, 40, 41] (by decide +kernel) (by decide +kernel)
set_option maxRecDepth 20000 in
theorem gX6_about_X6_over : GoodIn wsX6_about (va_wsS RX6 140 yX6_over wsX6_over) := goodIn_app (goodIn_of _ (by decide +kernel)) ggX6_about_X6_over
set_option maxRecDepth 20000 in
theorem ggX6_about_X6_creditsOf : GoodIn wsX6_about wsX6_creditsOf := goodIn_r _ [44, 15, 16, 5, 17] (by decide +kernel) (by decide +kernel)
set_option maxRecDepth 20000 in
theorem gX6_about_X6_creditsOf : GoodIn wsX6_about (va_wsS RX6 143 yX6_creditsOf wsX6_creditsOf) := goodIn_app (goodIn_of _ (by decide +kernel)) ggX6_about_X6_creditsOf
theorem dX6_about_0 : decode cX6_about 0 = .ok (.aload_n 0, 1) := by decide +kernel
theorem dX6_about_1 : decode cX6_about 1 = .ok (.iload_n 1, 1) := by decide +kernel
theorem dX6_about_2 : decode cX6_about 2 = .ok (.i2l, 1) := by decide +kernel
theorem dX6_about_3 : decode cX6_about 3 = .ok (.lconst 0, 1) := by decide +kernel
theorem dX6_about_4 : decode cX6_about 4 = .ok (.ldc2_w 138, 3) := by decide +kernel
theorem dX6_about_7 : decode cX6_about 7 = .ok (.invokestatic 42, 3) := by decide +kernel
theorem dX6_about_10 : decode cX6_about 10 = .ok (.ifCond .eq 7, 3) := by decide +kernel
theorem dX6_about_13 : decode cX6_about 13 = .ok (.iconst 0, 1) := by decide +kernel
theorem dX6_about_14 : decode cX6_about 14 = .ok (.goto 4, 3) := by decide +kernel
theorem dX6_about_17 : decode cX6_about 17 = .ok (.iconst 1, 1) := by decide +kernel
theorem dX6_about_18 : decode cX6_about 18 = .ok (.invokevirtual 111, 3) := by decide +kernel
theorem dX6_about_21 : decode cX6_about 21 = .ok (.ifCond .eq 5, 3) := by decide +kernel
theorem dX6_about_24 : decode cX6_about 24 = .ok (.iconst 0, 1) := by decide +kernel
theorem dX6_about_25 : decode cX6_about 25 = .ok (.ireturn, 1) := by decide +kernel
theorem dX6_about_26 : decode cX6_about 26 = .ok (.iload_n 1, 1) := by decide +kernel
theorem dX6_about_27 : decode cX6_about 27 = .ok (.tableswitch 86 0 5 #[37, 44, 53, 60, 69, 78], 37) := by decide +kernel
theorem dX6_about_64 : decode cX6_about 64 = .ok (.aload_n 0, 1) := by decide +kernel
theorem dX6_about_65 : decode cX6_about 65 = .ok (.getfield 16, 3) := by decide +kernel
theorem dX6_about_68 : decode cX6_about 68 = .ok (.iconst 0, 1) := by decide +kernel
theorem dX6_about_69 : decode cX6_about 69 = .ok (.iaload, 1) := by decide +kernel
theorem dX6_about_70 : decode cX6_about 70 = .ok (.ireturn, 1) := by decide +kernel
theorem dX6_about_71 : decode cX6_about 71 = .ok (.aload_n 0, 1) := by decide +kernel
theorem dX6_about_72 : decode cX6_about 72 = .ok (.getfield 16, 3) := by decide +kernel
theorem dX6_about_75 : decode cX6_about 75 = .ok (.iconst 0, 1) := by decide +kernel
theorem dX6_about_76 : decode cX6_about 76 = .ok (.invokestatic 140, 3) := by decide +kernel
theorem dX6_about_79 : decode cX6_about 79 = .ok (.ireturn, 1) := by decide +kernel
theorem dX6_about_80 : decode cX6_about 80 = .ok (.aload_n 0, 1) := by decide +kernel
theorem dX6_about_81 : decode cX6_about 81 = .ok (.getfield 16, 3) := by decide +kernel
theorem dX6_about_84 : decode cX6_about 84 = .ok (.iconst 1, 1) := by decide +kernel
theorem dX6_about_85 : decode cX6_about 85 = .ok (.iaload, 1) := by decide +kernel
theorem dX6_about_86 : decode cX6_about 86 = .ok (.ireturn, 1) := by decide +kernel
theorem dX6_about_87 : decode cX6_about 87 = .ok (.aload_n 0, 1) := by decide +kernel
theorem dX6_about_88 : decode cX6_about 88 = .ok (.getfield 16, 3) := by decide +kernel
theorem dX6_about_91 : decode cX6_about 91 = .ok (.iconst 1, 1) := by decide +kernel
theorem dX6_about_92 : decode cX6_about 92 = .ok (.invokestatic 140, 3) := by decide +kernel
theorem dX6_about_95 : decode cX6_about 95 = .ok (.ireturn, 1) := by decide +kernel
theorem dX6_about_96 : decode cX6_about 96 = .ok (.aload_n 0, 1) := by decide +kernel
theorem dX6_about_97 : decode cX6_about 97 = .ok (.getfield 16, 3) := by decide +kernel
theorem dX6_about_100 : decode cX6_about 100 = .ok (.iconst 2, 1) := by decide +kernel
theorem dX6_about_101 : decode cX6_about 101 = .ok (.invokestatic 140, 3) := by decide +kernel
theorem dX6_about_104 : decode cX6_about 104 = .ok (.ireturn, 1) := by decide +kernel
theorem dX6_about_105 : decode cX6_about 105 = .ok (.aload_n 0, 1) := by decide +kernel
theorem dX6_about_106 : decode cX6_about 106 = .ok (.getfield 16, 3) := by decide +kernel
theorem dX6_about_109 : decode cX6_about 109 = .ok (.invokestatic 143, 3) := by decide +kernel
theorem dX6_about_112 : decode cX6_about 112 = .ok (.ireturn, 1) := by decide +kernel
theorem dX6_about_113 : decode cX6_about 113 = .ok (.aload_n 0, 1) := by decide +kernel
theorem dX6_about_114 : decode cX6_about 114 = .ok (.getfield 16, 3) := by decide +kernel
theorem dX6_about_117 : decode cX6_about 117 = .ok (.iconst 3, 1) := by decide +kernel
theorem dX6_about_118 : decode cX6_about 118 = .ok (.invokestatic 140, 3) := by decide +kernel
theorem dX6_about_121 : decode cX6_about 121 = .ok (.ireturn, 1) := by decide +kernel
set_option maxRecDepth 20000 in
theorem ggX6_detail_X6_isFree : GoodIn wsX6_detail wsX6_isFree := goodIn_r _ [4, 5, 6, 3, 7] (by decide +kernel) (by decide +kernel)
set_option maxRecDepth 20000 in
theorem gX6_detail_X6_isFree : GoodIn wsX6_detail (va_wsS RX6 60 yX6_isFree wsX6_isFree) := goodIn_app (goodIn_of _ (by decide +kernel)) ggX6_detail_X6_isFree
set_option maxRecDepth 20000 in
theorem ggX6_detail_X6_at : GoodIn wsX6_detail wsX6_at := goodIn_r _ [7] (by decide +kernel) (by decide +kernel)
set_option maxRecDepth 20000 in
theorem gX6_detail_X6_at : GoodIn wsX6_detail (va_wsS RX6 46 yX6_at wsX6_at) := goodIn_app (goodIn_of _ (by decide +kernel)) ggX6_detail_X6_at
set_option maxRecDepth 20000 in
theorem ggX6_detail_X6_fit : GoodIn wsX6_detail wsX6_fit := goodIn_r _ [10, 11, 12, 3, 13, 5, 6, 7] (by decide +kernel) (by decide +kernel)
set_option maxRecDepth 20000 in
theorem gX6_detail_X6_fit : GoodIn wsX6_detail (va_wsS RX6 64 yX6_fit wsX6_fit) := goodIn_app (goodIn_of _ (by decide +kernel)) ggX6_detail_X6_fit
theorem dX6_detail_0 : decode cX6_detail 0 = .ok (.iload_n 2, 1) := by decide +kernel
theorem dX6_detail_1 : decode cX6_detail 1 = .ok (.bipush 9, 2) := by decide +kernel
theorem dX6_detail_3 : decode cX6_detail 3 = .ok (.if_icmp .ne 27, 3) := by decide +kernel
theorem dX6_detail_6 : decode cX6_detail 6 = .ok (.aload_n 0, 1) := by decide +kernel
theorem dX6_detail_7 : decode cX6_detail 7 = .ok (.iload_n 1, 1) := by decide +kernel
theorem dX6_detail_8 : decode cX6_detail 8 = .ok (.invokestatic 60, 3) := by decide +kernel
theorem dX6_detail_11 : decode cX6_detail 11 = .ok (.ifCond .eq 9, 3) := by decide +kernel
theorem dX6_detail_14 : decode cX6_detail 14 = .ok (.sipush (-9999), 3) := by decide +kernel
theorem dX6_detail_17 : decode cX6_detail 17 = .ok (.goto 12, 3) := by decide +kernel
theorem dX6_detail_20 : decode cX6_detail 20 = .ok (.aload_n 0, 1) := by decide +kernel
theorem dX6_detail_21 : decode cX6_detail 21 = .ok (.iload_n 1, 1) := by decide +kernel
theorem dX6_detail_22 : decode cX6_detail 22 = .ok (.invokestatic 46, 3) := by decide +kernel
theorem dX6_detail_25 : decode cX6_detail 25 = .ok (.bipush 9, 2) := by decide +kernel
theorem dX6_detail_27 : decode cX6_detail 27 = .ok (.iadd, 1) := by decide +kernel
theorem dX6_detail_28 : decode cX6_detail 28 = .ok (.iaload, 1) := by decide +kernel
theorem dX6_detail_29 : decode cX6_detail 29 = .ok (.ireturn, 1) := by decide +kernel
theorem dX6_detail_30 : decode cX6_detail 30 = .ok (.iload_n 2, 1) := by decide +kernel
theorem dX6_detail_31 : decode cX6_detail 31 = .ok (.bipush 9, 2) := by decide +kernel
theorem dX6_detail_33 : decode cX6_detail 33 = .ok (.if_icmp .ge 12, 3) := by decide +kernel
theorem dX6_detail_36 : decode cX6_detail 36 = .ok (.aload_n 0, 1) := by decide +kernel
theorem dX6_detail_37 : decode cX6_detail 37 = .ok (.iload_n 1, 1) := by decide +kernel
theorem dX6_detail_38 : decode cX6_detail 38 = .ok (.invokestatic 46, 3) := by decide +kernel
theorem dX6_detail_41 : decode cX6_detail 41 = .ok (.iload_n 2, 1) := by decide +kernel
theorem dX6_detail_42 : decode cX6_detail 42 = .ok (.iadd, 1) := by decide +kernel
theorem dX6_detail_43 : decode cX6_detail 43 = .ok (.iaload, 1) := by decide +kernel
theorem dX6_detail_44 : decode cX6_detail 44 = .ok (.ireturn, 1) := by decide +kernel
theorem dX6_detail_45 : decode cX6_detail 45 = .ok (.iconst 0, 1) := by decide +kernel
theorem dX6_detail_46 : decode cX6_detail 46 = .ok (.istore_n 3, 1) := by decide +kernel
theorem dX6_detail_47 : decode cX6_detail 47 = .ok (.iconst 0, 1) := by decide +kernel
theorem dX6_detail_48 : decode cX6_detail 48 = .ok (.istore 4, 2) := by decide +kernel
theorem dX6_detail_50 : decode cX6_detail 50 = .ok (.iload 4, 2) := by decide +kernel
theorem dX6_detail_52 : decode cX6_detail 52 = .ok (.aload_n 0, 1) := by decide +kernel
theorem dX6_detail_53 : decode cX6_detail 53 = .ok (.iconst 0, 1) := by decide +kernel
theorem dX6_detail_54 : decode cX6_detail 54 = .ok (.iaload, 1) := by decide +kernel
theorem dX6_detail_55 : decode cX6_detail 55 = .ok (.if_icmp .ge 27, 3) := by decide +kernel
theorem dX6_detail_58 : decode cX6_detail 58 = .ok (.iload_n 3, 1) := by decide +kernel
theorem dX6_detail_59 : decode cX6_detail 59 = .ok (.aload_n 0, 1) := by decide +kernel
theorem dX6_detail_60 : decode cX6_detail 60 = .ok (.iload_n 1, 1) := by decide +kernel
theorem dX6_detail_61 : decode cX6_detail 61 = .ok (.iload 4, 2) := by decide +kernel
theorem dX6_detail_63 : decode cX6_detail 63 = .ok (.invokestatic 64, 3) := by decide +kernel
theorem dX6_detail_66 : decode cX6_detail 66 = .ok (.ifCond .eq 7, 3) := by decide +kernel
theorem dX6_detail_69 : decode cX6_detail 69 = .ok (.iconst 1, 1) := by decide +kernel
theorem dX6_detail_70 : decode cX6_detail 70 = .ok (.goto 4, 3) := by decide +kernel
theorem dX6_detail_73 : decode cX6_detail 73 = .ok (.iconst 0, 1) := by decide +kernel
theorem dX6_detail_74 : decode cX6_detail 74 = .ok (.iadd, 1) := by decide +kernel
theorem dX6_detail_75 : decode cX6_detail 75 = .ok (.istore_n 3, 1) := by decide +kernel
theorem dX6_detail_76 : decode cX6_detail 76 = .ok (.iinc 4 1, 3) := by decide +kernel
theorem dX6_detail_79 : decode cX6_detail 79 = .ok (.goto (-29), 3) := by decide +kernel
theorem dX6_detail_82 : decode cX6_detail 82 = .ok (.iload_n 3, 1) := by decide +kernel
theorem dX6_detail_83 : decode cX6_detail 83 = .ok (.ireturn, 1) := by decide +kernel
set_option maxRecDepth 20000 in
theorem ggX6_member_X6_isMember : GoodIn wsX6_member wsX6_isMember := goodIn_r _ [6, 7, 8, 5, 9] (by decide +kernel) (by decide +kernel)
set_option maxRecDepth 20000 in
theorem gX6_member_X6_isMember : GoodIn wsX6_member (va_wsS RX6 147 yX6_isMember wsX6_isMember) := goodIn_app (goodIn_of _ (by decide +kernel)) ggX6_member_X6_isMember
set_option maxRecDepth 20000 in
theorem ggX6_member_X6_in : GoodIn wsX6_member wsX6_in := goodIn_r _ [9] (by decide +kernel) (by decide +kernel)
set_option maxRecDepth 20000 in
theorem gX6_member_X6_in : GoodIn wsX6_member (va_wsS RX6 42 yX6_in wsX6_in) := goodIn_app (goodIn_of _ (by decide +kernel)) ggX6_member_X6_in
set_option maxRecDepth 20000 in
theorem ggX6_member_X6_refused : GoodIn wsX6_member wsX6_refused := goodIn_r _ [13, 14, 30, 31, 32, 33, 34, 35, 36, 37, 38, 39, 40, 41, 42] (by decide +kernel) (by decide +kernel)
set_option maxRecDepth 20000 in
theorem gX6_member_X6_refused : GoodIn wsX6_member (wsV RX6 111 RX6 yX6_refused wsX6_refused) := goodIn_app (goodIn_of _ (by decide +kernel)) ggX6_member_X6_refused
set_option maxRecDepth 20000 in
theorem ggX6_member_X6_detail : GoodIn wsX6_member wsX6_detail := goodIn_r _ [17, 18, 19, 5, 20, 21, 22, 23, 24, 25, 26, 27, 28, 29] (by decide +kernel) (by decide +kernel)
set_option maxRecDepth 20000 in
theorem gX6_member_X6_detail : GoodIn wsX6_member (va_wsS RX6 152 yX6_detail wsX6_detail) := goodIn_app (goodIn_of _ (by decide +kernel)) ggX6_member_X6_detail
theorem dX6_member_0 : decode cX6_member 0 = .ok (.aload_n 0, 1) := by decide +kernel
theorem dX6_member_1 : decode cX6_member 1 = .ok (.aload_n 0, 1) := by decide +kernel
theorem dX6_member_2 : decode cX6_member 2 = .ok (.getfield 16, 3) := by decide +kernel
theorem dX6_member_5 : decode cX6_member 5 = .ok (.iload_n 1, 1) := by decide +kernel
theorem dX6_member_6 : decode cX6_member 6 = .ok (.invokestatic 147, 3) := by decide +kernel
theorem dX6_member_9 : decode cX6_member 9 = .ok (.ifCond .ne 7, 3) := by decide +kernel
theorem dX6_member_12 : decode cX6_member 12 = .ok (.iconst 1, 1) := by decide +kernel
theorem dX6_member_13 : decode cX6_member 13 = .ok (.goto 20, 3) := by decide +kernel
theorem dX6_member_16 : decode cX6_member 16 = .ok (.iload_n 2, 1) := by decide +kernel
theorem dX6_member_17 : decode cX6_member 17 = .ok (.i2l, 1) := by decide +kernel
theorem dX6_member_18 : decode cX6_member 18 = .ok (.lconst 0, 1) := by decide +kernel
theorem dX6_member_19 : decode cX6_member 19 = .ok (.ldc2_w 150, 3) := by decide +kernel
theorem dX6_member_22 : decode cX6_member 22 = .ok (.invokestatic 42, 3) := by decide +kernel
theorem dX6_member_25 : decode cX6_member 25 = .ok (.ifCond .ne 7, 3) := by decide +kernel
theorem dX6_member_28 : decode cX6_member 28 = .ok (.iconst 2, 1) := by decide +kernel
theorem dX6_member_29 : decode cX6_member 29 = .ok (.goto 4, 3) := by decide +kernel
theorem dX6_member_32 : decode cX6_member 32 = .ok (.iconst 0, 1) := by decide +kernel
theorem dX6_member_33 : decode cX6_member 33 = .ok (.invokevirtual 111, 3) := by decide +kernel
theorem dX6_member_36 : decode cX6_member 36 = .ok (.ifCond .eq 7, 3) := by decide +kernel
theorem dX6_member_39 : decode cX6_member 39 = .ok (.iconst 0, 1) := by decide +kernel
theorem dX6_member_40 : decode cX6_member 40 = .ok (.goto 12, 3) := by decide +kernel
theorem dX6_member_43 : decode cX6_member 43 = .ok (.aload_n 0, 1) := by decide +kernel
theorem dX6_member_44 : decode cX6_member 44 = .ok (.getfield 16, 3) := by decide +kernel
theorem dX6_member_47 : decode cX6_member 47 = .ok (.iload_n 1, 1) := by decide +kernel
theorem dX6_member_48 : decode cX6_member 48 = .ok (.iload_n 2, 1) := by decide +kernel
theorem dX6_member_49 : decode cX6_member 49 = .ok (.invokestatic 152, 3) := by decide +kernel
theorem dX6_member_52 : decode cX6_member 52 = .ok (.ireturn, 1) := by decide +kernel
set_option maxRecDepth 20000 in
theorem ggX6_both_X6_isMember : GoodIn wsX6_both wsX6_isMember := goodIn_r _ [6, 7, 8, 5, 9] (by decide +kernel) (by decide +kernel)
set_option maxRecDepth 20000 in
theorem gX6_both_X6_isMember : GoodIn wsX6_both (va_wsS RX6 147 yX6_isMember wsX6_isMember) := goodIn_app (goodIn_of _ (by decide +kernel)) ggX6_both_X6_isMember
set_option maxRecDepth 20000 in
theorem ggX6_both_X6_in : GoodIn wsX6_both wsX6_in := goodIn_r _ [9] (by decide +kernel) (by decide +kernel)
set_option maxRecDepth 20000 in
theorem gX6_both_X6_in : GoodIn wsX6_both (va_wsS RX6 42 yX6_in wsX6_in) := goodIn_app (goodIn_of _ (by decide +kernel)) ggX6_both_X6_in
set_option maxRecDepth 20000 in
theorem ggX6_both_X6_refused : GoodIn wsX6_both wsX6_refused := goodIn_r _ [13, 14, 42, 43, 44, 45, 46, 47, 48, 49, 50, 51, 52, 53, 54] (by decide +kernel) (by decide +kernel)
set_option maxRecDepth 20000 in
theorem gX6_both_X6_refused : GoodIn wsX6_both (wsV RX6 111 RX6 yX6_refused wsX6_refused) := goodIn_app (goodIn_of _ (by decide +kernel)) ggX6_both_X6_refused
set_option maxRecDepth 20000 in
theorem ggX6_both_X6_score : GoodIn wsX6_both wsX6_score := goodIn_r _ [17, 18, 19, 5, 20, 21, 22, 23, 24, 25, 26] (by decide +kernel) (by decide +kernel)
set_option maxRecDepth 20000 in
theorem gX6_both_X6_score : GoodIn wsX6_both (va_wsS RX6 57 yX6_score wsX6_score) := goodIn_app (goodIn_of _ (by decide +kernel)) ggX6_both_X6_score
set_option maxRecDepth 20000 in
theorem ggX6_both_X6_valueOf : GoodIn wsX6_both wsX6_valueOf := goodIn_r _ [29, 15, 16, 5, 17, 18, 19, 20, 21, 22, 23, 24, 25, 26] (by decide +kernel) (by decide +kernel)
set_option maxRecDepth 20000 in
theorem gX6_both_X6_valueOf : GoodIn wsX6_both (va_wsS RX6 78 yX6_valueOf wsX6_valueOf) := goodIn_app (goodIn_of _ (by decide +kernel)) ggX6_both_X6_valueOf
set_option maxRecDepth 20000 in
theorem ggX6_both_X6_fit : GoodIn wsX6_both wsX6_fit := goodIn_r _ [32, 18, 19, 5, 20, 21, 22, 23] (by decide +kernel) (by decide +kernel)
set_option maxRecDepth 20000 in
theorem gX6_both_X6_fit : GoodIn wsX6_both (va_wsS RX6 64 yX6_fit wsX6_fit) := goodIn_app (goodIn_of _ (by decide +kernel)) ggX6_both_X6_fit
set_option maxRecDepth 20000 in
theorem ggX6_both_X6_block : GoodIn wsX6_both wsX6_block := goodIn_r _ [35, 30, 31, 5, 32, 18, 19, 20, 21, 22, 23, 36, 37, 38, 39, 40, 41, 15, 16, 17, 24, 25, 26] (by decide +kernel) (by decide +kernel)
set_option maxRecDepth 20000 in
theorem gX6_both_X6_block : GoodIn wsX6_both (va_wsS RX6 85 yX6_block wsX6_block) := goodIn_app (goodIn_of _ (by decide +kernel)) ggX6_both_X6_block
theorem dX6_both_0 : decode cX6_both 0 = .ok (.aload_n 0, 1) := by decide +kernel
theorem dX6_both_1 : decode cX6_both 1 = .ok (.aload_n 0, 1) := by decide +kernel
theorem dX6_both_2 : decode cX6_both 2 = .ok (.getfield 16, 3) := by decide +kernel
theorem dX6_both_5 : decode cX6_both 5 = .ok (.iload_n 1, 1) := by decide +kernel
theorem dX6_both_6 : decode cX6_both 6 = .ok (.invokestatic 147, 3) := by decide +kernel
theorem dX6_both_9 : decode cX6_both 9 = .ok (.ifCond .eq 14, 3) := by decide +kernel
theorem dX6_both_12 : decode cX6_both 12 = .ok (.aload_n 0, 1) := by decide +kernel
theorem dX6_both_13 : decode cX6_both 13 = .ok (.getfield 16, 3) := by decide +kernel
theorem dX6_both_16 : decode cX6_both 16 = .ok (.iload_n 2, 1) := by decide +kernel
theorem dX6_both_17 : decode cX6_both 17 = .ok (.invokestatic 147, 3) := by decide +kernel
theorem dX6_both_20 : decode cX6_both 20 = .ok (.ifCond .ne 7, 3) := by decide +kernel
theorem dX6_both_23 : decode cX6_both 23 = .ok (.iconst 1, 1) := by decide +kernel
theorem dX6_both_24 : decode cX6_both 24 = .ok (.goto 25, 3) := by decide +kernel
theorem dX6_both_27 : decode cX6_both 27 = .ok (.iload_n 1, 1) := by decide +kernel
theorem dX6_both_28 : decode cX6_both 28 = .ok (.iload_n 2, 1) := by decide +kernel
theorem dX6_both_29 : decode cX6_both 29 = .ok (.if_icmp .eq 15, 3) := by decide +kernel
theorem dX6_both_32 : decode cX6_both 32 = .ok (.iload_n 3, 1) := by decide +kernel
theorem dX6_both_33 : decode cX6_both 33 = .ok (.i2l, 1) := by decide +kernel
theorem dX6_both_34 : decode cX6_both 34 = .ok (.lconst 0, 1) := by decide +kernel
theorem dX6_both_35 : decode cX6_both 35 = .ok (.ldc2_w 155, 3) := by decide +kernel
theorem dX6_both_38 : decode cX6_both 38 = .ok (.invokestatic 42, 3) := by decide +kernel
theorem dX6_both_41 : decode cX6_both 41 = .ok (.ifCond .ne 7, 3) := by decide +kernel
theorem dX6_both_44 : decode cX6_both 44 = .ok (.iconst 2, 1) := by decide +kernel
theorem dX6_both_45 : decode cX6_both 45 = .ok (.goto 4, 3) := by decide +kernel
theorem dX6_both_48 : decode cX6_both 48 = .ok (.iconst 0, 1) := by decide +kernel
theorem dX6_both_49 : decode cX6_both 49 = .ok (.invokevirtual 111, 3) := by decide +kernel
theorem dX6_both_52 : decode cX6_both 52 = .ok (.ifCond .eq 5, 3) := by decide +kernel
theorem dX6_both_55 : decode cX6_both 55 = .ok (.iconst 0, 1) := by decide +kernel
theorem dX6_both_56 : decode cX6_both 56 = .ok (.ireturn, 1) := by decide +kernel
theorem dX6_both_57 : decode cX6_both 57 = .ok (.iload_n 3, 1) := by decide +kernel
theorem dX6_both_58 : decode cX6_both 58 = .ok (.ifCond .ne 15, 3) := by decide +kernel
theorem dX6_both_61 : decode cX6_both 61 = .ok (.aload_n 0, 1) := by decide +kernel
theorem dX6_both_62 : decode cX6_both 62 = .ok (.getfield 16, 3) := by decide +kernel
theorem dX6_both_65 : decode cX6_both 65 = .ok (.iload_n 1, 1) := by decide +kernel
theorem dX6_both_66 : decode cX6_both 66 = .ok (.iload_n 2, 1) := by decide +kernel
theorem dX6_both_67 : decode cX6_both 67 = .ok (.invokestatic 57, 3) := by decide +kernel
theorem dX6_both_70 : decode cX6_both 70 = .ok (.goto 57, 3) := by decide +kernel
theorem dX6_both_73 : decode cX6_both 73 = .ok (.iload_n 3, 1) := by decide +kernel
theorem dX6_both_74 : decode cX6_both 74 = .ok (.iconst 1, 1) := by decide +kernel
theorem dX6_both_75 : decode cX6_both 75 = .ok (.if_icmp .ne 15, 3) := by decide +kernel
theorem dX6_both_78 : decode cX6_both 78 = .ok (.aload_n 0, 1) := by decide +kernel
theorem dX6_both_79 : decode cX6_both 79 = .ok (.getfield 16, 3) := by decide +kernel
theorem dX6_both_82 : decode cX6_both 82 = .ok (.iload_n 1, 1) := by decide +kernel
theorem dX6_both_83 : decode cX6_both 83 = .ok (.iload_n 2, 1) := by decide +kernel
theorem dX6_both_84 : decode cX6_both 84 = .ok (.invokestatic 78, 3) := by decide +kernel
theorem dX6_both_87 : decode cX6_both 87 = .ok (.goto 40, 3) := by decide +kernel
theorem dX6_both_90 : decode cX6_both 90 = .ok (.iload_n 3, 1) := by decide +kernel
theorem dX6_both_91 : decode cX6_both 91 = .ok (.iconst 2, 1) := by decide +kernel
theorem dX6_both_92 : decode cX6_both 92 = .ok (.if_icmp .ne 18, 3) := by decide +kernel
theorem dX6_both_95 : decode cX6_both 95 = .ok (.aload_n 0, 1) := by decide +kernel
theorem dX6_both_96 : decode cX6_both 96 = .ok (.getfield 16, 3) := by decide +kernel
theorem dX6_both_99 : decode cX6_both 99 = .ok (.iload_n 1, 1) := by decide +kernel
theorem dX6_both_100 : decode cX6_both 100 = .ok (.iload_n 2, 1) := by decide +kernel
theorem dX6_both_101 : decode cX6_both 101 = .ok (.invokestatic 64, 3) := by decide +kernel
theorem dX6_both_104 : decode cX6_both 104 = .ok (.ifCond .eq 22, 3) := by decide +kernel
theorem dX6_both_107 : decode cX6_both 107 = .ok (.goto 15, 3) := by decide +kernel
theorem dX6_both_110 : decode cX6_both 110 = .ok (.aload_n 0, 1) := by decide +kernel
theorem dX6_both_111 : decode cX6_both 111 = .ok (.getfield 16, 3) := by decide +kernel
theorem dX6_both_114 : decode cX6_both 114 = .ok (.iload_n 1, 1) := by decide +kernel
theorem dX6_both_115 : decode cX6_both 115 = .ok (.iload_n 2, 1) := by decide +kernel
theorem dX6_both_116 : decode cX6_both 116 = .ok (.invokestatic 85, 3) := by decide +kernel
theorem dX6_both_119 : decode cX6_both 119 = .ok (.ifCond .eq 7, 3) := by decide +kernel
theorem dX6_both_122 : decode cX6_both 122 = .ok (.iconst 1, 1) := by decide +kernel
theorem dX6_both_123 : decode cX6_both 123 = .ok (.goto 4, 3) := by decide +kernel
theorem dX6_both_126 : decode cX6_both 126 = .ok (.iconst 0, 1) := by decide +kernel
theorem dX6_both_127 : decode cX6_both 127 = .ok (.ireturn, 1) := by decide +kernel
set_option maxRecDepth 20000 in
theorem ggX6_note_X6_copyPage : GoodIn wsX6_note wsX6_copyPage := goodIn_r _ [7] (by decide +kernel) (by decide +kernel)
set_option maxRecDepth 20000 in
theorem gX6_note_X6_copyPage : GoodIn wsX6_note (va_wsS RX6 131 yX6_copyPage wsX6_copyPage) := goodIn_app (goodIn_of _ (by decide +kernel)) ggX6_note_X6_copyPage
theorem dX6_note_0 : decode cX6_note 0 = .ok (.aload_n 0, 1) := by decide +kernel
theorem dX6_note_1 : decode cX6_note 1 = .ok (.getfield 135, 3) := by decide +kernel
theorem dX6_note_4 : decode cX6_note 4 = .ok (.bipush 14, 2) := by decide +kernel
theorem dX6_note_6 : decode cX6_note 6 = .ok (.if_icmp .ne 43, 3) := by decide +kernel
theorem dX6_note_9 : decode cX6_note 9 = .ok (.iconst 0, 1) := by decide +kernel
theorem dX6_note_10 : decode cX6_note 10 = .ok (.istore_n 1, 1) := by decide +kernel
theorem dX6_note_11 : decode cX6_note 11 = .ok (.iload_n 1, 1) := by decide +kernel
theorem dX6_note_12 : decode cX6_note 12 = .ok (.sipush 1196, 3) := by decide +kernel
theorem dX6_note_15 : decode cX6_note 15 = .ok (.if_icmp .ge 24, 3) := by decide +kernel
theorem dX6_note_18 : decode cX6_note 18 = .ok (.aload_n 0, 1) := by decide +kernel
theorem dX6_note_19 : decode cX6_note 19 = .ok (.getfield 22, 3) := by decide +kernel
theorem dX6_note_22 : decode cX6_note 22 = .ok (.iload_n 1, 1) := by decide +kernel
theorem dX6_note_23 : decode cX6_note 23 = .ok (.aload_n 0, 1) := by decide +kernel
theorem dX6_note_24 : decode cX6_note 24 = .ok (.getfield 22, 3) := by decide +kernel
theorem dX6_note_27 : decode cX6_note 27 = .ok (.iload_n 1, 1) := by decide +kernel
theorem dX6_note_28 : decode cX6_note 28 = .ok (.bipush 92, 2) := by decide +kernel
theorem dX6_note_30 : decode cX6_note 30 = .ok (.iadd, 1) := by decide +kernel
theorem dX6_note_31 : decode cX6_note 31 = .ok (.iaload, 1) := by decide +kernel
theorem dX6_note_32 : decode cX6_note 32 = .ok (.iastore, 1) := by decide +kernel
theorem dX6_note_33 : decode cX6_note 33 = .ok (.iinc 1 1, 3) := by decide +kernel
theorem dX6_note_36 : decode cX6_note 36 = .ok (.goto (-25), 3) := by decide +kernel
theorem dX6_note_39 : decode cX6_note 39 = .ok (.aload_n 0, 1) := by decide +kernel
theorem dX6_note_40 : decode cX6_note 40 = .ok (.dup, 1) := by decide +kernel
theorem dX6_note_41 : decode cX6_note 41 = .ok (.getfield 135, 3) := by decide +kernel
theorem dX6_note_44 : decode cX6_note 44 = .ok (.iconst 1, 1) := by decide +kernel
theorem dX6_note_45 : decode cX6_note 45 = .ok (.isub, 1) := by decide +kernel
theorem dX6_note_46 : decode cX6_note 46 = .ok (.putfield 135, 3) := by decide +kernel
theorem dX6_note_49 : decode cX6_note 49 = .ok (.aload_n 0, 1) := by decide +kernel
theorem dX6_note_50 : decode cX6_note 50 = .ok (.getfield 16, 3) := by decide +kernel
theorem dX6_note_53 : decode cX6_note 53 = .ok (.iconst 0, 1) := by decide +kernel
theorem dX6_note_54 : decode cX6_note 54 = .ok (.aload_n 0, 1) := by decide +kernel
theorem dX6_note_55 : decode cX6_note 55 = .ok (.getfield 22, 3) := by decide +kernel
theorem dX6_note_58 : decode cX6_note 58 = .ok (.bipush 92, 2) := by decide +kernel
theorem dX6_note_60 : decode cX6_note 60 = .ok (.aload_n 0, 1) := by decide +kernel
theorem dX6_note_61 : decode cX6_note 61 = .ok (.getfield 135, 3) := by decide +kernel
theorem dX6_note_64 : decode cX6_note 64 = .ok (.imul, 1) := by decide +kernel
theorem dX6_note_65 : decode cX6_note 65 = .ok (.invokestatic 131, 3) := by decide +kernel
theorem dX6_note_68 : decode cX6_note 68 = .ok (.aload_n 0, 1) := by decide +kernel
theorem dX6_note_69 : decode cX6_note 69 = .ok (.dup, 1) := by decide +kernel
theorem dX6_note_70 : decode cX6_note 70 = .ok (.getfield 135, 3) := by decide +kernel
theorem dX6_note_73 : decode cX6_note 73 = .ok (.iconst 1, 1) := by decide +kernel
theorem dX6_note_74 : decode cX6_note 74 = .ok (.iadd, 1) := by decide +kernel
theorem dX6_note_75 : decode cX6_note 75 = .ok (.putfield 135, 3) := by decide +kernel
theorem dX6_note_78 : decode cX6_note 78 = .ok (.return_, 1) := by decide +kernel
set_option maxRecDepth 20000 in
theorem ggX6_join_X6_in : GoodIn wsX6_join wsX6_in := goodIn_r _ [9] (by decide +kernel) (by decide +kernel)
set_option maxRecDepth 20000 in
theorem gX6_join_X6_in : GoodIn wsX6_join (va_wsS RX6 42 yX6_in wsX6_in) := goodIn_app (goodIn_of _ (by decide +kernel)) ggX6_join_X6_in
set_option maxRecDepth 20000 in
theorem ggX6_join_X6_refused : GoodIn wsX6_join wsX6_refused := goodIn_r _ [13, 14, 30, 31, 32, 33, 34, 35, 36, 37, 38, 39, 40, 41, 42] (by decide +kernel) (by decide +kernel)
set_option maxRecDepth 20000 in
theorem gX6_join_X6_refused : GoodIn wsX6_join (wsV RX6 111 RX6 yX6_refused wsX6_refused) := goodIn_app (goodIn_of _ (by decide +kernel)) ggX6_join_X6_refused
set_option maxRecDepth 20000 in
theorem ggX6_join_X6_note : GoodIn wsX6_join wsX6_note := goodIn_r _ [18, 19, 20, 5, 21, 22, 8, 23, 30, 31, 32, 33, 34, 35, 36, 37, 38, 39, 40, 41, 42] (by decide +kernel) (by decide +kernel)
set_option maxRecDepth 20000 in
theorem gX6_join_X6_note : GoodIn wsX6_join (wsV RX6 163 RX6 yX6_note wsX6_note) := goodIn_app (goodIn_of _ (by decide +kernel)) ggX6_join_X6_note
set_option maxRecDepth 20000 in
theorem ggX6_join_X6_at : GoodIn wsX6_join wsX6_at := goodIn_r _ [26] (by decide +kernel) (by decide +kernel)
set_option maxRecDepth 20000 in
theorem gX6_join_X6_at : GoodIn wsX6_join (va_wsS RX6 46 yX6_at wsX6_at) := goodIn_app (goodIn_of _ (by decide +kernel)) ggX6_join_X6_at
set_option maxRecDepth 20000 in
theorem ggX6_join_X6_free : GoodIn wsX6_join wsX6_free := goodIn_r _ [29, 24, 25, 8, 26] (by decide +kernel) (by decide +kernel)
set_option maxRecDepth 20000 in
theorem gX6_join_X6_free : GoodIn wsX6_join (va_wsS RX6 71 yX6_free wsX6_free) := goodIn_app (goodIn_of _ (by decide +kernel)) ggX6_join_X6_free
theorem dX6_join_0 : decode cX6_join 0 = .ok (.iload_n 1, 1) := by decide +kernel
theorem dX6_join_1 : decode cX6_join 1 = .ok (.i2l, 1) := by decide +kernel
theorem dX6_join_2 : decode cX6_join 2 = .ok (.lconst 0, 1) := by decide +kernel
theorem dX6_join_3 : decode cX6_join 3 = .ok (.ldc2_w 155, 3) := by decide +kernel
theorem dX6_join_6 : decode cX6_join 6 = .ok (.invokestatic 42, 3) := by decide +kernel
theorem dX6_join_9 : decode cX6_join 9 = .ok (.ifCond .eq 33, 3) := by decide +kernel
theorem dX6_join_12 : decode cX6_join 12 = .ok (.iload_n 2, 1) := by decide +kernel
theorem dX6_join_13 : decode cX6_join 13 = .ok (.i2l, 1) := by decide +kernel
theorem dX6_join_14 : decode cX6_join 14 = .ok (.lconst 0, 1) := by decide +kernel
theorem dX6_join_15 : decode cX6_join 15 = .ok (.ldc2_w 157, 3) := by decide +kernel
theorem dX6_join_18 : decode cX6_join 18 = .ok (.invokestatic 42, 3) := by decide +kernel
theorem dX6_join_21 : decode cX6_join 21 = .ok (.ifCond .eq 21, 3) := by decide +kernel
theorem dX6_join_24 : decode cX6_join 24 = .ok (.iload_n 3, 1) := by decide +kernel
theorem dX6_join_25 : decode cX6_join 25 = .ok (.i2l, 1) := by decide +kernel
theorem dX6_join_26 : decode cX6_join 26 = .ok (.ldc2_w 159, 3) := by decide +kernel
theorem dX6_join_29 : decode cX6_join 29 = .ok (.ldc2_w 161, 3) := by decide +kernel
theorem dX6_join_32 : decode cX6_join 32 = .ok (.invokestatic 42, 3) := by decide +kernel
theorem dX6_join_35 : decode cX6_join 35 = .ok (.ifCond .eq 7, 3) := by decide +kernel
theorem dX6_join_38 : decode cX6_join 38 = .ok (.iconst 1, 1) := by decide +kernel
theorem dX6_join_39 : decode cX6_join 39 = .ok (.goto 4, 3) := by decide +kernel
theorem dX6_join_42 : decode cX6_join 42 = .ok (.iconst 0, 1) := by decide +kernel
theorem dX6_join_43 : decode cX6_join 43 = .ok (.istore 4, 2) := by decide +kernel
theorem dX6_join_45 : decode cX6_join 45 = .ok (.aload_n 0, 1) := by decide +kernel
theorem dX6_join_46 : decode cX6_join 46 = .ok (.iload 4, 2) := by decide +kernel
theorem dX6_join_48 : decode cX6_join 48 = .ok (.ifCond .ne 7, 3) := by decide +kernel
theorem dX6_join_51 : decode cX6_join 51 = .ok (.iconst 1, 1) := by decide +kernel
theorem dX6_join_52 : decode cX6_join 52 = .ok (.goto 19, 3) := by decide +kernel
theorem dX6_join_55 : decode cX6_join 55 = .ok (.aload_n 0, 1) := by decide +kernel
theorem dX6_join_56 : decode cX6_join 56 = .ok (.getfield 16, 3) := by decide +kernel
theorem dX6_join_59 : decode cX6_join 59 = .ok (.iconst 0, 1) := by decide +kernel
theorem dX6_join_60 : decode cX6_join 60 = .ok (.iaload, 1) := by decide +kernel
theorem dX6_join_61 : decode cX6_join 61 = .ok (.bipush 9, 2) := by decide +kernel
theorem dX6_join_63 : decode cX6_join 63 = .ok (.if_icmp .ne 7, 3) := by decide +kernel
theorem dX6_join_66 : decode cX6_join 66 = .ok (.iconst 2, 1) := by decide +kernel
theorem dX6_join_67 : decode cX6_join 67 = .ok (.goto 4, 3) := by decide +kernel
theorem dX6_join_70 : decode cX6_join 70 = .ok (.iconst 0, 1) := by decide +kernel
theorem dX6_join_71 : decode cX6_join 71 = .ok (.invokevirtual 111, 3) := by decide +kernel
theorem dX6_join_74 : decode cX6_join 74 = .ok (.ifCond .eq 5, 3) := by decide +kernel
theorem dX6_join_77 : decode cX6_join 77 = .ok (.iconst 0, 1) := by decide +kernel
theorem dX6_join_78 : decode cX6_join 78 = .ok (.ireturn, 1) := by decide +kernel
theorem dX6_join_79 : decode cX6_join 79 = .ok (.aload_n 0, 1) := by decide +kernel
theorem dX6_join_80 : decode cX6_join 80 = .ok (.invokevirtual 163, 3) := by decide +kernel
theorem dX6_join_83 : decode cX6_join 83 = .ok (.aload_n 0, 1) := by decide +kernel
theorem dX6_join_84 : decode cX6_join 84 = .ok (.getfield 16, 3) := by decide +kernel
theorem dX6_join_87 : decode cX6_join 87 = .ok (.iconst 0, 1) := by decide +kernel
theorem dX6_join_88 : decode cX6_join 88 = .ok (.iaload, 1) := by decide +kernel
theorem dX6_join_89 : decode cX6_join 89 = .ok (.invokestatic 46, 3) := by decide +kernel
theorem dX6_join_92 : decode cX6_join 92 = .ok (.istore 5, 2) := by decide +kernel
theorem dX6_join_94 : decode cX6_join 94 = .ok (.iload_n 2, 1) := by decide +kernel
theorem dX6_join_95 : decode cX6_join 95 = .ok (.istore 6, 2) := by decide +kernel
theorem dX6_join_97 : decode cX6_join 97 = .ok (.iconst 3, 1) := by decide +kernel
theorem dX6_join_98 : decode cX6_join 98 = .ok (.istore 7, 2) := by decide +kernel
theorem dX6_join_100 : decode cX6_join 100 = .ok (.iload 7, 2) := by decide +kernel
theorem dX6_join_102 : decode cX6_join 102 = .ok (.ifCond .lt 31, 3) := by decide +kernel
theorem dX6_join_105 : decode cX6_join 105 = .ok (.aload_n 0, 1) := by decide +kernel
theorem dX6_join_106 : decode cX6_join 106 = .ok (.getfield 16, 3) := by decide +kernel
theorem dX6_join_109 : decode cX6_join 109 = .ok (.iload 5, 2) := by decide +kernel
theorem dX6_join_111 : decode cX6_join 111 = .ok (.iload 7, 2) := by decide +kernel
theorem dX6_join_113 : decode cX6_join 113 = .ok (.iadd, 1) := by decide +kernel
theorem dX6_join_114 : decode cX6_join 114 = .ok (.iload 6, 2) := by decide +kernel
theorem dX6_join_116 : decode cX6_join 116 = .ok (.bipush 10, 2) := by decide +kernel
theorem dX6_join_118 : decode cX6_join 118 = .ok (.irem, 1) := by decide +kernel
theorem dX6_join_119 : decode cX6_join 119 = .ok (.iastore, 1) := by decide +kernel
theorem dX6_join_120 : decode cX6_join 120 = .ok (.iload 6, 2) := by decide +kernel
theorem dX6_join_122 : decode cX6_join 122 = .ok (.bipush 10, 2) := by decide +kernel
theorem dX6_join_124 : decode cX6_join 124 = .ok (.idiv, 1) := by decide +kernel
theorem dX6_join_125 : decode cX6_join 125 = .ok (.istore 6, 2) := by decide +kernel
theorem dX6_join_127 : decode cX6_join 127 = .ok (.iinc 7 (-1), 3) := by decide +kernel
theorem dX6_join_130 : decode cX6_join 130 = .ok (.goto (-30), 3) := by decide +kernel
theorem dX6_join_133 : decode cX6_join 133 = .ok (.aload_n 0, 1) := by decide +kernel
theorem dX6_join_134 : decode cX6_join 134 = .ok (.getfield 16, 3) := by decide +kernel
theorem dX6_join_137 : decode cX6_join 137 = .ok (.iload 5, 2) := by decide +kernel
theorem dX6_join_139 : decode cX6_join 139 = .ok (.iconst 4, 1) := by decide +kernel
theorem dX6_join_140 : decode cX6_join 140 = .ok (.iadd, 1) := by decide +kernel
theorem dX6_join_141 : decode cX6_join 141 = .ok (.iload_n 1, 1) := by decide +kernel
theorem dX6_join_142 : decode cX6_join 142 = .ok (.iastore, 1) := by decide +kernel
theorem dX6_join_143 : decode cX6_join 143 = .ok (.aload_n 0, 1) := by decide +kernel
theorem dX6_join_144 : decode cX6_join 144 = .ok (.getfield 16, 3) := by decide +kernel
theorem dX6_join_147 : decode cX6_join 147 = .ok (.iload 5, 2) := by decide +kernel
theorem dX6_join_149 : decode cX6_join 149 = .ok (.iconst 5, 1) := by decide +kernel
theorem dX6_join_150 : decode cX6_join 150 = .ok (.iadd, 1) := by decide +kernel
theorem dX6_join_151 : decode cX6_join 151 = .ok (.iconst 0, 1) := by decide +kernel
theorem dX6_join_152 : decode cX6_join 152 = .ok (.iastore, 1) := by decide +kernel
theorem dX6_join_153 : decode cX6_join 153 = .ok (.aload_n 0, 1) := by decide +kernel
theorem dX6_join_154 : decode cX6_join 154 = .ok (.getfield 16, 3) := by decide +kernel
theorem dX6_join_157 : decode cX6_join 157 = .ok (.iload 5, 2) := by decide +kernel
theorem dX6_join_159 : decode cX6_join 159 = .ok (.bipush 6, 2) := by decide +kernel
theorem dX6_join_161 : decode cX6_join 161 = .ok (.iadd, 1) := by decide +kernel
theorem dX6_join_162 : decode cX6_join 162 = .ok (.iload_n 3, 1) := by decide +kernel
theorem dX6_join_163 : decode cX6_join 163 = .ok (.iastore, 1) := by decide +kernel
theorem dX6_join_164 : decode cX6_join 164 = .ok (.aload_n 0, 1) := by decide +kernel
theorem dX6_join_165 : decode cX6_join 165 = .ok (.getfield 16, 3) := by decide +kernel
theorem dX6_join_168 : decode cX6_join 168 = .ok (.iload 5, 2) := by decide +kernel
theorem dX6_join_170 : decode cX6_join 170 = .ok (.bipush 7, 2) := by decide +kernel
theorem dX6_join_172 : decode cX6_join 172 = .ok (.iadd, 1) := by decide +kernel
theorem dX6_join_173 : decode cX6_join 173 = .ok (.iconst 0, 1) := by decide +kernel
theorem dX6_join_174 : decode cX6_join 174 = .ok (.iastore, 1) := by decide +kernel
theorem dX6_join_175 : decode cX6_join 175 = .ok (.aload_n 0, 1) := by decide +kernel
theorem dX6_join_176 : decode cX6_join 176 = .ok (.getfield 16, 3) := by decide +kernel
theorem dX6_join_179 : decode cX6_join 179 = .ok (.aload_n 0, 1) := by decide +kernel
theorem dX6_join_180 : decode cX6_join 180 = .ok (.getfield 16, 3) := by decide +kernel
theorem dX6_join_183 : decode cX6_join 183 = .ok (.iconst 0, 1) := by decide +kernel
theorem dX6_join_184 : decode cX6_join 184 = .ok (.iaload, 1) := by decide +kernel
theorem dX6_join_185 : decode cX6_join 185 = .ok (.invokestatic 71, 3) := by decide +kernel
theorem dX6_join_188 : decode cX6_join 188 = .ok (.aload_n 0, 1) := by decide +kernel
theorem dX6_join_189 : decode cX6_join 189 = .ok (.getfield 16, 3) := by decide +kernel
theorem dX6_join_192 : decode cX6_join 192 = .ok (.iconst 0, 1) := by decide +kernel
theorem dX6_join_193 : decode cX6_join 193 = .ok (.dup2, 1) := by decide +kernel
theorem dX6_join_194 : decode cX6_join 194 = .ok (.iaload, 1) := by decide +kernel
theorem dX6_join_195 : decode cX6_join 195 = .ok (.iconst 1, 1) := by decide +kernel
theorem dX6_join_196 : decode cX6_join 196 = .ok (.iadd, 1) := by decide +kernel
theorem dX6_join_197 : decode cX6_join 197 = .ok (.iastore, 1) := by decide +kernel
theorem dX6_join_198 : decode cX6_join 198 = .ok (.aload_n 0, 1) := by decide +kernel
theorem dX6_join_199 : decode cX6_join 199 = .ok (.getfield 16, 3) := by decide +kernel
theorem dX6_join_202 : decode cX6_join 202 = .ok (.iconst 0, 1) := by decide +kernel
theorem dX6_join_203 : decode cX6_join 203 = .ok (.iaload, 1) := by decide +kernel
theorem dX6_join_204 : decode cX6_join 204 = .ok (.iconst 1, 1) := by decide +kernel
theorem dX6_join_205 : decode cX6_join 205 = .ok (.isub, 1) := by decide +kernel
theorem dX6_join_206 : decode cX6_join 206 = .ok (.ireturn, 1) := by decide +kernel
set_option maxRecDepth 20000 in
theorem ggX6_leave_X6_isMember : GoodIn wsX6_leave wsX6_isMember := goodIn_r _ [5, 6, 7, 4, 8] (by decide +kernel) (by decide +kernel)
set_option maxRecDepth 20000 in
theorem gX6_leave_X6_isMember : GoodIn wsX6_leave (va_wsS RX6 147 yX6_isMember wsX6_isMember) := goodIn_app (goodIn_of _ (by decide +kernel)) ggX6_leave_X6_isMember
set_option maxRecDepth 20000 in
theorem ggX6_leave_X6_refused : GoodIn wsX6_leave wsX6_refused := goodIn_r _ [12, 13, 32, 33, 34, 35, 36, 37, 38, 39, 40, 41, 42, 43, 44] (by decide +kernel) (by decide +kernel)
set_option maxRecDepth 20000 in
theorem gX6_leave_X6_refused : GoodIn wsX6_leave (wsV RX6 111 RX6 yX6_refused wsX6_refused) := goodIn_app (goodIn_of _ (by decide +kernel)) ggX6_leave_X6_refused
set_option maxRecDepth 20000 in
theorem ggX6_leave_X6_note : GoodIn wsX6_leave wsX6_note := goodIn_r _ [17, 18, 19, 1, 20, 21, 4, 22, 32, 33, 34, 35, 36, 37, 38, 39, 40, 41, 42, 43, 44] (by decide +kernel) (by decide +kernel)
set_option maxRecDepth 20000 in
theorem gX6_leave_X6_note : GoodIn wsX6_leave (wsV RX6 163 RX6 yX6_note wsX6_note) := goodIn_app (goodIn_of _ (by decide +kernel)) ggX6_leave_X6_note
set_option maxRecDepth 20000 in
theorem ggX6_leave_X6_at : GoodIn wsX6_leave wsX6_at := goodIn_r _ [25] (by decide +kernel) (by decide +kernel)
set_option maxRecDepth 20000 in
theorem gX6_leave_X6_at : GoodIn wsX6_leave (va_wsS RX6 46 yX6_at wsX6_at) := goodIn_app (goodIn_of _ (by decide +kernel)) ggX6_leave_X6_at
set_option maxRecDepth 20000 in
theorem ggX6_leave_X6_partOn : GoodIn wsX6_leave wsX6_partOn := goodIn_r _ [28, 23, 24, 4, 25, 29, 30, 31] (by decide +kernel) (by decide +kernel)
set_option maxRecDepth 20000 in
theorem gX6_leave_X6_partOn : GoodIn wsX6_leave (va_wsS RX6 75 yX6_partOn wsX6_partOn) := goodIn_app (goodIn_of _ (by decide +kernel)) ggX6_leave_X6_partOn
theorem dX6_leave_0 : decode cX6_leave 0 = .ok (.aload_n 0, 1) := by decide +kernel
theorem dX6_leave_1 : decode cX6_leave 1 = .ok (.aload_n 0, 1) := by decide +kernel
theorem dX6_leave_2 : decode cX6_leave 2 = .ok (.getfield 16, 3) := by decide +kernel
theorem dX6_leave_5 : decode cX6_leave 5 = .ok (.iload_n 1, 1) := by decide +kernel
theorem dX6_leave_6 : decode cX6_leave 6 = .ok (.invokestatic 147, 3) := by decide +kernel
theorem dX6_leave_9 : decode cX6_leave 9 = .ok (.ifCond .eq 7, 3) := by decide +kernel
theorem dX6_leave_12 : decode cX6_leave 12 = .ok (.iconst 0, 1) := by decide +kernel
theorem dX6_leave_13 : decode cX6_leave 13 = .ok (.goto 4, 3) := by decide +kernel
theorem dX6_leave_16 : decode cX6_leave 16 = .ok (.iconst 1, 1) := by decide +kernel
theorem dX6_leave_17 : decode cX6_leave 17 = .ok (.invokevirtual 111, 3) := by decide +kernel
theorem dX6_leave_20 : decode cX6_leave 20 = .ok (.ifCond .eq 5, 3) := by decide +kernel
theorem dX6_leave_23 : decode cX6_leave 23 = .ok (.iconst 0, 1) := by decide +kernel
theorem dX6_leave_24 : decode cX6_leave 24 = .ok (.ireturn, 1) := by decide +kernel
theorem dX6_leave_25 : decode cX6_leave 25 = .ok (.aload_n 0, 1) := by decide +kernel
theorem dX6_leave_26 : decode cX6_leave 26 = .ok (.invokevirtual 163, 3) := by decide +kernel
theorem dX6_leave_29 : decode cX6_leave 29 = .ok (.aload_n 0, 1) := by decide +kernel
theorem dX6_leave_30 : decode cX6_leave 30 = .ok (.getfield 16, 3) := by decide +kernel
theorem dX6_leave_33 : decode cX6_leave 33 = .ok (.iload_n 1, 1) := by decide +kernel
theorem dX6_leave_34 : decode cX6_leave 34 = .ok (.invokestatic 46, 3) := by decide +kernel
theorem dX6_leave_37 : decode cX6_leave 37 = .ok (.bipush 6, 2) := by decide +kernel
theorem dX6_leave_39 : decode cX6_leave 39 = .ok (.iadd, 1) := by decide +kernel
theorem dX6_leave_40 : decode cX6_leave 40 = .ok (.iaload, 1) := by decide +kernel
theorem dX6_leave_41 : decode cX6_leave 41 = .ok (.istore_n 2, 1) := by decide +kernel
theorem dX6_leave_42 : decode cX6_leave 42 = .ok (.aload_n 0, 1) := by decide +kernel
theorem dX6_leave_43 : decode cX6_leave 43 = .ok (.getfield 16, 3) := by decide +kernel
theorem dX6_leave_46 : decode cX6_leave 46 = .ok (.iload_n 1, 1) := by decide +kernel
theorem dX6_leave_47 : decode cX6_leave 47 = .ok (.invokestatic 75, 3) := by decide +kernel
theorem dX6_leave_50 : decode cX6_leave 50 = .ok (.iload_n 1, 1) := by decide +kernel
theorem dX6_leave_51 : decode cX6_leave 51 = .ok (.invokestatic 46, 3) := by decide +kernel
theorem dX6_leave_54 : decode cX6_leave 54 = .ok (.istore_n 3, 1) := by decide +kernel
theorem dX6_leave_55 : decode cX6_leave 55 = .ok (.iload_n 3, 1) := by decide +kernel
theorem dX6_leave_56 : decode cX6_leave 56 = .ok (.bipush 10, 2) := by decide +kernel
theorem dX6_leave_58 : decode cX6_leave 58 = .ok (.iadd, 1) := by decide +kernel
theorem dX6_leave_59 : decode cX6_leave 59 = .ok (.bipush 92, 2) := by decide +kernel
theorem dX6_leave_61 : decode cX6_leave 61 = .ok (.if_icmp .ge 24, 3) := by decide +kernel
theorem dX6_leave_64 : decode cX6_leave 64 = .ok (.aload_n 0, 1) := by decide +kernel
theorem dX6_leave_65 : decode cX6_leave 65 = .ok (.getfield 16, 3) := by decide +kernel
theorem dX6_leave_68 : decode cX6_leave 68 = .ok (.iload_n 3, 1) := by decide +kernel
theorem dX6_leave_69 : decode cX6_leave 69 = .ok (.aload_n 0, 1) := by decide +kernel
theorem dX6_leave_70 : decode cX6_leave 70 = .ok (.getfield 16, 3) := by decide +kernel
theorem dX6_leave_73 : decode cX6_leave 73 = .ok (.iload_n 3, 1) := by decide +kernel
theorem dX6_leave_74 : decode cX6_leave 74 = .ok (.bipush 10, 2) := by decide +kernel
theorem dX6_leave_76 : decode cX6_leave 76 = .ok (.iadd, 1) := by decide +kernel
theorem dX6_leave_77 : decode cX6_leave 77 = .ok (.iaload, 1) := by decide +kernel
theorem dX6_leave_78 : decode cX6_leave 78 = .ok (.iastore, 1) := by decide +kernel
theorem dX6_leave_79 : decode cX6_leave 79 = .ok (.iinc 3 1, 3) := by decide +kernel
theorem dX6_leave_82 : decode cX6_leave 82 = .ok (.goto (-27), 3) := by decide +kernel
theorem dX6_leave_85 : decode cX6_leave 85 = .ok (.aload_n 0, 1) := by decide +kernel
theorem dX6_leave_86 : decode cX6_leave 86 = .ok (.getfield 16, 3) := by decide +kernel
theorem dX6_leave_89 : decode cX6_leave 89 = .ok (.iconst 0, 1) := by decide +kernel
theorem dX6_leave_90 : decode cX6_leave 90 = .ok (.dup2, 1) := by decide +kernel
theorem dX6_leave_91 : decode cX6_leave 91 = .ok (.iaload, 1) := by decide +kernel
theorem dX6_leave_92 : decode cX6_leave 92 = .ok (.iconst 1, 1) := by decide +kernel
theorem dX6_leave_93 : decode cX6_leave 93 = .ok (.isub, 1) := by decide +kernel
theorem dX6_leave_94 : decode cX6_leave 94 = .ok (.iastore, 1) := by decide +kernel
theorem dX6_leave_95 : decode cX6_leave 95 = .ok (.iconst 0, 1) := by decide +kernel
theorem dX6_leave_96 : decode cX6_leave 96 = .ok (.istore_n 3, 1) := by decide +kernel
theorem dX6_leave_97 : decode cX6_leave 97 = .ok (.iload_n 3, 1) := by decide +kernel
theorem dX6_leave_98 : decode cX6_leave 98 = .ok (.aload_n 0, 1) := by decide +kernel
theorem dX6_leave_99 : decode cX6_leave 99 = .ok (.getfield 16, 3) := by decide +kernel
theorem dX6_leave_102 : decode cX6_leave 102 = .ok (.iconst 0, 1) := by decide +kernel
theorem dX6_leave_103 : decode cX6_leave 103 = .ok (.iaload, 1) := by decide +kernel
theorem dX6_leave_104 : decode cX6_leave 104 = .ok (.if_icmp .ge 50, 3) := by decide +kernel
theorem dX6_leave_107 : decode cX6_leave 107 = .ok (.aload_n 0, 1) := by decide +kernel
theorem dX6_leave_108 : decode cX6_leave 108 = .ok (.getfield 16, 3) := by decide +kernel
theorem dX6_leave_111 : decode cX6_leave 111 = .ok (.iload_n 3, 1) := by decide +kernel
theorem dX6_leave_112 : decode cX6_leave 112 = .ok (.invokestatic 46, 3) := by decide +kernel
theorem dX6_leave_115 : decode cX6_leave 115 = .ok (.bipush 8, 2) := by decide +kernel
theorem dX6_leave_117 : decode cX6_leave 117 = .ok (.iadd, 1) := by decide +kernel
theorem dX6_leave_118 : decode cX6_leave 118 = .ok (.iaload, 1) := by decide +kernel
theorem dX6_leave_119 : decode cX6_leave 119 = .ok (.istore 4, 2) := by decide +kernel
theorem dX6_leave_121 : decode cX6_leave 121 = .ok (.aload_n 0, 1) := by decide +kernel
theorem dX6_leave_122 : decode cX6_leave 122 = .ok (.getfield 16, 3) := by decide +kernel
theorem dX6_leave_125 : decode cX6_leave 125 = .ok (.iload_n 3, 1) := by decide +kernel
theorem dX6_leave_126 : decode cX6_leave 126 = .ok (.invokestatic 46, 3) := by decide +kernel
theorem dX6_leave_129 : decode cX6_leave 129 = .ok (.bipush 8, 2) := by decide +kernel
theorem dX6_leave_131 : decode cX6_leave 131 = .ok (.iadd, 1) := by decide +kernel
theorem dX6_leave_132 : decode cX6_leave 132 = .ok (.iload 4, 2) := by decide +kernel
theorem dX6_leave_134 : decode cX6_leave 134 = .ok (.iload_n 1, 1) := by decide +kernel
theorem dX6_leave_135 : decode cX6_leave 135 = .ok (.if_icmp .le 10, 3) := by decide +kernel
theorem dX6_leave_138 : decode cX6_leave 138 = .ok (.iload 4, 2) := by decide +kernel
theorem dX6_leave_140 : decode cX6_leave 140 = .ok (.iconst 1, 1) := by decide +kernel
theorem dX6_leave_141 : decode cX6_leave 141 = .ok (.isub, 1) := by decide +kernel
theorem dX6_leave_142 : decode cX6_leave 142 = .ok (.goto 5, 3) := by decide +kernel
theorem dX6_leave_145 : decode cX6_leave 145 = .ok (.iload 4, 2) := by decide +kernel
theorem dX6_leave_147 : decode cX6_leave 147 = .ok (.iastore, 1) := by decide +kernel
theorem dX6_leave_148 : decode cX6_leave 148 = .ok (.iinc 3 1, 3) := by decide +kernel
theorem dX6_leave_151 : decode cX6_leave 151 = .ok (.goto (-54), 3) := by decide +kernel
theorem dX6_leave_154 : decode cX6_leave 154 = .ok (.iload_n 2, 1) := by decide +kernel
theorem dX6_leave_155 : decode cX6_leave 155 = .ok (.ireturn, 1) := by decide +kernel
set_option maxRecDepth 20000 in
theorem ggX6_isTongue_X6_in : GoodIn wsX6_isTongue wsX6_in := goodIn_r _ [5] (by decide +kernel) (by decide +kernel)
set_option maxRecDepth 20000 in
theorem gX6_isTongue_X6_in : GoodIn wsX6_isTongue (va_wsS RX6 42 yX6_in wsX6_in) := goodIn_app (goodIn_of _ (by decide +kernel)) ggX6_isTongue_X6_in
theorem dX6_isTongue_0 : decode cX6_isTongue 0 = .ok (.iload_n 0, 1) := by decide +kernel
theorem dX6_isTongue_1 : decode cX6_isTongue 1 = .ok (.i2l, 1) := by decide +kernel
theorem dX6_isTongue_2 : decode cX6_isTongue 2 = .ok (.lconst 0, 1) := by decide +kernel
theorem dX6_isTongue_3 : decode cX6_isTongue 3 = .ok (.ldc2_w 155, 3) := by decide +kernel
theorem dX6_isTongue_6 : decode cX6_isTongue 6 = .ok (.invokestatic 42, 3) := by decide +kernel
theorem dX6_isTongue_9 : decode cX6_isTongue 9 = .ok (.ireturn, 1) := by decide +kernel
set_option maxRecDepth 20000 in
theorem ggX6_want_X6_isMember : GoodIn wsX6_want wsX6_isMember := goodIn_r _ [5, 6, 7, 4, 8] (by decide +kernel) (by decide +kernel)
set_option maxRecDepth 20000 in
theorem gX6_want_X6_isMember : GoodIn wsX6_want (va_wsS RX6 147 yX6_isMember wsX6_isMember) := goodIn_app (goodIn_of _ (by decide +kernel)) ggX6_want_X6_isMember
set_option maxRecDepth 20000 in
theorem ggX6_want_X6_isTongue : GoodIn wsX6_want wsX6_isTongue := goodIn_r _ [11, 12, 6, 7, 4, 8] (by decide +kernel) (by decide +kernel)
set_option maxRecDepth 20000 in
theorem gX6_want_X6_isTongue : GoodIn wsX6_want (va_wsS RX6 166 yX6_isTongue wsX6_isTongue) := goodIn_app (goodIn_of _ (by decide +kernel)) ggX6_want_X6_isTongue
set_option maxRecDepth 20000 in
theorem ggX6_want_X6_refused : GoodIn wsX6_want wsX6_refused := goodIn_r _ [16, 17, 45, 46, 47, 48, 49, 50, 51, 52, 53, 54, 55, 56, 57] (by decide +kernel) (by decide +kernel)
set_option maxRecDepth 20000 in
theorem gX6_want_X6_refused : GoodIn wsX6_want (wsV RX6 111 RX6 yX6_refused wsX6_refused) := goodIn_app (goodIn_of _ (by decide +kernel)) ggX6_want_X6_refused
set_option maxRecDepth 20000 in
theorem ggX6_want_X6_note : GoodIn wsX6_want wsX6_note := goodIn_r _ [21, 22, 23, 1, 24, 25, 4, 26, 45, 46, 47, 48, 49, 50, 51, 52, 53, 54, 55, 56, 57] (by decide +kernel) (by decide +kernel)
set_option maxRecDepth 20000 in
theorem gX6_want_X6_note : GoodIn wsX6_want (wsV RX6 163 RX6 yX6_note wsX6_note) := goodIn_app (goodIn_of _ (by decide +kernel)) ggX6_want_X6_note
set_option maxRecDepth 20000 in
theorem ggX6_want_X6_at : GoodIn wsX6_want wsX6_at := goodIn_r _ [29] (by decide +kernel) (by decide +kernel)
set_option maxRecDepth 20000 in
theorem gX6_want_X6_at : GoodIn wsX6_want (va_wsS RX6 46 yX6_at wsX6_at) := goodIn_app (goodIn_of _ (by decide +kernel)) ggX6_want_X6_at
set_option maxRecDepth 20000 in
theorem ggX6_want_X6_mend : GoodIn wsX6_want wsX6_mend := goodIn_r _ [32, 27, 28, 4, 29, 33, 34, 35, 36, 37, 38, 39, 40, 41, 42, 43, 44] (by decide +kernel) (by decide +kernel)
set_option maxRecDepth 20000 in
theorem gX6_want_X6_mend : GoodIn wsX6_want (va_wsS RX6 169 yX6_mend wsX6_mend) := goodIn_app (goodIn_of _ (by decide +kernel)) ggX6_want_X6_mend
theorem dX6_want_0 : decode cX6_want 0 = .ok (.aload_n 0, 1) := by decide +kernel
theorem dX6_want_1 : decode cX6_want 1 = .ok (.aload_n 0, 1) := by decide +kernel
theorem dX6_want_2 : decode cX6_want 2 = .ok (.getfield 16, 3) := by decide +kernel
theorem dX6_want_5 : decode cX6_want 5 = .ok (.iload_n 1, 1) := by decide +kernel
theorem dX6_want_6 : decode cX6_want 6 = .ok (.invokestatic 147, 3) := by decide +kernel
theorem dX6_want_9 : decode cX6_want 9 = .ok (.ifCond .ne 7, 3) := by decide +kernel
theorem dX6_want_12 : decode cX6_want 12 = .ok (.iconst 1, 1) := by decide +kernel
theorem dX6_want_13 : decode cX6_want 13 = .ok (.goto 15, 3) := by decide +kernel
theorem dX6_want_16 : decode cX6_want 16 = .ok (.iload_n 2, 1) := by decide +kernel
theorem dX6_want_17 : decode cX6_want 17 = .ok (.invokestatic 166, 3) := by decide +kernel
theorem dX6_want_20 : decode cX6_want 20 = .ok (.ifCond .ne 7, 3) := by decide +kernel
theorem dX6_want_23 : decode cX6_want 23 = .ok (.iconst 2, 1) := by decide +kernel
theorem dX6_want_24 : decode cX6_want 24 = .ok (.goto 4, 3) := by decide +kernel
theorem dX6_want_27 : decode cX6_want 27 = .ok (.iconst 0, 1) := by decide +kernel
theorem dX6_want_28 : decode cX6_want 28 = .ok (.invokevirtual 111, 3) := by decide +kernel
theorem dX6_want_31 : decode cX6_want 31 = .ok (.ifCond .eq 5, 3) := by decide +kernel
theorem dX6_want_34 : decode cX6_want 34 = .ok (.iconst 0, 1) := by decide +kernel
theorem dX6_want_35 : decode cX6_want 35 = .ok (.ireturn, 1) := by decide +kernel
theorem dX6_want_36 : decode cX6_want 36 = .ok (.aload_n 0, 1) := by decide +kernel
theorem dX6_want_37 : decode cX6_want 37 = .ok (.invokevirtual 163, 3) := by decide +kernel
theorem dX6_want_40 : decode cX6_want 40 = .ok (.aload_n 0, 1) := by decide +kernel
theorem dX6_want_41 : decode cX6_want 41 = .ok (.getfield 16, 3) := by decide +kernel
theorem dX6_want_44 : decode cX6_want 44 = .ok (.iload_n 1, 1) := by decide +kernel
theorem dX6_want_45 : decode cX6_want 45 = .ok (.invokestatic 46, 3) := by decide +kernel
theorem dX6_want_48 : decode cX6_want 48 = .ok (.iconst 4, 1) := by decide +kernel
theorem dX6_want_49 : decode cX6_want 49 = .ok (.iadd, 1) := by decide +kernel
theorem dX6_want_50 : decode cX6_want 50 = .ok (.iaload, 1) := by decide +kernel
theorem dX6_want_51 : decode cX6_want 51 = .ok (.istore_n 3, 1) := by decide +kernel
theorem dX6_want_52 : decode cX6_want 52 = .ok (.aload_n 0, 1) := by decide +kernel
theorem dX6_want_53 : decode cX6_want 53 = .ok (.getfield 16, 3) := by decide +kernel
theorem dX6_want_56 : decode cX6_want 56 = .ok (.iload_n 1, 1) := by decide +kernel
theorem dX6_want_57 : decode cX6_want 57 = .ok (.invokestatic 46, 3) := by decide +kernel
theorem dX6_want_60 : decode cX6_want 60 = .ok (.iconst 4, 1) := by decide +kernel
theorem dX6_want_61 : decode cX6_want 61 = .ok (.iadd, 1) := by decide +kernel
theorem dX6_want_62 : decode cX6_want 62 = .ok (.iload_n 2, 1) := by decide +kernel
theorem dX6_want_63 : decode cX6_want 63 = .ok (.iastore, 1) := by decide +kernel
theorem dX6_want_64 : decode cX6_want 64 = .ok (.aload_n 0, 1) := by decide +kernel
theorem dX6_want_65 : decode cX6_want 65 = .ok (.getfield 16, 3) := by decide +kernel
theorem dX6_want_68 : decode cX6_want 68 = .ok (.iload_n 1, 1) := by decide +kernel
theorem dX6_want_69 : decode cX6_want 69 = .ok (.invokestatic 46, 3) := by decide +kernel
theorem dX6_want_72 : decode cX6_want 72 = .ok (.iconst 5, 1) := by decide +kernel
theorem dX6_want_73 : decode cX6_want 73 = .ok (.iadd, 1) := by decide +kernel
theorem dX6_want_74 : decode cX6_want 74 = .ok (.iconst 0, 1) := by decide +kernel
theorem dX6_want_75 : decode cX6_want 75 = .ok (.iastore, 1) := by decide +kernel
theorem dX6_want_76 : decode cX6_want 76 = .ok (.aload_n 0, 1) := by decide +kernel
theorem dX6_want_77 : decode cX6_want 77 = .ok (.getfield 16, 3) := by decide +kernel
theorem dX6_want_80 : decode cX6_want 80 = .ok (.iload_n 1, 1) := by decide +kernel
theorem dX6_want_81 : decode cX6_want 81 = .ok (.invokestatic 169, 3) := by decide +kernel
theorem dX6_want_84 : decode cX6_want 84 = .ok (.iload_n 3, 1) := by decide +kernel
theorem dX6_want_85 : decode cX6_want 85 = .ok (.ireturn, 1) := by decide +kernel
set_option maxRecDepth 20000 in
theorem ggX6_testOn_X6_at : GoodIn wsX6_testOn wsX6_at := goodIn_r _ [4] (by decide +kernel) (by decide +kernel)
set_option maxRecDepth 20000 in
theorem gX6_testOn_X6_at : GoodIn wsX6_testOn (va_wsS RX6 46 yX6_at wsX6_at) := goodIn_app (goodIn_of _ (by decide +kernel)) ggX6_testOn_X6_at
set_option maxRecDepth 20000 in
theorem ggX6_testOn_X6_mend : GoodIn wsX6_testOn wsX6_mend := goodIn_r _ [7, 1, 2, 3, 4, 8, 9, 10, 11, 12, 13, 14, 15, 16, 17, 18, 19] (by decide +kernel) (by decide +kernel)
set_option maxRecDepth 20000 in
theorem gX6_testOn_X6_mend : GoodIn wsX6_testOn (va_wsS RX6 169 yX6_mend wsX6_mend) := goodIn_app (goodIn_of _ (by decide +kernel)) ggX6_testOn_X6_mend
theorem dX6_testOn_0 : decode cX6_testOn 0 = .ok (.aload_n 0, 1) := by decide +kernel
theorem dX6_testOn_1 : decode cX6_testOn 1 = .ok (.iload_n 1, 1) := by decide +kernel
theorem dX6_testOn_2 : decode cX6_testOn 2 = .ok (.invokestatic 46, 3) := by decide +kernel
theorem dX6_testOn_5 : decode cX6_testOn 5 = .ok (.iload_n 2, 1) := by decide +kernel
theorem dX6_testOn_6 : decode cX6_testOn 6 = .ok (.iadd, 1) := by decide +kernel
theorem dX6_testOn_7 : decode cX6_testOn 7 = .ok (.iaload, 1) := by decide +kernel
theorem dX6_testOn_8 : decode cX6_testOn 8 = .ok (.istore 4, 2) := by decide +kernel
theorem dX6_testOn_10 : decode cX6_testOn 10 = .ok (.aload_n 0, 1) := by decide +kernel
theorem dX6_testOn_11 : decode cX6_testOn 11 = .ok (.iload_n 1, 1) := by decide +kernel
theorem dX6_testOn_12 : decode cX6_testOn 12 = .ok (.invokestatic 46, 3) := by decide +kernel
theorem dX6_testOn_15 : decode cX6_testOn 15 = .ok (.iload_n 2, 1) := by decide +kernel
theorem dX6_testOn_16 : decode cX6_testOn 16 = .ok (.iadd, 1) := by decide +kernel
theorem dX6_testOn_17 : decode cX6_testOn 17 = .ok (.iload_n 3, 1) := by decide +kernel
theorem dX6_testOn_18 : decode cX6_testOn 18 = .ok (.bipush 10, 2) := by decide +kernel
theorem dX6_testOn_20 : decode cX6_testOn 20 = .ok (.idiv, 1) := by decide +kernel
theorem dX6_testOn_21 : decode cX6_testOn 21 = .ok (.iastore, 1) := by decide +kernel
theorem dX6_testOn_22 : decode cX6_testOn 22 = .ok (.aload_n 0, 1) := by decide +kernel
theorem dX6_testOn_23 : decode cX6_testOn 23 = .ok (.iload_n 1, 1) := by decide +kernel
theorem dX6_testOn_24 : decode cX6_testOn 24 = .ok (.invokestatic 46, 3) := by decide +kernel
theorem dX6_testOn_27 : decode cX6_testOn 27 = .ok (.iconst 5, 1) := by decide +kernel
theorem dX6_testOn_28 : decode cX6_testOn 28 = .ok (.iadd, 1) := by decide +kernel
theorem dX6_testOn_29 : decode cX6_testOn 29 = .ok (.aload_n 0, 1) := by decide +kernel
theorem dX6_testOn_30 : decode cX6_testOn 30 = .ok (.iload_n 1, 1) := by decide +kernel
theorem dX6_testOn_31 : decode cX6_testOn 31 = .ok (.invokestatic 46, 3) := by decide +kernel
theorem dX6_testOn_34 : decode cX6_testOn 34 = .ok (.iconst 4, 1) := by decide +kernel
theorem dX6_testOn_35 : decode cX6_testOn 35 = .ok (.iadd, 1) := by decide +kernel
theorem dX6_testOn_36 : decode cX6_testOn 36 = .ok (.iaload, 1) := by decide +kernel
theorem dX6_testOn_37 : decode cX6_testOn 37 = .ok (.iload_n 2, 1) := by decide +kernel
theorem dX6_testOn_38 : decode cX6_testOn 38 = .ok (.if_icmp .ne 12, 3) := by decide +kernel
theorem dX6_testOn_41 : decode cX6_testOn 41 = .ok (.iload_n 3, 1) := by decide +kernel
theorem dX6_testOn_42 : decode cX6_testOn 42 = .ok (.bipush 10, 2) := by decide +kernel
theorem dX6_testOn_44 : decode cX6_testOn 44 = .ok (.irem, 1) := by decide +kernel
theorem dX6_testOn_45 : decode cX6_testOn 45 = .ok (.iconst 2, 1) := by decide +kernel
theorem dX6_testOn_46 : decode cX6_testOn 46 = .ok (.imul, 1) := by decide +kernel
theorem dX6_testOn_47 : decode cX6_testOn 47 = .ok (.goto 11, 3) := by decide +kernel
theorem dX6_testOn_50 : decode cX6_testOn 50 = .ok (.aload_n 0, 1) := by decide +kernel
theorem dX6_testOn_51 : decode cX6_testOn 51 = .ok (.iload_n 1, 1) := by decide +kernel
theorem dX6_testOn_52 : decode cX6_testOn 52 = .ok (.invokestatic 46, 3) := by decide +kernel
theorem dX6_testOn_55 : decode cX6_testOn 55 = .ok (.iconst 5, 1) := by decide +kernel
theorem dX6_testOn_56 : decode cX6_testOn 56 = .ok (.iadd, 1) := by decide +kernel
theorem dX6_testOn_57 : decode cX6_testOn 57 = .ok (.iaload, 1) := by decide +kernel
theorem dX6_testOn_58 : decode cX6_testOn 58 = .ok (.iastore, 1) := by decide +kernel
theorem dX6_testOn_59 : decode cX6_testOn 59 = .ok (.aload_n 0, 1) := by decide +kernel
theorem dX6_testOn_60 : decode cX6_testOn 60 = .ok (.iload_n 1, 1) := by decide +kernel
theorem dX6_testOn_61 : decode cX6_testOn 61 = .ok (.invokestatic 169, 3) := by decide +kernel
theorem dX6_testOn_64 : decode cX6_testOn 64 = .ok (.iload 4, 2) := by decide +kernel
theorem dX6_testOn_66 : decode cX6_testOn 66 = .ok (.ireturn, 1) := by decide +kernel
set_option maxRecDepth 20000 in
theorem ggX6_test_X6_isMember : GoodIn wsX6_test wsX6_isMember := goodIn_r _ [6, 7, 8, 5, 9] (by decide +kernel) (by decide +kernel)
set_option maxRecDepth 20000 in
theorem gX6_test_X6_isMember : GoodIn wsX6_test (va_wsS RX6 147 yX6_isMember wsX6_isMember) := goodIn_app (goodIn_of _ (by decide +kernel)) ggX6_test_X6_isMember
set_option maxRecDepth 20000 in
theorem ggX6_test_X6_isTongue : GoodIn wsX6_test wsX6_isTongue := goodIn_r _ [12, 13, 7, 8, 5, 9] (by decide +kernel) (by decide +kernel)
set_option maxRecDepth 20000 in
theorem gX6_test_X6_isTongue : GoodIn wsX6_test (va_wsS RX6 166 yX6_isTongue wsX6_isTongue) := goodIn_app (goodIn_of _ (by decide +kernel)) ggX6_test_X6_isTongue
set_option maxRecDepth 20000 in
theorem ggX6_test_X6_in : GoodIn wsX6_test wsX6_in := goodIn_r _ [9] (by decide +kernel) (by decide +kernel)
set_option maxRecDepth 20000 in
theorem gX6_test_X6_in : GoodIn wsX6_test (va_wsS RX6 42 yX6_in wsX6_in) := goodIn_app (goodIn_of _ (by decide +kernel)) ggX6_test_X6_in
set_option maxRecDepth 20000 in
theorem ggX6_test_X6_refused : GoodIn wsX6_test wsX6_refused := goodIn_r _ [17, 18, 49, 50, 51, 52, 53, 54, 55, 56, 57, 58, 59, 60, 61] (by decide +kernel) (by decide +kernel)
set_option maxRecDepth 20000 in
theorem gX6_test_X6_refused : GoodIn wsX6_test (wsV RX6 111 RX6 yX6_refused wsX6_refused) := goodIn_app (goodIn_of _ (by decide +kernel)) ggX6_test_X6_refused
set_option maxRecDepth 20000 in
theorem ggX6_test_X6_note : GoodIn wsX6_test wsX6_note := goodIn_r _ [22, 23, 24, 1, 25, 26, 5, 27, 49, 50, 51, 52, 53, 54, 55, 56, 57, 58, 59, 60, 61] (by decide +kernel) (by decide +kernel)
set_option maxRecDepth 20000 in
theorem gX6_test_X6_note : GoodIn wsX6_test (wsV RX6 163 RX6 yX6_note wsX6_note) := goodIn_app (goodIn_of _ (by decide +kernel)) ggX6_test_X6_note
set_option maxRecDepth 20000 in
theorem ggX6_test_X6_testOn : GoodIn wsX6_test wsX6_testOn := goodIn_r _ [30, 31, 32, 5, 33, 34, 35, 36, 37, 38, 39, 40, 41, 42, 43, 44, 45, 46, 47, 48] (by decide +kernel) (by decide +kernel)
set_option maxRecDepth 20000 in
theorem gX6_test_X6_testOn : GoodIn wsX6_test (va_wsS RX6 172 yX6_testOn wsX6_testOn) := goodIn_app (goodIn_of _ (by decide +kernel)) ggX6_test_X6_testOn
theorem dX6_test_0 : decode cX6_test 0 = .ok (.aload_n 0, 1) := by decide +kernel
theorem dX6_test_1 : decode cX6_test 1 = .ok (.aload_n 0, 1) := by decide +kernel
theorem dX6_test_2 : decode cX6_test 2 = .ok (.getfield 16, 3) := by decide +kernel
theorem dX6_test_5 : decode cX6_test 5 = .ok (.iload_n 1, 1) := by decide +kernel
theorem dX6_test_6 : decode cX6_test 6 = .ok (.invokestatic 147, 3) := by decide +kernel
theorem dX6_test_9 : decode cX6_test 9 = .ok (.ifCond .ne 7, 3) := by decide +kernel
theorem dX6_test_12 : decode cX6_test 12 = .ok (.iconst 1, 1) := by decide +kernel
theorem dX6_test_13 : decode cX6_test 13 = .ok (.goto 27, 3) := by decide +kernel
theorem dX6_test_16 : decode cX6_test 16 = .ok (.iload_n 2, 1) := by decide +kernel
theorem dX6_test_17 : decode cX6_test 17 = .ok (.invokestatic 166, 3) := by decide +kernel
theorem dX6_test_20 : decode cX6_test 20 = .ok (.ifCond .eq 15, 3) := by decide +kernel
theorem dX6_test_23 : decode cX6_test 23 = .ok (.iload_n 3, 1) := by decide +kernel
theorem dX6_test_24 : decode cX6_test 24 = .ok (.i2l, 1) := by decide +kernel
theorem dX6_test_25 : decode cX6_test 25 = .ok (.lconst 0, 1) := by decide +kernel
theorem dX6_test_26 : decode cX6_test 26 = .ok (.ldc2_w 161, 3) := by decide +kernel
theorem dX6_test_29 : decode cX6_test 29 = .ok (.invokestatic 42, 3) := by decide +kernel
theorem dX6_test_32 : decode cX6_test 32 = .ok (.ifCond .ne 7, 3) := by decide +kernel
theorem dX6_test_35 : decode cX6_test 35 = .ok (.iconst 2, 1) := by decide +kernel
theorem dX6_test_36 : decode cX6_test 36 = .ok (.goto 4, 3) := by decide +kernel
theorem dX6_test_39 : decode cX6_test 39 = .ok (.iconst 0, 1) := by decide +kernel
theorem dX6_test_40 : decode cX6_test 40 = .ok (.invokevirtual 111, 3) := by decide +kernel
theorem dX6_test_43 : decode cX6_test 43 = .ok (.ifCond .eq 5, 3) := by decide +kernel
theorem dX6_test_46 : decode cX6_test 46 = .ok (.iconst 0, 1) := by decide +kernel
theorem dX6_test_47 : decode cX6_test 47 = .ok (.ireturn, 1) := by decide +kernel
theorem dX6_test_48 : decode cX6_test 48 = .ok (.aload_n 0, 1) := by decide +kernel
theorem dX6_test_49 : decode cX6_test 49 = .ok (.invokevirtual 163, 3) := by decide +kernel
theorem dX6_test_52 : decode cX6_test 52 = .ok (.aload_n 0, 1) := by decide +kernel
theorem dX6_test_53 : decode cX6_test 53 = .ok (.getfield 16, 3) := by decide +kernel
theorem dX6_test_56 : decode cX6_test 56 = .ok (.iload_n 1, 1) := by decide +kernel
theorem dX6_test_57 : decode cX6_test 57 = .ok (.iload_n 2, 1) := by decide +kernel
theorem dX6_test_58 : decode cX6_test 58 = .ok (.iload_n 3, 1) := by decide +kernel
theorem dX6_test_59 : decode cX6_test 59 = .ok (.invokestatic 172, 3) := by decide +kernel
theorem dX6_test_62 : decode cX6_test 62 = .ok (.ireturn, 1) := by decide +kernel
set_option maxRecDepth 20000 in
theorem ggX6_canPair_X6_isFree : GoodIn wsX6_canPair wsX6_isFree := goodIn_r _ [4, 5, 6, 3, 7] (by decide +kernel) (by decide +kernel)
set_option maxRecDepth 20000 in
theorem gX6_canPair_X6_isFree : GoodIn wsX6_canPair (va_wsS RX6 60 yX6_isFree wsX6_isFree) := goodIn_app (goodIn_of _ (by decide +kernel)) ggX6_canPair_X6_isFree
set_option maxRecDepth 20000 in
theorem ggX6_canPair_X6_fit : GoodIn wsX6_canPair wsX6_fit := goodIn_r _ [10, 11, 12, 3, 13, 5, 6, 7] (by decide +kernel) (by decide +kernel)
set_option maxRecDepth 20000 in
theorem gX6_canPair_X6_fit : GoodIn wsX6_canPair (va_wsS RX6 64 yX6_fit wsX6_fit) := goodIn_app (goodIn_of _ (by decide +kernel)) ggX6_canPair_X6_fit
theorem dX6_canPair_0 : decode cX6_canPair 0 = .ok (.aload_n 0, 1) := by decide +kernel
theorem dX6_canPair_1 : decode cX6_canPair 1 = .ok (.iload_n 1, 1) := by decide +kernel
theorem dX6_canPair_2 : decode cX6_canPair 2 = .ok (.invokestatic 60, 3) := by decide +kernel
theorem dX6_canPair_5 : decode cX6_canPair 5 = .ok (.ifCond .eq 24, 3) := by decide +kernel
theorem dX6_canPair_8 : decode cX6_canPair 8 = .ok (.aload_n 0, 1) := by decide +kernel
theorem dX6_canPair_9 : decode cX6_canPair 9 = .ok (.iload_n 2, 1) := by decide +kernel
theorem dX6_canPair_10 : decode cX6_canPair 10 = .ok (.invokestatic 60, 3) := by decide +kernel
theorem dX6_canPair_13 : decode cX6_canPair 13 = .ok (.ifCond .eq 16, 3) := by decide +kernel
theorem dX6_canPair_16 : decode cX6_canPair 16 = .ok (.aload_n 0, 1) := by decide +kernel
theorem dX6_canPair_17 : decode cX6_canPair 17 = .ok (.iload_n 1, 1) := by decide +kernel
theorem dX6_canPair_18 : decode cX6_canPair 18 = .ok (.iload_n 2, 1) := by decide +kernel
theorem dX6_canPair_19 : decode cX6_canPair 19 = .ok (.invokestatic 64, 3) := by decide +kernel
theorem dX6_canPair_22 : decode cX6_canPair 22 = .ok (.ifCond .eq 7, 3) := by decide +kernel
theorem dX6_canPair_25 : decode cX6_canPair 25 = .ok (.iconst 1, 1) := by decide +kernel
theorem dX6_canPair_26 : decode cX6_canPair 26 = .ok (.goto 4, 3) := by decide +kernel
theorem dX6_canPair_29 : decode cX6_canPair 29 = .ok (.iconst 0, 1) := by decide +kernel
theorem dX6_canPair_30 : decode cX6_canPair 30 = .ok (.ireturn, 1) := by decide +kernel
set_option maxRecDepth 20000 in
theorem ggX6_pair_X6_isMember : GoodIn wsX6_pair wsX6_isMember := goodIn_r _ [5, 6, 7, 4, 8] (by decide +kernel) (by decide +kernel)
set_option maxRecDepth 20000 in
theorem gX6_pair_X6_isMember : GoodIn wsX6_pair (va_wsS RX6 147 yX6_isMember wsX6_isMember) := goodIn_app (goodIn_of _ (by decide +kernel)) ggX6_pair_X6_isMember
set_option maxRecDepth 20000 in
theorem ggX6_pair_X6_canPair : GoodIn wsX6_pair wsX6_canPair := goodIn_r _ [11, 12, 13, 4, 14, 15, 16, 17, 18, 19, 20, 21, 22, 23] (by decide +kernel) (by decide +kernel)
set_option maxRecDepth 20000 in
theorem gX6_pair_X6_canPair : GoodIn wsX6_pair (va_wsS RX6 176 yX6_canPair wsX6_canPair) := goodIn_app (goodIn_of _ (by decide +kernel)) ggX6_pair_X6_canPair
set_option maxRecDepth 20000 in
theorem ggX6_pair_X6_refused : GoodIn wsX6_pair wsX6_refused := goodIn_r _ [27, 28, 56, 57, 58, 59, 60, 61, 62, 63, 64, 65, 66, 67, 68] (by decide +kernel) (by decide +kernel)
set_option maxRecDepth 20000 in
theorem gX6_pair_X6_refused : GoodIn wsX6_pair (wsV RX6 111 RX6 yX6_refused wsX6_refused) := goodIn_app (goodIn_of _ (by decide +kernel)) ggX6_pair_X6_refused
set_option maxRecDepth 20000 in
theorem ggX6_pair_X6_note : GoodIn wsX6_pair wsX6_note := goodIn_r _ [32, 33, 34, 1, 35, 36, 4, 37, 56, 57, 58, 59, 60, 61, 62, 63, 64, 65, 66, 67, 68] (by decide +kernel) (by decide +kernel)
set_option maxRecDepth 20000 in
theorem gX6_pair_X6_note : GoodIn wsX6_pair (wsV RX6 163 RX6 yX6_note wsX6_note) := goodIn_app (goodIn_of _ (by decide +kernel)) ggX6_pair_X6_note
set_option maxRecDepth 20000 in
theorem ggX6_pair_X6_pairOn : GoodIn wsX6_pair wsX6_pairOn := goodIn_r _ [40, 41, 42, 4, 43, 15, 16, 17, 44, 45, 46] (by decide +kernel) (by decide +kernel)
set_option maxRecDepth 20000 in
theorem gX6_pair_X6_pairOn : GoodIn wsX6_pair (va_wsS RX6 81 yX6_pairOn wsX6_pairOn) := goodIn_app (goodIn_of _ (by decide +kernel)) ggX6_pair_X6_pairOn
set_option maxRecDepth 20000 in
theorem ggX6_pair_X6_valueOf : GoodIn wsX6_pair wsX6_valueOf := goodIn_r _ [49, 50, 51, 4, 52, 21, 22, 23, 15, 16, 17, 53, 54, 55] (by decide +kernel) (by decide +kernel)
set_option maxRecDepth 20000 in
theorem gX6_pair_X6_valueOf : GoodIn wsX6_pair (va_wsS RX6 78 yX6_valueOf wsX6_valueOf) := goodIn_app (goodIn_of _ (by decide +kernel)) ggX6_pair_X6_valueOf
theorem dX6_pair_0 : decode cX6_pair 0 = .ok (.aload_n 0, 1) := by decide +kernel
theorem dX6_pair_1 : decode cX6_pair 1 = .ok (.aload_n 0, 1) := by decide +kernel
theorem dX6_pair_2 : decode cX6_pair 2 = .ok (.getfield 16, 3) := by decide +kernel
theorem dX6_pair_5 : decode cX6_pair 5 = .ok (.iload_n 1, 1) := by decide +kernel
theorem dX6_pair_6 : decode cX6_pair 6 = .ok (.invokestatic 147, 3) := by decide +kernel
theorem dX6_pair_9 : decode cX6_pair 9 = .ok (.ifCond .eq 14, 3) := by decide +kernel
theorem dX6_pair_12 : decode cX6_pair 12 = .ok (.aload_n 0, 1) := by decide +kernel
theorem dX6_pair_13 : decode cX6_pair 13 = .ok (.getfield 16, 3) := by decide +kernel
theorem dX6_pair_16 : decode cX6_pair 16 = .ok (.iload_n 2, 1) := by decide +kernel
theorem dX6_pair_17 : decode cX6_pair 17 = .ok (.invokestatic 147, 3) := by decide +kernel
theorem dX6_pair_20 : decode cX6_pair 20 = .ok (.ifCond .ne 7, 3) := by decide +kernel
theorem dX6_pair_23 : decode cX6_pair 23 = .ok (.iconst 1, 1) := by decide +kernel
theorem dX6_pair_24 : decode cX6_pair 24 = .ok (.goto 29, 3) := by decide +kernel
theorem dX6_pair_27 : decode cX6_pair 27 = .ok (.iload_n 1, 1) := by decide +kernel
theorem dX6_pair_28 : decode cX6_pair 28 = .ok (.iload_n 2, 1) := by decide +kernel
theorem dX6_pair_29 : decode cX6_pair 29 = .ok (.if_icmp .ne 7, 3) := by decide +kernel
theorem dX6_pair_32 : decode cX6_pair 32 = .ok (.iconst 2, 1) := by decide +kernel
theorem dX6_pair_33 : decode cX6_pair 33 = .ok (.goto 20, 3) := by decide +kernel
theorem dX6_pair_36 : decode cX6_pair 36 = .ok (.aload_n 0, 1) := by decide +kernel
theorem dX6_pair_37 : decode cX6_pair 37 = .ok (.getfield 16, 3) := by decide +kernel
theorem dX6_pair_40 : decode cX6_pair 40 = .ok (.iload_n 1, 1) := by decide +kernel
theorem dX6_pair_41 : decode cX6_pair 41 = .ok (.iload_n 2, 1) := by decide +kernel
theorem dX6_pair_42 : decode cX6_pair 42 = .ok (.invokestatic 176, 3) := by decide +kernel
theorem dX6_pair_45 : decode cX6_pair 45 = .ok (.ifCond .ne 7, 3) := by decide +kernel
theorem dX6_pair_48 : decode cX6_pair 48 = .ok (.iconst 3, 1) := by decide +kernel
theorem dX6_pair_49 : decode cX6_pair 49 = .ok (.goto 4, 3) := by decide +kernel
theorem dX6_pair_52 : decode cX6_pair 52 = .ok (.iconst 0, 1) := by decide +kernel
theorem dX6_pair_53 : decode cX6_pair 53 = .ok (.invokevirtual 111, 3) := by decide +kernel
theorem dX6_pair_56 : decode cX6_pair 56 = .ok (.ifCond .eq 5, 3) := by decide +kernel
theorem dX6_pair_59 : decode cX6_pair 59 = .ok (.iconst 0, 1) := by decide +kernel
theorem dX6_pair_60 : decode cX6_pair 60 = .ok (.ireturn, 1) := by decide +kernel
theorem dX6_pair_61 : decode cX6_pair 61 = .ok (.aload_n 0, 1) := by decide +kernel
theorem dX6_pair_62 : decode cX6_pair 62 = .ok (.invokevirtual 163, 3) := by decide +kernel
theorem dX6_pair_65 : decode cX6_pair 65 = .ok (.aload_n 0, 1) := by decide +kernel
theorem dX6_pair_66 : decode cX6_pair 66 = .ok (.getfield 16, 3) := by decide +kernel
theorem dX6_pair_69 : decode cX6_pair 69 = .ok (.iload_n 1, 1) := by decide +kernel
theorem dX6_pair_70 : decode cX6_pair 70 = .ok (.iload_n 2, 1) := by decide +kernel
theorem dX6_pair_71 : decode cX6_pair 71 = .ok (.invokestatic 81, 3) := by decide +kernel
theorem dX6_pair_74 : decode cX6_pair 74 = .ok (.aload_n 0, 1) := by decide +kernel
theorem dX6_pair_75 : decode cX6_pair 75 = .ok (.getfield 16, 3) := by decide +kernel
theorem dX6_pair_78 : decode cX6_pair 78 = .ok (.iload_n 1, 1) := by decide +kernel
theorem dX6_pair_79 : decode cX6_pair 79 = .ok (.iload_n 2, 1) := by decide +kernel
theorem dX6_pair_80 : decode cX6_pair 80 = .ok (.invokestatic 78, 3) := by decide +kernel
theorem dX6_pair_83 : decode cX6_pair 83 = .ok (.ireturn, 1) := by decide +kernel
set_option maxRecDepth 20000 in
theorem ggX6_part_X6_isMember : GoodIn wsX6_part wsX6_isMember := goodIn_r _ [5, 6, 7, 4, 8] (by decide +kernel) (by decide +kernel)
set_option maxRecDepth 20000 in
theorem gX6_part_X6_isMember : GoodIn wsX6_part (va_wsS RX6 147 yX6_isMember wsX6_isMember) := goodIn_app (goodIn_of _ (by decide +kernel)) ggX6_part_X6_isMember
set_option maxRecDepth 20000 in
theorem ggX6_part_X6_isFree : GoodIn wsX6_part wsX6_isFree := goodIn_r _ [11, 12, 13, 4, 14] (by decide +kernel) (by decide +kernel)
set_option maxRecDepth 20000 in
theorem gX6_part_X6_isFree : GoodIn wsX6_part (va_wsS RX6 60 yX6_isFree wsX6_isFree) := goodIn_app (goodIn_of _ (by decide +kernel)) ggX6_part_X6_isFree
set_option maxRecDepth 20000 in
theorem ggX6_part_X6_refused : GoodIn wsX6_part wsX6_refused := goodIn_r _ [18, 19, 35, 36, 37, 38, 39, 40, 41, 42, 43, 44, 45, 46, 47] (by decide +kernel) (by decide +kernel)
set_option maxRecDepth 20000 in
theorem gX6_part_X6_refused : GoodIn wsX6_part (wsV RX6 111 RX6 yX6_refused wsX6_refused) := goodIn_app (goodIn_of _ (by decide +kernel)) ggX6_part_X6_refused
set_option maxRecDepth 20000 in
theorem ggX6_part_X6_note : GoodIn wsX6_part wsX6_note := goodIn_r _ [23, 24, 25, 1, 26, 27, 4, 28, 35, 36, 37, 38, 39, 40, 41, 42, 43, 44, 45, 46, 47] (by decide +kernel) (by decide +kernel)
set_option maxRecDepth 20000 in
theorem gX6_part_X6_note : GoodIn wsX6_part (wsV RX6 163 RX6 yX6_note wsX6_note) := goodIn_app (goodIn_of _ (by decide +kernel)) ggX6_part_X6_note
set_option maxRecDepth 20000 in
theorem ggX6_part_X6_at : GoodIn wsX6_part wsX6_at := goodIn_r _ [14] (by decide +kernel) (by decide +kernel)
set_option maxRecDepth 20000 in
theorem gX6_part_X6_at : GoodIn wsX6_part (va_wsS RX6 46 yX6_at wsX6_at) := goodIn_app (goodIn_of _ (by decide +kernel)) ggX6_part_X6_at
set_option maxRecDepth 20000 in
theorem ggX6_part_X6_partOn : GoodIn wsX6_part wsX6_partOn := goodIn_r _ [31, 12, 13, 4, 14, 32, 33, 34] (by decide +kernel) (by decide +kernel)
set_option maxRecDepth 20000 in
theorem gX6_part_X6_partOn : GoodIn wsX6_part (va_wsS RX6 75 yX6_partOn wsX6_partOn) := goodIn_app (goodIn_of _ (by decide +kernel)) ggX6_part_X6_partOn
theorem dX6_part_0 : decode cX6_part 0 = .ok (.aload_n 0, 1) := by decide +kernel
theorem dX6_part_1 : decode cX6_part 1 = .ok (.aload_n 0, 1) := by decide +kernel
theorem dX6_part_2 : decode cX6_part 2 = .ok (.getfield 16, 3) := by decide +kernel
theorem dX6_part_5 : decode cX6_part 5 = .ok (.iload_n 1, 1) := by decide +kernel
theorem dX6_part_6 : decode cX6_part 6 = .ok (.invokestatic 147, 3) := by decide +kernel
theorem dX6_part_9 : decode cX6_part 9 = .ok (.ifCond .ne 7, 3) := by decide +kernel
theorem dX6_part_12 : decode cX6_part 12 = .ok (.iconst 1, 1) := by decide +kernel
theorem dX6_part_13 : decode cX6_part 13 = .ok (.goto 19, 3) := by decide +kernel
theorem dX6_part_16 : decode cX6_part 16 = .ok (.aload_n 0, 1) := by decide +kernel
theorem dX6_part_17 : decode cX6_part 17 = .ok (.getfield 16, 3) := by decide +kernel
theorem dX6_part_20 : decode cX6_part 20 = .ok (.iload_n 1, 1) := by decide +kernel
theorem dX6_part_21 : decode cX6_part 21 = .ok (.invokestatic 60, 3) := by decide +kernel
theorem dX6_part_24 : decode cX6_part 24 = .ok (.ifCond .eq 7, 3) := by decide +kernel
theorem dX6_part_27 : decode cX6_part 27 = .ok (.iconst 2, 1) := by decide +kernel
theorem dX6_part_28 : decode cX6_part 28 = .ok (.goto 4, 3) := by decide +kernel
theorem dX6_part_31 : decode cX6_part 31 = .ok (.iconst 0, 1) := by decide +kernel
theorem dX6_part_32 : decode cX6_part 32 = .ok (.invokevirtual 111, 3) := by decide +kernel
theorem dX6_part_35 : decode cX6_part 35 = .ok (.ifCond .eq 5, 3) := by decide +kernel
theorem dX6_part_38 : decode cX6_part 38 = .ok (.iconst 0, 1) := by decide +kernel
theorem dX6_part_39 : decode cX6_part 39 = .ok (.ireturn, 1) := by decide +kernel
theorem dX6_part_40 : decode cX6_part 40 = .ok (.aload_n 0, 1) := by decide +kernel
theorem dX6_part_41 : decode cX6_part 41 = .ok (.invokevirtual 163, 3) := by decide +kernel
theorem dX6_part_44 : decode cX6_part 44 = .ok (.aload_n 0, 1) := by decide +kernel
theorem dX6_part_45 : decode cX6_part 45 = .ok (.getfield 16, 3) := by decide +kernel
theorem dX6_part_48 : decode cX6_part 48 = .ok (.iload_n 1, 1) := by decide +kernel
theorem dX6_part_49 : decode cX6_part 49 = .ok (.invokestatic 46, 3) := by decide +kernel
theorem dX6_part_52 : decode cX6_part 52 = .ok (.bipush 8, 2) := by decide +kernel
theorem dX6_part_54 : decode cX6_part 54 = .ok (.iadd, 1) := by decide +kernel
theorem dX6_part_55 : decode cX6_part 55 = .ok (.iaload, 1) := by decide +kernel
theorem dX6_part_56 : decode cX6_part 56 = .ok (.istore_n 2, 1) := by decide +kernel
theorem dX6_part_57 : decode cX6_part 57 = .ok (.aload_n 0, 1) := by decide +kernel
theorem dX6_part_58 : decode cX6_part 58 = .ok (.getfield 16, 3) := by decide +kernel
theorem dX6_part_61 : decode cX6_part 61 = .ok (.iload_n 1, 1) := by decide +kernel
theorem dX6_part_62 : decode cX6_part 62 = .ok (.invokestatic 75, 3) := by decide +kernel
theorem dX6_part_65 : decode cX6_part 65 = .ok (.iload_n 2, 1) := by decide +kernel
theorem dX6_part_66 : decode cX6_part 66 = .ok (.ireturn, 1) := by decide +kernel
set_option maxRecDepth 20000 in
theorem ggX6_match_X6_note : GoodIn wsX6_match wsX6_note := goodIn_r _ [7, 8, 9, 2, 10, 11, 6, 12, 46, 47, 48, 49, 50, 51, 52, 53, 54, 55, 56, 57, 58] (by decide +kernel) (by decide +kernel)
set_option maxRecDepth 20000 in
theorem gX6_match_X6_note : GoodIn wsX6_match (wsV RX6 163 RX6 yX6_note wsX6_note) := goodIn_app (goodIn_of _ (by decide +kernel)) ggX6_match_X6_note
set_option maxRecDepth 20000 in
theorem ggX6_match_X6_matchOn : GoodIn wsX6_match wsX6_matchOn := goodIn_r _ [15, 16, 17, 6, 18, 19, 20, 21, 22, 23, 24, 25, 26, 27, 28, 29, 30, 31, 32, 33, 34, 35, 36, 37, 38, 39, 40, 41, 42, 43, 44, 45] (by decide +kernel) (by decide +kernel)
set_option maxRecDepth 20000 in
theorem gX6_match_X6_matchOn : GoodIn wsX6_match (va_wsS RX6 179 yX6_matchOn wsX6_matchOn) := goodIn_app (goodIn_of _ (by decide +kernel)) ggX6_match_X6_matchOn
theorem dX6_match_0 : decode cX6_match 0 = .ok (.aload_n 0, 1) := by decide +kernel
theorem dX6_match_1 : decode cX6_match 1 = .ok (.iconst 0, 1) := by decide +kernel
theorem dX6_match_2 : decode cX6_match 2 = .ok (.putfield 38, 3) := by decide +kernel
theorem dX6_match_5 : decode cX6_match 5 = .ok (.aload_n 0, 1) := by decide +kernel
theorem dX6_match_6 : decode cX6_match 6 = .ok (.invokevirtual 163, 3) := by decide +kernel
theorem dX6_match_9 : decode cX6_match 9 = .ok (.aload_n 0, 1) := by decide +kernel
theorem dX6_match_10 : decode cX6_match 10 = .ok (.getfield 16, 3) := by decide +kernel
theorem dX6_match_13 : decode cX6_match 13 = .ok (.invokestatic 179, 3) := by decide +kernel
theorem dX6_match_16 : decode cX6_match 16 = .ok (.ireturn, 1) := by decide +kernel
set_option maxRecDepth 20000 in
theorem ggX6_settle_X6_in : GoodIn wsX6_settle wsX6_in := goodIn_r _ [6] (by decide +kernel) (by decide +kernel)
set_option maxRecDepth 20000 in
theorem gX6_settle_X6_in : GoodIn wsX6_settle (va_wsS RX6 42 yX6_in wsX6_in) := goodIn_app (goodIn_of _ (by decide +kernel)) ggX6_settle_X6_in
set_option maxRecDepth 20000 in
theorem ggX6_settle_X6_refused : GoodIn wsX6_settle wsX6_refused := goodIn_r _ [10, 11, 60, 61, 62, 63, 64, 65, 66, 67, 68, 69, 70, 71, 72] (by decide +kernel) (by decide +kernel)
set_option maxRecDepth 20000 in
theorem gX6_settle_X6_refused : GoodIn wsX6_settle (wsV RX6 111 RX6 yX6_refused wsX6_refused) := goodIn_app (goodIn_of _ (by decide +kernel)) ggX6_settle_X6_refused
set_option maxRecDepth 20000 in
theorem ggX6_settle_X6_note : GoodIn wsX6_settle wsX6_note := goodIn_r _ [15, 16, 17, 2, 18, 19, 5, 20, 60, 61, 62, 63, 64, 65, 66, 67, 68, 69, 70, 71, 72] (by decide +kernel) (by decide +kernel)
set_option maxRecDepth 20000 in
theorem gX6_settle_X6_note : GoodIn wsX6_settle (wsV RX6 163 RX6 yX6_note wsX6_note) := goodIn_app (goodIn_of _ (by decide +kernel)) ggX6_settle_X6_note
set_option maxRecDepth 20000 in
theorem ggX6_settle_X6_settleOn : GoodIn wsX6_settle wsX6_settleOn := goodIn_r _ [23, 24, 25, 5, 26, 27, 28, 29, 30, 31, 32, 33, 34, 35, 36, 37, 38, 39, 40, 41, 42, 43, 44, 45, 46, 47, 48, 49, 50, 51, 52, 53, 54, 55, 56, 57, 58, 59] (by decide +kernel) (by decide +kernel)
set_option maxRecDepth 20000 in
theorem gX6_settle_X6_settleOn : GoodIn wsX6_settle (va_wsS RX6 184 yX6_settleOn wsX6_settleOn) := goodIn_app (goodIn_of _ (by decide +kernel)) ggX6_settle_X6_settleOn
theorem dX6_settle_0 : decode cX6_settle 0 = .ok (.aload_n 0, 1) := by decide +kernel
theorem dX6_settle_1 : decode cX6_settle 1 = .ok (.iload_n 1, 1) := by decide +kernel
theorem dX6_settle_2 : decode cX6_settle 2 = .ok (.i2l, 1) := by decide +kernel
theorem dX6_settle_3 : decode cX6_settle 3 = .ok (.lconst 1, 1) := by decide +kernel
theorem dX6_settle_4 : decode cX6_settle 4 = .ok (.ldc2_w 182, 3) := by decide +kernel
theorem dX6_settle_7 : decode cX6_settle 7 = .ok (.invokestatic 42, 3) := by decide +kernel
theorem dX6_settle_10 : decode cX6_settle 10 = .ok (.ifCond .eq 7, 3) := by decide +kernel
theorem dX6_settle_13 : decode cX6_settle 13 = .ok (.iconst 0, 1) := by decide +kernel
theorem dX6_settle_14 : decode cX6_settle 14 = .ok (.goto 4, 3) := by decide +kernel
theorem dX6_settle_17 : decode cX6_settle 17 = .ok (.iconst 1, 1) := by decide +kernel
theorem dX6_settle_18 : decode cX6_settle 18 = .ok (.invokevirtual 111, 3) := by decide +kernel
theorem dX6_settle_21 : decode cX6_settle 21 = .ok (.ifCond .eq 5, 3) := by decide +kernel
theorem dX6_settle_24 : decode cX6_settle 24 = .ok (.iconst 0, 1) := by decide +kernel
theorem dX6_settle_25 : decode cX6_settle 25 = .ok (.ireturn, 1) := by decide +kernel
theorem dX6_settle_26 : decode cX6_settle 26 = .ok (.aload_n 0, 1) := by decide +kernel
theorem dX6_settle_27 : decode cX6_settle 27 = .ok (.invokevirtual 163, 3) := by decide +kernel
theorem dX6_settle_30 : decode cX6_settle 30 = .ok (.aload_n 0, 1) := by decide +kernel
theorem dX6_settle_31 : decode cX6_settle 31 = .ok (.getfield 16, 3) := by decide +kernel
theorem dX6_settle_34 : decode cX6_settle 34 = .ok (.iload_n 1, 1) := by decide +kernel
theorem dX6_settle_35 : decode cX6_settle 35 = .ok (.invokestatic 184, 3) := by decide +kernel
theorem dX6_settle_38 : decode cX6_settle 38 = .ok (.ireturn, 1) := by decide +kernel
set_option maxRecDepth 20000 in
theorem ggX6_isAbsent_X6_in : GoodIn wsX6_isAbsent wsX6_in := goodIn_r _ [5] (by decide +kernel) (by decide +kernel)
set_option maxRecDepth 20000 in
theorem gX6_isAbsent_X6_in : GoodIn wsX6_isAbsent (va_wsS RX6 42 yX6_in wsX6_in) := goodIn_app (goodIn_of _ (by decide +kernel)) ggX6_isAbsent_X6_in
theorem dX6_isAbsent_0 : decode cX6_isAbsent 0 = .ok (.iload_n 0, 1) := by decide +kernel
theorem dX6_isAbsent_1 : decode cX6_isAbsent 1 = .ok (.i2l, 1) := by decide +kernel
theorem dX6_isAbsent_2 : decode cX6_isAbsent 2 = .ok (.lconst 0, 1) := by decide +kernel
theorem dX6_isAbsent_3 : decode cX6_isAbsent 3 = .ok (.ldc2_w 187, 3) := by decide +kernel
theorem dX6_isAbsent_6 : decode cX6_isAbsent 6 = .ok (.invokestatic 42, 3) := by decide +kernel
theorem dX6_isAbsent_9 : decode cX6_isAbsent 9 = .ok (.ireturn, 1) := by decide +kernel
set_option maxRecDepth 20000 in
theorem ggX6_week_X6_isAbsent : GoodIn wsX6_week wsX6_isAbsent := goodIn_r _ [5, 6, 7, 8, 4, 9] (by decide +kernel) (by decide +kernel)
set_option maxRecDepth 20000 in
theorem gX6_week_X6_isAbsent : GoodIn wsX6_week (va_wsS RX6 189 yX6_isAbsent wsX6_isAbsent) := goodIn_app (goodIn_of _ (by decide +kernel)) ggX6_week_X6_isAbsent
set_option maxRecDepth 20000 in
theorem ggX6_week_X6_refused : GoodIn wsX6_week wsX6_refused := goodIn_r _ [13, 14, 75, 76, 77, 78, 79, 80, 81, 82, 83, 84, 85, 86, 87] (by decide +kernel) (by decide +kernel)
set_option maxRecDepth 20000 in
theorem gX6_week_X6_refused : GoodIn wsX6_week (wsV RX6 111 RX6 yX6_refused wsX6_refused) := goodIn_app (goodIn_of _ (by decide +kernel)) ggX6_week_X6_refused
set_option maxRecDepth 20000 in
theorem ggX6_week_X6_note : GoodIn wsX6_week wsX6_note := goodIn_r _ [18, 19, 20, 1, 21, 22, 4, 23, 75, 76, 77, 78, 79, 80, 81, 82, 83, 84, 85, 86, 87] (by decide +kernel) (by decide +kernel)
set_option maxRecDepth 20000 in
theorem gX6_week_X6_note : GoodIn wsX6_week (wsV RX6 163 RX6 yX6_note wsX6_note) := goodIn_app (goodIn_of _ (by decide +kernel)) ggX6_week_X6_note
set_option maxRecDepth 20000 in
theorem ggX6_week_X6_weekOn : GoodIn wsX6_week wsX6_weekOn := goodIn_r _ [26, 27, 28, 4, 29, 30, 31, 32, 33, 34, 35, 36, 37, 38, 39, 40, 41, 42, 43, 44, 45, 46, 47, 48, 49, 50, 51, 52, 53] (by decide +kernel) (by decide +kernel)
set_option maxRecDepth 20000 in
theorem gX6_week_X6_weekOn : GoodIn wsX6_week (va_wsS RX6 192 yX6_weekOn wsX6_weekOn) := goodIn_app (goodIn_of _ (by decide +kernel)) ggX6_week_X6_weekOn
set_option maxRecDepth 20000 in
theorem ggX6_week_X6_over : GoodIn wsX6_week wsX6_over := goodIn_r _ [56, 27, 28, 4, 29, 57, 58, 59, 60, 61, 62, 39, 40, 41, 63, 64, 65, 66, 67, 68, 45, 46, 47, 69, 70, 71, 72, 73, 74] (by decide +kernel) (by decide +kernel)
set_option maxRecDepth 20000 in
theorem gX6_week_X6_over : GoodIn wsX6_week (va_wsS RX6 140 yX6_over wsX6_over) := goodIn_app (goodIn_of _ (by decide +kernel)) ggX6_week_X6_over
theorem dX6_week_0 : decode cX6_week 0 = .ok (.aload_n 0, 1) := by decide +kernel
theorem dX6_week_1 : decode cX6_week 1 = .ok (.iload_n 1, 1) := by decide +kernel
theorem dX6_week_2 : decode cX6_week 2 = .ok (.invokestatic 189, 3) := by decide +kernel
theorem dX6_week_5 : decode cX6_week 5 = .ok (.ifCond .eq 7, 3) := by decide +kernel
theorem dX6_week_8 : decode cX6_week 8 = .ok (.iconst 0, 1) := by decide +kernel
theorem dX6_week_9 : decode cX6_week 9 = .ok (.goto 4, 3) := by decide +kernel
theorem dX6_week_12 : decode cX6_week 12 = .ok (.iconst 1, 1) := by decide +kernel
theorem dX6_week_13 : decode cX6_week 13 = .ok (.invokevirtual 111, 3) := by decide +kernel
theorem dX6_week_16 : decode cX6_week 16 = .ok (.ifCond .eq 5, 3) := by decide +kernel
theorem dX6_week_19 : decode cX6_week 19 = .ok (.iconst 0, 1) := by decide +kernel
theorem dX6_week_20 : decode cX6_week 20 = .ok (.ireturn, 1) := by decide +kernel
theorem dX6_week_21 : decode cX6_week 21 = .ok (.aload_n 0, 1) := by decide +kernel
theorem dX6_week_22 : decode cX6_week 22 = .ok (.invokevirtual 163, 3) := by decide +kernel
theorem dX6_week_25 : decode cX6_week 25 = .ok (.aload_n 0, 1) := by decide +kernel
theorem dX6_week_26 : decode cX6_week 26 = .ok (.getfield 16, 3) := by decide +kernel
theorem dX6_week_29 : decode cX6_week 29 = .ok (.iload_n 1, 1) := by decide +kernel
theorem dX6_week_30 : decode cX6_week 30 = .ok (.invokestatic 192, 3) := by decide +kernel
theorem dX6_week_33 : decode cX6_week 33 = .ok (.aload_n 0, 1) := by decide +kernel
theorem dX6_week_34 : decode cX6_week 34 = .ok (.getfield 16, 3) := by decide +kernel
theorem dX6_week_37 : decode cX6_week 37 = .ok (.iconst 0, 1) := by decide +kernel
theorem dX6_week_38 : decode cX6_week 38 = .ok (.invokestatic 140, 3) := by decide +kernel
theorem dX6_week_41 : decode cX6_week 41 = .ok (.ireturn, 1) := by decide +kernel
set_option maxRecDepth 20000 in
theorem ggX6_undo_X6_refused : GoodIn wsX6_undo wsX6_refused := goodIn_r _ [8, 9, 13, 14, 15, 16, 17, 18, 19, 20, 21, 22, 23, 24, 25] (by decide +kernel) (by decide +kernel)
set_option maxRecDepth 20000 in
theorem gX6_undo_X6_refused : GoodIn wsX6_undo (wsV RX6 111 RX6 yX6_refused wsX6_refused) := goodIn_app (goodIn_of _ (by decide +kernel)) ggX6_undo_X6_refused
set_option maxRecDepth 20000 in
theorem ggX6_undo_X6_copyPage : GoodIn wsX6_undo wsX6_copyPage := goodIn_r _ [12] (by decide +kernel) (by decide +kernel)
set_option maxRecDepth 20000 in
theorem gX6_undo_X6_copyPage : GoodIn wsX6_undo (va_wsS RX6 131 yX6_copyPage wsX6_copyPage) := goodIn_app (goodIn_of _ (by decide +kernel)) ggX6_undo_X6_copyPage
theorem dX6_undo_0 : decode cX6_undo 0 = .ok (.aload_n 0, 1) := by decide +kernel
theorem dX6_undo_1 : decode cX6_undo 1 = .ok (.aload_n 0, 1) := by decide +kernel
theorem dX6_undo_2 : decode cX6_undo 2 = .ok (.getfield 135, 3) := by decide +kernel
theorem dX6_undo_5 : decode cX6_undo 5 = .ok (.ifCond .ne 7, 3) := by decide +kernel
theorem dX6_undo_8 : decode cX6_undo 8 = .ok (.iconst 1, 1) := by decide +kernel
theorem dX6_undo_9 : decode cX6_undo 9 = .ok (.goto 4, 3) := by decide +kernel
theorem dX6_undo_12 : decode cX6_undo 12 = .ok (.iconst 0, 1) := by decide +kernel
theorem dX6_undo_13 : decode cX6_undo 13 = .ok (.invokevirtual 111, 3) := by decide +kernel
theorem dX6_undo_16 : decode cX6_undo 16 = .ok (.ifCond .eq 5, 3) := by decide +kernel
theorem dX6_undo_19 : decode cX6_undo 19 = .ok (.iconst 0, 1) := by decide +kernel
theorem dX6_undo_20 : decode cX6_undo 20 = .ok (.ireturn, 1) := by decide +kernel
theorem dX6_undo_21 : decode cX6_undo 21 = .ok (.aload_n 0, 1) := by decide +kernel
theorem dX6_undo_22 : decode cX6_undo 22 = .ok (.dup, 1) := by decide +kernel
theorem dX6_undo_23 : decode cX6_undo 23 = .ok (.getfield 135, 3) := by decide +kernel
theorem dX6_undo_26 : decode cX6_undo 26 = .ok (.iconst 1, 1) := by decide +kernel
theorem dX6_undo_27 : decode cX6_undo 27 = .ok (.isub, 1) := by decide +kernel
theorem dX6_undo_28 : decode cX6_undo 28 = .ok (.putfield 135, 3) := by decide +kernel
theorem dX6_undo_31 : decode cX6_undo 31 = .ok (.aload_n 0, 1) := by decide +kernel
theorem dX6_undo_32 : decode cX6_undo 32 = .ok (.getfield 22, 3) := by decide +kernel
theorem dX6_undo_35 : decode cX6_undo 35 = .ok (.bipush 92, 2) := by decide +kernel
theorem dX6_undo_37 : decode cX6_undo 37 = .ok (.aload_n 0, 1) := by decide +kernel
theorem dX6_undo_38 : decode cX6_undo 38 = .ok (.getfield 135, 3) := by decide +kernel
theorem dX6_undo_41 : decode cX6_undo 41 = .ok (.imul, 1) := by decide +kernel
theorem dX6_undo_42 : decode cX6_undo 42 = .ok (.aload_n 0, 1) := by decide +kernel
theorem dX6_undo_43 : decode cX6_undo 43 = .ok (.getfield 16, 3) := by decide +kernel
theorem dX6_undo_46 : decode cX6_undo 46 = .ok (.iconst 0, 1) := by decide +kernel
theorem dX6_undo_47 : decode cX6_undo 47 = .ok (.invokestatic 131, 3) := by decide +kernel
theorem dX6_undo_50 : decode cX6_undo 50 = .ok (.aload_n 0, 1) := by decide +kernel
theorem dX6_undo_51 : decode cX6_undo 51 = .ok (.getfield 135, 3) := by decide +kernel
theorem dX6_undo_54 : decode cX6_undo 54 = .ok (.ireturn, 1) := by decide +kernel
set_option maxRecDepth 20000 in
theorem ggX6_blocking_X6_refused : GoodIn wsX6_blocking wsX6_refused := goodIn_r _ [6, 7, 35, 36, 37, 38, 39, 40, 41, 42, 43, 44, 45, 46, 47] (by decide +kernel) (by decide +kernel)
set_option maxRecDepth 20000 in
theorem gX6_blocking_X6_refused : GoodIn wsX6_blocking (wsV RX6 111 RX6 yX6_refused wsX6_refused) := goodIn_app (goodIn_of _ (by decide +kernel)) ggX6_blocking_X6_refused
set_option maxRecDepth 20000 in
theorem ggX6_blocking_X6_blockAt : GoodIn wsX6_blocking wsX6_blockAt := goodIn_r _ [10, 11, 12, 5, 13, 14, 15, 16, 17, 18, 19, 20, 21, 22, 23, 24, 25, 26, 27, 28, 29, 30, 31, 32, 33, 34] (by decide +kernel) (by decide +kernel)
set_option maxRecDepth 20000 in
theorem gX6_blocking_X6_blockAt : GoodIn wsX6_blocking (va_wsS RX6 88 yX6_blockAt wsX6_blockAt) := goodIn_app (goodIn_of _ (by decide +kernel)) ggX6_blocking_X6_blockAt
theorem dX6_blocking_0 : decode cX6_blocking 0 = .ok (.aload_n 0, 1) := by decide +kernel
theorem dX6_blocking_1 : decode cX6_blocking 1 = .ok (.iload_n 1, 1) := by decide +kernel
theorem dX6_blocking_2 : decode cX6_blocking 2 = .ok (.ifCond .lt 7, 3) := by decide +kernel
theorem dX6_blocking_5 : decode cX6_blocking 5 = .ok (.iconst 0, 1) := by decide +kernel
theorem dX6_blocking_6 : decode cX6_blocking 6 = .ok (.goto 4, 3) := by decide +kernel
theorem dX6_blocking_9 : decode cX6_blocking 9 = .ok (.iconst 1, 1) := by decide +kernel
theorem dX6_blocking_10 : decode cX6_blocking 10 = .ok (.invokevirtual 111, 3) := by decide +kernel
theorem dX6_blocking_13 : decode cX6_blocking 13 = .ok (.ifCond .eq 5, 3) := by decide +kernel
theorem dX6_blocking_16 : decode cX6_blocking 16 = .ok (.iconst 0, 1) := by decide +kernel
theorem dX6_blocking_17 : decode cX6_blocking 17 = .ok (.ireturn, 1) := by decide +kernel
theorem dX6_blocking_18 : decode cX6_blocking 18 = .ok (.aload_n 0, 1) := by decide +kernel
theorem dX6_blocking_19 : decode cX6_blocking 19 = .ok (.getfield 16, 3) := by decide +kernel
theorem dX6_blocking_22 : decode cX6_blocking 22 = .ok (.iload_n 1, 1) := by decide +kernel
theorem dX6_blocking_23 : decode cX6_blocking 23 = .ok (.invokestatic 88, 3) := by decide +kernel
theorem dX6_blocking_26 : decode cX6_blocking 26 = .ok (.istore_n 3, 1) := by decide +kernel
theorem dX6_blocking_27 : decode cX6_blocking 27 = .ok (.iload_n 3, 1) := by decide +kernel
theorem dX6_blocking_28 : decode cX6_blocking 28 = .ok (.sipush (-9999), 3) := by decide +kernel
theorem dX6_blocking_31 : decode cX6_blocking 31 = .ok (.if_icmp .ne 9, 3) := by decide +kernel
theorem dX6_blocking_34 : decode cX6_blocking 34 = .ok (.sipush (-9999), 3) := by decide +kernel
theorem dX6_blocking_37 : decode cX6_blocking 37 = .ok (.goto 18, 3) := by decide +kernel
theorem dX6_blocking_40 : decode cX6_blocking 40 = .ok (.iload_n 2, 1) := by decide +kernel
theorem dX6_blocking_41 : decode cX6_blocking 41 = .ok (.ifCond .eq 10, 3) := by decide +kernel
theorem dX6_blocking_44 : decode cX6_blocking 44 = .ok (.iload_n 3, 1) := by decide +kernel
theorem dX6_blocking_45 : decode cX6_blocking 45 = .ok (.bipush 10, 2) := by decide +kernel
theorem dX6_blocking_47 : decode cX6_blocking 47 = .ok (.irem, 1) := by decide +kernel
theorem dX6_blocking_48 : decode cX6_blocking 48 = .ok (.goto 7, 3) := by decide +kernel
theorem dX6_blocking_51 : decode cX6_blocking 51 = .ok (.iload_n 3, 1) := by decide +kernel
theorem dX6_blocking_52 : decode cX6_blocking 52 = .ok (.bipush 10, 2) := by decide +kernel
theorem dX6_blocking_54 : decode cX6_blocking 54 = .ok (.idiv, 1) := by decide +kernel
theorem dX6_blocking_55 : decode cX6_blocking 55 = .ok (.ireturn, 1) := by decide +kernel
set_option maxRecDepth 20000 in
theorem ggX6_bestPartner_X6_isMember : GoodIn wsX6_bestPartner wsX6_isMember := goodIn_r _ [5, 6, 7, 4, 8] (by decide +kernel) (by decide +kernel)
set_option maxRecDepth 20000 in
theorem gX6_bestPartner_X6_isMember : GoodIn wsX6_bestPartner (va_wsS RX6 147 yX6_isMember wsX6_isMember) := goodIn_app (goodIn_of _ (by decide +kernel)) ggX6_bestPartner_X6_isMember
set_option maxRecDepth 20000 in
theorem ggX6_bestPartner_X6_refused : GoodIn wsX6_bestPartner wsX6_refused := goodIn_r _ [12, 13, 32, 33, 34, 35, 36, 37, 38, 39, 40, 41, 42, 43, 44] (by decide +kernel) (by decide +kernel)
set_option maxRecDepth 20000 in
theorem gX6_bestPartner_X6_refused : GoodIn wsX6_bestPartner (wsV RX6 111 RX6 yX6_refused wsX6_refused) := goodIn_app (goodIn_of _ (by decide +kernel)) ggX6_bestPartner_X6_refused
set_option maxRecDepth 20000 in
theorem ggX6_bestPartner_X6_fit : GoodIn wsX6_bestPartner wsX6_fit := goodIn_r _ [16, 17, 18, 4, 19, 20, 21, 22] (by decide +kernel) (by decide +kernel)
set_option maxRecDepth 20000 in
theorem gX6_bestPartner_X6_fit : GoodIn wsX6_bestPartner (va_wsS RX6 64 yX6_fit wsX6_fit) := goodIn_app (goodIn_of _ (by decide +kernel)) ggX6_bestPartner_X6_fit
set_option maxRecDepth 20000 in
theorem ggX6_bestPartner_X6_isFree : GoodIn wsX6_bestPartner wsX6_isFree := goodIn_r _ [25, 20, 21, 4, 22] (by decide +kernel) (by decide +kernel)
set_option maxRecDepth 20000 in
theorem gX6_bestPartner_X6_isFree : GoodIn wsX6_bestPartner (va_wsS RX6 60 yX6_isFree wsX6_isFree) := goodIn_app (goodIn_of _ (by decide +kernel)) ggX6_bestPartner_X6_isFree
set_option maxRecDepth 20000 in
theorem ggX6_bestPartner_X6_score : GoodIn wsX6_bestPartner wsX6_score := goodIn_r _ [28, 17, 18, 4, 19, 20, 21, 22, 29, 30, 31] (by decide +kernel) (by decide +kernel)
set_option maxRecDepth 20000 in
theorem gX6_bestPartner_X6_score : GoodIn wsX6_bestPartner (va_wsS RX6 57 yX6_score wsX6_score) := goodIn_app (goodIn_of _ (by decide +kernel)) ggX6_bestPartner_X6_score
theorem dX6_bestPartner_0 : decode cX6_bestPartner 0 = .ok (.aload_n 0, 1) := by decide +kernel
theorem dX6_bestPartner_1 : decode cX6_bestPartner 1 = .ok (.aload_n 0, 1) := by decide +kernel
theorem dX6_bestPartner_2 : decode cX6_bestPartner 2 = .ok (.getfield 16, 3) := by decide +kernel
theorem dX6_bestPartner_5 : decode cX6_bestPartner 5 = .ok (.iload_n 1, 1) := by decide +kernel
theorem dX6_bestPartner_6 : decode cX6_bestPartner 6 = .ok (.invokestatic 147, 3) := by decide +kernel
theorem dX6_bestPartner_9 : decode cX6_bestPartner 9 = .ok (.ifCond .eq 7, 3) := by decide +kernel
theorem dX6_bestPartner_12 : decode cX6_bestPartner 12 = .ok (.iconst 0, 1) := by decide +kernel
theorem dX6_bestPartner_13 : decode cX6_bestPartner 13 = .ok (.goto 4, 3) := by decide +kernel
theorem dX6_bestPartner_16 : decode cX6_bestPartner 16 = .ok (.iconst 1, 1) := by decide +kernel
theorem dX6_bestPartner_17 : decode cX6_bestPartner 17 = .ok (.invokevirtual 111, 3) := by decide +kernel
theorem dX6_bestPartner_20 : decode cX6_bestPartner 20 = .ok (.ifCond .eq 5, 3) := by decide +kernel
theorem dX6_bestPartner_23 : decode cX6_bestPartner 23 = .ok (.iconst 0, 1) := by decide +kernel
theorem dX6_bestPartner_24 : decode cX6_bestPartner 24 = .ok (.ireturn, 1) := by decide +kernel
theorem dX6_bestPartner_25 : decode cX6_bestPartner 25 = .ok (.sipush (-9999), 3) := by decide +kernel
theorem dX6_bestPartner_28 : decode cX6_bestPartner 28 = .ok (.istore_n 3, 1) := by decide +kernel
theorem dX6_bestPartner_29 : decode cX6_bestPartner 29 = .ok (.iconst 0, 1) := by decide +kernel
theorem dX6_bestPartner_30 : decode cX6_bestPartner 30 = .ok (.istore 4, 2) := by decide +kernel
theorem dX6_bestPartner_32 : decode cX6_bestPartner 32 = .ok (.iload 4, 2) := by decide +kernel
theorem dX6_bestPartner_34 : decode cX6_bestPartner 34 = .ok (.aload_n 0, 1) := by decide +kernel
theorem dX6_bestPartner_35 : decode cX6_bestPartner 35 = .ok (.getfield 16, 3) := by decide +kernel
theorem dX6_bestPartner_38 : decode cX6_bestPartner 38 = .ok (.iconst 0, 1) := by decide +kernel
theorem dX6_bestPartner_39 : decode cX6_bestPartner 39 = .ok (.iaload, 1) := by decide +kernel
theorem dX6_bestPartner_40 : decode cX6_bestPartner 40 = .ok (.if_icmp .ge 86, 3) := by decide +kernel
theorem dX6_bestPartner_43 : decode cX6_bestPartner 43 = .ok (.aload_n 0, 1) := by decide +kernel
theorem dX6_bestPartner_44 : decode cX6_bestPartner 44 = .ok (.getfield 16, 3) := by decide +kernel
theorem dX6_bestPartner_47 : decode cX6_bestPartner 47 = .ok (.iload_n 1, 1) := by decide +kernel
theorem dX6_bestPartner_48 : decode cX6_bestPartner 48 = .ok (.iload 4, 2) := by decide +kernel
theorem dX6_bestPartner_50 : decode cX6_bestPartner 50 = .ok (.invokestatic 64, 3) := by decide +kernel
theorem dX6_bestPartner_53 : decode cX6_bestPartner 53 = .ok (.ifCond .eq 23, 3) := by decide +kernel
theorem dX6_bestPartner_56 : decode cX6_bestPartner 56 = .ok (.iload_n 2, 1) := by decide +kernel
theorem dX6_bestPartner_57 : decode cX6_bestPartner 57 = .ok (.ifCond .eq 15, 3) := by decide +kernel
theorem dX6_bestPartner_60 : decode cX6_bestPartner 60 = .ok (.aload_n 0, 1) := by decide +kernel
theorem dX6_bestPartner_61 : decode cX6_bestPartner 61 = .ok (.getfield 16, 3) := by decide +kernel
theorem dX6_bestPartner_64 : decode cX6_bestPartner 64 = .ok (.iload 4, 2) := by decide +kernel
theorem dX6_bestPartner_66 : decode cX6_bestPartner 66 = .ok (.invokestatic 60, 3) := by decide +kernel
theorem dX6_bestPartner_69 : decode cX6_bestPartner 69 = .ok (.ifCond .eq 7, 3) := by decide +kernel
theorem dX6_bestPartner_72 : decode cX6_bestPartner 72 = .ok (.iconst 1, 1) := by decide +kernel
theorem dX6_bestPartner_73 : decode cX6_bestPartner 73 = .ok (.goto 4, 3) := by decide +kernel
theorem dX6_bestPartner_76 : decode cX6_bestPartner 76 = .ok (.iconst 0, 1) := by decide +kernel
theorem dX6_bestPartner_77 : decode cX6_bestPartner 77 = .ok (.istore 5, 2) := by decide +kernel
theorem dX6_bestPartner_79 : decode cX6_bestPartner 79 = .ok (.iload 5, 2) := by decide +kernel
theorem dX6_bestPartner_81 : decode cX6_bestPartner 81 = .ok (.ifCond .eq 37, 3) := by decide +kernel
theorem dX6_bestPartner_84 : decode cX6_bestPartner 84 = .ok (.iload_n 3, 1) := by decide +kernel
theorem dX6_bestPartner_85 : decode cX6_bestPartner 85 = .ok (.sipush (-9999), 3) := by decide +kernel
theorem dX6_bestPartner_88 : decode cX6_bestPartner 88 = .ok (.if_icmp .eq 25, 3) := by decide +kernel
theorem dX6_bestPartner_91 : decode cX6_bestPartner 91 = .ok (.aload_n 0, 1) := by decide +kernel
theorem dX6_bestPartner_92 : decode cX6_bestPartner 92 = .ok (.getfield 16, 3) := by decide +kernel
theorem dX6_bestPartner_95 : decode cX6_bestPartner 95 = .ok (.iload_n 1, 1) := by decide +kernel
theorem dX6_bestPartner_96 : decode cX6_bestPartner 96 = .ok (.iload 4, 2) := by decide +kernel
theorem dX6_bestPartner_98 : decode cX6_bestPartner 98 = .ok (.invokestatic 57, 3) := by decide +kernel
theorem dX6_bestPartner_101 : decode cX6_bestPartner 101 = .ok (.aload_n 0, 1) := by decide +kernel
theorem dX6_bestPartner_102 : decode cX6_bestPartner 102 = .ok (.getfield 16, 3) := by decide +kernel
theorem dX6_bestPartner_105 : decode cX6_bestPartner 105 = .ok (.iload_n 1, 1) := by decide +kernel
theorem dX6_bestPartner_106 : decode cX6_bestPartner 106 = .ok (.iload_n 3, 1) := by decide +kernel
theorem dX6_bestPartner_107 : decode cX6_bestPartner 107 = .ok (.invokestatic 57, 3) := by decide +kernel
theorem dX6_bestPartner_110 : decode cX6_bestPartner 110 = .ok (.if_icmp .le 8, 3) := by decide +kernel
theorem dX6_bestPartner_113 : decode cX6_bestPartner 113 = .ok (.iload 4, 2) := by decide +kernel
theorem dX6_bestPartner_115 : decode cX6_bestPartner 115 = .ok (.goto 4, 3) := by decide +kernel
theorem dX6_bestPartner_118 : decode cX6_bestPartner 118 = .ok (.iload_n 3, 1) := by decide +kernel
theorem dX6_bestPartner_119 : decode cX6_bestPartner 119 = .ok (.istore_n 3, 1) := by decide +kernel
theorem dX6_bestPartner_120 : decode cX6_bestPartner 120 = .ok (.iinc 4 1, 3) := by decide +kernel
theorem dX6_bestPartner_123 : decode cX6_bestPartner 123 = .ok (.goto (-91), 3) := by decide +kernel
theorem dX6_bestPartner_126 : decode cX6_bestPartner 126 = .ok (.iload_n 3, 1) := by decide +kernel
theorem dX6_bestPartner_127 : decode cX6_bestPartner 127 = .ok (.ireturn, 1) := by decide +kernel
set_option maxRecDepth 20000 in
theorem ggX6_best_X6_in : GoodIn wsX6_best wsX6_in := goodIn_r _ [7] (by decide +kernel) (by decide +kernel)
set_option maxRecDepth 20000 in
theorem gX6_best_X6_in : GoodIn wsX6_best (va_wsS RX6 42 yX6_in wsX6_in) := goodIn_app (goodIn_of _ (by decide +kernel)) ggX6_best_X6_in
set_option maxRecDepth 20000 in
theorem ggX6_best_X6_refused : GoodIn wsX6_best wsX6_refused := goodIn_r _ [11, 12, 35, 36, 37, 38, 39, 40, 41, 42, 43, 44, 45, 46, 47] (by decide +kernel) (by decide +kernel)
set_option maxRecDepth 20000 in
theorem gX6_best_X6_refused : GoodIn wsX6_best (wsV RX6 111 RX6 yX6_refused wsX6_refused) := goodIn_app (goodIn_of _ (by decide +kernel)) ggX6_best_X6_refused
set_option maxRecDepth 20000 in
theorem ggX6_best_X6_laySets : GoodIn wsX6_best wsX6_laySets := goodIn_r _ [16, 2, 3, 17, 18, 6, 19, 20, 21, 22, 23, 24, 25, 26, 27, 28, 29, 30, 31, 32, 33, 34, 35, 36, 37, 38, 39, 40, 41, 42, 43, 44, 45, 46, 47] (by decide +kernel) (by decide +kernel)
set_option maxRecDepth 20000 in
theorem gX6_best_X6_laySets : GoodIn wsX6_best (wsV RX6 195 RX6 yX6_laySets wsX6_laySets) := goodIn_app (goodIn_of _ (by decide +kernel)) ggX6_best_X6_laySets
theorem dX6_best_0 : decode cX6_best 0 = .ok (.aload_n 0, 1) := by decide +kernel
theorem dX6_best_1 : decode cX6_best 1 = .ok (.iload_n 1, 1) := by decide +kernel
theorem dX6_best_2 : decode cX6_best 2 = .ok (.i2l, 1) := by decide +kernel
theorem dX6_best_3 : decode cX6_best 3 = .ok (.lconst 0, 1) := by decide +kernel
theorem dX6_best_4 : decode cX6_best 4 = .ok (.lconst 1, 1) := by decide +kernel
theorem dX6_best_5 : decode cX6_best 5 = .ok (.invokestatic 42, 3) := by decide +kernel
theorem dX6_best_8 : decode cX6_best 8 = .ok (.ifCond .eq 7, 3) := by decide +kernel
theorem dX6_best_11 : decode cX6_best 11 = .ok (.iconst 0, 1) := by decide +kernel
theorem dX6_best_12 : decode cX6_best 12 = .ok (.goto 4, 3) := by decide +kernel
theorem dX6_best_15 : decode cX6_best 15 = .ok (.iconst 1, 1) := by decide +kernel
theorem dX6_best_16 : decode cX6_best 16 = .ok (.invokevirtual 111, 3) := by decide +kernel
theorem dX6_best_19 : decode cX6_best 19 = .ok (.ifCond .eq 5, 3) := by decide +kernel
theorem dX6_best_22 : decode cX6_best 22 = .ok (.iconst 0, 1) := by decide +kernel
theorem dX6_best_23 : decode cX6_best 23 = .ok (.ireturn, 1) := by decide +kernel
theorem dX6_best_24 : decode cX6_best 24 = .ok (.aload_n 0, 1) := by decide +kernel
theorem dX6_best_25 : decode cX6_best 25 = .ok (.aload_n 0, 1) := by decide +kernel
theorem dX6_best_26 : decode cX6_best 26 = .ok (.getfield 16, 3) := by decide +kernel
theorem dX6_best_29 : decode cX6_best 29 = .ok (.invokevirtual 195, 3) := by decide +kernel
theorem dX6_best_32 : decode cX6_best 32 = .ok (.iconst 1, 1) := by decide +kernel
theorem dX6_best_33 : decode cX6_best 33 = .ok (.aload_n 0, 1) := by decide +kernel
theorem dX6_best_34 : decode cX6_best 34 = .ok (.getfield 16, 3) := by decide +kernel
theorem dX6_best_37 : decode cX6_best 37 = .ok (.iconst 0, 1) := by decide +kernel
theorem dX6_best_38 : decode cX6_best 38 = .ok (.iaload, 1) := by decide +kernel
theorem dX6_best_39 : decode cX6_best 39 = .ok (.ishl, 1) := by decide +kernel
theorem dX6_best_40 : decode cX6_best 40 = .ok (.iconst 1, 1) := by decide +kernel
theorem dX6_best_41 : decode cX6_best 41 = .ok (.isub, 1) := by decide +kernel
theorem dX6_best_42 : decode cX6_best 42 = .ok (.istore_n 2, 1) := by decide +kernel
theorem dX6_best_43 : decode cX6_best 43 = .ok (.iload_n 1, 1) := by decide +kernel
theorem dX6_best_44 : decode cX6_best 44 = .ok (.ifCond .ne 12, 3) := by decide +kernel
theorem dX6_best_47 : decode cX6_best 47 = .ok (.aload_n 0, 1) := by decide +kernel
theorem dX6_best_48 : decode cX6_best 48 = .ok (.getfield 32, 3) := by decide +kernel
theorem dX6_best_51 : decode cX6_best 51 = .ok (.iload_n 2, 1) := by decide +kernel
theorem dX6_best_52 : decode cX6_best 52 = .ok (.iaload, 1) := by decide +kernel
theorem dX6_best_53 : decode cX6_best 53 = .ok (.goto 9, 3) := by decide +kernel
theorem dX6_best_56 : decode cX6_best 56 = .ok (.aload_n 0, 1) := by decide +kernel
theorem dX6_best_57 : decode cX6_best 57 = .ok (.getfield 35, 3) := by decide +kernel
theorem dX6_best_60 : decode cX6_best 60 = .ok (.iload_n 2, 1) := by decide +kernel
theorem dX6_best_61 : decode cX6_best 61 = .ok (.iaload, 1) := by decide +kernel
theorem dX6_best_62 : decode cX6_best 62 = .ok (.ireturn, 1) := by decide +kernel
set_option maxRecDepth 20000 in
theorem ggX6_missedMost_X6_laySets : GoodIn wsX6_missedMost wsX6_laySets := goodIn_r _ [9, 3, 4, 10, 11, 8, 12, 13, 14, 15, 16, 17, 18, 19, 20, 21, 22, 23, 24, 25, 26, 27, 28, 29, 30, 31, 32, 33, 34, 35, 36, 37, 38, 39, 40] (by decide +kernel) (by decide +kernel)
set_option maxRecDepth 20000 in
theorem gX6_missedMost_X6_laySets : GoodIn wsX6_missedMost (wsV RX6 195 RX6 yX6_laySets wsX6_laySets) := goodIn_app (goodIn_of _ (by decide +kernel)) ggX6_missedMost_X6_laySets
theorem dX6_missedMost_0 : decode cX6_missedMost 0 = .ok (.aload_n 0, 1) := by decide +kernel
theorem dX6_missedMost_1 : decode cX6_missedMost 1 = .ok (.iconst 0, 1) := by decide +kernel
theorem dX6_missedMost_2 : decode cX6_missedMost 2 = .ok (.putfield 38, 3) := by decide +kernel
theorem dX6_missedMost_5 : decode cX6_missedMost 5 = .ok (.aload_n 0, 1) := by decide +kernel
theorem dX6_missedMost_6 : decode cX6_missedMost 6 = .ok (.aload_n 0, 1) := by decide +kernel
theorem dX6_missedMost_7 : decode cX6_missedMost 7 = .ok (.getfield 16, 3) := by decide +kernel
theorem dX6_missedMost_10 : decode cX6_missedMost 10 = .ok (.invokevirtual 195, 3) := by decide +kernel
theorem dX6_missedMost_13 : decode cX6_missedMost 13 = .ok (.iconst 1, 1) := by decide +kernel
theorem dX6_missedMost_14 : decode cX6_missedMost 14 = .ok (.aload_n 0, 1) := by decide +kernel
theorem dX6_missedMost_15 : decode cX6_missedMost 15 = .ok (.getfield 16, 3) := by decide +kernel
theorem dX6_missedMost_18 : decode cX6_missedMost 18 = .ok (.iconst 0, 1) := by decide +kernel
theorem dX6_missedMost_19 : decode cX6_missedMost 19 = .ok (.iaload, 1) := by decide +kernel
theorem dX6_missedMost_20 : decode cX6_missedMost 20 = .ok (.ishl, 1) := by decide +kernel
theorem dX6_missedMost_21 : decode cX6_missedMost 21 = .ok (.iconst 1, 1) := by decide +kernel
theorem dX6_missedMost_22 : decode cX6_missedMost 22 = .ok (.isub, 1) := by decide +kernel
theorem dX6_missedMost_23 : decode cX6_missedMost 23 = .ok (.istore_n 1, 1) := by decide +kernel
theorem dX6_missedMost_24 : decode cX6_missedMost 24 = .ok (.sipush (-9999), 3) := by decide +kernel
theorem dX6_missedMost_27 : decode cX6_missedMost 27 = .ok (.istore_n 2, 1) := by decide +kernel
theorem dX6_missedMost_28 : decode cX6_missedMost 28 = .ok (.iconst 0, 1) := by decide +kernel
theorem dX6_missedMost_29 : decode cX6_missedMost 29 = .ok (.istore_n 3, 1) := by decide +kernel
theorem dX6_missedMost_30 : decode cX6_missedMost 30 = .ok (.iconst 0, 1) := by decide +kernel
theorem dX6_missedMost_31 : decode cX6_missedMost 31 = .ok (.istore 4, 2) := by decide +kernel
theorem dX6_missedMost_33 : decode cX6_missedMost 33 = .ok (.iload 4, 2) := by decide +kernel
theorem dX6_missedMost_35 : decode cX6_missedMost 35 = .ok (.aload_n 0, 1) := by decide +kernel
theorem dX6_missedMost_36 : decode cX6_missedMost 36 = .ok (.getfield 16, 3) := by decide +kernel
theorem dX6_missedMost_39 : decode cX6_missedMost 39 = .ok (.iconst 0, 1) := by decide +kernel
theorem dX6_missedMost_40 : decode cX6_missedMost 40 = .ok (.iaload, 1) := by decide +kernel
theorem dX6_missedMost_41 : decode cX6_missedMost 41 = .ok (.if_icmp .ge 105, 3) := by decide +kernel
theorem dX6_missedMost_44 : decode cX6_missedMost 44 = .ok (.iload_n 1, 1) := by decide +kernel
theorem dX6_missedMost_45 : decode cX6_missedMost 45 = .ok (.iconst 1, 1) := by decide +kernel
theorem dX6_missedMost_46 : decode cX6_missedMost 46 = .ok (.iload 4, 2) := by decide +kernel
theorem dX6_missedMost_48 : decode cX6_missedMost 48 = .ok (.ishl, 1) := by decide +kernel
theorem dX6_missedMost_49 : decode cX6_missedMost 49 = .ok (.iconst (-1), 1) := by decide +kernel
theorem dX6_missedMost_50 : decode cX6_missedMost 50 = .ok (.ixor, 1) := by decide +kernel
theorem dX6_missedMost_51 : decode cX6_missedMost 51 = .ok (.iand, 1) := by decide +kernel
theorem dX6_missedMost_52 : decode cX6_missedMost 52 = .ok (.istore 5, 2) := by decide +kernel
theorem dX6_missedMost_54 : decode cX6_missedMost 54 = .ok (.iload_n 2, 1) := by decide +kernel
theorem dX6_missedMost_55 : decode cX6_missedMost 55 = .ok (.sipush (-9999), 3) := by decide +kernel
theorem dX6_missedMost_58 : decode cX6_missedMost 58 = .ok (.if_icmp .eq 51, 3) := by decide +kernel
theorem dX6_missedMost_61 : decode cX6_missedMost 61 = .ok (.aload_n 0, 1) := by decide +kernel
theorem dX6_missedMost_62 : decode cX6_missedMost 62 = .ok (.getfield 32, 3) := by decide +kernel
theorem dX6_missedMost_65 : decode cX6_missedMost 65 = .ok (.iload 5, 2) := by decide +kernel
theorem dX6_missedMost_67 : decode cX6_missedMost 67 = .ok (.iaload, 1) := by decide +kernel
theorem dX6_missedMost_68 : decode cX6_missedMost 68 = .ok (.aload_n 0, 1) := by decide +kernel
theorem dX6_missedMost_69 : decode cX6_missedMost 69 = .ok (.getfield 32, 3) := by decide +kernel
theorem dX6_missedMost_72 : decode cX6_missedMost 72 = .ok (.iload_n 3, 1) := by decide +kernel
theorem dX6_missedMost_73 : decode cX6_missedMost 73 = .ok (.iaload, 1) := by decide +kernel
theorem dX6_missedMost_74 : decode cX6_missedMost 74 = .ok (.if_icmp .lt 35, 3) := by decide +kernel
theorem dX6_missedMost_77 : decode cX6_missedMost 77 = .ok (.aload_n 0, 1) := by decide +kernel
theorem dX6_missedMost_78 : decode cX6_missedMost 78 = .ok (.getfield 32, 3) := by decide +kernel
theorem dX6_missedMost_81 : decode cX6_missedMost 81 = .ok (.iload 5, 2) := by decide +kernel
theorem dX6_missedMost_83 : decode cX6_missedMost 83 = .ok (.iaload, 1) := by decide +kernel
theorem dX6_missedMost_84 : decode cX6_missedMost 84 = .ok (.aload_n 0, 1) := by decide +kernel
theorem dX6_missedMost_85 : decode cX6_missedMost 85 = .ok (.getfield 32, 3) := by decide +kernel
theorem dX6_missedMost_88 : decode cX6_missedMost 88 = .ok (.iload_n 3, 1) := by decide +kernel
theorem dX6_missedMost_89 : decode cX6_missedMost 89 = .ok (.iaload, 1) := by decide +kernel
theorem dX6_missedMost_90 : decode cX6_missedMost 90 = .ok (.if_icmp .ne 23, 3) := by decide +kernel
theorem dX6_missedMost_93 : decode cX6_missedMost 93 = .ok (.aload_n 0, 1) := by decide +kernel
theorem dX6_missedMost_94 : decode cX6_missedMost 94 = .ok (.getfield 35, 3) := by decide +kernel
theorem dX6_missedMost_97 : decode cX6_missedMost 97 = .ok (.iload 5, 2) := by decide +kernel
theorem dX6_missedMost_99 : decode cX6_missedMost 99 = .ok (.iaload, 1) := by decide +kernel
theorem dX6_missedMost_100 : decode cX6_missedMost 100 = .ok (.aload_n 0, 1) := by decide +kernel
theorem dX6_missedMost_101 : decode cX6_missedMost 101 = .ok (.getfield 35, 3) := by decide +kernel
theorem dX6_missedMost_104 : decode cX6_missedMost 104 = .ok (.iload_n 3, 1) := by decide +kernel
theorem dX6_missedMost_105 : decode cX6_missedMost 105 = .ok (.iaload, 1) := by decide +kernel
theorem dX6_missedMost_106 : decode cX6_missedMost 106 = .ok (.if_icmp .ge 7, 3) := by decide +kernel
theorem dX6_missedMost_109 : decode cX6_missedMost 109 = .ok (.iconst 1, 1) := by decide +kernel
theorem dX6_missedMost_110 : decode cX6_missedMost 110 = .ok (.goto 4, 3) := by decide +kernel
theorem dX6_missedMost_113 : decode cX6_missedMost 113 = .ok (.iconst 0, 1) := by decide +kernel
theorem dX6_missedMost_114 : decode cX6_missedMost 114 = .ok (.istore 6, 2) := by decide +kernel
theorem dX6_missedMost_116 : decode cX6_missedMost 116 = .ok (.iload 6, 2) := by decide +kernel
theorem dX6_missedMost_118 : decode cX6_missedMost 118 = .ok (.ifCond .eq 8, 3) := by decide +kernel
theorem dX6_missedMost_121 : decode cX6_missedMost 121 = .ok (.iload 4, 2) := by decide +kernel
theorem dX6_missedMost_123 : decode cX6_missedMost 123 = .ok (.goto 4, 3) := by decide +kernel
theorem dX6_missedMost_126 : decode cX6_missedMost 126 = .ok (.iload_n 2, 1) := by decide +kernel
theorem dX6_missedMost_127 : decode cX6_missedMost 127 = .ok (.istore_n 2, 1) := by decide +kernel
theorem dX6_missedMost_128 : decode cX6_missedMost 128 = .ok (.iload 6, 2) := by decide +kernel
theorem dX6_missedMost_130 : decode cX6_missedMost 130 = .ok (.ifCond .eq 8, 3) := by decide +kernel
theorem dX6_missedMost_133 : decode cX6_missedMost 133 = .ok (.iload 5, 2) := by decide +kernel
theorem dX6_missedMost_135 : decode cX6_missedMost 135 = .ok (.goto 4, 3) := by decide +kernel
theorem dX6_missedMost_138 : decode cX6_missedMost 138 = .ok (.iload_n 3, 1) := by decide +kernel
theorem dX6_missedMost_139 : decode cX6_missedMost 139 = .ok (.istore_n 3, 1) := by decide +kernel
theorem dX6_missedMost_140 : decode cX6_missedMost 140 = .ok (.iinc 4 1, 3) := by decide +kernel
theorem dX6_missedMost_143 : decode cX6_missedMost 143 = .ok (.goto (-110), 3) := by decide +kernel
theorem dX6_missedMost_146 : decode cX6_missedMost 146 = .ok (.iload_n 2, 1) := by decide +kernel
theorem dX6_missedMost_147 : decode cX6_missedMost 147 = .ok (.ireturn, 1) := by decide +kernel
set_option maxRecDepth 20000 in
theorem ggX6_ahead_X6_isMember : GoodIn wsX6_ahead wsX6_isMember := goodIn_r _ [8, 9, 10, 7, 11] (by decide +kernel) (by decide +kernel)
set_option maxRecDepth 20000 in
theorem gX6_ahead_X6_isMember : GoodIn wsX6_ahead (va_wsS RX6 147 yX6_isMember wsX6_isMember) := goodIn_app (goodIn_of _ (by decide +kernel)) ggX6_ahead_X6_isMember
set_option maxRecDepth 20000 in
theorem ggX6_ahead_X6_in : GoodIn wsX6_ahead wsX6_in := goodIn_r _ [11] (by decide +kernel) (by decide +kernel)
set_option maxRecDepth 20000 in
theorem gX6_ahead_X6_in : GoodIn wsX6_ahead (va_wsS RX6 42 yX6_in wsX6_in) := goodIn_app (goodIn_of _ (by decide +kernel)) ggX6_ahead_X6_in
set_option maxRecDepth 20000 in
theorem ggX6_ahead_X6_isAbsent : GoodIn wsX6_ahead wsX6_isAbsent := goodIn_r _ [14, 15, 9, 10, 7, 11] (by decide +kernel) (by decide +kernel)
set_option maxRecDepth 20000 in
theorem gX6_ahead_X6_isAbsent : GoodIn wsX6_ahead (va_wsS RX6 189 yX6_isAbsent wsX6_isAbsent) := goodIn_app (goodIn_of _ (by decide +kernel)) ggX6_ahead_X6_isAbsent
set_option maxRecDepth 20000 in
theorem ggX6_ahead_X6_refused : GoodIn wsX6_ahead wsX6_refused := goodIn_r _ [19, 20, 60, 61, 62, 63, 64, 65, 66, 67, 68, 69, 70, 71, 72] (by decide +kernel) (by decide +kernel)
set_option maxRecDepth 20000 in
theorem gX6_ahead_X6_refused : GoodIn wsX6_ahead (wsV RX6 111 RX6 yX6_refused wsX6_refused) := goodIn_app (goodIn_of _ (by decide +kernel)) ggX6_ahead_X6_refused
set_option maxRecDepth 20000 in
theorem ggX6_ahead_X6_copyPage : GoodIn wsX6_ahead wsX6_copyPage := goodIn_r _ [23] (by decide +kernel) (by decide +kernel)
set_option maxRecDepth 20000 in
theorem gX6_ahead_X6_copyPage : GoodIn wsX6_ahead (va_wsS RX6 131 yX6_copyPage wsX6_copyPage) := goodIn_app (goodIn_of _ (by decide +kernel)) ggX6_ahead_X6_copyPage
set_option maxRecDepth 20000 in
theorem ggX6_ahead_X6_weekOn : GoodIn wsX6_ahead wsX6_weekOn := goodIn_r _ [26, 27, 28, 7, 29, 30, 31, 32, 33, 34, 35, 36, 37, 38, 39, 40, 41, 42, 43, 44, 45, 46, 47, 48, 49, 50, 51, 52, 53] (by decide +kernel) (by decide +kernel)
set_option maxRecDepth 20000 in
theorem gX6_ahead_X6_weekOn : GoodIn wsX6_ahead (va_wsS RX6 192 yX6_weekOn wsX6_weekOn) := goodIn_app (goodIn_of _ (by decide +kernel)) ggX6_ahead_X6_weekOn
set_option maxRecDepth 20000 in
theorem ggX6_ahead_X6_detail : GoodIn wsX6_ahead wsX6_detail := goodIn_r _ [56, 57, 58, 7, 59, 27, 28, 29, 45, 46, 47, 39, 40, 41] (by decide +kernel) (by decide +kernel)
set_option maxRecDepth 20000 in
theorem gX6_ahead_X6_detail : GoodIn wsX6_ahead (va_wsS RX6 152 yX6_detail wsX6_detail) := goodIn_app (goodIn_of _ (by decide +kernel)) ggX6_ahead_X6_detail
theorem dX6_ahead_0 : decode cX6_ahead 0 = .ok (.aload_n 0, 1) := by decide +kernel
theorem dX6_ahead_1 : decode cX6_ahead 1 = .ok (.aload_n 0, 1) := by decide +kernel
theorem dX6_ahead_2 : decode cX6_ahead 2 = .ok (.getfield 16, 3) := by decide +kernel
theorem dX6_ahead_5 : decode cX6_ahead 5 = .ok (.iload_n 1, 1) := by decide +kernel
theorem dX6_ahead_6 : decode cX6_ahead 6 = .ok (.invokestatic 147, 3) := by decide +kernel
theorem dX6_ahead_9 : decode cX6_ahead 9 = .ok (.ifCond .ne 7, 3) := by decide +kernel
theorem dX6_ahead_12 : decode cX6_ahead 12 = .ok (.iconst 1, 1) := by decide +kernel
theorem dX6_ahead_13 : decode cX6_ahead 13 = .ok (.goto 40, 3) := by decide +kernel
theorem dX6_ahead_16 : decode cX6_ahead 16 = .ok (.iload_n 2, 1) := by decide +kernel
theorem dX6_ahead_17 : decode cX6_ahead 17 = .ok (.i2l, 1) := by decide +kernel
theorem dX6_ahead_18 : decode cX6_ahead 18 = .ok (.lconst 0, 1) := by decide +kernel
theorem dX6_ahead_19 : decode cX6_ahead 19 = .ok (.ldc2_w 199, 3) := by decide +kernel
theorem dX6_ahead_22 : decode cX6_ahead 22 = .ok (.invokestatic 42, 3) := by decide +kernel
theorem dX6_ahead_25 : decode cX6_ahead 25 = .ok (.ifCond .eq 23, 3) := by decide +kernel
theorem dX6_ahead_28 : decode cX6_ahead 28 = .ok (.iload_n 3, 1) := by decide +kernel
theorem dX6_ahead_29 : decode cX6_ahead 29 = .ok (.invokestatic 189, 3) := by decide +kernel
theorem dX6_ahead_32 : decode cX6_ahead 32 = .ok (.ifCond .eq 16, 3) := by decide +kernel
theorem dX6_ahead_35 : decode cX6_ahead 35 = .ok (.iload 4, 2) := by decide +kernel
theorem dX6_ahead_37 : decode cX6_ahead 37 = .ok (.i2l, 1) := by decide +kernel
theorem dX6_ahead_38 : decode cX6_ahead 38 = .ok (.lconst 0, 1) := by decide +kernel
theorem dX6_ahead_39 : decode cX6_ahead 39 = .ok (.ldc2_w 150, 3) := by decide +kernel
theorem dX6_ahead_42 : decode cX6_ahead 42 = .ok (.invokestatic 42, 3) := by decide +kernel
theorem dX6_ahead_45 : decode cX6_ahead 45 = .ok (.ifCond .ne 7, 3) := by decide +kernel
theorem dX6_ahead_48 : decode cX6_ahead 48 = .ok (.iconst 2, 1) := by decide +kernel
theorem dX6_ahead_49 : decode cX6_ahead 49 = .ok (.goto 4, 3) := by decide +kernel
theorem dX6_ahead_52 : decode cX6_ahead 52 = .ok (.iconst 0, 1) := by decide +kernel
theorem dX6_ahead_53 : decode cX6_ahead 53 = .ok (.invokevirtual 111, 3) := by decide +kernel
theorem dX6_ahead_56 : decode cX6_ahead 56 = .ok (.ifCond .eq 5, 3) := by decide +kernel
theorem dX6_ahead_59 : decode cX6_ahead 59 = .ok (.iconst 0, 1) := by decide +kernel
theorem dX6_ahead_60 : decode cX6_ahead 60 = .ok (.ireturn, 1) := by decide +kernel
theorem dX6_ahead_61 : decode cX6_ahead 61 = .ok (.aload_n 0, 1) := by decide +kernel
theorem dX6_ahead_62 : decode cX6_ahead 62 = .ok (.getfield 16, 3) := by decide +kernel
theorem dX6_ahead_65 : decode cX6_ahead 65 = .ok (.iconst 0, 1) := by decide +kernel
theorem dX6_ahead_66 : decode cX6_ahead 66 = .ok (.aload_n 0, 1) := by decide +kernel
theorem dX6_ahead_67 : decode cX6_ahead 67 = .ok (.getfield 19, 3) := by decide +kernel
theorem dX6_ahead_70 : decode cX6_ahead 70 = .ok (.iconst 0, 1) := by decide +kernel
theorem dX6_ahead_71 : decode cX6_ahead 71 = .ok (.invokestatic 131, 3) := by decide +kernel
theorem dX6_ahead_74 : decode cX6_ahead 74 = .ok (.iconst 0, 1) := by decide +kernel
theorem dX6_ahead_75 : decode cX6_ahead 75 = .ok (.istore 5, 2) := by decide +kernel
theorem dX6_ahead_77 : decode cX6_ahead 77 = .ok (.iload 5, 2) := by decide +kernel
theorem dX6_ahead_79 : decode cX6_ahead 79 = .ok (.iload_n 2, 1) := by decide +kernel
theorem dX6_ahead_80 : decode cX6_ahead 80 = .ok (.if_icmp .ge 17, 3) := by decide +kernel
theorem dX6_ahead_83 : decode cX6_ahead 83 = .ok (.aload_n 0, 1) := by decide +kernel
theorem dX6_ahead_84 : decode cX6_ahead 84 = .ok (.getfield 19, 3) := by decide +kernel
theorem dX6_ahead_87 : decode cX6_ahead 87 = .ok (.iload_n 3, 1) := by decide +kernel
theorem dX6_ahead_88 : decode cX6_ahead 88 = .ok (.invokestatic 192, 3) := by decide +kernel
theorem dX6_ahead_91 : decode cX6_ahead 91 = .ok (.iinc 5 1, 3) := by decide +kernel
theorem dX6_ahead_94 : decode cX6_ahead 94 = .ok (.goto (-17), 3) := by decide +kernel
theorem dX6_ahead_97 : decode cX6_ahead 97 = .ok (.aload_n 0, 1) := by decide +kernel
theorem dX6_ahead_98 : decode cX6_ahead 98 = .ok (.getfield 19, 3) := by decide +kernel
theorem dX6_ahead_101 : decode cX6_ahead 101 = .ok (.iload_n 1, 1) := by decide +kernel
theorem dX6_ahead_102 : decode cX6_ahead 102 = .ok (.iload 4, 2) := by decide +kernel
theorem dX6_ahead_104 : decode cX6_ahead 104 = .ok (.invokestatic 152, 3) := by decide +kernel
theorem dX6_ahead_107 : decode cX6_ahead 107 = .ok (.ireturn, 1) := by decide +kernel
set_option maxRecDepth 20000 in
theorem ggX6_levelAfter_X6_isMember : GoodIn wsX6_levelAfter wsX6_isMember := goodIn_r _ [7, 8, 9, 6, 10] (by decide +kernel) (by decide +kernel)
set_option maxRecDepth 20000 in
theorem gX6_levelAfter_X6_isMember : GoodIn wsX6_levelAfter (va_wsS RX6 147 yX6_isMember wsX6_isMember) := goodIn_app (goodIn_of _ (by decide +kernel)) ggX6_levelAfter_X6_isMember
set_option maxRecDepth 20000 in
theorem ggX6_levelAfter_X6_in : GoodIn wsX6_levelAfter wsX6_in := goodIn_r _ [10] (by decide +kernel) (by decide +kernel)
set_option maxRecDepth 20000 in
theorem gX6_levelAfter_X6_in : GoodIn wsX6_levelAfter (va_wsS RX6 42 yX6_in wsX6_in) := goodIn_app (goodIn_of _ (by decide +kernel)) ggX6_levelAfter_X6_in
set_option maxRecDepth 20000 in
theorem ggX6_levelAfter_X6_refused : GoodIn wsX6_levelAfter wsX6_refused := goodIn_r _ [14, 15, 67, 68, 69, 70, 71, 72, 73, 74, 75, 76, 77, 78, 79] (by decide +kernel) (by decide +kernel)
set_option maxRecDepth 20000 in
theorem gX6_levelAfter_X6_refused : GoodIn wsX6_levelAfter (wsV RX6 111 RX6 yX6_refused wsX6_refused) := goodIn_app (goodIn_of _ (by decide +kernel)) ggX6_levelAfter_X6_refused
set_option maxRecDepth 20000 in
theorem ggX6_levelAfter_X6_copyPage : GoodIn wsX6_levelAfter wsX6_copyPage := goodIn_r _ [18] (by decide +kernel) (by decide +kernel)
set_option maxRecDepth 20000 in
theorem gX6_levelAfter_X6_copyPage : GoodIn wsX6_levelAfter (va_wsS RX6 131 yX6_copyPage wsX6_copyPage) := goodIn_app (goodIn_of _ (by decide +kernel)) ggX6_levelAfter_X6_copyPage
set_option maxRecDepth 20000 in
theorem ggX6_levelAfter_X6_at : GoodIn wsX6_levelAfter wsX6_at := goodIn_r _ [21] (by decide +kernel) (by decide +kernel)
set_option maxRecDepth 20000 in
theorem gX6_levelAfter_X6_at : GoodIn wsX6_levelAfter (va_wsS RX6 46 yX6_at wsX6_at) := goodIn_app (goodIn_of _ (by decide +kernel)) ggX6_levelAfter_X6_at
set_option maxRecDepth 20000 in
theorem ggX6_levelAfter_X6_matchOn : GoodIn wsX6_levelAfter wsX6_matchOn := goodIn_r _ [24, 25, 26, 6, 27, 19, 20, 21, 28, 29, 30, 31, 32, 33, 34, 35, 36, 37, 38, 39, 40, 41, 42, 43, 44, 45, 46, 47, 48, 49, 50, 51] (by decide +kernel) (by decide +kernel)
set_option maxRecDepth 20000 in
theorem gX6_levelAfter_X6_matchOn : GoodIn wsX6_levelAfter (va_wsS RX6 179 yX6_matchOn wsX6_matchOn) := goodIn_app (goodIn_of _ (by decide +kernel)) ggX6_levelAfter_X6_matchOn
set_option maxRecDepth 20000 in
theorem ggX6_levelAfter_X6_weekOn : GoodIn wsX6_levelAfter wsX6_weekOn := goodIn_r _ [54, 19, 20, 6, 21, 55, 56, 57, 58, 59, 60, 61, 62, 63, 31, 32, 33, 64, 65, 66, 28, 29, 30, 46, 47, 48, 49, 50, 51] (by decide +kernel) (by decide +kernel)
set_option maxRecDepth 20000 in
theorem gX6_levelAfter_X6_weekOn : GoodIn wsX6_levelAfter (va_wsS RX6 192 yX6_weekOn wsX6_weekOn) := goodIn_app (goodIn_of _ (by decide +kernel)) ggX6_levelAfter_X6_weekOn
theorem dX6_levelAfter_0 : decode cX6_levelAfter 0 = .ok (.aload_n 0, 1) := by decide +kernel
theorem dX6_levelAfter_1 : decode cX6_levelAfter 1 = .ok (.aload_n 0, 1) := by decide +kernel
theorem dX6_levelAfter_2 : decode cX6_levelAfter 2 = .ok (.getfield 16, 3) := by decide +kernel
theorem dX6_levelAfter_5 : decode cX6_levelAfter 5 = .ok (.iload_n 1, 1) := by decide +kernel
theorem dX6_levelAfter_6 : decode cX6_levelAfter 6 = .ok (.invokestatic 147, 3) := by decide +kernel
theorem dX6_levelAfter_9 : decode cX6_levelAfter 9 = .ok (.ifCond .ne 7, 3) := by decide +kernel
theorem dX6_levelAfter_12 : decode cX6_levelAfter 12 = .ok (.iconst 1, 1) := by decide +kernel
theorem dX6_levelAfter_13 : decode cX6_levelAfter 13 = .ok (.goto 20, 3) := by decide +kernel
theorem dX6_levelAfter_16 : decode cX6_levelAfter 16 = .ok (.iload_n 2, 1) := by decide +kernel
theorem dX6_levelAfter_17 : decode cX6_levelAfter 17 = .ok (.i2l, 1) := by decide +kernel
theorem dX6_levelAfter_18 : decode cX6_levelAfter 18 = .ok (.lconst 0, 1) := by decide +kernel
theorem dX6_levelAfter_19 : decode cX6_levelAfter 19 = .ok (.ldc2_w 201, 3) := by decide +kernel
theorem dX6_levelAfter_22 : decode cX6_levelAfter 22 = .ok (.invokestatic 42, 3) := by decide +kernel
theorem dX6_levelAfter_25 : decode cX6_levelAfter 25 = .ok (.ifCond .ne 7, 3) := by decide +kernel
theorem dX6_levelAfter_28 : decode cX6_levelAfter 28 = .ok (.iconst 2, 1) := by decide +kernel
theorem dX6_levelAfter_29 : decode cX6_levelAfter 29 = .ok (.goto 4, 3) := by decide +kernel
theorem dX6_levelAfter_32 : decode cX6_levelAfter 32 = .ok (.iconst 0, 1) := by decide +kernel
theorem dX6_levelAfter_33 : decode cX6_levelAfter 33 = .ok (.invokevirtual 111, 3) := by decide +kernel
theorem dX6_levelAfter_36 : decode cX6_levelAfter 36 = .ok (.ifCond .eq 5, 3) := by decide +kernel
theorem dX6_levelAfter_39 : decode cX6_levelAfter 39 = .ok (.iconst 0, 1) := by decide +kernel
theorem dX6_levelAfter_40 : decode cX6_levelAfter 40 = .ok (.ireturn, 1) := by decide +kernel
theorem dX6_levelAfter_41 : decode cX6_levelAfter 41 = .ok (.aload_n 0, 1) := by decide +kernel
theorem dX6_levelAfter_42 : decode cX6_levelAfter 42 = .ok (.getfield 16, 3) := by decide +kernel
theorem dX6_levelAfter_45 : decode cX6_levelAfter 45 = .ok (.iconst 0, 1) := by decide +kernel
theorem dX6_levelAfter_46 : decode cX6_levelAfter 46 = .ok (.aload_n 0, 1) := by decide +kernel
theorem dX6_levelAfter_47 : decode cX6_levelAfter 47 = .ok (.getfield 19, 3) := by decide +kernel
theorem dX6_levelAfter_50 : decode cX6_levelAfter 50 = .ok (.iconst 0, 1) := by decide +kernel
theorem dX6_levelAfter_51 : decode cX6_levelAfter 51 = .ok (.invokestatic 131, 3) := by decide +kernel
theorem dX6_levelAfter_54 : decode cX6_levelAfter 54 = .ok (.iconst 0, 1) := by decide +kernel
theorem dX6_levelAfter_55 : decode cX6_levelAfter 55 = .ok (.istore_n 3, 1) := by decide +kernel
theorem dX6_levelAfter_56 : decode cX6_levelAfter 56 = .ok (.iload_n 3, 1) := by decide +kernel
theorem dX6_levelAfter_57 : decode cX6_levelAfter 57 = .ok (.bipush 100, 2) := by decide +kernel
theorem dX6_levelAfter_59 : decode cX6_levelAfter 59 = .ok (.if_icmp .gt 52, 3) := by decide +kernel
theorem dX6_levelAfter_62 : decode cX6_levelAfter 62 = .ok (.aload_n 0, 1) := by decide +kernel
theorem dX6_levelAfter_63 : decode cX6_levelAfter 63 = .ok (.getfield 19, 3) := by decide +kernel
theorem dX6_levelAfter_66 : decode cX6_levelAfter 66 = .ok (.iload_n 1, 1) := by decide +kernel
theorem dX6_levelAfter_67 : decode cX6_levelAfter 67 = .ok (.invokestatic 46, 3) := by decide +kernel
theorem dX6_levelAfter_70 : decode cX6_levelAfter 70 = .ok (.aload_n 0, 1) := by decide +kernel
theorem dX6_levelAfter_71 : decode cX6_levelAfter 71 = .ok (.getfield 19, 3) := by decide +kernel
theorem dX6_levelAfter_74 : decode cX6_levelAfter 74 = .ok (.iload_n 1, 1) := by decide +kernel
theorem dX6_levelAfter_75 : decode cX6_levelAfter 75 = .ok (.invokestatic 46, 3) := by decide +kernel
theorem dX6_levelAfter_78 : decode cX6_levelAfter 78 = .ok (.iconst 4, 1) := by decide +kernel
theorem dX6_levelAfter_79 : decode cX6_levelAfter 79 = .ok (.iadd, 1) := by decide +kernel
theorem dX6_levelAfter_80 : decode cX6_levelAfter 80 = .ok (.iaload, 1) := by decide +kernel
theorem dX6_levelAfter_81 : decode cX6_levelAfter 81 = .ok (.iadd, 1) := by decide +kernel
theorem dX6_levelAfter_82 : decode cX6_levelAfter 82 = .ok (.iaload, 1) := by decide +kernel
theorem dX6_levelAfter_83 : decode cX6_levelAfter 83 = .ok (.iload_n 2, 1) := by decide +kernel
theorem dX6_levelAfter_84 : decode cX6_levelAfter 84 = .ok (.if_icmp .lt 5, 3) := by decide +kernel
theorem dX6_levelAfter_87 : decode cX6_levelAfter 87 = .ok (.iload_n 3, 1) := by decide +kernel
theorem dX6_levelAfter_88 : decode cX6_levelAfter 88 = .ok (.ireturn, 1) := by decide +kernel
theorem dX6_levelAfter_89 : decode cX6_levelAfter 89 = .ok (.aload_n 0, 1) := by decide +kernel
theorem dX6_levelAfter_90 : decode cX6_levelAfter 90 = .ok (.getfield 19, 3) := by decide +kernel
theorem dX6_levelAfter_93 : decode cX6_levelAfter 93 = .ok (.invokestatic 179, 3) := by decide +kernel
theorem dX6_levelAfter_96 : decode cX6_levelAfter 96 = .ok (.pop, 1) := by decide +kernel
theorem dX6_levelAfter_97 : decode cX6_levelAfter 97 = .ok (.aload_n 0, 1) := by decide +kernel
theorem dX6_levelAfter_98 : decode cX6_levelAfter 98 = .ok (.getfield 19, 3) := by decide +kernel
theorem dX6_levelAfter_101 : decode cX6_levelAfter 101 = .ok (.iconst 0, 1) := by decide +kernel
theorem dX6_levelAfter_102 : decode cX6_levelAfter 102 = .ok (.invokestatic 192, 3) := by decide +kernel
theorem dX6_levelAfter_105 : decode cX6_levelAfter 105 = .ok (.iinc 3 1, 3) := by decide +kernel
theorem dX6_levelAfter_108 : decode cX6_levelAfter 108 = .ok (.goto (-52), 3) := by decide +kernel
theorem dX6_levelAfter_111 : decode cX6_levelAfter 111 = .ok (.sipush (-9999), 3) := by decide +kernel
theorem dX6_levelAfter_114 : decode cX6_levelAfter 114 = .ok (.ireturn, 1) := by decide +kernel
set_option maxRecDepth 20000 in
theorem ggX6_partsAfter_X6_isMember : GoodIn wsX6_partsAfter wsX6_isMember := goodIn_r _ [6, 7, 8, 5, 9] (by decide +kernel) (by decide +kernel)
set_option maxRecDepth 20000 in
theorem gX6_partsAfter_X6_isMember : GoodIn wsX6_partsAfter (va_wsS RX6 147 yX6_isMember wsX6_isMember) := goodIn_app (goodIn_of _ (by decide +kernel)) ggX6_partsAfter_X6_isMember
set_option maxRecDepth 20000 in
theorem ggX6_partsAfter_X6_isAbsent : GoodIn wsX6_partsAfter wsX6_isAbsent := goodIn_r _ [12, 13, 7, 8, 5, 9] (by decide +kernel) (by decide +kernel)
set_option maxRecDepth 20000 in
theorem gX6_partsAfter_X6_isAbsent : GoodIn wsX6_partsAfter (va_wsS RX6 189 yX6_isAbsent wsX6_isAbsent) := goodIn_app (goodIn_of _ (by decide +kernel)) ggX6_partsAfter_X6_isAbsent
set_option maxRecDepth 20000 in
theorem ggX6_partsAfter_X6_isFree : GoodIn wsX6_partsAfter wsX6_isFree := goodIn_r _ [16, 17, 18, 5, 19] (by decide +kernel) (by decide +kernel)
set_option maxRecDepth 20000 in
theorem gX6_partsAfter_X6_isFree : GoodIn wsX6_partsAfter (va_wsS RX6 60 yX6_isFree wsX6_isFree) := goodIn_app (goodIn_of _ (by decide +kernel)) ggX6_partsAfter_X6_isFree
set_option maxRecDepth 20000 in
theorem ggX6_partsAfter_X6_refused : GoodIn wsX6_partsAfter wsX6_refused := goodIn_r _ [23, 24, 55, 56, 57, 58, 59, 60, 61, 62, 63, 64, 65, 66, 67] (by decide +kernel) (by decide +kernel)
set_option maxRecDepth 20000 in
theorem gX6_partsAfter_X6_refused : GoodIn wsX6_partsAfter (wsV RX6 111 RX6 yX6_refused wsX6_refused) := goodIn_app (goodIn_of _ (by decide +kernel)) ggX6_partsAfter_X6_refused
set_option maxRecDepth 20000 in
theorem ggX6_partsAfter_X6_copyPage : GoodIn wsX6_partsAfter wsX6_copyPage := goodIn_r _ [27] (by decide +kernel) (by decide +kernel)
set_option maxRecDepth 20000 in
theorem gX6_partsAfter_X6_copyPage : GoodIn wsX6_partsAfter (va_wsS RX6 131 yX6_copyPage wsX6_copyPage) := goodIn_app (goodIn_of _ (by decide +kernel)) ggX6_partsAfter_X6_copyPage
set_option maxRecDepth 20000 in
theorem ggX6_partsAfter_X6_weekOn : GoodIn wsX6_partsAfter wsX6_weekOn := goodIn_r _ [30, 17, 18, 5, 19, 31, 32, 33, 34, 35, 36, 37, 38, 39, 40, 41, 42, 43, 44, 45, 46, 47, 48, 49, 50, 51, 52, 53, 54] (by decide +kernel) (by decide +kernel)
set_option maxRecDepth 20000 in
theorem gX6_partsAfter_X6_weekOn : GoodIn wsX6_partsAfter (va_wsS RX6 192 yX6_weekOn wsX6_weekOn) := goodIn_app (goodIn_of _ (by decide +kernel)) ggX6_partsAfter_X6_weekOn
theorem dX6_partsAfter_0 : decode cX6_partsAfter 0 = .ok (.aload_n 0, 1) := by decide +kernel
theorem dX6_partsAfter_1 : decode cX6_partsAfter 1 = .ok (.aload_n 0, 1) := by decide +kernel
theorem dX6_partsAfter_2 : decode cX6_partsAfter 2 = .ok (.getfield 16, 3) := by decide +kernel
theorem dX6_partsAfter_5 : decode cX6_partsAfter 5 = .ok (.iload_n 1, 1) := by decide +kernel
theorem dX6_partsAfter_6 : decode cX6_partsAfter 6 = .ok (.invokestatic 147, 3) := by decide +kernel
theorem dX6_partsAfter_9 : decode cX6_partsAfter 9 = .ok (.ifCond .ne 7, 3) := by decide +kernel
theorem dX6_partsAfter_12 : decode cX6_partsAfter 12 = .ok (.iconst 1, 1) := by decide +kernel
theorem dX6_partsAfter_13 : decode cX6_partsAfter 13 = .ok (.goto 30, 3) := by decide +kernel
theorem dX6_partsAfter_16 : decode cX6_partsAfter 16 = .ok (.iload_n 2, 1) := by decide +kernel
theorem dX6_partsAfter_17 : decode cX6_partsAfter 17 = .ok (.invokestatic 189, 3) := by decide +kernel
theorem dX6_partsAfter_20 : decode cX6_partsAfter 20 = .ok (.ifCond .ne 7, 3) := by decide +kernel
theorem dX6_partsAfter_23 : decode cX6_partsAfter 23 = .ok (.iconst 2, 1) := by decide +kernel
theorem dX6_partsAfter_24 : decode cX6_partsAfter 24 = .ok (.goto 19, 3) := by decide +kernel
theorem dX6_partsAfter_27 : decode cX6_partsAfter 27 = .ok (.aload_n 0, 1) := by decide +kernel
theorem dX6_partsAfter_28 : decode cX6_partsAfter 28 = .ok (.getfield 16, 3) := by decide +kernel
theorem dX6_partsAfter_31 : decode cX6_partsAfter 31 = .ok (.iload_n 1, 1) := by decide +kernel
theorem dX6_partsAfter_32 : decode cX6_partsAfter 32 = .ok (.invokestatic 60, 3) := by decide +kernel
theorem dX6_partsAfter_35 : decode cX6_partsAfter 35 = .ok (.ifCond .eq 7, 3) := by decide +kernel
theorem dX6_partsAfter_38 : decode cX6_partsAfter 38 = .ok (.iconst 3, 1) := by decide +kernel
theorem dX6_partsAfter_39 : decode cX6_partsAfter 39 = .ok (.goto 4, 3) := by decide +kernel
theorem dX6_partsAfter_42 : decode cX6_partsAfter 42 = .ok (.iconst 0, 1) := by decide +kernel
theorem dX6_partsAfter_43 : decode cX6_partsAfter 43 = .ok (.invokevirtual 111, 3) := by decide +kernel
theorem dX6_partsAfter_46 : decode cX6_partsAfter 46 = .ok (.ifCond .eq 5, 3) := by decide +kernel
theorem dX6_partsAfter_49 : decode cX6_partsAfter 49 = .ok (.iconst 0, 1) := by decide +kernel
theorem dX6_partsAfter_50 : decode cX6_partsAfter 50 = .ok (.ireturn, 1) := by decide +kernel
theorem dX6_partsAfter_51 : decode cX6_partsAfter 51 = .ok (.aload_n 0, 1) := by decide +kernel
theorem dX6_partsAfter_52 : decode cX6_partsAfter 52 = .ok (.getfield 16, 3) := by decide +kernel
theorem dX6_partsAfter_55 : decode cX6_partsAfter 55 = .ok (.iconst 0, 1) := by decide +kernel
theorem dX6_partsAfter_56 : decode cX6_partsAfter 56 = .ok (.aload_n 0, 1) := by decide +kernel
theorem dX6_partsAfter_57 : decode cX6_partsAfter 57 = .ok (.getfield 19, 3) := by decide +kernel
theorem dX6_partsAfter_60 : decode cX6_partsAfter 60 = .ok (.iconst 0, 1) := by decide +kernel
theorem dX6_partsAfter_61 : decode cX6_partsAfter 61 = .ok (.invokestatic 131, 3) := by decide +kernel
theorem dX6_partsAfter_64 : decode cX6_partsAfter 64 = .ok (.iconst 0, 1) := by decide +kernel
theorem dX6_partsAfter_65 : decode cX6_partsAfter 65 = .ok (.istore_n 3, 1) := by decide +kernel
theorem dX6_partsAfter_66 : decode cX6_partsAfter 66 = .ok (.iload_n 3, 1) := by decide +kernel
theorem dX6_partsAfter_67 : decode cX6_partsAfter 67 = .ok (.bipush 100, 2) := by decide +kernel
theorem dX6_partsAfter_69 : decode cX6_partsAfter 69 = .ok (.if_icmp .gt 30, 3) := by decide +kernel
theorem dX6_partsAfter_72 : decode cX6_partsAfter 72 = .ok (.aload_n 0, 1) := by decide +kernel
theorem dX6_partsAfter_73 : decode cX6_partsAfter 73 = .ok (.getfield 19, 3) := by decide +kernel
theorem dX6_partsAfter_76 : decode cX6_partsAfter 76 = .ok (.iload_n 1, 1) := by decide +kernel
theorem dX6_partsAfter_77 : decode cX6_partsAfter 77 = .ok (.invokestatic 60, 3) := by decide +kernel
theorem dX6_partsAfter_80 : decode cX6_partsAfter 80 = .ok (.ifCond .eq 5, 3) := by decide +kernel
theorem dX6_partsAfter_83 : decode cX6_partsAfter 83 = .ok (.iload_n 3, 1) := by decide +kernel
theorem dX6_partsAfter_84 : decode cX6_partsAfter 84 = .ok (.ireturn, 1) := by decide +kernel
theorem dX6_partsAfter_85 : decode cX6_partsAfter 85 = .ok (.aload_n 0, 1) := by decide +kernel
theorem dX6_partsAfter_86 : decode cX6_partsAfter 86 = .ok (.getfield 19, 3) := by decide +kernel
theorem dX6_partsAfter_89 : decode cX6_partsAfter 89 = .ok (.iload_n 2, 1) := by decide +kernel
theorem dX6_partsAfter_90 : decode cX6_partsAfter 90 = .ok (.invokestatic 192, 3) := by decide +kernel
theorem dX6_partsAfter_93 : decode cX6_partsAfter 93 = .ok (.iinc 3 1, 3) := by decide +kernel
theorem dX6_partsAfter_96 : decode cX6_partsAfter 96 = .ok (.goto (-30), 3) := by decide +kernel
theorem dX6_partsAfter_99 : decode cX6_partsAfter 99 = .ok (.sipush (-9999), 3) := by decide +kernel
theorem dX6_partsAfter_102 : decode cX6_partsAfter 102 = .ok (.ireturn, 1) := by decide +kernel
set_option maxRecDepth 20000 in
theorem ggX6_does_X6_isMember : GoodIn wsX6_does wsX6_isMember := goodIn_r _ [6, 7, 8, 5, 9] (by decide +kernel) (by decide +kernel)
set_option maxRecDepth 20000 in
theorem gX6_does_X6_isMember : GoodIn wsX6_does (va_wsS RX6 147 yX6_isMember wsX6_isMember) := goodIn_app (goodIn_of _ (by decide +kernel)) ggX6_does_X6_isMember
set_option maxRecDepth 20000 in
theorem ggX6_does_X6_canPair : GoodIn wsX6_does wsX6_canPair := goodIn_r _ [12, 13, 14, 5, 15, 16, 17, 18, 19, 20, 21, 22, 23, 24] (by decide +kernel) (by decide +kernel)
set_option maxRecDepth 20000 in
theorem gX6_does_X6_canPair : GoodIn wsX6_does (va_wsS RX6 176 yX6_canPair wsX6_canPair) := goodIn_app (goodIn_of _ (by decide +kernel)) ggX6_does_X6_canPair
set_option maxRecDepth 20000 in
theorem ggX6_does_X6_pairOn : GoodIn wsX6_does wsX6_pairOn := goodIn_r _ [27, 28, 29, 5, 30, 16, 17, 18, 31, 32, 33] (by decide +kernel) (by decide +kernel)
set_option maxRecDepth 20000 in
theorem gX6_does_X6_pairOn : GoodIn wsX6_does (va_wsS RX6 81 yX6_pairOn wsX6_pairOn) := goodIn_app (goodIn_of _ (by decide +kernel)) ggX6_does_X6_pairOn
set_option maxRecDepth 20000 in
theorem ggX6_does_X6_isFree : GoodIn wsX6_does wsX6_isFree := goodIn_r _ [15, 16, 17, 5, 18] (by decide +kernel) (by decide +kernel)
set_option maxRecDepth 20000 in
theorem gX6_does_X6_isFree : GoodIn wsX6_does (va_wsS RX6 60 yX6_isFree wsX6_isFree) := goodIn_app (goodIn_of _ (by decide +kernel)) ggX6_does_X6_isFree
set_option maxRecDepth 20000 in
theorem ggX6_does_X6_partOn : GoodIn wsX6_does wsX6_partOn := goodIn_r _ [30, 16, 17, 5, 18, 31, 32, 33] (by decide +kernel) (by decide +kernel)
set_option maxRecDepth 20000 in
theorem gX6_does_X6_partOn : GoodIn wsX6_does (va_wsS RX6 75 yX6_partOn wsX6_partOn) := goodIn_app (goodIn_of _ (by decide +kernel)) ggX6_does_X6_partOn
set_option maxRecDepth 20000 in
theorem ggX6_does_X6_matchOn : GoodIn wsX6_does wsX6_matchOn := goodIn_r _ [36, 13, 14, 5, 15, 16, 17, 18, 19, 20, 21, 22, 23, 24, 37, 38, 39, 40, 41, 42, 43, 44, 45, 25, 26, 27, 28, 29, 30, 31, 32, 33] (by decide +kernel) (by decide +kernel)
set_option maxRecDepth 20000 in
theorem gX6_does_X6_matchOn : GoodIn wsX6_does (va_wsS RX6 179 yX6_matchOn wsX6_matchOn) := goodIn_app (goodIn_of _ (by decide +kernel)) ggX6_does_X6_matchOn
set_option maxRecDepth 20000 in
theorem ggX6_does_X6_in : GoodIn wsX6_does wsX6_in := goodIn_r _ [9] (by decide +kernel) (by decide +kernel)
set_option maxRecDepth 20000 in
theorem gX6_does_X6_in : GoodIn wsX6_does (va_wsS RX6 42 yX6_in wsX6_in) := goodIn_app (goodIn_of _ (by decide +kernel)) ggX6_does_X6_in
set_option maxRecDepth 20000 in
theorem ggX6_does_X6_settleOn : GoodIn wsX6_does wsX6_settleOn := goodIn_r _ [48, 49, 50, 5, 51, 52, 53, 54, 19, 20, 21, 22, 23, 24, 16, 17, 18, 55, 56, 57, 13, 14, 15, 40, 41, 42, 43, 44, 45, 25, 26, 27, 28, 29, 30, 31, 32, 33] (by decide +kernel) (by decide +kernel)
set_option maxRecDepth 20000 in
theorem gX6_does_X6_settleOn : GoodIn wsX6_does (va_wsS RX6 184 yX6_settleOn wsX6_settleOn) := goodIn_app (goodIn_of _ (by decide +kernel)) ggX6_does_X6_settleOn
set_option maxRecDepth 20000 in
theorem ggX6_does_X6_isAbsent : GoodIn wsX6_does wsX6_isAbsent := goodIn_r _ [60, 61, 7, 8, 5, 9] (by decide +kernel) (by decide +kernel)
set_option maxRecDepth 20000 in
theorem gX6_does_X6_isAbsent : GoodIn wsX6_does (va_wsS RX6 189 yX6_isAbsent wsX6_isAbsent) := goodIn_app (goodIn_of _ (by decide +kernel)) ggX6_does_X6_isAbsent
set_option maxRecDepth 20000 in
theorem ggX6_does_X6_weekOn : GoodIn wsX6_does wsX6_weekOn := goodIn_r _ [64, 16, 17, 5, 18, 65, 66, 67, 68, 69, 70, 71, 72, 73, 22, 23, 24, 74, 75, 76, 19, 20, 21, 28, 29, 30, 31, 32, 33] (by decide +kernel) (by decide +kernel)
set_option maxRecDepth 20000 in
theorem gX6_does_X6_weekOn : GoodIn wsX6_does (va_wsS RX6 192 yX6_weekOn wsX6_weekOn) := goodIn_app (goodIn_of _ (by decide +kernel)) ggX6_does_X6_weekOn
set_option maxRecDepth 20000 in
theorem ggX6_does_X6_isTongue : GoodIn wsX6_does wsX6_isTongue := goodIn_r _ [79, 80, 7, 8, 5, 9] (by decide +kernel) (by decide +kernel)
set_option maxRecDepth 20000 in
theorem gX6_does_X6_isTongue : GoodIn wsX6_does (va_wsS RX6 166 yX6_isTongue wsX6_isTongue) := goodIn_app (goodIn_of _ (by decide +kernel)) ggX6_does_X6_isTongue
set_option maxRecDepth 20000 in
theorem ggX6_does_X6_testOn : GoodIn wsX6_does wsX6_testOn := goodIn_r _ [83, 16, 17, 5, 18, 84, 85, 86, 19, 20, 21, 22, 23, 24, 28, 29, 30, 31, 32, 33] (by decide +kernel) (by decide +kernel)
set_option maxRecDepth 20000 in
theorem gX6_does_X6_testOn : GoodIn wsX6_does (va_wsS RX6 172 yX6_testOn wsX6_testOn) := goodIn_app (goodIn_of _ (by decide +kernel)) ggX6_does_X6_testOn
set_option maxRecDepth 20000 in
theorem ggX6_does_X6_at : GoodIn wsX6_does wsX6_at := goodIn_r _ [18] (by decide +kernel) (by decide +kernel)
set_option maxRecDepth 20000 in
theorem gX6_does_X6_at : GoodIn wsX6_does (va_wsS RX6 46 yX6_at wsX6_at) := goodIn_app (goodIn_of _ (by decide +kernel)) ggX6_does_X6_at
set_option maxRecDepth 20000 in
theorem ggX6_does_X6_over : GoodIn wsX6_does wsX6_over := goodIn_r _ [89, 16, 17, 5, 18, 37, 38, 39, 40, 41, 42, 22, 23, 24, 43, 44, 45, 52, 53, 54, 19, 20, 21, 55, 56, 57, 13, 14, 15] (by decide +kernel) (by decide +kernel)
set_option maxRecDepth 20000 in
theorem gX6_does_X6_over : GoodIn wsX6_does (va_wsS RX6 140 yX6_over wsX6_over) := goodIn_app (goodIn_of _ (by decide +kernel)) ggX6_does_X6_over
theorem dX6_does_0 : decode cX6_does 0 = .ok (.aload_n 0, 1) := by decide +kernel
theorem dX6_does_1 : decode cX6_does 1 = .ok (.getfield 19, 3) := by decide +kernel
theorem dX6_does_4 : decode cX6_does 4 = .ok (.iload_n 2, 1) := by decide +kernel
theorem dX6_does_5 : decode cX6_does 5 = .ok (.invokestatic 147, 3) := by decide +kernel
theorem dX6_does_8 : decode cX6_does 8 = .ok (.istore 5, 2) := by decide +kernel
theorem dX6_does_10 : decode cX6_does 10 = .ok (.iload 5, 2) := by decide +kernel
theorem dX6_does_12 : decode cX6_does 12 = .ok (.ifCond .eq 18, 3) := by decide +kernel
theorem dX6_does_15 : decode cX6_does 15 = .ok (.aload_n 0, 1) := by decide +kernel
theorem dX6_does_16 : decode cX6_does 16 = .ok (.getfield 19, 3) := by decide +kernel
theorem dX6_does_19 : decode cX6_does 19 = .ok (.iload_n 3, 1) := by decide +kernel
theorem dX6_does_20 : decode cX6_does 20 = .ok (.invokestatic 147, 3) := by decide +kernel
theorem dX6_does_23 : decode cX6_does 23 = .ok (.ifCond .eq 7, 3) := by decide +kernel
theorem dX6_does_26 : decode cX6_does 26 = .ok (.iconst 1, 1) := by decide +kernel
theorem dX6_does_27 : decode cX6_does 27 = .ok (.goto 4, 3) := by decide +kernel
theorem dX6_does_30 : decode cX6_does 30 = .ok (.iconst 0, 1) := by decide +kernel
theorem dX6_does_31 : decode cX6_does 31 = .ok (.istore 6, 2) := by decide +kernel
theorem dX6_does_33 : decode cX6_does 33 = .ok (.bipush 10, 2) := by decide +kernel
theorem dX6_does_35 : decode cX6_does 35 = .ok (.iload_n 3, 1) := by decide +kernel
theorem dX6_does_36 : decode cX6_does 36 = .ok (.imul, 1) := by decide +kernel
theorem dX6_does_37 : decode cX6_does 37 = .ok (.iload 4, 2) := by decide +kernel
theorem dX6_does_39 : decode cX6_does 39 = .ok (.iadd, 1) := by decide +kernel
theorem dX6_does_40 : decode cX6_does 40 = .ok (.istore 7, 2) := by decide +kernel
theorem dX6_does_42 : decode cX6_does 42 = .ok (.iload_n 1, 1) := by decide +kernel
theorem dX6_does_43 : decode cX6_does 43 = .ok (.tableswitch 341 1 9 #[49, 89, 122, 147, 182, 213, 248, 280, 307], 49) := by decide +kernel
theorem dX6_does_92 : decode cX6_does 92 = .ok (.iload 6, 2) := by decide +kernel
theorem dX6_does_94 : decode cX6_does 94 = .ok (.ifCond .eq 25, 3) := by decide +kernel
theorem dX6_does_97 : decode cX6_does 97 = .ok (.iload 4, 2) := by decide +kernel
theorem dX6_does_99 : decode cX6_does 99 = .ok (.ifCond .ne 20, 3) := by decide +kernel
theorem dX6_does_102 : decode cX6_does 102 = .ok (.iload_n 2, 1) := by decide +kernel
theorem dX6_does_103 : decode cX6_does 103 = .ok (.iload_n 3, 1) := by decide +kernel
theorem dX6_does_104 : decode cX6_does 104 = .ok (.if_icmp .eq 15, 3) := by decide +kernel
theorem dX6_does_107 : decode cX6_does 107 = .ok (.aload_n 0, 1) := by decide +kernel
theorem dX6_does_108 : decode cX6_does 108 = .ok (.getfield 19, 3) := by decide +kernel
theorem dX6_does_111 : decode cX6_does 111 = .ok (.iload_n 2, 1) := by decide +kernel
theorem dX6_does_112 : decode cX6_does 112 = .ok (.iload_n 3, 1) := by decide +kernel
theorem dX6_does_113 : decode cX6_does 113 = .ok (.invokestatic 176, 3) := by decide +kernel
theorem dX6_does_116 : decode cX6_does 116 = .ok (.ifCond .ne 5, 3) := by decide +kernel
theorem dX6_does_119 : decode cX6_does 119 = .ok (.iconst 0, 1) := by decide +kernel
theorem dX6_does_120 : decode cX6_does 120 = .ok (.ireturn, 1) := by decide +kernel
theorem dX6_does_121 : decode cX6_does 121 = .ok (.aload_n 0, 1) := by decide +kernel
theorem dX6_does_122 : decode cX6_does 122 = .ok (.getfield 19, 3) := by decide +kernel
theorem dX6_does_125 : decode cX6_does 125 = .ok (.iload_n 2, 1) := by decide +kernel
theorem dX6_does_126 : decode cX6_does 126 = .ok (.iload_n 3, 1) := by decide +kernel
theorem dX6_does_127 : decode cX6_does 127 = .ok (.invokestatic 81, 3) := by decide +kernel
theorem dX6_does_130 : decode cX6_does 130 = .ok (.iconst 1, 1) := by decide +kernel
theorem dX6_does_131 : decode cX6_does 131 = .ok (.ireturn, 1) := by decide +kernel
theorem dX6_does_132 : decode cX6_does 132 = .ok (.iload 5, 2) := by decide +kernel
theorem dX6_does_134 : decode cX6_does 134 = .ok (.ifCond .eq 19, 3) := by decide +kernel
theorem dX6_does_137 : decode cX6_does 137 = .ok (.iload 7, 2) := by decide +kernel
theorem dX6_does_139 : decode cX6_does 139 = .ok (.ifCond .ne 14, 3) := by decide +kernel
theorem dX6_does_142 : decode cX6_does 142 = .ok (.aload_n 0, 1) := by decide +kernel
theorem dX6_does_143 : decode cX6_does 143 = .ok (.getfield 19, 3) := by decide +kernel
theorem dX6_does_146 : decode cX6_does 146 = .ok (.iload_n 2, 1) := by decide +kernel
theorem dX6_does_147 : decode cX6_does 147 = .ok (.invokestatic 60, 3) := by decide +kernel
theorem dX6_does_150 : decode cX6_does 150 = .ok (.ifCond .eq 5, 3) := by decide +kernel
theorem dX6_does_153 : decode cX6_does 153 = .ok (.iconst 0, 1) := by decide +kernel
theorem dX6_does_154 : decode cX6_does 154 = .ok (.ireturn, 1) := by decide +kernel
theorem dX6_does_155 : decode cX6_does 155 = .ok (.aload_n 0, 1) := by decide +kernel
theorem dX6_does_156 : decode cX6_does 156 = .ok (.getfield 19, 3) := by decide +kernel
theorem dX6_does_159 : decode cX6_does 159 = .ok (.iload_n 2, 1) := by decide +kernel
theorem dX6_does_160 : decode cX6_does 160 = .ok (.invokestatic 75, 3) := by decide +kernel
theorem dX6_does_163 : decode cX6_does 163 = .ok (.iconst 1, 1) := by decide +kernel
theorem dX6_does_164 : decode cX6_does 164 = .ok (.ireturn, 1) := by decide +kernel
theorem dX6_does_165 : decode cX6_does 165 = .ok (.iload_n 2, 1) := by decide +kernel
theorem dX6_does_166 : decode cX6_does 166 = .ok (.ifCond .ne 22, 3) := by decide +kernel
theorem dX6_does_169 : decode cX6_does 169 = .ok (.iload 7, 2) := by decide +kernel
theorem dX6_does_171 : decode cX6_does 171 = .ok (.ifCond .ne 17, 3) := by decide +kernel
theorem dX6_does_174 : decode cX6_does 174 = .ok (.aload_n 0, 1) := by decide +kernel
theorem dX6_does_175 : decode cX6_does 175 = .ok (.getfield 19, 3) := by decide +kernel
theorem dX6_does_178 : decode cX6_does 178 = .ok (.invokestatic 179, 3) := by decide +kernel
theorem dX6_does_181 : decode cX6_does 181 = .ok (.ifCond .lt 7, 3) := by decide +kernel
theorem dX6_does_184 : decode cX6_does 184 = .ok (.iconst 1, 1) := by decide +kernel
theorem dX6_does_185 : decode cX6_does 185 = .ok (.goto 4, 3) := by decide +kernel
theorem dX6_does_188 : decode cX6_does 188 = .ok (.iconst 0, 1) := by decide +kernel
theorem dX6_does_189 : decode cX6_does 189 = .ok (.ireturn, 1) := by decide +kernel
theorem dX6_does_190 : decode cX6_does 190 = .ok (.iload_n 2, 1) := by decide +kernel
theorem dX6_does_191 : decode cX6_does 191 = .ok (.ifCond .ne 32, 3) := by decide +kernel
theorem dX6_does_194 : decode cX6_does 194 = .ok (.iload 7, 2) := by decide +kernel
theorem dX6_does_196 : decode cX6_does 196 = .ok (.i2l, 1) := by decide +kernel
theorem dX6_does_197 : decode cX6_does 197 = .ok (.lconst 1, 1) := by decide +kernel
theorem dX6_does_198 : decode cX6_does 198 = .ok (.ldc2_w 182, 3) := by decide +kernel
theorem dX6_does_201 : decode cX6_does 201 = .ok (.invokestatic 42, 3) := by decide +kernel
theorem dX6_does_204 : decode cX6_does 204 = .ok (.ifCond .eq 19, 3) := by decide +kernel
theorem dX6_does_207 : decode cX6_does 207 = .ok (.aload_n 0, 1) := by decide +kernel
theorem dX6_does_208 : decode cX6_does 208 = .ok (.getfield 19, 3) := by decide +kernel
theorem dX6_does_211 : decode cX6_does 211 = .ok (.iload 7, 2) := by decide +kernel
theorem dX6_does_213 : decode cX6_does 213 = .ok (.invokestatic 184, 3) := by decide +kernel
theorem dX6_does_216 : decode cX6_does 216 = .ok (.ifCond .lt 7, 3) := by decide +kernel
theorem dX6_does_219 : decode cX6_does 219 = .ok (.iconst 1, 1) := by decide +kernel
theorem dX6_does_220 : decode cX6_does 220 = .ok (.goto 4, 3) := by decide +kernel
theorem dX6_does_223 : decode cX6_does 223 = .ok (.iconst 0, 1) := by decide +kernel
theorem dX6_does_224 : decode cX6_does 224 = .ok (.ireturn, 1) := by decide +kernel
theorem dX6_does_225 : decode cX6_does 225 = .ok (.bipush 100, 2) := by decide +kernel
theorem dX6_does_227 : decode cX6_does 227 = .ok (.iload_n 2, 1) := by decide +kernel
theorem dX6_does_228 : decode cX6_does 228 = .ok (.imul, 1) := by decide +kernel
theorem dX6_does_229 : decode cX6_does 229 = .ok (.iload 7, 2) := by decide +kernel
theorem dX6_does_231 : decode cX6_does 231 = .ok (.iadd, 1) := by decide +kernel
theorem dX6_does_232 : decode cX6_does 232 = .ok (.invokestatic 189, 3) := by decide +kernel
theorem dX6_does_235 : decode cX6_does 235 = .ok (.ifCond .ne 5, 3) := by decide +kernel
theorem dX6_does_238 : decode cX6_does 238 = .ok (.iconst 0, 1) := by decide +kernel
theorem dX6_does_239 : decode cX6_does 239 = .ok (.ireturn, 1) := by decide +kernel
theorem dX6_does_240 : decode cX6_does 240 = .ok (.aload_n 0, 1) := by decide +kernel
theorem dX6_does_241 : decode cX6_does 241 = .ok (.getfield 19, 3) := by decide +kernel
theorem dX6_does_244 : decode cX6_does 244 = .ok (.bipush 100, 2) := by decide +kernel
theorem dX6_does_246 : decode cX6_does 246 = .ok (.iload_n 2, 1) := by decide +kernel
theorem dX6_does_247 : decode cX6_does 247 = .ok (.imul, 1) := by decide +kernel
theorem dX6_does_248 : decode cX6_does 248 = .ok (.iload 7, 2) := by decide +kernel
theorem dX6_does_250 : decode cX6_does 250 = .ok (.iadd, 1) := by decide +kernel
theorem dX6_does_251 : decode cX6_does 251 = .ok (.invokestatic 192, 3) := by decide +kernel
theorem dX6_does_254 : decode cX6_does 254 = .ok (.iconst 1, 1) := by decide +kernel
theorem dX6_does_255 : decode cX6_does 255 = .ok (.ireturn, 1) := by decide +kernel
theorem dX6_does_256 : decode cX6_does 256 = .ok (.iload 5, 2) := by decide +kernel
theorem dX6_does_258 : decode cX6_does 258 = .ok (.ifCond .eq 31, 3) := by decide +kernel
theorem dX6_does_261 : decode cX6_does 261 = .ok (.iload_n 3, 1) := by decide +kernel
theorem dX6_does_262 : decode cX6_does 262 = .ok (.invokestatic 166, 3) := by decide +kernel
theorem dX6_does_265 : decode cX6_does 265 = .ok (.ifCond .eq 24, 3) := by decide +kernel
theorem dX6_does_268 : decode cX6_does 268 = .ok (.aload_n 0, 1) := by decide +kernel
theorem dX6_does_269 : decode cX6_does 269 = .ok (.getfield 19, 3) := by decide +kernel
theorem dX6_does_272 : decode cX6_does 272 = .ok (.iload_n 2, 1) := by decide +kernel
theorem dX6_does_273 : decode cX6_does 273 = .ok (.iload_n 3, 1) := by decide +kernel
theorem dX6_does_274 : decode cX6_does 274 = .ok (.bipush 10, 2) := by decide +kernel
theorem dX6_does_276 : decode cX6_does 276 = .ok (.iload 4, 2) := by decide +kernel
theorem dX6_does_278 : decode cX6_does 278 = .ok (.imul, 1) := by decide +kernel
theorem dX6_does_279 : decode cX6_does 279 = .ok (.invokestatic 172, 3) := by decide +kernel
theorem dX6_does_282 : decode cX6_does 282 = .ok (.ifCond .lt 7, 3) := by decide +kernel
theorem dX6_does_285 : decode cX6_does 285 = .ok (.iconst 1, 1) := by decide +kernel
theorem dX6_does_286 : decode cX6_does 286 = .ok (.goto 4, 3) := by decide +kernel
theorem dX6_does_289 : decode cX6_does 289 = .ok (.iconst 0, 1) := by decide +kernel
theorem dX6_does_290 : decode cX6_does 290 = .ok (.ireturn, 1) := by decide +kernel
theorem dX6_does_291 : decode cX6_does 291 = .ok (.iload 6, 2) := by decide +kernel
theorem dX6_does_293 : decode cX6_does 293 = .ok (.ifCond .eq 28, 3) := by decide +kernel
theorem dX6_does_296 : decode cX6_does 296 = .ok (.iload 4, 2) := by decide +kernel
theorem dX6_does_298 : decode cX6_does 298 = .ok (.ifCond .ne 23, 3) := by decide +kernel
theorem dX6_does_301 : decode cX6_does 301 = .ok (.aload_n 0, 1) := by decide +kernel
theorem dX6_does_302 : decode cX6_does 302 = .ok (.getfield 19, 3) := by decide +kernel
theorem dX6_does_305 : decode cX6_does 305 = .ok (.iload_n 2, 1) := by decide +kernel
theorem dX6_does_306 : decode cX6_does 306 = .ok (.invokestatic 46, 3) := by decide +kernel
theorem dX6_does_309 : decode cX6_does 309 = .ok (.bipush 8, 2) := by decide +kernel
theorem dX6_does_311 : decode cX6_does 311 = .ok (.iadd, 1) := by decide +kernel
theorem dX6_does_312 : decode cX6_does 312 = .ok (.iaload, 1) := by decide +kernel
theorem dX6_does_313 : decode cX6_does 313 = .ok (.iload_n 3, 1) := by decide +kernel
theorem dX6_does_314 : decode cX6_does 314 = .ok (.if_icmp .ne 7, 3) := by decide +kernel
theorem dX6_does_317 : decode cX6_does 317 = .ok (.iconst 1, 1) := by decide +kernel
theorem dX6_does_318 : decode cX6_does 318 = .ok (.goto 4, 3) := by decide +kernel
theorem dX6_does_321 : decode cX6_does 321 = .ok (.iconst 0, 1) := by decide +kernel
theorem dX6_does_322 : decode cX6_does 322 = .ok (.ireturn, 1) := by decide +kernel
theorem dX6_does_323 : decode cX6_does 323 = .ok (.iload_n 2, 1) := by decide +kernel
theorem dX6_does_324 : decode cX6_does 324 = .ok (.ifCond .ne 24, 3) := by decide +kernel
theorem dX6_does_327 : decode cX6_does 327 = .ok (.iload_n 3, 1) := by decide +kernel
theorem dX6_does_328 : decode cX6_does 328 = .ok (.ifCond .ne 20, 3) := by decide +kernel
theorem dX6_does_331 : decode cX6_does 331 = .ok (.aload_n 0, 1) := by decide +kernel
theorem dX6_does_332 : decode cX6_does 332 = .ok (.getfield 19, 3) := by decide +kernel
theorem dX6_does_335 : decode cX6_does 335 = .ok (.iconst 0, 1) := by decide +kernel
theorem dX6_does_336 : decode cX6_does 336 = .ok (.invokestatic 140, 3) := by decide +kernel
theorem dX6_does_339 : decode cX6_does 339 = .ok (.iload 4, 2) := by decide +kernel
theorem dX6_does_341 : decode cX6_does 341 = .ok (.if_icmp .ne 7, 3) := by decide +kernel
theorem dX6_does_344 : decode cX6_does 344 = .ok (.iconst 1, 1) := by decide +kernel
theorem dX6_does_345 : decode cX6_does 345 = .ok (.goto 4, 3) := by decide +kernel
theorem dX6_does_348 : decode cX6_does 348 = .ok (.iconst 0, 1) := by decide +kernel
theorem dX6_does_349 : decode cX6_does 349 = .ok (.ireturn, 1) := by decide +kernel
theorem dX6_does_350 : decode cX6_does 350 = .ok (.iload 5, 2) := by decide +kernel
theorem dX6_does_352 : decode cX6_does 352 = .ok (.ifCond .eq 30, 3) := by decide +kernel
theorem dX6_does_355 : decode cX6_does 355 = .ok (.iload_n 3, 1) := by decide +kernel
theorem dX6_does_356 : decode cX6_does 356 = .ok (.invokestatic 166, 3) := by decide +kernel
theorem dX6_does_359 : decode cX6_does 359 = .ok (.ifCond .eq 23, 3) := by decide +kernel
theorem dX6_does_362 : decode cX6_does 362 = .ok (.aload_n 0, 1) := by decide +kernel
theorem dX6_does_363 : decode cX6_does 363 = .ok (.getfield 19, 3) := by decide +kernel
theorem dX6_does_366 : decode cX6_does 366 = .ok (.iload_n 2, 1) := by decide +kernel
theorem dX6_does_367 : decode cX6_does 367 = .ok (.invokestatic 46, 3) := by decide +kernel
theorem dX6_does_370 : decode cX6_does 370 = .ok (.iload_n 3, 1) := by decide +kernel
theorem dX6_does_371 : decode cX6_does 371 = .ok (.iadd, 1) := by decide +kernel
theorem dX6_does_372 : decode cX6_does 372 = .ok (.iaload, 1) := by decide +kernel
theorem dX6_does_373 : decode cX6_does 373 = .ok (.iload 4, 2) := by decide +kernel
theorem dX6_does_375 : decode cX6_does 375 = .ok (.if_icmp .ne 7, 3) := by decide +kernel
theorem dX6_does_378 : decode cX6_does 378 = .ok (.iconst 1, 1) := by decide +kernel
theorem dX6_does_379 : decode cX6_does 379 = .ok (.goto 4, 3) := by decide +kernel
theorem dX6_does_382 : decode cX6_does 382 = .ok (.iconst 0, 1) := by decide +kernel
theorem dX6_does_383 : decode cX6_does 383 = .ok (.ireturn, 1) := by decide +kernel
theorem dX6_does_384 : decode cX6_does 384 = .ok (.iconst 0, 1) := by decide +kernel
theorem dX6_does_385 : decode cX6_does 385 = .ok (.ireturn, 1) := by decide +kernel
set_option maxRecDepth 20000 in
theorem ggX6_runScript_X6_in : GoodIn wsX6_runScript wsX6_in := goodIn_r _ [8] (by decide +kernel) (by decide +kernel)
set_option maxRecDepth 20000 in
theorem gX6_runScript_X6_in : GoodIn wsX6_runScript (va_wsS RX6 42 yX6_in wsX6_in) := goodIn_app (goodIn_of _ (by decide +kernel)) ggX6_runScript_X6_in
set_option maxRecDepth 20000 in
theorem ggX6_runScript_X6_refused : GoodIn wsX6_runScript wsX6_refused := goodIn_r _ [12, 13, 105, 106, 107, 108, 109, 110, 111, 112, 113, 114, 115, 116, 117] (by decide +kernel) (by decide +kernel)
set_option maxRecDepth 20000 in
theorem gX6_runScript_X6_refused : GoodIn wsX6_runScript (wsV RX6 111 RX6 yX6_refused wsX6_refused) := goodIn_app (goodIn_of _ (by decide +kernel)) ggX6_runScript_X6_refused
set_option maxRecDepth 20000 in
theorem ggX6_runScript_X6_copyPage : GoodIn wsX6_runScript wsX6_copyPage := goodIn_r _ [16] (by decide +kernel) (by decide +kernel)
set_option maxRecDepth 20000 in
theorem gX6_runScript_X6_copyPage : GoodIn wsX6_runScript (va_wsS RX6 131 yX6_copyPage wsX6_copyPage) := goodIn_app (goodIn_of _ (by decide +kernel)) ggX6_runScript_X6_copyPage
set_option maxRecDepth 20000 in
theorem ggX6_runScript_X6_does : GoodIn wsX6_runScript wsX6_does := goodIn_r _ [20, 4, 21, 22, 23, 7, 24, 5, 6, 8, 25, 26, 27, 28, 29, 30, 31, 32, 33, 34, 35, 36, 37, 38, 39, 40, 41, 42, 43, 44, 45, 46, 47, 48, 49, 50, 51, 52, 53, 54, 55, 56, 57, 58, 59, 60, 61, 62, 63, 64, 65, 66, 67, 68, 69, 70, 71, 72, 73, 74, 75, 76, 77, 78, 79, 80, 81, 82, 83, 84, 85, 86, 87, 88, 89, 90, 91, 92, 93, 94, 95, 96, 97, 98, 99, 100, 101, 102, 103, 104, 105, 106, 107, 108, 109, 110, 111, 112, 113, 114, 115, 116, 117] (by decide +kernel) (by decide +kernel)
set_option maxRecDepth 20000 in
theorem gX6_runScript_X6_does : GoodIn wsX6_runScript (wsV RX6 207 RX6 yX6_does wsX6_does) := goodIn_app (goodIn_of _ (by decide +kernel)) ggX6_runScript_X6_does
theorem dX6_runScript_0 : decode cX6_runScript 0 = .ok (.lconst 1, 1) := by decide +kernel
theorem dX6_runScript_1 : decode cX6_runScript 1 = .ok (.lstore 4, 2) := by decide +kernel
theorem dX6_runScript_3 : decode cX6_runScript 3 = .ok (.iconst 0, 1) := by decide +kernel
theorem dX6_runScript_4 : decode cX6_runScript 4 = .ok (.istore 6, 2) := by decide +kernel
theorem dX6_runScript_6 : decode cX6_runScript 6 = .ok (.iload 6, 2) := by decide +kernel
theorem dX6_runScript_8 : decode cX6_runScript 8 = .ok (.iload_n 1, 1) := by decide +kernel
theorem dX6_runScript_9 : decode cX6_runScript 9 = .ok (.if_icmp .ge 23, 3) := by decide +kernel
theorem dX6_runScript_12 : decode cX6_runScript 12 = .ok (.iload 6, 2) := by decide +kernel
theorem dX6_runScript_14 : decode cX6_runScript 14 = .ok (.iconst 4, 1) := by decide +kernel
theorem dX6_runScript_15 : decode cX6_runScript 15 = .ok (.if_icmp .ge 17, 3) := by decide +kernel
theorem dX6_runScript_18 : decode cX6_runScript 18 = .ok (.lload 4, 2) := by decide +kernel
theorem dX6_runScript_20 : decode cX6_runScript 20 = .ok (.ldc2_w 203, 3) := by decide +kernel
theorem dX6_runScript_23 : decode cX6_runScript 23 = .ok (.lmul, 1) := by decide +kernel
theorem dX6_runScript_24 : decode cX6_runScript 24 = .ok (.lstore 4, 2) := by decide +kernel
theorem dX6_runScript_26 : decode cX6_runScript 26 = .ok (.iinc 6 1, 3) := by decide +kernel
theorem dX6_runScript_29 : decode cX6_runScript 29 = .ok (.goto (-23), 3) := by decide +kernel
theorem dX6_runScript_32 : decode cX6_runScript 32 = .ok (.aload_n 0, 1) := by decide +kernel
theorem dX6_runScript_33 : decode cX6_runScript 33 = .ok (.iload_n 1, 1) := by decide +kernel
theorem dX6_runScript_34 : decode cX6_runScript 34 = .ok (.i2l, 1) := by decide +kernel
theorem dX6_runScript_35 : decode cX6_runScript 35 = .ok (.lconst 1, 1) := by decide +kernel
theorem dX6_runScript_36 : decode cX6_runScript 36 = .ok (.ldc2_w 205, 3) := by decide +kernel
theorem dX6_runScript_39 : decode cX6_runScript 39 = .ok (.invokestatic 42, 3) := by decide +kernel
theorem dX6_runScript_42 : decode cX6_runScript 42 = .ok (.ifCond .eq 19, 3) := by decide +kernel
theorem dX6_runScript_45 : decode cX6_runScript 45 = .ok (.lload_n 2, 1) := by decide +kernel
theorem dX6_runScript_46 : decode cX6_runScript 46 = .ok (.lconst 0, 1) := by decide +kernel
theorem dX6_runScript_47 : decode cX6_runScript 47 = .ok (.lload 4, 2) := by decide +kernel
theorem dX6_runScript_49 : decode cX6_runScript 49 = .ok (.lconst 1, 1) := by decide +kernel
theorem dX6_runScript_50 : decode cX6_runScript 50 = .ok (.lsub, 1) := by decide +kernel
theorem dX6_runScript_51 : decode cX6_runScript 51 = .ok (.invokestatic 42, 3) := by decide +kernel
theorem dX6_runScript_54 : decode cX6_runScript 54 = .ok (.ifCond .eq 7, 3) := by decide +kernel
theorem dX6_runScript_57 : decode cX6_runScript 57 = .ok (.iconst 0, 1) := by decide +kernel
theorem dX6_runScript_58 : decode cX6_runScript 58 = .ok (.goto 4, 3) := by decide +kernel
theorem dX6_runScript_61 : decode cX6_runScript 61 = .ok (.iconst 1, 1) := by decide +kernel
theorem dX6_runScript_62 : decode cX6_runScript 62 = .ok (.invokevirtual 111, 3) := by decide +kernel
theorem dX6_runScript_65 : decode cX6_runScript 65 = .ok (.ifCond .eq 5, 3) := by decide +kernel
theorem dX6_runScript_68 : decode cX6_runScript 68 = .ok (.iconst 0, 1) := by decide +kernel
theorem dX6_runScript_69 : decode cX6_runScript 69 = .ok (.ireturn, 1) := by decide +kernel
theorem dX6_runScript_70 : decode cX6_runScript 70 = .ok (.aload_n 0, 1) := by decide +kernel
theorem dX6_runScript_71 : decode cX6_runScript 71 = .ok (.getfield 16, 3) := by decide +kernel
theorem dX6_runScript_74 : decode cX6_runScript 74 = .ok (.iconst 0, 1) := by decide +kernel
theorem dX6_runScript_75 : decode cX6_runScript 75 = .ok (.aload_n 0, 1) := by decide +kernel
theorem dX6_runScript_76 : decode cX6_runScript 76 = .ok (.getfield 19, 3) := by decide +kernel
theorem dX6_runScript_79 : decode cX6_runScript 79 = .ok (.iconst 0, 1) := by decide +kernel
theorem dX6_runScript_80 : decode cX6_runScript 80 = .ok (.invokestatic 131, 3) := by decide +kernel
theorem dX6_runScript_83 : decode cX6_runScript 83 = .ok (.lload_n 2, 1) := by decide +kernel
theorem dX6_runScript_84 : decode cX6_runScript 84 = .ok (.lstore 6, 2) := by decide +kernel
theorem dX6_runScript_86 : decode cX6_runScript 86 = .ok (.iconst 0, 1) := by decide +kernel
theorem dX6_runScript_87 : decode cX6_runScript 87 = .ok (.istore 8, 2) := by decide +kernel
theorem dX6_runScript_89 : decode cX6_runScript 89 = .ok (.iload 8, 2) := by decide +kernel
theorem dX6_runScript_91 : decode cX6_runScript 91 = .ok (.iload_n 1, 1) := by decide +kernel
theorem dX6_runScript_92 : decode cX6_runScript 92 = .ok (.if_icmp .ge 69, 3) := by decide +kernel
theorem dX6_runScript_95 : decode cX6_runScript 95 = .ok (.lload 4, 2) := by decide +kernel
theorem dX6_runScript_97 : decode cX6_runScript 97 = .ok (.ldc2_w 203, 3) := by decide +kernel
theorem dX6_runScript_100 : decode cX6_runScript 100 = .ok (.ldiv, 1) := by decide +kernel
theorem dX6_runScript_101 : decode cX6_runScript 101 = .ok (.lstore 4, 2) := by decide +kernel
theorem dX6_runScript_103 : decode cX6_runScript 103 = .ok (.lload 6, 2) := by decide +kernel
theorem dX6_runScript_105 : decode cX6_runScript 105 = .ok (.lload 4, 2) := by decide +kernel
theorem dX6_runScript_107 : decode cX6_runScript 107 = .ok (.ldiv, 1) := by decide +kernel
theorem dX6_runScript_108 : decode cX6_runScript 108 = .ok (.l2i, 1) := by decide +kernel
theorem dX6_runScript_109 : decode cX6_runScript 109 = .ok (.istore 9, 2) := by decide +kernel
theorem dX6_runScript_111 : decode cX6_runScript 111 = .ok (.lload 6, 2) := by decide +kernel
theorem dX6_runScript_113 : decode cX6_runScript 113 = .ok (.lload 4, 2) := by decide +kernel
theorem dX6_runScript_115 : decode cX6_runScript 115 = .ok (.lrem, 1) := by decide +kernel
theorem dX6_runScript_116 : decode cX6_runScript 116 = .ok (.lstore 6, 2) := by decide +kernel
theorem dX6_runScript_118 : decode cX6_runScript 118 = .ok (.aload_n 0, 1) := by decide +kernel
theorem dX6_runScript_119 : decode cX6_runScript 119 = .ok (.iload 9, 2) := by decide +kernel
theorem dX6_runScript_121 : decode cX6_runScript 121 = .ok (.sipush 1000, 3) := by decide +kernel
theorem dX6_runScript_124 : decode cX6_runScript 124 = .ok (.idiv, 1) := by decide +kernel
theorem dX6_runScript_125 : decode cX6_runScript 125 = .ok (.iload 9, 2) := by decide +kernel
theorem dX6_runScript_127 : decode cX6_runScript 127 = .ok (.bipush 100, 2) := by decide +kernel
theorem dX6_runScript_129 : decode cX6_runScript 129 = .ok (.idiv, 1) := by decide +kernel
theorem dX6_runScript_130 : decode cX6_runScript 130 = .ok (.bipush 10, 2) := by decide +kernel
theorem dX6_runScript_132 : decode cX6_runScript 132 = .ok (.irem, 1) := by decide +kernel
theorem dX6_runScript_133 : decode cX6_runScript 133 = .ok (.iload 9, 2) := by decide +kernel
theorem dX6_runScript_135 : decode cX6_runScript 135 = .ok (.bipush 10, 2) := by decide +kernel
theorem dX6_runScript_137 : decode cX6_runScript 137 = .ok (.idiv, 1) := by decide +kernel
theorem dX6_runScript_138 : decode cX6_runScript 138 = .ok (.bipush 10, 2) := by decide +kernel
theorem dX6_runScript_140 : decode cX6_runScript 140 = .ok (.irem, 1) := by decide +kernel
theorem dX6_runScript_141 : decode cX6_runScript 141 = .ok (.iload 9, 2) := by decide +kernel
theorem dX6_runScript_143 : decode cX6_runScript 143 = .ok (.bipush 10, 2) := by decide +kernel
theorem dX6_runScript_145 : decode cX6_runScript 145 = .ok (.irem, 1) := by decide +kernel
theorem dX6_runScript_146 : decode cX6_runScript 146 = .ok (.invokevirtual 207, 3) := by decide +kernel
theorem dX6_runScript_149 : decode cX6_runScript 149 = .ok (.ifCond .ne 6, 3) := by decide +kernel
theorem dX6_runScript_152 : decode cX6_runScript 152 = .ok (.iload 8, 2) := by decide +kernel
theorem dX6_runScript_154 : decode cX6_runScript 154 = .ok (.ireturn, 1) := by decide +kernel
theorem dX6_runScript_155 : decode cX6_runScript 155 = .ok (.iinc 8 1, 3) := by decide +kernel
theorem dX6_runScript_158 : decode cX6_runScript 158 = .ok (.goto (-69), 3) := by decide +kernel
theorem dX6_runScript_161 : decode cX6_runScript 161 = .ok (.sipush (-9999), 3) := by decide +kernel
theorem dX6_runScript_164 : decode cX6_runScript 164 = .ok (.ireturn, 1) := by decide +kernel
set_option maxRecDepth 20000 in
theorem ggX6_simulate_X6_in : GoodIn wsX6_simulate wsX6_in := goodIn_r _ [9] (by decide +kernel) (by decide +kernel)
set_option maxRecDepth 20000 in
theorem gX6_simulate_X6_in : GoodIn wsX6_simulate (va_wsS RX6 42 yX6_in wsX6_in) := goodIn_app (goodIn_of _ (by decide +kernel)) ggX6_simulate_X6_in
set_option maxRecDepth 20000 in
theorem ggX6_simulate_X6_refused : GoodIn wsX6_simulate wsX6_refused := goodIn_r _ [13, 14, 69, 70, 71, 72, 73, 74, 75, 76, 77, 78, 79, 80, 81] (by decide +kernel) (by decide +kernel)
set_option maxRecDepth 20000 in
theorem gX6_simulate_X6_refused : GoodIn wsX6_simulate (wsV RX6 111 RX6 yX6_refused wsX6_refused) := goodIn_app (goodIn_of _ (by decide +kernel)) ggX6_simulate_X6_refused
set_option maxRecDepth 20000 in
theorem ggX6_simulate_X6_copyPage : GoodIn wsX6_simulate wsX6_copyPage := goodIn_r _ [17] (by decide +kernel) (by decide +kernel)
set_option maxRecDepth 20000 in
theorem gX6_simulate_X6_copyPage : GoodIn wsX6_simulate (va_wsS RX6 131 yX6_copyPage wsX6_copyPage) := goodIn_app (goodIn_of _ (by decide +kernel)) ggX6_simulate_X6_copyPage
set_option maxRecDepth 20000 in
theorem ggX6_simulate_X6_matchOn : GoodIn wsX6_simulate wsX6_matchOn := goodIn_r _ [20, 21, 22, 8, 23, 24, 25, 26, 27, 28, 29, 30, 31, 32, 33, 34, 35, 36, 37, 38, 39, 40, 41, 42, 43, 44, 45, 46, 47, 48, 49, 50] (by decide +kernel) (by decide +kernel)
set_option maxRecDepth 20000 in
theorem gX6_simulate_X6_matchOn : GoodIn wsX6_simulate (va_wsS RX6 179 yX6_matchOn wsX6_matchOn) := goodIn_app (goodIn_of _ (by decide +kernel)) ggX6_simulate_X6_matchOn
set_option maxRecDepth 20000 in
theorem ggX6_simulate_X6_weekOn : GoodIn wsX6_simulate wsX6_weekOn := goodIn_r _ [53, 24, 25, 8, 26, 54, 55, 56, 57, 58, 59, 60, 61, 62, 30, 31, 32, 63, 64, 65, 27, 28, 29, 45, 46, 47, 48, 49, 50] (by decide +kernel) (by decide +kernel)
set_option maxRecDepth 20000 in
theorem gX6_simulate_X6_weekOn : GoodIn wsX6_simulate (va_wsS RX6 192 yX6_weekOn wsX6_weekOn) := goodIn_app (goodIn_of _ (by decide +kernel)) ggX6_simulate_X6_weekOn
set_option maxRecDepth 20000 in
theorem ggX6_simulate_X6_creditsOf : GoodIn wsX6_simulate wsX6_creditsOf := goodIn_r _ [68, 24, 25, 8, 26] (by decide +kernel) (by decide +kernel)
set_option maxRecDepth 20000 in
theorem gX6_simulate_X6_creditsOf : GoodIn wsX6_simulate (va_wsS RX6 143 yX6_creditsOf wsX6_creditsOf) := goodIn_app (goodIn_of _ (by decide +kernel)) ggX6_simulate_X6_creditsOf
theorem dX6_simulate_0 : decode cX6_simulate 0 = .ok (.aload_n 0, 1) := by decide +kernel
theorem dX6_simulate_1 : decode cX6_simulate 1 = .ok (.iload_n 3, 1) := by decide +kernel
theorem dX6_simulate_2 : decode cX6_simulate 2 = .ok (.i2l, 1) := by decide +kernel
theorem dX6_simulate_3 : decode cX6_simulate 3 = .ok (.lconst 1, 1) := by decide +kernel
theorem dX6_simulate_4 : decode cX6_simulate 4 = .ok (.ldc2_w 199, 3) := by decide +kernel
theorem dX6_simulate_7 : decode cX6_simulate 7 = .ok (.invokestatic 42, 3) := by decide +kernel
theorem dX6_simulate_10 : decode cX6_simulate 10 = .ok (.ifCond .eq 7, 3) := by decide +kernel
theorem dX6_simulate_13 : decode cX6_simulate 13 = .ok (.iconst 0, 1) := by decide +kernel
theorem dX6_simulate_14 : decode cX6_simulate 14 = .ok (.goto 4, 3) := by decide +kernel
theorem dX6_simulate_17 : decode cX6_simulate 17 = .ok (.iconst 1, 1) := by decide +kernel
theorem dX6_simulate_18 : decode cX6_simulate 18 = .ok (.invokevirtual 111, 3) := by decide +kernel
theorem dX6_simulate_21 : decode cX6_simulate 21 = .ok (.ifCond .eq 5, 3) := by decide +kernel
theorem dX6_simulate_24 : decode cX6_simulate 24 = .ok (.iconst 0, 1) := by decide +kernel
theorem dX6_simulate_25 : decode cX6_simulate 25 = .ok (.ireturn, 1) := by decide +kernel
theorem dX6_simulate_26 : decode cX6_simulate 26 = .ok (.aload_n 0, 1) := by decide +kernel
theorem dX6_simulate_27 : decode cX6_simulate 27 = .ok (.getfield 16, 3) := by decide +kernel
theorem dX6_simulate_30 : decode cX6_simulate 30 = .ok (.iconst 0, 1) := by decide +kernel
theorem dX6_simulate_31 : decode cX6_simulate 31 = .ok (.aload_n 0, 1) := by decide +kernel
theorem dX6_simulate_32 : decode cX6_simulate 32 = .ok (.getfield 19, 3) := by decide +kernel
theorem dX6_simulate_35 : decode cX6_simulate 35 = .ok (.iconst 0, 1) := by decide +kernel
theorem dX6_simulate_36 : decode cX6_simulate 36 = .ok (.invokestatic 131, 3) := by decide +kernel
theorem dX6_simulate_39 : decode cX6_simulate 39 = .ok (.lload_n 1, 1) := by decide +kernel
theorem dX6_simulate_40 : decode cX6_simulate 40 = .ok (.lstore 4, 2) := by decide +kernel
theorem dX6_simulate_42 : decode cX6_simulate 42 = .ok (.iconst 0, 1) := by decide +kernel
theorem dX6_simulate_43 : decode cX6_simulate 43 = .ok (.istore 6, 2) := by decide +kernel
theorem dX6_simulate_45 : decode cX6_simulate 45 = .ok (.iload 6, 2) := by decide +kernel
theorem dX6_simulate_47 : decode cX6_simulate 47 = .ok (.iload_n 3, 1) := by decide +kernel
theorem dX6_simulate_48 : decode cX6_simulate 48 = .ok (.if_icmp .ge 73, 3) := by decide +kernel
theorem dX6_simulate_51 : decode cX6_simulate 51 = .ok (.lload 4, 2) := by decide +kernel
theorem dX6_simulate_53 : decode cX6_simulate 53 = .ok (.ldc2_w 211, 3) := by decide +kernel
theorem dX6_simulate_56 : decode cX6_simulate 56 = .ok (.lmul, 1) := by decide +kernel
theorem dX6_simulate_57 : decode cX6_simulate 57 = .ok (.ldc2_w 213, 3) := by decide +kernel
theorem dX6_simulate_60 : decode cX6_simulate 60 = .ok (.ladd, 1) := by decide +kernel
theorem dX6_simulate_61 : decode cX6_simulate 61 = .ok (.lstore 4, 2) := by decide +kernel
theorem dX6_simulate_63 : decode cX6_simulate 63 = .ok (.lload 4, 2) := by decide +kernel
theorem dX6_simulate_65 : decode cX6_simulate 65 = .ok (.bipush 33, 2) := by decide +kernel
theorem dX6_simulate_67 : decode cX6_simulate 67 = .ok (.lushr, 1) := by decide +kernel
theorem dX6_simulate_68 : decode cX6_simulate 68 = .ok (.l2i, 1) := by decide +kernel
theorem dX6_simulate_69 : decode cX6_simulate 69 = .ok (.istore 7, 2) := by decide +kernel
theorem dX6_simulate_71 : decode cX6_simulate 71 = .ok (.iload 7, 2) := by decide +kernel
theorem dX6_simulate_73 : decode cX6_simulate 73 = .ok (.iconst 4, 1) := by decide +kernel
theorem dX6_simulate_74 : decode cX6_simulate 74 = .ok (.irem, 1) := by decide +kernel
theorem dX6_simulate_75 : decode cX6_simulate 75 = .ok (.ifCond .ne 13, 3) := by decide +kernel
theorem dX6_simulate_78 : decode cX6_simulate 78 = .ok (.aload_n 0, 1) := by decide +kernel
theorem dX6_simulate_79 : decode cX6_simulate 79 = .ok (.getfield 19, 3) := by decide +kernel
theorem dX6_simulate_82 : decode cX6_simulate 82 = .ok (.invokestatic 179, 3) := by decide +kernel
theorem dX6_simulate_85 : decode cX6_simulate 85 = .ok (.goto 4, 3) := by decide +kernel
theorem dX6_simulate_88 : decode cX6_simulate 88 = .ok (.iconst 0, 1) := by decide +kernel
theorem dX6_simulate_89 : decode cX6_simulate 89 = .ok (.istore 8, 2) := by decide +kernel
theorem dX6_simulate_91 : decode cX6_simulate 91 = .ok (.aload_n 0, 1) := by decide +kernel
theorem dX6_simulate_92 : decode cX6_simulate 92 = .ok (.getfield 19, 3) := by decide +kernel
theorem dX6_simulate_95 : decode cX6_simulate 95 = .ok (.iload 8, 2) := by decide +kernel
theorem dX6_simulate_97 : decode cX6_simulate 97 = .ok (.ifCond .lt 14, 3) := by decide +kernel
theorem dX6_simulate_100 : decode cX6_simulate 100 = .ok (.iload 7, 2) := by decide +kernel
theorem dX6_simulate_102 : decode cX6_simulate 102 = .ok (.iconst 4, 1) := by decide +kernel
theorem dX6_simulate_103 : decode cX6_simulate 103 = .ok (.idiv, 1) := by decide +kernel
theorem dX6_simulate_104 : decode cX6_simulate 104 = .ok (.sipush 512, 3) := by decide +kernel
theorem dX6_simulate_107 : decode cX6_simulate 107 = .ok (.irem, 1) := by decide +kernel
theorem dX6_simulate_108 : decode cX6_simulate 108 = .ok (.goto 4, 3) := by decide +kernel
theorem dX6_simulate_111 : decode cX6_simulate 111 = .ok (.iconst 0, 1) := by decide +kernel
theorem dX6_simulate_112 : decode cX6_simulate 112 = .ok (.invokestatic 192, 3) := by decide +kernel
theorem dX6_simulate_115 : decode cX6_simulate 115 = .ok (.iinc 6 1, 3) := by decide +kernel
theorem dX6_simulate_118 : decode cX6_simulate 118 = .ok (.goto (-73), 3) := by decide +kernel
theorem dX6_simulate_121 : decode cX6_simulate 121 = .ok (.aload_n 0, 1) := by decide +kernel
theorem dX6_simulate_122 : decode cX6_simulate 122 = .ok (.getfield 19, 3) := by decide +kernel
theorem dX6_simulate_125 : decode cX6_simulate 125 = .ok (.invokestatic 143, 3) := by decide +kernel
theorem dX6_simulate_128 : decode cX6_simulate 128 = .ok (.ireturn, 1) := by decide +kernel
set_option maxRecDepth 20000 in
theorem ggX6_save_X6_in : GoodIn wsX6_save wsX6_in := goodIn_r _ [7] (by decide +kernel) (by decide +kernel)
set_option maxRecDepth 20000 in
theorem gX6_save_X6_in : GoodIn wsX6_save (va_wsS RX6 42 yX6_in wsX6_in) := goodIn_app (goodIn_of _ (by decide +kernel)) ggX6_save_X6_in
set_option maxRecDepth 20000 in
theorem ggX6_save_X6_refused : GoodIn wsX6_save wsX6_refused := goodIn_r _ [11, 12, 16, 17, 18, 19, 20, 21, 22, 23, 24, 25, 26, 27, 28] (by decide +kernel) (by decide +kernel)
set_option maxRecDepth 20000 in
theorem gX6_save_X6_refused : GoodIn wsX6_save (wsV RX6 111 RX6 yX6_refused wsX6_refused) := goodIn_app (goodIn_of _ (by decide +kernel)) ggX6_save_X6_refused
set_option maxRecDepth 20000 in
theorem ggX6_save_X6_copyPage : GoodIn wsX6_save wsX6_copyPage := goodIn_r _ [15] (by decide +kernel) (by decide +kernel)
set_option maxRecDepth 20000 in
theorem gX6_save_X6_copyPage : GoodIn wsX6_save (va_wsS RX6 131 yX6_copyPage wsX6_copyPage) := goodIn_app (goodIn_of _ (by decide +kernel)) ggX6_save_X6_copyPage
theorem dX6_save_0 : decode cX6_save 0 = .ok (.aload_n 0, 1) := by decide +kernel
theorem dX6_save_1 : decode cX6_save 1 = .ok (.iload_n 1, 1) := by decide +kernel
theorem dX6_save_2 : decode cX6_save 2 = .ok (.i2l, 1) := by decide +kernel
theorem dX6_save_3 : decode cX6_save 3 = .ok (.lconst 0, 1) := by decide +kernel
theorem dX6_save_4 : decode cX6_save 4 = .ok (.lconst 1, 1) := by decide +kernel
theorem dX6_save_5 : decode cX6_save 5 = .ok (.invokestatic 42, 3) := by decide +kernel
theorem dX6_save_8 : decode cX6_save 8 = .ok (.ifCond .eq 7, 3) := by decide +kernel
theorem dX6_save_11 : decode cX6_save 11 = .ok (.iconst 0, 1) := by decide +kernel
theorem dX6_save_12 : decode cX6_save 12 = .ok (.goto 4, 3) := by decide +kernel
theorem dX6_save_15 : decode cX6_save 15 = .ok (.iconst 1, 1) := by decide +kernel
theorem dX6_save_16 : decode cX6_save 16 = .ok (.invokevirtual 111, 3) := by decide +kernel
theorem dX6_save_19 : decode cX6_save 19 = .ok (.ifCond .eq 5, 3) := by decide +kernel
theorem dX6_save_22 : decode cX6_save 22 = .ok (.iconst 0, 1) := by decide +kernel
theorem dX6_save_23 : decode cX6_save 23 = .ok (.ireturn, 1) := by decide +kernel
theorem dX6_save_24 : decode cX6_save 24 = .ok (.aload_n 0, 1) := by decide +kernel
theorem dX6_save_25 : decode cX6_save 25 = .ok (.getfield 28, 3) := by decide +kernel
theorem dX6_save_28 : decode cX6_save 28 = .ok (.iload_n 1, 1) := by decide +kernel
theorem dX6_save_29 : decode cX6_save 29 = .ok (.iconst 1, 1) := by decide +kernel
theorem dX6_save_30 : decode cX6_save 30 = .ok (.bastore, 1) := by decide +kernel
theorem dX6_save_31 : decode cX6_save 31 = .ok (.aload_n 0, 1) := by decide +kernel
theorem dX6_save_32 : decode cX6_save 32 = .ok (.getfield 16, 3) := by decide +kernel
theorem dX6_save_35 : decode cX6_save 35 = .ok (.iconst 0, 1) := by decide +kernel
theorem dX6_save_36 : decode cX6_save 36 = .ok (.aload_n 0, 1) := by decide +kernel
theorem dX6_save_37 : decode cX6_save 37 = .ok (.getfield 25, 3) := by decide +kernel
theorem dX6_save_40 : decode cX6_save 40 = .ok (.bipush 92, 2) := by decide +kernel
theorem dX6_save_42 : decode cX6_save 42 = .ok (.iload_n 1, 1) := by decide +kernel
theorem dX6_save_43 : decode cX6_save 43 = .ok (.imul, 1) := by decide +kernel
theorem dX6_save_44 : decode cX6_save 44 = .ok (.invokestatic 131, 3) := by decide +kernel
theorem dX6_save_47 : decode cX6_save 47 = .ok (.aload_n 0, 1) := by decide +kernel
theorem dX6_save_48 : decode cX6_save 48 = .ok (.getfield 16, 3) := by decide +kernel
theorem dX6_save_51 : decode cX6_save 51 = .ok (.iconst 1, 1) := by decide +kernel
theorem dX6_save_52 : decode cX6_save 52 = .ok (.iaload, 1) := by decide +kernel
theorem dX6_save_53 : decode cX6_save 53 = .ok (.ireturn, 1) := by decide +kernel
set_option maxRecDepth 20000 in
theorem ggX6_restore_X6_in : GoodIn wsX6_restore wsX6_in := goodIn_r _ [8] (by decide +kernel) (by decide +kernel)
set_option maxRecDepth 20000 in
theorem gX6_restore_X6_in : GoodIn wsX6_restore (va_wsS RX6 42 yX6_in wsX6_in) := goodIn_app (goodIn_of _ (by decide +kernel)) ggX6_restore_X6_in
set_option maxRecDepth 20000 in
theorem ggX6_restore_X6_refused : GoodIn wsX6_restore wsX6_refused := goodIn_r _ [12, 13, 17, 18, 19, 20, 21, 22, 23, 24, 25, 26, 27, 28, 29] (by decide +kernel) (by decide +kernel)
set_option maxRecDepth 20000 in
theorem gX6_restore_X6_refused : GoodIn wsX6_restore (wsV RX6 111 RX6 yX6_refused wsX6_refused) := goodIn_app (goodIn_of _ (by decide +kernel)) ggX6_restore_X6_refused
set_option maxRecDepth 20000 in
theorem ggX6_restore_X6_copyPage : GoodIn wsX6_restore wsX6_copyPage := goodIn_r _ [16] (by decide +kernel) (by decide +kernel)
set_option maxRecDepth 20000 in
theorem gX6_restore_X6_copyPage : GoodIn wsX6_restore (va_wsS RX6 131 yX6_copyPage wsX6_copyPage) := goodIn_app (goodIn_of _ (by decide +kernel)) ggX6_restore_X6_copyPage
theorem dX6_restore_0 : decode cX6_restore 0 = .ok (.aload_n 0, 1) := by decide +kernel
theorem dX6_restore_1 : decode cX6_restore 1 = .ok (.iload_n 1, 1) := by decide +kernel
theorem dX6_restore_2 : decode cX6_restore 2 = .ok (.i2l, 1) := by decide +kernel
theorem dX6_restore_3 : decode cX6_restore 3 = .ok (.lconst 0, 1) := by decide +kernel
theorem dX6_restore_4 : decode cX6_restore 4 = .ok (.lconst 1, 1) := by decide +kernel
theorem dX6_restore_5 : decode cX6_restore 5 = .ok (.invokestatic 42, 3) := by decide +kernel
theorem dX6_restore_8 : decode cX6_restore 8 = .ok (.ifCond .ne 7, 3) := by decide +kernel
theorem dX6_restore_11 : decode cX6_restore 11 = .ok (.iconst 1, 1) := by decide +kernel
theorem dX6_restore_12 : decode cX6_restore 12 = .ok (.goto 17, 3) := by decide +kernel
theorem dX6_restore_15 : decode cX6_restore 15 = .ok (.aload_n 0, 1) := by decide +kernel
theorem dX6_restore_16 : decode cX6_restore 16 = .ok (.getfield 28, 3) := by decide +kernel
theorem dX6_restore_19 : decode cX6_restore 19 = .ok (.iload_n 1, 1) := by decide +kernel
theorem dX6_restore_20 : decode cX6_restore 20 = .ok (.baload, 1) := by decide +kernel
theorem dX6_restore_21 : decode cX6_restore 21 = .ok (.ifCond .ne 7, 3) := by decide +kernel
theorem dX6_restore_24 : decode cX6_restore 24 = .ok (.iconst 2, 1) := by decide +kernel
theorem dX6_restore_25 : decode cX6_restore 25 = .ok (.goto 4, 3) := by decide +kernel
theorem dX6_restore_28 : decode cX6_restore 28 = .ok (.iconst 0, 1) := by decide +kernel
theorem dX6_restore_29 : decode cX6_restore 29 = .ok (.invokevirtual 111, 3) := by decide +kernel
theorem dX6_restore_32 : decode cX6_restore 32 = .ok (.ifCond .eq 5, 3) := by decide +kernel
theorem dX6_restore_35 : decode cX6_restore 35 = .ok (.iconst 0, 1) := by decide +kernel
theorem dX6_restore_36 : decode cX6_restore 36 = .ok (.ireturn, 1) := by decide +kernel
theorem dX6_restore_37 : decode cX6_restore 37 = .ok (.aload_n 0, 1) := by decide +kernel
theorem dX6_restore_38 : decode cX6_restore 38 = .ok (.getfield 25, 3) := by decide +kernel
theorem dX6_restore_41 : decode cX6_restore 41 = .ok (.bipush 92, 2) := by decide +kernel
theorem dX6_restore_43 : decode cX6_restore 43 = .ok (.iload_n 1, 1) := by decide +kernel
theorem dX6_restore_44 : decode cX6_restore 44 = .ok (.imul, 1) := by decide +kernel
theorem dX6_restore_45 : decode cX6_restore 45 = .ok (.aload_n 0, 1) := by decide +kernel
theorem dX6_restore_46 : decode cX6_restore 46 = .ok (.getfield 16, 3) := by decide +kernel
theorem dX6_restore_49 : decode cX6_restore 49 = .ok (.iconst 0, 1) := by decide +kernel
theorem dX6_restore_50 : decode cX6_restore 50 = .ok (.invokestatic 131, 3) := by decide +kernel
theorem dX6_restore_53 : decode cX6_restore 53 = .ok (.aload_n 0, 1) := by decide +kernel
theorem dX6_restore_54 : decode cX6_restore 54 = .ok (.iconst 0, 1) := by decide +kernel
theorem dX6_restore_55 : decode cX6_restore 55 = .ok (.putfield 135, 3) := by decide +kernel
theorem dX6_restore_58 : decode cX6_restore 58 = .ok (.aload_n 0, 1) := by decide +kernel
theorem dX6_restore_59 : decode cX6_restore 59 = .ok (.getfield 16, 3) := by decide +kernel
theorem dX6_restore_62 : decode cX6_restore 62 = .ok (.iconst 1, 1) := by decide +kernel
theorem dX6_restore_63 : decode cX6_restore 63 = .ok (.iaload, 1) := by decide +kernel
theorem dX6_restore_64 : decode cX6_restore 64 = .ok (.ireturn, 1) := by decide +kernel
theorem dJ9_floorDiv_7cf53_0 : decode cJ9_floorDiv_7cf53 0 = .ok (.iload_n 0, 1) := by decide +kernel
theorem dJ9_floorDiv_7cf53_1 : decode cJ9_floorDiv_7cf53 1 = .ok (.iload_n 1, 1) := by decide +kernel
theorem dJ9_floorDiv_7cf53_2 : decode cJ9_floorDiv_7cf53 2 = .ok (.idiv, 1) := by decide +kernel
theorem dJ9_floorDiv_7cf53_3 : decode cJ9_floorDiv_7cf53 3 = .ok (.istore_n 2, 1) := by decide +kernel
theorem dJ9_floorDiv_7cf53_4 : decode cJ9_floorDiv_7cf53 4 = .ok (.iload_n 0, 1) := by decide +kernel
theorem dJ9_floorDiv_7cf53_5 : decode cJ9_floorDiv_7cf53 5 = .ok (.iload_n 1, 1) := by decide +kernel
theorem dJ9_floorDiv_7cf53_6 : decode cJ9_floorDiv_7cf53 6 = .ok (.ixor, 1) := by decide +kernel
theorem dJ9_floorDiv_7cf53_7 : decode cJ9_floorDiv_7cf53 7 = .ok (.ifCond .ge 14, 3) := by decide +kernel
theorem dJ9_floorDiv_7cf53_10 : decode cJ9_floorDiv_7cf53 10 = .ok (.iload_n 2, 1) := by decide +kernel
theorem dJ9_floorDiv_7cf53_11 : decode cJ9_floorDiv_7cf53 11 = .ok (.iload_n 1, 1) := by decide +kernel
theorem dJ9_floorDiv_7cf53_12 : decode cJ9_floorDiv_7cf53 12 = .ok (.imul, 1) := by decide +kernel
theorem dJ9_floorDiv_7cf53_13 : decode cJ9_floorDiv_7cf53 13 = .ok (.iload_n 0, 1) := by decide +kernel
theorem dJ9_floorDiv_7cf53_14 : decode cJ9_floorDiv_7cf53 14 = .ok (.if_icmp .eq 7, 3) := by decide +kernel
theorem dJ9_floorDiv_7cf53_17 : decode cJ9_floorDiv_7cf53 17 = .ok (.iload_n 2, 1) := by decide +kernel
theorem dJ9_floorDiv_7cf53_18 : decode cJ9_floorDiv_7cf53 18 = .ok (.iconst 1, 1) := by decide +kernel
theorem dJ9_floorDiv_7cf53_19 : decode cJ9_floorDiv_7cf53 19 = .ok (.isub, 1) := by decide +kernel
theorem dJ9_floorDiv_7cf53_20 : decode cJ9_floorDiv_7cf53 20 = .ok (.ireturn, 1) := by decide +kernel
theorem dJ9_floorDiv_7cf53_21 : decode cJ9_floorDiv_7cf53 21 = .ok (.iload_n 2, 1) := by decide +kernel
theorem dJ9_floorDiv_7cf53_22 : decode cJ9_floorDiv_7cf53 22 = .ok (.ireturn, 1) := by decide +kernel
theorem dJ9_max_7cf53_0 : decode cJ9_max_7cf53 0 = .ok (.iload_n 0, 1) := by decide +kernel
theorem dJ9_max_7cf53_1 : decode cJ9_max_7cf53 1 = .ok (.iload_n 1, 1) := by decide +kernel
theorem dJ9_max_7cf53_2 : decode cJ9_max_7cf53 2 = .ok (.if_icmp .lt 7, 3) := by decide +kernel
theorem dJ9_max_7cf53_5 : decode cJ9_max_7cf53 5 = .ok (.iload_n 0, 1) := by decide +kernel
theorem dJ9_max_7cf53_6 : decode cJ9_max_7cf53 6 = .ok (.goto 4, 3) := by decide +kernel
theorem dJ9_max_7cf53_9 : decode cJ9_max_7cf53 9 = .ok (.iload_n 1, 1) := by decide +kernel
theorem dJ9_max_7cf53_10 : decode cJ9_max_7cf53 10 = .ok (.ireturn, 1) := by decide +kernel
theorem dJ9_min_7cf53_0 : decode cJ9_min_7cf53 0 = .ok (.iload_n 0, 1) := by decide +kernel
theorem dJ9_min_7cf53_1 : decode cJ9_min_7cf53 1 = .ok (.iload_n 1, 1) := by decide +kernel
theorem dJ9_min_7cf53_2 : decode cJ9_min_7cf53 2 = .ok (.if_icmp .gt 7, 3) := by decide +kernel
theorem dJ9_min_7cf53_5 : decode cJ9_min_7cf53 5 = .ok (.iload_n 0, 1) := by decide +kernel
theorem dJ9_min_7cf53_6 : decode cJ9_min_7cf53 6 = .ok (.goto 4, 3) := by decide +kernel
theorem dJ9_min_7cf53_9 : decode cJ9_min_7cf53 9 = .ok (.iload_n 1, 1) := by decide +kernel
theorem dJ9_min_7cf53_10 : decode cJ9_min_7cf53 10 = .ok (.ireturn, 1) := by decide +kernel
set_option maxRecDepth 20000 in
theorem ggL_append_X5_append : GoodIn wsL_append wsX5_append := goodIn_ca (goodIn_ca (goodIn_r _ [7, 8, 9, 10, 11, 12, 13, 6, 14, 15, 16, 17, 18, 19, 20, 21, 22, 23, 24, 25, 26, 27, 28, 29, 30, 31, 32] (by decide +kernel) (by decide +kernel)) (goodIn_sub (fun _ h => List.mem_cons_of_mem _ (List.mem_append_left _ (List.mem_append_right _ h))) (by decide +kernel))) (goodIn_sub (fun _ h => List.mem_cons_of_mem _ (List.mem_append_right _ h)) (by decide +kernel))
set_option maxRecDepth 20000 in
theorem gL_append_X5_append : GoodIn wsL_append (wsV RL 7 RX5 yX5_append wsX5_append) := goodIn_app (goodIn_of _ (by decide +kernel)) ggL_append_X5_append
