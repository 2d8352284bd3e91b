theorem dX6_init_0 : decode cX6_init 0 = .ok (.aload_n 0, 1) := by decide +kernel
theorem dX6_init_1 : decode cX6_init 1 = .ok (.invokespecial 1, 3) := by decide +kernel
theorem dX6_init_4 : decode cX6_init 4 = .ok (.aload_n 0, 1) := by decide +kernel
theorem dX6_init_5 : decode cX6_init 5 = .ok (.bipush 90, 2) := by decide +kernel
theorem dX6_init_7 : decode cX6_init 7 = .ok (.newarray .int, 2) := by decide +kernel
theorem dX6_init_9 : decode cX6_init 9 = .ok (.putfield 7, 3) := by decide +kernel
theorem dX6_init_12 : decode cX6_init 12 = .ok (.aload_n 0, 1) := by decide +kernel
theorem dX6_init_13 : decode cX6_init 13 = .ok (.bipush 92, 2) := by decide +kernel
theorem dX6_init_15 : decode cX6_init 15 = .ok (.newarray .int, 2) := by decide +kernel
theorem dX6_init_17 : decode cX6_init 17 = .ok (.putfield 13, 3) := by decide +kernel
theorem dX6_init_20 : decode cX6_init 20 = .ok (.aload_n 0, 1) := by decide +kernel
theorem dX6_init_21 : decode cX6_init 21 = .ok (.bipush 92, 2) := by decide +kernel
theorem dX6_init_23 : decode cX6_init 23 = .ok (.newarray .int, 2) := by decide +kernel
theorem dX6_init_25 : decode cX6_init 25 = .ok (.putfield 16, 3) := by decide +kernel
theorem dX6_init_28 : decode cX6_init 28 = .ok (.aload_n 0, 1) := by decide +kernel
theorem dX6_init_29 : decode cX6_init 29 = .ok (.bipush 92, 2) := by decide +kernel
theorem dX6_init_31 : decode cX6_init 31 = .ok (.newarray .int, 2) := by decide +kernel
theorem dX6_init_33 : decode cX6_init 33 = .ok (.putfield 19, 3) := by decide +kernel
theorem dX6_init_36 : decode cX6_init 36 = .ok (.aload_n 0, 1) := by decide +kernel
theorem dX6_init_37 : decode cX6_init 37 = .ok (.sipush 1288, 3) := by decide +kernel
theorem dX6_init_40 : decode cX6_init 40 = .ok (.newarray .int, 2) := by decide +kernel
theorem dX6_init_42 : decode cX6_init 42 = .ok (.putfield 22, 3) := by decide +kernel
theorem dX6_init_45 : decode cX6_init 45 = .ok (.aload_n 0, 1) := by decide +kernel
theorem dX6_init_46 : decode cX6_init 46 = .ok (.sipush 184, 3) := by decide +kernel
theorem dX6_init_49 : decode cX6_init 49 = .ok (.newarray .int, 2) := by decide +kernel
theorem dX6_init_51 : decode cX6_init 51 = .ok (.putfield 25, 3) := by decide +kernel
theorem dX6_init_54 : decode cX6_init 54 = .ok (.aload_n 0, 1) := by decide +kernel
theorem dX6_init_55 : decode cX6_init 55 = .ok (.iconst 2, 1) := by decide +kernel
theorem dX6_init_56 : decode cX6_init 56 = .ok (.newarray .boolean, 2) := by decide +kernel
theorem dX6_init_58 : decode cX6_init 58 = .ok (.putfield 28, 3) := by decide +kernel
theorem dX6_init_61 : decode cX6_init 61 = .ok (.aload_n 0, 1) := by decide +kernel
theorem dX6_init_62 : decode cX6_init 62 = .ok (.sipush 512, 3) := by decide +kernel
theorem dX6_init_65 : decode cX6_init 65 = .ok (.newarray .int, 2) := by decide +kernel
theorem dX6_init_67 : decode cX6_init 67 = .ok (.putfield 32, 3) := by decide +kernel
theorem dX6_init_70 : decode cX6_init 70 = .ok (.aload_n 0, 1) := by decide +kernel
theorem dX6_init_71 : decode cX6_init 71 = .ok (.sipush 512, 3) := by decide +kernel
theorem dX6_init_74 : decode cX6_init 74 = .ok (.newarray .int, 2) := by decide +kernel
theorem dX6_init_76 : decode cX6_init 76 = .ok (.putfield 35, 3) := by decide +kernel
theorem dX6_init_79 : decode cX6_init 79 = .ok (.return_, 1) := by decide +kernel
theorem dX6_thrown_0 : decode cX6_thrown 0 = .ok (.aload_n 0, 1) := by decide +kernel
theorem dX6_thrown_1 : decode cX6_thrown 1 = .ok (.getfield 38, 3) := by decide +kernel
theorem dX6_thrown_4 : decode cX6_thrown 4 = .ok (.ireturn, 1) := by decide +kernel
theorem dX6_refused_0 : decode cX6_refused 0 = .ok (.aload_n 0, 1) := by decide +kernel
theorem dX6_refused_1 : decode cX6_refused 1 = .ok (.iload_n 1, 1) := by decide +kernel
theorem dX6_refused_2 : decode cX6_refused 2 = .ok (.putfield 38, 3) := by decide +kernel
theorem dX6_refused_5 : decode cX6_refused 5 = .ok (.iload_n 1, 1) := by decide +kernel
theorem dX6_refused_6 : decode cX6_refused 6 = .ok (.ifCond .le 7, 3) := by decide +kernel
theorem dX6_refused_9 : decode cX6_refused 9 = .ok (.iconst 1, 1) := by decide +kernel
theorem dX6_refused_10 : decode cX6_refused 10 = .ok (.goto 4, 3) := by decide +kernel
theorem dX6_refused_13 : decode cX6_refused 13 = .ok (.iconst 0, 1) := by decide +kernel
theorem dX6_refused_14 : decode cX6_refused 14 = .ok (.ireturn, 1) := by decide +kernel
theorem dX6_in_0 : decode cX6_in 0 = .ok (.lload_n 0, 1) := by decide +kernel
theorem dX6_in_1 : decode cX6_in 1 = .ok (.lload_n 2, 1) := by decide +kernel
theorem dX6_in_2 : decode cX6_in 2 = .ok (.lcmp, 1) := by decide +kernel
theorem dX6_in_3 : decode cX6_in 3 = .ok (.ifCond .lt 14, 3) := by decide +kernel
theorem dX6_in_6 : decode cX6_in 6 = .ok (.lload_n 0, 1) := by decide +kernel
theorem dX6_in_7 : decode cX6_in 7 = .ok (.lload 4, 2) := by decide +kernel
theorem dX6_in_9 : decode cX6_in 9 = .ok (.lcmp, 1) := by decide +kernel
theorem dX6_in_10 : decode cX6_in 10 = .ok (.ifCond .gt 7, 3) := by decide +kernel
theorem dX6_in_13 : decode cX6_in 13 = .ok (.iconst 1, 1) := by decide +kernel
theorem dX6_in_14 : decode cX6_in 14 = .ok (.goto 4, 3) := by decide +kernel
theorem dX6_in_17 : decode cX6_in 17 = .ok (.iconst 0, 1) := by decide +kernel
theorem dX6_in_18 : decode cX6_in 18 = .ok (.ireturn, 1) := by decide +kernel
theorem dX6_copyPage_0 : decode cX6_copyPage 0 = .ok (.iconst 0, 1) := by decide +kernel
theorem dX6_copyPage_1 : decode cX6_copyPage 1 = .ok (.istore 4, 2) := by decide +kernel
theorem dX6_copyPage_3 : decode cX6_copyPage 3 = .ok (.iload 4, 2) := by decide +kernel
theorem dX6_copyPage_5 : decode cX6_copyPage 5 = .ok (.bipush 92, 2) := by decide +kernel
theorem dX6_copyPage_7 : decode cX6_copyPage 7 = .ok (.if_icmp .ge 21, 3) := by decide +kernel
theorem dX6_copyPage_10 : decode cX6_copyPage 10 = .ok (.aload_n 2, 1) := by decide +kernel
theorem dX6_copyPage_11 : decode cX6_copyPage 11 = .ok (.iload_n 3, 1) := by decide +kernel
theorem dX6_copyPage_12 : decode cX6_copyPage 12 = .ok (.iload 4, 2) := by decide +kernel
theorem dX6_copyPage_14 : decode cX6_copyPage 14 = .ok (.iadd, 1) := by decide +kernel
theorem dX6_copyPage_15 : decode cX6_copyPage 15 = .ok (.aload_n 0, 1) := by decide +kernel
theorem dX6_copyPage_16 : decode cX6_copyPage 16 = .ok (.iload_n 1, 1) := by decide +kernel
theorem dX6_copyPage_17 : decode cX6_copyPage 17 = .ok (.iload 4, 2) := by decide +kernel
theorem dX6_copyPage_19 : decode cX6_copyPage 19 = .ok (.iadd, 1) := by decide +kernel
theorem dX6_copyPage_20 : decode cX6_copyPage 20 = .ok (.iaload, 1) := by decide +kernel
theorem dX6_copyPage_21 : decode cX6_copyPage 21 = .ok (.iastore, 1) := by decide +kernel
theorem dX6_copyPage_22 : decode cX6_copyPage 22 = .ok (.iinc 4 1, 3) := by decide +kernel
theorem dX6_copyPage_25 : decode cX6_copyPage 25 = .ok (.goto (-22), 3) := by decide +kernel
theorem dX6_copyPage_28 : decode cX6_copyPage 28 = .ok (.return_, 1) := by decide +kernel
theorem dX6_at_0 : decode cX6_at 0 = .ok (.iconst 2, 1) := by decide +kernel
theorem dX6_at_1 : decode cX6_at 1 = .ok (.bipush 10, 2) := by decide +kernel
theorem dX6_at_3 : decode cX6_at 3 = .ok (.iload_n 0, 1) := by decide +kernel
theorem dX6_at_4 : decode cX6_at 4 = .ok (.imul, 1) := by decide +kernel
theorem dX6_at_5 : decode cX6_at 5 = .ok (.iadd, 1) := by decide +kernel
theorem dX6_at_6 : decode cX6_at 6 = .ok (.ireturn, 1) := by decide +kernel
set_option maxRecDepth 20000 in
theorem ggX6_isMember_X6_in : GoodIn wsX6_isMember wsX6_in := goodIn_r _ [4] (by decide +kernel) (by decide +kernel)
set_option maxRecDepth 20000 in
theorem gX6_isMember_X6_in : GoodIn wsX6_isMember (va_wsS RX6 42 yX6_in wsX6_in) := goodIn_app (goodIn_of _ (by decide +kernel)) ggX6_isMember_X6_in
theorem dX6_isMember_0 : decode cX6_isMember 0 = .ok (.iload_n 1, 1) := by decide +kernel
theorem dX6_isMember_1 : decode cX6_isMember 1 = .ok (.i2l, 1) := by decide +kernel
theorem dX6_isMember_2 : decode cX6_isMember 2 = .ok (.lconst 0, 1) := by decide +kernel
theorem dX6_isMember_3 : decode cX6_isMember 3 = .ok (.aload_n 0, 1) := by decide +kernel
theorem dX6_isMember_4 : decode cX6_isMember 4 = .ok (.iconst 0, 1) := by decide +kernel
theorem dX6_isMember_5 : decode cX6_isMember 5 = .ok (.iaload, 1) := by decide +kernel
theorem dX6_isMember_6 : decode cX6_isMember 6 = .ok (.iconst 1, 1) := by decide +kernel
theorem dX6_isMember_7 : decode cX6_isMember 7 = .ok (.isub, 1) := by decide +kernel
theorem dX6_isMember_8 : decode cX6_isMember 8 = .ok (.i2l, 1) := by decide +kernel
theorem dX6_isMember_9 : decode cX6_isMember 9 = .ok (.invokestatic 42, 3) := by decide +kernel
theorem dX6_isMember_12 : decode cX6_isMember 12 = .ok (.ireturn, 1) := by decide +kernel
set_option maxRecDepth 20000 in
theorem ggX6_better_X6_at : GoodIn wsX6_better wsX6_at := goodIn_r _ [4] (by decide +kernel) (by decide +kernel)
set_option maxRecDepth 20000 in
theorem gX6_better_X6_at : GoodIn wsX6_better (va_wsS RX6 46 yX6_at wsX6_at) := goodIn_app (goodIn_of _ (by decide +kernel)) ggX6_better_X6_at
theorem dX6_better_0 : decode cX6_better 0 = .ok (.aload_n 0, 1) := by decide +kernel
theorem dX6_better_1 : decode cX6_better 1 = .ok (.iload_n 1, 1) := by decide +kernel
theorem dX6_better_2 : decode cX6_better 2 = .ok (.invokestatic 46, 3) := by decide +kernel
theorem dX6_better_5 : decode cX6_better 5 = .ok (.iconst 4, 1) := by decide +kernel
theorem dX6_better_6 : decode cX6_better 6 = .ok (.iadd, 1) := by decide +kernel
theorem dX6_better_7 : decode cX6_better 7 = .ok (.iaload, 1) := by decide +kernel
theorem dX6_better_8 : decode cX6_better 8 = .ok (.istore_n 3, 1) := by decide +kernel
theorem dX6_better_9 : decode cX6_better 9 = .ok (.aload_n 0, 1) := by decide +kernel
theorem dX6_better_10 : decode cX6_better 10 = .ok (.iload_n 2, 1) := by decide +kernel
theorem dX6_better_11 : decode cX6_better 11 = .ok (.invokestatic 46, 3) := by decide +kernel
theorem dX6_better_14 : decode cX6_better 14 = .ok (.iload_n 3, 1) := by decide +kernel
theorem dX6_better_15 : decode cX6_better 15 = .ok (.iadd, 1) := by decide +kernel
theorem dX6_better_16 : decode cX6_better 16 = .ok (.iaload, 1) := by decide +kernel
theorem dX6_better_17 : decode cX6_better 17 = .ok (.aload_n 0, 1) := by decide +kernel
theorem dX6_better_18 : decode cX6_better 18 = .ok (.iload_n 1, 1) := by decide +kernel
theorem dX6_better_19 : decode cX6_better 19 = .ok (.invokestatic 46, 3) := by decide +kernel
theorem dX6_better_22 : decode cX6_better 22 = .ok (.iload_n 3, 1) := by decide +kernel
theorem dX6_better_23 : decode cX6_better 23 = .ok (.iadd, 1) := by decide +kernel
theorem dX6_better_24 : decode cX6_better 24 = .ok (.iaload, 1) := by decide +kernel
theorem dX6_better_25 : decode cX6_better 25 = .ok (.isub, 1) := by decide +kernel
theorem dX6_better_26 : decode cX6_better 26 = .ok (.ireturn, 1) := by decide +kernel
theorem dX6_quarter_0 : decode cX6_quarter 0 = .ok (.iload_n 0, 1) := by decide +kernel
theorem dX6_quarter_1 : decode cX6_quarter 1 = .ok (.ifCond .ge 12, 3) := by decide +kernel
theorem dX6_quarter_4 : decode cX6_quarter 4 = .ok (.iconst 3, 1) := by decide +kernel
theorem dX6_quarter_5 : decode cX6_quarter 5 = .ok (.iload_n 0, 1) := by decide +kernel
theorem dX6_quarter_6 : decode cX6_quarter 6 = .ok (.isub, 1) := by decide +kernel
theorem dX6_quarter_7 : decode cX6_quarter 7 = .ok (.iconst 4, 1) := by decide +kernel
theorem dX6_quarter_8 : decode cX6_quarter 8 = .ok (.idiv, 1) := by decide +kernel
theorem dX6_quarter_9 : decode cX6_quarter 9 = .ok (.ineg, 1) := by decide +kernel
theorem dX6_quarter_10 : decode cX6_quarter 10 = .ok (.goto 6, 3) := by decide +kernel
theorem dX6_quarter_13 : decode cX6_quarter 13 = .ok (.iload_n 0, 1) := by decide +kernel
theorem dX6_quarter_14 : decode cX6_quarter 14 = .ok (.iconst 4, 1) := by decide +kernel
theorem dX6_quarter_15 : decode cX6_quarter 15 = .ok (.idiv, 1) := by decide +kernel
theorem dX6_quarter_16 : decode cX6_quarter 16 = .ok (.ireturn, 1) := by decide +kernel
set_option maxRecDepth 20000 in
theorem ggX6_score_X6_better : GoodIn wsX6_score wsX6_better := goodIn_r _ [4, 5, 6, 3, 7] (by decide +kernel) (by decide +kernel)
set_option maxRecDepth 20000 in
theorem gX6_score_X6_better : GoodIn wsX6_score (va_wsS RX6 50 yX6_better wsX6_better) := goodIn_app (goodIn_of _ (by decide +kernel)) ggX6_score_X6_better
set_option maxRecDepth 20000 in
theorem ggX6_score_X6_at : GoodIn wsX6_score wsX6_at := goodIn_r _ [7] (by decide +kernel) (by decide +kernel)
set_option maxRecDepth 20000 in
theorem gX6_score_X6_at : GoodIn wsX6_score (va_wsS RX6 46 yX6_at wsX6_at) := goodIn_app (goodIn_of _ (by decide +kernel)) ggX6_score_X6_at
set_option maxRecDepth 20000 in
theorem ggX6_score_X6_quarter : GoodIn wsX6_score wsX6_quarter := goodIn_r _ [10] (by decide +kernel) (by decide +kernel)
set_option maxRecDepth 20000 in
theorem gX6_score_X6_quarter : GoodIn wsX6_score (va_wsS RX6 54 yX6_quarter wsX6_quarter) := goodIn_app (goodIn_of _ (by decide +kernel)) ggX6_score_X6_quarter
theorem dX6_score_0 : decode cX6_score 0 = .ok (.bipush 10, 2) := by decide +kernel
theorem dX6_score_2 : decode cX6_score 2 = .ok (.aload_n 0, 1) := by decide +kernel
theorem dX6_score_3 : decode cX6_score 3 = .ok (.iload_n 1, 1) := by decide +kernel
theorem dX6_score_4 : decode cX6_score 4 = .ok (.iload_n 2, 1) := by decide +kernel
theorem dX6_score_5 : decode cX6_score 5 = .ok (.invokestatic 50, 3) := by decide +kernel
theorem dX6_score_8 : decode cX6_score 8 = .ok (.imul, 1) := by decide +kernel
theorem dX6_score_9 : decode cX6_score 9 = .ok (.iconst 5, 1) := by decide +kernel
theorem dX6_score_10 : decode cX6_score 10 = .ok (.aload_n 0, 1) := by decide +kernel
theorem dX6_score_11 : decode cX6_score 11 = .ok (.iload_n 2, 1) := by decide +kernel
theorem dX6_score_12 : decode cX6_score 12 = .ok (.invokestatic 46, 3) := by decide +kernel
theorem dX6_score_15 : decode cX6_score 15 = .ok (.bipush 7, 2) := by decide +kernel
theorem dX6_score_17 : decode cX6_score 17 = .ok (.iadd, 1) := by decide +kernel
theorem dX6_score_18 : decode cX6_score 18 = .ok (.iaload, 1) := by decide +kernel
theorem dX6_score_19 : decode cX6_score 19 = .ok (.imul, 1) := by decide +kernel
theorem dX6_score_20 : decode cX6_score 20 = .ok (.isub, 1) := by decide +kernel
theorem dX6_score_21 : decode cX6_score 21 = .ok (.aload_n 0, 1) := by decide +kernel
theorem dX6_score_22 : decode cX6_score 22 = .ok (.iload_n 2, 1) := by decide +kernel
theorem dX6_score_23 : decode cX6_score 23 = .ok (.invokestatic 46, 3) := by decide +kernel
theorem dX6_score_26 : decode cX6_score 26 = .ok (.bipush 6, 2) := by decide +kernel
theorem dX6_score_28 : decode cX6_score 28 = .ok (.iadd, 1) := by decide +kernel
theorem dX6_score_29 : decode cX6_score 29 = .ok (.iaload, 1) := by decide +kernel
theorem dX6_score_30 : decode cX6_score 30 = .ok (.invokestatic 54, 3) := by decide +kernel
theorem dX6_score_33 : decode cX6_score 33 = .ok (.iadd, 1) := by decide +kernel
theorem dX6_score_34 : decode cX6_score 34 = .ok (.ireturn, 1) := by decide +kernel
set_option maxRecDepth 20000 in
theorem ggX6_valueOf_X6_score : GoodIn wsX6_valueOf wsX6_score := goodIn_r _ [4, 5, 6, 3, 7, 8, 9, 10, 11, 12, 13] (by decide +kernel) (by decide +kernel)
set_option maxRecDepth 20000 in
theorem gX6_valueOf_X6_score : GoodIn wsX6_valueOf (va_wsS RX6 57 yX6_score wsX6_score) := goodIn_app (goodIn_of _ (by decide +kernel)) ggX6_valueOf_X6_score
theorem dX6_valueOf_0 : decode cX6_valueOf 0 = .ok (.aload_n 0, 1) := by decide +kernel
theorem dX6_valueOf_1 : decode cX6_valueOf 1 = .ok (.iload_n 1, 1) := by decide +kernel
theorem dX6_valueOf_2 : decode cX6_valueOf 2 = .ok (.iload_n 2, 1) := by decide +kernel
theorem dX6_valueOf_3 : decode cX6_valueOf 3 = .ok (.invokestatic 57, 3) := by decide +kernel
theorem dX6_valueOf_6 : decode cX6_valueOf 6 = .ok (.aload_n 0, 1) := by decide +kernel
theorem dX6_valueOf_7 : decode cX6_valueOf 7 = .ok (.iload_n 2, 1) := by decide +kernel
theorem dX6_valueOf_8 : decode cX6_valueOf 8 = .ok (.iload_n 1, 1) := by decide +kernel
theorem dX6_valueOf_9 : decode cX6_valueOf 9 = .ok (.invokestatic 57, 3) := by decide +kernel
theorem dX6_valueOf_12 : decode cX6_valueOf 12 = .ok (.iadd, 1) := by decide +kernel
theorem dX6_valueOf_13 : decode cX6_valueOf 13 = .ok (.ireturn, 1) := by decide +kernel
set_option maxRecDepth 20000 in
theorem ggX6_fit_X6_better : GoodIn wsX6_fit wsX6_better := goodIn_r _ [4, 5, 6, 3, 7] (by decide +kernel) (by decide +kernel)
set_option maxRecDepth 20000 in
theorem gX6_fit_X6_better : GoodIn wsX6_fit (va_wsS RX6 50 yX6_better wsX6_better) := goodIn_app (goodIn_of _ (by decide +kernel)) ggX6_fit_X6_better
theorem dX6_fit_0 : decode cX6_fit 0 = .ok (.iload_n 1, 1) := by decide +kernel
theorem dX6_fit_1 : decode cX6_fit 1 = .ok (.iload_n 2, 1) := by decide +kernel
theorem dX6_fit_2 : decode cX6_fit 2 = .ok (.if_icmp .eq 27, 3) := by decide +kernel
theorem dX6_fit_5 : decode cX6_fit 5 = .ok (.aload_n 0, 1) := by decide +kernel
theorem dX6_fit_6 : decode cX6_fit 6 = .ok (.iload_n 1, 1) := by decide +kernel
theorem dX6_fit_7 : decode cX6_fit 7 = .ok (.iload_n 2, 1) := by decide +kernel
theorem dX6_fit_8 : decode cX6_fit 8 = .ok (.invokestatic 50, 3) := by decide +kernel
theorem dX6_fit_11 : decode cX6_fit 11 = .ok (.iconst 2, 1) := by decide +kernel
theorem dX6_fit_12 : decode cX6_fit 12 = .ok (.if_icmp .lt 17, 3) := by decide +kernel
theorem dX6_fit_15 : decode cX6_fit 15 = .ok (.aload_n 0, 1) := by decide +kernel
theorem dX6_fit_16 : decode cX6_fit 16 = .ok (.iload_n 2, 1) := by decide +kernel
theorem dX6_fit_17 : decode cX6_fit 17 = .ok (.iload_n 1, 1) := by decide +kernel
theorem dX6_fit_18 : decode cX6_fit 18 = .ok (.invokestatic 50, 3) := by decide +kernel
theorem dX6_fit_21 : decode cX6_fit 21 = .ok (.iconst 2, 1) := by decide +kernel
theorem dX6_fit_22 : decode cX6_fit 22 = .ok (.if_icmp .lt 7, 3) := by decide +kernel
theorem dX6_fit_25 : decode cX6_fit 25 = .ok (.iconst 1, 1) := by decide +kernel
theorem dX6_fit_26 : decode cX6_fit 26 = .ok (.goto 4, 3) := by decide +kernel
theorem dX6_fit_29 : decode cX6_fit 29 = .ok (.iconst 0, 1) := by decide +kernel
theorem dX6_fit_30 : decode cX6_fit 30 = .ok (.ireturn, 1) := by decide +kernel
set_option maxRecDepth 20000 in
theorem ggX6_isFree_X6_at : GoodIn wsX6_isFree wsX6_at := goodIn_r _ [4] (by decide +kernel) (by decide +kernel)
set_option maxRecDepth 20000 in
theorem gX6_isFree_X6_at : GoodIn wsX6_isFree (va_wsS RX6 46 yX6_at wsX6_at) := goodIn_app (goodIn_of _ (by decide +kernel)) ggX6_isFree_X6_at
theorem dX6_isFree_0 : decode cX6_isFree 0 = .ok (.aload_n 0, 1) := by decide +kernel
theorem dX6_isFree_1 : decode cX6_isFree 1 = .ok (.iload_n 1, 1) := by decide +kernel
theorem dX6_isFree_2 : decode cX6_isFree 2 = .ok (.invokestatic 46, 3) := by decide +kernel
theorem dX6_isFree_5 : decode cX6_isFree 5 = .ok (.bipush 8, 2) := by decide +kernel
theorem dX6_isFree_7 : decode cX6_isFree 7 = .ok (.iadd, 1) := by decide +kernel
theorem dX6_isFree_8 : decode cX6_isFree 8 = .ok (.iaload, 1) := by decide +kernel
theorem dX6_isFree_9 : decode cX6_isFree 9 = .ok (.sipush (-9999), 3) := by decide +kernel
theorem dX6_isFree_12 : decode cX6_isFree 12 = .ok (.if_icmp .ne 7, 3) := by decide +kernel
theorem dX6_isFree_15 : decode cX6_isFree 15 = .ok (.iconst 1, 1) := by decide +kernel
theorem dX6_isFree_16 : decode cX6_isFree 16 = .ok (.goto 4, 3) := by decide +kernel
theorem dX6_isFree_19 : decode cX6_isFree 19 = .ok (.iconst 0, 1) := by decide +kernel
theorem dX6_isFree_20 : decode cX6_isFree 20 = .ok (.ireturn, 1) := by decide +kernel
set_option maxRecDepth 20000 in
theorem ggX6_prefers_X6_isFree : GoodIn wsX6_prefers wsX6_isFree := goodIn_r _ [4, 5, 6, 3, 7] (by decide +kernel) (by decide +kernel)
set_option maxRecDepth 20000 in
theorem gX6_prefers_X6_isFree : GoodIn wsX6_prefers (va_wsS RX6 60 yX6_isFree wsX6_isFree) := goodIn_app (goodIn_of _ (by decide +kernel)) ggX6_prefers_X6_isFree
set_option maxRecDepth 20000 in
theorem ggX6_prefers_X6_at : GoodIn wsX6_prefers wsX6_at := goodIn_r _ [7] (by decide +kernel) (by decide +kernel)
set_option maxRecDepth 20000 in
theorem gX6_prefers_X6_at : GoodIn wsX6_prefers (va_wsS RX6 46 yX6_at wsX6_at) := goodIn_app (goodIn_of _ (by decide +kernel)) ggX6_prefers_X6_at
set_option maxRecDepth 20000 in
theorem ggX6_prefers_X6_score : GoodIn wsX6_prefers wsX6_score := goodIn_r _ [10, 11, 12, 3, 13, 5, 6, 7, 14, 15, 16] (by decide +kernel) (by decide +kernel)
set_option maxRecDepth 20000 in
theorem gX6_prefers_X6_score : GoodIn wsX6_prefers (va_wsS RX6 57 yX6_score wsX6_score) := goodIn_app (goodIn_of _ (by decide +kernel)) ggX6_prefers_X6_score
theorem dX6_prefers_0 : decode cX6_prefers 0 = .ok (.aload_n 0, 1) := by decide +kernel
theorem dX6_prefers_1 : decode cX6_prefers 1 = .ok (.iload_n 1, 1) := by decide +kernel
theorem dX6_prefers_2 : decode cX6_prefers 2 = .ok (.invokestatic 60, 3) := by decide +kernel
theorem dX6_prefers_5 : decode cX6_prefers 5 = .ok (.ifCond .ne 26, 3) := by decide +kernel
theorem dX6_prefers_8 : decode cX6_prefers 8 = .ok (.aload_n 0, 1) := by decide +kernel
theorem dX6_prefers_9 : decode cX6_prefers 9 = .ok (.iload_n 1, 1) := by decide +kernel
theorem dX6_prefers_10 : decode cX6_prefers 10 = .ok (.aload_n 0, 1) := by decide +kernel
theorem dX6_prefers_11 : decode cX6_prefers 11 = .ok (.iload_n 1, 1) := by decide +kernel
theorem dX6_prefers_12 : decode cX6_prefers 12 = .ok (.invokestatic 46, 3) := by decide +kernel
theorem dX6_prefers_15 : decode cX6_prefers 15 = .ok (.bipush 8, 2) := by decide +kernel
theorem dX6_prefers_17 : decode cX6_prefers 17 = .ok (.iadd, 1) := by decide +kernel
theorem dX6_prefers_18 : decode cX6_prefers 18 = .ok (.iaload, 1) := by decide +kernel
theorem dX6_prefers_19 : decode cX6_prefers 19 = .ok (.invokestatic 57, 3) := by decide +kernel
theorem dX6_prefers_22 : decode cX6_prefers 22 = .ok (.aload_n 0, 1) := by decide +kernel
theorem dX6_prefers_23 : decode cX6_prefers 23 = .ok (.iload_n 1, 1) := by decide +kernel
theorem dX6_prefers_24 : decode cX6_prefers 24 = .ok (.iload_n 2, 1) := by decide +kernel
theorem dX6_prefers_25 : decode cX6_prefers 25 = .ok (.invokestatic 57, 3) := by decide +kernel
theorem dX6_prefers_28 : decode cX6_prefers 28 = .ok (.if_icmp .ge 7, 3) := by decide +kernel
theorem dX6_prefers_31 : decode cX6_prefers 31 = .ok (.iconst 1, 1) := by decide +kernel
theorem dX6_prefers_32 : decode cX6_prefers 32 = .ok (.goto 4, 3) := by decide +kernel
theorem dX6_prefers_35 : decode cX6_prefers 35 = .ok (.iconst 0, 1) := by decide +kernel
theorem dX6_prefers_36 : decode cX6_prefers 36 = .ok (.ireturn, 1) := by decide +kernel
set_option maxRecDepth 20000 in
theorem ggX6_block_X6_fit : GoodIn wsX6_block wsX6_fit := goodIn_r _ [4, 5, 6, 3, 7, 8, 9, 10] (by decide +kernel) (by decide +kernel)
set_option maxRecDepth 20000 in
theorem gX6_block_X6_fit : GoodIn wsX6_block (va_wsS RX6 64 yX6_fit wsX6_fit) := goodIn_app (goodIn_of _ (by decide +kernel)) ggX6_block_X6_fit
set_option maxRecDepth 20000 in
theorem ggX6_block_X6_at : GoodIn wsX6_block wsX6_at := goodIn_r _ [10] (by decide +kernel) (by decide +kernel)
set_option maxRecDepth 20000 in
theorem gX6_block_X6_at : GoodIn wsX6_block (va_wsS RX6 46 yX6_at wsX6_at) := goodIn_app (goodIn_of _ (by decide +kernel)) ggX6_block_X6_at
set_option maxRecDepth 20000 in
theorem ggX6_block_X6_prefers : GoodIn wsX6_block wsX6_prefers := goodIn_r _ [13, 14, 15, 3, 16, 8, 9, 10, 17, 18, 19, 5, 6, 7, 20, 21, 22] (by decide +kernel) (by decide +kernel)
set_option maxRecDepth 20000 in
theorem gX6_block_X6_prefers : GoodIn wsX6_block (va_wsS RX6 68 yX6_prefers wsX6_prefers) := goodIn_app (goodIn_of _ (by decide +kernel)) ggX6_block_X6_prefers
theorem dX6_block_0 : decode cX6_block 0 = .ok (.aload_n 0, 1) := by decide +kernel
theorem dX6_block_1 : decode cX6_block 1 = .ok (.iload_n 1, 1) := by decide +kernel
theorem dX6_block_2 : decode cX6_block 2 = .ok (.iload_n 2, 1) := by decide +kernel
theorem dX6_block_3 : decode cX6_block 3 = .ok (.invokestatic 64, 3) := by decide +kernel
theorem dX6_block_6 : decode cX6_block 6 = .ok (.ifCond .eq 38, 3) := by decide +kernel
theorem dX6_block_9 : decode cX6_block 9 = .ok (.aload_n 0, 1) := by decide +kernel
theorem dX6_block_10 : decode cX6_block 10 = .ok (.iload_n 1, 1) := by decide +kernel
theorem dX6_block_11 : decode cX6_block 11 = .ok (.invokestatic 46, 3) := by decide +kernel
theorem dX6_block_14 : decode cX6_block 14 = .ok (.bipush 8, 2) := by decide +kernel
theorem dX6_block_16 : decode cX6_block 16 = .ok (.iadd, 1) := by decide +kernel
theorem dX6_block_17 : decode cX6_block 17 = .ok (.iaload, 1) := by decide +kernel
theorem dX6_block_18 : decode cX6_block 18 = .ok (.iload_n 2, 1) := by decide +kernel
theorem dX6_block_19 : decode cX6_block 19 = .ok (.if_icmp .eq 25, 3) := by decide +kernel
theorem dX6_block_22 : decode cX6_block 22 = .ok (.aload_n 0, 1) := by decide +kernel
theorem dX6_block_23 : decode cX6_block 23 = .ok (.iload_n 1, 1) := by decide +kernel
theorem dX6_block_24 : decode cX6_block 24 = .ok (.iload_n 2, 1) := by decide +kernel
theorem dX6_block_25 : decode cX6_block 25 = .ok (.invokestatic 68, 3) := by decide +kernel
theorem dX6_block_28 : decode cX6_block 28 = .ok (.ifCond .eq 16, 3) := by decide +kernel
theorem dX6_block_31 : decode cX6_block 31 = .ok (.aload_n 0, 1) := by decide +kernel
theorem dX6_block_32 : decode cX6_block 32 = .ok (.iload_n 2, 1) := by decide +kernel
theorem dX6_block_33 : decode cX6_block 33 = .ok (.iload_n 1, 1) := by decide +kernel
theorem dX6_block_34 : decode cX6_block 34 = .ok (.invokestatic 68, 3) := by decide +kernel
theorem dX6_block_37 : decode cX6_block 37 = .ok (.ifCond .eq 7, 3) := by decide +kernel
theorem dX6_block_40 : decode cX6_block 40 = .ok (.iconst 1, 1) := by decide +kernel
theorem dX6_block_41 : decode cX6_block 41 = .ok (.goto 4, 3) := by decide +kernel
theorem dX6_block_44 : decode cX6_block 44 = .ok (.iconst 0, 1) := by decide +kernel
theorem dX6_block_45 : decode cX6_block 45 = .ok (.ireturn, 1) := by decide +kernel
set_option maxRecDepth 20000 in
theorem ggX6_free_X6_at : GoodIn wsX6_free wsX6_at := goodIn_r _ [4] (by decide +kernel) (by decide +kernel)
set_option maxRecDepth 20000 in
theorem gX6_free_X6_at : GoodIn wsX6_free (va_wsS RX6 46 yX6_at wsX6_at) := goodIn_app (goodIn_of _ (by decide +kernel)) ggX6_free_X6_at
theorem dX6_free_0 : decode cX6_free 0 = .ok (.aload_n 0, 1) := by decide +kernel
theorem dX6_free_1 : decode cX6_free 1 = .ok (.iload_n 1, 1) := by decide +kernel
theorem dX6_free_2 : decode cX6_free 2 = .ok (.invokestatic 46, 3) := by decide +kernel
theorem dX6_free_5 : decode cX6_free 5 = .ok (.bipush 8, 2) := by decide +kernel
theorem dX6_free_7 : decode cX6_free 7 = .ok (.iadd, 1) := by decide +kernel
theorem dX6_free_8 : decode cX6_free 8 = .ok (.sipush (-9999), 3) := by decide +kernel
theorem dX6_free_11 : decode cX6_free 11 = .ok (.iastore, 1) := by decide +kernel
theorem dX6_free_12 : decode cX6_free 12 = .ok (.aload_n 0, 1) := by decide +kernel
theorem dX6_free_13 : decode cX6_free 13 = .ok (.iload_n 1, 1) := by decide +kernel
theorem dX6_free_14 : decode cX6_free 14 = .ok (.invokestatic 46, 3) := by decide +kernel
theorem dX6_free_17 : decode cX6_free 17 = .ok (.bipush 9, 2) := by decide +kernel
theorem dX6_free_19 : decode cX6_free 19 = .ok (.iadd, 1) := by decide +kernel
theorem dX6_free_20 : decode cX6_free 20 = .ok (.iconst 0, 1) := by decide +kernel
theorem dX6_free_21 : decode cX6_free 21 = .ok (.iastore, 1) := by decide +kernel
theorem dX6_free_22 : decode cX6_free 22 = .ok (.return_, 1) := by decide +kernel
set_option maxRecDepth 20000 in
theorem ggX6_partOn_X6_at : GoodIn wsX6_partOn wsX6_at := goodIn_r _ [4] (by decide +kernel) (by decide +kernel)
set_option maxRecDepth 20000 in
theorem gX6_partOn_X6_at : GoodIn wsX6_partOn (va_wsS RX6 46 yX6_at wsX6_at) := goodIn_app (goodIn_of _ (by decide +kernel)) ggX6_partOn_X6_at
set_option maxRecDepth 20000 in
theorem ggX6_partOn_X6_free : GoodIn wsX6_partOn wsX6_free := goodIn_r _ [7, 1, 2, 3, 4] (by decide +kernel) (by decide +kernel)
set_option maxRecDepth 20000 in
theorem gX6_partOn_X6_free : GoodIn wsX6_partOn (va_wsS RX6 71 yX6_free wsX6_free) := goodIn_app (goodIn_of _ (by decide +kernel)) ggX6_partOn_X6_free
theorem dX6_partOn_0 : decode cX6_partOn 0 = .ok (.aload_n 0, 1) := by decide +kernel
theorem dX6_partOn_1 : decode cX6_partOn 1 = .ok (.iload_n 1, 1) := by decide +kernel
theorem dX6_partOn_2 : decode cX6_partOn 2 = .ok (.invokestatic 46, 3) := by decide +kernel
theorem dX6_partOn_5 : decode cX6_partOn 5 = .ok (.bipush 8, 2) := by decide +kernel
theorem dX6_partOn_7 : decode cX6_partOn 7 = .ok (.iadd, 1) := by decide +kernel
theorem dX6_partOn_8 : decode cX6_partOn 8 = .ok (.iaload, 1) := by decide +kernel
theorem dX6_partOn_9 : decode cX6_partOn 9 = .ok (.istore_n 2, 1) := by decide +kernel
theorem dX6_partOn_10 : decode cX6_partOn 10 = .ok (.iload_n 2, 1) := by decide +kernel
theorem dX6_partOn_11 : decode cX6_partOn 11 = .ok (.sipush (-9999), 3) := by decide +kernel
theorem dX6_partOn_14 : decode cX6_partOn 14 = .ok (.if_icmp .eq 13, 3) := by decide +kernel
theorem dX6_partOn_17 : decode cX6_partOn 17 = .ok (.aload_n 0, 1) := by decide +kernel
theorem dX6_partOn_18 : decode cX6_partOn 18 = .ok (.iload_n 1, 1) := by decide +kernel
theorem dX6_partOn_19 : decode cX6_partOn 19 = .ok (.invokestatic 71, 3) := by decide +kernel
theorem dX6_partOn_22 : decode cX6_partOn 22 = .ok (.aload_n 0, 1) := by decide +kernel
theorem dX6_partOn_23 : decode cX6_partOn 23 = .ok (.iload_n 2, 1) := by decide +kernel
theorem dX6_partOn_24 : decode cX6_partOn 24 = .ok (.invokestatic 71, 3) := by decide +kernel
theorem dX6_partOn_27 : decode cX6_partOn 27 = .ok (.return_, 1) := by decide +kernel
set_option maxRecDepth 20000 in
theorem ggX6_pairOn_X6_partOn : GoodIn wsX6_pairOn wsX6_partOn := goodIn_r _ [4, 5, 6, 3, 7, 8, 9, 10] (by decide +kernel) (by decide +kernel)
set_option maxRecDepth 20000 in
theorem gX6_pairOn_X6_partOn : GoodIn wsX6_pairOn (va_wsS RX6 75 yX6_partOn wsX6_partOn) := goodIn_app (goodIn_of _ (by decide +kernel)) ggX6_pairOn_X6_partOn
set_option maxRecDepth 20000 in
theorem ggX6_pairOn_X6_at : GoodIn wsX6_pairOn wsX6_at := goodIn_r _ [7] (by decide +kernel) (by decide +kernel)
set_option maxRecDepth 20000 in
theorem gX6_pairOn_X6_at : GoodIn wsX6_pairOn (va_wsS RX6 46 yX6_at wsX6_at) := goodIn_app (goodIn_of _ (by decide +kernel)) ggX6_pairOn_X6_at
theorem dX6_pairOn_0 : decode cX6_pairOn 0 = .ok (.aload_n 0, 1) := by decide +kernel
theorem dX6_pairOn_1 : decode cX6_pairOn 1 = .ok (.iload_n 1, 1) := by decide +kernel
theorem dX6_pairOn_2 : decode cX6_pairOn 2 = .ok (.invokestatic 75, 3) := by decide +kernel
theorem dX6_pairOn_5 : decode cX6_pairOn 5 = .ok (.aload_n 0, 1) := by decide +kernel
theorem dX6_pairOn_6 : decode cX6_pairOn 6 = .ok (.iload_n 2, 1) := by decide +kernel
theorem dX6_pairOn_7 : decode cX6_pairOn 7 = .ok (.invokestatic 75, 3) := by decide +kernel
theorem dX6_pairOn_10 : decode cX6_pairOn 10 = .ok (.aload_n 0, 1) := by decide +kernel
theorem dX6_pairOn_11 : decode cX6_pairOn 11 = .ok (.iload_n 1, 1) := by decide +kernel
theorem dX6_pairOn_12 : decode cX6_pairOn 12 = .ok (.invokestatic 46, 3) := by decide +kernel
theorem dX6_pairOn_15 : decode cX6_pairOn 15 = .ok (.bipush 8, 2) := by decide +kernel
theorem dX6_pairOn_17 : decode cX6_pairOn 17 = .ok (.iadd, 1) := by decide +kernel
theorem dX6_pairOn_18 : decode cX6_pairOn 18 = .ok (.iload_n 2, 1) := by decide +kernel
theorem dX6_pairOn_19 : decode cX6_pairOn 19 = .ok (.iastore, 1) := by decide +kernel
theorem dX6_pairOn_20 : decode cX6_pairOn 20 = .ok (.aload_n 0, 1) := by decide +kernel
theorem dX6_pairOn_21 : decode cX6_pairOn 21 = .ok (.iload_n 2, 1) := by decide +kernel
theorem dX6_pairOn_22 : decode cX6_pairOn 22 = .ok (.invokestatic 46, 3) := by decide +kernel
theorem dX6_pairOn_25 : decode cX6_pairOn 25 = .ok (.bipush 8, 2) := by decide +kernel
theorem dX6_pairOn_27 : decode cX6_pairOn 27 = .ok (.iadd, 1) := by decide +kernel
theorem dX6_pairOn_28 : decode cX6_pairOn 28 = .ok (.iload_n 1, 1) := by decide +kernel
theorem dX6_pairOn_29 : decode cX6_pairOn 29 = .ok (.iastore, 1) := by decide +kernel
theorem dX6_pairOn_30 : decode cX6_pairOn 30 = .ok (.return_, 1) := by decide +kernel
set_option maxRecDepth 20000 in
theorem ggX6_mend_X6_at : GoodIn wsX6_mend wsX6_at := goodIn_r _ [4] (by decide +kernel) (by decide +kernel)
set_option maxRecDepth 20000 in
theorem gX6_mend_X6_at : GoodIn wsX6_mend (va_wsS RX6 46 yX6_at wsX6_at) := goodIn_app (goodIn_of _ (by decide +kernel)) ggX6_mend_X6_at
set_option maxRecDepth 20000 in
theorem ggX6_mend_X6_fit : GoodIn wsX6_mend wsX6_fit := goodIn_r _ [7, 8, 9, 3, 10, 1, 2, 4] (by decide +kernel) (by decide +kernel)
set_option maxRecDepth 20000 in
theorem gX6_mend_X6_fit : GoodIn wsX6_mend (va_wsS RX6 64 yX6_fit wsX6_fit) := goodIn_app (goodIn_of _ (by decide +kernel)) ggX6_mend_X6_fit
set_option maxRecDepth 20000 in
theorem ggX6_mend_X6_partOn : GoodIn wsX6_mend wsX6_partOn := goodIn_r _ [13, 1, 2, 3, 4, 14, 15, 16] (by decide +kernel) (by decide +kernel)
set_option maxRecDepth 20000 in
theorem gX6_mend_X6_partOn : GoodIn wsX6_mend (va_wsS RX6 75 yX6_partOn wsX6_partOn) := goodIn_app (goodIn_of _ (by decide +kernel)) ggX6_mend_X6_partOn
theorem dX6_mend_0 : decode cX6_mend 0 = .ok (.aload_n 0, 1) := by decide +kernel
theorem dX6_mend_1 : decode cX6_mend 1 = .ok (.iload_n 1, 1) := by decide +kernel
theorem dX6_mend_2 : decode cX6_mend 2 = .ok (.invokestatic 46, 3) := by decide +kernel
theorem dX6_mend_5 : decode cX6_mend 5 = .ok (.bipush 8, 2) := by decide +kernel
theorem dX6_mend_7 : decode cX6_mend 7 = .ok (.iadd, 1) := by decide +kernel
theorem dX6_mend_8 : decode cX6_mend 8 = .ok (.iaload, 1) := by decide +kernel
theorem dX6_mend_9 : decode cX6_mend 9 = .ok (.istore_n 2, 1) := by decide +kernel
theorem dX6_mend_10 : decode cX6_mend 10 = .ok (.iload_n 2, 1) := by decide +kernel
theorem dX6_mend_11 : decode cX6_mend 11 = .ok (.sipush (-9999), 3) := by decide +kernel
theorem dX6_mend_14 : decode cX6_mend 14 = .ok (.if_icmp .eq 17, 3) := by decide +kernel
theorem dX6_mend_17 : decode cX6_mend 17 = .ok (.aload_n 0, 1) := by decide +kernel
theorem dX6_mend_18 : decode cX6_mend 18 = .ok (.iload_n 1, 1) := by decide +kernel
theorem dX6_mend_19 : decode cX6_mend 19 = .ok (.iload_n 2, 1) := by decide +kernel
theorem dX6_mend_20 : decode cX6_mend 20 = .ok (.invokestatic 64, 3) := by decide +kernel
theorem dX6_mend_23 : decode cX6_mend 23 = .ok (.ifCond .ne 8, 3) := by decide +kernel
theorem dX6_mend_26 : decode cX6_mend 26 = .ok (.aload_n 0, 1) := by decide +kernel
theorem dX6_mend_27 : decode cX6_mend 27 = .ok (.iload_n 1, 1) := by decide +kernel
theorem dX6_mend_28 : decode cX6_mend 28 = .ok (.invokestatic 75, 3) := by decide +kernel
theorem dX6_mend_31 : decode cX6_mend 31 = .ok (.return_, 1) := by decide +kernel
set_option maxRecDepth 20000 in
theorem ggX6_matchOn_X6_isFree : GoodIn wsX6_matchOn wsX6_isFree := goodIn_r _ [4, 5, 6, 3, 7] (by decide +kernel) (by decide +kernel)
set_option maxRecDepth 20000 in
theorem gX6_matchOn_X6_isFree : GoodIn wsX6_matchOn (va_wsS RX6 60 yX6_isFree wsX6_isFree) := goodIn_app (goodIn_of _ (by decide +kernel)) ggX6_matchOn_X6_isFree
set_option maxRecDepth 20000 in
theorem ggX6_matchOn_X6_fit : GoodIn wsX6_matchOn wsX6_fit := goodIn_r _ [10, 11, 12, 3, 13, 5, 6, 7] (by decide +kernel) (by decide +kernel)
set_option maxRecDepth 20000 in
theorem gX6_matchOn_X6_fit : GoodIn wsX6_matchOn (va_wsS RX6 64 yX6_fit wsX6_fit) := goodIn_app (goodIn_of _ (by decide +kernel)) ggX6_matchOn_X6_fit
set_option maxRecDepth 20000 in
theorem ggX6_matchOn_X6_valueOf : GoodIn wsX6_matchOn wsX6_valueOf := goodIn_r _ [16, 17, 18, 3, 19, 11, 12, 13, 5, 6, 7, 20, 21, 22] (by decide +kernel) (by decide +kernel)
set_option maxRecDepth 20000 in
theorem gX6_matchOn_X6_valueOf : GoodIn wsX6_matchOn (va_wsS RX6 78 yX6_valueOf wsX6_valueOf) := goodIn_app (goodIn_of _ (by decide +kernel)) ggX6_matchOn_X6_valueOf
set_option maxRecDepth 20000 in
theorem ggX6_matchOn_X6_pairOn : GoodIn wsX6_matchOn wsX6_pairOn := goodIn_r _ [25, 26, 27, 3, 28, 5, 6, 7, 29, 30, 31] (by decide +kernel) (by decide +kernel)
set_option maxRecDepth 20000 in
theorem gX6_matchOn_X6_pairOn : GoodIn wsX6_matchOn (va_wsS RX6 81 yX6_pairOn wsX6_pairOn) := goodIn_app (goodIn_of _ (by decide +kernel)) ggX6_matchOn_X6_pairOn
theorem dX6_matchOn_0 : decode cX6_matchOn 0 = .ok (.iconst 0, 1) := by decide +kernel
theorem dX6_matchOn_1 : decode cX6_matchOn 1 = .ok (.istore_n 1, 1) := by decide +kernel
theorem dX6_matchOn_2 : decode cX6_matchOn 2 = .ok (.iconst 1, 1) := by decide +kernel
theorem dX6_matchOn_3 : decode cX6_matchOn 3 = .ok (.istore_n 2, 1) := by decide +kernel
theorem dX6_matchOn_4 : decode cX6_matchOn 4 = .ok (.iload_n 2, 1) := by decide +kernel
theorem dX6_matchOn_5 : decode cX6_matchOn 5 = .ok (.ifCond .eq 152, 3) := by decide +kernel
theorem dX6_matchOn_8 : decode cX6_matchOn 8 = .ok (.sipush (-9999), 3) := by decide +kernel
theorem dX6_matchOn_11 : decode cX6_matchOn 11 = .ok (.istore_n 3, 1) := by decide +kernel
theorem dX6_matchOn_12 : decode cX6_matchOn 12 = .ok (.sipush (-9999), 3) := by decide +kernel
theorem dX6_matchOn_15 : decode cX6_matchOn 15 = .ok (.istore 4, 2) := by decide +kernel
theorem dX6_matchOn_17 : decode cX6_matchOn 17 = .ok (.iconst 0, 1) := by decide +kernel
theorem dX6_matchOn_18 : decode cX6_matchOn 18 = .ok (.istore 5, 2) := by decide +kernel
theorem dX6_matchOn_20 : decode cX6_matchOn 20 = .ok (.iload 5, 2) := by decide +kernel
theorem dX6_matchOn_22 : decode cX6_matchOn 22 = .ok (.aload_n 0, 1) := by decide +kernel
theorem dX6_matchOn_23 : decode cX6_matchOn 23 = .ok (.iconst 0, 1) := by decide +kernel
theorem dX6_matchOn_24 : decode cX6_matchOn 24 = .ok (.iaload, 1) := by decide +kernel
theorem dX6_matchOn_25 : decode cX6_matchOn 25 = .ok (.if_icmp .ge 102, 3) := by decide +kernel
theorem dX6_matchOn_28 : decode cX6_matchOn 28 = .ok (.iload 5, 2) := by decide +kernel
theorem dX6_matchOn_30 : decode cX6_matchOn 30 = .ok (.iconst 1, 1) := by decide +kernel
theorem dX6_matchOn_31 : decode cX6_matchOn 31 = .ok (.iadd, 1) := by decide +kernel
theorem dX6_matchOn_32 : decode cX6_matchOn 32 = .ok (.istore 6, 2) := by decide +kernel
theorem dX6_matchOn_34 : decode cX6_matchOn 34 = .ok (.iload 6, 2) := by decide +kernel
theorem dX6_matchOn_36 : decode cX6_matchOn 36 = .ok (.aload_n 0, 1) := by decide +kernel
theorem dX6_matchOn_37 : decode cX6_matchOn 37 = .ok (.iconst 0, 1) := by decide +kernel
theorem dX6_matchOn_38 : decode cX6_matchOn 38 = .ok (.iaload, 1) := by decide +kernel
theorem dX6_matchOn_39 : decode cX6_matchOn 39 = .ok (.if_icmp .ge 82, 3) := by decide +kernel
theorem dX6_matchOn_42 : decode cX6_matchOn 42 = .ok (.aload_n 0, 1) := by decide +kernel
theorem dX6_matchOn_43 : decode cX6_matchOn 43 = .ok (.iload 5, 2) := by decide +kernel
theorem dX6_matchOn_45 : decode cX6_matchOn 45 = .ok (.invokestatic 60, 3) := by decide +kernel
theorem dX6_matchOn_48 : decode cX6_matchOn 48 = .ok (.ifCond .eq 27, 3) := by decide +kernel
theorem dX6_matchOn_51 : decode cX6_matchOn 51 = .ok (.aload_n 0, 1) := by decide +kernel
theorem dX6_matchOn_52 : decode cX6_matchOn 52 = .ok (.iload 6, 2) := by decide +kernel
theorem dX6_matchOn_54 : decode cX6_matchOn 54 = .ok (.invokestatic 60, 3) := by decide +kernel
theorem dX6_matchOn_57 : decode cX6_matchOn 57 = .ok (.ifCond .eq 18, 3) := by decide +kernel
theorem dX6_matchOn_60 : decode cX6_matchOn 60 = .ok (.aload_n 0, 1) := by decide +kernel
theorem dX6_matchOn_61 : decode cX6_matchOn 61 = .ok (.iload 5, 2) := by decide +kernel
theorem dX6_matchOn_63 : decode cX6_matchOn 63 = .ok (.iload 6, 2) := by decide +kernel
theorem dX6_matchOn_65 : decode cX6_matchOn 65 = .ok (.invokestatic 64, 3) := by decide +kernel
theorem dX6_matchOn_68 : decode cX6_matchOn 68 = .ok (.ifCond .eq 7, 3) := by decide +kernel
theorem dX6_matchOn_71 : decode cX6_matchOn 71 = .ok (.iconst 1, 1) := by decide +kernel
theorem dX6_matchOn_72 : decode cX6_matchOn 72 = .ok (.goto 4, 3) := by decide +kernel
theorem dX6_matchOn_75 : decode cX6_matchOn 75 = .ok (.iconst 0, 1) := by decide +kernel
theorem dX6_matchOn_76 : decode cX6_matchOn 76 = .ok (.istore 7, 2) := by decide +kernel
theorem dX6_matchOn_78 : decode cX6_matchOn 78 = .ok (.iload 7, 2) := by decide +kernel
theorem dX6_matchOn_80 : decode cX6_matchOn 80 = .ok (.ifCond .eq 35, 3) := by decide +kernel
theorem dX6_matchOn_83 : decode cX6_matchOn 83 = .ok (.iload_n 3, 1) := by decide +kernel
theorem dX6_matchOn_84 : decode cX6_matchOn 84 = .ok (.sipush (-9999), 3) := by decide +kernel
theorem dX6_matchOn_87 : decode cX6_matchOn 87 = .ok (.if_icmp .eq 21, 3) := by decide +kernel
theorem dX6_matchOn_90 : decode cX6_matchOn 90 = .ok (.aload_n 0, 1) := by decide +kernel
theorem dX6_matchOn_91 : decode cX6_matchOn 91 = .ok (.iload 5, 2) := by decide +kernel
theorem dX6_matchOn_93 : decode cX6_matchOn 93 = .ok (.iload 6, 2) := by decide +kernel
theorem dX6_matchOn_95 : decode cX6_matchOn 95 = .ok (.invokestatic 78, 3) := by decide +kernel
theorem dX6_matchOn_98 : decode cX6_matchOn 98 = .ok (.aload_n 0, 1) := by decide +kernel
theorem dX6_matchOn_99 : decode cX6_matchOn 99 = .ok (.iload_n 3, 1) := by decide +kernel
theorem dX6_matchOn_100 : decode cX6_matchOn 100 = .ok (.iload 4, 2) := by decide +kernel
theorem dX6_matchOn_102 : decode cX6_matchOn 102 = .ok (.invokestatic 78, 3) := by decide +kernel
theorem dX6_matchOn_105 : decode cX6_matchOn 105 = .ok (.if_icmp .le 10, 3) := by decide +kernel
theorem dX6_matchOn_108 : decode cX6_matchOn 108 = .ok (.iload 5, 2) := by decide +kernel
theorem dX6_matchOn_110 : decode cX6_matchOn 110 = .ok (.istore_n 3, 1) := by decide +kernel
theorem dX6_matchOn_111 : decode cX6_matchOn 111 = .ok (.iload 6, 2) := by decide +kernel
theorem dX6_matchOn_113 : decode cX6_matchOn 113 = .ok (.istore 4, 2) := by decide +kernel
theorem dX6_matchOn_115 : decode cX6_matchOn 115 = .ok (.iinc 6 1, 3) := by decide +kernel
theorem dX6_matchOn_118 : decode cX6_matchOn 118 = .ok (.goto (-84), 3) := by decide +kernel
theorem dX6_matchOn_121 : decode cX6_matchOn 121 = .ok (.iinc 5 1, 3) := by decide +kernel
theorem dX6_matchOn_124 : decode cX6_matchOn 124 = .ok (.goto (-104), 3) := by decide +kernel
theorem dX6_matchOn_127 : decode cX6_matchOn 127 = .ok (.iload_n 3, 1) := by decide +kernel
theorem dX6_matchOn_128 : decode cX6_matchOn 128 = .ok (.sipush (-9999), 3) := by decide +kernel
theorem dX6_matchOn_131 : decode cX6_matchOn 131 = .ok (.if_icmp .eq 7, 3) := by decide +kernel
theorem dX6_matchOn_134 : decode cX6_matchOn 134 = .ok (.iconst 1, 1) := by decide +kernel
theorem dX6_matchOn_135 : decode cX6_matchOn 135 = .ok (.goto 4, 3) := by decide +kernel
theorem dX6_matchOn_138 : decode cX6_matchOn 138 = .ok (.iconst 0, 1) := by decide +kernel
theorem dX6_matchOn_139 : decode cX6_matchOn 139 = .ok (.istore_n 2, 1) := by decide +kernel
theorem dX6_matchOn_140 : decode cX6_matchOn 140 = .ok (.iload_n 2, 1) := by decide +kernel
theorem dX6_matchOn_141 : decode cX6_matchOn 141 = .ok (.ifCond .eq 13, 3) := by decide +kernel
theorem dX6_matchOn_144 : decode cX6_matchOn 144 = .ok (.aload_n 0, 1) := by decide +kernel
theorem dX6_matchOn_145 : decode cX6_matchOn 145 = .ok (.iload_n 3, 1) := by decide +kernel
theorem dX6_matchOn_146 : decode cX6_matchOn 146 = .ok (.iload 4, 2) := by decide +kernel
theorem dX6_matchOn_148 : decode cX6_matchOn 148 = .ok (.invokestatic 81, 3) := by decide +kernel
theorem dX6_matchOn_151 : decode cX6_matchOn 151 = .ok (.iinc 1 1, 3) := by decide +kernel
theorem dX6_matchOn_154 : decode cX6_matchOn 154 = .ok (.goto (-150), 3) := by decide +kernel
theorem dX6_matchOn_157 : decode cX6_matchOn 157 = .ok (.iload_n 1, 1) := by decide +kernel
theorem dX6_matchOn_158 : decode cX6_matchOn 158 = .ok (.ireturn, 1) := by decide +kernel
set_option maxRecDepth 20000 in
theorem ggX6_blockAt_X6_block : GoodIn wsX6_blockAt wsX6_block := goodIn_r _ [4, 5, 6, 3, 7, 8, 9, 10, 11, 12, 13, 14, 15, 16, 17, 18, 19, 20, 21, 22, 23, 24, 25] (by decide +kernel) (by decide +kernel)
set_option maxRecDepth 20000 in
theorem gX6_blockAt_X6_block : GoodIn wsX6_blockAt (va_wsS RX6 85 yX6_block wsX6_block) := goodIn_app (goodIn_of _ (by decide +kernel)) ggX6_blockAt_X6_block
theorem dX6_blockAt_0 : decode cX6_blockAt 0 = .ok (.iload_n 1, 1) := by decide +kernel
theorem dX6_blockAt_1 : decode cX6_blockAt 1 = .ok (.istore_n 2, 1) := by decide +kernel
theorem dX6_blockAt_2 : decode cX6_blockAt 2 = .ok (.iconst 0, 1) := by decide +kernel
theorem dX6_blockAt_3 : decode cX6_blockAt 3 = .ok (.istore_n 3, 1) := by decide +kernel
theorem dX6_blockAt_4 : decode cX6_blockAt 4 = .ok (.iload_n 3, 1) := by decide +kernel
theorem dX6_blockAt_5 : decode cX6_blockAt 5 = .ok (.aload_n 0, 1) := by decide +kernel
theorem dX6_blockAt_6 : decode cX6_blockAt 6 = .ok (.iconst 0, 1) := by decide +kernel
theorem dX6_blockAt_7 : decode cX6_blockAt 7 = .ok (.iaload, 1) := by decide +kernel
theorem dX6_blockAt_8 : decode cX6_blockAt 8 = .ok (.if_icmp .ge 53, 3) := by decide +kernel
theorem dX6_blockAt_11 : decode cX6_blockAt 11 = .ok (.iload_n 3, 1) := by decide +kernel
theorem dX6_blockAt_12 : decode cX6_blockAt 12 = .ok (.iconst 1, 1) := by decide +kernel
theorem dX6_blockAt_13 : decode cX6_blockAt 13 = .ok (.iadd, 1) := by decide +kernel
theorem dX6_blockAt_14 : decode cX6_blockAt 14 = .ok (.istore 4, 2) := by decide +kernel
theorem dX6_blockAt_16 : decode cX6_blockAt 16 = .ok (.iload 4, 2) := by decide +kernel
theorem dX6_blockAt_18 : decode cX6_blockAt 18 = .ok (.aload_n 0, 1) := by decide +kernel
theorem dX6_blockAt_19 : decode cX6_blockAt 19 = .ok (.iconst 0, 1) := by decide +kernel
theorem dX6_blockAt_20 : decode cX6_blockAt 20 = .ok (.iaload, 1) := by decide +kernel
theorem dX6_blockAt_21 : decode cX6_blockAt 21 = .ok (.if_icmp .ge 34, 3) := by decide +kernel
theorem dX6_blockAt_24 : decode cX6_blockAt 24 = .ok (.aload_n 0, 1) := by decide +kernel
theorem dX6_blockAt_25 : decode cX6_blockAt 25 = .ok (.iload_n 3, 1) := by decide +kernel
theorem dX6_blockAt_26 : decode cX6_blockAt 26 = .ok (.iload 4, 2) := by decide +kernel
theorem dX6_blockAt_28 : decode cX6_blockAt 28 = .ok (.invokestatic 85, 3) := by decide +kernel
theorem dX6_blockAt_31 : decode cX6_blockAt 31 = .ok (.ifCond .eq 18, 3) := by decide +kernel
theorem dX6_blockAt_34 : decode cX6_blockAt 34 = .ok (.iload_n 2, 1) := by decide +kernel
theorem dX6_blockAt_35 : decode cX6_blockAt 35 = .ok (.ifCond .ne 11, 3) := by decide +kernel
theorem dX6_blockAt_38 : decode cX6_blockAt 38 = .ok (.bipush 10, 2) := by decide +kernel
theorem dX6_blockAt_40 : decode cX6_blockAt 40 = .ok (.iload_n 3, 1) := by decide +kernel
theorem dX6_blockAt_41 : decode cX6_blockAt 41 = .ok (.imul, 1) := by decide +kernel
theorem dX6_blockAt_42 : decode cX6_blockAt 42 = .ok (.iload 4, 2) := by decide +kernel
theorem dX6_blockAt_44 : decode cX6_blockAt 44 = .ok (.iadd, 1) := by decide +kernel
theorem dX6_blockAt_45 : decode cX6_blockAt 45 = .ok (.ireturn, 1) := by decide +kernel
theorem dX6_blockAt_46 : decode cX6_blockAt 46 = .ok (.iinc 2 (-1), 3) := by decide +kernel
theorem dX6_blockAt_49 : decode cX6_blockAt 49 = .ok (.iinc 4 1, 3) := by decide +kernel
theorem dX6_blockAt_52 : decode cX6_blockAt 52 = .ok (.goto (-36), 3) := by decide +kernel
theorem dX6_blockAt_55 : decode cX6_blockAt 55 = .ok (.iinc 3 1, 3) := by decide +kernel
theorem dX6_blockAt_58 : decode cX6_blockAt 58 = .ok (.goto (-54), 3) := by decide +kernel
theorem dX6_blockAt_61 : decode cX6_blockAt 61 = .ok (.sipush (-9999), 3) := by decide +kernel
theorem dX6_blockAt_64 : decode cX6_blockAt 64 = .ok (.ireturn, 1) := by decide +kernel
set_option maxRecDepth 20000 in
theorem ggX6_settleOn_X6_blockAt : GoodIn wsX6_settleOn wsX6_blockAt := goodIn_r _ [4, 5, 6, 3, 7, 8, 9, 10, 11, 12, 13, 14, 15, 16, 17, 18, 19, 20, 21, 22, 23, 24, 25, 26, 27, 28] (by decide +kernel) (by decide +kernel)
set_option maxRecDepth 20000 in
theorem gX6_settleOn_X6_blockAt : GoodIn wsX6_settleOn (va_wsS RX6 88 yX6_blockAt wsX6_blockAt) := goodIn_app (goodIn_of _ (by decide +kernel)) ggX6_settleOn_X6_blockAt
set_option maxRecDepth 20000 in
theorem ggX6_settleOn_X6_pairOn : GoodIn wsX6_settleOn wsX6_pairOn := goodIn_r _ [31, 32, 33, 3, 34, 14, 15, 16, 35, 36, 37] (by decide +kernel) (by decide +kernel)
set_option maxRecDepth 20000 in
theorem gX6_settleOn_X6_pairOn : GoodIn wsX6_settleOn (va_wsS RX6 81 yX6_pairOn wsX6_pairOn) := goodIn_app (goodIn_of _ (by decide +kernel)) ggX6_settleOn_X6_pairOn
theorem dX6_settleOn_0 : decode cX6_settleOn 0 = .ok (.iconst 0, 1) := by decide +kernel
theorem dX6_settleOn_1 : decode cX6_settleOn 1 = .ok (.istore_n 2, 1) := by decide +kernel
theorem dX6_settleOn_2 : decode cX6_settleOn 2 = .ok (.aload_n 0, 1) := by decide +kernel
theorem dX6_settleOn_3 : decode cX6_settleOn 3 = .ok (.iconst 0, 1) := by decide +kernel
theorem dX6_settleOn_4 : decode cX6_settleOn 4 = .ok (.invokestatic 88, 3) := by decide +kernel
theorem dX6_settleOn_7 : decode cX6_settleOn 7 = .ok (.istore_n 3, 1) := by decide +kernel
theorem dX6_settleOn_8 : decode cX6_settleOn 8 = .ok (.iload_n 2, 1) := by decide +kernel
theorem dX6_settleOn_9 : decode cX6_settleOn 9 = .ok (.iload_n 1, 1) := by decide +kernel
theorem dX6_settleOn_10 : decode cX6_settleOn 10 = .ok (.if_icmp .ge 34, 3) := by decide +kernel
theorem dX6_settleOn_13 : decode cX6_settleOn 13 = .ok (.iload_n 3, 1) := by decide +kernel
theorem dX6_settleOn_14 : decode cX6_settleOn 14 = .ok (.sipush (-9999), 3) := by decide +kernel
theorem dX6_settleOn_17 : decode cX6_settleOn 17 = .ok (.if_icmp .eq 27, 3) := by decide +kernel
theorem dX6_settleOn_20 : decode cX6_settleOn 20 = .ok (.aload_n 0, 1) := by decide +kernel
theorem dX6_settleOn_21 : decode cX6_settleOn 21 = .ok (.iload_n 3, 1) := by decide +kernel
theorem dX6_settleOn_22 : decode cX6_settleOn 22 = .ok (.bipush 10, 2) := by decide +kernel
theorem dX6_settleOn_24 : decode cX6_settleOn 24 = .ok (.idiv, 1) := by decide +kernel
theorem dX6_settleOn_25 : decode cX6_settleOn 25 = .ok (.iload_n 3, 1) := by decide +kernel
theorem dX6_settleOn_26 : decode cX6_settleOn 26 = .ok (.bipush 10, 2) := by decide +kernel
theorem dX6_settleOn_28 : decode cX6_settleOn 28 = .ok (.irem, 1) := by decide +kernel
theorem dX6_settleOn_29 : decode cX6_settleOn 29 = .ok (.invokestatic 81, 3) := by decide +kernel
theorem dX6_settleOn_32 : decode cX6_settleOn 32 = .ok (.iinc 2 1, 3) := by decide +kernel
theorem dX6_settleOn_35 : decode cX6_settleOn 35 = .ok (.aload_n 0, 1) := by decide +kernel
theorem dX6_settleOn_36 : decode cX6_settleOn 36 = .ok (.iconst 0, 1) := by decide +kernel
theorem dX6_settleOn_37 : decode cX6_settleOn 37 = .ok (.invokestatic 88, 3) := by decide +kernel
theorem dX6_settleOn_40 : decode cX6_settleOn 40 = .ok (.istore_n 3, 1) := by decide +kernel
theorem dX6_settleOn_41 : decode cX6_settleOn 41 = .ok (.goto (-33), 3) := by decide +kernel
theorem dX6_settleOn_44 : decode cX6_settleOn 44 = .ok (.iload_n 2, 1) := by decide +kernel
theorem dX6_settleOn_45 : decode cX6_settleOn 45 = .ok (.ireturn, 1) := by decide +kernel
set_option maxRecDepth 20000 in
theorem ggX6_credit_X6_at : GoodIn wsX6_credit wsX6_at := goodIn_r _ [4] (by decide +kernel) (by decide +kernel)
set_option maxRecDepth 20000 in
theorem gX6_credit_X6_at : GoodIn wsX6_credit (va_wsS RX6 46 yX6_at wsX6_at) := goodIn_app (goodIn_of _ (by decide +kernel)) ggX6_credit_X6_at
theorem dX6_credit_0 : decode cX6_credit 0 = .ok (.aload_n 0, 1) := by decide +kernel
theorem dX6_credit_1 : decode cX6_credit 1 = .ok (.iload_n 1, 1) := by decide +kernel
theorem dX6_credit_2 : decode cX6_credit 2 = .ok (.invokestatic 46, 3) := by decide +kernel
theorem dX6_credit_5 : decode cX6_credit 5 = .ok (.bipush 6, 2) := by decide +kernel
theorem dX6_credit_7 : decode cX6_credit 7 = .ok (.iadd, 1) := by decide +kernel
theorem dX6_credit_8 : decode cX6_credit 8 = .ok (.iaload, 1) := by decide +kernel
theorem dX6_credit_9 : decode cX6_credit 9 = .ok (.iload_n 2, 1) := by decide +kernel
theorem dX6_credit_10 : decode cX6_credit 10 = .ok (.iadd, 1) := by decide +kernel
theorem dX6_credit_11 : decode cX6_credit 11 = .ok (.istore_n 3, 1) := by decide +kernel
theorem dX6_credit_12 : decode cX6_credit 12 = .ok (.aload_n 0, 1) := by decide +kernel
theorem dX6_credit_13 : decode cX6_credit 13 = .ok (.iload_n 1, 1) := by decide +kernel
theorem dX6_credit_14 : decode cX6_credit 14 = .ok (.invokestatic 46, 3) := by decide +kernel
theorem dX6_credit_17 : decode cX6_credit 17 = .ok (.bipush 6, 2) := by decide +kernel
theorem dX6_credit_19 : decode cX6_credit 19 = .ok (.iadd, 1) := by decide +kernel
theorem dX6_credit_20 : decode cX6_credit 20 = .ok (.iload_n 3, 1) := by decide +kernel
theorem dX6_credit_21 : decode cX6_credit 21 = .ok (.bipush 99, 2) := by decide +kernel
theorem dX6_credit_23 : decode cX6_credit 23 = .ok (.if_icmp .le 8, 3) := by decide +kernel
theorem dX6_credit_26 : decode cX6_credit 26 = .ok (.bipush 99, 2) := by decide +kernel
theorem dX6_credit_28 : decode cX6_credit 28 = .ok (.goto 15, 3) := by decide +kernel
theorem dX6_credit_31 : decode cX6_credit 31 = .ok (.iload_n 3, 1) := by decide +kernel
theorem dX6_credit_32 : decode cX6_credit 32 = .ok (.bipush (-99), 2) := by decide +kernel
theorem dX6_credit_34 : decode cX6_credit 34 = .ok (.if_icmp .ge 8, 3) := by decide +kernel
theorem dX6_credit_37 : decode cX6_credit 37 = .ok (.bipush (-99), 2) := by decide +kernel
theorem dX6_credit_39 : decode cX6_credit 39 = .ok (.goto 4, 3) := by decide +kernel
theorem dX6_credit_42 : decode cX6_credit 42 = .ok (.iload_n 3, 1) := by decide +kernel
theorem dX6_credit_43 : decode cX6_credit 43 = .ok (.iastore, 1) := by decide +kernel
theorem dX6_credit_44 : decode cX6_credit 44 = .ok (.return_, 1) := by decide +kernel
set_option maxRecDepth 20000 in
theorem ggX6_learn_X6_at : GoodIn wsX6_learn wsX6_at := goodIn_r _ [4] (by decide +kernel) (by decide +kernel)
set_option maxRecDepth 20000 in
theorem gX6_learn_X6_at : GoodIn wsX6_learn (va_wsS RX6 46 yX6_at wsX6_at) := goodIn_app (goodIn_of _ (by decide +kernel)) ggX6_learn_X6_at
theorem dX6_learn_0 : decode cX6_learn 0 = .ok (.iload_n 1, 1) := by decide +kernel
theorem dX6_learn_1 : decode cX6_learn 1 = .ok (.invokestatic 46, 3) := by decide +kernel
theorem dX6_learn_4 : decode cX6_learn 4 = .ok (.istore_n 3, 1) := by decide +kernel
theorem dX6_learn_5 : decode cX6_learn 5 = .ok (.iload_n 3, 1) := by decide +kernel
theorem dX6_learn_6 : decode cX6_learn 6 = .ok (.aload_n 0, 1) := by decide +kernel
theorem dX6_learn_7 : decode cX6_learn 7 = .ok (.iload_n 3, 1) := by decide +kernel
theorem dX6_learn_8 : decode cX6_learn 8 = .ok (.iconst 4, 1) := by decide +kernel
theorem dX6_learn_9 : decode cX6_learn 9 = .ok (.iadd, 1) := by decide +kernel
theorem dX6_learn_10 : decode cX6_learn 10 = .ok (.iaload, 1) := by decide +kernel
theorem dX6_learn_11 : decode cX6_learn 11 = .ok (.iadd, 1) := by decide +kernel
theorem dX6_learn_12 : decode cX6_learn 12 = .ok (.istore 4, 2) := by decide +kernel
theorem dX6_learn_14 : decode cX6_learn 14 = .ok (.aload_n 0, 1) := by decide +kernel
theorem dX6_learn_15 : decode cX6_learn 15 = .ok (.iload_n 3, 1) := by decide +kernel
theorem dX6_learn_16 : decode cX6_learn 16 = .ok (.iconst 5, 1) := by decide +kernel
theorem dX6_learn_17 : decode cX6_learn 17 = .ok (.iadd, 1) := by decide +kernel
theorem dX6_learn_18 : decode cX6_learn 18 = .ok (.dup2, 1) := by decide +kernel
theorem dX6_learn_19 : decode cX6_learn 19 = .ok (.iaload, 1) := by decide +kernel
theorem dX6_learn_20 : decode cX6_learn 20 = .ok (.iload_n 2, 1) := by decide +kernel
theorem dX6_learn_21 : decode cX6_learn 21 = .ok (.iconst 1, 1) := by decide +kernel
theorem dX6_learn_22 : decode cX6_learn 22 = .ok (.if_icmp .ge 7, 3) := by decide +kernel
theorem dX6_learn_25 : decode cX6_learn 25 = .ok (.iconst 1, 1) := by decide +kernel
theorem dX6_learn_26 : decode cX6_learn 26 = .ok (.goto 4, 3) := by decide +kernel
theorem dX6_learn_29 : decode cX6_learn 29 = .ok (.iload_n 2, 1) := by decide +kernel
theorem dX6_learn_30 : decode cX6_learn 30 = .ok (.iadd, 1) := by decide +kernel
theorem dX6_learn_31 : decode cX6_learn 31 = .ok (.iastore, 1) := by decide +kernel
theorem dX6_learn_32 : decode cX6_learn 32 = .ok (.aload_n 0, 1) := by decide +kernel
theorem dX6_learn_33 : decode cX6_learn 33 = .ok (.iload_n 3, 1) := by decide +kernel
theorem dX6_learn_34 : decode cX6_learn 34 = .ok (.iconst 5, 1) := by decide +kernel
theorem dX6_learn_35 : decode cX6_learn 35 = .ok (.iadd, 1) := by decide +kernel
theorem dX6_learn_36 : decode cX6_learn 36 = .ok (.iaload, 1) := by decide +kernel
theorem dX6_learn_37 : decode cX6_learn 37 = .ok (.bipush 20, 2) := by decide +kernel
theorem dX6_learn_39 : decode cX6_learn 39 = .ok (.if_icmp .lt 21, 3) := by decide +kernel
theorem dX6_learn_42 : decode cX6_learn 42 = .ok (.aload_n 0, 1) := by decide +kernel
theorem dX6_learn_43 : decode cX6_learn 43 = .ok (.iload_n 3, 1) := by decide +kernel
theorem dX6_learn_44 : decode cX6_learn 44 = .ok (.iconst 5, 1) := by decide +kernel
theorem dX6_learn_45 : decode cX6_learn 45 = .ok (.iadd, 1) := by decide +kernel
theorem dX6_learn_46 : decode cX6_learn 46 = .ok (.dup2, 1) := by decide +kernel
theorem dX6_learn_47 : decode cX6_learn 47 = .ok (.iaload, 1) := by decide +kernel
theorem dX6_learn_48 : decode cX6_learn 48 = .ok (.bipush 20, 2) := by decide +kernel
theorem dX6_learn_50 : decode cX6_learn 50 = .ok (.isub, 1) := by decide +kernel
theorem dX6_learn_51 : decode cX6_learn 51 = .ok (.iastore, 1) := by decide +kernel
theorem dX6_learn_52 : decode cX6_learn 52 = .ok (.aload_n 0, 1) := by decide +kernel
theorem dX6_learn_53 : decode cX6_learn 53 = .ok (.iload 4, 2) := by decide +kernel
theorem dX6_learn_55 : decode cX6_learn 55 = .ok (.dup2, 1) := by decide +kernel
theorem dX6_learn_56 : decode cX6_learn 56 = .ok (.iaload, 1) := by decide +kernel
theorem dX6_learn_57 : decode cX6_learn 57 = .ok (.iconst 1, 1) := by decide +kernel
theorem dX6_learn_58 : decode cX6_learn 58 = .ok (.iadd, 1) := by decide +kernel
theorem dX6_learn_59 : decode cX6_learn 59 = .ok (.iastore, 1) := by decide +kernel
theorem dX6_learn_60 : decode cX6_learn 60 = .ok (.aload_n 0, 1) := by decide +kernel
theorem dX6_learn_61 : decode cX6_learn 61 = .ok (.iload_n 3, 1) := by decide +kernel
theorem dX6_learn_62 : decode cX6_learn 62 = .ok (.iconst 5, 1) := by decide +kernel
theorem dX6_learn_63 : decode cX6_learn 63 = .ok (.iadd, 1) := by decide +kernel
theorem dX6_learn_64 : decode cX6_learn 64 = .ok (.aload_n 0, 1) := by decide +kernel
theorem dX6_learn_65 : decode cX6_learn 65 = .ok (.iload 4, 2) := by decide +kernel
theorem dX6_learn_67 : decode cX6_learn 67 = .ok (.iaload, 1) := by decide +kernel
theorem dX6_learn_68 : decode cX6_learn 68 = .ok (.bipush 9, 2) := by decide +kernel
theorem dX6_learn_70 : decode cX6_learn 70 = .ok (.if_icmp .lt 7, 3) := by decide +kernel
theorem dX6_learn_73 : decode cX6_learn 73 = .ok (.iconst 0, 1) := by decide +kernel
theorem dX6_learn_74 : decode cX6_learn 74 = .ok (.goto 8, 3) := by decide +kernel
theorem dX6_learn_77 : decode cX6_learn 77 = .ok (.aload_n 0, 1) := by decide +kernel
theorem dX6_learn_78 : decode cX6_learn 78 = .ok (.iload_n 3, 1) := by decide +kernel
theorem dX6_learn_79 : decode cX6_learn 79 = .ok (.iconst 5, 1) := by decide +kernel
theorem dX6_learn_80 : decode cX6_learn 80 = .ok (.iadd, 1) := by decide +kernel
theorem dX6_learn_81 : decode cX6_learn 81 = .ok (.iaload, 1) := by decide +kernel
theorem dX6_learn_82 : decode cX6_learn 82 = .ok (.iastore, 1) := by decide +kernel
theorem dX6_learn_83 : decode cX6_learn 83 = .ok (.aload_n 0, 1) := by decide +kernel
theorem dX6_learn_84 : decode cX6_learn 84 = .ok (.iload 4, 2) := by decide +kernel
theorem dX6_learn_86 : decode cX6_learn 86 = .ok (.aload_n 0, 1) := by decide +kernel
theorem dX6_learn_87 : decode cX6_learn 87 = .ok (.iload 4, 2) := by decide +kernel
theorem dX6_learn_89 : decode cX6_learn 89 = .ok (.iaload, 1) := by decide +kernel
theorem dX6_learn_90 : decode cX6_learn 90 = .ok (.bipush 9, 2) := by decide +kernel
theorem dX6_learn_92 : decode cX6_learn 92 = .ok (.if_icmp .le 8, 3) := by decide +kernel
theorem dX6_learn_95 : decode cX6_learn 95 = .ok (.bipush 9, 2) := by decide +kernel
theorem dX6_learn_97 : decode cX6_learn 97 = .ok (.goto 7, 3) := by decide +kernel
theorem dX6_learn_100 : decode cX6_learn 100 = .ok (.aload_n 0, 1) := by decide +kernel
theorem dX6_learn_101 : decode cX6_learn 101 = .ok (.iload 4, 2) := by decide +kernel
theorem dX6_learn_103 : decode cX6_learn 103 = .ok (.iaload, 1) := by decide +kernel
theorem dX6_learn_104 : decode cX6_learn 104 = .ok (.iastore, 1) := by decide +kernel
theorem dX6_learn_105 : decode cX6_learn 105 = .ok (.return_, 1) := by decide +kernel
set_option maxRecDepth 20000 in
theorem ggX6_miss_X6_at : GoodIn wsX6_miss wsX6_at := goodIn_r _ [4] (by decide +kernel) (by decide +kernel)
set_option maxRecDepth 20000 in
theorem gX6_miss_X6_at : GoodIn wsX6_miss (va_wsS RX6 46 yX6_at wsX6_at) := goodIn_app (goodIn_of _ (by decide +kernel)) ggX6_miss_X6_at
set_option maxRecDepth 20000 in
theorem ggX6_miss_X6_credit : GoodIn wsX6_miss wsX6_credit := goodIn_r _ [7, 1, 2, 3, 4] (by decide +kernel) (by decide +kernel)
set_option maxRecDepth 20000 in
theorem gX6_miss_X6_credit : GoodIn wsX6_miss (va_wsS RX6 92 yX6_credit wsX6_credit) := goodIn_app (goodIn_of _ (by decide +kernel)) ggX6_miss_X6_credit
theorem dX6_miss_0 : decode cX6_miss 0 = .ok (.aload_n 0, 1) := by decide +kernel
theorem dX6_miss_1 : decode cX6_miss 1 = .ok (.iload_n 1, 1) := by decide +kernel
theorem dX6_miss_2 : decode cX6_miss 2 = .ok (.invokestatic 46, 3) := by decide +kernel
theorem dX6_miss_5 : decode cX6_miss 5 = .ok (.bipush 7, 2) := by decide +kernel
theorem dX6_miss_7 : decode cX6_miss 7 = .ok (.iadd, 1) := by decide +kernel
theorem dX6_miss_8 : decode cX6_miss 8 = .ok (.dup2, 1) := by decide +kernel
theorem dX6_miss_9 : decode cX6_miss 9 = .ok (.iaload, 1) := by decide +kernel
theorem dX6_miss_10 : decode cX6_miss 10 = .ok (.iload_n 2, 1) := by decide +kernel
theorem dX6_miss_11 : decode cX6_miss 11 = .ok (.ifCond .eq 7, 3) := by decide +kernel
theorem dX6_miss_14 : decode cX6_miss 14 = .ok (.iconst 1, 1) := by decide +kernel
theorem dX6_miss_15 : decode cX6_miss 15 = .ok (.goto 4, 3) := by decide +kernel
theorem dX6_miss_18 : decode cX6_miss 18 = .ok (.iconst 0, 1) := by decide +kernel
theorem dX6_miss_19 : decode cX6_miss 19 = .ok (.iadd, 1) := by decide +kernel
theorem dX6_miss_20 : decode cX6_miss 20 = .ok (.iastore, 1) := by decide +kernel
theorem dX6_miss_21 : decode cX6_miss 21 = .ok (.aload_n 0, 1) := by decide +kernel
theorem dX6_miss_22 : decode cX6_miss 22 = .ok (.iload_n 1, 1) := by decide +kernel
theorem dX6_miss_23 : decode cX6_miss 23 = .ok (.invokestatic 46, 3) := by decide +kernel
theorem dX6_miss_26 : decode cX6_miss 26 = .ok (.bipush 9, 2) := by decide +kernel
theorem dX6_miss_28 : decode cX6_miss 28 = .ok (.iadd, 1) := by decide +kernel
theorem dX6_miss_29 : decode cX6_miss 29 = .ok (.dup2, 1) := by decide +kernel
theorem dX6_miss_30 : decode cX6_miss 30 = .ok (.iaload, 1) := by decide +kernel
theorem dX6_miss_31 : decode cX6_miss 31 = .ok (.iconst 1, 1) := by decide +kernel
theorem dX6_miss_32 : decode cX6_miss 32 = .ok (.iadd, 1) := by decide +kernel
theorem dX6_miss_33 : decode cX6_miss 33 = .ok (.iastore, 1) := by decide +kernel
theorem dX6_miss_34 : decode cX6_miss 34 = .ok (.aload_n 0, 1) := by decide +kernel
theorem dX6_miss_35 : decode cX6_miss 35 = .ok (.iload_n 1, 1) := by decide +kernel
theorem dX6_miss_36 : decode cX6_miss 36 = .ok (.iload_n 2, 1) := by decide +kernel
theorem dX6_miss_37 : decode cX6_miss 37 = .ok (.ifCond .eq 8, 3) := by decide +kernel
theorem dX6_miss_40 : decode cX6_miss 40 = .ok (.bipush (-3), 2) := by decide +kernel
theorem dX6_miss_42 : decode cX6_miss 42 = .ok (.goto 4, 3) := by decide +kernel
theorem dX6_miss_45 : decode cX6_miss 45 = .ok (.iconst 2, 1) := by decide +kernel
theorem dX6_miss_46 : decode cX6_miss 46 = .ok (.invokestatic 92, 3) := by decide +kernel
theorem dX6_miss_49 : decode cX6_miss 49 = .ok (.return_, 1) := by decide +kernel
set_option maxRecDepth 20000 in
theorem ggX6_meet_X6_miss : GoodIn wsX6_meet wsX6_miss := goodIn_r _ [4, 5, 6, 3, 7, 8, 9, 10] (by decide +kernel) (by decide +kernel)
set_option maxRecDepth 20000 in
theorem gX6_meet_X6_miss : GoodIn wsX6_meet (va_wsS RX6 95 yX6_miss wsX6_miss) := goodIn_app (goodIn_of _ (by decide +kernel)) ggX6_meet_X6_miss
set_option maxRecDepth 20000 in
theorem ggX6_meet_X6_better : GoodIn wsX6_meet wsX6_better := goodIn_r _ [13, 5, 6, 3, 7] (by decide +kernel) (by decide +kernel)
set_option maxRecDepth 20000 in
theorem gX6_meet_X6_better : GoodIn wsX6_meet (va_wsS RX6 50 yX6_better wsX6_better) := goodIn_app (goodIn_of _ (by decide +kernel)) ggX6_meet_X6_better
set_option maxRecDepth 20000 in
theorem ggX6_meet_X6_at : GoodIn wsX6_meet wsX6_at := goodIn_r _ [7] (by decide +kernel) (by decide +kernel)
set_option maxRecDepth 20000 in
theorem gX6_meet_X6_at : GoodIn wsX6_meet (va_wsS RX6 46 yX6_at wsX6_at) := goodIn_app (goodIn_of _ (by decide +kernel)) ggX6_meet_X6_at
set_option maxRecDepth 20000 in
theorem ggX6_meet_X6_credit : GoodIn wsX6_meet wsX6_credit := goodIn_r _ [10, 5, 6, 3, 7] (by decide +kernel) (by decide +kernel)
set_option maxRecDepth 20000 in
theorem gX6_meet_X6_credit : GoodIn wsX6_meet (va_wsS RX6 92 yX6_credit wsX6_credit) := goodIn_app (goodIn_of _ (by decide +kernel)) ggX6_meet_X6_credit
set_option maxRecDepth 20000 in
theorem ggX6_meet_X6_learn : GoodIn wsX6_meet wsX6_learn := goodIn_r _ [16, 5, 6, 3, 7] (by decide +kernel) (by decide +kernel)
set_option maxRecDepth 20000 in
theorem gX6_meet_X6_learn : GoodIn wsX6_meet (va_wsS RX6 99 yX6_learn wsX6_learn) := goodIn_app (goodIn_of _ (by decide +kernel)) ggX6_meet_X6_learn
theorem dX6_meet_0 : decode cX6_meet 0 = .ok (.iload_n 3, 1) := by decide +kernel
theorem dX6_meet_1 : decode cX6_meet 1 = .ok (.iload_n 1, 1) := by decide +kernel
theorem dX6_meet_2 : decode cX6_meet 2 = .ok (.ishr, 1) := by decide +kernel
theorem dX6_meet_3 : decode cX6_meet 3 = .ok (.iconst 1, 1) := by decide +kernel
theorem dX6_meet_4 : decode cX6_meet 4 = .ok (.iand, 1) := by decide +kernel
theorem dX6_meet_5 : decode cX6_meet 5 = .ok (.iconst 1, 1) := by decide +kernel
theorem dX6_meet_6 : decode cX6_meet 6 = .ok (.if_icmp .ne 7, 3) := by decide +kernel
theorem dX6_meet_9 : decode cX6_meet 9 = .ok (.iconst 1, 1) := by decide +kernel
theorem dX6_meet_10 : decode cX6_meet 10 = .ok (.goto 4, 3) := by decide +kernel
theorem dX6_meet_13 : decode cX6_meet 13 = .ok (.iconst 0, 1) := by decide +kernel
theorem dX6_meet_14 : decode cX6_meet 14 = .ok (.istore 4, 2) := by decide +kernel
theorem dX6_meet_16 : decode cX6_meet 16 = .ok (.iload_n 3, 1) := by decide +kernel
theorem dX6_meet_17 : decode cX6_meet 17 = .ok (.iload_n 2, 1) := by decide +kernel
theorem dX6_meet_18 : decode cX6_meet 18 = .ok (.ishr, 1) := by decide +kernel
theorem dX6_meet_19 : decode cX6_meet 19 = .ok (.iconst 1, 1) := by decide +kernel
theorem dX6_meet_20 : decode cX6_meet 20 = .ok (.iand, 1) := by decide +kernel
theorem dX6_meet_21 : decode cX6_meet 21 = .ok (.iconst 1, 1) := by decide +kernel
theorem dX6_meet_22 : decode cX6_meet 22 = .ok (.if_icmp .ne 7, 3) := by decide +kernel
theorem dX6_meet_25 : decode cX6_meet 25 = .ok (.iconst 1, 1) := by decide +kernel
theorem dX6_meet_26 : decode cX6_meet 26 = .ok (.goto 4, 3) := by decide +kernel
theorem dX6_meet_29 : decode cX6_meet 29 = .ok (.iconst 0, 1) := by decide +kernel
theorem dX6_meet_30 : decode cX6_meet 30 = .ok (.istore 5, 2) := by decide +kernel
theorem dX6_meet_32 : decode cX6_meet 32 = .ok (.iload 4, 2) := by decide +kernel
theorem dX6_meet_34 : decode cX6_meet 34 = .ok (.ifCond .ne 8, 3) := by decide +kernel
theorem dX6_meet_37 : decode cX6_meet 37 = .ok (.iload 5, 2) := by decide +kernel
theorem dX6_meet_39 : decode cX6_meet 39 = .ok (.ifCond .eq 18, 3) := by decide +kernel
theorem dX6_meet_42 : decode cX6_meet 42 = .ok (.aload_n 0, 1) := by decide +kernel
theorem dX6_meet_43 : decode cX6_meet 43 = .ok (.iload_n 1, 1) := by decide +kernel
theorem dX6_meet_44 : decode cX6_meet 44 = .ok (.iload 4, 2) := by decide +kernel
theorem dX6_meet_46 : decode cX6_meet 46 = .ok (.invokestatic 95, 3) := by decide +kernel
theorem dX6_meet_49 : decode cX6_meet 49 = .ok (.aload_n 0, 1) := by decide +kernel
theorem dX6_meet_50 : decode cX6_meet 50 = .ok (.iload_n 2, 1) := by decide +kernel
theorem dX6_meet_51 : decode cX6_meet 51 = .ok (.iload 5, 2) := by decide +kernel
theorem dX6_meet_53 : decode cX6_meet 53 = .ok (.invokestatic 95, 3) := by decide +kernel
theorem dX6_meet_56 : decode cX6_meet 56 = .ok (.return_, 1) := by decide +kernel
theorem dX6_meet_57 : decode cX6_meet 57 = .ok (.iconst 4, 1) := by decide +kernel
theorem dX6_meet_58 : decode cX6_meet 58 = .ok (.aload_n 0, 1) := by decide +kernel
theorem dX6_meet_59 : decode cX6_meet 59 = .ok (.iload_n 1, 1) := by decide +kernel
theorem dX6_meet_60 : decode cX6_meet 60 = .ok (.iload_n 2, 1) := by decide +kernel
theorem dX6_meet_61 : decode cX6_meet 61 = .ok (.invokestatic 50, 3) := by decide +kernel
theorem dX6_meet_64 : decode cX6_meet 64 = .ok (.iadd, 1) := by decide +kernel
theorem dX6_meet_65 : decode cX6_meet 65 = .ok (.istore 6, 2) := by decide +kernel
theorem dX6_meet_67 : decode cX6_meet 67 = .ok (.iconst 4, 1) := by decide +kernel
theorem dX6_meet_68 : decode cX6_meet 68 = .ok (.aload_n 0, 1) := by decide +kernel
theorem dX6_meet_69 : decode cX6_meet 69 = .ok (.iload_n 2, 1) := by decide +kernel
theorem dX6_meet_70 : decode cX6_meet 70 = .ok (.iload_n 1, 1) := by decide +kernel
theorem dX6_meet_71 : decode cX6_meet 71 = .ok (.invokestatic 50, 3) := by decide +kernel
theorem dX6_meet_74 : decode cX6_meet 74 = .ok (.iadd, 1) := by decide +kernel
theorem dX6_meet_75 : decode cX6_meet 75 = .ok (.istore 7, 2) := by decide +kernel
theorem dX6_meet_77 : decode cX6_meet 77 = .ok (.aload_n 0, 1) := by decide +kernel
theorem dX6_meet_78 : decode cX6_meet 78 = .ok (.iload_n 1, 1) := by decide +kernel
theorem dX6_meet_79 : decode cX6_meet 79 = .ok (.invokestatic 46, 3) := by decide +kernel
theorem dX6_meet_82 : decode cX6_meet 82 = .ok (.bipush 9, 2) := by decide +kernel
theorem dX6_meet_84 : decode cX6_meet 84 = .ok (.iadd, 1) := by decide +kernel
theorem dX6_meet_85 : decode cX6_meet 85 = .ok (.iconst 0, 1) := by decide +kernel
theorem dX6_meet_86 : decode cX6_meet 86 = .ok (.iastore, 1) := by decide +kernel
theorem dX6_meet_87 : decode cX6_meet 87 = .ok (.aload_n 0, 1) := by decide +kernel
theorem dX6_meet_88 : decode cX6_meet 88 = .ok (.iload_n 2, 1) := by decide +kernel
theorem dX6_meet_89 : decode cX6_meet 89 = .ok (.invokestatic 46, 3) := by decide +kernel
theorem dX6_meet_92 : decode cX6_meet 92 = .ok (.bipush 9, 2) := by decide +kernel
theorem dX6_meet_94 : decode cX6_meet 94 = .ok (.iadd, 1) := by decide +kernel
theorem dX6_meet_95 : decode cX6_meet 95 = .ok (.iconst 0, 1) := by decide +kernel
theorem dX6_meet_96 : decode cX6_meet 96 = .ok (.iastore, 1) := by decide +kernel
theorem dX6_meet_97 : decode cX6_meet 97 = .ok (.aload_n 0, 1) := by decide +kernel
theorem dX6_meet_98 : decode cX6_meet 98 = .ok (.iload_n 1, 1) := by decide +kernel
theorem dX6_meet_99 : decode cX6_meet 99 = .ok (.iconst 1, 1) := by decide +kernel
theorem dX6_meet_100 : decode cX6_meet 100 = .ok (.invokestatic 92, 3) := by decide +kernel
theorem dX6_meet_103 : decode cX6_meet 103 = .ok (.aload_n 0, 1) := by decide +kernel
theorem dX6_meet_104 : decode cX6_meet 104 = .ok (.iload_n 2, 1) := by decide +kernel
theorem dX6_meet_105 : decode cX6_meet 105 = .ok (.iconst 1, 1) := by decide +kernel
theorem dX6_meet_106 : decode cX6_meet 106 = .ok (.invokestatic 92, 3) := by decide +kernel
theorem dX6_meet_109 : decode cX6_meet 109 = .ok (.aload_n 0, 1) := by decide +kernel
theorem dX6_meet_110 : decode cX6_meet 110 = .ok (.iload_n 1, 1) := by decide +kernel
theorem dX6_meet_111 : decode cX6_meet 111 = .ok (.iload 6, 2) := by decide +kernel
theorem dX6_meet_113 : decode cX6_meet 113 = .ok (.invokestatic 99, 3) := by decide +kernel
theorem dX6_meet_116 : decode cX6_meet 116 = .ok (.aload_n 0, 1) := by decide +kernel
theorem dX6_meet_117 : decode cX6_meet 117 = .ok (.iload_n 2, 1) := by decide +kernel
theorem dX6_meet_118 : decode cX6_meet 118 = .ok (.iload 7, 2) := by decide +kernel
theorem dX6_meet_120 : decode cX6_meet 120 = .ok (.invokestatic 99, 3) := by decide +kernel
theorem dX6_meet_123 : decode cX6_meet 123 = .ok (.return_, 1) := by decide +kernel
set_option maxRecDepth 20000 in
theorem ggX6_weekOn_X6_at : GoodIn wsX6_weekOn wsX6_at := goodIn_r _ [4] (by decide +kernel) (by decide +kernel)
set_option maxRecDepth 20000 in
theorem gX6_weekOn_X6_at : GoodIn wsX6_weekOn (va_wsS RX6 46 yX6_at wsX6_at) := goodIn_app (goodIn_of _ (by decide +kernel)) ggX6_weekOn_X6_at
set_option maxRecDepth 20000 in
theorem ggX6_weekOn_X6_meet : GoodIn wsX6_weekOn wsX6_meet := goodIn_r _ [7, 8, 9, 3, 10, 1, 2, 4, 11, 12, 13, 14, 15, 16, 17, 18, 19] (by decide +kernel) (by decide +kernel)
set_option maxRecDepth 20000 in
theorem gX6_weekOn_X6_meet : GoodIn wsX6_weekOn (va_wsS RX6 102 yX6_meet wsX6_meet) := goodIn_app (goodIn_of _ (by decide +kernel)) ggX6_weekOn_X6_meet
set_option maxRecDepth 20000 in
theorem ggX6_weekOn_X6_fit : GoodIn wsX6_weekOn wsX6_fit := goodIn_r _ [22, 14, 15, 3, 16, 1, 2, 4] (by decide +kernel) (by decide +kernel)
set_option maxRecDepth 20000 in
theorem gX6_weekOn_X6_fit : GoodIn wsX6_weekOn (va_wsS RX6 64 yX6_fit wsX6_fit) := goodIn_app (goodIn_of _ (by decide +kernel)) ggX6_weekOn_X6_fit
set_option maxRecDepth 20000 in
theorem ggX6_weekOn_X6_partOn : GoodIn wsX6_weekOn wsX6_partOn := goodIn_r _ [25, 1, 2, 3, 4, 26, 27, 28] (by decide +kernel) (by decide +kernel)
set_option maxRecDepth 20000 in
theorem gX6_weekOn_X6_partOn : GoodIn wsX6_weekOn (va_wsS RX6 75 yX6_partOn wsX6_partOn) := goodIn_app (goodIn_of _ (by decide +kernel)) ggX6_weekOn_X6_partOn
theorem dX6_weekOn_0 : decode cX6_weekOn 0 = .ok (.iconst 0, 1) := by decide +kernel
theorem dX6_weekOn_1 : decode cX6_weekOn 1 = .ok (.istore_n 2, 1) := by decide +kernel
theorem dX6_weekOn_2 : decode cX6_weekOn 2 = .ok (.iload_n 2, 1) := by decide +kernel
theorem dX6_weekOn_3 : decode cX6_weekOn 3 = .ok (.aload_n 0, 1) := by decide +kernel
theorem dX6_weekOn_4 : decode cX6_weekOn 4 = .ok (.iconst 0, 1) := by decide +kernel
theorem dX6_weekOn_5 : decode cX6_weekOn 5 = .ok (.iaload, 1) := by decide +kernel
theorem dX6_weekOn_6 : decode cX6_weekOn 6 = .ok (.if_icmp .ge 37, 3) := by decide +kernel
theorem dX6_weekOn_9 : decode cX6_weekOn 9 = .ok (.aload_n 0, 1) := by decide +kernel
theorem dX6_weekOn_10 : decode cX6_weekOn 10 = .ok (.iload_n 2, 1) := by decide +kernel
theorem dX6_weekOn_11 : decode cX6_weekOn 11 = .ok (.invokestatic 46, 3) := by decide +kernel
theorem dX6_weekOn_14 : decode cX6_weekOn 14 = .ok (.bipush 8, 2) := by decide +kernel
theorem dX6_weekOn_16 : decode cX6_weekOn 16 = .ok (.iadd, 1) := by decide +kernel
theorem dX6_weekOn_17 : decode cX6_weekOn 17 = .ok (.iaload, 1) := by decide +kernel
theorem dX6_weekOn_18 : decode cX6_weekOn 18 = .ok (.iload_n 2, 1) := by decide +kernel
theorem dX6_weekOn_19 : decode cX6_weekOn 19 = .ok (.if_icmp .le 18, 3) := by decide +kernel
theorem dX6_weekOn_22 : decode cX6_weekOn 22 = .ok (.aload_n 0, 1) := by decide +kernel
theorem dX6_weekOn_23 : decode cX6_weekOn 23 = .ok (.iload_n 2, 1) := by decide +kernel
theorem dX6_weekOn_24 : decode cX6_weekOn 24 = .ok (.aload_n 0, 1) := by decide +kernel
theorem dX6_weekOn_25 : decode cX6_weekOn 25 = .ok (.iload_n 2, 1) := by decide +kernel
theorem dX6_weekOn_26 : decode cX6_weekOn 26 = .ok (.invokestatic 46, 3) := by decide +kernel
theorem dX6_weekOn_29 : decode cX6_weekOn 29 = .ok (.bipush 8, 2) := by decide +kernel
theorem dX6_weekOn_31 : decode cX6_weekOn 31 = .ok (.iadd, 1) := by decide +kernel
theorem dX6_weekOn_32 : decode cX6_weekOn 32 = .ok (.iaload, 1) := by decide +kernel
theorem dX6_weekOn_33 : decode cX6_weekOn 33 = .ok (.iload_n 1, 1) := by decide +kernel
theorem dX6_weekOn_34 : decode cX6_weekOn 34 = .ok (.invokestatic 102, 3) := by decide +kernel
theorem dX6_weekOn_37 : decode cX6_weekOn 37 = .ok (.iinc 2 1, 3) := by decide +kernel
theorem dX6_weekOn_40 : decode cX6_weekOn 40 = .ok (.goto (-38), 3) := by decide +kernel
theorem dX6_weekOn_43 : decode cX6_weekOn 43 = .ok (.iconst 0, 1) := by decide +kernel
theorem dX6_weekOn_44 : decode cX6_weekOn 44 = .ok (.istore_n 2, 1) := by decide +kernel
theorem dX6_weekOn_45 : decode cX6_weekOn 45 = .ok (.iload_n 2, 1) := by decide +kernel
theorem dX6_weekOn_46 : decode cX6_weekOn 46 = .ok (.aload_n 0, 1) := by decide +kernel
theorem dX6_weekOn_47 : decode cX6_weekOn 47 = .ok (.iconst 0, 1) := by decide +kernel
theorem dX6_weekOn_48 : decode cX6_weekOn 48 = .ok (.iaload, 1) := by decide +kernel
theorem dX6_weekOn_49 : decode cX6_weekOn 49 = .ok (.if_icmp .ge 53, 3) := by decide +kernel
theorem dX6_weekOn_52 : decode cX6_weekOn 52 = .ok (.aload_n 0, 1) := by decide +kernel
theorem dX6_weekOn_53 : decode cX6_weekOn 53 = .ok (.iload_n 2, 1) := by decide +kernel
theorem dX6_weekOn_54 : decode cX6_weekOn 54 = .ok (.invokestatic 46, 3) := by decide +kernel
theorem dX6_weekOn_57 : decode cX6_weekOn 57 = .ok (.bipush 8, 2) := by decide +kernel
theorem dX6_weekOn_59 : decode cX6_weekOn 59 = .ok (.iadd, 1) := by decide +kernel
theorem dX6_weekOn_60 : decode cX6_weekOn 60 = .ok (.iaload, 1) := by decide +kernel
theorem dX6_weekOn_61 : decode cX6_weekOn 61 = .ok (.istore_n 3, 1) := by decide +kernel
theorem dX6_weekOn_62 : decode cX6_weekOn 62 = .ok (.iload_n 3, 1) := by decide +kernel
theorem dX6_weekOn_63 : decode cX6_weekOn 63 = .ok (.sipush (-9999), 3) := by decide +kernel
theorem dX6_weekOn_66 : decode cX6_weekOn 66 = .ok (.if_icmp .eq 30, 3) := by decide +kernel
theorem dX6_weekOn_69 : decode cX6_weekOn 69 = .ok (.aload_n 0, 1) := by decide +kernel
theorem dX6_weekOn_70 : decode cX6_weekOn 70 = .ok (.iload_n 2, 1) := by decide +kernel
theorem dX6_weekOn_71 : decode cX6_weekOn 71 = .ok (.iload_n 3, 1) := by decide +kernel
theorem dX6_weekOn_72 : decode cX6_weekOn 72 = .ok (.invokestatic 64, 3) := by decide +kernel
theorem dX6_weekOn_75 : decode cX6_weekOn 75 = .ok (.ifCond .eq 16, 3) := by decide +kernel
theorem dX6_weekOn_78 : decode cX6_weekOn 78 = .ok (.aload_n 0, 1) := by decide +kernel
theorem dX6_weekOn_79 : decode cX6_weekOn 79 = .ok (.iload_n 2, 1) := by decide +kernel
theorem dX6_weekOn_80 : decode cX6_weekOn 80 = .ok (.invokestatic 46, 3) := by decide +kernel
theorem dX6_weekOn_83 : decode cX6_weekOn 83 = .ok (.bipush 9, 2) := by decide +kernel
theorem dX6_weekOn_85 : decode cX6_weekOn 85 = .ok (.iadd, 1) := by decide +kernel
theorem dX6_weekOn_86 : decode cX6_weekOn 86 = .ok (.iaload, 1) := by decide +kernel
theorem dX6_weekOn_87 : decode cX6_weekOn 87 = .ok (.iconst 3, 1) := by decide +kernel
theorem dX6_weekOn_88 : decode cX6_weekOn 88 = .ok (.if_icmp .lt 8, 3) := by decide +kernel
theorem dX6_weekOn_91 : decode cX6_weekOn 91 = .ok (.aload_n 0, 1) := by decide +kernel
theorem dX6_weekOn_92 : decode cX6_weekOn 92 = .ok (.iload_n 2, 1) := by decide +kernel
theorem dX6_weekOn_93 : decode cX6_weekOn 93 = .ok (.invokestatic 75, 3) := by decide +kernel
theorem dX6_weekOn_96 : decode cX6_weekOn 96 = .ok (.iinc 2 1, 3) := by decide +kernel
theorem dX6_weekOn_99 : decode cX6_weekOn 99 = .ok (.goto (-54), 3) := by decide +kernel
theorem dX6_weekOn_102 : decode cX6_weekOn 102 = .ok (.aload_n 0, 1) := by decide +kernel
theorem dX6_weekOn_103 : decode cX6_weekOn 103 = .ok (.iconst 1, 1) := by decide +kernel
theorem dX6_weekOn_104 : decode cX6_weekOn 104 = .ok (.dup2, 1) := by decide +kernel
theorem dX6_weekOn_105 : decode cX6_weekOn 105 = .ok (.iaload, 1) := by decide +kernel
theorem dX6_weekOn_106 : decode cX6_weekOn 106 = .ok (.iconst 1, 1) := by decide +kernel
theorem dX6_weekOn_107 : decode cX6_weekOn 107 = .ok (.iadd, 1) := by decide +kernel
theorem dX6_weekOn_108 : decode cX6_weekOn 108 = .ok (.iastore, 1) := by decide +kernel
theorem dX6_weekOn_109 : decode cX6_weekOn 109 = .ok (.return_, 1) := by decide +kernel
set_option maxRecDepth 20000 in
theorem ggX6_laySets_X6_fit : GoodIn wsX6_laySets wsX6_fit := goodIn_r _ [6, 7, 8, 5, 9, 10, 11, 12] (by decide +kernel) (by decide +kernel)
set_option maxRecDepth 20000 in
theorem gX6_laySets_X6_fit : GoodIn wsX6_laySets (va_wsS RX6 64 yX6_fit wsX6_fit) := goodIn_app (goodIn_of _ (by decide +kernel)) ggX6_laySets_X6_fit
set_option maxRecDepth 20000 in
theorem ggX6_laySets_X6_valueOf : GoodIn wsX6_laySets wsX6_valueOf := goodIn_r _ [15, 16, 17, 5, 18, 7, 8, 9, 10, 11, 12, 19, 20, 21] (by decide +kernel) (by decide +kernel)
set_option maxRecDepth 20000 in
theorem gX6_laySets_X6_valueOf : GoodIn wsX6_laySets (va_wsS RX6 78 yX6_valueOf wsX6_valueOf) := goodIn_app (goodIn_of _ (by decide +kernel)) ggX6_laySets_X6_valueOf
theorem dX6_laySets_0 : decode cX6_laySets 0 = .ok (.iconst 0, 1) := by decide +kernel
theorem dX6_laySets_1 : decode cX6_laySets 1 = .ok (.istore_n 2, 1) := by decide +kernel
theorem dX6_laySets_2 : decode cX6_laySets 2 = .ok (.iload_n 2, 1) := by decide +kernel
theorem dX6_laySets_3 : decode cX6_laySets 3 = .ok (.sipush 512, 3) := by decide +kernel
theorem dX6_laySets_6 : decode cX6_laySets 6 = .ok (.if_icmp .ge 260, 3) := by decide +kernel
theorem dX6_laySets_9 : decode cX6_laySets 9 = .ok (.aload_n 0, 1) := by decide +kernel
theorem dX6_laySets_10 : decode cX6_laySets 10 = .ok (.getfield 32, 3) := by decide +kernel
theorem dX6_laySets_13 : decode cX6_laySets 13 = .ok (.iload_n 2, 1) := by decide +kernel
theorem dX6_laySets_14 : decode cX6_laySets 14 = .ok (.iconst 0, 1) := by decide +kernel
theorem dX6_laySets_15 : decode cX6_laySets 15 = .ok (.iastore, 1) := by decide +kernel
theorem dX6_laySets_16 : decode cX6_laySets 16 = .ok (.aload_n 0, 1) := by decide +kernel
theorem dX6_laySets_17 : decode cX6_laySets 17 = .ok (.getfield 35, 3) := by decide +kernel
theorem dX6_laySets_20 : decode cX6_laySets 20 = .ok (.iload_n 2, 1) := by decide +kernel
theorem dX6_laySets_21 : decode cX6_laySets 21 = .ok (.iconst 0, 1) := by decide +kernel
theorem dX6_laySets_22 : decode cX6_laySets 22 = .ok (.iastore, 1) := by decide +kernel
theorem dX6_laySets_23 : decode cX6_laySets 23 = .ok (.iconst 0, 1) := by decide +kernel
theorem dX6_laySets_24 : decode cX6_laySets 24 = .ok (.istore_n 3, 1) := by decide +kernel
theorem dX6_laySets_25 : decode cX6_laySets 25 = .ok (.iload_n 3, 1) := by decide +kernel
theorem dX6_laySets_26 : decode cX6_laySets 26 = .ok (.bipush 9, 2) := by decide +kernel
theorem dX6_laySets_28 : decode cX6_laySets 28 = .ok (.if_icmp .ge 17, 3) := by decide +kernel
theorem dX6_laySets_31 : decode cX6_laySets 31 = .ok (.iload_n 2, 1) := by decide +kernel
theorem dX6_laySets_32 : decode cX6_laySets 32 = .ok (.iload_n 3, 1) := by decide +kernel
theorem dX6_laySets_33 : decode cX6_laySets 33 = .ok (.ishr, 1) := by decide +kernel
theorem dX6_laySets_34 : decode cX6_laySets 34 = .ok (.iconst 1, 1) := by decide +kernel
theorem dX6_laySets_35 : decode cX6_laySets 35 = .ok (.iand, 1) := by decide +kernel
theorem dX6_laySets_36 : decode cX6_laySets 36 = .ok (.ifCond .ne 9, 3) := by decide +kernel
theorem dX6_laySets_39 : decode cX6_laySets 39 = .ok (.iinc 3 1, 3) := by decide +kernel
theorem dX6_laySets_42 : decode cX6_laySets 42 = .ok (.goto (-17), 3) := by decide +kernel
theorem dX6_laySets_45 : decode cX6_laySets 45 = .ok (.iload_n 3, 1) := by decide +kernel
theorem dX6_laySets_46 : decode cX6_laySets 46 = .ok (.bipush 9, 2) := by decide +kernel
theorem dX6_laySets_48 : decode cX6_laySets 48 = .ok (.if_icmp .ne 7, 3) := by decide +kernel
theorem dX6_laySets_51 : decode cX6_laySets 51 = .ok (.iconst 0, 1) := by decide +kernel
theorem dX6_laySets_52 : decode cX6_laySets 52 = .ok (.goto 10, 3) := by decide +kernel
theorem dX6_laySets_55 : decode cX6_laySets 55 = .ok (.iload_n 2, 1) := by decide +kernel
theorem dX6_laySets_56 : decode cX6_laySets 56 = .ok (.iconst 1, 1) := by decide +kernel
theorem dX6_laySets_57 : decode cX6_laySets 57 = .ok (.iload_n 3, 1) := by decide +kernel
theorem dX6_laySets_58 : decode cX6_laySets 58 = .ok (.ishl, 1) := by decide +kernel
theorem dX6_laySets_59 : decode cX6_laySets 59 = .ok (.iconst (-1), 1) := by decide +kernel
theorem dX6_laySets_60 : decode cX6_laySets 60 = .ok (.ixor, 1) := by decide +kernel
theorem dX6_laySets_61 : decode cX6_laySets 61 = .ok (.iand, 1) := by decide +kernel
theorem dX6_laySets_62 : decode cX6_laySets 62 = .ok (.istore 4, 2) := by decide +kernel
theorem dX6_laySets_64 : decode cX6_laySets 64 = .ok (.iload_n 3, 1) := by decide +kernel
theorem dX6_laySets_65 : decode cX6_laySets 65 = .ok (.aload_n 1, 1) := by decide +kernel
theorem dX6_laySets_66 : decode cX6_laySets 66 = .ok (.iconst 0, 1) := by decide +kernel
theorem dX6_laySets_67 : decode cX6_laySets 67 = .ok (.iaload, 1) := by decide +kernel
theorem dX6_laySets_68 : decode cX6_laySets 68 = .ok (.if_icmp .ge 29, 3) := by decide +kernel
theorem dX6_laySets_71 : decode cX6_laySets 71 = .ok (.aload_n 0, 1) := by decide +kernel
theorem dX6_laySets_72 : decode cX6_laySets 72 = .ok (.getfield 32, 3) := by decide +kernel
theorem dX6_laySets_75 : decode cX6_laySets 75 = .ok (.iload_n 2, 1) := by decide +kernel
theorem dX6_laySets_76 : decode cX6_laySets 76 = .ok (.aload_n 0, 1) := by decide +kernel
theorem dX6_laySets_77 : decode cX6_laySets 77 = .ok (.getfield 32, 3) := by decide +kernel
theorem dX6_laySets_80 : decode cX6_laySets 80 = .ok (.iload 4, 2) := by decide +kernel
theorem dX6_laySets_82 : decode cX6_laySets 82 = .ok (.iaload, 1) := by decide +kernel
theorem dX6_laySets_83 : decode cX6_laySets 83 = .ok (.iastore, 1) := by decide +kernel
theorem dX6_laySets_84 : decode cX6_laySets 84 = .ok (.aload_n 0, 1) := by decide +kernel
theorem dX6_laySets_85 : decode cX6_laySets 85 = .ok (.getfield 35, 3) := by decide +kernel
theorem dX6_laySets_88 : decode cX6_laySets 88 = .ok (.iload_n 2, 1) := by decide +kernel
theorem dX6_laySets_89 : decode cX6_laySets 89 = .ok (.aload_n 0, 1) := by decide +kernel
theorem dX6_laySets_90 : decode cX6_laySets 90 = .ok (.getfield 35, 3) := by decide +kernel
theorem dX6_laySets_93 : decode cX6_laySets 93 = .ok (.iload 4, 2) := by decide +kernel
theorem dX6_laySets_95 : decode cX6_laySets 95 = .ok (.iaload, 1) := by decide +kernel
theorem dX6_laySets_96 : decode cX6_laySets 96 = .ok (.iastore, 1) := by decide +kernel
theorem dX6_laySets_97 : decode cX6_laySets 97 = .ok (.iload_n 3, 1) := by decide +kernel
theorem dX6_laySets_98 : decode cX6_laySets 98 = .ok (.iconst 1, 1) := by decide +kernel
theorem dX6_laySets_99 : decode cX6_laySets 99 = .ok (.iadd, 1) := by decide +kernel
theorem dX6_laySets_100 : decode cX6_laySets 100 = .ok (.istore 5, 2) := by decide +kernel
theorem dX6_laySets_102 : decode cX6_laySets 102 = .ok (.iload 5, 2) := by decide +kernel
theorem dX6_laySets_104 : decode cX6_laySets 104 = .ok (.aload_n 1, 1) := by decide +kernel
theorem dX6_laySets_105 : decode cX6_laySets 105 = .ok (.iconst 0, 1) := by decide +kernel
theorem dX6_laySets_106 : decode cX6_laySets 106 = .ok (.iaload, 1) := by decide +kernel
theorem dX6_laySets_107 : decode cX6_laySets 107 = .ok (.if_icmp .ge 153, 3) := by decide +kernel
theorem dX6_laySets_110 : decode cX6_laySets 110 = .ok (.iload 4, 2) := by decide +kernel
theorem dX6_laySets_112 : decode cX6_laySets 112 = .ok (.iload 5, 2) := by decide +kernel
theorem dX6_laySets_114 : decode cX6_laySets 114 = .ok (.ishr, 1) := by decide +kernel
theorem dX6_laySets_115 : decode cX6_laySets 115 = .ok (.iconst 1, 1) := by decide +kernel
theorem dX6_laySets_116 : decode cX6_laySets 116 = .ok (.iand, 1) := by decide +kernel
theorem dX6_laySets_117 : decode cX6_laySets 117 = .ok (.iconst 1, 1) := by decide +kernel
theorem dX6_laySets_118 : decode cX6_laySets 118 = .ok (.if_icmp .ne 136, 3) := by decide +kernel
theorem dX6_laySets_121 : decode cX6_laySets 121 = .ok (.aload_n 1, 1) := by decide +kernel
theorem dX6_laySets_122 : decode cX6_laySets 122 = .ok (.iload_n 3, 1) := by decide +kernel
theorem dX6_laySets_123 : decode cX6_laySets 123 = .ok (.iload 5, 2) := by decide +kernel
theorem dX6_laySets_125 : decode cX6_laySets 125 = .ok (.invokestatic 64, 3) := by decide +kernel
theorem dX6_laySets_128 : decode cX6_laySets 128 = .ok (.ifCond .eq 126, 3) := by decide +kernel
theorem dX6_laySets_131 : decode cX6_laySets 131 = .ok (.iload 4, 2) := by decide +kernel
theorem dX6_laySets_133 : decode cX6_laySets 133 = .ok (.iconst 1, 1) := by decide +kernel
theorem dX6_laySets_134 : decode cX6_laySets 134 = .ok (.iload 5, 2) := by decide +kernel
theorem dX6_laySets_136 : decode cX6_laySets 136 = .ok (.ishl, 1) := by decide +kernel
theorem dX6_laySets_137 : decode cX6_laySets 137 = .ok (.iconst (-1), 1) := by decide +kernel
theorem dX6_laySets_138 : decode cX6_laySets 138 = .ok (.ixor, 1) := by decide +kernel
theorem dX6_laySets_139 : decode cX6_laySets 139 = .ok (.iand, 1) := by decide +kernel
theorem dX6_laySets_140 : decode cX6_laySets 140 = .ok (.istore 6, 2) := by decide +kernel
theorem dX6_laySets_142 : decode cX6_laySets 142 = .ok (.aload_n 0, 1) := by decide +kernel
theorem dX6_laySets_143 : decode cX6_laySets 143 = .ok (.getfield 32, 3) := by decide +kernel
theorem dX6_laySets_146 : decode cX6_laySets 146 = .ok (.iload 6, 2) := by decide +kernel
theorem dX6_laySets_148 : decode cX6_laySets 148 = .ok (.iaload, 1) := by decide +kernel
theorem dX6_laySets_149 : decode cX6_laySets 149 = .ok (.iconst 1, 1) := by decide +kernel
theorem dX6_laySets_150 : decode cX6_laySets 150 = .ok (.iadd, 1) := by decide +kernel
theorem dX6_laySets_151 : decode cX6_laySets 151 = .ok (.istore 7, 2) := by decide +kernel
theorem dX6_laySets_153 : decode cX6_laySets 153 = .ok (.aload_n 0, 1) := by decide +kernel
theorem dX6_laySets_154 : decode cX6_laySets 154 = .ok (.getfield 35, 3) := by decide +kernel
theorem dX6_laySets_157 : decode cX6_laySets 157 = .ok (.iload 6, 2) := by decide +kernel
theorem dX6_laySets_159 : decode cX6_laySets 159 = .ok (.iaload, 1) := by decide +kernel
theorem dX6_laySets_160 : decode cX6_laySets 160 = .ok (.aload_n 1, 1) := by decide +kernel
theorem dX6_laySets_161 : decode cX6_laySets 161 = .ok (.iload_n 3, 1) := by decide +kernel
theorem dX6_laySets_162 : decode cX6_laySets 162 = .ok (.iload 5, 2) := by decide +kernel
theorem dX6_laySets_164 : decode cX6_laySets 164 = .ok (.invokestatic 78, 3) := by decide +kernel
theorem dX6_laySets_167 : decode cX6_laySets 167 = .ok (.iadd, 1) := by decide +kernel
theorem dX6_laySets_168 : decode cX6_laySets 168 = .ok (.istore 8, 2) := by decide +kernel
theorem dX6_laySets_170 : decode cX6_laySets 170 = .ok (.iload 7, 2) := by decide +kernel
theorem dX6_laySets_172 : decode cX6_laySets 172 = .ok (.aload_n 0, 1) := by decide +kernel
theorem dX6_laySets_173 : decode cX6_laySets 173 = .ok (.getfield 32, 3) := by decide +kernel
theorem dX6_laySets_176 : decode cX6_laySets 176 = .ok (.iload_n 2, 1) := by decide +kernel
theorem dX6_laySets_177 : decode cX6_laySets 177 = .ok (.iaload, 1) := by decide +kernel
theorem dX6_laySets_178 : decode cX6_laySets 178 = .ok (.if_icmp .gt 25, 3) := by decide +kernel
theorem dX6_laySets_181 : decode cX6_laySets 181 = .ok (.iload 7, 2) := by decide +kernel
theorem dX6_laySets_183 : decode cX6_laySets 183 = .ok (.aload_n 0, 1) := by decide +kernel
theorem dX6_laySets_184 : decode cX6_laySets 184 = .ok (.getfield 32, 3) := by decide +kernel
theorem dX6_laySets_187 : decode cX6_laySets 187 = .ok (.iload_n 2, 1) := by decide +kernel
theorem dX6_laySets_188 : decode cX6_laySets 188 = .ok (.iaload, 1) := by decide +kernel
theorem dX6_laySets_189 : decode cX6_laySets 189 = .ok (.if_icmp .ne 18, 3) := by decide +kernel
theorem dX6_laySets_192 : decode cX6_laySets 192 = .ok (.iload 8, 2) := by decide +kernel
theorem dX6_laySets_194 : decode cX6_laySets 194 = .ok (.aload_n 0, 1) := by decide +kernel
theorem dX6_laySets_195 : decode cX6_laySets 195 = .ok (.getfield 35, 3) := by decide +kernel
theorem dX6_laySets_198 : decode cX6_laySets 198 = .ok (.iload_n 2, 1) := by decide +kernel
theorem dX6_laySets_199 : decode cX6_laySets 199 = .ok (.iaload, 1) := by decide +kernel
theorem dX6_laySets_200 : decode cX6_laySets 200 = .ok (.if_icmp .le 7, 3) := by decide +kernel
theorem dX6_laySets_203 : decode cX6_laySets 203 = .ok (.iconst 1, 1) := by decide +kernel
theorem dX6_laySets_204 : decode cX6_laySets 204 = .ok (.goto 4, 3) := by decide +kernel
theorem dX6_laySets_207 : decode cX6_laySets 207 = .ok (.iconst 0, 1) := by decide +kernel
theorem dX6_laySets_208 : decode cX6_laySets 208 = .ok (.istore 9, 2) := by decide +kernel
theorem dX6_laySets_210 : decode cX6_laySets 210 = .ok (.aload_n 0, 1) := by decide +kernel
theorem dX6_laySets_211 : decode cX6_laySets 211 = .ok (.getfield 32, 3) := by decide +kernel
theorem dX6_laySets_214 : decode cX6_laySets 214 = .ok (.iload_n 2, 1) := by decide +kernel
theorem dX6_laySets_215 : decode cX6_laySets 215 = .ok (.iload 9, 2) := by decide +kernel
theorem dX6_laySets_217 : decode cX6_laySets 217 = .ok (.ifCond .eq 8, 3) := by decide +kernel
theorem dX6_laySets_220 : decode cX6_laySets 220 = .ok (.iload 7, 2) := by decide +kernel
theorem dX6_laySets_222 : decode cX6_laySets 222 = .ok (.goto 9, 3) := by decide +kernel
theorem dX6_laySets_225 : decode cX6_laySets 225 = .ok (.aload_n 0, 1) := by decide +kernel
theorem dX6_laySets_226 : decode cX6_laySets 226 = .ok (.getfield 32, 3) := by decide +kernel
theorem dX6_laySets_229 : decode cX6_laySets 229 = .ok (.iload_n 2, 1) := by decide +kernel
theorem dX6_laySets_230 : decode cX6_laySets 230 = .ok (.iaload, 1) := by decide +kernel
theorem dX6_laySets_231 : decode cX6_laySets 231 = .ok (.iastore, 1) := by decide +kernel
theorem dX6_laySets_232 : decode cX6_laySets 232 = .ok (.aload_n 0, 1) := by decide +kernel
theorem dX6_laySets_233 : decode cX6_laySets 233 = .ok (.getfield 35, 3) := by decide +kernel
theorem dX6_laySets_236 : decode cX6_laySets 236 = .ok (.iload_n 2, 1) := by decide +kernel
theorem dX6_laySets_237 : decode cX6_laySets 237 = .ok (.iload 9, 2) := by decide +kernel
theorem dX6_laySets_239 : decode cX6_laySets 239 = .ok (.ifCond .eq 8, 3) := by decide +kernel
theorem dX6_laySets_242 : decode cX6_laySets 242 = .ok (.iload 8, 2) := by decide +kernel
theorem dX6_laySets_244 : decode cX6_laySets 244 = .ok (.goto 9, 3) := by decide +kernel
theorem dX6_laySets_247 : decode cX6_laySets 247 = .ok (.aload_n 0, 1) := by decide +kernel
theorem dX6_laySets_248 : decode cX6_laySets 248 = .ok (.getfield 35, 3) := by decide +kernel
theorem dX6_laySets_251 : decode cX6_laySets 251 = .ok (.iload_n 2, 1) := by decide +kernel
theorem dX6_laySets_252 : decode cX6_laySets 252 = .ok (.iaload, 1) := by decide +kernel
theorem dX6_laySets_253 : decode cX6_laySets 253 = .ok (.iastore, 1) := by decide +kernel
theorem dX6_laySets_254 : decode cX6_laySets 254 = .ok (.iinc 5 1, 3) := by decide +kernel
theorem dX6_laySets_257 : decode cX6_laySets 257 = .ok (.goto (-155), 3) := by decide +kernel
theorem dX6_laySets_260 : decode cX6_laySets 260 = .ok (.iinc 2 1, 3) := by decide +kernel
theorem dX6_laySets_263 : decode cX6_laySets 263 = .ok (.goto (-261), 3) := by decide +kernel
theorem dX6_laySets_266 : decode cX6_laySets 266 = .ok (.return_, 1) := by decide +kernel
set_option maxRecDepth 20000 in
theorem ggX6_append_X6_in : GoodIn wsX6_append wsX6_in := goodIn_r _ [7] (by decide +kernel) (by decide +kernel)
set_option maxRecDepth 20000 in
theorem gX6_append_X6_in : GoodIn wsX6_append (va_wsS RX6 42 yX6_in wsX6_in) := goodIn_app (goodIn_of _ (by decide +kernel)) ggX6_append_X6_in
set_option maxRecDepth 20000 in
theorem ggX6_append_X6_refused : GoodIn wsX6_append wsX6_refused := goodIn_r _ [11, 12, 13, 14, 15, 16, 17, 18, 19, 20, 21, 22, 23, 24, 25] (by decide +kernel) (by decide +kernel)
set_option maxRecDepth 20000 in
theorem gX6_append_X6_refused : GoodIn wsX6_append (wsV RX6 111 RX6 yX6_refused wsX6_refused) := goodIn_app (goodIn_of _ (by decide +kernel)) ggX6_append_X6_refused
theorem dX6_append_0 : decode cX6_append 0 = .ok (.aload_n 0, 1) := by decide +kernel
theorem dX6_append_1 : decode cX6_append 1 = .ok (.iload_n 1, 1) := by decide +kernel
theorem dX6_append_2 : decode cX6_append 2 = .ok (.i2l, 1) := by decide +kernel
theorem dX6_append_3 : decode cX6_append 3 = .ok (.lconst 0, 1) := by decide +kernel
theorem dX6_append_4 : decode cX6_append 4 = .ok (.ldc2_w 106, 3) := by decide +kernel
theorem dX6_append_7 : decode cX6_append 7 = .ok (.invokestatic 42, 3) := by decide +kernel
theorem dX6_append_10 : decode cX6_append 10 = .ok (.ifCond .ne 7, 3) := by decide +kernel
theorem dX6_append_13 : decode cX6_append 13 = .ok (.iconst 1, 1) := by decide +kernel
theorem dX6_append_14 : decode cX6_append 14 = .ok (.goto 17, 3) := by decide +kernel
theorem dX6_append_17 : decode cX6_append 17 = .ok (.aload_n 0, 1) := by decide +kernel
theorem dX6_append_18 : decode cX6_append 18 = .ok (.getfield 108, 3) := by decide +kernel
theorem dX6_append_21 : decode cX6_append 21 = .ok (.bipush 90, 2) := by decide +kernel
theorem dX6_append_23 : decode cX6_append 23 = .ok (.if_icmp .ne 7, 3) := by decide +kernel
theorem dX6_append_26 : decode cX6_append 26 = .ok (.iconst 2, 1) := by decide +kernel
theorem dX6_append_27 : decode cX6_append 27 = .ok (.goto 4, 3) := by decide +kernel
theorem dX6_append_30 : decode cX6_append 30 = .ok (.iconst 0, 1) := by decide +kernel
theorem dX6_append_31 : decode cX6_append 31 = .ok (.invokevirtual 111, 3) := by decide +kernel
theorem dX6_append_34 : decode cX6_append 34 = .ok (.ifCond .eq 5, 3) := by decide +kernel
theorem dX6_append_37 : decode cX6_append 37 = .ok (.iconst 0, 1) := by decide +kernel
theorem dX6_append_38 : decode cX6_append 38 = .ok (.ireturn, 1) := by decide +kernel
theorem dX6_append_39 : decode cX6_append 39 = .ok (.aload_n 0, 1) := by decide +kernel
theorem dX6_append_40 : decode cX6_append 40 = .ok (.getfield 7, 3) := by decide +kernel
theorem dX6_append_43 : decode cX6_append 43 = .ok (.aload_n 0, 1) := by decide +kernel
theorem dX6_append_44 : decode cX6_append 44 = .ok (.getfield 108, 3) := by decide +kernel
theorem dX6_append_47 : decode cX6_append 47 = .ok (.iload_n 1, 1) := by decide +kernel
theorem dX6_append_48 : decode cX6_append 48 = .ok (.iastore, 1) := by decide +kernel
theorem dX6_append_49 : decode cX6_append 49 = .ok (.aload_n 0, 1) := by decide +kernel
theorem dX6_append_50 : decode cX6_append 50 = .ok (.dup, 1) := by decide +kernel
theorem dX6_append_51 : decode cX6_append 51 = .ok (.getfield 108, 3) := by decide +kernel
theorem dX6_append_54 : decode cX6_append 54 = .ok (.iconst 1, 1) := by decide +kernel
theorem dX6_append_55 : decode cX6_append 55 = .ok (.iadd, 1) := by decide +kernel
theorem dX6_append_56 : decode cX6_append 56 = .ok (.putfield 108, 3) := by decide +kernel
theorem dX6_append_59 : decode cX6_append 59 = .ok (.aload_n 0, 1) := by decide +kernel
theorem dX6_append_60 : decode cX6_append 60 = .ok (.getfield 108, 3) := by decide +kernel
theorem dX6_append_63 : decode cX6_append 63 = .ok (.ireturn, 1) := by decide +kernel
theorem dX6_clearText_0 : decode cX6_clearText 0 = .ok (.aload_n 0, 1) := by decide +kernel
theorem dX6_clearText_1 : decode cX6_clearText 1 = .ok (.iconst 0, 1) := by decide +kernel
theorem dX6_clearText_2 : decode cX6_clearText 2 = .ok (.putfield 38, 3) := by decide +kernel
theorem dX6_clearText_5 : decode cX6_clearText 5 = .ok (.aload_n 0, 1) := by decide +kernel
theorem dX6_clearText_6 : decode cX6_clearText 6 = .ok (.getfield 108, 3) := by decide +kernel
theorem dX6_clearText_9 : decode cX6_clearText 9 = .ok (.istore_n 1, 1) := by decide +kernel
theorem dX6_clearText_10 : decode cX6_clearText 10 = .ok (.aload_n 0, 1) := by decide +kernel
theorem dX6_clearText_11 : decode cX6_clearText 11 = .ok (.iconst 0, 1) := by decide +kernel
theorem dX6_clearText_12 : decode cX6_clearText 12 = .ok (.putfield 108, 3) := by decide +kernel
theorem dX6_clearText_15 : decode cX6_clearText 15 = .ok (.iload_n 1, 1) := by decide +kernel
theorem dX6_clearText_16 : decode cX6_clearText 16 = .ok (.ireturn, 1) := by decide +kernel
theorem dX6_eat_0 : decode cX6_eat 0 = .ok (.aload_n 0, 1) := by decide +kernel
theorem dX6_eat_1 : decode cX6_eat 1 = .ok (.getfield 115, 3) := by decide +kernel
theorem dX6_eat_4 : decode cX6_eat 4 = .ok (.aload_n 0, 1) := by decide +kernel
theorem dX6_eat_5 : decode cX6_eat 5 = .ok (.getfield 108, 3) := by decide +kernel
theorem dX6_eat_8 : decode cX6_eat 8 = .ok (.if_icmp .ge 20, 3) := by decide +kernel
theorem dX6_eat_11 : decode cX6_eat 11 = .ok (.aload_n 0, 1) := by decide +kernel
theorem dX6_eat_12 : decode cX6_eat 12 = .ok (.getfield 7, 3) := by decide +kernel
theorem dX6_eat_15 : decode cX6_eat 15 = .ok (.aload_n 0, 1) := by decide +kernel
theorem dX6_eat_16 : decode cX6_eat 16 = .ok (.getfield 115, 3) := by decide +kernel
theorem dX6_eat_19 : decode cX6_eat 19 = .ok (.iaload, 1) := by decide +kernel
theorem dX6_eat_20 : decode cX6_eat 20 = .ok (.iload_n 1, 1) := by decide +kernel
theorem dX6_eat_21 : decode cX6_eat 21 = .ok (.if_icmp .ne 7, 3) := by decide +kernel
theorem dX6_eat_24 : decode cX6_eat 24 = .ok (.iconst 1, 1) := by decide +kernel
theorem dX6_eat_25 : decode cX6_eat 25 = .ok (.goto 4, 3) := by decide +kernel
theorem dX6_eat_28 : decode cX6_eat 28 = .ok (.iconst 0, 1) := by decide +kernel
theorem dX6_eat_29 : decode cX6_eat 29 = .ok (.istore_n 2, 1) := by decide +kernel
theorem dX6_eat_30 : decode cX6_eat 30 = .ok (.aload_n 0, 1) := by decide +kernel
theorem dX6_eat_31 : decode cX6_eat 31 = .ok (.dup, 1) := by decide +kernel
theorem dX6_eat_32 : decode cX6_eat 32 = .ok (.getfield 115, 3) := by decide +kernel
theorem dX6_eat_35 : decode cX6_eat 35 = .ok (.iload_n 2, 1) := by decide +kernel
theorem dX6_eat_36 : decode cX6_eat 36 = .ok (.ifCond .eq 7, 3) := by decide +kernel
theorem dX6_eat_39 : decode cX6_eat 39 = .ok (.iconst 1, 1) := by decide +kernel
theorem dX6_eat_40 : decode cX6_eat 40 = .ok (.goto 4, 3) := by decide +kernel
theorem dX6_eat_43 : decode cX6_eat 43 = .ok (.iconst 0, 1) := by decide +kernel
theorem dX6_eat_44 : decode cX6_eat 44 = .ok (.iadd, 1) := by decide +kernel
theorem dX6_eat_45 : decode cX6_eat 45 = .ok (.putfield 115, 3) := by decide +kernel
theorem dX6_eat_48 : decode cX6_eat 48 = .ok (.iload_n 2, 1) := by decide +kernel
theorem dX6_eat_49 : decode cX6_eat 49 = .ok (.ireturn, 1) := by decide +kernel
set_option maxRecDepth 20000 in
theorem ggX6_digit_X6_in : GoodIn wsX6_digit wsX6_in := goodIn_r _ [7] (by decide +kernel) (by decide +kernel)
set_option maxRecDepth 20000 in
theorem gX6_digit_X6_in : GoodIn wsX6_digit (va_wsS RX6 42 yX6_in wsX6_in) := goodIn_app (goodIn_of _ (by decide +kernel)) ggX6_digit_X6_in
theorem dX6_digit_0 : decode cX6_digit 0 = .ok (.aload_n 0, 1) := by decide +kernel
theorem dX6_digit_1 : decode cX6_digit 1 = .ok (.getfield 115, 3) := by decide +kernel
theorem dX6_digit_4 : decode cX6_digit 4 = .ok (.aload_n 0, 1) := by decide +kernel
theorem dX6_digit_5 : decode cX6_digit 5 = .ok (.getfield 108, 3) := by decide +kernel
theorem dX6_digit_8 : decode cX6_digit 8 = .ok (.if_icmp .ge 18, 3) := by decide +kernel
theorem dX6_digit_11 : decode cX6_digit 11 = .ok (.aload_n 0, 1) := by decide +kernel
theorem dX6_digit_12 : decode cX6_digit 12 = .ok (.getfield 7, 3) := by decide +kernel
theorem dX6_digit_15 : decode cX6_digit 15 = .ok (.aload_n 0, 1) := by decide +kernel
theorem dX6_digit_16 : decode cX6_digit 16 = .ok (.getfield 115, 3) := by decide +kernel
theorem dX6_digit_19 : decode cX6_digit 19 = .ok (.iaload, 1) := by decide +kernel
theorem dX6_digit_20 : decode cX6_digit 20 = .ok (.bipush 48, 2) := by decide +kernel
theorem dX6_digit_22 : decode cX6_digit 22 = .ok (.isub, 1) := by decide +kernel
theorem dX6_digit_23 : decode cX6_digit 23 = .ok (.goto 6, 3) := by decide +kernel
theorem dX6_digit_26 : decode cX6_digit 26 = .ok (.sipush (-9999), 3) := by decide +kernel
theorem dX6_digit_29 : decode cX6_digit 29 = .ok (.istore_n 2, 1) := by decide +kernel
theorem dX6_digit_30 : decode cX6_digit 30 = .ok (.iload_n 2, 1) := by decide +kernel
theorem dX6_digit_31 : decode cX6_digit 31 = .ok (.i2l, 1) := by decide +kernel
theorem dX6_digit_32 : decode cX6_digit 32 = .ok (.lconst 0, 1) := by decide +kernel
theorem dX6_digit_33 : decode cX6_digit 33 = .ok (.iload_n 1, 1) := by decide +kernel
theorem dX6_digit_34 : decode cX6_digit 34 = .ok (.i2l, 1) := by decide +kernel
theorem dX6_digit_35 : decode cX6_digit 35 = .ok (.invokestatic 42, 3) := by decide +kernel
theorem dX6_digit_38 : decode cX6_digit 38 = .ok (.istore_n 3, 1) := by decide +kernel
theorem dX6_digit_39 : decode cX6_digit 39 = .ok (.aload_n 0, 1) := by decide +kernel
theorem dX6_digit_40 : decode cX6_digit 40 = .ok (.dup, 1) := by decide +kernel
theorem dX6_digit_41 : decode cX6_digit 41 = .ok (.getfield 115, 3) := by decide +kernel
theorem dX6_digit_44 : decode cX6_digit 44 = .ok (.iload_n 3, 1) := by decide +kernel
theorem dX6_digit_45 : decode cX6_digit 45 = .ok (.ifCond .eq 7, 3) := by decide +kernel
theorem dX6_digit_48 : decode cX6_digit 48 = .ok (.iconst 1, 1) := by decide +kernel
theorem dX6_digit_49 : decode cX6_digit 49 = .ok (.goto 4, 3) := by decide +kernel
theorem dX6_digit_52 : decode cX6_digit 52 = .ok (.iconst 0, 1) := by decide +kernel
theorem dX6_digit_53 : decode cX6_digit 53 = .ok (.iadd, 1) := by decide +kernel
theorem dX6_digit_54 : decode cX6_digit 54 = .ok (.putfield 115, 3) := by decide +kernel
theorem dX6_digit_57 : decode cX6_digit 57 = .ok (.iload_n 3, 1) := by decide +kernel
theorem dX6_digit_58 : decode cX6_digit 58 = .ok (.ifCond .eq 7, 3) := by decide +kernel
theorem dX6_digit_61 : decode cX6_digit 61 = .ok (.iload_n 2, 1) := by decide +kernel
theorem dX6_digit_62 : decode cX6_digit 62 = .ok (.goto 6, 3) := by decide +kernel
theorem dX6_digit_65 : decode cX6_digit 65 = .ok (.sipush (-9999), 3) := by decide +kernel
theorem dX6_digit_68 : decode cX6_digit 68 = .ok (.ireturn, 1) := by decide +kernel
set_option maxRecDepth 20000 in
theorem ggX6_readMember_X6_at : GoodIn wsX6_readMember wsX6_at := goodIn_r _ [5] (by decide +kernel) (by decide +kernel)
set_option maxRecDepth 20000 in
theorem gX6_readMember_X6_at : GoodIn wsX6_readMember (va_wsS RX6 46 yX6_at wsX6_at) := goodIn_app (goodIn_of _ (by decide +kernel)) ggX6_readMember_X6_at
set_option maxRecDepth 20000 in
theorem ggX6_readMember_X6_digit : GoodIn wsX6_readMember wsX6_digit := goodIn_r _ [9, 10, 11, 12, 13, 14, 4, 15, 19, 20, 21, 22, 23, 24, 25, 26, 27, 28, 29, 30, 31] (by decide +kernel) (by decide +kernel)
set_option maxRecDepth 20000 in
theorem gX6_readMember_X6_digit : GoodIn wsX6_readMember (wsV RX6 118 RX6 yX6_digit wsX6_digit) := goodIn_app (goodIn_of _ (by decide +kernel)) ggX6_readMember_X6_digit
set_option maxRecDepth 20000 in
theorem ggX6_readMember_X6_free : GoodIn wsX6_readMember wsX6_free := goodIn_r _ [18, 2, 3, 4, 5] (by decide +kernel) (by decide +kernel)
set_option maxRecDepth 20000 in
theorem gX6_readMember_X6_free : GoodIn wsX6_readMember (va_wsS RX6 71 yX6_free wsX6_free) := goodIn_app (goodIn_of _ (by decide +kernel)) ggX6_readMember_X6_free
theorem dX6_readMember_0 : decode cX6_readMember 0 = .ok (.aload_n 0, 1) := by decide +kernel
theorem dX6_readMember_1 : decode cX6_readMember 1 = .ok (.getfield 13, 3) := by decide +kernel
theorem dX6_readMember_4 : decode cX6_readMember 4 = .ok (.iconst 0, 1) := by decide +kernel
theorem dX6_readMember_5 : decode cX6_readMember 5 = .ok (.iaload, 1) := by decide +kernel
theorem dX6_readMember_6 : decode cX6_readMember 6 = .ok (.invokestatic 46, 3) := by decide +kernel
theorem dX6_readMember_9 : decode cX6_readMember 9 = .ok (.istore_n 1, 1) := by decide +kernel
theorem dX6_readMember_10 : decode cX6_readMember 10 = .ok (.aload_n 0, 1) := by decide +kernel
theorem dX6_readMember_11 : decode cX6_readMember 11 = .ok (.getfield 13, 3) := by decide +kernel
theorem dX6_readMember_14 : decode cX6_readMember 14 = .ok (.iload_n 1, 1) := by decide +kernel
theorem dX6_readMember_15 : decode cX6_readMember 15 = .ok (.iconst 4, 1) := by decide +kernel
theorem dX6_readMember_16 : decode cX6_readMember 16 = .ok (.iadd, 1) := by decide +kernel
theorem dX6_readMember_17 : decode cX6_readMember 17 = .ok (.aload_n 0, 1) := by decide +kernel
theorem dX6_readMember_18 : decode cX6_readMember 18 = .ok (.iconst 3, 1) := by decide +kernel
theorem dX6_readMember_19 : decode cX6_readMember 19 = .ok (.invokevirtual 118, 3) := by decide +kernel
theorem dX6_readMember_22 : decode cX6_readMember 22 = .ok (.iastore, 1) := by decide +kernel
theorem dX6_readMember_23 : decode cX6_readMember 23 = .ok (.aload_n 0, 1) := by decide +kernel
theorem dX6_readMember_24 : decode cX6_readMember 24 = .ok (.getfield 13, 3) := by decide +kernel
theorem dX6_readMember_27 : decode cX6_readMember 27 = .ok (.iload_n 1, 1) := by decide +kernel
theorem dX6_readMember_28 : decode cX6_readMember 28 = .ok (.iconst 4, 1) := by decide +kernel
theorem dX6_readMember_29 : decode cX6_readMember 29 = .ok (.iadd, 1) := by decide +kernel
theorem dX6_readMember_30 : decode cX6_readMember 30 = .ok (.iaload, 1) := by decide +kernel
theorem dX6_readMember_31 : decode cX6_readMember 31 = .ok (.sipush (-9999), 3) := by decide +kernel
theorem dX6_readMember_34 : decode cX6_readMember 34 = .ok (.if_icmp .eq 7, 3) := by decide +kernel
theorem dX6_readMember_37 : decode cX6_readMember 37 = .ok (.iconst 1, 1) := by decide +kernel
theorem dX6_readMember_38 : decode cX6_readMember 38 = .ok (.goto 4, 3) := by decide +kernel
theorem dX6_readMember_41 : decode cX6_readMember 41 = .ok (.iconst 0, 1) := by decide +kernel
theorem dX6_readMember_42 : decode cX6_readMember 42 = .ok (.istore_n 2, 1) := by decide +kernel
theorem dX6_readMember_43 : decode cX6_readMember 43 = .ok (.iconst 0, 1) := by decide +kernel
theorem dX6_readMember_44 : decode cX6_readMember 44 = .ok (.istore_n 3, 1) := by decide +kernel
theorem dX6_readMember_45 : decode cX6_readMember 45 = .ok (.iload_n 3, 1) := by decide +kernel
theorem dX6_readMember_46 : decode cX6_readMember 46 = .ok (.iconst 4, 1) := by decide +kernel
theorem dX6_readMember_47 : decode cX6_readMember 47 = .ok (.if_icmp .ge 47, 3) := by decide +kernel
theorem dX6_readMember_50 : decode cX6_readMember 50 = .ok (.iload_n 2, 1) := by decide +kernel
theorem dX6_readMember_51 : decode cX6_readMember 51 = .ok (.ifCond .eq 43, 3) := by decide +kernel
theorem dX6_readMember_54 : decode cX6_readMember 54 = .ok (.aload_n 0, 1) := by decide +kernel
theorem dX6_readMember_55 : decode cX6_readMember 55 = .ok (.getfield 13, 3) := by decide +kernel
theorem dX6_readMember_58 : decode cX6_readMember 58 = .ok (.iload_n 1, 1) := by decide +kernel
theorem dX6_readMember_59 : decode cX6_readMember 59 = .ok (.iload_n 3, 1) := by decide +kernel
theorem dX6_readMember_60 : decode cX6_readMember 60 = .ok (.iadd, 1) := by decide +kernel
theorem dX6_readMember_61 : decode cX6_readMember 61 = .ok (.aload_n 0, 1) := by decide +kernel
theorem dX6_readMember_62 : decode cX6_readMember 62 = .ok (.bipush 9, 2) := by decide +kernel
theorem dX6_readMember_64 : decode cX6_readMember 64 = .ok (.invokevirtual 118, 3) := by decide +kernel
theorem dX6_readMember_67 : decode cX6_readMember 67 = .ok (.iastore, 1) := by decide +kernel
theorem dX6_readMember_68 : decode cX6_readMember 68 = .ok (.aload_n 0, 1) := by decide +kernel
theorem dX6_readMember_69 : decode cX6_readMember 69 = .ok (.getfield 13, 3) := by decide +kernel
theorem dX6_readMember_72 : decode cX6_readMember 72 = .ok (.iload_n 1, 1) := by decide +kernel
theorem dX6_readMember_73 : decode cX6_readMember 73 = .ok (.iload_n 3, 1) := by decide +kernel
theorem dX6_readMember_74 : decode cX6_readMember 74 = .ok (.iadd, 1) := by decide +kernel
theorem dX6_readMember_75 : decode cX6_readMember 75 = .ok (.iaload, 1) := by decide +kernel
theorem dX6_readMember_76 : decode cX6_readMember 76 = .ok (.sipush (-9999), 3) := by decide +kernel
theorem dX6_readMember_79 : decode cX6_readMember 79 = .ok (.if_icmp .eq 7, 3) := by decide +kernel
theorem dX6_readMember_82 : decode cX6_readMember 82 = .ok (.iconst 1, 1) := by decide +kernel
theorem dX6_readMember_83 : decode cX6_readMember 83 = .ok (.goto 4, 3) := by decide +kernel
theorem dX6_readMember_86 : decode cX6_readMember 86 = .ok (.iconst 0, 1) := by decide +kernel
theorem dX6_readMember_87 : decode cX6_readMember 87 = .ok (.istore_n 2, 1) := by decide +kernel
theorem dX6_readMember_88 : decode cX6_readMember 88 = .ok (.iinc 3 1, 3) := by decide +kernel
theorem dX6_readMember_91 : decode cX6_readMember 91 = .ok (.goto (-46), 3) := by decide +kernel
theorem dX6_readMember_94 : decode cX6_readMember 94 = .ok (.iload_n 2, 1) := by decide +kernel
theorem dX6_readMember_95 : decode cX6_readMember 95 = .ok (.ifCond .eq 12, 3) := by decide +kernel
theorem dX6_readMember_98 : decode cX6_readMember 98 = .ok (.aload_n 0, 1) := by decide +kernel
theorem dX6_readMember_99 : decode cX6_readMember 99 = .ok (.bipush 9, 2) := by decide +kernel
theorem dX6_readMember_101 : decode cX6_readMember 101 = .ok (.invokevirtual 118, 3) := by decide +kernel
theorem dX6_readMember_104 : decode cX6_readMember 104 = .ok (.goto 6, 3) := by decide +kernel
theorem dX6_readMember_107 : decode cX6_readMember 107 = .ok (.sipush (-9999), 3) := by decide +kernel
theorem dX6_readMember_110 : decode cX6_readMember 110 = .ok (.istore_n 3, 1) := by decide +kernel
theorem dX6_readMember_111 : decode cX6_readMember 111 = .ok (.iload_n 3, 1) := by decide +kernel
theorem dX6_readMember_112 : decode cX6_readMember 112 = .ok (.sipush (-9999), 3) := by decide +kernel
theorem dX6_readMember_115 : decode cX6_readMember 115 = .ok (.if_icmp .ne 9, 3) := by decide +kernel
theorem dX6_readMember_118 : decode cX6_readMember 118 = .ok (.sipush (-9999), 3) := by decide +kernel
theorem dX6_readMember_121 : decode cX6_readMember 121 = .ok (.goto 9, 3) := by decide +kernel
theorem dX6_readMember_124 : decode cX6_readMember 124 = .ok (.aload_n 0, 1) := by decide +kernel
theorem dX6_readMember_125 : decode cX6_readMember 125 = .ok (.bipush 9, 2) := by decide +kernel
theorem dX6_readMember_127 : decode cX6_readMember 127 = .ok (.invokevirtual 118, 3) := by decide +kernel
theorem dX6_readMember_130 : decode cX6_readMember 130 = .ok (.istore 4, 2) := by decide +kernel
theorem dX6_readMember_132 : decode cX6_readMember 132 = .ok (.iload 4, 2) := by decide +kernel
theorem dX6_readMember_134 : decode cX6_readMember 134 = .ok (.sipush (-9999), 3) := by decide +kernel
theorem dX6_readMember_137 : decode cX6_readMember 137 = .ok (.if_icmp .ne 5, 3) := by decide +kernel
theorem dX6_readMember_140 : decode cX6_readMember 140 = .ok (.iconst 0, 1) := by decide +kernel
theorem dX6_readMember_141 : decode cX6_readMember 141 = .ok (.ireturn, 1) := by decide +kernel
theorem dX6_readMember_142 : decode cX6_readMember 142 = .ok (.aload_n 0, 1) := by decide +kernel
theorem dX6_readMember_143 : decode cX6_readMember 143 = .ok (.getfield 13, 3) := by decide +kernel
theorem dX6_readMember_146 : decode cX6_readMember 146 = .ok (.iload_n 1, 1) := by decide +kernel
theorem dX6_readMember_147 : decode cX6_readMember 147 = .ok (.iconst 5, 1) := by decide +kernel
theorem dX6_readMember_148 : decode cX6_readMember 148 = .ok (.iadd, 1) := by decide +kernel
theorem dX6_readMember_149 : decode cX6_readMember 149 = .ok (.iconst 0, 1) := by decide +kernel
theorem dX6_readMember_150 : decode cX6_readMember 150 = .ok (.iastore, 1) := by decide +kernel
theorem dX6_readMember_151 : decode cX6_readMember 151 = .ok (.aload_n 0, 1) := by decide +kernel
theorem dX6_readMember_152 : decode cX6_readMember 152 = .ok (.getfield 13, 3) := by decide +kernel
theorem dX6_readMember_155 : decode cX6_readMember 155 = .ok (.iload_n 1, 1) := by decide +kernel
theorem dX6_readMember_156 : decode cX6_readMember 156 = .ok (.bipush 6, 2) := by decide +kernel
theorem dX6_readMember_158 : decode cX6_readMember 158 = .ok (.iadd, 1) := by decide +kernel
theorem dX6_readMember_159 : decode cX6_readMember 159 = .ok (.bipush 10, 2) := by decide +kernel
theorem dX6_readMember_161 : decode cX6_readMember 161 = .ok (.iload_n 3, 1) := by decide +kernel
theorem dX6_readMember_162 : decode cX6_readMember 162 = .ok (.imul, 1) := by decide +kernel
theorem dX6_readMember_163 : decode cX6_readMember 163 = .ok (.iload 4, 2) := by decide +kernel
theorem dX6_readMember_165 : decode cX6_readMember 165 = .ok (.iadd, 1) := by decide +kernel
theorem dX6_readMember_166 : decode cX6_readMember 166 = .ok (.iastore, 1) := by decide +kernel
theorem dX6_readMember_167 : decode cX6_readMember 167 = .ok (.aload_n 0, 1) := by decide +kernel
theorem dX6_readMember_168 : decode cX6_readMember 168 = .ok (.getfield 13, 3) := by decide +kernel
theorem dX6_readMember_171 : decode cX6_readMember 171 = .ok (.iload_n 1, 1) := by decide +kernel
theorem dX6_readMember_172 : decode cX6_readMember 172 = .ok (.bipush 7, 2) := by decide +kernel
theorem dX6_readMember_174 : decode cX6_readMember 174 = .ok (.iadd, 1) := by decide +kernel
theorem dX6_readMember_175 : decode cX6_readMember 175 = .ok (.iconst 0, 1) := by decide +kernel
theorem dX6_readMember_176 : decode cX6_readMember 176 = .ok (.iastore, 1) := by decide +kernel
theorem dX6_readMember_177 : decode cX6_readMember 177 = .ok (.aload_n 0, 1) := by decide +kernel
theorem dX6_readMember_178 : decode cX6_readMember 178 = .ok (.getfield 13, 3) := by decide +kernel
theorem dX6_readMember_181 : decode cX6_readMember 181 = .ok (.aload_n 0, 1) := by decide +kernel
theorem dX6_readMember_182 : decode cX6_readMember 182 = .ok (.getfield 13, 3) := by decide +kernel
theorem dX6_readMember_185 : decode cX6_readMember 185 = .ok (.iconst 0, 1) := by decide +kernel
theorem dX6_readMember_186 : decode cX6_readMember 186 = .ok (.iaload, 1) := by decide +kernel
theorem dX6_readMember_187 : decode cX6_readMember 187 = .ok (.invokestatic 71, 3) := by decide +kernel
theorem dX6_readMember_190 : decode cX6_readMember 190 = .ok (.aload_n 0, 1) := by decide +kernel
theorem dX6_readMember_191 : decode cX6_readMember 191 = .ok (.getfield 13, 3) := by decide +kernel
theorem dX6_readMember_194 : decode cX6_readMember 194 = .ok (.iconst 0, 1) := by decide +kernel
theorem dX6_readMember_195 : decode cX6_readMember 195 = .ok (.dup2, 1) := by decide +kernel
theorem dX6_readMember_196 : decode cX6_readMember 196 = .ok (.iaload, 1) := by decide +kernel
theorem dX6_readMember_197 : decode cX6_readMember 197 = .ok (.iconst 1, 1) := by decide +kernel
theorem dX6_readMember_198 : decode cX6_readMember 198 = .ok (.iadd, 1) := by decide +kernel
theorem dX6_readMember_199 : decode cX6_readMember 199 = .ok (.iastore, 1) := by decide +kernel
theorem dX6_readMember_200 : decode cX6_readMember 200 = .ok (.iconst 1, 1) := by decide +kernel
theorem dX6_readMember_201 : decode cX6_readMember 201 = .ok (.ireturn, 1) := by decide +kernel
set_option maxRecDepth 20000 in
theorem ggX6_readAll_X6_eat : GoodIn wsX6_readAll wsX6_eat := goodIn_r _ [8, 1, 3, 9, 27, 28, 29, 30, 31, 32, 33, 34, 35, 36, 37, 38, 39] (by decide +kernel) (by decide +kernel)
set_option maxRecDepth 20000 in
theorem gX6_readAll_X6_eat : GoodIn wsX6_readAll (wsV RX6 121 RX6 yX6_eat wsX6_eat) := goodIn_app (goodIn_of _ (by decide +kernel)) ggX6_readAll_X6_eat
set_option maxRecDepth 20000 in
theorem ggX6_readAll_X6_readMember : GoodIn wsX6_readAll wsX6_readMember := goodIn_r _ [13, 2, 14, 15, 7, 16, 17, 18, 19, 20, 1, 3, 9, 21, 22, 23, 24, 25, 26, 27, 28, 29, 30, 31, 32, 33, 34, 35, 36, 37, 38, 39] (by decide +kernel) (by decide +kernel)
set_option maxRecDepth 20000 in
theorem gX6_readAll_X6_readMember : GoodIn wsX6_readAll (wsV RX6 124 RX6 yX6_readMember wsX6_readMember) := goodIn_app (goodIn_of _ (by decide +kernel)) ggX6_readAll_X6_readMember
theorem dX6_readAll_0 : decode cX6_readAll 0 = .ok (.aload_n 0, 1) := by decide +kernel
theorem dX6_readAll_1 : decode cX6_readAll 1 = .ok (.iconst 0, 1) := by decide +kernel
theorem dX6_readAll_2 : decode cX6_readAll 2 = .ok (.putfield 115, 3) := by decide +kernel
theorem dX6_readAll_5 : decode cX6_readAll 5 = .ok (.aload_n 0, 1) := by decide +kernel
theorem dX6_readAll_6 : decode cX6_readAll 6 = .ok (.getfield 13, 3) := by decide +kernel
theorem dX6_readAll_9 : decode cX6_readAll 9 = .ok (.iconst 0, 1) := by decide +kernel
theorem dX6_readAll_10 : decode cX6_readAll 10 = .ok (.iconst 0, 1) := by decide +kernel
theorem dX6_readAll_11 : decode cX6_readAll 11 = .ok (.iastore, 1) := by decide +kernel
theorem dX6_readAll_12 : decode cX6_readAll 12 = .ok (.aload_n 0, 1) := by decide +kernel
theorem dX6_readAll_13 : decode cX6_readAll 13 = .ok (.getfield 13, 3) := by decide +kernel
theorem dX6_readAll_16 : decode cX6_readAll 16 = .ok (.iconst 1, 1) := by decide +kernel
theorem dX6_readAll_17 : decode cX6_readAll 17 = .ok (.iconst 0, 1) := by decide +kernel
theorem dX6_readAll_18 : decode cX6_readAll 18 = .ok (.iastore, 1) := by decide +kernel
theorem dX6_readAll_19 : decode cX6_readAll 19 = .ok (.aload_n 0, 1) := by decide +kernel
theorem dX6_readAll_20 : decode cX6_readAll 20 = .ok (.bipush 76, 2) := by decide +kernel
theorem dX6_readAll_22 : decode cX6_readAll 22 = .ok (.invokevirtual 121, 3) := by decide +kernel
theorem dX6_readAll_25 : decode cX6_readAll 25 = .ok (.ifCond .ne 5, 3) := by decide +kernel
theorem dX6_readAll_28 : decode cX6_readAll 28 = .ok (.iconst 0, 1) := by decide +kernel
theorem dX6_readAll_29 : decode cX6_readAll 29 = .ok (.ireturn, 1) := by decide +kernel
theorem dX6_readAll_30 : decode cX6_readAll 30 = .ok (.aload_n 0, 1) := by decide +kernel
theorem dX6_readAll_31 : decode cX6_readAll 31 = .ok (.getfield 13, 3) := by decide +kernel
theorem dX6_readAll_34 : decode cX6_readAll 34 = .ok (.iconst 0, 1) := by decide +kernel
theorem dX6_readAll_35 : decode cX6_readAll 35 = .ok (.iaload, 1) := by decide +kernel
theorem dX6_readAll_36 : decode cX6_readAll 36 = .ok (.bipush 9, 2) := by decide +kernel
theorem dX6_readAll_38 : decode cX6_readAll 38 = .ok (.if_icmp .ge 21, 3) := by decide +kernel
theorem dX6_readAll_41 : decode cX6_readAll 41 = .ok (.aload_n 0, 1) := by decide +kernel
theorem dX6_readAll_42 : decode cX6_readAll 42 = .ok (.bipush 109, 2) := by decide +kernel
theorem dX6_readAll_44 : decode cX6_readAll 44 = .ok (.invokevirtual 121, 3) := by decide +kernel
theorem dX6_readAll_47 : decode cX6_readAll 47 = .ok (.ifCond .eq 12, 3) := by decide +kernel
theorem dX6_readAll_50 : decode cX6_readAll 50 = .ok (.aload_n 0, 1) := by decide +kernel
theorem dX6_readAll_51 : decode cX6_readAll 51 = .ok (.invokevirtual 124, 3) := by decide +kernel
theorem dX6_readAll_54 : decode cX6_readAll 54 = .ok (.ifCond .ne (-24), 3) := by decide +kernel
theorem dX6_readAll_57 : decode cX6_readAll 57 = .ok (.iconst 0, 1) := by decide +kernel
theorem dX6_readAll_58 : decode cX6_readAll 58 = .ok (.ireturn, 1) := by decide +kernel
theorem dX6_readAll_59 : decode cX6_readAll 59 = .ok (.aload_n 0, 1) := by decide +kernel
theorem dX6_readAll_60 : decode cX6_readAll 60 = .ok (.getfield 115, 3) := by decide +kernel
theorem dX6_readAll_63 : decode cX6_readAll 63 = .ok (.aload_n 0, 1) := by decide +kernel
theorem dX6_readAll_64 : decode cX6_readAll 64 = .ok (.getfield 108, 3) := by decide +kernel
theorem dX6_readAll_67 : decode cX6_readAll 67 = .ok (.if_icmp .ne 7, 3) := by decide +kernel
theorem dX6_readAll_70 : decode cX6_readAll 70 = .ok (.iconst 1, 1) := by decide +kernel
theorem dX6_readAll_71 : decode cX6_readAll 71 = .ok (.goto 4, 3) := by decide +kernel
theorem dX6_readAll_74 : decode cX6_readAll 74 = .ok (.iconst 0, 1) := by decide +kernel
theorem dX6_readAll_75 : decode cX6_readAll 75 = .ok (.ireturn, 1) := by decide +kernel
set_option maxRecDepth 20000 in
theorem ggX6_errorPosition_X6_readAll : GoodIn wsX6_errorPosition wsX6_readAll := goodIn_r _ [7, 2, 8, 9, 10, 11, 12, 6, 13, 14, 15, 16, 17, 18, 19, 20, 21, 22, 23, 24, 25, 26, 27, 28, 29, 30, 31, 32, 33, 34, 35, 36, 37, 38, 39, 40, 41, 42, 43, 44] (by decide +kernel) (by decide +kernel)
set_option maxRecDepth 20000 in
theorem gX6_errorPosition_X6_readAll : GoodIn wsX6_errorPosition (wsV RX6 128 RX6 yX6_readAll wsX6_readAll) := goodIn_app (goodIn_of _ (by decide +kernel)) ggX6_errorPosition_X6_readAll
