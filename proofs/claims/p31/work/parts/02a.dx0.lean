theorem dX0_init_0 : decode cX0_init 0 = .ok (.aload_n 0, 1) := by decide +kernel
theorem dX0_init_1 : decode cX0_init 1 = .ok (.invokespecial 3, 3) := by decide +kernel
theorem dX0_init_4 : decode cX0_init 4 = .ok (.aload_n 0, 1) := by decide +kernel
theorem dX0_init_5 : decode cX0_init 5 = .ok (.sipush 512, 3) := by decide +kernel
theorem dX0_init_8 : decode cX0_init 8 = .ok (.newarray .int, 2) := by decide +kernel
theorem dX0_init_10 : decode cX0_init 10 = .ok (.putfield 9, 3) := by decide +kernel
theorem dX0_init_13 : decode cX0_init 13 = .ok (.return_, 1) := by decide +kernel
set_option maxRecDepth 20000 in
theorem ggX0_fill_X0_rankWith : GoodIn wsX0_fill wsX0_rankWith := goodIn_r _ [7, 1, 8, 9, 10, 11, 12, 13, 14, 15, 16, 17, 18, 19, 20, 21, 22, 23, 24, 25, 26, 27, 28, 29, 30, 31, 32, 33, 34, 35, 36, 37, 38, 39, 40, 41, 42, 43, 44, 45, 46, 47, 48, 49] (by decide +kernel) (by decide +kernel)
set_option maxRecDepth 20000 in
theorem gX0_fill_X0_rankWith : GoodIn wsX0_fill (wsV RX0 21 RX0 yX0_rankWith wsX0_rankWith) := goodIn_app (goodIn_of _ (by decide +kernel)) ggX0_fill_X0_rankWith
theorem dX0_fill_0 : decode cX0_fill 0 = .ok (.aload_n 0, 1) := by decide +kernel
theorem dX0_fill_1 : decode cX0_fill 1 = .ok (.getfield 9, 3) := by decide +kernel
theorem dX0_fill_4 : decode cX0_fill 4 = .ok (.iconst 0, 1) := by decide +kernel
theorem dX0_fill_5 : decode cX0_fill 5 = .ok (.iconst 0, 1) := by decide +kernel
theorem dX0_fill_6 : decode cX0_fill 6 = .ok (.iastore, 1) := by decide +kernel
theorem dX0_fill_7 : decode cX0_fill 7 = .ok (.iconst 0, 1) := by decide +kernel
theorem dX0_fill_8 : decode cX0_fill 8 = .ok (.istore_n 2, 1) := by decide +kernel
theorem dX0_fill_9 : decode cX0_fill 9 = .ok (.iload_n 2, 1) := by decide +kernel
theorem dX0_fill_10 : decode cX0_fill 10 = .ok (.aload_n 1, 1) := by decide +kernel
theorem dX0_fill_11 : decode cX0_fill 11 = .ok (.getfield 15, 3) := by decide +kernel
theorem dX0_fill_14 : decode cX0_fill 14 = .ok (.if_icmp .ge 45, 3) := by decide +kernel
theorem dX0_fill_17 : decode cX0_fill 17 = .ok (.iconst 1, 1) := by decide +kernel
theorem dX0_fill_18 : decode cX0_fill 18 = .ok (.iload_n 2, 1) := by decide +kernel
theorem dX0_fill_19 : decode cX0_fill 19 = .ok (.ishl, 1) := by decide +kernel
theorem dX0_fill_20 : decode cX0_fill 20 = .ok (.istore_n 3, 1) := by decide +kernel
theorem dX0_fill_21 : decode cX0_fill 21 = .ok (.iconst 0, 1) := by decide +kernel
theorem dX0_fill_22 : decode cX0_fill 22 = .ok (.istore 4, 2) := by decide +kernel
theorem dX0_fill_24 : decode cX0_fill 24 = .ok (.iload 4, 2) := by decide +kernel
theorem dX0_fill_26 : decode cX0_fill 26 = .ok (.iload_n 3, 1) := by decide +kernel
theorem dX0_fill_27 : decode cX0_fill 27 = .ok (.if_icmp .ge 26, 3) := by decide +kernel
theorem dX0_fill_30 : decode cX0_fill 30 = .ok (.aload_n 0, 1) := by decide +kernel
theorem dX0_fill_31 : decode cX0_fill 31 = .ok (.getfield 9, 3) := by decide +kernel
theorem dX0_fill_34 : decode cX0_fill 34 = .ok (.iload_n 3, 1) := by decide +kernel
theorem dX0_fill_35 : decode cX0_fill 35 = .ok (.iload 4, 2) := by decide +kernel
theorem dX0_fill_37 : decode cX0_fill 37 = .ok (.ior, 1) := by decide +kernel
theorem dX0_fill_38 : decode cX0_fill 38 = .ok (.aload_n 0, 1) := by decide +kernel
theorem dX0_fill_39 : decode cX0_fill 39 = .ok (.aload_n 1, 1) := by decide +kernel
theorem dX0_fill_40 : decode cX0_fill 40 = .ok (.iload_n 2, 1) := by decide +kernel
theorem dX0_fill_41 : decode cX0_fill 41 = .ok (.iload 4, 2) := by decide +kernel
theorem dX0_fill_43 : decode cX0_fill 43 = .ok (.invokevirtual 21, 3) := by decide +kernel
theorem dX0_fill_46 : decode cX0_fill 46 = .ok (.iastore, 1) := by decide +kernel
theorem dX0_fill_47 : decode cX0_fill 47 = .ok (.iinc 4 1, 3) := by decide +kernel
theorem dX0_fill_50 : decode cX0_fill 50 = .ok (.goto (-26), 3) := by decide +kernel
theorem dX0_fill_53 : decode cX0_fill 53 = .ok (.iinc 2 1, 3) := by decide +kernel
theorem dX0_fill_56 : decode cX0_fill 56 = .ok (.goto (-47), 3) := by decide +kernel
theorem dX0_fill_59 : decode cX0_fill 59 = .ok (.return_, 1) := by decide +kernel
set_option maxRecDepth 20000 in
theorem ggX0_rankWith_X1_fit : GoodIn wsX0_rankWith wsX1_fit := goodIn_r _ [11, 12, 13, 14, 10, 15, 16, 17, 18, 34, 35, 36, 37, 38, 39, 40, 41, 42, 43] (by decide +kernel) (by decide +kernel)
set_option maxRecDepth 20000 in
theorem gX0_rankWith_X1_fit : GoodIn wsX0_rankWith (wsV RX0 25 RX1 yX1_fit wsX1_fit) := goodIn_app (goodIn_of _ (by decide +kernel)) ggX0_rankWith_X1_fit
set_option maxRecDepth 20000 in
theorem ggX0_rankWith_X1_value : GoodIn wsX0_rankWith wsX1_value := goodIn_r _ [22, 23, 24, 25, 10, 26, 16, 27, 28, 12, 13, 14, 15, 17, 18, 29, 30, 31, 32, 34, 35, 36, 37, 38, 39, 40, 41, 42, 43] (by decide +kernel) (by decide +kernel)
set_option maxRecDepth 20000 in
theorem gX0_rankWith_X1_value : GoodIn wsX0_rankWith (wsV RX0 30 RX1 yX1_value wsX1_value) := goodIn_app (goodIn_of _ (by decide +kernel)) ggX0_rankWith_X1_value
theorem dX0_rankWith_0 : decode cX0_rankWith 0 = .ok (.aload_n 0, 1) := by decide +kernel
theorem dX0_rankWith_1 : decode cX0_rankWith 1 = .ok (.getfield 9, 3) := by decide +kernel
theorem dX0_rankWith_4 : decode cX0_rankWith 4 = .ok (.iload_n 3, 1) := by decide +kernel
theorem dX0_rankWith_5 : decode cX0_rankWith 5 = .ok (.iaload, 1) := by decide +kernel
theorem dX0_rankWith_6 : decode cX0_rankWith 6 = .ok (.istore 4, 2) := by decide +kernel
theorem dX0_rankWith_8 : decode cX0_rankWith 8 = .ok (.iconst 0, 1) := by decide +kernel
theorem dX0_rankWith_9 : decode cX0_rankWith 9 = .ok (.istore 5, 2) := by decide +kernel
theorem dX0_rankWith_11 : decode cX0_rankWith 11 = .ok (.iload 5, 2) := by decide +kernel
theorem dX0_rankWith_13 : decode cX0_rankWith 13 = .ok (.iload_n 2, 1) := by decide +kernel
theorem dX0_rankWith_14 : decode cX0_rankWith 14 = .ok (.if_icmp .ge 64, 3) := by decide +kernel
theorem dX0_rankWith_17 : decode cX0_rankWith 17 = .ok (.iload_n 3, 1) := by decide +kernel
theorem dX0_rankWith_18 : decode cX0_rankWith 18 = .ok (.iload 5, 2) := by decide +kernel
theorem dX0_rankWith_20 : decode cX0_rankWith 20 = .ok (.ishr, 1) := by decide +kernel
theorem dX0_rankWith_21 : decode cX0_rankWith 21 = .ok (.iconst 1, 1) := by decide +kernel
theorem dX0_rankWith_22 : decode cX0_rankWith 22 = .ok (.iand, 1) := by decide +kernel
theorem dX0_rankWith_23 : decode cX0_rankWith 23 = .ok (.iconst 1, 1) := by decide +kernel
theorem dX0_rankWith_24 : decode cX0_rankWith 24 = .ok (.if_icmp .ne 48, 3) := by decide +kernel
theorem dX0_rankWith_27 : decode cX0_rankWith 27 = .ok (.aload_n 1, 1) := by decide +kernel
theorem dX0_rankWith_28 : decode cX0_rankWith 28 = .ok (.iload 5, 2) := by decide +kernel
theorem dX0_rankWith_30 : decode cX0_rankWith 30 = .ok (.iload_n 2, 1) := by decide +kernel
theorem dX0_rankWith_31 : decode cX0_rankWith 31 = .ok (.invokevirtual 25, 3) := by decide +kernel
theorem dX0_rankWith_34 : decode cX0_rankWith 34 = .ok (.ifCond .eq 38, 3) := by decide +kernel
theorem dX0_rankWith_37 : decode cX0_rankWith 37 = .ok (.iload_n 3, 1) := by decide +kernel
theorem dX0_rankWith_38 : decode cX0_rankWith 38 = .ok (.iconst 1, 1) := by decide +kernel
theorem dX0_rankWith_39 : decode cX0_rankWith 39 = .ok (.iload 5, 2) := by decide +kernel
theorem dX0_rankWith_41 : decode cX0_rankWith 41 = .ok (.ishl, 1) := by decide +kernel
theorem dX0_rankWith_42 : decode cX0_rankWith 42 = .ok (.iconst (-1), 1) := by decide +kernel
theorem dX0_rankWith_43 : decode cX0_rankWith 43 = .ok (.ixor, 1) := by decide +kernel
theorem dX0_rankWith_44 : decode cX0_rankWith 44 = .ok (.iand, 1) := by decide +kernel
theorem dX0_rankWith_45 : decode cX0_rankWith 45 = .ok (.istore 6, 2) := by decide +kernel
theorem dX0_rankWith_47 : decode cX0_rankWith 47 = .ok (.iload 4, 2) := by decide +kernel
theorem dX0_rankWith_49 : decode cX0_rankWith 49 = .ok (.aload_n 0, 1) := by decide +kernel
theorem dX0_rankWith_50 : decode cX0_rankWith 50 = .ok (.getfield 9, 3) := by decide +kernel
theorem dX0_rankWith_53 : decode cX0_rankWith 53 = .ok (.iload 6, 2) := by decide +kernel
theorem dX0_rankWith_55 : decode cX0_rankWith 55 = .ok (.iaload, 1) := by decide +kernel
theorem dX0_rankWith_56 : decode cX0_rankWith 56 = .ok (.ldc 29, 2) := by decide +kernel
theorem dX0_rankWith_58 : decode cX0_rankWith 58 = .ok (.iadd, 1) := by decide +kernel
theorem dX0_rankWith_59 : decode cX0_rankWith 59 = .ok (.aload_n 1, 1) := by decide +kernel
theorem dX0_rankWith_60 : decode cX0_rankWith 60 = .ok (.iload 5, 2) := by decide +kernel
theorem dX0_rankWith_62 : decode cX0_rankWith 62 = .ok (.iload_n 2, 1) := by decide +kernel
theorem dX0_rankWith_63 : decode cX0_rankWith 63 = .ok (.invokevirtual 30, 3) := by decide +kernel
theorem dX0_rankWith_66 : decode cX0_rankWith 66 = .ok (.iadd, 1) := by decide +kernel
theorem dX0_rankWith_67 : decode cX0_rankWith 67 = .ok (.invokestatic 34, 3) := by decide +kernel
theorem dX0_rankWith_70 : decode cX0_rankWith 70 = .ok (.istore 4, 2) := by decide +kernel
theorem dX0_rankWith_72 : decode cX0_rankWith 72 = .ok (.iinc 5 1, 3) := by decide +kernel
theorem dX0_rankWith_75 : decode cX0_rankWith 75 = .ok (.goto (-64), 3) := by decide +kernel
theorem dX0_rankWith_78 : decode cX0_rankWith 78 = .ok (.iload 4, 2) := by decide +kernel
theorem dX0_rankWith_80 : decode cX0_rankWith 80 = .ok (.ireturn, 1) := by decide +kernel
theorem dX0_rankOfAll_0 : decode cX0_rankOfAll 0 = .ok (.aload_n 0, 1) := by decide +kernel
theorem dX0_rankOfAll_1 : decode cX0_rankOfAll 1 = .ok (.getfield 9, 3) := by decide +kernel
theorem dX0_rankOfAll_4 : decode cX0_rankOfAll 4 = .ok (.iconst 1, 1) := by decide +kernel
theorem dX0_rankOfAll_5 : decode cX0_rankOfAll 5 = .ok (.aload_n 1, 1) := by decide +kernel
theorem dX0_rankOfAll_6 : decode cX0_rankOfAll 6 = .ok (.getfield 15, 3) := by decide +kernel
theorem dX0_rankOfAll_9 : decode cX0_rankOfAll 9 = .ok (.ishl, 1) := by decide +kernel
theorem dX0_rankOfAll_10 : decode cX0_rankOfAll 10 = .ok (.iconst 1, 1) := by decide +kernel
theorem dX0_rankOfAll_11 : decode cX0_rankOfAll 11 = .ok (.isub, 1) := by decide +kernel
theorem dX0_rankOfAll_12 : decode cX0_rankOfAll 12 = .ok (.iaload, 1) := by decide +kernel
theorem dX0_rankOfAll_13 : decode cX0_rankOfAll 13 = .ok (.ireturn, 1) := by decide +kernel
theorem dX0_rankWithout_0 : decode cX0_rankWithout 0 = .ok (.aload_n 0, 1) := by decide +kernel
theorem dX0_rankWithout_1 : decode cX0_rankWithout 1 = .ok (.getfield 9, 3) := by decide +kernel
theorem dX0_rankWithout_4 : decode cX0_rankWithout 4 = .ok (.iconst 1, 1) := by decide +kernel
theorem dX0_rankWithout_5 : decode cX0_rankWithout 5 = .ok (.aload_n 1, 1) := by decide +kernel
theorem dX0_rankWithout_6 : decode cX0_rankWithout 6 = .ok (.getfield 15, 3) := by decide +kernel
theorem dX0_rankWithout_9 : decode cX0_rankWithout 9 = .ok (.ishl, 1) := by decide +kernel
theorem dX0_rankWithout_10 : decode cX0_rankWithout 10 = .ok (.iconst 1, 1) := by decide +kernel
theorem dX0_rankWithout_11 : decode cX0_rankWithout 11 = .ok (.isub, 1) := by decide +kernel
theorem dX0_rankWithout_12 : decode cX0_rankWithout 12 = .ok (.iconst 1, 1) := by decide +kernel
theorem dX0_rankWithout_13 : decode cX0_rankWithout 13 = .ok (.iload_n 2, 1) := by decide +kernel
theorem dX0_rankWithout_14 : decode cX0_rankWithout 14 = .ok (.ishl, 1) := by decide +kernel
theorem dX0_rankWithout_15 : decode cX0_rankWithout 15 = .ok (.iconst (-1), 1) := by decide +kernel
theorem dX0_rankWithout_16 : decode cX0_rankWithout 16 = .ok (.ixor, 1) := by decide +kernel
theorem dX0_rankWithout_17 : decode cX0_rankWithout 17 = .ok (.iand, 1) := by decide +kernel
theorem dX0_rankWithout_18 : decode cX0_rankWithout 18 = .ok (.iaload, 1) := by decide +kernel
theorem dX0_rankWithout_19 : decode cX0_rankWithout 19 = .ok (.ireturn, 1) := by decide +kernel
set_option maxRecDepth 20000 in
theorem ggX0_pairsOf_J9_floorDiv_7cf53 : GoodIn wsX0_pairsOf wsJ9_floorDiv_7cf53 := goodIn_r _ [6] (by decide +kernel) (by decide +kernel)
set_option maxRecDepth 20000 in
theorem gX0_pairsOf_J9_floorDiv_7cf53 : GoodIn wsX0_pairsOf (va_wsS RX0 40 yJ9_floorDiv_7cf53 wsJ9_floorDiv_7cf53) := goodIn_app (goodIn_of _ (by decide +kernel)) ggX0_pairsOf_J9_floorDiv_7cf53
theorem dX0_pairsOf_0 : decode cX0_pairsOf 0 = .ok (.iload_n 1, 1) := by decide +kernel
theorem dX0_pairsOf_1 : decode cX0_pairsOf 1 = .ok (.ldc 39, 2) := by decide +kernel
theorem dX0_pairsOf_3 : decode cX0_pairsOf 3 = .ok (.iadd, 1) := by decide +kernel
theorem dX0_pairsOf_4 : decode cX0_pairsOf 4 = .ok (.ldc 29, 2) := by decide +kernel
theorem dX0_pairsOf_6 : decode cX0_pairsOf 6 = .ok (.invokestatic 40, 3) := by decide +kernel
theorem dX0_pairsOf_9 : decode cX0_pairsOf 9 = .ok (.ireturn, 1) := by decide +kernel
set_option maxRecDepth 20000 in
theorem ggX0_sumOf_X0_pairsOf : GoodIn wsX0_sumOf wsX0_pairsOf := goodIn_r _ [6, 7, 1, 8, 9, 10, 11] (by decide +kernel) (by decide +kernel)
set_option maxRecDepth 20000 in
theorem gX0_sumOf_X0_pairsOf : GoodIn wsX0_sumOf (wsV RX0 43 RX0 yX0_pairsOf wsX0_pairsOf) := goodIn_app (goodIn_of _ (by decide +kernel)) ggX0_sumOf_X0_pairsOf
theorem dX0_sumOf_0 : decode cX0_sumOf 0 = .ok (.iload_n 1, 1) := by decide +kernel
theorem dX0_sumOf_1 : decode cX0_sumOf 1 = .ok (.aload_n 0, 1) := by decide +kernel
theorem dX0_sumOf_2 : decode cX0_sumOf 2 = .ok (.iload_n 1, 1) := by decide +kernel
theorem dX0_sumOf_3 : decode cX0_sumOf 3 = .ok (.invokevirtual 43, 3) := by decide +kernel
theorem dX0_sumOf_6 : decode cX0_sumOf 6 = .ok (.ldc 29, 2) := by decide +kernel
theorem dX0_sumOf_8 : decode cX0_sumOf 8 = .ok (.imul, 1) := by decide +kernel
theorem dX0_sumOf_9 : decode cX0_sumOf 9 = .ok (.isub, 1) := by decide +kernel
theorem dX0_sumOf_10 : decode cX0_sumOf 10 = .ok (.ireturn, 1) := by decide +kernel
set_option maxRecDepth 20000 in
theorem ggX1_init_X3_init : GoodIn wsX1_init wsX3_init := goodIn_r _ [9, 10, 2, 3, 11, 12, 16, 17, 18, 19, 20, 21, 22] (by decide +kernel) (by decide +kernel)
set_option maxRecDepth 20000 in
theorem gX1_init_X3_init_n17 : GoodIn wsX1_init (wsX3_init) := ggX1_init_X3_init
theorem dX1_init_0 : decode cX1_init 0 = .ok (.aload_n 0, 1) := by decide +kernel
theorem dX1_init_1 : decode cX1_init 1 = .ok (.invokespecial 3, 3) := by decide +kernel
theorem dX1_init_4 : decode cX1_init 4 = .ok (.aload_n 0, 1) := by decide +kernel
theorem dX1_init_5 : decode cX1_init 5 = .ok (.bipush 9, 2) := by decide +kernel
theorem dX1_init_7 : decode cX1_init 7 = .ok (.anewarray 9, 3) := by decide +kernel
theorem dX1_init_10 : decode cX1_init 10 = .ok (.putfield 11, 3) := by decide +kernel
theorem dX1_init_13 : decode cX1_init 13 = .ok (.iconst 0, 1) := by decide +kernel
theorem dX1_init_14 : decode cX1_init 14 = .ok (.istore_n 1, 1) := by decide +kernel
theorem dX1_init_15 : decode cX1_init 15 = .ok (.iload_n 1, 1) := by decide +kernel
theorem dX1_init_16 : decode cX1_init 16 = .ok (.bipush 9, 2) := by decide +kernel
theorem dX1_init_18 : decode cX1_init 18 = .ok (.if_icmp .ge 22, 3) := by decide +kernel
theorem dX1_init_21 : decode cX1_init 21 = .ok (.aload_n 0, 1) := by decide +kernel
theorem dX1_init_22 : decode cX1_init 22 = .ok (.getfield 11, 3) := by decide +kernel
theorem dX1_init_25 : decode cX1_init 25 = .ok (.iload_n 1, 1) := by decide +kernel
theorem dX1_init_26 : decode cX1_init 26 = .ok (.new 9, 3) := by decide +kernel
theorem dX1_init_29 : decode cX1_init 29 = .ok (.dup, 1) := by decide +kernel
theorem dX1_init_30 : decode cX1_init 30 = .ok (.invokespecial 17, 3) := by decide +kernel
theorem dX1_init_33 : decode cX1_init 33 = .ok (.aastore, 1) := by decide +kernel
theorem dX1_init_34 : decode cX1_init 34 = .ok (.iinc 1 1, 3) := by decide +kernel
theorem dX1_init_37 : decode cX1_init 37 = .ok (.goto (-22), 3) := by decide +kernel
theorem dX1_init_40 : decode cX1_init 40 = .ok (.return_, 1) := by decide +kernel
set_option maxRecDepth 20000 in
theorem ggX1_copyFrom_X3_copyFrom : GoodIn wsX1_copyFrom wsX3_copyFrom := goodIn_r _ [8, 9, 10, 11, 12, 13, 14, 15, 16, 17, 18, 19, 23, 24, 25, 26, 27, 28, 29] (by decide +kernel) (by decide +kernel)
set_option maxRecDepth 20000 in
theorem gX1_copyFrom_X3_copyFrom : GoodIn wsX1_copyFrom (wsV RX1 22 RX3 yX3_copyFrom wsX3_copyFrom) := goodIn_app (goodIn_of _ (by decide +kernel)) ggX1_copyFrom_X3_copyFrom
theorem dX1_copyFrom_0 : decode cX1_copyFrom 0 = .ok (.iconst 0, 1) := by decide +kernel
theorem dX1_copyFrom_1 : decode cX1_copyFrom 1 = .ok (.istore_n 2, 1) := by decide +kernel
theorem dX1_copyFrom_2 : decode cX1_copyFrom 2 = .ok (.iload_n 2, 1) := by decide +kernel
theorem dX1_copyFrom_3 : decode cX1_copyFrom 3 = .ok (.aload_n 1, 1) := by decide +kernel
theorem dX1_copyFrom_4 : decode cX1_copyFrom 4 = .ok (.getfield 18, 3) := by decide +kernel
theorem dX1_copyFrom_7 : decode cX1_copyFrom 7 = .ok (.if_icmp .ge 24, 3) := by decide +kernel
theorem dX1_copyFrom_10 : decode cX1_copyFrom 10 = .ok (.aload_n 0, 1) := by decide +kernel
theorem dX1_copyFrom_11 : decode cX1_copyFrom 11 = .ok (.getfield 11, 3) := by decide +kernel
theorem dX1_copyFrom_14 : decode cX1_copyFrom 14 = .ok (.iload_n 2, 1) := by decide +kernel
theorem dX1_copyFrom_15 : decode cX1_copyFrom 15 = .ok (.aaload, 1) := by decide +kernel
theorem dX1_copyFrom_16 : decode cX1_copyFrom 16 = .ok (.aload_n 1, 1) := by decide +kernel
theorem dX1_copyFrom_17 : decode cX1_copyFrom 17 = .ok (.getfield 11, 3) := by decide +kernel
theorem dX1_copyFrom_20 : decode cX1_copyFrom 20 = .ok (.iload_n 2, 1) := by decide +kernel
theorem dX1_copyFrom_21 : decode cX1_copyFrom 21 = .ok (.aaload, 1) := by decide +kernel
theorem dX1_copyFrom_22 : decode cX1_copyFrom 22 = .ok (.invokevirtual 22, 3) := by decide +kernel
theorem dX1_copyFrom_25 : decode cX1_copyFrom 25 = .ok (.iinc 2 1, 3) := by decide +kernel
theorem dX1_copyFrom_28 : decode cX1_copyFrom 28 = .ok (.goto (-26), 3) := by decide +kernel
theorem dX1_copyFrom_31 : decode cX1_copyFrom 31 = .ok (.aload_n 0, 1) := by decide +kernel
theorem dX1_copyFrom_32 : decode cX1_copyFrom 32 = .ok (.aload_n 1, 1) := by decide +kernel
theorem dX1_copyFrom_33 : decode cX1_copyFrom 33 = .ok (.getfield 18, 3) := by decide +kernel
theorem dX1_copyFrom_36 : decode cX1_copyFrom 36 = .ok (.putfield 18, 3) := by decide +kernel
theorem dX1_copyFrom_39 : decode cX1_copyFrom 39 = .ok (.aload_n 0, 1) := by decide +kernel
theorem dX1_copyFrom_40 : decode cX1_copyFrom 40 = .ok (.aload_n 1, 1) := by decide +kernel
theorem dX1_copyFrom_41 : decode cX1_copyFrom 41 = .ok (.getfield 26, 3) := by decide +kernel
theorem dX1_copyFrom_44 : decode cX1_copyFrom 44 = .ok (.putfield 26, 3) := by decide +kernel
theorem dX1_copyFrom_47 : decode cX1_copyFrom 47 = .ok (.return_, 1) := by decide +kernel
theorem dX1_has_0 : decode cX1_has 0 = .ok (.iload_n 1, 1) := by decide +kernel
theorem dX1_has_1 : decode cX1_has 1 = .ok (.ifCond .lt 15, 3) := by decide +kernel
theorem dX1_has_4 : decode cX1_has 4 = .ok (.iload_n 1, 1) := by decide +kernel
theorem dX1_has_5 : decode cX1_has 5 = .ok (.aload_n 0, 1) := by decide +kernel
theorem dX1_has_6 : decode cX1_has 6 = .ok (.getfield 18, 3) := by decide +kernel
theorem dX1_has_9 : decode cX1_has 9 = .ok (.if_icmp .ge 7, 3) := by decide +kernel
theorem dX1_has_12 : decode cX1_has 12 = .ok (.iconst 1, 1) := by decide +kernel
theorem dX1_has_13 : decode cX1_has 13 = .ok (.goto 4, 3) := by decide +kernel
theorem dX1_has_16 : decode cX1_has 16 = .ok (.iconst 0, 1) := by decide +kernel
theorem dX1_has_17 : decode cX1_has 17 = .ok (.ireturn, 1) := by decide +kernel
theorem dX1_isFree_0 : decode cX1_isFree 0 = .ok (.aload_n 0, 1) := by decide +kernel
theorem dX1_isFree_1 : decode cX1_isFree 1 = .ok (.getfield 11, 3) := by decide +kernel
theorem dX1_isFree_4 : decode cX1_isFree 4 = .ok (.iload_n 1, 1) := by decide +kernel
theorem dX1_isFree_5 : decode cX1_isFree 5 = .ok (.aaload, 1) := by decide +kernel
theorem dX1_isFree_6 : decode cX1_isFree 6 = .ok (.getfield 29, 3) := by decide +kernel
theorem dX1_isFree_9 : decode cX1_isFree 9 = .ok (.sipush (-9999), 3) := by decide +kernel
theorem dX1_isFree_12 : decode cX1_isFree 12 = .ok (.if_icmp .ne 7, 3) := by decide +kernel
theorem dX1_isFree_15 : decode cX1_isFree 15 = .ok (.iconst 1, 1) := by decide +kernel
theorem dX1_isFree_16 : decode cX1_isFree 16 = .ok (.goto 4, 3) := by decide +kernel
theorem dX1_isFree_19 : decode cX1_isFree 19 = .ok (.iconst 0, 1) := by decide +kernel
theorem dX1_isFree_20 : decode cX1_isFree 20 = .ok (.ireturn, 1) := by decide +kernel
set_option maxRecDepth 20000 in
theorem ggX1_greaterPartner_X1_has : GoodIn wsX1_greaterPartner wsX1_has := goodIn_r _ [7, 8, 9, 10, 11] (by decide +kernel) (by decide +kernel)
set_option maxRecDepth 20000 in
theorem gX1_greaterPartner_X1_has : GoodIn wsX1_greaterPartner (wsV RX1 32 RX1 yX1_has wsX1_has) := goodIn_app (goodIn_of _ (by decide +kernel)) ggX1_greaterPartner_X1_has
theorem dX1_greaterPartner_0 : decode cX1_greaterPartner 0 = .ok (.aload_n 0, 1) := by decide +kernel
theorem dX1_greaterPartner_1 : decode cX1_greaterPartner 1 = .ok (.getfield 11, 3) := by decide +kernel
theorem dX1_greaterPartner_4 : decode cX1_greaterPartner 4 = .ok (.iload_n 1, 1) := by decide +kernel
theorem dX1_greaterPartner_5 : decode cX1_greaterPartner 5 = .ok (.aaload, 1) := by decide +kernel
theorem dX1_greaterPartner_6 : decode cX1_greaterPartner 6 = .ok (.getfield 29, 3) := by decide +kernel
theorem dX1_greaterPartner_9 : decode cX1_greaterPartner 9 = .ok (.istore_n 2, 1) := by decide +kernel
theorem dX1_greaterPartner_10 : decode cX1_greaterPartner 10 = .ok (.aload_n 0, 1) := by decide +kernel
theorem dX1_greaterPartner_11 : decode cX1_greaterPartner 11 = .ok (.iload_n 2, 1) := by decide +kernel
theorem dX1_greaterPartner_12 : decode cX1_greaterPartner 12 = .ok (.invokevirtual 32, 3) := by decide +kernel
theorem dX1_greaterPartner_15 : decode cX1_greaterPartner 15 = .ok (.ifCond .eq 12, 3) := by decide +kernel
theorem dX1_greaterPartner_18 : decode cX1_greaterPartner 18 = .ok (.iload_n 2, 1) := by decide +kernel
theorem dX1_greaterPartner_19 : decode cX1_greaterPartner 19 = .ok (.iload_n 1, 1) := by decide +kernel
theorem dX1_greaterPartner_20 : decode cX1_greaterPartner 20 = .ok (.if_icmp .le 7, 3) := by decide +kernel
theorem dX1_greaterPartner_23 : decode cX1_greaterPartner 23 = .ok (.iload_n 2, 1) := by decide +kernel
theorem dX1_greaterPartner_24 : decode cX1_greaterPartner 24 = .ok (.goto 6, 3) := by decide +kernel
theorem dX1_greaterPartner_27 : decode cX1_greaterPartner 27 = .ok (.sipush (-9999), 3) := by decide +kernel
theorem dX1_greaterPartner_30 : decode cX1_greaterPartner 30 = .ok (.ireturn, 1) := by decide +kernel
set_option maxRecDepth 20000 in
theorem ggX1_numberOf_X1_isFree : GoodIn wsX1_numberOf wsX1_isFree := goodIn_r _ [13, 1, 7, 27, 28, 29, 30, 31, 32, 33, 34, 35, 36] (by decide +kernel) (by decide +kernel)
set_option maxRecDepth 20000 in
theorem gX1_numberOf_X1_isFree : GoodIn wsX1_numberOf (wsV RX1 52 RX1 yX1_isFree wsX1_isFree) := goodIn_app (goodIn_of _ (by decide +kernel)) ggX1_numberOf_X1_isFree
set_option maxRecDepth 20000 in
theorem ggX1_numberOf_X1_countFittingWith : GoodIn wsX1_numberOf wsX1_countFittingWith := goodIn_r _ [17, 18, 19, 20, 21, 12, 22, 23, 24, 25, 26, 1, 3, 2, 27, 28, 29, 30, 31, 32, 33, 34, 35, 36] (by decide +kernel) (by decide +kernel)
set_option maxRecDepth 20000 in
theorem gX1_numberOf_X1_countFittingWith : GoodIn wsX1_numberOf (wsV RX1 58 RX1 yX1_countFittingWith wsX1_countFittingWith) := goodIn_app (goodIn_of _ (by decide +kernel)) ggX1_numberOf_X1_countFittingWith
theorem dX1_numberOf_0 : decode cX1_numberOf 0 = .ok (.aload_n 0, 1) := by decide +kernel
theorem dX1_numberOf_1 : decode cX1_numberOf 1 = .ok (.getfield 11, 3) := by decide +kernel
theorem dX1_numberOf_4 : decode cX1_numberOf 4 = .ok (.iload_n 1, 1) := by decide +kernel
theorem dX1_numberOf_5 : decode cX1_numberOf 5 = .ok (.aaload, 1) := by decide +kernel
theorem dX1_numberOf_6 : decode cX1_numberOf 6 = .ok (.astore_n 3, 1) := by decide +kernel
theorem dX1_numberOf_7 : decode cX1_numberOf 7 = .ok (.iload_n 2, 1) := by decide +kernel
theorem dX1_numberOf_8 : decode cX1_numberOf 8 = .ok (.ifCond .lt 15, 3) := by decide +kernel
theorem dX1_numberOf_11 : decode cX1_numberOf 11 = .ok (.iload_n 2, 1) := by decide +kernel
theorem dX1_numberOf_12 : decode cX1_numberOf 12 = .ok (.iconst 4, 1) := by decide +kernel
theorem dX1_numberOf_13 : decode cX1_numberOf 13 = .ok (.if_icmp .ge 10, 3) := by decide +kernel
theorem dX1_numberOf_16 : decode cX1_numberOf 16 = .ok (.aload_n 3, 1) := by decide +kernel
theorem dX1_numberOf_17 : decode cX1_numberOf 17 = .ok (.getfield 36, 3) := by decide +kernel
theorem dX1_numberOf_20 : decode cX1_numberOf 20 = .ok (.iload_n 2, 1) := by decide +kernel
theorem dX1_numberOf_21 : decode cX1_numberOf 21 = .ok (.iaload, 1) := by decide +kernel
theorem dX1_numberOf_22 : decode cX1_numberOf 22 = .ok (.ireturn, 1) := by decide +kernel
theorem dX1_numberOf_23 : decode cX1_numberOf 23 = .ok (.iload_n 2, 1) := by decide +kernel
theorem dX1_numberOf_24 : decode cX1_numberOf 24 = .ok (.tableswitch 94 4 10 #[44, 49, 54, 59, 64, 69, 88], 44) := by decide +kernel
theorem dX1_numberOf_68 : decode cX1_numberOf 68 = .ok (.aload_n 3, 1) := by decide +kernel
theorem dX1_numberOf_69 : decode cX1_numberOf 69 = .ok (.getfield 40, 3) := by decide +kernel
theorem dX1_numberOf_72 : decode cX1_numberOf 72 = .ok (.ireturn, 1) := by decide +kernel
theorem dX1_numberOf_73 : decode cX1_numberOf 73 = .ok (.aload_n 3, 1) := by decide +kernel
theorem dX1_numberOf_74 : decode cX1_numberOf 74 = .ok (.getfield 43, 3) := by decide +kernel
theorem dX1_numberOf_77 : decode cX1_numberOf 77 = .ok (.ireturn, 1) := by decide +kernel
theorem dX1_numberOf_78 : decode cX1_numberOf 78 = .ok (.aload_n 3, 1) := by decide +kernel
theorem dX1_numberOf_79 : decode cX1_numberOf 79 = .ok (.getfield 46, 3) := by decide +kernel
theorem dX1_numberOf_82 : decode cX1_numberOf 82 = .ok (.ireturn, 1) := by decide +kernel
theorem dX1_numberOf_83 : decode cX1_numberOf 83 = .ok (.aload_n 3, 1) := by decide +kernel
theorem dX1_numberOf_84 : decode cX1_numberOf 84 = .ok (.getfield 49, 3) := by decide +kernel
theorem dX1_numberOf_87 : decode cX1_numberOf 87 = .ok (.ireturn, 1) := by decide +kernel
theorem dX1_numberOf_88 : decode cX1_numberOf 88 = .ok (.aload_n 3, 1) := by decide +kernel
theorem dX1_numberOf_89 : decode cX1_numberOf 89 = .ok (.getfield 29, 3) := by decide +kernel
theorem dX1_numberOf_92 : decode cX1_numberOf 92 = .ok (.ireturn, 1) := by decide +kernel
theorem dX1_numberOf_93 : decode cX1_numberOf 93 = .ok (.aload_n 0, 1) := by decide +kernel
theorem dX1_numberOf_94 : decode cX1_numberOf 94 = .ok (.iload_n 1, 1) := by decide +kernel
theorem dX1_numberOf_95 : decode cX1_numberOf 95 = .ok (.invokevirtual 52, 3) := by decide +kernel
theorem dX1_numberOf_98 : decode cX1_numberOf 98 = .ok (.ifCond .eq 9, 3) := by decide +kernel
theorem dX1_numberOf_101 : decode cX1_numberOf 101 = .ok (.sipush (-9999), 3) := by decide +kernel
theorem dX1_numberOf_104 : decode cX1_numberOf 104 = .ok (.goto 7, 3) := by decide +kernel
theorem dX1_numberOf_107 : decode cX1_numberOf 107 = .ok (.aload_n 3, 1) := by decide +kernel
theorem dX1_numberOf_108 : decode cX1_numberOf 108 = .ok (.getfield 55, 3) := by decide +kernel
theorem dX1_numberOf_111 : decode cX1_numberOf 111 = .ok (.ireturn, 1) := by decide +kernel
theorem dX1_numberOf_112 : decode cX1_numberOf 112 = .ok (.aload_n 0, 1) := by decide +kernel
theorem dX1_numberOf_113 : decode cX1_numberOf 113 = .ok (.iload_n 1, 1) := by decide +kernel
theorem dX1_numberOf_114 : decode cX1_numberOf 114 = .ok (.invokevirtual 58, 3) := by decide +kernel
theorem dX1_numberOf_117 : decode cX1_numberOf 117 = .ok (.ireturn, 1) := by decide +kernel
theorem dX1_numberOf_118 : decode cX1_numberOf 118 = .ok (.sipush (-9999), 3) := by decide +kernel
theorem dX1_numberOf_121 : decode cX1_numberOf 121 = .ok (.ireturn, 1) := by decide +kernel
theorem dX1_lead_0 : decode cX1_lead 0 = .ok (.aload_n 0, 1) := by decide +kernel
theorem dX1_lead_1 : decode cX1_lead 1 = .ok (.getfield 11, 3) := by decide +kernel
theorem dX1_lead_4 : decode cX1_lead 4 = .ok (.iload_n 1, 1) := by decide +kernel
theorem dX1_lead_5 : decode cX1_lead 5 = .ok (.aaload, 1) := by decide +kernel
theorem dX1_lead_6 : decode cX1_lead 6 = .ok (.getfield 40, 3) := by decide +kernel
theorem dX1_lead_9 : decode cX1_lead 9 = .ok (.istore_n 3, 1) := by decide +kernel
theorem dX1_lead_10 : decode cX1_lead 10 = .ok (.aload_n 0, 1) := by decide +kernel
theorem dX1_lead_11 : decode cX1_lead 11 = .ok (.getfield 11, 3) := by decide +kernel
theorem dX1_lead_14 : decode cX1_lead 14 = .ok (.iload_n 2, 1) := by decide +kernel
theorem dX1_lead_15 : decode cX1_lead 15 = .ok (.aaload, 1) := by decide +kernel
theorem dX1_lead_16 : decode cX1_lead 16 = .ok (.getfield 36, 3) := by decide +kernel
theorem dX1_lead_19 : decode cX1_lead 19 = .ok (.iload_n 3, 1) := by decide +kernel
theorem dX1_lead_20 : decode cX1_lead 20 = .ok (.iaload, 1) := by decide +kernel
theorem dX1_lead_21 : decode cX1_lead 21 = .ok (.aload_n 0, 1) := by decide +kernel
theorem dX1_lead_22 : decode cX1_lead 22 = .ok (.getfield 11, 3) := by decide +kernel
theorem dX1_lead_25 : decode cX1_lead 25 = .ok (.iload_n 1, 1) := by decide +kernel
theorem dX1_lead_26 : decode cX1_lead 26 = .ok (.aaload, 1) := by decide +kernel
theorem dX1_lead_27 : decode cX1_lead 27 = .ok (.getfield 36, 3) := by decide +kernel
theorem dX1_lead_30 : decode cX1_lead 30 = .ok (.iload_n 3, 1) := by decide +kernel
theorem dX1_lead_31 : decode cX1_lead 31 = .ok (.iaload, 1) := by decide +kernel
theorem dX1_lead_32 : decode cX1_lead 32 = .ok (.isub, 1) := by decide +kernel
theorem dX1_lead_33 : decode cX1_lead 33 = .ok (.ireturn, 1) := by decide +kernel
set_option maxRecDepth 20000 in
theorem ggX1_fit_X1_lead : GoodIn wsX1_fit wsX1_lead := goodIn_r _ [5, 6, 7, 8, 9, 10, 11, 12, 13, 14, 15, 16, 17, 18] (by decide +kernel) (by decide +kernel)
set_option maxRecDepth 20000 in
theorem gX1_fit_X1_lead : GoodIn wsX1_fit (wsV RX1 62 RX1 yX1_lead wsX1_lead) := goodIn_app (goodIn_of _ (by decide +kernel)) ggX1_fit_X1_lead
theorem dX1_fit_0 : decode cX1_fit 0 = .ok (.aload_n 0, 1) := by decide +kernel
theorem dX1_fit_1 : decode cX1_fit 1 = .ok (.iload_n 1, 1) := by decide +kernel
theorem dX1_fit_2 : decode cX1_fit 2 = .ok (.iload_n 2, 1) := by decide +kernel
theorem dX1_fit_3 : decode cX1_fit 3 = .ok (.invokevirtual 62, 3) := by decide +kernel
theorem dX1_fit_6 : decode cX1_fit 6 = .ok (.iconst 2, 1) := by decide +kernel
theorem dX1_fit_7 : decode cX1_fit 7 = .ok (.if_icmp .lt 17, 3) := by decide +kernel
theorem dX1_fit_10 : decode cX1_fit 10 = .ok (.aload_n 0, 1) := by decide +kernel
theorem dX1_fit_11 : decode cX1_fit 11 = .ok (.iload_n 2, 1) := by decide +kernel
theorem dX1_fit_12 : decode cX1_fit 12 = .ok (.iload_n 1, 1) := by decide +kernel
theorem dX1_fit_13 : decode cX1_fit 13 = .ok (.invokevirtual 62, 3) := by decide +kernel
theorem dX1_fit_16 : decode cX1_fit 16 = .ok (.iconst 2, 1) := by decide +kernel
theorem dX1_fit_17 : decode cX1_fit 17 = .ok (.if_icmp .lt 7, 3) := by decide +kernel
theorem dX1_fit_20 : decode cX1_fit 20 = .ok (.iconst 1, 1) := by decide +kernel
theorem dX1_fit_21 : decode cX1_fit 21 = .ok (.goto 4, 3) := by decide +kernel
theorem dX1_fit_24 : decode cX1_fit 24 = .ok (.iconst 0, 1) := by decide +kernel
theorem dX1_fit_25 : decode cX1_fit 25 = .ok (.ireturn, 1) := by decide +kernel
set_option maxRecDepth 20000 in
theorem ggX1_score_X1_lead : GoodIn wsX1_score wsX1_lead := goodIn_r _ [8, 1, 9, 10, 15, 16, 17, 18, 19, 20, 21, 22, 23, 24] (by decide +kernel) (by decide +kernel)
set_option maxRecDepth 20000 in
theorem gX1_score_X1_lead : GoodIn wsX1_score (wsV RX1 62 RX1 yX1_lead wsX1_lead) := goodIn_app (goodIn_of _ (by decide +kernel)) ggX1_score_X1_lead
set_option maxRecDepth 20000 in
theorem ggX1_score_J9_floorDiv_7cf53 : GoodIn wsX1_score wsJ9_floorDiv_7cf53 := goodIn_r _ [14] (by decide +kernel) (by decide +kernel)
set_option maxRecDepth 20000 in
theorem gX1_score_J9_floorDiv_7cf53 : GoodIn wsX1_score (va_wsS RX1 66 yJ9_floorDiv_7cf53 wsJ9_floorDiv_7cf53) := goodIn_app (goodIn_of _ (by decide +kernel)) ggX1_score_J9_floorDiv_7cf53
theorem dX1_score_0 : decode cX1_score 0 = .ok (.aload_n 0, 1) := by decide +kernel
theorem dX1_score_1 : decode cX1_score 1 = .ok (.getfield 11, 3) := by decide +kernel
theorem dX1_score_4 : decode cX1_score 4 = .ok (.iload_n 2, 1) := by decide +kernel
theorem dX1_score_5 : decode cX1_score 5 = .ok (.aaload, 1) := by decide +kernel
theorem dX1_score_6 : decode cX1_score 6 = .ok (.astore_n 3, 1) := by decide +kernel
theorem dX1_score_7 : decode cX1_score 7 = .ok (.bipush 10, 2) := by decide +kernel
theorem dX1_score_9 : decode cX1_score 9 = .ok (.aload_n 0, 1) := by decide +kernel
theorem dX1_score_10 : decode cX1_score 10 = .ok (.iload_n 1, 1) := by decide +kernel
theorem dX1_score_11 : decode cX1_score 11 = .ok (.iload_n 2, 1) := by decide +kernel
theorem dX1_score_12 : decode cX1_score 12 = .ok (.invokevirtual 62, 3) := by decide +kernel
theorem dX1_score_15 : decode cX1_score 15 = .ok (.imul, 1) := by decide +kernel
theorem dX1_score_16 : decode cX1_score 16 = .ok (.iconst 5, 1) := by decide +kernel
theorem dX1_score_17 : decode cX1_score 17 = .ok (.aload_n 3, 1) := by decide +kernel
theorem dX1_score_18 : decode cX1_score 18 = .ok (.getfield 49, 3) := by decide +kernel
theorem dX1_score_21 : decode cX1_score 21 = .ok (.imul, 1) := by decide +kernel
theorem dX1_score_22 : decode cX1_score 22 = .ok (.isub, 1) := by decide +kernel
theorem dX1_score_23 : decode cX1_score 23 = .ok (.aload_n 3, 1) := by decide +kernel
theorem dX1_score_24 : decode cX1_score 24 = .ok (.getfield 46, 3) := by decide +kernel
theorem dX1_score_27 : decode cX1_score 27 = .ok (.iconst 4, 1) := by decide +kernel
theorem dX1_score_28 : decode cX1_score 28 = .ok (.invokestatic 66, 3) := by decide +kernel
theorem dX1_score_31 : decode cX1_score 31 = .ok (.iadd, 1) := by decide +kernel
theorem dX1_score_32 : decode cX1_score 32 = .ok (.ireturn, 1) := by decide +kernel
set_option maxRecDepth 20000 in
theorem ggX1_value_X1_score : GoodIn wsX1_value wsX1_score := goodIn_r _ [5, 6, 7, 8, 9, 10, 11, 4, 12, 13, 14, 15, 16, 17, 18, 19, 20, 21, 22, 23, 24, 25, 26, 27, 28] (by decide +kernel) (by decide +kernel)
set_option maxRecDepth 20000 in
theorem gX1_value_X1_score : GoodIn wsX1_value (wsV RX1 71 RX1 yX1_score wsX1_score) := goodIn_app (goodIn_of _ (by decide +kernel)) ggX1_value_X1_score
theorem dX1_value_0 : decode cX1_value 0 = .ok (.aload_n 0, 1) := by decide +kernel
theorem dX1_value_1 : decode cX1_value 1 = .ok (.iload_n 1, 1) := by decide +kernel
theorem dX1_value_2 : decode cX1_value 2 = .ok (.iload_n 2, 1) := by decide +kernel
theorem dX1_value_3 : decode cX1_value 3 = .ok (.invokevirtual 71, 3) := by decide +kernel
theorem dX1_value_6 : decode cX1_value 6 = .ok (.aload_n 0, 1) := by decide +kernel
theorem dX1_value_7 : decode cX1_value 7 = .ok (.iload_n 2, 1) := by decide +kernel
theorem dX1_value_8 : decode cX1_value 8 = .ok (.iload_n 1, 1) := by decide +kernel
theorem dX1_value_9 : decode cX1_value 9 = .ok (.invokevirtual 71, 3) := by decide +kernel
theorem dX1_value_12 : decode cX1_value 12 = .ok (.iadd, 1) := by decide +kernel
theorem dX1_value_13 : decode cX1_value 13 = .ok (.ireturn, 1) := by decide +kernel
set_option maxRecDepth 20000 in
theorem ggX1_block_X1_fit : GoodIn wsX1_block wsX1_fit := goodIn_r _ [7, 8, 9, 10, 6, 11, 1, 12, 13, 33, 34, 35, 36, 37, 38, 39, 40, 41, 42] (by decide +kernel) (by decide +kernel)
set_option maxRecDepth 20000 in
theorem gX1_block_X1_fit : GoodIn wsX1_block (wsV RX1 74 RX1 yX1_fit wsX1_fit) := goodIn_app (goodIn_of _ (by decide +kernel)) ggX1_block_X1_fit
set_option maxRecDepth 20000 in
theorem ggX1_block_X1_prefers : GoodIn wsX1_block wsX1_prefers := goodIn_r _ [17, 1, 2, 18, 19, 20, 6, 21, 22, 23, 24, 25, 26, 27, 28, 8, 9, 10, 11, 12, 13, 29, 30, 31, 32, 33, 34, 35, 36, 37, 38, 39, 40, 41, 42] (by decide +kernel) (by decide +kernel)
set_option maxRecDepth 20000 in
theorem gX1_block_X1_prefers : GoodIn wsX1_block (wsV RX1 78 RX1 yX1_prefers wsX1_prefers) := goodIn_app (goodIn_of _ (by decide +kernel)) ggX1_block_X1_prefers
theorem dX1_block_0 : decode cX1_block 0 = .ok (.aload_n 0, 1) := by decide +kernel
theorem dX1_block_1 : decode cX1_block 1 = .ok (.getfield 11, 3) := by decide +kernel
theorem dX1_block_4 : decode cX1_block 4 = .ok (.iload_n 1, 1) := by decide +kernel
theorem dX1_block_5 : decode cX1_block 5 = .ok (.aaload, 1) := by decide +kernel
theorem dX1_block_6 : decode cX1_block 6 = .ok (.getfield 29, 3) := by decide +kernel
theorem dX1_block_9 : decode cX1_block 9 = .ok (.iload_n 2, 1) := by decide +kernel
theorem dX1_block_10 : decode cX1_block 10 = .ok (.if_icmp .eq 34, 3) := by decide +kernel
theorem dX1_block_13 : decode cX1_block 13 = .ok (.aload_n 0, 1) := by decide +kernel
theorem dX1_block_14 : decode cX1_block 14 = .ok (.iload_n 1, 1) := by decide +kernel
theorem dX1_block_15 : decode cX1_block 15 = .ok (.iload_n 2, 1) := by decide +kernel
theorem dX1_block_16 : decode cX1_block 16 = .ok (.invokevirtual 74, 3) := by decide +kernel
theorem dX1_block_19 : decode cX1_block 19 = .ok (.ifCond .eq 25, 3) := by decide +kernel
theorem dX1_block_22 : decode cX1_block 22 = .ok (.aload_n 0, 1) := by decide +kernel
theorem dX1_block_23 : decode cX1_block 23 = .ok (.iload_n 1, 1) := by decide +kernel
theorem dX1_block_24 : decode cX1_block 24 = .ok (.iload_n 2, 1) := by decide +kernel
theorem dX1_block_25 : decode cX1_block 25 = .ok (.invokevirtual 78, 3) := by decide +kernel
theorem dX1_block_28 : decode cX1_block 28 = .ok (.ifCond .eq 16, 3) := by decide +kernel
theorem dX1_block_31 : decode cX1_block 31 = .ok (.aload_n 0, 1) := by decide +kernel
theorem dX1_block_32 : decode cX1_block 32 = .ok (.iload_n 2, 1) := by decide +kernel
theorem dX1_block_33 : decode cX1_block 33 = .ok (.iload_n 1, 1) := by decide +kernel
theorem dX1_block_34 : decode cX1_block 34 = .ok (.invokevirtual 78, 3) := by decide +kernel
theorem dX1_block_37 : decode cX1_block 37 = .ok (.ifCond .eq 7, 3) := by decide +kernel
theorem dX1_block_40 : decode cX1_block 40 = .ok (.iconst 1, 1) := by decide +kernel
theorem dX1_block_41 : decode cX1_block 41 = .ok (.goto 4, 3) := by decide +kernel
theorem dX1_block_44 : decode cX1_block 44 = .ok (.iconst 0, 1) := by decide +kernel
theorem dX1_block_45 : decode cX1_block 45 = .ok (.ireturn, 1) := by decide +kernel
set_option maxRecDepth 20000 in
theorem ggX1_prefers_X1_has : GoodIn wsX1_prefers wsX1_has := goodIn_r _ [7, 8, 25, 26, 27] (by decide +kernel) (by decide +kernel)
set_option maxRecDepth 20000 in
theorem gX1_prefers_X1_has : GoodIn wsX1_prefers (wsV RX1 32 RX1 yX1_has wsX1_has) := goodIn_app (goodIn_of _ (by decide +kernel)) ggX1_prefers_X1_has
set_option maxRecDepth 20000 in
theorem ggX1_prefers_X1_score : GoodIn wsX1_prefers wsX1_score := goodIn_r _ [12, 1, 13, 14, 15, 16, 17, 6, 18, 19, 20, 21, 22, 23, 24, 25, 26, 27, 28, 29, 30, 31, 32, 33, 34] (by decide +kernel) (by decide +kernel)
set_option maxRecDepth 20000 in
theorem gX1_prefers_X1_score : GoodIn wsX1_prefers (wsV RX1 71 RX1 yX1_score wsX1_score) := goodIn_app (goodIn_of _ (by decide +kernel)) ggX1_prefers_X1_score
theorem dX1_prefers_0 : decode cX1_prefers 0 = .ok (.aload_n 0, 1) := by decide +kernel
theorem dX1_prefers_1 : decode cX1_prefers 1 = .ok (.getfield 11, 3) := by decide +kernel
theorem dX1_prefers_4 : decode cX1_prefers 4 = .ok (.iload_n 1, 1) := by decide +kernel
theorem dX1_prefers_5 : decode cX1_prefers 5 = .ok (.aaload, 1) := by decide +kernel
theorem dX1_prefers_6 : decode cX1_prefers 6 = .ok (.getfield 29, 3) := by decide +kernel
theorem dX1_prefers_9 : decode cX1_prefers 9 = .ok (.istore_n 3, 1) := by decide +kernel
theorem dX1_prefers_10 : decode cX1_prefers 10 = .ok (.aload_n 0, 1) := by decide +kernel
theorem dX1_prefers_11 : decode cX1_prefers 11 = .ok (.iload_n 3, 1) := by decide +kernel
theorem dX1_prefers_12 : decode cX1_prefers 12 = .ok (.invokevirtual 32, 3) := by decide +kernel
theorem dX1_prefers_15 : decode cX1_prefers 15 = .ok (.ifCond .eq 18, 3) := by decide +kernel
theorem dX1_prefers_18 : decode cX1_prefers 18 = .ok (.aload_n 0, 1) := by decide +kernel
theorem dX1_prefers_19 : decode cX1_prefers 19 = .ok (.iload_n 1, 1) := by decide +kernel
theorem dX1_prefers_20 : decode cX1_prefers 20 = .ok (.iload_n 3, 1) := by decide +kernel
theorem dX1_prefers_21 : decode cX1_prefers 21 = .ok (.invokevirtual 71, 3) := by decide +kernel
theorem dX1_prefers_24 : decode cX1_prefers 24 = .ok (.aload_n 0, 1) := by decide +kernel
theorem dX1_prefers_25 : decode cX1_prefers 25 = .ok (.iload_n 1, 1) := by decide +kernel
theorem dX1_prefers_26 : decode cX1_prefers 26 = .ok (.iload_n 2, 1) := by decide +kernel
theorem dX1_prefers_27 : decode cX1_prefers 27 = .ok (.invokevirtual 71, 3) := by decide +kernel
theorem dX1_prefers_30 : decode cX1_prefers 30 = .ok (.if_icmp .ge 7, 3) := by decide +kernel
theorem dX1_prefers_33 : decode cX1_prefers 33 = .ok (.iconst 1, 1) := by decide +kernel
theorem dX1_prefers_34 : decode cX1_prefers 34 = .ok (.goto 4, 3) := by decide +kernel
theorem dX1_prefers_37 : decode cX1_prefers 37 = .ok (.iconst 0, 1) := by decide +kernel
theorem dX1_prefers_38 : decode cX1_prefers 38 = .ok (.ireturn, 1) := by decide +kernel
set_option maxRecDepth 20000 in
theorem ggX1_canBecomePartners_X1_isFree : GoodIn wsX1_canBecomePartners wsX1_isFree := goodIn_r _ [5, 6, 7, 18, 19, 20, 21, 22, 23, 24, 25, 26, 27] (by decide +kernel) (by decide +kernel)
set_option maxRecDepth 20000 in
theorem gX1_canBecomePartners_X1_isFree : GoodIn wsX1_canBecomePartners (wsV RX1 52 RX1 yX1_isFree wsX1_isFree) := goodIn_app (goodIn_of _ (by decide +kernel)) ggX1_canBecomePartners_X1_isFree
set_option maxRecDepth 20000 in
theorem ggX1_canBecomePartners_X1_fit : GoodIn wsX1_canBecomePartners wsX1_fit := goodIn_r _ [11, 12, 13, 14, 4, 15, 6, 16, 17, 18, 19, 20, 21, 22, 23, 24, 25, 26, 27] (by decide +kernel) (by decide +kernel)
set_option maxRecDepth 20000 in
theorem gX1_canBecomePartners_X1_fit : GoodIn wsX1_canBecomePartners (wsV RX1 74 RX1 yX1_fit wsX1_fit) := goodIn_app (goodIn_of _ (by decide +kernel)) ggX1_canBecomePartners_X1_fit
theorem dX1_canBecomePartners_0 : decode cX1_canBecomePartners 0 = .ok (.aload_n 0, 1) := by decide +kernel
theorem dX1_canBecomePartners_1 : decode cX1_canBecomePartners 1 = .ok (.iload_n 1, 1) := by decide +kernel
theorem dX1_canBecomePartners_2 : decode cX1_canBecomePartners 2 = .ok (.invokevirtual 52, 3) := by decide +kernel
theorem dX1_canBecomePartners_5 : decode cX1_canBecomePartners 5 = .ok (.ifCond .eq 24, 3) := by decide +kernel
theorem dX1_canBecomePartners_8 : decode cX1_canBecomePartners 8 = .ok (.aload_n 0, 1) := by decide +kernel
theorem dX1_canBecomePartners_9 : decode cX1_canBecomePartners 9 = .ok (.iload_n 2, 1) := by decide +kernel
theorem dX1_canBecomePartners_10 : decode cX1_canBecomePartners 10 = .ok (.invokevirtual 52, 3) := by decide +kernel
theorem dX1_canBecomePartners_13 : decode cX1_canBecomePartners 13 = .ok (.ifCond .eq 16, 3) := by decide +kernel
theorem dX1_canBecomePartners_16 : decode cX1_canBecomePartners 16 = .ok (.aload_n 0, 1) := by decide +kernel
theorem dX1_canBecomePartners_17 : decode cX1_canBecomePartners 17 = .ok (.iload_n 1, 1) := by decide +kernel
theorem dX1_canBecomePartners_18 : decode cX1_canBecomePartners 18 = .ok (.iload_n 2, 1) := by decide +kernel
theorem dX1_canBecomePartners_19 : decode cX1_canBecomePartners 19 = .ok (.invokevirtual 74, 3) := by decide +kernel
theorem dX1_canBecomePartners_22 : decode cX1_canBecomePartners 22 = .ok (.ifCond .eq 7, 3) := by decide +kernel
theorem dX1_canBecomePartners_25 : decode cX1_canBecomePartners 25 = .ok (.iconst 1, 1) := by decide +kernel
theorem dX1_canBecomePartners_26 : decode cX1_canBecomePartners 26 = .ok (.goto 4, 3) := by decide +kernel
theorem dX1_canBecomePartners_29 : decode cX1_canBecomePartners 29 = .ok (.iconst 0, 1) := by decide +kernel
theorem dX1_canBecomePartners_30 : decode cX1_canBecomePartners 30 = .ok (.ireturn, 1) := by decide +kernel
set_option maxRecDepth 20000 in
theorem ggX1_countPairs_X1_greaterPartner : GoodIn wsX1_countPairs wsX1_greaterPartner := goodIn_r _ [6, 7, 8, 9, 10, 11, 5, 12, 1, 13, 14, 15, 16, 17, 18, 19, 20, 21, 22] (by decide +kernel) (by decide +kernel)
set_option maxRecDepth 20000 in
theorem gX1_countPairs_X1_greaterPartner : GoodIn wsX1_countPairs (wsV RX1 81 RX1 yX1_greaterPartner wsX1_greaterPartner) := goodIn_app (goodIn_of _ (by decide +kernel)) ggX1_countPairs_X1_greaterPartner
theorem dX1_countPairs_0 : decode cX1_countPairs 0 = .ok (.iconst 0, 1) := by decide +kernel
theorem dX1_countPairs_1 : decode cX1_countPairs 1 = .ok (.istore_n 1, 1) := by decide +kernel
theorem dX1_countPairs_2 : decode cX1_countPairs 2 = .ok (.iconst 0, 1) := by decide +kernel
theorem dX1_countPairs_3 : decode cX1_countPairs 3 = .ok (.istore_n 2, 1) := by decide +kernel
theorem dX1_countPairs_4 : decode cX1_countPairs 4 = .ok (.iload_n 2, 1) := by decide +kernel
theorem dX1_countPairs_5 : decode cX1_countPairs 5 = .ok (.aload_n 0, 1) := by decide +kernel
theorem dX1_countPairs_6 : decode cX1_countPairs 6 = .ok (.getfield 18, 3) := by decide +kernel
theorem dX1_countPairs_9 : decode cX1_countPairs 9 = .ok (.if_icmp .ge 23, 3) := by decide +kernel
theorem dX1_countPairs_12 : decode cX1_countPairs 12 = .ok (.aload_n 0, 1) := by decide +kernel
theorem dX1_countPairs_13 : decode cX1_countPairs 13 = .ok (.iload_n 2, 1) := by decide +kernel
theorem dX1_countPairs_14 : decode cX1_countPairs 14 = .ok (.invokevirtual 81, 3) := by decide +kernel
theorem dX1_countPairs_17 : decode cX1_countPairs 17 = .ok (.sipush (-9999), 3) := by decide +kernel
theorem dX1_countPairs_20 : decode cX1_countPairs 20 = .ok (.if_icmp .eq 6, 3) := by decide +kernel
theorem dX1_countPairs_23 : decode cX1_countPairs 23 = .ok (.iinc 1 1, 3) := by decide +kernel
theorem dX1_countPairs_26 : decode cX1_countPairs 26 = .ok (.iinc 2 1, 3) := by decide +kernel
theorem dX1_countPairs_29 : decode cX1_countPairs 29 = .ok (.goto (-25), 3) := by decide +kernel
theorem dX1_countPairs_32 : decode cX1_countPairs 32 = .ok (.iload_n 1, 1) := by decide +kernel
theorem dX1_countPairs_33 : decode cX1_countPairs 33 = .ok (.ireturn, 1) := by decide +kernel
set_option maxRecDepth 20000 in
theorem ggX1_sumOfValues_X1_greaterPartner : GoodIn wsX1_sumOfValues wsX1_greaterPartner := goodIn_r _ [6, 7, 8, 9, 10, 11, 5, 12, 1, 33, 34, 35, 36, 37, 38, 39, 40, 41, 42] (by decide +kernel) (by decide +kernel)
set_option maxRecDepth 20000 in
theorem gX1_sumOfValues_X1_greaterPartner : GoodIn wsX1_sumOfValues (wsV RX1 81 RX1 yX1_greaterPartner wsX1_greaterPartner) := goodIn_app (goodIn_of _ (by decide +kernel)) ggX1_sumOfValues_X1_greaterPartner
set_option maxRecDepth 20000 in
theorem ggX1_sumOfValues_X1_value : GoodIn wsX1_sumOfValues wsX1_value := goodIn_r _ [16, 17, 18, 19, 5, 20, 7, 21, 22, 23, 24, 25, 26, 27, 28, 29, 30, 31, 32, 33, 34, 35, 36, 37, 38, 39, 40, 41, 42] (by decide +kernel) (by decide +kernel)
set_option maxRecDepth 20000 in
theorem gX1_sumOfValues_X1_value : GoodIn wsX1_sumOfValues (wsV RX1 84 RX1 yX1_value wsX1_value) := goodIn_app (goodIn_of _ (by decide +kernel)) ggX1_sumOfValues_X1_value
theorem dX1_sumOfValues_0 : decode cX1_sumOfValues 0 = .ok (.iconst 0, 1) := by decide +kernel
theorem dX1_sumOfValues_1 : decode cX1_sumOfValues 1 = .ok (.istore_n 1, 1) := by decide +kernel
theorem dX1_sumOfValues_2 : decode cX1_sumOfValues 2 = .ok (.iconst 0, 1) := by decide +kernel
theorem dX1_sumOfValues_3 : decode cX1_sumOfValues 3 = .ok (.istore_n 2, 1) := by decide +kernel
theorem dX1_sumOfValues_4 : decode cX1_sumOfValues 4 = .ok (.iload_n 2, 1) := by decide +kernel
theorem dX1_sumOfValues_5 : decode cX1_sumOfValues 5 = .ok (.aload_n 0, 1) := by decide +kernel
theorem dX1_sumOfValues_6 : decode cX1_sumOfValues 6 = .ok (.getfield 18, 3) := by decide +kernel
theorem dX1_sumOfValues_9 : decode cX1_sumOfValues 9 = .ok (.if_icmp .ge 31, 3) := by decide +kernel
theorem dX1_sumOfValues_12 : decode cX1_sumOfValues 12 = .ok (.aload_n 0, 1) := by decide +kernel
theorem dX1_sumOfValues_13 : decode cX1_sumOfValues 13 = .ok (.iload_n 2, 1) := by decide +kernel
theorem dX1_sumOfValues_14 : decode cX1_sumOfValues 14 = .ok (.invokevirtual 81, 3) := by decide +kernel
theorem dX1_sumOfValues_17 : decode cX1_sumOfValues 17 = .ok (.istore_n 3, 1) := by decide +kernel
theorem dX1_sumOfValues_18 : decode cX1_sumOfValues 18 = .ok (.iload_n 3, 1) := by decide +kernel
theorem dX1_sumOfValues_19 : decode cX1_sumOfValues 19 = .ok (.sipush (-9999), 3) := by decide +kernel
theorem dX1_sumOfValues_22 : decode cX1_sumOfValues 22 = .ok (.if_icmp .eq 12, 3) := by decide +kernel
theorem dX1_sumOfValues_25 : decode cX1_sumOfValues 25 = .ok (.iload_n 1, 1) := by decide +kernel
theorem dX1_sumOfValues_26 : decode cX1_sumOfValues 26 = .ok (.aload_n 0, 1) := by decide +kernel
theorem dX1_sumOfValues_27 : decode cX1_sumOfValues 27 = .ok (.iload_n 2, 1) := by decide +kernel
theorem dX1_sumOfValues_28 : decode cX1_sumOfValues 28 = .ok (.iload_n 3, 1) := by decide +kernel
theorem dX1_sumOfValues_29 : decode cX1_sumOfValues 29 = .ok (.invokevirtual 84, 3) := by decide +kernel
theorem dX1_sumOfValues_32 : decode cX1_sumOfValues 32 = .ok (.iadd, 1) := by decide +kernel
theorem dX1_sumOfValues_33 : decode cX1_sumOfValues 33 = .ok (.istore_n 1, 1) := by decide +kernel
theorem dX1_sumOfValues_34 : decode cX1_sumOfValues 34 = .ok (.iinc 2 1, 3) := by decide +kernel
theorem dX1_sumOfValues_37 : decode cX1_sumOfValues 37 = .ok (.goto (-33), 3) := by decide +kernel
theorem dX1_sumOfValues_40 : decode cX1_sumOfValues 40 = .ok (.iload_n 1, 1) := by decide +kernel
theorem dX1_sumOfValues_41 : decode cX1_sumOfValues 41 = .ok (.ireturn, 1) := by decide +kernel
theorem dX1_sumOfCredits_0 : decode cX1_sumOfCredits 0 = .ok (.iconst 0, 1) := by decide +kernel
theorem dX1_sumOfCredits_1 : decode cX1_sumOfCredits 1 = .ok (.istore_n 1, 1) := by decide +kernel
theorem dX1_sumOfCredits_2 : decode cX1_sumOfCredits 2 = .ok (.iconst 0, 1) := by decide +kernel
theorem dX1_sumOfCredits_3 : decode cX1_sumOfCredits 3 = .ok (.istore_n 2, 1) := by decide +kernel
theorem dX1_sumOfCredits_4 : decode cX1_sumOfCredits 4 = .ok (.iload_n 2, 1) := by decide +kernel
theorem dX1_sumOfCredits_5 : decode cX1_sumOfCredits 5 = .ok (.aload_n 0, 1) := by decide +kernel
theorem dX1_sumOfCredits_6 : decode cX1_sumOfCredits 6 = .ok (.getfield 18, 3) := by decide +kernel
theorem dX1_sumOfCredits_9 : decode cX1_sumOfCredits 9 = .ok (.if_icmp .ge 21, 3) := by decide +kernel
theorem dX1_sumOfCredits_12 : decode cX1_sumOfCredits 12 = .ok (.iload_n 1, 1) := by decide +kernel
theorem dX1_sumOfCredits_13 : decode cX1_sumOfCredits 13 = .ok (.aload_n 0, 1) := by decide +kernel
theorem dX1_sumOfCredits_14 : decode cX1_sumOfCredits 14 = .ok (.getfield 11, 3) := by decide +kernel
theorem dX1_sumOfCredits_17 : decode cX1_sumOfCredits 17 = .ok (.iload_n 2, 1) := by decide +kernel
theorem dX1_sumOfCredits_18 : decode cX1_sumOfCredits 18 = .ok (.aaload, 1) := by decide +kernel
theorem dX1_sumOfCredits_19 : decode cX1_sumOfCredits 19 = .ok (.getfield 46, 3) := by decide +kernel
theorem dX1_sumOfCredits_22 : decode cX1_sumOfCredits 22 = .ok (.iadd, 1) := by decide +kernel
theorem dX1_sumOfCredits_23 : decode cX1_sumOfCredits 23 = .ok (.istore_n 1, 1) := by decide +kernel
theorem dX1_sumOfCredits_24 : decode cX1_sumOfCredits 24 = .ok (.iinc 2 1, 3) := by decide +kernel
theorem dX1_sumOfCredits_27 : decode cX1_sumOfCredits 27 = .ok (.goto (-23), 3) := by decide +kernel
theorem dX1_sumOfCredits_30 : decode cX1_sumOfCredits 30 = .ok (.iload_n 1, 1) := by decide +kernel
theorem dX1_sumOfCredits_31 : decode cX1_sumOfCredits 31 = .ok (.ireturn, 1) := by decide +kernel
set_option maxRecDepth 20000 in
theorem ggX1_countBlocking_X1_block : GoodIn wsX1_countBlocking wsX1_block := goodIn_r _ [6, 7, 8, 9, 10, 11, 5, 12, 13, 14, 15, 16, 17, 18, 19, 20, 21, 22, 23, 24, 25, 26, 1, 27, 28, 29, 30, 31, 32, 33, 34, 35, 36, 37, 38, 39, 40, 41, 42, 43, 44, 45, 46] (by decide +kernel) (by decide +kernel)
set_option maxRecDepth 20000 in
theorem gX1_countBlocking_X1_block : GoodIn wsX1_countBlocking (wsV RX1 87 RX1 yX1_block wsX1_block) := goodIn_app (goodIn_of _ (by decide +kernel)) ggX1_countBlocking_X1_block
theorem dX1_countBlocking_0 : decode cX1_countBlocking 0 = .ok (.iconst 0, 1) := by decide +kernel
theorem dX1_countBlocking_1 : decode cX1_countBlocking 1 = .ok (.istore_n 1, 1) := by decide +kernel
theorem dX1_countBlocking_2 : decode cX1_countBlocking 2 = .ok (.iconst 0, 1) := by decide +kernel
theorem dX1_countBlocking_3 : decode cX1_countBlocking 3 = .ok (.istore_n 2, 1) := by decide +kernel
theorem dX1_countBlocking_4 : decode cX1_countBlocking 4 = .ok (.iload_n 2, 1) := by decide +kernel
theorem dX1_countBlocking_5 : decode cX1_countBlocking 5 = .ok (.aload_n 0, 1) := by decide +kernel
theorem dX1_countBlocking_6 : decode cX1_countBlocking 6 = .ok (.getfield 18, 3) := by decide +kernel
theorem dX1_countBlocking_9 : decode cX1_countBlocking 9 = .ok (.if_icmp .ge 39, 3) := by decide +kernel
theorem dX1_countBlocking_12 : decode cX1_countBlocking 12 = .ok (.iload_n 2, 1) := by decide +kernel
theorem dX1_countBlocking_13 : decode cX1_countBlocking 13 = .ok (.iconst 1, 1) := by decide +kernel
theorem dX1_countBlocking_14 : decode cX1_countBlocking 14 = .ok (.iadd, 1) := by decide +kernel
theorem dX1_countBlocking_15 : decode cX1_countBlocking 15 = .ok (.istore_n 3, 1) := by decide +kernel
theorem dX1_countBlocking_16 : decode cX1_countBlocking 16 = .ok (.iload_n 3, 1) := by decide +kernel
theorem dX1_countBlocking_17 : decode cX1_countBlocking 17 = .ok (.aload_n 0, 1) := by decide +kernel
theorem dX1_countBlocking_18 : decode cX1_countBlocking 18 = .ok (.getfield 18, 3) := by decide +kernel
theorem dX1_countBlocking_21 : decode cX1_countBlocking 21 = .ok (.if_icmp .ge 21, 3) := by decide +kernel
theorem dX1_countBlocking_24 : decode cX1_countBlocking 24 = .ok (.aload_n 0, 1) := by decide +kernel
theorem dX1_countBlocking_25 : decode cX1_countBlocking 25 = .ok (.iload_n 2, 1) := by decide +kernel
theorem dX1_countBlocking_26 : decode cX1_countBlocking 26 = .ok (.iload_n 3, 1) := by decide +kernel
theorem dX1_countBlocking_27 : decode cX1_countBlocking 27 = .ok (.invokevirtual 87, 3) := by decide +kernel
theorem dX1_countBlocking_30 : decode cX1_countBlocking 30 = .ok (.ifCond .eq 6, 3) := by decide +kernel
theorem dX1_countBlocking_33 : decode cX1_countBlocking 33 = .ok (.iinc 1 1, 3) := by decide +kernel
theorem dX1_countBlocking_36 : decode cX1_countBlocking 36 = .ok (.iinc 3 1, 3) := by decide +kernel
theorem dX1_countBlocking_39 : decode cX1_countBlocking 39 = .ok (.goto (-23), 3) := by decide +kernel
theorem dX1_countBlocking_42 : decode cX1_countBlocking 42 = .ok (.iinc 2 1, 3) := by decide +kernel
theorem dX1_countBlocking_45 : decode cX1_countBlocking 45 = .ok (.goto (-41), 3) := by decide +kernel
theorem dX1_countBlocking_48 : decode cX1_countBlocking 48 = .ok (.iload_n 1, 1) := by decide +kernel
theorem dX1_countBlocking_49 : decode cX1_countBlocking 49 = .ok (.ireturn, 1) := by decide +kernel
set_option maxRecDepth 20000 in
theorem ggX1_countFittingWith_X1_fit : GoodIn wsX1_countFittingWith wsX1_fit := goodIn_r _ [6, 7, 8, 9, 5, 10, 11, 12, 13, 14, 15, 16, 17, 18, 19, 20, 21, 22, 23] (by decide +kernel) (by decide +kernel)
set_option maxRecDepth 20000 in
theorem gX1_countFittingWith_X1_fit : GoodIn wsX1_countFittingWith (wsV RX1 74 RX1 yX1_fit wsX1_fit) := goodIn_app (goodIn_of _ (by decide +kernel)) ggX1_countFittingWith_X1_fit
theorem dX1_countFittingWith_0 : decode cX1_countFittingWith 0 = .ok (.iconst 0, 1) := by decide +kernel
theorem dX1_countFittingWith_1 : decode cX1_countFittingWith 1 = .ok (.istore_n 2, 1) := by decide +kernel
theorem dX1_countFittingWith_2 : decode cX1_countFittingWith 2 = .ok (.iconst 0, 1) := by decide +kernel
theorem dX1_countFittingWith_3 : decode cX1_countFittingWith 3 = .ok (.istore_n 3, 1) := by decide +kernel
theorem dX1_countFittingWith_4 : decode cX1_countFittingWith 4 = .ok (.iload_n 3, 1) := by decide +kernel
theorem dX1_countFittingWith_5 : decode cX1_countFittingWith 5 = .ok (.aload_n 0, 1) := by decide +kernel
theorem dX1_countFittingWith_6 : decode cX1_countFittingWith 6 = .ok (.getfield 18, 3) := by decide +kernel
theorem dX1_countFittingWith_9 : decode cX1_countFittingWith 9 = .ok (.if_icmp .ge 21, 3) := by decide +kernel
theorem dX1_countFittingWith_12 : decode cX1_countFittingWith 12 = .ok (.aload_n 0, 1) := by decide +kernel
theorem dX1_countFittingWith_13 : decode cX1_countFittingWith 13 = .ok (.iload_n 1, 1) := by decide +kernel
theorem dX1_countFittingWith_14 : decode cX1_countFittingWith 14 = .ok (.iload_n 3, 1) := by decide +kernel
theorem dX1_countFittingWith_15 : decode cX1_countFittingWith 15 = .ok (.invokevirtual 74, 3) := by decide +kernel
theorem dX1_countFittingWith_18 : decode cX1_countFittingWith 18 = .ok (.ifCond .eq 6, 3) := by decide +kernel
theorem dX1_countFittingWith_21 : decode cX1_countFittingWith 21 = .ok (.iinc 2 1, 3) := by decide +kernel
theorem dX1_countFittingWith_24 : decode cX1_countFittingWith 24 = .ok (.iinc 3 1, 3) := by decide +kernel
theorem dX1_countFittingWith_27 : decode cX1_countFittingWith 27 = .ok (.goto (-23), 3) := by decide +kernel
theorem dX1_countFittingWith_30 : decode cX1_countFittingWith 30 = .ok (.iload_n 2, 1) := by decide +kernel
theorem dX1_countFittingWith_31 : decode cX1_countFittingWith 31 = .ok (.ireturn, 1) := by decide +kernel
set_option maxRecDepth 20000 in
theorem ggX1_countFitting_X1_countFittingWith : GoodIn wsX1_countFitting wsX1_countFittingWith := goodIn_r _ [6, 1, 7, 8, 9, 5, 10, 11, 12, 13, 14, 15, 16, 17, 18, 19, 20, 21, 22, 23, 24, 25, 26, 27] (by decide +kernel) (by decide +kernel)
set_option maxRecDepth 20000 in
theorem gX1_countFitting_X1_countFittingWith : GoodIn wsX1_countFitting (wsV RX1 58 RX1 yX1_countFittingWith wsX1_countFittingWith) := goodIn_app (goodIn_of _ (by decide +kernel)) ggX1_countFitting_X1_countFittingWith
theorem dX1_countFitting_0 : decode cX1_countFitting 0 = .ok (.iconst 0, 1) := by decide +kernel
theorem dX1_countFitting_1 : decode cX1_countFitting 1 = .ok (.istore_n 1, 1) := by decide +kernel
theorem dX1_countFitting_2 : decode cX1_countFitting 2 = .ok (.iconst 0, 1) := by decide +kernel
theorem dX1_countFitting_3 : decode cX1_countFitting 3 = .ok (.istore_n 2, 1) := by decide +kernel
theorem dX1_countFitting_4 : decode cX1_countFitting 4 = .ok (.iload_n 2, 1) := by decide +kernel
theorem dX1_countFitting_5 : decode cX1_countFitting 5 = .ok (.aload_n 0, 1) := by decide +kernel
theorem dX1_countFitting_6 : decode cX1_countFitting 6 = .ok (.getfield 18, 3) := by decide +kernel
theorem dX1_countFitting_9 : decode cX1_countFitting 9 = .ok (.if_icmp .ge 17, 3) := by decide +kernel
theorem dX1_countFitting_12 : decode cX1_countFitting 12 = .ok (.iload_n 1, 1) := by decide +kernel
theorem dX1_countFitting_13 : decode cX1_countFitting 13 = .ok (.aload_n 0, 1) := by decide +kernel
theorem dX1_countFitting_14 : decode cX1_countFitting 14 = .ok (.iload_n 2, 1) := by decide +kernel
theorem dX1_countFitting_15 : decode cX1_countFitting 15 = .ok (.invokevirtual 58, 3) := by decide +kernel
theorem dX1_countFitting_18 : decode cX1_countFitting 18 = .ok (.iadd, 1) := by decide +kernel
theorem dX1_countFitting_19 : decode cX1_countFitting 19 = .ok (.istore_n 1, 1) := by decide +kernel
theorem dX1_countFitting_20 : decode cX1_countFitting 20 = .ok (.iinc 2 1, 3) := by decide +kernel
theorem dX1_countFitting_23 : decode cX1_countFitting 23 = .ok (.goto (-19), 3) := by decide +kernel
theorem dX1_countFitting_26 : decode cX1_countFitting 26 = .ok (.iload_n 1, 1) := by decide +kernel
theorem dX1_countFitting_27 : decode cX1_countFitting 27 = .ok (.iconst 2, 1) := by decide +kernel
theorem dX1_countFitting_28 : decode cX1_countFitting 28 = .ok (.idiv, 1) := by decide +kernel
theorem dX1_countFitting_29 : decode cX1_countFitting 29 = .ok (.ireturn, 1) := by decide +kernel
set_option maxRecDepth 20000 in
theorem ggX1_add_X3_start : GoodIn wsX1_add wsX3_start := goodIn_r _ [7, 8, 9, 10, 11, 12, 13, 14, 18, 19, 20, 21, 22, 23, 24] (by decide +kernel) (by decide +kernel)
set_option maxRecDepth 20000 in
theorem gX1_add_X3_start : GoodIn wsX1_add (wsV RX1 90 RX3 yX3_start wsX3_start) := goodIn_app (goodIn_of _ (by decide +kernel)) ggX1_add_X3_start
theorem dX1_add_0 : decode cX1_add 0 = .ok (.aload_n 0, 1) := by decide +kernel
theorem dX1_add_1 : decode cX1_add 1 = .ok (.getfield 18, 3) := by decide +kernel
theorem dX1_add_4 : decode cX1_add 4 = .ok (.bipush 9, 2) := by decide +kernel
theorem dX1_add_6 : decode cX1_add 6 = .ok (.if_icmp .ge 28, 3) := by decide +kernel
theorem dX1_add_9 : decode cX1_add 9 = .ok (.aload_n 0, 1) := by decide +kernel
theorem dX1_add_10 : decode cX1_add 10 = .ok (.getfield 11, 3) := by decide +kernel
theorem dX1_add_13 : decode cX1_add 13 = .ok (.aload_n 0, 1) := by decide +kernel
theorem dX1_add_14 : decode cX1_add 14 = .ok (.getfield 18, 3) := by decide +kernel
theorem dX1_add_17 : decode cX1_add 17 = .ok (.aaload, 1) := by decide +kernel
theorem dX1_add_18 : decode cX1_add 18 = .ok (.iload_n 1, 1) := by decide +kernel
theorem dX1_add_19 : decode cX1_add 19 = .ok (.iload_n 2, 1) := by decide +kernel
theorem dX1_add_20 : decode cX1_add 20 = .ok (.iload_n 3, 1) := by decide +kernel
theorem dX1_add_21 : decode cX1_add 21 = .ok (.invokevirtual 90, 3) := by decide +kernel
theorem dX1_add_24 : decode cX1_add 24 = .ok (.aload_n 0, 1) := by decide +kernel
theorem dX1_add_25 : decode cX1_add 25 = .ok (.dup, 1) := by decide +kernel
theorem dX1_add_26 : decode cX1_add 26 = .ok (.getfield 18, 3) := by decide +kernel
theorem dX1_add_29 : decode cX1_add 29 = .ok (.iconst 1, 1) := by decide +kernel
theorem dX1_add_30 : decode cX1_add 30 = .ok (.iadd, 1) := by decide +kernel
theorem dX1_add_31 : decode cX1_add 31 = .ok (.putfield 18, 3) := by decide +kernel
theorem dX1_add_34 : decode cX1_add 34 = .ok (.return_, 1) := by decide +kernel
set_option maxRecDepth 20000 in
theorem ggX1_remove_X1_separate : GoodIn wsX1_remove wsX1_separate := goodIn_r _ [8, 2, 3, 9, 10, 11, 7, 12, 1, 29, 30, 31, 32, 33, 34, 35, 36, 37, 38] (by decide +kernel) (by decide +kernel)
set_option maxRecDepth 20000 in
theorem gX1_remove_X1_separate : GoodIn wsX1_remove (wsV RX1 94 RX1 yX1_separate wsX1_separate) := goodIn_app (goodIn_of _ (by decide +kernel)) ggX1_remove_X1_separate
set_option maxRecDepth 20000 in
theorem ggX1_remove_X3_copyFrom : GoodIn wsX1_remove wsX3_copyFrom := goodIn_r _ [17, 18, 19, 20, 21, 22, 23, 24, 25, 26, 27, 28, 32, 33, 34, 35, 36, 37, 38] (by decide +kernel) (by decide +kernel)
set_option maxRecDepth 20000 in
theorem gX1_remove_X3_copyFrom : GoodIn wsX1_remove (wsV RX1 22 RX3 yX3_copyFrom wsX3_copyFrom) := goodIn_app (goodIn_of _ (by decide +kernel)) ggX1_remove_X3_copyFrom
theorem dX1_remove_0 : decode cX1_remove 0 = .ok (.aload_n 0, 1) := by decide +kernel
theorem dX1_remove_1 : decode cX1_remove 1 = .ok (.iload_n 1, 1) := by decide +kernel
theorem dX1_remove_2 : decode cX1_remove 2 = .ok (.invokevirtual 94, 3) := by decide +kernel
theorem dX1_remove_5 : decode cX1_remove 5 = .ok (.aload_n 0, 1) := by decide +kernel
theorem dX1_remove_6 : decode cX1_remove 6 = .ok (.dup, 1) := by decide +kernel
theorem dX1_remove_7 : decode cX1_remove 7 = .ok (.getfield 18, 3) := by decide +kernel
theorem dX1_remove_10 : decode cX1_remove 10 = .ok (.iconst 1, 1) := by decide +kernel
theorem dX1_remove_11 : decode cX1_remove 11 = .ok (.isub, 1) := by decide +kernel
theorem dX1_remove_12 : decode cX1_remove 12 = .ok (.putfield 18, 3) := by decide +kernel
theorem dX1_remove_15 : decode cX1_remove 15 = .ok (.iload_n 1, 1) := by decide +kernel
theorem dX1_remove_16 : decode cX1_remove 16 = .ok (.istore_n 2, 1) := by decide +kernel
theorem dX1_remove_17 : decode cX1_remove 17 = .ok (.iload_n 2, 1) := by decide +kernel
theorem dX1_remove_18 : decode cX1_remove 18 = .ok (.aload_n 0, 1) := by decide +kernel
theorem dX1_remove_19 : decode cX1_remove 19 = .ok (.getfield 18, 3) := by decide +kernel
theorem dX1_remove_22 : decode cX1_remove 22 = .ok (.if_icmp .ge 26, 3) := by decide +kernel
theorem dX1_remove_25 : decode cX1_remove 25 = .ok (.aload_n 0, 1) := by decide +kernel
theorem dX1_remove_26 : decode cX1_remove 26 = .ok (.getfield 11, 3) := by decide +kernel
theorem dX1_remove_29 : decode cX1_remove 29 = .ok (.iload_n 2, 1) := by decide +kernel
theorem dX1_remove_30 : decode cX1_remove 30 = .ok (.aaload, 1) := by decide +kernel
theorem dX1_remove_31 : decode cX1_remove 31 = .ok (.aload_n 0, 1) := by decide +kernel
theorem dX1_remove_32 : decode cX1_remove 32 = .ok (.getfield 11, 3) := by decide +kernel
theorem dX1_remove_35 : decode cX1_remove 35 = .ok (.iload_n 2, 1) := by decide +kernel
theorem dX1_remove_36 : decode cX1_remove 36 = .ok (.iconst 1, 1) := by decide +kernel
theorem dX1_remove_37 : decode cX1_remove 37 = .ok (.iadd, 1) := by decide +kernel
theorem dX1_remove_38 : decode cX1_remove 38 = .ok (.aaload, 1) := by decide +kernel
theorem dX1_remove_39 : decode cX1_remove 39 = .ok (.invokevirtual 22, 3) := by decide +kernel
theorem dX1_remove_42 : decode cX1_remove 42 = .ok (.iinc 2 1, 3) := by decide +kernel
theorem dX1_remove_45 : decode cX1_remove 45 = .ok (.goto (-28), 3) := by decide +kernel
theorem dX1_remove_48 : decode cX1_remove 48 = .ok (.iconst 0, 1) := by decide +kernel
theorem dX1_remove_49 : decode cX1_remove 49 = .ok (.istore_n 2, 1) := by decide +kernel
theorem dX1_remove_50 : decode cX1_remove 50 = .ok (.iload_n 2, 1) := by decide +kernel
theorem dX1_remove_51 : decode cX1_remove 51 = .ok (.aload_n 0, 1) := by decide +kernel
theorem dX1_remove_52 : decode cX1_remove 52 = .ok (.getfield 18, 3) := by decide +kernel
theorem dX1_remove_55 : decode cX1_remove 55 = .ok (.if_icmp .ge 37, 3) := by decide +kernel
theorem dX1_remove_58 : decode cX1_remove 58 = .ok (.aload_n 0, 1) := by decide +kernel
theorem dX1_remove_59 : decode cX1_remove 59 = .ok (.getfield 11, 3) := by decide +kernel
theorem dX1_remove_62 : decode cX1_remove 62 = .ok (.iload_n 2, 1) := by decide +kernel
theorem dX1_remove_63 : decode cX1_remove 63 = .ok (.aaload, 1) := by decide +kernel
theorem dX1_remove_64 : decode cX1_remove 64 = .ok (.getfield 29, 3) := by decide +kernel
theorem dX1_remove_67 : decode cX1_remove 67 = .ok (.iload_n 1, 1) := by decide +kernel
theorem dX1_remove_68 : decode cX1_remove 68 = .ok (.if_icmp .le 18, 3) := by decide +kernel
theorem dX1_remove_71 : decode cX1_remove 71 = .ok (.aload_n 0, 1) := by decide +kernel
theorem dX1_remove_72 : decode cX1_remove 72 = .ok (.getfield 11, 3) := by decide +kernel
theorem dX1_remove_75 : decode cX1_remove 75 = .ok (.iload_n 2, 1) := by decide +kernel
theorem dX1_remove_76 : decode cX1_remove 76 = .ok (.aaload, 1) := by decide +kernel
theorem dX1_remove_77 : decode cX1_remove 77 = .ok (.dup, 1) := by decide +kernel
theorem dX1_remove_78 : decode cX1_remove 78 = .ok (.getfield 29, 3) := by decide +kernel
theorem dX1_remove_81 : decode cX1_remove 81 = .ok (.iconst 1, 1) := by decide +kernel
theorem dX1_remove_82 : decode cX1_remove 82 = .ok (.isub, 1) := by decide +kernel
theorem dX1_remove_83 : decode cX1_remove 83 = .ok (.putfield 29, 3) := by decide +kernel
theorem dX1_remove_86 : decode cX1_remove 86 = .ok (.iinc 2 1, 3) := by decide +kernel
theorem dX1_remove_89 : decode cX1_remove 89 = .ok (.goto (-39), 3) := by decide +kernel
theorem dX1_remove_92 : decode cX1_remove 92 = .ok (.return_, 1) := by decide +kernel
set_option maxRecDepth 20000 in
theorem ggX1_changeWish_X1_separateIfUnfit : GoodIn wsX1_changeWish wsX1_separateIfUnfit := goodIn_r _ [8, 1, 9, 10, 11, 12, 7, 13, 14, 15, 16, 17, 18, 19, 20, 21, 22, 2, 23, 24, 25, 26, 27, 28, 29, 30, 31, 32, 33, 34, 35, 36, 37] (by decide +kernel) (by decide +kernel)
set_option maxRecDepth 20000 in
theorem gX1_changeWish_X1_separateIfUnfit : GoodIn wsX1_changeWish (wsV RX1 98 RX1 yX1_separateIfUnfit wsX1_separateIfUnfit) := goodIn_app (goodIn_of _ (by decide +kernel)) ggX1_changeWish_X1_separateIfUnfit
theorem dX1_changeWish_0 : decode cX1_changeWish 0 = .ok (.aload_n 0, 1) := by decide +kernel
theorem dX1_changeWish_1 : decode cX1_changeWish 1 = .ok (.getfield 11, 3) := by decide +kernel
theorem dX1_changeWish_4 : decode cX1_changeWish 4 = .ok (.iload_n 1, 1) := by decide +kernel
theorem dX1_changeWish_5 : decode cX1_changeWish 5 = .ok (.aaload, 1) := by decide +kernel
theorem dX1_changeWish_6 : decode cX1_changeWish 6 = .ok (.iload_n 2, 1) := by decide +kernel
theorem dX1_changeWish_7 : decode cX1_changeWish 7 = .ok (.putfield 40, 3) := by decide +kernel
theorem dX1_changeWish_10 : decode cX1_changeWish 10 = .ok (.aload_n 0, 1) := by decide +kernel
theorem dX1_changeWish_11 : decode cX1_changeWish 11 = .ok (.getfield 11, 3) := by decide +kernel
theorem dX1_changeWish_14 : decode cX1_changeWish 14 = .ok (.iload_n 1, 1) := by decide +kernel
theorem dX1_changeWish_15 : decode cX1_changeWish 15 = .ok (.aaload, 1) := by decide +kernel
theorem dX1_changeWish_16 : decode cX1_changeWish 16 = .ok (.iconst 0, 1) := by decide +kernel
theorem dX1_changeWish_17 : decode cX1_changeWish 17 = .ok (.putfield 43, 3) := by decide +kernel
theorem dX1_changeWish_20 : decode cX1_changeWish 20 = .ok (.aload_n 0, 1) := by decide +kernel
theorem dX1_changeWish_21 : decode cX1_changeWish 21 = .ok (.iload_n 1, 1) := by decide +kernel
theorem dX1_changeWish_22 : decode cX1_changeWish 22 = .ok (.invokevirtual 98, 3) := by decide +kernel
theorem dX1_changeWish_25 : decode cX1_changeWish 25 = .ok (.return_, 1) := by decide +kernel
set_option maxRecDepth 20000 in
theorem ggX1_grade_X1_separateIfUnfit : GoodIn wsX1_grade wsX1_separateIfUnfit := goodIn_r _ [9, 1, 10, 11, 12, 13, 8, 14, 15, 16, 17, 18, 19, 20, 21, 22, 23, 3, 2, 24, 25, 26, 27, 28, 29, 30, 31, 32, 33, 34, 35, 36, 37] (by decide +kernel) (by decide +kernel)
set_option maxRecDepth 20000 in
theorem gX1_grade_X1_separateIfUnfit : GoodIn wsX1_grade (wsV RX1 98 RX1 yX1_separateIfUnfit wsX1_separateIfUnfit) := goodIn_app (goodIn_of _ (by decide +kernel)) ggX1_grade_X1_separateIfUnfit
theorem dX1_grade_0 : decode cX1_grade 0 = .ok (.aload_n 0, 1) := by decide +kernel
theorem dX1_grade_1 : decode cX1_grade 1 = .ok (.getfield 11, 3) := by decide +kernel
theorem dX1_grade_4 : decode cX1_grade 4 = .ok (.iload_n 1, 1) := by decide +kernel
theorem dX1_grade_5 : decode cX1_grade 5 = .ok (.aaload, 1) := by decide +kernel
theorem dX1_grade_6 : decode cX1_grade 6 = .ok (.astore 4, 2) := by decide +kernel
theorem dX1_grade_8 : decode cX1_grade 8 = .ok (.aload 4, 2) := by decide +kernel
theorem dX1_grade_10 : decode cX1_grade 10 = .ok (.getfield 36, 3) := by decide +kernel
theorem dX1_grade_13 : decode cX1_grade 13 = .ok (.iload_n 2, 1) := by decide +kernel
theorem dX1_grade_14 : decode cX1_grade 14 = .ok (.iload_n 3, 1) := by decide +kernel
theorem dX1_grade_15 : decode cX1_grade 15 = .ok (.bipush 10, 2) := by decide +kernel
theorem dX1_grade_17 : decode cX1_grade 17 = .ok (.idiv, 1) := by decide +kernel
theorem dX1_grade_18 : decode cX1_grade 18 = .ok (.iastore, 1) := by decide +kernel
theorem dX1_grade_19 : decode cX1_grade 19 = .ok (.aload 4, 2) := by decide +kernel
theorem dX1_grade_21 : decode cX1_grade 21 = .ok (.getfield 40, 3) := by decide +kernel
theorem dX1_grade_24 : decode cX1_grade 24 = .ok (.iload_n 2, 1) := by decide +kernel
theorem dX1_grade_25 : decode cX1_grade 25 = .ok (.if_icmp .ne 14, 3) := by decide +kernel
theorem dX1_grade_28 : decode cX1_grade 28 = .ok (.aload 4, 2) := by decide +kernel
theorem dX1_grade_30 : decode cX1_grade 30 = .ok (.iload_n 3, 1) := by decide +kernel
theorem dX1_grade_31 : decode cX1_grade 31 = .ok (.bipush 10, 2) := by decide +kernel
theorem dX1_grade_33 : decode cX1_grade 33 = .ok (.irem, 1) := by decide +kernel
theorem dX1_grade_34 : decode cX1_grade 34 = .ok (.iconst 2, 1) := by decide +kernel
theorem dX1_grade_35 : decode cX1_grade 35 = .ok (.imul, 1) := by decide +kernel
theorem dX1_grade_36 : decode cX1_grade 36 = .ok (.putfield 43, 3) := by decide +kernel
theorem dX1_grade_39 : decode cX1_grade 39 = .ok (.aload_n 0, 1) := by decide +kernel
theorem dX1_grade_40 : decode cX1_grade 40 = .ok (.iload_n 1, 1) := by decide +kernel
theorem dX1_grade_41 : decode cX1_grade 41 = .ok (.invokevirtual 98, 3) := by decide +kernel
theorem dX1_grade_44 : decode cX1_grade 44 = .ok (.return_, 1) := by decide +kernel
theorem dX1_unite_0 : decode cX1_unite 0 = .ok (.aload_n 0, 1) := by decide +kernel
theorem dX1_unite_1 : decode cX1_unite 1 = .ok (.getfield 11, 3) := by decide +kernel
theorem dX1_unite_4 : decode cX1_unite 4 = .ok (.iload_n 1, 1) := by decide +kernel
theorem dX1_unite_5 : decode cX1_unite 5 = .ok (.aaload, 1) := by decide +kernel
theorem dX1_unite_6 : decode cX1_unite 6 = .ok (.iload_n 2, 1) := by decide +kernel
theorem dX1_unite_7 : decode cX1_unite 7 = .ok (.putfield 29, 3) := by decide +kernel
theorem dX1_unite_10 : decode cX1_unite 10 = .ok (.aload_n 0, 1) := by decide +kernel
theorem dX1_unite_11 : decode cX1_unite 11 = .ok (.getfield 11, 3) := by decide +kernel
theorem dX1_unite_14 : decode cX1_unite 14 = .ok (.iload_n 2, 1) := by decide +kernel
theorem dX1_unite_15 : decode cX1_unite 15 = .ok (.aaload, 1) := by decide +kernel
theorem dX1_unite_16 : decode cX1_unite 16 = .ok (.iload_n 1, 1) := by decide +kernel
theorem dX1_unite_17 : decode cX1_unite 17 = .ok (.putfield 29, 3) := by decide +kernel
theorem dX1_unite_20 : decode cX1_unite 20 = .ok (.aload_n 0, 1) := by decide +kernel
theorem dX1_unite_21 : decode cX1_unite 21 = .ok (.getfield 11, 3) := by decide +kernel
theorem dX1_unite_24 : decode cX1_unite 24 = .ok (.iload_n 1, 1) := by decide +kernel
theorem dX1_unite_25 : decode cX1_unite 25 = .ok (.aaload, 1) := by decide +kernel
theorem dX1_unite_26 : decode cX1_unite 26 = .ok (.iconst 0, 1) := by decide +kernel
theorem dX1_unite_27 : decode cX1_unite 27 = .ok (.putfield 55, 3) := by decide +kernel
theorem dX1_unite_30 : decode cX1_unite 30 = .ok (.aload_n 0, 1) := by decide +kernel
theorem dX1_unite_31 : decode cX1_unite 31 = .ok (.getfield 11, 3) := by decide +kernel
theorem dX1_unite_34 : decode cX1_unite 34 = .ok (.iload_n 2, 1) := by decide +kernel
theorem dX1_unite_35 : decode cX1_unite 35 = .ok (.aaload, 1) := by decide +kernel
theorem dX1_unite_36 : decode cX1_unite 36 = .ok (.iconst 0, 1) := by decide +kernel
theorem dX1_unite_37 : decode cX1_unite 37 = .ok (.putfield 55, 3) := by decide +kernel
theorem dX1_unite_40 : decode cX1_unite 40 = .ok (.return_, 1) := by decide +kernel
set_option maxRecDepth 20000 in
theorem ggX1_separate_X1_has : GoodIn wsX1_separate wsX1_has := goodIn_r _ [7, 8, 9, 10, 11] (by decide +kernel) (by decide +kernel)
set_option maxRecDepth 20000 in
theorem gX1_separate_X1_has : GoodIn wsX1_separate (wsV RX1 32 RX1 yX1_has wsX1_has) := goodIn_app (goodIn_of _ (by decide +kernel)) ggX1_separate_X1_has
theorem dX1_separate_0 : decode cX1_separate 0 = .ok (.aload_n 0, 1) := by decide +kernel
theorem dX1_separate_1 : decode cX1_separate 1 = .ok (.getfield 11, 3) := by decide +kernel
theorem dX1_separate_4 : decode cX1_separate 4 = .ok (.iload_n 1, 1) := by decide +kernel
theorem dX1_separate_5 : decode cX1_separate 5 = .ok (.aaload, 1) := by decide +kernel
theorem dX1_separate_6 : decode cX1_separate 6 = .ok (.getfield 29, 3) := by decide +kernel
theorem dX1_separate_9 : decode cX1_separate 9 = .ok (.istore_n 2, 1) := by decide +kernel
theorem dX1_separate_10 : decode cX1_separate 10 = .ok (.aload_n 0, 1) := by decide +kernel
theorem dX1_separate_11 : decode cX1_separate 11 = .ok (.iload_n 2, 1) := by decide +kernel
theorem dX1_separate_12 : decode cX1_separate 12 = .ok (.invokevirtual 32, 3) := by decide +kernel
theorem dX1_separate_15 : decode cX1_separate 15 = .ok (.ifCond .eq 27, 3) := by decide +kernel
theorem dX1_separate_18 : decode cX1_separate 18 = .ok (.aload_n 0, 1) := by decide +kernel
theorem dX1_separate_19 : decode cX1_separate 19 = .ok (.getfield 11, 3) := by decide +kernel
theorem dX1_separate_22 : decode cX1_separate 22 = .ok (.iload_n 1, 1) := by decide +kernel
theorem dX1_separate_23 : decode cX1_separate 23 = .ok (.aaload, 1) := by decide +kernel
theorem dX1_separate_24 : decode cX1_separate 24 = .ok (.sipush (-9999), 3) := by decide +kernel
theorem dX1_separate_27 : decode cX1_separate 27 = .ok (.putfield 29, 3) := by decide +kernel
theorem dX1_separate_30 : decode cX1_separate 30 = .ok (.aload_n 0, 1) := by decide +kernel
theorem dX1_separate_31 : decode cX1_separate 31 = .ok (.getfield 11, 3) := by decide +kernel
theorem dX1_separate_34 : decode cX1_separate 34 = .ok (.iload_n 2, 1) := by decide +kernel
theorem dX1_separate_35 : decode cX1_separate 35 = .ok (.aaload, 1) := by decide +kernel
theorem dX1_separate_36 : decode cX1_separate 36 = .ok (.sipush (-9999), 3) := by decide +kernel
theorem dX1_separate_39 : decode cX1_separate 39 = .ok (.putfield 29, 3) := by decide +kernel
theorem dX1_separate_42 : decode cX1_separate 42 = .ok (.return_, 1) := by decide +kernel
set_option maxRecDepth 20000 in
theorem ggX1_separateIfUnfit_X1_has : GoodIn wsX1_separateIfUnfit wsX1_has := goodIn_r _ [7, 8, 23, 24, 25] (by decide +kernel) (by decide +kernel)
set_option maxRecDepth 20000 in
theorem gX1_separateIfUnfit_X1_has : GoodIn wsX1_separateIfUnfit (wsV RX1 32 RX1 yX1_has wsX1_has) := goodIn_app (goodIn_of _ (by decide +kernel)) ggX1_separateIfUnfit_X1_has
set_option maxRecDepth 20000 in
theorem ggX1_separateIfUnfit_X1_fit : GoodIn wsX1_separateIfUnfit wsX1_fit := goodIn_r _ [12, 13, 14, 15, 6, 16, 1, 17, 18, 23, 24, 25, 26, 27, 28, 29, 30, 31, 32] (by decide +kernel) (by decide +kernel)
set_option maxRecDepth 20000 in
theorem gX1_separateIfUnfit_X1_fit : GoodIn wsX1_separateIfUnfit (wsV RX1 74 RX1 yX1_fit wsX1_fit) := goodIn_app (goodIn_of _ (by decide +kernel)) ggX1_separateIfUnfit_X1_fit
set_option maxRecDepth 20000 in
theorem ggX1_separateIfUnfit_X1_separate : GoodIn wsX1_separateIfUnfit wsX1_separate := goodIn_r _ [22, 1, 2, 3, 4, 5, 6, 7, 8, 23, 24, 25, 26, 27, 28, 29, 30, 31, 32] (by decide +kernel) (by decide +kernel)
set_option maxRecDepth 20000 in
theorem gX1_separateIfUnfit_X1_separate : GoodIn wsX1_separateIfUnfit (wsV RX1 94 RX1 yX1_separate wsX1_separate) := goodIn_app (goodIn_of _ (by decide +kernel)) ggX1_separateIfUnfit_X1_separate
theorem dX1_separateIfUnfit_0 : decode cX1_separateIfUnfit 0 = .ok (.aload_n 0, 1) := by decide +kernel
theorem dX1_separateIfUnfit_1 : decode cX1_separateIfUnfit 1 = .ok (.getfield 11, 3) := by decide +kernel
theorem dX1_separateIfUnfit_4 : decode cX1_separateIfUnfit 4 = .ok (.iload_n 1, 1) := by decide +kernel
theorem dX1_separateIfUnfit_5 : decode cX1_separateIfUnfit 5 = .ok (.aaload, 1) := by decide +kernel
theorem dX1_separateIfUnfit_6 : decode cX1_separateIfUnfit 6 = .ok (.getfield 29, 3) := by decide +kernel
theorem dX1_separateIfUnfit_9 : decode cX1_separateIfUnfit 9 = .ok (.istore_n 2, 1) := by decide +kernel
theorem dX1_separateIfUnfit_10 : decode cX1_separateIfUnfit 10 = .ok (.aload_n 0, 1) := by decide +kernel
theorem dX1_separateIfUnfit_11 : decode cX1_separateIfUnfit 11 = .ok (.iload_n 2, 1) := by decide +kernel
theorem dX1_separateIfUnfit_12 : decode cX1_separateIfUnfit 12 = .ok (.invokevirtual 32, 3) := by decide +kernel
theorem dX1_separateIfUnfit_15 : decode cX1_separateIfUnfit 15 = .ok (.ifCond .eq 17, 3) := by decide +kernel
theorem dX1_separateIfUnfit_18 : decode cX1_separateIfUnfit 18 = .ok (.aload_n 0, 1) := by decide +kernel
theorem dX1_separateIfUnfit_19 : decode cX1_separateIfUnfit 19 = .ok (.iload_n 1, 1) := by decide +kernel
theorem dX1_separateIfUnfit_20 : decode cX1_separateIfUnfit 20 = .ok (.iload_n 2, 1) := by decide +kernel
theorem dX1_separateIfUnfit_21 : decode cX1_separateIfUnfit 21 = .ok (.invokevirtual 74, 3) := by decide +kernel
theorem dX1_separateIfUnfit_24 : decode cX1_separateIfUnfit 24 = .ok (.ifCond .ne 8, 3) := by decide +kernel
theorem dX1_separateIfUnfit_27 : decode cX1_separateIfUnfit 27 = .ok (.aload_n 0, 1) := by decide +kernel
theorem dX1_separateIfUnfit_28 : decode cX1_separateIfUnfit 28 = .ok (.iload_n 1, 1) := by decide +kernel
theorem dX1_separateIfUnfit_29 : decode cX1_separateIfUnfit 29 = .ok (.invokevirtual 94, 3) := by decide +kernel
theorem dX1_separateIfUnfit_32 : decode cX1_separateIfUnfit 32 = .ok (.return_, 1) := by decide +kernel
set_option maxRecDepth 20000 in
theorem ggX1_matchFree_X1_uniteBestFreePair : GoodIn wsX1_matchFree wsX1_uniteBestFreePair := goodIn_r _ [5, 6, 7, 8, 9, 4, 10, 11, 12, 13, 14, 15, 16, 17, 18, 19, 20, 21, 22, 23, 24, 25, 26, 27, 28, 29, 30, 31, 32, 33, 34, 35, 36, 37, 38, 39, 40, 41, 42, 43, 44, 45, 46, 47, 48, 49, 50, 51, 52, 53, 54, 55, 56, 57, 58, 59] (by decide +kernel) (by decide +kernel)
set_option maxRecDepth 20000 in
theorem gX1_matchFree_X1_uniteBestFreePair : GoodIn wsX1_matchFree (wsV RX1 101 RX1 yX1_uniteBestFreePair wsX1_uniteBestFreePair) := goodIn_app (goodIn_of _ (by decide +kernel)) ggX1_matchFree_X1_uniteBestFreePair
theorem dX1_matchFree_0 : decode cX1_matchFree 0 = .ok (.iconst 0, 1) := by decide +kernel
theorem dX1_matchFree_1 : decode cX1_matchFree 1 = .ok (.istore_n 1, 1) := by decide +kernel
theorem dX1_matchFree_2 : decode cX1_matchFree 2 = .ok (.iload_n 1, 1) := by decide +kernel
theorem dX1_matchFree_3 : decode cX1_matchFree 3 = .ok (.iconst 4, 1) := by decide +kernel
theorem dX1_matchFree_4 : decode cX1_matchFree 4 = .ok (.if_icmp .ge 16, 3) := by decide +kernel
theorem dX1_matchFree_7 : decode cX1_matchFree 7 = .ok (.aload_n 0, 1) := by decide +kernel
theorem dX1_matchFree_8 : decode cX1_matchFree 8 = .ok (.invokevirtual 101, 3) := by decide +kernel
theorem dX1_matchFree_11 : decode cX1_matchFree 11 = .ok (.ifCond .eq 9, 3) := by decide +kernel
theorem dX1_matchFree_14 : decode cX1_matchFree 14 = .ok (.iinc 1 1, 3) := by decide +kernel
theorem dX1_matchFree_17 : decode cX1_matchFree 17 = .ok (.goto (-15), 3) := by decide +kernel
theorem dX1_matchFree_20 : decode cX1_matchFree 20 = .ok (.iload_n 1, 1) := by decide +kernel
theorem dX1_matchFree_21 : decode cX1_matchFree 21 = .ok (.ireturn, 1) := by decide +kernel
set_option maxRecDepth 20000 in
theorem ggX1_uniteBestFreePair_X1_canBecomePartners : GoodIn wsX1_uniteBestFreePair wsX1_canBecomePartners := goodIn_r _ [6, 7, 8, 9, 5, 10, 11, 12, 13, 14, 15, 16, 17, 18, 19, 20, 21, 22, 46, 47, 48, 49, 50, 51, 52, 53, 54, 55] (by decide +kernel) (by decide +kernel)
set_option maxRecDepth 20000 in
theorem gX1_uniteBestFreePair_X1_canBecomePartners : GoodIn wsX1_uniteBestFreePair (wsV RX1 105 RX1 yX1_canBecomePartners wsX1_canBecomePartners) := goodIn_app (goodIn_of _ (by decide +kernel)) ggX1_uniteBestFreePair_X1_canBecomePartners
set_option maxRecDepth 20000 in
theorem ggX1_uniteBestFreePair_X1_value : GoodIn wsX1_uniteBestFreePair wsX1_value := goodIn_r _ [26, 27, 28, 29, 5, 30, 11, 31, 32, 17, 18, 19, 20, 21, 22, 33, 34, 35, 36, 46, 47, 48, 49, 50, 51, 52, 53, 54, 55] (by decide +kernel) (by decide +kernel)
set_option maxRecDepth 20000 in
theorem gX1_uniteBestFreePair_X1_value : GoodIn wsX1_uniteBestFreePair (wsV RX1 84 RX1 yX1_value wsX1_value) := goodIn_app (goodIn_of _ (by decide +kernel)) ggX1_uniteBestFreePair_X1_value
set_option maxRecDepth 20000 in
theorem ggX1_uniteBestFreePair_X1_has : GoodIn wsX1_uniteBestFreePair wsX1_has := goodIn_r _ [40, 1, 46, 47, 48] (by decide +kernel) (by decide +kernel)
set_option maxRecDepth 20000 in
theorem gX1_uniteBestFreePair_X1_has : GoodIn wsX1_uniteBestFreePair (wsV RX1 32 RX1 yX1_has wsX1_has) := goodIn_app (goodIn_of _ (by decide +kernel)) ggX1_uniteBestFreePair_X1_has
set_option maxRecDepth 20000 in
theorem ggX1_uniteBestFreePair_X1_unite : GoodIn wsX1_uniteBestFreePair wsX1_unite := goodIn_r _ [44, 11, 12, 45, 46, 47, 48, 49, 50, 51, 52, 53, 54, 55] (by decide +kernel) (by decide +kernel)
set_option maxRecDepth 20000 in
theorem gX1_uniteBestFreePair_X1_unite : GoodIn wsX1_uniteBestFreePair (wsV RX1 108 RX1 yX1_unite wsX1_unite) := goodIn_app (goodIn_of _ (by decide +kernel)) ggX1_uniteBestFreePair_X1_unite
theorem dX1_uniteBestFreePair_0 : decode cX1_uniteBestFreePair 0 = .ok (.sipush (-9999), 3) := by decide +kernel
theorem dX1_uniteBestFreePair_3 : decode cX1_uniteBestFreePair 3 = .ok (.istore_n 1, 1) := by decide +kernel
theorem dX1_uniteBestFreePair_4 : decode cX1_uniteBestFreePair 4 = .ok (.sipush (-9999), 3) := by decide +kernel
theorem dX1_uniteBestFreePair_7 : decode cX1_uniteBestFreePair 7 = .ok (.istore_n 2, 1) := by decide +kernel
theorem dX1_uniteBestFreePair_8 : decode cX1_uniteBestFreePair 8 = .ok (.iconst 0, 1) := by decide +kernel
theorem dX1_uniteBestFreePair_9 : decode cX1_uniteBestFreePair 9 = .ok (.istore_n 3, 1) := by decide +kernel
theorem dX1_uniteBestFreePair_10 : decode cX1_uniteBestFreePair 10 = .ok (.iconst 0, 1) := by decide +kernel
theorem dX1_uniteBestFreePair_11 : decode cX1_uniteBestFreePair 11 = .ok (.istore 4, 2) := by decide +kernel
theorem dX1_uniteBestFreePair_13 : decode cX1_uniteBestFreePair 13 = .ok (.iload 4, 2) := by decide +kernel
theorem dX1_uniteBestFreePair_15 : decode cX1_uniteBestFreePair 15 = .ok (.aload_n 0, 1) := by decide +kernel
theorem dX1_uniteBestFreePair_16 : decode cX1_uniteBestFreePair 16 = .ok (.getfield 18, 3) := by decide +kernel
theorem dX1_uniteBestFreePair_19 : decode cX1_uniteBestFreePair 19 = .ok (.if_icmp .ge 75, 3) := by decide +kernel
theorem dX1_uniteBestFreePair_22 : decode cX1_uniteBestFreePair 22 = .ok (.iload 4, 2) := by decide +kernel
theorem dX1_uniteBestFreePair_24 : decode cX1_uniteBestFreePair 24 = .ok (.iconst 1, 1) := by decide +kernel
theorem dX1_uniteBestFreePair_25 : decode cX1_uniteBestFreePair 25 = .ok (.iadd, 1) := by decide +kernel
theorem dX1_uniteBestFreePair_26 : decode cX1_uniteBestFreePair 26 = .ok (.istore 5, 2) := by decide +kernel
theorem dX1_uniteBestFreePair_28 : decode cX1_uniteBestFreePair 28 = .ok (.iload 5, 2) := by decide +kernel
theorem dX1_uniteBestFreePair_30 : decode cX1_uniteBestFreePair 30 = .ok (.aload_n 0, 1) := by decide +kernel
theorem dX1_uniteBestFreePair_31 : decode cX1_uniteBestFreePair 31 = .ok (.getfield 18, 3) := by decide +kernel
theorem dX1_uniteBestFreePair_34 : decode cX1_uniteBestFreePair 34 = .ok (.if_icmp .ge 54, 3) := by decide +kernel
theorem dX1_uniteBestFreePair_37 : decode cX1_uniteBestFreePair 37 = .ok (.aload_n 0, 1) := by decide +kernel
theorem dX1_uniteBestFreePair_38 : decode cX1_uniteBestFreePair 38 = .ok (.iload 4, 2) := by decide +kernel
theorem dX1_uniteBestFreePair_40 : decode cX1_uniteBestFreePair 40 = .ok (.iload 5, 2) := by decide +kernel
theorem dX1_uniteBestFreePair_42 : decode cX1_uniteBestFreePair 42 = .ok (.invokevirtual 105, 3) := by decide +kernel
theorem dX1_uniteBestFreePair_45 : decode cX1_uniteBestFreePair 45 = .ok (.ifCond .eq 37, 3) := by decide +kernel
theorem dX1_uniteBestFreePair_48 : decode cX1_uniteBestFreePair 48 = .ok (.iload_n 1, 1) := by decide +kernel
theorem dX1_uniteBestFreePair_49 : decode cX1_uniteBestFreePair 49 = .ok (.sipush (-9999), 3) := by decide +kernel
theorem dX1_uniteBestFreePair_52 : decode cX1_uniteBestFreePair 52 = .ok (.if_icmp .eq 15, 3) := by decide +kernel
theorem dX1_uniteBestFreePair_55 : decode cX1_uniteBestFreePair 55 = .ok (.aload_n 0, 1) := by decide +kernel
theorem dX1_uniteBestFreePair_56 : decode cX1_uniteBestFreePair 56 = .ok (.iload 4, 2) := by decide +kernel
theorem dX1_uniteBestFreePair_58 : decode cX1_uniteBestFreePair 58 = .ok (.iload 5, 2) := by decide +kernel
theorem dX1_uniteBestFreePair_60 : decode cX1_uniteBestFreePair 60 = .ok (.invokevirtual 84, 3) := by decide +kernel
theorem dX1_uniteBestFreePair_63 : decode cX1_uniteBestFreePair 63 = .ok (.iload_n 3, 1) := by decide +kernel
theorem dX1_uniteBestFreePair_64 : decode cX1_uniteBestFreePair 64 = .ok (.if_icmp .le 18, 3) := by decide +kernel
theorem dX1_uniteBestFreePair_67 : decode cX1_uniteBestFreePair 67 = .ok (.iload 4, 2) := by decide +kernel
theorem dX1_uniteBestFreePair_69 : decode cX1_uniteBestFreePair 69 = .ok (.istore_n 1, 1) := by decide +kernel
theorem dX1_uniteBestFreePair_70 : decode cX1_uniteBestFreePair 70 = .ok (.iload 5, 2) := by decide +kernel
theorem dX1_uniteBestFreePair_72 : decode cX1_uniteBestFreePair 72 = .ok (.istore_n 2, 1) := by decide +kernel
theorem dX1_uniteBestFreePair_73 : decode cX1_uniteBestFreePair 73 = .ok (.aload_n 0, 1) := by decide +kernel
theorem dX1_uniteBestFreePair_74 : decode cX1_uniteBestFreePair 74 = .ok (.iload 4, 2) := by decide +kernel
theorem dX1_uniteBestFreePair_76 : decode cX1_uniteBestFreePair 76 = .ok (.iload 5, 2) := by decide +kernel
theorem dX1_uniteBestFreePair_78 : decode cX1_uniteBestFreePair 78 = .ok (.invokevirtual 84, 3) := by decide +kernel
theorem dX1_uniteBestFreePair_81 : decode cX1_uniteBestFreePair 81 = .ok (.istore_n 3, 1) := by decide +kernel
theorem dX1_uniteBestFreePair_82 : decode cX1_uniteBestFreePair 82 = .ok (.iinc 5 1, 3) := by decide +kernel
theorem dX1_uniteBestFreePair_85 : decode cX1_uniteBestFreePair 85 = .ok (.goto (-57), 3) := by decide +kernel
theorem dX1_uniteBestFreePair_88 : decode cX1_uniteBestFreePair 88 = .ok (.iinc 4 1, 3) := by decide +kernel
theorem dX1_uniteBestFreePair_91 : decode cX1_uniteBestFreePair 91 = .ok (.goto (-78), 3) := by decide +kernel
theorem dX1_uniteBestFreePair_94 : decode cX1_uniteBestFreePair 94 = .ok (.aload_n 0, 1) := by decide +kernel
theorem dX1_uniteBestFreePair_95 : decode cX1_uniteBestFreePair 95 = .ok (.iload_n 1, 1) := by decide +kernel
theorem dX1_uniteBestFreePair_96 : decode cX1_uniteBestFreePair 96 = .ok (.invokevirtual 32, 3) := by decide +kernel
theorem dX1_uniteBestFreePair_99 : decode cX1_uniteBestFreePair 99 = .ok (.ifCond .eq 11, 3) := by decide +kernel
theorem dX1_uniteBestFreePair_102 : decode cX1_uniteBestFreePair 102 = .ok (.aload_n 0, 1) := by decide +kernel
theorem dX1_uniteBestFreePair_103 : decode cX1_uniteBestFreePair 103 = .ok (.iload_n 2, 1) := by decide +kernel
theorem dX1_uniteBestFreePair_104 : decode cX1_uniteBestFreePair 104 = .ok (.invokevirtual 32, 3) := by decide +kernel
theorem dX1_uniteBestFreePair_107 : decode cX1_uniteBestFreePair 107 = .ok (.ifCond .ne 5, 3) := by decide +kernel
theorem dX1_uniteBestFreePair_110 : decode cX1_uniteBestFreePair 110 = .ok (.iconst 0, 1) := by decide +kernel
theorem dX1_uniteBestFreePair_111 : decode cX1_uniteBestFreePair 111 = .ok (.ireturn, 1) := by decide +kernel
theorem dX1_uniteBestFreePair_112 : decode cX1_uniteBestFreePair 112 = .ok (.aload_n 0, 1) := by decide +kernel
theorem dX1_uniteBestFreePair_113 : decode cX1_uniteBestFreePair 113 = .ok (.iload_n 1, 1) := by decide +kernel
theorem dX1_uniteBestFreePair_114 : decode cX1_uniteBestFreePair 114 = .ok (.iload_n 2, 1) := by decide +kernel
theorem dX1_uniteBestFreePair_115 : decode cX1_uniteBestFreePair 115 = .ok (.invokevirtual 108, 3) := by decide +kernel
theorem dX1_uniteBestFreePair_118 : decode cX1_uniteBestFreePair 118 = .ok (.iconst 1, 1) := by decide +kernel
theorem dX1_uniteBestFreePair_119 : decode cX1_uniteBestFreePair 119 = .ok (.ireturn, 1) := by decide +kernel
set_option maxRecDepth 20000 in
theorem ggX1_settleBy_X1_uniteFirstBlockingPair : GoodIn wsX1_settleBy wsX1_uniteFirstBlockingPair := goodIn_r _ [5, 6, 7, 8, 9, 4, 10, 11, 12, 13, 14, 15, 16, 17, 18, 19, 20, 21, 22, 23, 24, 25, 26, 27, 28, 29, 30, 31, 32, 33, 34, 35, 36, 37, 38, 39, 40, 41, 42, 43, 44, 45, 46, 47, 48, 49, 50, 51, 52, 53, 54, 55, 56, 57, 58, 59] (by decide +kernel) (by decide +kernel)
set_option maxRecDepth 20000 in
theorem gX1_settleBy_X1_uniteFirstBlockingPair : GoodIn wsX1_settleBy (wsV RX1 112 RX1 yX1_uniteFirstBlockingPair wsX1_uniteFirstBlockingPair) := goodIn_app (goodIn_of _ (by decide +kernel)) ggX1_settleBy_X1_uniteFirstBlockingPair
theorem dX1_settleBy_0 : decode cX1_settleBy 0 = .ok (.iconst 0, 1) := by decide +kernel
theorem dX1_settleBy_1 : decode cX1_settleBy 1 = .ok (.istore_n 2, 1) := by decide +kernel
theorem dX1_settleBy_2 : decode cX1_settleBy 2 = .ok (.iload_n 2, 1) := by decide +kernel
theorem dX1_settleBy_3 : decode cX1_settleBy 3 = .ok (.iload_n 1, 1) := by decide +kernel
theorem dX1_settleBy_4 : decode cX1_settleBy 4 = .ok (.if_icmp .ge 16, 3) := by decide +kernel
theorem dX1_settleBy_7 : decode cX1_settleBy 7 = .ok (.aload_n 0, 1) := by decide +kernel
theorem dX1_settleBy_8 : decode cX1_settleBy 8 = .ok (.invokevirtual 112, 3) := by decide +kernel
theorem dX1_settleBy_11 : decode cX1_settleBy 11 = .ok (.ifCond .eq 9, 3) := by decide +kernel
theorem dX1_settleBy_14 : decode cX1_settleBy 14 = .ok (.iinc 2 1, 3) := by decide +kernel
theorem dX1_settleBy_17 : decode cX1_settleBy 17 = .ok (.goto (-15), 3) := by decide +kernel
theorem dX1_settleBy_20 : decode cX1_settleBy 20 = .ok (.iload_n 2, 1) := by decide +kernel
theorem dX1_settleBy_21 : decode cX1_settleBy 21 = .ok (.ireturn, 1) := by decide +kernel
set_option maxRecDepth 20000 in
theorem ggX1_uniteFirstBlockingPair_X1_block : GoodIn wsX1_uniteFirstBlockingPair wsX1_block := goodIn_r _ [6, 7, 8, 9, 10, 11, 5, 12, 13, 14, 15, 16, 17, 18, 19, 20, 21, 22, 23, 24, 25, 26, 1, 27, 28, 29, 30, 31, 32, 33, 34, 35, 36, 46, 47, 48, 49, 50, 51, 52, 53, 54, 55] (by decide +kernel) (by decide +kernel)
set_option maxRecDepth 20000 in
theorem gX1_uniteFirstBlockingPair_X1_block : GoodIn wsX1_uniteFirstBlockingPair (wsV RX1 87 RX1 yX1_block wsX1_block) := goodIn_app (goodIn_of _ (by decide +kernel)) ggX1_uniteFirstBlockingPair_X1_block
set_option maxRecDepth 20000 in
theorem ggX1_uniteFirstBlockingPair_X1_separate : GoodIn wsX1_uniteFirstBlockingPair wsX1_separate := goodIn_r _ [40, 7, 8, 23, 24, 25, 5, 26, 1, 46, 47, 48, 49, 50, 51, 52, 53, 54, 55] (by decide +kernel) (by decide +kernel)
set_option maxRecDepth 20000 in
theorem gX1_uniteFirstBlockingPair_X1_separate : GoodIn wsX1_uniteFirstBlockingPair (wsV RX1 94 RX1 yX1_separate wsX1_separate) := goodIn_app (goodIn_of _ (by decide +kernel)) ggX1_uniteFirstBlockingPair_X1_separate
set_option maxRecDepth 20000 in
theorem ggX1_uniteFirstBlockingPair_X1_unite : GoodIn wsX1_uniteFirstBlockingPair wsX1_unite := goodIn_r _ [44, 7, 8, 45, 46, 47, 48, 49, 50, 51, 52, 53, 54, 55] (by decide +kernel) (by decide +kernel)
set_option maxRecDepth 20000 in
theorem gX1_uniteFirstBlockingPair_X1_unite : GoodIn wsX1_uniteFirstBlockingPair (wsV RX1 108 RX1 yX1_unite wsX1_unite) := goodIn_app (goodIn_of _ (by decide +kernel)) ggX1_uniteFirstBlockingPair_X1_unite
theorem dX1_uniteFirstBlockingPair_0 : decode cX1_uniteFirstBlockingPair 0 = .ok (.iconst 0, 1) := by decide +kernel
theorem dX1_uniteFirstBlockingPair_1 : decode cX1_uniteFirstBlockingPair 1 = .ok (.istore_n 1, 1) := by decide +kernel
theorem dX1_uniteFirstBlockingPair_2 : decode cX1_uniteFirstBlockingPair 2 = .ok (.iload_n 1, 1) := by decide +kernel
theorem dX1_uniteFirstBlockingPair_3 : decode cX1_uniteFirstBlockingPair 3 = .ok (.aload_n 0, 1) := by decide +kernel
theorem dX1_uniteFirstBlockingPair_4 : decode cX1_uniteFirstBlockingPair 4 = .ok (.getfield 18, 3) := by decide +kernel
theorem dX1_uniteFirstBlockingPair_7 : decode cX1_uniteFirstBlockingPair 7 = .ok (.if_icmp .ge 54, 3) := by decide +kernel
theorem dX1_uniteFirstBlockingPair_10 : decode cX1_uniteFirstBlockingPair 10 = .ok (.iload_n 1, 1) := by decide +kernel
theorem dX1_uniteFirstBlockingPair_11 : decode cX1_uniteFirstBlockingPair 11 = .ok (.iconst 1, 1) := by decide +kernel
theorem dX1_uniteFirstBlockingPair_12 : decode cX1_uniteFirstBlockingPair 12 = .ok (.iadd, 1) := by decide +kernel
theorem dX1_uniteFirstBlockingPair_13 : decode cX1_uniteFirstBlockingPair 13 = .ok (.istore_n 2, 1) := by decide +kernel
theorem dX1_uniteFirstBlockingPair_14 : decode cX1_uniteFirstBlockingPair 14 = .ok (.iload_n 2, 1) := by decide +kernel
theorem dX1_uniteFirstBlockingPair_15 : decode cX1_uniteFirstBlockingPair 15 = .ok (.aload_n 0, 1) := by decide +kernel
theorem dX1_uniteFirstBlockingPair_16 : decode cX1_uniteFirstBlockingPair 16 = .ok (.getfield 18, 3) := by decide +kernel
theorem dX1_uniteFirstBlockingPair_19 : decode cX1_uniteFirstBlockingPair 19 = .ok (.if_icmp .ge 36, 3) := by decide +kernel
theorem dX1_uniteFirstBlockingPair_22 : decode cX1_uniteFirstBlockingPair 22 = .ok (.aload_n 0, 1) := by decide +kernel
theorem dX1_uniteFirstBlockingPair_23 : decode cX1_uniteFirstBlockingPair 23 = .ok (.iload_n 1, 1) := by decide +kernel
theorem dX1_uniteFirstBlockingPair_24 : decode cX1_uniteFirstBlockingPair 24 = .ok (.iload_n 2, 1) := by decide +kernel
theorem dX1_uniteFirstBlockingPair_25 : decode cX1_uniteFirstBlockingPair 25 = .ok (.invokevirtual 87, 3) := by decide +kernel
theorem dX1_uniteFirstBlockingPair_28 : decode cX1_uniteFirstBlockingPair 28 = .ok (.ifCond .eq 21, 3) := by decide +kernel
theorem dX1_uniteFirstBlockingPair_31 : decode cX1_uniteFirstBlockingPair 31 = .ok (.aload_n 0, 1) := by decide +kernel
theorem dX1_uniteFirstBlockingPair_32 : decode cX1_uniteFirstBlockingPair 32 = .ok (.iload_n 1, 1) := by decide +kernel
theorem dX1_uniteFirstBlockingPair_33 : decode cX1_uniteFirstBlockingPair 33 = .ok (.invokevirtual 94, 3) := by decide +kernel
theorem dX1_uniteFirstBlockingPair_36 : decode cX1_uniteFirstBlockingPair 36 = .ok (.aload_n 0, 1) := by decide +kernel
theorem dX1_uniteFirstBlockingPair_37 : decode cX1_uniteFirstBlockingPair 37 = .ok (.iload_n 2, 1) := by decide +kernel
theorem dX1_uniteFirstBlockingPair_38 : decode cX1_uniteFirstBlockingPair 38 = .ok (.invokevirtual 94, 3) := by decide +kernel
theorem dX1_uniteFirstBlockingPair_41 : decode cX1_uniteFirstBlockingPair 41 = .ok (.aload_n 0, 1) := by decide +kernel
theorem dX1_uniteFirstBlockingPair_42 : decode cX1_uniteFirstBlockingPair 42 = .ok (.iload_n 1, 1) := by decide +kernel
theorem dX1_uniteFirstBlockingPair_43 : decode cX1_uniteFirstBlockingPair 43 = .ok (.iload_n 2, 1) := by decide +kernel
theorem dX1_uniteFirstBlockingPair_44 : decode cX1_uniteFirstBlockingPair 44 = .ok (.invokevirtual 108, 3) := by decide +kernel
theorem dX1_uniteFirstBlockingPair_47 : decode cX1_uniteFirstBlockingPair 47 = .ok (.iconst 1, 1) := by decide +kernel
theorem dX1_uniteFirstBlockingPair_48 : decode cX1_uniteFirstBlockingPair 48 = .ok (.ireturn, 1) := by decide +kernel
theorem dX1_uniteFirstBlockingPair_49 : decode cX1_uniteFirstBlockingPair 49 = .ok (.iinc 2 1, 3) := by decide +kernel
theorem dX1_uniteFirstBlockingPair_52 : decode cX1_uniteFirstBlockingPair 52 = .ok (.goto (-38), 3) := by decide +kernel
theorem dX1_uniteFirstBlockingPair_55 : decode cX1_uniteFirstBlockingPair 55 = .ok (.iinc 1 1, 3) := by decide +kernel
theorem dX1_uniteFirstBlockingPair_58 : decode cX1_uniteFirstBlockingPair 58 = .ok (.goto (-56), 3) := by decide +kernel
theorem dX1_uniteFirstBlockingPair_61 : decode cX1_uniteFirstBlockingPair 61 = .ok (.iconst 0, 1) := by decide +kernel
theorem dX1_uniteFirstBlockingPair_62 : decode cX1_uniteFirstBlockingPair 62 = .ok (.ireturn, 1) := by decide +kernel
set_option maxRecDepth 20000 in
theorem ggX1_passWeek_X1_greaterPartner : GoodIn wsX1_passWeek wsX1_greaterPartner := goodIn_r _ [9, 2, 10, 11, 12, 13, 8, 14, 1, 68, 69, 70, 71, 72, 73, 74, 75, 76, 77] (by decide +kernel) (by decide +kernel)
set_option maxRecDepth 20000 in
theorem gX1_passWeek_X1_greaterPartner : GoodIn wsX1_passWeek (wsV RX1 81 RX1 yX1_greaterPartner wsX1_greaterPartner) := goodIn_app (goodIn_of _ (by decide +kernel)) ggX1_passWeek_X1_greaterPartner
set_option maxRecDepth 20000 in
theorem ggX1_passWeek_X1_passWeekOfPair : GoodIn wsX1_passWeek wsX1_passWeekOfPair := goodIn_r _ [18, 2, 19, 20, 21, 22, 23, 24, 25, 26, 27, 28, 29, 30, 31, 32, 33, 34, 35, 36, 37, 38, 39, 40, 8, 41, 42, 43, 44, 45, 46, 47, 48, 49, 50, 51, 52, 53, 54, 55, 56, 57, 58, 59, 68, 69, 70, 71, 72, 73, 74, 75, 76, 77] (by decide +kernel) (by decide +kernel)
set_option maxRecDepth 20000 in
theorem gX1_passWeek_X1_passWeekOfPair : GoodIn wsX1_passWeek (wsV RX1 115 RX1 yX1_passWeekOfPair wsX1_passWeekOfPair) := goodIn_app (goodIn_of _ (by decide +kernel)) ggX1_passWeek_X1_passWeekOfPair
set_option maxRecDepth 20000 in
theorem ggX1_passWeek_X1_fit : GoodIn wsX1_passWeek wsX1_fit := goodIn_r _ [63, 43, 44, 45, 8, 46, 2, 47, 48, 68, 69, 70, 71, 72, 73, 74, 75, 76, 77] (by decide +kernel) (by decide +kernel)
set_option maxRecDepth 20000 in
theorem gX1_passWeek_X1_fit : GoodIn wsX1_passWeek (wsV RX1 74 RX1 yX1_fit wsX1_fit) := goodIn_app (goodIn_of _ (by decide +kernel)) ggX1_passWeek_X1_fit
set_option maxRecDepth 20000 in
theorem ggX1_passWeek_X1_separate : GoodIn wsX1_passWeek wsX1_separate := goodIn_r _ [67, 2, 10, 11, 12, 13, 8, 14, 1, 68, 69, 70, 71, 72, 73, 74, 75, 76, 77] (by decide +kernel) (by decide +kernel)
set_option maxRecDepth 20000 in
theorem gX1_passWeek_X1_separate : GoodIn wsX1_passWeek (wsV RX1 94 RX1 yX1_separate wsX1_separate) := goodIn_app (goodIn_of _ (by decide +kernel)) ggX1_passWeek_X1_separate
theorem dX1_passWeek_0 : decode cX1_passWeek 0 = .ok (.iconst 0, 1) := by decide +kernel
theorem dX1_passWeek_1 : decode cX1_passWeek 1 = .ok (.istore_n 2, 1) := by decide +kernel
theorem dX1_passWeek_2 : decode cX1_passWeek 2 = .ok (.iload_n 2, 1) := by decide +kernel
theorem dX1_passWeek_3 : decode cX1_passWeek 3 = .ok (.aload_n 0, 1) := by decide +kernel
theorem dX1_passWeek_4 : decode cX1_passWeek 4 = .ok (.getfield 18, 3) := by decide +kernel
theorem dX1_passWeek_7 : decode cX1_passWeek 7 = .ok (.if_icmp .ge 29, 3) := by decide +kernel
theorem dX1_passWeek_10 : decode cX1_passWeek 10 = .ok (.aload_n 0, 1) := by decide +kernel
theorem dX1_passWeek_11 : decode cX1_passWeek 11 = .ok (.iload_n 2, 1) := by decide +kernel
theorem dX1_passWeek_12 : decode cX1_passWeek 12 = .ok (.invokevirtual 81, 3) := by decide +kernel
theorem dX1_passWeek_15 : decode cX1_passWeek 15 = .ok (.istore_n 3, 1) := by decide +kernel
theorem dX1_passWeek_16 : decode cX1_passWeek 16 = .ok (.iload_n 3, 1) := by decide +kernel
theorem dX1_passWeek_17 : decode cX1_passWeek 17 = .ok (.sipush (-9999), 3) := by decide +kernel
theorem dX1_passWeek_20 : decode cX1_passWeek 20 = .ok (.if_icmp .eq 10, 3) := by decide +kernel
theorem dX1_passWeek_23 : decode cX1_passWeek 23 = .ok (.aload_n 0, 1) := by decide +kernel
theorem dX1_passWeek_24 : decode cX1_passWeek 24 = .ok (.iload_n 2, 1) := by decide +kernel
theorem dX1_passWeek_25 : decode cX1_passWeek 25 = .ok (.iload_n 3, 1) := by decide +kernel
theorem dX1_passWeek_26 : decode cX1_passWeek 26 = .ok (.iload_n 1, 1) := by decide +kernel
theorem dX1_passWeek_27 : decode cX1_passWeek 27 = .ok (.invokevirtual 115, 3) := by decide +kernel
theorem dX1_passWeek_30 : decode cX1_passWeek 30 = .ok (.iinc 2 1, 3) := by decide +kernel
theorem dX1_passWeek_33 : decode cX1_passWeek 33 = .ok (.goto (-31), 3) := by decide +kernel
theorem dX1_passWeek_36 : decode cX1_passWeek 36 = .ok (.iconst 0, 1) := by decide +kernel
theorem dX1_passWeek_37 : decode cX1_passWeek 37 = .ok (.istore_n 2, 1) := by decide +kernel
theorem dX1_passWeek_38 : decode cX1_passWeek 38 = .ok (.iload_n 2, 1) := by decide +kernel
theorem dX1_passWeek_39 : decode cX1_passWeek 39 = .ok (.aload_n 0, 1) := by decide +kernel
theorem dX1_passWeek_40 : decode cX1_passWeek 40 = .ok (.getfield 18, 3) := by decide +kernel
theorem dX1_passWeek_43 : decode cX1_passWeek 43 = .ok (.if_icmp .ge 49, 3) := by decide +kernel
theorem dX1_passWeek_46 : decode cX1_passWeek 46 = .ok (.aload_n 0, 1) := by decide +kernel
theorem dX1_passWeek_47 : decode cX1_passWeek 47 = .ok (.iload_n 2, 1) := by decide +kernel
theorem dX1_passWeek_48 : decode cX1_passWeek 48 = .ok (.invokevirtual 81, 3) := by decide +kernel
theorem dX1_passWeek_51 : decode cX1_passWeek 51 = .ok (.istore_n 3, 1) := by decide +kernel
theorem dX1_passWeek_52 : decode cX1_passWeek 52 = .ok (.iload_n 3, 1) := by decide +kernel
theorem dX1_passWeek_53 : decode cX1_passWeek 53 = .ok (.sipush (-9999), 3) := by decide +kernel
theorem dX1_passWeek_56 : decode cX1_passWeek 56 = .ok (.if_icmp .eq 30, 3) := by decide +kernel
theorem dX1_passWeek_59 : decode cX1_passWeek 59 = .ok (.aload_n 0, 1) := by decide +kernel
theorem dX1_passWeek_60 : decode cX1_passWeek 60 = .ok (.iload_n 2, 1) := by decide +kernel
theorem dX1_passWeek_61 : decode cX1_passWeek 61 = .ok (.iload_n 3, 1) := by decide +kernel
theorem dX1_passWeek_62 : decode cX1_passWeek 62 = .ok (.invokevirtual 74, 3) := by decide +kernel
theorem dX1_passWeek_65 : decode cX1_passWeek 65 = .ok (.ifCond .eq 16, 3) := by decide +kernel
theorem dX1_passWeek_68 : decode cX1_passWeek 68 = .ok (.aload_n 0, 1) := by decide +kernel
theorem dX1_passWeek_69 : decode cX1_passWeek 69 = .ok (.getfield 11, 3) := by decide +kernel
theorem dX1_passWeek_72 : decode cX1_passWeek 72 = .ok (.iload_n 2, 1) := by decide +kernel
theorem dX1_passWeek_73 : decode cX1_passWeek 73 = .ok (.aaload, 1) := by decide +kernel
theorem dX1_passWeek_74 : decode cX1_passWeek 74 = .ok (.getfield 55, 3) := by decide +kernel
theorem dX1_passWeek_77 : decode cX1_passWeek 77 = .ok (.iconst 3, 1) := by decide +kernel
theorem dX1_passWeek_78 : decode cX1_passWeek 78 = .ok (.if_icmp .lt 8, 3) := by decide +kernel
theorem dX1_passWeek_81 : decode cX1_passWeek 81 = .ok (.aload_n 0, 1) := by decide +kernel
theorem dX1_passWeek_82 : decode cX1_passWeek 82 = .ok (.iload_n 2, 1) := by decide +kernel
theorem dX1_passWeek_83 : decode cX1_passWeek 83 = .ok (.invokevirtual 94, 3) := by decide +kernel
theorem dX1_passWeek_86 : decode cX1_passWeek 86 = .ok (.iinc 2 1, 3) := by decide +kernel
theorem dX1_passWeek_89 : decode cX1_passWeek 89 = .ok (.goto (-51), 3) := by decide +kernel
theorem dX1_passWeek_92 : decode cX1_passWeek 92 = .ok (.aload_n 0, 1) := by decide +kernel
theorem dX1_passWeek_93 : decode cX1_passWeek 93 = .ok (.dup, 1) := by decide +kernel
theorem dX1_passWeek_94 : decode cX1_passWeek 94 = .ok (.getfield 26, 3) := by decide +kernel
theorem dX1_passWeek_97 : decode cX1_passWeek 97 = .ok (.iconst 1, 1) := by decide +kernel
theorem dX1_passWeek_98 : decode cX1_passWeek 98 = .ok (.iadd, 1) := by decide +kernel
theorem dX1_passWeek_99 : decode cX1_passWeek 99 = .ok (.putfield 26, 3) := by decide +kernel
theorem dX1_passWeek_102 : decode cX1_passWeek 102 = .ok (.return_, 1) := by decide +kernel
set_option maxRecDepth 20000 in
theorem ggX1_passWeekOfPair_X3_failToMeet : GoodIn wsX1_passWeekOfPair wsX3_failToMeet := goodIn_r _ [6, 7, 8, 9, 10, 11, 5, 12, 13, 14, 15, 16, 17, 18, 19, 20, 47, 48, 49, 50, 51, 52, 53] (by decide +kernel) (by decide +kernel)
set_option maxRecDepth 20000 in
theorem gX1_passWeekOfPair_X3_failToMeet : GoodIn wsX1_passWeekOfPair (wsV RX1 118 RX3 yX3_failToMeet wsX3_failToMeet) := goodIn_app (goodIn_of _ (by decide +kernel)) ggX1_passWeekOfPair_X3_failToMeet
set_option maxRecDepth 20000 in
theorem ggX1_passWeekOfPair_X1_pointsOfMeeting : GoodIn wsX1_passWeekOfPair wsX1_pointsOfMeeting := goodIn_r _ [25, 26, 19, 16, 20, 27, 28, 29, 24, 30, 1, 31, 32, 44, 45, 46, 47, 48, 49, 50, 51, 52, 53] (by decide +kernel) (by decide +kernel)
set_option maxRecDepth 20000 in
theorem gX1_passWeekOfPair_X1_pointsOfMeeting : GoodIn wsX1_passWeekOfPair (wsV RX1 122 RX1 yX1_pointsOfMeeting wsX1_pointsOfMeeting) := goodIn_app (goodIn_of _ (by decide +kernel)) ggX1_passWeekOfPair_X1_pointsOfMeeting
set_option maxRecDepth 20000 in
theorem ggX1_passWeekOfPair_X3_meet : GoodIn wsX1_passWeekOfPair wsX3_meet := goodIn_r _ [36, 7, 9, 10, 11, 5, 12, 13, 14, 15, 16, 17, 18, 19, 20, 37, 38, 39, 40, 41, 42, 43, 47, 48, 49, 50, 51, 52, 53] (by decide +kernel) (by decide +kernel)
set_option maxRecDepth 20000 in
theorem gX1_passWeekOfPair_X3_meet : GoodIn wsX1_passWeekOfPair (wsV RX1 125 RX3 yX3_meet wsX3_meet) := goodIn_app (goodIn_of _ (by decide +kernel)) ggX1_passWeekOfPair_X3_meet
theorem dX1_passWeekOfPair_0 : decode cX1_passWeekOfPair 0 = .ok (.iload_n 3, 1) := by decide +kernel
theorem dX1_passWeekOfPair_1 : decode cX1_passWeekOfPair 1 = .ok (.iload_n 1, 1) := by decide +kernel
theorem dX1_passWeekOfPair_2 : decode cX1_passWeekOfPair 2 = .ok (.ishr, 1) := by decide +kernel
theorem dX1_passWeekOfPair_3 : decode cX1_passWeekOfPair 3 = .ok (.iconst 1, 1) := by decide +kernel
theorem dX1_passWeekOfPair_4 : decode cX1_passWeekOfPair 4 = .ok (.iand, 1) := by decide +kernel
theorem dX1_passWeekOfPair_5 : decode cX1_passWeekOfPair 5 = .ok (.iconst 1, 1) := by decide +kernel
theorem dX1_passWeekOfPair_6 : decode cX1_passWeekOfPair 6 = .ok (.if_icmp .ne 7, 3) := by decide +kernel
theorem dX1_passWeekOfPair_9 : decode cX1_passWeekOfPair 9 = .ok (.iconst 1, 1) := by decide +kernel
theorem dX1_passWeekOfPair_10 : decode cX1_passWeekOfPair 10 = .ok (.goto 4, 3) := by decide +kernel
theorem dX1_passWeekOfPair_13 : decode cX1_passWeekOfPair 13 = .ok (.iconst 0, 1) := by decide +kernel
theorem dX1_passWeekOfPair_14 : decode cX1_passWeekOfPair 14 = .ok (.istore 4, 2) := by decide +kernel
theorem dX1_passWeekOfPair_16 : decode cX1_passWeekOfPair 16 = .ok (.iload_n 3, 1) := by decide +kernel
theorem dX1_passWeekOfPair_17 : decode cX1_passWeekOfPair 17 = .ok (.iload_n 2, 1) := by decide +kernel
theorem dX1_passWeekOfPair_18 : decode cX1_passWeekOfPair 18 = .ok (.ishr, 1) := by decide +kernel
theorem dX1_passWeekOfPair_19 : decode cX1_passWeekOfPair 19 = .ok (.iconst 1, 1) := by decide +kernel
theorem dX1_passWeekOfPair_20 : decode cX1_passWeekOfPair 20 = .ok (.iand, 1) := by decide +kernel
theorem dX1_passWeekOfPair_21 : decode cX1_passWeekOfPair 21 = .ok (.iconst 1, 1) := by decide +kernel
theorem dX1_passWeekOfPair_22 : decode cX1_passWeekOfPair 22 = .ok (.if_icmp .ne 7, 3) := by decide +kernel
theorem dX1_passWeekOfPair_25 : decode cX1_passWeekOfPair 25 = .ok (.iconst 1, 1) := by decide +kernel
theorem dX1_passWeekOfPair_26 : decode cX1_passWeekOfPair 26 = .ok (.goto 4, 3) := by decide +kernel
theorem dX1_passWeekOfPair_29 : decode cX1_passWeekOfPair 29 = .ok (.iconst 0, 1) := by decide +kernel
theorem dX1_passWeekOfPair_30 : decode cX1_passWeekOfPair 30 = .ok (.istore 5, 2) := by decide +kernel
theorem dX1_passWeekOfPair_32 : decode cX1_passWeekOfPair 32 = .ok (.iload 4, 2) := by decide +kernel
theorem dX1_passWeekOfPair_34 : decode cX1_passWeekOfPair 34 = .ok (.ifCond .ne 8, 3) := by decide +kernel
theorem dX1_passWeekOfPair_37 : decode cX1_passWeekOfPair 37 = .ok (.iload 5, 2) := by decide +kernel
theorem dX1_passWeekOfPair_39 : decode cX1_passWeekOfPair 39 = .ok (.ifCond .eq 28, 3) := by decide +kernel
theorem dX1_passWeekOfPair_42 : decode cX1_passWeekOfPair 42 = .ok (.aload_n 0, 1) := by decide +kernel
theorem dX1_passWeekOfPair_43 : decode cX1_passWeekOfPair 43 = .ok (.getfield 11, 3) := by decide +kernel
theorem dX1_passWeekOfPair_46 : decode cX1_passWeekOfPair 46 = .ok (.iload_n 1, 1) := by decide +kernel
theorem dX1_passWeekOfPair_47 : decode cX1_passWeekOfPair 47 = .ok (.aaload, 1) := by decide +kernel
theorem dX1_passWeekOfPair_48 : decode cX1_passWeekOfPair 48 = .ok (.iload 4, 2) := by decide +kernel
theorem dX1_passWeekOfPair_50 : decode cX1_passWeekOfPair 50 = .ok (.invokevirtual 118, 3) := by decide +kernel
theorem dX1_passWeekOfPair_53 : decode cX1_passWeekOfPair 53 = .ok (.aload_n 0, 1) := by decide +kernel
theorem dX1_passWeekOfPair_54 : decode cX1_passWeekOfPair 54 = .ok (.getfield 11, 3) := by decide +kernel
theorem dX1_passWeekOfPair_57 : decode cX1_passWeekOfPair 57 = .ok (.iload_n 2, 1) := by decide +kernel
theorem dX1_passWeekOfPair_58 : decode cX1_passWeekOfPair 58 = .ok (.aaload, 1) := by decide +kernel
theorem dX1_passWeekOfPair_59 : decode cX1_passWeekOfPair 59 = .ok (.iload 5, 2) := by decide +kernel
theorem dX1_passWeekOfPair_61 : decode cX1_passWeekOfPair 61 = .ok (.invokevirtual 118, 3) := by decide +kernel
theorem dX1_passWeekOfPair_64 : decode cX1_passWeekOfPair 64 = .ok (.goto 41, 3) := by decide +kernel
theorem dX1_passWeekOfPair_67 : decode cX1_passWeekOfPair 67 = .ok (.aload_n 0, 1) := by decide +kernel
theorem dX1_passWeekOfPair_68 : decode cX1_passWeekOfPair 68 = .ok (.iload_n 1, 1) := by decide +kernel
theorem dX1_passWeekOfPair_69 : decode cX1_passWeekOfPair 69 = .ok (.iload_n 2, 1) := by decide +kernel
theorem dX1_passWeekOfPair_70 : decode cX1_passWeekOfPair 70 = .ok (.invokevirtual 122, 3) := by decide +kernel
theorem dX1_passWeekOfPair_73 : decode cX1_passWeekOfPair 73 = .ok (.istore 6, 2) := by decide +kernel
theorem dX1_passWeekOfPair_75 : decode cX1_passWeekOfPair 75 = .ok (.aload_n 0, 1) := by decide +kernel
theorem dX1_passWeekOfPair_76 : decode cX1_passWeekOfPair 76 = .ok (.iload_n 2, 1) := by decide +kernel
theorem dX1_passWeekOfPair_77 : decode cX1_passWeekOfPair 77 = .ok (.iload_n 1, 1) := by decide +kernel
theorem dX1_passWeekOfPair_78 : decode cX1_passWeekOfPair 78 = .ok (.invokevirtual 122, 3) := by decide +kernel
theorem dX1_passWeekOfPair_81 : decode cX1_passWeekOfPair 81 = .ok (.istore 7, 2) := by decide +kernel
theorem dX1_passWeekOfPair_83 : decode cX1_passWeekOfPair 83 = .ok (.aload_n 0, 1) := by decide +kernel
theorem dX1_passWeekOfPair_84 : decode cX1_passWeekOfPair 84 = .ok (.getfield 11, 3) := by decide +kernel
theorem dX1_passWeekOfPair_87 : decode cX1_passWeekOfPair 87 = .ok (.iload_n 1, 1) := by decide +kernel
theorem dX1_passWeekOfPair_88 : decode cX1_passWeekOfPair 88 = .ok (.aaload, 1) := by decide +kernel
theorem dX1_passWeekOfPair_89 : decode cX1_passWeekOfPair 89 = .ok (.iload 6, 2) := by decide +kernel
theorem dX1_passWeekOfPair_91 : decode cX1_passWeekOfPair 91 = .ok (.invokevirtual 125, 3) := by decide +kernel
theorem dX1_passWeekOfPair_94 : decode cX1_passWeekOfPair 94 = .ok (.aload_n 0, 1) := by decide +kernel
theorem dX1_passWeekOfPair_95 : decode cX1_passWeekOfPair 95 = .ok (.getfield 11, 3) := by decide +kernel
theorem dX1_passWeekOfPair_98 : decode cX1_passWeekOfPair 98 = .ok (.iload_n 2, 1) := by decide +kernel
theorem dX1_passWeekOfPair_99 : decode cX1_passWeekOfPair 99 = .ok (.aaload, 1) := by decide +kernel
theorem dX1_passWeekOfPair_100 : decode cX1_passWeekOfPair 100 = .ok (.iload 7, 2) := by decide +kernel
theorem dX1_passWeekOfPair_102 : decode cX1_passWeekOfPair 102 = .ok (.invokevirtual 125, 3) := by decide +kernel
theorem dX1_passWeekOfPair_105 : decode cX1_passWeekOfPair 105 = .ok (.return_, 1) := by decide +kernel
set_option maxRecDepth 20000 in
theorem ggX1_pointsOfMeeting_X1_lead : GoodIn wsX1_pointsOfMeeting wsX1_lead := goodIn_r _ [9, 10, 11, 12, 13, 14, 15, 16, 17, 18, 19, 20, 21, 22] (by decide +kernel) (by decide +kernel)
set_option maxRecDepth 20000 in
theorem gX1_pointsOfMeeting_X1_lead : GoodIn wsX1_pointsOfMeeting (wsV RX1 62 RX1 yX1_lead wsX1_lead) := goodIn_app (goodIn_of _ (by decide +kernel)) ggX1_pointsOfMeeting_X1_lead
theorem dX1_pointsOfMeeting_0 : decode cX1_pointsOfMeeting 0 = .ok (.iconst 1, 1) := by decide +kernel
theorem dX1_pointsOfMeeting_1 : decode cX1_pointsOfMeeting 1 = .ok (.iconst 4, 1) := by decide +kernel
theorem dX1_pointsOfMeeting_2 : decode cX1_pointsOfMeeting 2 = .ok (.aload_n 0, 1) := by decide +kernel
theorem dX1_pointsOfMeeting_3 : decode cX1_pointsOfMeeting 3 = .ok (.iload_n 1, 1) := by decide +kernel
theorem dX1_pointsOfMeeting_4 : decode cX1_pointsOfMeeting 4 = .ok (.iload_n 2, 1) := by decide +kernel
theorem dX1_pointsOfMeeting_5 : decode cX1_pointsOfMeeting 5 = .ok (.invokevirtual 62, 3) := by decide +kernel
theorem dX1_pointsOfMeeting_8 : decode cX1_pointsOfMeeting 8 = .ok (.iadd, 1) := by decide +kernel
theorem dX1_pointsOfMeeting_9 : decode cX1_pointsOfMeeting 9 = .ok (.invokestatic 128, 3) := by decide +kernel
theorem dX1_pointsOfMeeting_12 : decode cX1_pointsOfMeeting 12 = .ok (.ireturn, 1) := by decide +kernel
set_option maxRecDepth 20000 in
theorem ggX2_init_X1_init : GoodIn wsX2_init wsX1_init := goodIn_r _ [10, 11, 2, 3, 12, 13, 14, 15, 16, 17, 18, 19, 20, 24, 25, 26, 27, 28, 29, 30, 31, 32, 33] (by decide +kernel) (by decide +kernel)
set_option maxRecDepth 20000 in
theorem gX2_init_X1_init : GoodIn wsX2_init (wsX1_init) := ggX2_init_X1_init
theorem dX2_init_0 : decode cX2_init 0 = .ok (.aload_n 0, 1) := by decide +kernel
theorem dX2_init_1 : decode cX2_init 1 = .ok (.invokespecial 3, 3) := by decide +kernel
theorem dX2_init_4 : decode cX2_init 4 = .ok (.aload_n 0, 1) := by decide +kernel
theorem dX2_init_5 : decode cX2_init 5 = .ok (.bipush 14, 2) := by decide +kernel
theorem dX2_init_7 : decode cX2_init 7 = .ok (.anewarray 9, 3) := by decide +kernel
theorem dX2_init_10 : decode cX2_init 10 = .ok (.putfield 11, 3) := by decide +kernel
theorem dX2_init_13 : decode cX2_init 13 = .ok (.iconst 0, 1) := by decide +kernel
theorem dX2_init_14 : decode cX2_init 14 = .ok (.istore_n 1, 1) := by decide +kernel
theorem dX2_init_15 : decode cX2_init 15 = .ok (.iload_n 1, 1) := by decide +kernel
theorem dX2_init_16 : decode cX2_init 16 = .ok (.bipush 14, 2) := by decide +kernel
theorem dX2_init_18 : decode cX2_init 18 = .ok (.if_icmp .ge 22, 3) := by decide +kernel
theorem dX2_init_21 : decode cX2_init 21 = .ok (.aload_n 0, 1) := by decide +kernel
theorem dX2_init_22 : decode cX2_init 22 = .ok (.getfield 11, 3) := by decide +kernel
theorem dX2_init_25 : decode cX2_init 25 = .ok (.iload_n 1, 1) := by decide +kernel
theorem dX2_init_26 : decode cX2_init 26 = .ok (.new 9, 3) := by decide +kernel
theorem dX2_init_29 : decode cX2_init 29 = .ok (.dup, 1) := by decide +kernel
theorem dX2_init_30 : decode cX2_init 30 = .ok (.invokespecial 17, 3) := by decide +kernel
theorem dX2_init_33 : decode cX2_init 33 = .ok (.aastore, 1) := by decide +kernel
theorem dX2_init_34 : decode cX2_init 34 = .ok (.iinc 1 1, 3) := by decide +kernel
theorem dX2_init_37 : decode cX2_init 37 = .ok (.goto (-22), 3) := by decide +kernel
theorem dX2_init_40 : decode cX2_init 40 = .ok (.return_, 1) := by decide +kernel
set_option maxRecDepth 20000 in
theorem ggX2_remember_X1_copyFrom : GoodIn wsX2_remember wsX1_copyFrom := goodIn_r _ [8, 9, 10, 11, 12, 13, 14, 15, 16, 17, 18, 19, 20, 21, 22, 23, 24, 25, 26, 27, 31, 32, 33, 34, 35, 36, 37, 38, 39, 40] (by decide +kernel) (by decide +kernel)
set_option maxRecDepth 20000 in
theorem gX2_remember_X1_copyFrom : GoodIn wsX2_remember (wsV RX2 25 RX1 yX1_copyFrom wsX1_copyFrom) := goodIn_app (goodIn_of _ (by decide +kernel)) ggX2_remember_X1_copyFrom
theorem dX2_remember_0 : decode cX2_remember 0 = .ok (.aload_n 0, 1) := by decide +kernel
theorem dX2_remember_1 : decode cX2_remember 1 = .ok (.getfield 18, 3) := by decide +kernel
theorem dX2_remember_4 : decode cX2_remember 4 = .ok (.bipush 14, 2) := by decide +kernel
theorem dX2_remember_6 : decode cX2_remember 6 = .ok (.if_icmp .lt 26, 3) := by decide +kernel
theorem dX2_remember_9 : decode cX2_remember 9 = .ok (.aload_n 0, 1) := by decide +kernel
theorem dX2_remember_10 : decode cX2_remember 10 = .ok (.aload_n 0, 1) := by decide +kernel
theorem dX2_remember_11 : decode cX2_remember 11 = .ok (.getfield 22, 3) := by decide +kernel
theorem dX2_remember_14 : decode cX2_remember 14 = .ok (.iconst 1, 1) := by decide +kernel
theorem dX2_remember_15 : decode cX2_remember 15 = .ok (.iadd, 1) := by decide +kernel
theorem dX2_remember_16 : decode cX2_remember 16 = .ok (.bipush 14, 2) := by decide +kernel
theorem dX2_remember_18 : decode cX2_remember 18 = .ok (.irem, 1) := by decide +kernel
theorem dX2_remember_19 : decode cX2_remember 19 = .ok (.putfield 22, 3) := by decide +kernel
theorem dX2_remember_22 : decode cX2_remember 22 = .ok (.aload_n 0, 1) := by decide +kernel
theorem dX2_remember_23 : decode cX2_remember 23 = .ok (.dup, 1) := by decide +kernel
theorem dX2_remember_24 : decode cX2_remember 24 = .ok (.getfield 18, 3) := by decide +kernel
theorem dX2_remember_27 : decode cX2_remember 27 = .ok (.iconst 1, 1) := by decide +kernel
theorem dX2_remember_28 : decode cX2_remember 28 = .ok (.isub, 1) := by decide +kernel
theorem dX2_remember_29 : decode cX2_remember 29 = .ok (.putfield 18, 3) := by decide +kernel
theorem dX2_remember_32 : decode cX2_remember 32 = .ok (.aload_n 0, 1) := by decide +kernel
theorem dX2_remember_33 : decode cX2_remember 33 = .ok (.getfield 11, 3) := by decide +kernel
theorem dX2_remember_36 : decode cX2_remember 36 = .ok (.aload_n 0, 1) := by decide +kernel
theorem dX2_remember_37 : decode cX2_remember 37 = .ok (.getfield 22, 3) := by decide +kernel
theorem dX2_remember_40 : decode cX2_remember 40 = .ok (.aload_n 0, 1) := by decide +kernel
theorem dX2_remember_41 : decode cX2_remember 41 = .ok (.getfield 18, 3) := by decide +kernel
theorem dX2_remember_44 : decode cX2_remember 44 = .ok (.iadd, 1) := by decide +kernel
theorem dX2_remember_45 : decode cX2_remember 45 = .ok (.bipush 14, 2) := by decide +kernel
theorem dX2_remember_47 : decode cX2_remember 47 = .ok (.irem, 1) := by decide +kernel
theorem dX2_remember_48 : decode cX2_remember 48 = .ok (.aaload, 1) := by decide +kernel
theorem dX2_remember_49 : decode cX2_remember 49 = .ok (.aload_n 1, 1) := by decide +kernel
theorem dX2_remember_50 : decode cX2_remember 50 = .ok (.invokevirtual 25, 3) := by decide +kernel
theorem dX2_remember_53 : decode cX2_remember 53 = .ok (.aload_n 0, 1) := by decide +kernel
theorem dX2_remember_54 : decode cX2_remember 54 = .ok (.dup, 1) := by decide +kernel
theorem dX2_remember_55 : decode cX2_remember 55 = .ok (.getfield 18, 3) := by decide +kernel
theorem dX2_remember_58 : decode cX2_remember 58 = .ok (.iconst 1, 1) := by decide +kernel
theorem dX2_remember_59 : decode cX2_remember 59 = .ok (.iadd, 1) := by decide +kernel
theorem dX2_remember_60 : decode cX2_remember 60 = .ok (.putfield 18, 3) := by decide +kernel
theorem dX2_remember_63 : decode cX2_remember 63 = .ok (.return_, 1) := by decide +kernel
set_option maxRecDepth 20000 in
theorem ggX2_takeBack_X1_copyFrom : GoodIn wsX2_takeBack wsX1_copyFrom := goodIn_r _ [8, 9, 10, 11, 12, 13, 14, 15, 16, 17, 18, 19, 20, 21, 22, 23, 24, 25, 26, 27, 31, 32, 33, 34, 35, 36, 37, 38, 39, 40] (by decide +kernel) (by decide +kernel)
set_option maxRecDepth 20000 in
theorem gX2_takeBack_X1_copyFrom : GoodIn wsX2_takeBack (wsV RX2 25 RX1 yX1_copyFrom wsX1_copyFrom) := goodIn_app (goodIn_of _ (by decide +kernel)) ggX2_takeBack_X1_copyFrom
theorem dX2_takeBack_0 : decode cX2_takeBack 0 = .ok (.aload_n 0, 1) := by decide +kernel
theorem dX2_takeBack_1 : decode cX2_takeBack 1 = .ok (.getfield 18, 3) := by decide +kernel
theorem dX2_takeBack_4 : decode cX2_takeBack 4 = .ok (.ifCond .le 34, 3) := by decide +kernel
theorem dX2_takeBack_7 : decode cX2_takeBack 7 = .ok (.aload_n 0, 1) := by decide +kernel
theorem dX2_takeBack_8 : decode cX2_takeBack 8 = .ok (.dup, 1) := by decide +kernel
theorem dX2_takeBack_9 : decode cX2_takeBack 9 = .ok (.getfield 18, 3) := by decide +kernel
theorem dX2_takeBack_12 : decode cX2_takeBack 12 = .ok (.iconst 1, 1) := by decide +kernel
theorem dX2_takeBack_13 : decode cX2_takeBack 13 = .ok (.isub, 1) := by decide +kernel
theorem dX2_takeBack_14 : decode cX2_takeBack 14 = .ok (.putfield 18, 3) := by decide +kernel
theorem dX2_takeBack_17 : decode cX2_takeBack 17 = .ok (.aload_n 1, 1) := by decide +kernel
theorem dX2_takeBack_18 : decode cX2_takeBack 18 = .ok (.aload_n 0, 1) := by decide +kernel
theorem dX2_takeBack_19 : decode cX2_takeBack 19 = .ok (.getfield 11, 3) := by decide +kernel
theorem dX2_takeBack_22 : decode cX2_takeBack 22 = .ok (.aload_n 0, 1) := by decide +kernel
theorem dX2_takeBack_23 : decode cX2_takeBack 23 = .ok (.getfield 22, 3) := by decide +kernel
theorem dX2_takeBack_26 : decode cX2_takeBack 26 = .ok (.aload_n 0, 1) := by decide +kernel
theorem dX2_takeBack_27 : decode cX2_takeBack 27 = .ok (.getfield 18, 3) := by decide +kernel
theorem dX2_takeBack_30 : decode cX2_takeBack 30 = .ok (.iadd, 1) := by decide +kernel
theorem dX2_takeBack_31 : decode cX2_takeBack 31 = .ok (.bipush 14, 2) := by decide +kernel
theorem dX2_takeBack_33 : decode cX2_takeBack 33 = .ok (.irem, 1) := by decide +kernel
theorem dX2_takeBack_34 : decode cX2_takeBack 34 = .ok (.aaload, 1) := by decide +kernel
theorem dX2_takeBack_35 : decode cX2_takeBack 35 = .ok (.invokevirtual 25, 3) := by decide +kernel
theorem dX2_takeBack_38 : decode cX2_takeBack 38 = .ok (.return_, 1) := by decide +kernel
theorem dX2_forget_0 : decode cX2_forget 0 = .ok (.aload_n 0, 1) := by decide +kernel
theorem dX2_forget_1 : decode cX2_forget 1 = .ok (.iconst 0, 1) := by decide +kernel
theorem dX2_forget_2 : decode cX2_forget 2 = .ok (.putfield 18, 3) := by decide +kernel
theorem dX2_forget_5 : decode cX2_forget 5 = .ok (.return_, 1) := by decide +kernel
