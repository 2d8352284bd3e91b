theorem dX5_init_0 : decode cX5_init 0 = .ok (.aload_n 0, 1) := by decide +kernel
theorem dX5_init_1 : decode cX5_init 1 = .ok (.invokespecial 3, 3) := by decide +kernel
theorem dX5_init_4 : decode cX5_init 4 = .ok (.aload_n 0, 1) := by decide +kernel
theorem dX5_init_5 : decode cX5_init 5 = .ok (.new 9, 3) := by decide +kernel
theorem dX5_init_8 : decode cX5_init 8 = .ok (.dup, 1) := by decide +kernel
theorem dX5_init_9 : decode cX5_init 9 = .ok (.invokespecial 11, 3) := by decide +kernel
theorem dX5_init_12 : decode cX5_init 12 = .ok (.putfield 12, 3) := by decide +kernel
theorem dX5_init_15 : decode cX5_init 15 = .ok (.aload_n 0, 1) := by decide +kernel
theorem dX5_init_16 : decode cX5_init 16 = .ok (.new 16, 3) := by decide +kernel
theorem dX5_init_19 : decode cX5_init 19 = .ok (.dup, 1) := by decide +kernel
theorem dX5_init_20 : decode cX5_init 20 = .ok (.invokespecial 18, 3) := by decide +kernel
theorem dX5_init_23 : decode cX5_init 23 = .ok (.putfield 19, 3) := by decide +kernel
theorem dX5_init_26 : decode cX5_init 26 = .ok (.aload_n 0, 1) := by decide +kernel
theorem dX5_init_27 : decode cX5_init 27 = .ok (.new 16, 3) := by decide +kernel
theorem dX5_init_30 : decode cX5_init 30 = .ok (.dup, 1) := by decide +kernel
theorem dX5_init_31 : decode cX5_init 31 = .ok (.invokespecial 18, 3) := by decide +kernel
theorem dX5_init_34 : decode cX5_init 34 = .ok (.putfield 23, 3) := by decide +kernel
theorem dX5_init_37 : decode cX5_init 37 = .ok (.aload_n 0, 1) := by decide +kernel
theorem dX5_init_38 : decode cX5_init 38 = .ok (.new 26, 3) := by decide +kernel
theorem dX5_init_41 : decode cX5_init 41 = .ok (.dup, 1) := by decide +kernel
theorem dX5_init_42 : decode cX5_init 42 = .ok (.invokespecial 28, 3) := by decide +kernel
theorem dX5_init_45 : decode cX5_init 45 = .ok (.putfield 29, 3) := by decide +kernel
theorem dX5_init_48 : decode cX5_init 48 = .ok (.aload_n 0, 1) := by decide +kernel
theorem dX5_init_49 : decode cX5_init 49 = .ok (.iconst 2, 1) := by decide +kernel
theorem dX5_init_50 : decode cX5_init 50 = .ok (.anewarray 16, 3) := by decide +kernel
theorem dX5_init_53 : decode cX5_init 53 = .ok (.putfield 33, 3) := by decide +kernel
theorem dX5_init_56 : decode cX5_init 56 = .ok (.iconst 0, 1) := by decide +kernel
theorem dX5_init_57 : decode cX5_init 57 = .ok (.istore_n 1, 1) := by decide +kernel
theorem dX5_init_58 : decode cX5_init 58 = .ok (.iload_n 1, 1) := by decide +kernel
theorem dX5_init_59 : decode cX5_init 59 = .ok (.iconst 2, 1) := by decide +kernel
theorem dX5_init_60 : decode cX5_init 60 = .ok (.if_icmp .ge 22, 3) := by decide +kernel
theorem dX5_init_63 : decode cX5_init 63 = .ok (.aload_n 0, 1) := by decide +kernel
theorem dX5_init_64 : decode cX5_init 64 = .ok (.getfield 33, 3) := by decide +kernel
theorem dX5_init_67 : decode cX5_init 67 = .ok (.iload_n 1, 1) := by decide +kernel
theorem dX5_init_68 : decode cX5_init 68 = .ok (.new 16, 3) := by decide +kernel
theorem dX5_init_71 : decode cX5_init 71 = .ok (.dup, 1) := by decide +kernel
theorem dX5_init_72 : decode cX5_init 72 = .ok (.invokespecial 18, 3) := by decide +kernel
theorem dX5_init_75 : decode cX5_init 75 = .ok (.aastore, 1) := by decide +kernel
theorem dX5_init_76 : decode cX5_init 76 = .ok (.iinc 1 1, 3) := by decide +kernel
theorem dX5_init_79 : decode cX5_init 79 = .ok (.goto (-21), 3) := by decide +kernel
theorem dX5_init_82 : decode cX5_init 82 = .ok (.aload_n 0, 1) := by decide +kernel
theorem dX5_init_83 : decode cX5_init 83 = .ok (.iconst 2, 1) := by decide +kernel
theorem dX5_init_84 : decode cX5_init 84 = .ok (.newarray .boolean, 2) := by decide +kernel
theorem dX5_init_86 : decode cX5_init 86 = .ok (.putfield 37, 3) := by decide +kernel
theorem dX5_init_89 : decode cX5_init 89 = .ok (.aload_n 0, 1) := by decide +kernel
theorem dX5_init_90 : decode cX5_init 90 = .ok (.new 41, 3) := by decide +kernel
theorem dX5_init_93 : decode cX5_init 93 = .ok (.dup, 1) := by decide +kernel
theorem dX5_init_94 : decode cX5_init 94 = .ok (.invokespecial 43, 3) := by decide +kernel
theorem dX5_init_97 : decode cX5_init 97 = .ok (.putfield 44, 3) := by decide +kernel
theorem dX5_init_100 : decode cX5_init 100 = .ok (.return_, 1) := by decide +kernel
set_option maxRecDepth 20000 in
theorem ggX5_append_X5_requireRange : GoodIn wsX5_append wsX5_requireRange := goodIn_ca (goodIn_r _ [8, 9, 10] (by decide +kernel) (by decide +kernel)) (goodIn_sub (fun _ h => List.mem_cons_of_mem _ (List.mem_append_right _ h)) (by decide +kernel))
set_option maxRecDepth 20000 in
theorem gX5_append_X5_requireRange : GoodIn wsX5_append (va_wsS RX5 48 yX5_requireRange wsX5_requireRange) := goodIn_app (goodIn_of _ (by decide +kernel)) ggX5_append_X5_requireRange
set_option maxRecDepth 20000 in
theorem ggX5_append_X4_add : GoodIn wsX5_append wsX4_add := goodIn_r _ [15, 16, 17, 25, 26] (by decide +kernel) (by decide +kernel)
set_option maxRecDepth 20000 in
theorem gX5_append_X4_add : GoodIn wsX5_append (wsV RX5 63 RX4 yX4_add wsX4_add) := goodIn_app (goodIn_of _ (by decide +kernel)) ggX5_append_X4_add
theorem dX5_append_0 : decode cX5_append 0 = .ok (.iload_n 1, 1) := by decide +kernel
theorem dX5_append_1 : decode cX5_append 1 = .ok (.iconst 0, 1) := by decide +kernel
theorem dX5_append_2 : decode cX5_append 2 = .ok (.sipush 255, 3) := by decide +kernel
theorem dX5_append_5 : decode cX5_append 5 = .ok (.invokestatic 48, 3) := by decide +kernel
theorem dX5_append_8 : decode cX5_append 8 = .ok (.aload_n 0, 1) := by decide +kernel
theorem dX5_append_9 : decode cX5_append 9 = .ok (.getfield 12, 3) := by decide +kernel
theorem dX5_append_12 : decode cX5_append 12 = .ok (.getfield 52, 3) := by decide +kernel
theorem dX5_append_15 : decode cX5_append 15 = .ok (.bipush 90, 2) := by decide +kernel
theorem dX5_append_17 : decode cX5_append 17 = .ok (.if_icmp .lt 13, 3) := by decide +kernel
theorem dX5_append_20 : decode cX5_append 20 = .ok (.new 56, 3) := by decide +kernel
theorem dX5_append_23 : decode cX5_append 23 = .ok (.dup, 1) := by decide +kernel
theorem dX5_append_24 : decode cX5_append 24 = .ok (.ldc 58, 2) := by decide +kernel
theorem dX5_append_26 : decode cX5_append 26 = .ok (.invokespecial 60, 3) := by decide +kernel
theorem dX5_append_29 : decode cX5_append 29 = .ok (.athrow, 1) := by decide +kernel
theorem dX5_append_30 : decode cX5_append 30 = .ok (.aload_n 0, 1) := by decide +kernel
theorem dX5_append_31 : decode cX5_append 31 = .ok (.getfield 12, 3) := by decide +kernel
theorem dX5_append_34 : decode cX5_append 34 = .ok (.iload_n 1, 1) := by decide +kernel
theorem dX5_append_35 : decode cX5_append 35 = .ok (.i2c, 1) := by decide +kernel
theorem dX5_append_36 : decode cX5_append 36 = .ok (.invokevirtual 63, 3) := by decide +kernel
theorem dX5_append_39 : decode cX5_append 39 = .ok (.aload_n 0, 1) := by decide +kernel
theorem dX5_append_40 : decode cX5_append 40 = .ok (.getfield 12, 3) := by decide +kernel
theorem dX5_append_43 : decode cX5_append 43 = .ok (.getfield 52, 3) := by decide +kernel
theorem dX5_append_46 : decode cX5_append 46 = .ok (.ireturn, 1) := by decide +kernel
theorem dX5_clearText_0 : decode cX5_clearText 0 = .ok (.aload_n 0, 1) := by decide +kernel
theorem dX5_clearText_1 : decode cX5_clearText 1 = .ok (.getfield 12, 3) := by decide +kernel
theorem dX5_clearText_4 : decode cX5_clearText 4 = .ok (.getfield 52, 3) := by decide +kernel
theorem dX5_clearText_7 : decode cX5_clearText 7 = .ok (.istore_n 1, 1) := by decide +kernel
theorem dX5_clearText_8 : decode cX5_clearText 8 = .ok (.aload_n 0, 1) := by decide +kernel
theorem dX5_clearText_9 : decode cX5_clearText 9 = .ok (.getfield 12, 3) := by decide +kernel
theorem dX5_clearText_12 : decode cX5_clearText 12 = .ok (.iconst 0, 1) := by decide +kernel
theorem dX5_clearText_13 : decode cX5_clearText 13 = .ok (.putfield 52, 3) := by decide +kernel
theorem dX5_clearText_16 : decode cX5_clearText 16 = .ok (.iload_n 1, 1) := by decide +kernel
theorem dX5_clearText_17 : decode cX5_clearText 17 = .ok (.ireturn, 1) := by decide +kernel
set_option maxRecDepth 20000 in
theorem ggX5_errorPosition_X4_firstError : GoodIn wsX5_errorPosition wsX4_firstError := goodIn_r _ [6, 7, 8, 9, 10, 11, 5, 12, 13, 14, 15, 16, 24, 25] (by decide +kernel) (by decide +kernel)
set_option maxRecDepth 20000 in
theorem gX5_errorPosition_X4_firstError : GoodIn wsX5_errorPosition (wsV RX5 67 RX4 yX4_firstError wsX4_firstError) := goodIn_app (goodIn_of _ (by decide +kernel)) ggX5_errorPosition_X4_firstError
theorem dX5_errorPosition_0 : decode cX5_errorPosition 0 = .ok (.aload_n 0, 1) := by decide +kernel
theorem dX5_errorPosition_1 : decode cX5_errorPosition 1 = .ok (.getfield 12, 3) := by decide +kernel
theorem dX5_errorPosition_4 : decode cX5_errorPosition 4 = .ok (.invokevirtual 67, 3) := by decide +kernel
theorem dX5_errorPosition_7 : decode cX5_errorPosition 7 = .ok (.ireturn, 1) := by decide +kernel
set_option maxRecDepth 20000 in
theorem ggX5_load_X4_firstError : GoodIn wsX5_load wsX4_firstError := goodIn_r _ [12, 13, 14, 15, 16, 17, 11, 18, 19, 20, 21, 22, 68, 69] (by decide +kernel) (by decide +kernel)
set_option maxRecDepth 20000 in
theorem gX5_load_X4_firstError : GoodIn wsX5_load (wsV RX5 67 RX4 yX4_firstError wsX4_firstError) := goodIn_app (goodIn_of _ (by decide +kernel)) ggX5_load_X4_firstError
set_option maxRecDepth 20000 in
theorem ggX5_load_X4_readInto : GoodIn wsX5_load wsX4_readInto := goodIn_r _ [26, 27, 28, 13, 29, 30, 31, 11, 32, 14, 33, 34, 35, 36, 37, 38, 39, 40, 41, 42, 43, 44, 45, 46, 47, 48, 49, 50, 51, 65, 66, 67, 68, 69, 70, 71, 72, 73, 74, 75, 76] (by decide +kernel) (by decide +kernel)
set_option maxRecDepth 20000 in
theorem gX5_load_X4_readInto : GoodIn wsX5_load (wsV RX5 73 RX4 yX4_readInto wsX4_readInto) := goodIn_app (goodIn_of _ (by decide +kernel)) ggX5_load_X4_readInto
set_option maxRecDepth 20000 in
theorem ggX5_load_X2_forget : GoodIn wsX5_load wsX2_forget := goodIn_r _ [56, 57, 77, 78, 79] (by decide +kernel) (by decide +kernel)
set_option maxRecDepth 20000 in
theorem gX5_load_X2_forget : GoodIn wsX5_load (wsV RX5 77 RX2 yX2_forget wsX2_forget) := goodIn_app (goodIn_of _ (by decide +kernel)) ggX5_load_X2_forget
theorem dX5_load_0 : decode cX5_load 0 = .ok (.aload_n 0, 1) := by decide +kernel
theorem dX5_load_1 : decode cX5_load 1 = .ok (.getfield 12, 3) := by decide +kernel
theorem dX5_load_4 : decode cX5_load 4 = .ok (.invokevirtual 67, 3) := by decide +kernel
theorem dX5_load_7 : decode cX5_load 7 = .ok (.sipush (-9999), 3) := by decide +kernel
theorem dX5_load_10 : decode cX5_load 10 = .ok (.if_icmp .eq 13, 3) := by decide +kernel
theorem dX5_load_13 : decode cX5_load 13 = .ok (.new 56, 3) := by decide +kernel
theorem dX5_load_16 : decode cX5_load 16 = .ok (.dup, 1) := by decide +kernel
theorem dX5_load_17 : decode cX5_load 17 = .ok (.ldc 71, 2) := by decide +kernel
theorem dX5_load_19 : decode cX5_load 19 = .ok (.invokespecial 60, 3) := by decide +kernel
theorem dX5_load_22 : decode cX5_load 22 = .ok (.athrow, 1) := by decide +kernel
theorem dX5_load_23 : decode cX5_load 23 = .ok (.aload_n 0, 1) := by decide +kernel
theorem dX5_load_24 : decode cX5_load 24 = .ok (.getfield 12, 3) := by decide +kernel
theorem dX5_load_27 : decode cX5_load 27 = .ok (.aload_n 0, 1) := by decide +kernel
theorem dX5_load_28 : decode cX5_load 28 = .ok (.getfield 19, 3) := by decide +kernel
theorem dX5_load_31 : decode cX5_load 31 = .ok (.invokevirtual 73, 3) := by decide +kernel
theorem dX5_load_34 : decode cX5_load 34 = .ok (.aload_n 0, 1) := by decide +kernel
theorem dX5_load_35 : decode cX5_load 35 = .ok (.getfield 29, 3) := by decide +kernel
theorem dX5_load_38 : decode cX5_load 38 = .ok (.invokevirtual 77, 3) := by decide +kernel
theorem dX5_load_41 : decode cX5_load 41 = .ok (.iconst 0, 1) := by decide +kernel
theorem dX5_load_42 : decode cX5_load 42 = .ok (.istore_n 1, 1) := by decide +kernel
theorem dX5_load_43 : decode cX5_load 43 = .ok (.iload_n 1, 1) := by decide +kernel
theorem dX5_load_44 : decode cX5_load 44 = .ok (.iconst 2, 1) := by decide +kernel
theorem dX5_load_45 : decode cX5_load 45 = .ok (.if_icmp .ge 16, 3) := by decide +kernel
theorem dX5_load_48 : decode cX5_load 48 = .ok (.aload_n 0, 1) := by decide +kernel
theorem dX5_load_49 : decode cX5_load 49 = .ok (.getfield 37, 3) := by decide +kernel
theorem dX5_load_52 : decode cX5_load 52 = .ok (.iload_n 1, 1) := by decide +kernel
theorem dX5_load_53 : decode cX5_load 53 = .ok (.iconst 0, 1) := by decide +kernel
theorem dX5_load_54 : decode cX5_load 54 = .ok (.bastore, 1) := by decide +kernel
theorem dX5_load_55 : decode cX5_load 55 = .ok (.iinc 1 1, 3) := by decide +kernel
theorem dX5_load_58 : decode cX5_load 58 = .ok (.goto (-15), 3) := by decide +kernel
theorem dX5_load_61 : decode cX5_load 61 = .ok (.aload_n 0, 1) := by decide +kernel
theorem dX5_load_62 : decode cX5_load 62 = .ok (.getfield 19, 3) := by decide +kernel
theorem dX5_load_65 : decode cX5_load 65 = .ok (.getfield 80, 3) := by decide +kernel
theorem dX5_load_68 : decode cX5_load 68 = .ok (.ireturn, 1) := by decide +kernel
set_option maxRecDepth 20000 in
theorem ggX5_about_X1_countPairs : GoodIn wsX5_about wsX1_countPairs := goodIn_r _ [10, 11, 12, 13, 14, 9, 15, 16, 17, 18, 19, 20, 21, 81, 82, 83, 84, 85, 86, 87, 88, 89, 90] (by decide +kernel) (by decide +kernel)
set_option maxRecDepth 20000 in
theorem gX5_about_X1_countPairs : GoodIn wsX5_about (wsV RX5 83 RX1 yX1_countPairs wsX1_countPairs) := goodIn_app (goodIn_of _ (by decide +kernel)) ggX5_about_X1_countPairs
set_option maxRecDepth 20000 in
theorem ggX5_about_X1_sumOfValues : GoodIn wsX5_about wsX1_sumOfValues := goodIn_r _ [25, 11, 12, 13, 14, 9, 15, 16, 17, 18, 19, 20, 21, 26, 27, 28, 29, 30, 31, 32, 33, 34, 35, 36, 37, 38, 39, 40, 41, 42, 43, 44, 45, 81, 82, 83, 84, 85, 86, 87, 88, 89, 90] (by decide +kernel) (by decide +kernel)
set_option maxRecDepth 20000 in
theorem gX5_about_X1_sumOfValues : GoodIn wsX5_about (wsV RX5 89 RX1 yX1_sumOfValues wsX1_sumOfValues) := goodIn_app (goodIn_of _ (by decide +kernel)) ggX5_about_X1_sumOfValues
set_option maxRecDepth 20000 in
theorem ggX5_about_X1_countBlocking : GoodIn wsX5_about wsX1_countBlocking := goodIn_r _ [49, 11, 50, 51, 52, 9, 53, 16, 17, 54, 55, 56, 57, 36, 37, 38, 39, 40, 41, 58, 59, 60, 61, 18, 19, 20, 21, 30, 31, 32, 33, 34, 35, 42, 43, 44, 45, 81, 82, 83, 84, 85, 86, 87, 88, 89, 90] (by decide +kernel) (by decide +kernel)
set_option maxRecDepth 20000 in
theorem gX5_about_X1_countBlocking : GoodIn wsX5_about (wsV RX5 92 RX1 yX1_countBlocking wsX1_countBlocking) := goodIn_app (goodIn_of _ (by decide +kernel)) ggX5_about_X1_countBlocking
set_option maxRecDepth 20000 in
theorem ggX5_about_X1_sumOfCredits : GoodIn wsX5_about wsX1_sumOfCredits := goodIn_r _ [65, 11, 16, 35, 81, 82, 83, 84, 85, 86, 87, 88, 89, 90] (by decide +kernel) (by decide +kernel)
set_option maxRecDepth 20000 in
theorem gX5_about_X1_sumOfCredits : GoodIn wsX5_about (wsV RX5 95 RX1 yX1_sumOfCredits wsX1_sumOfCredits) := goodIn_app (goodIn_of _ (by decide +kernel)) ggX5_about_X1_sumOfCredits
set_option maxRecDepth 20000 in
theorem ggX5_about_X1_countFitting : GoodIn wsX5_about wsX1_countFitting := goodIn_r _ [69, 11, 70, 71, 72, 9, 73, 54, 55, 56, 57, 36, 37, 38, 39, 16, 40, 41, 81, 82, 83, 84, 85, 86, 87, 88, 89, 90] (by decide +kernel) (by decide +kernel)
set_option maxRecDepth 20000 in
theorem gX5_about_X1_countFitting : GoodIn wsX5_about (wsV RX5 98 RX1 yX1_countFitting wsX1_countFitting) := goodIn_app (goodIn_of _ (by decide +kernel)) ggX5_about_X1_countFitting
theorem dX5_about_0 : decode cX5_about 0 = .ok (.iload_n 1, 1) := by decide +kernel
theorem dX5_about_1 : decode cX5_about 1 = .ok (.tableswitch 99 0 6 #[43, 51, 59, 67, 75, 83, 91], 43) := by decide +kernel
theorem dX5_about_44 : decode cX5_about 44 = .ok (.aload_n 0, 1) := by decide +kernel
theorem dX5_about_45 : decode cX5_about 45 = .ok (.getfield 19, 3) := by decide +kernel
theorem dX5_about_48 : decode cX5_about 48 = .ok (.getfield 80, 3) := by decide +kernel
theorem dX5_about_51 : decode cX5_about 51 = .ok (.ireturn, 1) := by decide +kernel
theorem dX5_about_52 : decode cX5_about 52 = .ok (.aload_n 0, 1) := by decide +kernel
theorem dX5_about_53 : decode cX5_about 53 = .ok (.getfield 19, 3) := by decide +kernel
theorem dX5_about_56 : decode cX5_about 56 = .ok (.invokevirtual 83, 3) := by decide +kernel
theorem dX5_about_59 : decode cX5_about 59 = .ok (.ireturn, 1) := by decide +kernel
theorem dX5_about_60 : decode cX5_about 60 = .ok (.aload_n 0, 1) := by decide +kernel
theorem dX5_about_61 : decode cX5_about 61 = .ok (.getfield 19, 3) := by decide +kernel
theorem dX5_about_64 : decode cX5_about 64 = .ok (.getfield 86, 3) := by decide +kernel
theorem dX5_about_67 : decode cX5_about 67 = .ok (.ireturn, 1) := by decide +kernel
theorem dX5_about_68 : decode cX5_about 68 = .ok (.aload_n 0, 1) := by decide +kernel
theorem dX5_about_69 : decode cX5_about 69 = .ok (.getfield 19, 3) := by decide +kernel
theorem dX5_about_72 : decode cX5_about 72 = .ok (.invokevirtual 89, 3) := by decide +kernel
theorem dX5_about_75 : decode cX5_about 75 = .ok (.ireturn, 1) := by decide +kernel
theorem dX5_about_76 : decode cX5_about 76 = .ok (.aload_n 0, 1) := by decide +kernel
theorem dX5_about_77 : decode cX5_about 77 = .ok (.getfield 19, 3) := by decide +kernel
theorem dX5_about_80 : decode cX5_about 80 = .ok (.invokevirtual 92, 3) := by decide +kernel
theorem dX5_about_83 : decode cX5_about 83 = .ok (.ireturn, 1) := by decide +kernel
theorem dX5_about_84 : decode cX5_about 84 = .ok (.aload_n 0, 1) := by decide +kernel
theorem dX5_about_85 : decode cX5_about 85 = .ok (.getfield 19, 3) := by decide +kernel
theorem dX5_about_88 : decode cX5_about 88 = .ok (.invokevirtual 95, 3) := by decide +kernel
theorem dX5_about_91 : decode cX5_about 91 = .ok (.ireturn, 1) := by decide +kernel
theorem dX5_about_92 : decode cX5_about 92 = .ok (.aload_n 0, 1) := by decide +kernel
theorem dX5_about_93 : decode cX5_about 93 = .ok (.getfield 19, 3) := by decide +kernel
theorem dX5_about_96 : decode cX5_about 96 = .ok (.invokevirtual 98, 3) := by decide +kernel
theorem dX5_about_99 : decode cX5_about 99 = .ok (.ireturn, 1) := by decide +kernel
theorem dX5_about_100 : decode cX5_about 100 = .ok (.new 101, 3) := by decide +kernel
theorem dX5_about_103 : decode cX5_about 103 = .ok (.dup, 1) := by decide +kernel
theorem dX5_about_104 : decode cX5_about 104 = .ok (.ldc 103, 2) := by decide +kernel
theorem dX5_about_106 : decode cX5_about 106 = .ok (.invokespecial 105, 3) := by decide +kernel
theorem dX5_about_109 : decode cX5_about 109 = .ok (.athrow, 1) := by decide +kernel
set_option maxRecDepth 20000 in
theorem ggX5_member_X5_requireMember : GoodIn wsX5_member wsX5_requireMember := goodIn_ca (goodIn_r _ [6, 7, 8, 1, 9, 10, 11, 12, 13, 14, 48, 49, 50, 51, 52, 53, 54, 55, 56, 57] (by decide +kernel) (by decide +kernel)) (goodIn_sub (fun _ h => List.mem_cons_of_mem _ (List.mem_append_left _ (List.mem_append_right _ h))) (by decide +kernel))
set_option maxRecDepth 20000 in
theorem gX5_member_X5_requireMember : GoodIn wsX5_member (wsV RX5 106 RX5 yX5_requireMember wsX5_requireMember) := goodIn_app (goodIn_of _ (by decide +kernel)) ggX5_member_X5_requireMember
set_option maxRecDepth 20000 in
theorem ggX5_member_X5_requireRange : GoodIn wsX5_member wsX5_requireRange := goodIn_ca (goodIn_r _ [17, 18, 19] (by decide +kernel) (by decide +kernel)) (goodIn_sub (fun _ h => List.mem_cons_of_mem _ (List.mem_append_right _ h)) (by decide +kernel))
set_option maxRecDepth 20000 in
theorem gX5_member_X5_requireRange : GoodIn wsX5_member (va_wsS RX5 48 yX5_requireRange wsX5_requireRange) := goodIn_app (goodIn_of _ (by decide +kernel)) ggX5_member_X5_requireRange
set_option maxRecDepth 20000 in
theorem ggX5_member_X1_numberOf : GoodIn wsX5_member wsX1_numberOf := goodIn_r _ [23, 24, 25, 26, 27, 28, 29, 30, 31, 32, 33, 34, 12, 35, 36, 37, 38, 39, 14, 40, 41, 42, 43, 44, 45, 46, 47, 55, 56, 57, 58, 59, 60, 61, 62, 63, 64] (by decide +kernel) (by decide +kernel)
set_option maxRecDepth 20000 in
theorem gX5_member_X1_numberOf : GoodIn wsX5_member (wsV RX5 110 RX1 yX1_numberOf wsX1_numberOf) := goodIn_app (goodIn_of _ (by decide +kernel)) ggX5_member_X1_numberOf
theorem dX5_member_0 : decode cX5_member 0 = .ok (.aload_n 0, 1) := by decide +kernel
theorem dX5_member_1 : decode cX5_member 1 = .ok (.iload_n 1, 1) := by decide +kernel
theorem dX5_member_2 : decode cX5_member 2 = .ok (.invokevirtual 106, 3) := by decide +kernel
theorem dX5_member_5 : decode cX5_member 5 = .ok (.iload_n 2, 1) := by decide +kernel
theorem dX5_member_6 : decode cX5_member 6 = .ok (.iconst 0, 1) := by decide +kernel
theorem dX5_member_7 : decode cX5_member 7 = .ok (.bipush 10, 2) := by decide +kernel
theorem dX5_member_9 : decode cX5_member 9 = .ok (.invokestatic 48, 3) := by decide +kernel
theorem dX5_member_12 : decode cX5_member 12 = .ok (.aload_n 0, 1) := by decide +kernel
theorem dX5_member_13 : decode cX5_member 13 = .ok (.getfield 19, 3) := by decide +kernel
theorem dX5_member_16 : decode cX5_member 16 = .ok (.iload_n 1, 1) := by decide +kernel
theorem dX5_member_17 : decode cX5_member 17 = .ok (.iload_n 2, 1) := by decide +kernel
theorem dX5_member_18 : decode cX5_member 18 = .ok (.invokevirtual 110, 3) := by decide +kernel
theorem dX5_member_21 : decode cX5_member 21 = .ok (.ireturn, 1) := by decide +kernel
set_option maxRecDepth 20000 in
theorem ggX5_both_X5_requireTwoMembers : GoodIn wsX5_both wsX5_requireTwoMembers := goodIn_ca (goodIn_ca (goodIn_r _ [8, 1, 2, 9, 10, 11, 7, 12, 13, 14, 3, 15, 16, 17, 18, 19, 20, 58, 59, 60, 61, 62, 63, 64, 65, 66, 67] (by decide +kernel) (by decide +kernel)) (goodIn_sub (fun _ h => List.mem_cons_of_mem _ (List.mem_append_left _ (List.mem_append_right _ h))) (by decide +kernel))) (goodIn_sub (fun _ h => List.mem_cons_of_mem _ (List.mem_append_right _ h)) (by decide +kernel))
set_option maxRecDepth 20000 in
theorem gX5_both_X5_requireTwoMembers : GoodIn wsX5_both (wsV RX5 114 RX5 yX5_requireTwoMembers wsX5_requireTwoMembers) := goodIn_app (goodIn_of _ (by decide +kernel)) ggX5_both_X5_requireTwoMembers
set_option maxRecDepth 20000 in
theorem ggX5_both_X1_score : GoodIn wsX5_both wsX1_score := goodIn_r _ [24, 25, 26, 27, 28, 29, 30, 18, 31, 32, 33, 34, 35, 36, 37, 65, 66, 67, 68, 69, 70, 71, 72, 73, 74] (by decide +kernel) (by decide +kernel)
set_option maxRecDepth 20000 in
theorem gX5_both_X1_score : GoodIn wsX5_both (wsV RX5 118 RX1 yX1_score wsX1_score) := goodIn_app (goodIn_of _ (by decide +kernel)) ggX5_both_X1_score
set_option maxRecDepth 20000 in
theorem ggX5_both_X1_value : GoodIn wsX5_both wsX1_value := goodIn_r _ [41, 42, 22, 23, 18, 24, 25, 26, 27, 28, 29, 30, 31, 32, 33, 34, 35, 36, 37, 65, 66, 67, 68, 69, 70, 71, 72, 73, 74] (by decide +kernel) (by decide +kernel)
set_option maxRecDepth 20000 in
theorem gX5_both_X1_value : GoodIn wsX5_both (wsV RX5 121 RX1 yX1_value wsX1_value) := goodIn_app (goodIn_of _ (by decide +kernel)) ggX5_both_X1_value
set_option maxRecDepth 20000 in
theorem ggX5_both_X1_fit : GoodIn wsX5_both wsX1_fit := goodIn_r _ [46, 28, 29, 30, 18, 31, 25, 32, 33, 65, 66, 67, 68, 69, 70, 71, 72, 73, 74] (by decide +kernel) (by decide +kernel)
set_option maxRecDepth 20000 in
theorem gX5_both_X1_fit : GoodIn wsX5_both (wsV RX5 124 RX1 yX1_fit wsX1_fit) := goodIn_app (goodIn_of _ (by decide +kernel)) ggX5_both_X1_fit
set_option maxRecDepth 20000 in
theorem ggX5_both_X1_block : GoodIn wsX5_both wsX1_block := goodIn_r _ [50, 25, 51, 52, 44, 45, 18, 46, 28, 29, 30, 31, 32, 33, 53, 54, 55, 56, 57, 16, 17, 19, 20, 42, 22, 23, 24, 26, 27, 34, 35, 36, 37, 65, 66, 67, 68, 69, 70, 71, 72, 73, 74] (by decide +kernel) (by decide +kernel)
set_option maxRecDepth 20000 in
theorem gX5_both_X1_block : GoodIn wsX5_both (wsV RX5 128 RX1 yX1_block wsX1_block) := goodIn_app (goodIn_of _ (by decide +kernel)) ggX5_both_X1_block
theorem dX5_both_0 : decode cX5_both 0 = .ok (.aload_n 0, 1) := by decide +kernel
theorem dX5_both_1 : decode cX5_both 1 = .ok (.iload_n 1, 1) := by decide +kernel
theorem dX5_both_2 : decode cX5_both 2 = .ok (.iload_n 2, 1) := by decide +kernel
theorem dX5_both_3 : decode cX5_both 3 = .ok (.invokevirtual 114, 3) := by decide +kernel
theorem dX5_both_6 : decode cX5_both 6 = .ok (.iload_n 3, 1) := by decide +kernel
theorem dX5_both_7 : decode cX5_both 7 = .ok (.tableswitch 85 0 3 #[29, 39, 49, 67], 29) := by decide +kernel
theorem dX5_both_36 : decode cX5_both 36 = .ok (.aload_n 0, 1) := by decide +kernel
theorem dX5_both_37 : decode cX5_both 37 = .ok (.getfield 19, 3) := by decide +kernel
theorem dX5_both_40 : decode cX5_both 40 = .ok (.iload_n 1, 1) := by decide +kernel
theorem dX5_both_41 : decode cX5_both 41 = .ok (.iload_n 2, 1) := by decide +kernel
theorem dX5_both_42 : decode cX5_both 42 = .ok (.invokevirtual 118, 3) := by decide +kernel
theorem dX5_both_45 : decode cX5_both 45 = .ok (.ireturn, 1) := by decide +kernel
theorem dX5_both_46 : decode cX5_both 46 = .ok (.aload_n 0, 1) := by decide +kernel
theorem dX5_both_47 : decode cX5_both 47 = .ok (.getfield 19, 3) := by decide +kernel
theorem dX5_both_50 : decode cX5_both 50 = .ok (.iload_n 1, 1) := by decide +kernel
theorem dX5_both_51 : decode cX5_both 51 = .ok (.iload_n 2, 1) := by decide +kernel
theorem dX5_both_52 : decode cX5_both 52 = .ok (.invokevirtual 121, 3) := by decide +kernel
theorem dX5_both_55 : decode cX5_both 55 = .ok (.ireturn, 1) := by decide +kernel
theorem dX5_both_56 : decode cX5_both 56 = .ok (.aload_n 0, 1) := by decide +kernel
theorem dX5_both_57 : decode cX5_both 57 = .ok (.getfield 19, 3) := by decide +kernel
theorem dX5_both_60 : decode cX5_both 60 = .ok (.iload_n 1, 1) := by decide +kernel
theorem dX5_both_61 : decode cX5_both 61 = .ok (.iload_n 2, 1) := by decide +kernel
theorem dX5_both_62 : decode cX5_both 62 = .ok (.invokevirtual 124, 3) := by decide +kernel
theorem dX5_both_65 : decode cX5_both 65 = .ok (.ifCond .eq 7, 3) := by decide +kernel
theorem dX5_both_68 : decode cX5_both 68 = .ok (.iconst 1, 1) := by decide +kernel
theorem dX5_both_69 : decode cX5_both 69 = .ok (.goto 4, 3) := by decide +kernel
theorem dX5_both_72 : decode cX5_both 72 = .ok (.iconst 0, 1) := by decide +kernel
theorem dX5_both_73 : decode cX5_both 73 = .ok (.ireturn, 1) := by decide +kernel
theorem dX5_both_74 : decode cX5_both 74 = .ok (.aload_n 0, 1) := by decide +kernel
theorem dX5_both_75 : decode cX5_both 75 = .ok (.getfield 19, 3) := by decide +kernel
theorem dX5_both_78 : decode cX5_both 78 = .ok (.iload_n 1, 1) := by decide +kernel
theorem dX5_both_79 : decode cX5_both 79 = .ok (.iload_n 2, 1) := by decide +kernel
theorem dX5_both_80 : decode cX5_both 80 = .ok (.invokevirtual 128, 3) := by decide +kernel
theorem dX5_both_83 : decode cX5_both 83 = .ok (.ifCond .eq 7, 3) := by decide +kernel
theorem dX5_both_86 : decode cX5_both 86 = .ok (.iconst 1, 1) := by decide +kernel
theorem dX5_both_87 : decode cX5_both 87 = .ok (.goto 4, 3) := by decide +kernel
theorem dX5_both_90 : decode cX5_both 90 = .ok (.iconst 0, 1) := by decide +kernel
theorem dX5_both_91 : decode cX5_both 91 = .ok (.ireturn, 1) := by decide +kernel
theorem dX5_both_92 : decode cX5_both 92 = .ok (.new 101, 3) := by decide +kernel
theorem dX5_both_95 : decode cX5_both 95 = .ok (.dup, 1) := by decide +kernel
theorem dX5_both_96 : decode cX5_both 96 = .ok (.ldc 131, 2) := by decide +kernel
theorem dX5_both_98 : decode cX5_both 98 = .ok (.invokespecial 105, 3) := by decide +kernel
theorem dX5_both_101 : decode cX5_both 101 = .ok (.athrow, 1) := by decide +kernel
set_option maxRecDepth 20000 in
theorem ggX5_join_X5_requireLanguage : GoodIn wsX5_join wsX5_requireLanguage := goodIn_ca (goodIn_r _ [9, 10, 11, 8, 12, 13, 14] (by decide +kernel) (by decide +kernel)) (goodIn_sub (fun _ h => List.mem_cons_of_mem _ (List.mem_append_right _ h)) (by decide +kernel))
set_option maxRecDepth 20000 in
theorem gX5_join_X5_requireLanguage : GoodIn wsX5_join (va_wsS RX5 133 yX5_requireLanguage wsX5_requireLanguage) := goodIn_app (goodIn_of _ (by decide +kernel)) ggX5_join_X5_requireLanguage
set_option maxRecDepth 20000 in
theorem ggX5_join_X5_requireRange : GoodIn wsX5_join wsX5_requireRange := goodIn_ca (goodIn_r _ [12, 13, 14] (by decide +kernel) (by decide +kernel)) (goodIn_sub (fun _ h => List.mem_cons_of_mem _ (List.mem_append_right _ h)) (by decide +kernel))
set_option maxRecDepth 20000 in
theorem gX5_join_X5_requireRange : GoodIn wsX5_join (va_wsS RX5 48 yX5_requireRange wsX5_requireRange) := goodIn_app (goodIn_of _ (by decide +kernel)) ggX5_join_X5_requireRange
set_option maxRecDepth 20000 in
theorem ggX5_join_X2_remember : GoodIn wsX5_join wsX2_remember := goodIn_r _ [19, 20, 21, 22, 23, 24, 25, 26, 27, 28, 29, 30, 31, 32, 33, 34, 35, 36, 37, 38, 39, 40, 41, 42, 43, 44, 45, 46, 65, 66, 67, 62, 63, 64, 68, 69, 70, 71, 72, 73, 74] (by decide +kernel) (by decide +kernel)
set_option maxRecDepth 20000 in
theorem gX5_join_X2_remember : GoodIn wsX5_join (wsV RX5 138 RX2 yX2_remember wsX2_remember) := goodIn_app (goodIn_of _ (by decide +kernel)) ggX5_join_X2_remember
set_option maxRecDepth 20000 in
theorem ggX5_join_X1_add : GoodIn wsX5_join wsX1_add := goodIn_r _ [50, 28, 29, 51, 52, 53, 34, 54, 36, 41, 42, 43, 44, 45, 46, 62, 63, 64, 68, 69, 70, 71, 72, 73, 74] (by decide +kernel) (by decide +kernel)
set_option maxRecDepth 20000 in
theorem gX5_join_X1_add : GoodIn wsX5_join (wsV RX5 141 RX1 yX1_add wsX1_add) := goodIn_app (goodIn_of _ (by decide +kernel)) ggX5_join_X1_add
theorem dX5_join_0 : decode cX5_join 0 = .ok (.iload_n 1, 1) := by decide +kernel
theorem dX5_join_1 : decode cX5_join 1 = .ok (.invokestatic 133, 3) := by decide +kernel
theorem dX5_join_4 : decode cX5_join 4 = .ok (.iload_n 2, 1) := by decide +kernel
theorem dX5_join_5 : decode cX5_join 5 = .ok (.iconst 0, 1) := by decide +kernel
theorem dX5_join_6 : decode cX5_join 6 = .ok (.sipush 9999, 3) := by decide +kernel
theorem dX5_join_9 : decode cX5_join 9 = .ok (.invokestatic 48, 3) := by decide +kernel
theorem dX5_join_12 : decode cX5_join 12 = .ok (.iload_n 3, 1) := by decide +kernel
theorem dX5_join_13 : decode cX5_join 13 = .ok (.bipush (-99), 2) := by decide +kernel
theorem dX5_join_15 : decode cX5_join 15 = .ok (.bipush 99, 2) := by decide +kernel
theorem dX5_join_17 : decode cX5_join 17 = .ok (.invokestatic 48, 3) := by decide +kernel
theorem dX5_join_20 : decode cX5_join 20 = .ok (.aload_n 0, 1) := by decide +kernel
theorem dX5_join_21 : decode cX5_join 21 = .ok (.getfield 19, 3) := by decide +kernel
theorem dX5_join_24 : decode cX5_join 24 = .ok (.getfield 80, 3) := by decide +kernel
theorem dX5_join_27 : decode cX5_join 27 = .ok (.bipush 9, 2) := by decide +kernel
theorem dX5_join_29 : decode cX5_join 29 = .ok (.if_icmp .lt 13, 3) := by decide +kernel
theorem dX5_join_32 : decode cX5_join 32 = .ok (.new 56, 3) := by decide +kernel
theorem dX5_join_35 : decode cX5_join 35 = .ok (.dup, 1) := by decide +kernel
theorem dX5_join_36 : decode cX5_join 36 = .ok (.ldc 136, 2) := by decide +kernel
theorem dX5_join_38 : decode cX5_join 38 = .ok (.invokespecial 60, 3) := by decide +kernel
theorem dX5_join_41 : decode cX5_join 41 = .ok (.athrow, 1) := by decide +kernel
theorem dX5_join_42 : decode cX5_join 42 = .ok (.aload_n 0, 1) := by decide +kernel
theorem dX5_join_43 : decode cX5_join 43 = .ok (.getfield 29, 3) := by decide +kernel
theorem dX5_join_46 : decode cX5_join 46 = .ok (.aload_n 0, 1) := by decide +kernel
theorem dX5_join_47 : decode cX5_join 47 = .ok (.getfield 19, 3) := by decide +kernel
theorem dX5_join_50 : decode cX5_join 50 = .ok (.invokevirtual 138, 3) := by decide +kernel
theorem dX5_join_53 : decode cX5_join 53 = .ok (.aload_n 0, 1) := by decide +kernel
theorem dX5_join_54 : decode cX5_join 54 = .ok (.getfield 19, 3) := by decide +kernel
theorem dX5_join_57 : decode cX5_join 57 = .ok (.iload_n 1, 1) := by decide +kernel
theorem dX5_join_58 : decode cX5_join 58 = .ok (.iload_n 2, 1) := by decide +kernel
theorem dX5_join_59 : decode cX5_join 59 = .ok (.iload_n 3, 1) := by decide +kernel
theorem dX5_join_60 : decode cX5_join 60 = .ok (.invokevirtual 141, 3) := by decide +kernel
theorem dX5_join_63 : decode cX5_join 63 = .ok (.aload_n 0, 1) := by decide +kernel
theorem dX5_join_64 : decode cX5_join 64 = .ok (.getfield 19, 3) := by decide +kernel
theorem dX5_join_67 : decode cX5_join 67 = .ok (.getfield 80, 3) := by decide +kernel
theorem dX5_join_70 : decode cX5_join 70 = .ok (.iconst 1, 1) := by decide +kernel
theorem dX5_join_71 : decode cX5_join 71 = .ok (.isub, 1) := by decide +kernel
theorem dX5_join_72 : decode cX5_join 72 = .ok (.ireturn, 1) := by decide +kernel
set_option maxRecDepth 20000 in
theorem ggX5_leave_X5_requireMember : GoodIn wsX5_leave wsX5_requireMember := goodIn_ca (goodIn_r _ [9, 10, 11, 2, 12, 13, 14, 15, 16, 17, 58, 59, 60, 61, 62, 63, 64, 65, 66, 67] (by decide +kernel) (by decide +kernel)) (goodIn_sub (fun _ h => List.mem_cons_of_mem _ (List.mem_append_right _ h)) (by decide +kernel))
set_option maxRecDepth 20000 in
theorem gX5_leave_X5_requireMember : GoodIn wsX5_leave (wsV RX5 106 RX5 yX5_requireMember wsX5_requireMember) := goodIn_app (goodIn_of _ (by decide +kernel)) ggX5_leave_X5_requireMember
set_option maxRecDepth 20000 in
theorem ggX5_leave_X2_remember : GoodIn wsX5_leave wsX2_remember := goodIn_r _ [22, 23, 24, 25, 26, 27, 28, 15, 29, 17, 30, 31, 32, 33, 34, 35, 36, 37, 38, 39, 40, 41, 42, 43, 44, 45, 46, 47, 75, 76, 77, 65, 66, 67, 68, 69, 70, 71, 72, 73, 74] (by decide +kernel) (by decide +kernel)
set_option maxRecDepth 20000 in
theorem gX5_leave_X2_remember : GoodIn wsX5_leave (wsV RX5 138 RX2 yX2_remember wsX2_remember) := goodIn_app (goodIn_of _ (by decide +kernel)) ggX5_leave_X2_remember
set_option maxRecDepth 20000 in
theorem ggX5_leave_X1_remove : GoodIn wsX5_leave wsX1_remove := goodIn_r _ [51, 17, 30, 52, 53, 54, 55, 15, 56, 57, 13, 14, 16, 32, 33, 34, 35, 36, 37, 38, 39, 40, 41, 42, 43, 44, 45, 46, 47, 65, 66, 67, 68, 69, 70, 71, 72, 73, 74] (by decide +kernel) (by decide +kernel)
set_option maxRecDepth 20000 in
theorem gX5_leave_X1_remove : GoodIn wsX5_leave (wsV RX5 152 RX1 yX1_remove wsX1_remove) := goodIn_app (goodIn_of _ (by decide +kernel)) ggX5_leave_X1_remove
theorem dX5_leave_0 : decode cX5_leave 0 = .ok (.aload_n 0, 1) := by decide +kernel
theorem dX5_leave_1 : decode cX5_leave 1 = .ok (.iload_n 1, 1) := by decide +kernel
theorem dX5_leave_2 : decode cX5_leave 2 = .ok (.invokevirtual 106, 3) := by decide +kernel
theorem dX5_leave_5 : decode cX5_leave 5 = .ok (.aload_n 0, 1) := by decide +kernel
theorem dX5_leave_6 : decode cX5_leave 6 = .ok (.getfield 29, 3) := by decide +kernel
theorem dX5_leave_9 : decode cX5_leave 9 = .ok (.aload_n 0, 1) := by decide +kernel
theorem dX5_leave_10 : decode cX5_leave 10 = .ok (.getfield 19, 3) := by decide +kernel
theorem dX5_leave_13 : decode cX5_leave 13 = .ok (.invokevirtual 138, 3) := by decide +kernel
theorem dX5_leave_16 : decode cX5_leave 16 = .ok (.aload_n 0, 1) := by decide +kernel
theorem dX5_leave_17 : decode cX5_leave 17 = .ok (.getfield 19, 3) := by decide +kernel
theorem dX5_leave_20 : decode cX5_leave 20 = .ok (.getfield 143, 3) := by decide +kernel
theorem dX5_leave_23 : decode cX5_leave 23 = .ok (.iload_n 1, 1) := by decide +kernel
theorem dX5_leave_24 : decode cX5_leave 24 = .ok (.aaload, 1) := by decide +kernel
theorem dX5_leave_25 : decode cX5_leave 25 = .ok (.getfield 147, 3) := by decide +kernel
theorem dX5_leave_28 : decode cX5_leave 28 = .ok (.istore_n 2, 1) := by decide +kernel
theorem dX5_leave_29 : decode cX5_leave 29 = .ok (.aload_n 0, 1) := by decide +kernel
theorem dX5_leave_30 : decode cX5_leave 30 = .ok (.getfield 19, 3) := by decide +kernel
theorem dX5_leave_33 : decode cX5_leave 33 = .ok (.iload_n 1, 1) := by decide +kernel
theorem dX5_leave_34 : decode cX5_leave 34 = .ok (.invokevirtual 152, 3) := by decide +kernel
theorem dX5_leave_37 : decode cX5_leave 37 = .ok (.iload_n 2, 1) := by decide +kernel
theorem dX5_leave_38 : decode cX5_leave 38 = .ok (.ireturn, 1) := by decide +kernel
set_option maxRecDepth 20000 in
theorem ggX5_want_X5_requireMember : GoodIn wsX5_want wsX5_requireMember := goodIn_ca (goodIn_r _ [9, 10, 11, 2, 12, 13, 14, 15, 16, 17, 81, 82, 83, 84, 85, 86, 87, 88, 89, 90] (by decide +kernel) (by decide +kernel)) (goodIn_sub (fun _ h => List.mem_cons_of_mem _ (List.mem_append_left _ (List.mem_append_right _ h))) (by decide +kernel))
set_option maxRecDepth 20000 in
theorem gX5_want_X5_requireMember : GoodIn wsX5_want (wsV RX5 106 RX5 yX5_requireMember wsX5_requireMember) := goodIn_app (goodIn_of _ (by decide +kernel)) ggX5_want_X5_requireMember
set_option maxRecDepth 20000 in
theorem ggX5_want_X5_requireLanguage : GoodIn wsX5_want wsX5_requireLanguage := goodIn_ca (goodIn_r _ [20, 21, 22, 8, 23, 24, 25] (by decide +kernel) (by decide +kernel)) (goodIn_sub (fun _ h => List.mem_cons_of_mem _ (List.mem_append_right _ h)) (by decide +kernel))
set_option maxRecDepth 20000 in
theorem gX5_want_X5_requireLanguage : GoodIn wsX5_want (va_wsS RX5 133 yX5_requireLanguage wsX5_requireLanguage) := goodIn_app (goodIn_of _ (by decide +kernel)) ggX5_want_X5_requireLanguage
set_option maxRecDepth 20000 in
theorem ggX5_want_X2_remember : GoodIn wsX5_want wsX2_remember := goodIn_r _ [30, 31, 32, 33, 34, 35, 36, 15, 37, 17, 38, 39, 40, 41, 42, 43, 44, 45, 46, 47, 48, 49, 50, 51, 52, 53, 54, 55, 98, 99, 100, 88, 89, 90, 91, 92, 93, 94, 95, 96, 97] (by decide +kernel) (by decide +kernel)
set_option maxRecDepth 20000 in
theorem gX5_want_X2_remember : GoodIn wsX5_want (wsV RX5 138 RX2 yX2_remember wsX2_remember) := goodIn_app (goodIn_of _ (by decide +kernel)) ggX5_want_X2_remember
set_option maxRecDepth 20000 in
theorem ggX5_want_X1_changeWish : GoodIn wsX5_want wsX1_changeWish := goodIn_r _ [59, 38, 60, 61, 62, 63, 64, 15, 65, 66, 67, 13, 14, 16, 17, 68, 69, 70, 71, 72, 73, 74, 75, 76, 77, 78, 79, 80, 88, 89, 90, 91, 92, 93, 94, 95, 96, 97] (by decide +kernel) (by decide +kernel)
set_option maxRecDepth 20000 in
theorem gX5_want_X1_changeWish : GoodIn wsX5_want (wsV RX5 158 RX1 yX1_changeWish wsX1_changeWish) := goodIn_app (goodIn_of _ (by decide +kernel)) ggX5_want_X1_changeWish
theorem dX5_want_0 : decode cX5_want 0 = .ok (.aload_n 0, 1) := by decide +kernel
theorem dX5_want_1 : decode cX5_want 1 = .ok (.iload_n 1, 1) := by decide +kernel
theorem dX5_want_2 : decode cX5_want 2 = .ok (.invokevirtual 106, 3) := by decide +kernel
theorem dX5_want_5 : decode cX5_want 5 = .ok (.iload_n 2, 1) := by decide +kernel
theorem dX5_want_6 : decode cX5_want 6 = .ok (.invokestatic 133, 3) := by decide +kernel
theorem dX5_want_9 : decode cX5_want 9 = .ok (.aload_n 0, 1) := by decide +kernel
theorem dX5_want_10 : decode cX5_want 10 = .ok (.getfield 29, 3) := by decide +kernel
theorem dX5_want_13 : decode cX5_want 13 = .ok (.aload_n 0, 1) := by decide +kernel
theorem dX5_want_14 : decode cX5_want 14 = .ok (.getfield 19, 3) := by decide +kernel
theorem dX5_want_17 : decode cX5_want 17 = .ok (.invokevirtual 138, 3) := by decide +kernel
theorem dX5_want_20 : decode cX5_want 20 = .ok (.aload_n 0, 1) := by decide +kernel
theorem dX5_want_21 : decode cX5_want 21 = .ok (.getfield 19, 3) := by decide +kernel
theorem dX5_want_24 : decode cX5_want 24 = .ok (.getfield 143, 3) := by decide +kernel
theorem dX5_want_27 : decode cX5_want 27 = .ok (.iload_n 1, 1) := by decide +kernel
theorem dX5_want_28 : decode cX5_want 28 = .ok (.aaload, 1) := by decide +kernel
theorem dX5_want_29 : decode cX5_want 29 = .ok (.getfield 155, 3) := by decide +kernel
theorem dX5_want_32 : decode cX5_want 32 = .ok (.istore_n 3, 1) := by decide +kernel
theorem dX5_want_33 : decode cX5_want 33 = .ok (.aload_n 0, 1) := by decide +kernel
theorem dX5_want_34 : decode cX5_want 34 = .ok (.getfield 19, 3) := by decide +kernel
theorem dX5_want_37 : decode cX5_want 37 = .ok (.iload_n 1, 1) := by decide +kernel
theorem dX5_want_38 : decode cX5_want 38 = .ok (.iload_n 2, 1) := by decide +kernel
theorem dX5_want_39 : decode cX5_want 39 = .ok (.invokevirtual 158, 3) := by decide +kernel
theorem dX5_want_42 : decode cX5_want 42 = .ok (.iload_n 3, 1) := by decide +kernel
theorem dX5_want_43 : decode cX5_want 43 = .ok (.ireturn, 1) := by decide +kernel
set_option maxRecDepth 20000 in
theorem ggX5_test_X5_requireMember : GoodIn wsX5_test wsX5_requireMember := goodIn_ca (goodIn_r _ [9, 10, 11, 2, 12, 13, 14, 15, 16, 17, 81, 82, 83, 84, 85, 86, 87, 88, 89, 90] (by decide +kernel) (by decide +kernel)) (goodIn_sub (fun _ h => List.mem_cons_of_mem _ (List.mem_append_left _ (List.mem_append_right _ h))) (by decide +kernel))
set_option maxRecDepth 20000 in
theorem gX5_test_X5_requireMember : GoodIn wsX5_test (wsV RX5 106 RX5 yX5_requireMember wsX5_requireMember) := goodIn_app (goodIn_of _ (by decide +kernel)) ggX5_test_X5_requireMember
set_option maxRecDepth 20000 in
theorem ggX5_test_X5_requireLanguage : GoodIn wsX5_test wsX5_requireLanguage := goodIn_ca (goodIn_r _ [20, 21, 22, 8, 23, 24, 25] (by decide +kernel) (by decide +kernel)) (goodIn_sub (fun _ h => List.mem_cons_of_mem _ (List.mem_append_right _ h)) (by decide +kernel))
set_option maxRecDepth 20000 in
theorem gX5_test_X5_requireLanguage : GoodIn wsX5_test (va_wsS RX5 133 yX5_requireLanguage wsX5_requireLanguage) := goodIn_app (goodIn_of _ (by decide +kernel)) ggX5_test_X5_requireLanguage
set_option maxRecDepth 20000 in
theorem ggX5_test_X5_requireRange : GoodIn wsX5_test wsX5_requireRange := goodIn_ca (goodIn_r _ [23, 24, 25] (by decide +kernel) (by decide +kernel)) (goodIn_sub (fun _ h => List.mem_cons_of_mem _ (List.mem_append_right _ h)) (by decide +kernel))
set_option maxRecDepth 20000 in
theorem gX5_test_X5_requireRange : GoodIn wsX5_test (va_wsS RX5 48 yX5_requireRange wsX5_requireRange) := goodIn_app (goodIn_of _ (by decide +kernel)) ggX5_test_X5_requireRange
set_option maxRecDepth 20000 in
theorem ggX5_test_X2_remember : GoodIn wsX5_test wsX2_remember := goodIn_r _ [30, 31, 32, 33, 34, 35, 36, 15, 37, 17, 38, 39, 40, 41, 42, 43, 44, 45, 46, 47, 48, 49, 50, 51, 52, 53, 54, 55, 98, 99, 100, 88, 89, 90, 91, 92, 93, 94, 95, 96, 97] (by decide +kernel) (by decide +kernel)
set_option maxRecDepth 20000 in
theorem gX5_test_X2_remember : GoodIn wsX5_test (wsV RX5 138 RX2 yX2_remember wsX2_remember) := goodIn_app (goodIn_of _ (by decide +kernel)) ggX5_test_X2_remember
set_option maxRecDepth 20000 in
theorem ggX5_test_X1_grade : GoodIn wsX5_test wsX1_grade := goodIn_r _ [59, 38, 60, 61, 62, 63, 64, 65, 15, 66, 67, 68, 13, 14, 16, 17, 69, 70, 71, 72, 73, 74, 75, 76, 77, 78, 79, 80, 88, 89, 90, 91, 92, 93, 94, 95, 96, 97] (by decide +kernel) (by decide +kernel)
set_option maxRecDepth 20000 in
theorem gX5_test_X1_grade : GoodIn wsX5_test (wsV RX5 165 RX1 yX1_grade wsX1_grade) := goodIn_app (goodIn_of _ (by decide +kernel)) ggX5_test_X1_grade
theorem dX5_test_0 : decode cX5_test 0 = .ok (.aload_n 0, 1) := by decide +kernel
theorem dX5_test_1 : decode cX5_test 1 = .ok (.iload_n 1, 1) := by decide +kernel
theorem dX5_test_2 : decode cX5_test 2 = .ok (.invokevirtual 106, 3) := by decide +kernel
theorem dX5_test_5 : decode cX5_test 5 = .ok (.iload_n 2, 1) := by decide +kernel
theorem dX5_test_6 : decode cX5_test 6 = .ok (.invokestatic 133, 3) := by decide +kernel
theorem dX5_test_9 : decode cX5_test 9 = .ok (.iload_n 3, 1) := by decide +kernel
theorem dX5_test_10 : decode cX5_test 10 = .ok (.iconst 0, 1) := by decide +kernel
theorem dX5_test_11 : decode cX5_test 11 = .ok (.bipush 99, 2) := by decide +kernel
theorem dX5_test_13 : decode cX5_test 13 = .ok (.invokestatic 48, 3) := by decide +kernel
theorem dX5_test_16 : decode cX5_test 16 = .ok (.aload_n 0, 1) := by decide +kernel
theorem dX5_test_17 : decode cX5_test 17 = .ok (.getfield 29, 3) := by decide +kernel
theorem dX5_test_20 : decode cX5_test 20 = .ok (.aload_n 0, 1) := by decide +kernel
theorem dX5_test_21 : decode cX5_test 21 = .ok (.getfield 19, 3) := by decide +kernel
theorem dX5_test_24 : decode cX5_test 24 = .ok (.invokevirtual 138, 3) := by decide +kernel
theorem dX5_test_27 : decode cX5_test 27 = .ok (.aload_n 0, 1) := by decide +kernel
theorem dX5_test_28 : decode cX5_test 28 = .ok (.getfield 19, 3) := by decide +kernel
theorem dX5_test_31 : decode cX5_test 31 = .ok (.getfield 143, 3) := by decide +kernel
theorem dX5_test_34 : decode cX5_test 34 = .ok (.iload_n 1, 1) := by decide +kernel
theorem dX5_test_35 : decode cX5_test 35 = .ok (.aaload, 1) := by decide +kernel
theorem dX5_test_36 : decode cX5_test 36 = .ok (.getfield 161, 3) := by decide +kernel
theorem dX5_test_39 : decode cX5_test 39 = .ok (.iload_n 2, 1) := by decide +kernel
theorem dX5_test_40 : decode cX5_test 40 = .ok (.iaload, 1) := by decide +kernel
theorem dX5_test_41 : decode cX5_test 41 = .ok (.istore 4, 2) := by decide +kernel
theorem dX5_test_43 : decode cX5_test 43 = .ok (.aload_n 0, 1) := by decide +kernel
theorem dX5_test_44 : decode cX5_test 44 = .ok (.getfield 19, 3) := by decide +kernel
theorem dX5_test_47 : decode cX5_test 47 = .ok (.iload_n 1, 1) := by decide +kernel
theorem dX5_test_48 : decode cX5_test 48 = .ok (.iload_n 2, 1) := by decide +kernel
theorem dX5_test_49 : decode cX5_test 49 = .ok (.iload_n 3, 1) := by decide +kernel
theorem dX5_test_50 : decode cX5_test 50 = .ok (.invokevirtual 165, 3) := by decide +kernel
theorem dX5_test_53 : decode cX5_test 53 = .ok (.iload 4, 2) := by decide +kernel
theorem dX5_test_55 : decode cX5_test 55 = .ok (.ireturn, 1) := by decide +kernel
set_option maxRecDepth 20000 in
theorem ggX5_pair_X5_requireTwoMembers : GoodIn wsX5_pair wsX5_requireTwoMembers := goodIn_ca (goodIn_ca (goodIn_r _ [9, 10, 11, 12, 13, 14, 8, 15, 16, 17, 3, 18, 19, 20, 21, 22, 23, 92, 93, 94, 95, 96, 97, 98, 99, 100, 101] (by decide +kernel) (by decide +kernel)) (goodIn_sub (fun _ h => List.mem_cons_of_mem _ (List.mem_append_left _ (List.mem_append_right _ h))) (by decide +kernel))) (goodIn_sub (fun _ h => List.mem_cons_of_mem _ (List.mem_append_right _ h)) (by decide +kernel))
set_option maxRecDepth 20000 in
theorem gX5_pair_X5_requireTwoMembers : GoodIn wsX5_pair (wsV RX5 114 RX5 yX5_requireTwoMembers wsX5_requireTwoMembers) := goodIn_app (goodIn_of _ (by decide +kernel)) ggX5_pair_X5_requireTwoMembers
set_option maxRecDepth 20000 in
theorem ggX5_pair_X1_canBecomePartners : GoodIn wsX5_pair wsX1_canBecomePartners := goodIn_r _ [27, 28, 29, 30, 21, 31, 32, 33, 34, 35, 36, 37, 38, 39, 40, 41, 42, 43, 99, 100, 101, 102, 103, 104, 105, 106, 107, 108] (by decide +kernel) (by decide +kernel)
set_option maxRecDepth 20000 in
theorem gX5_pair_X1_canBecomePartners : GoodIn wsX5_pair (wsV RX5 168 RX1 yX1_canBecomePartners wsX1_canBecomePartners) := goodIn_app (goodIn_of _ (by decide +kernel)) ggX5_pair_X1_canBecomePartners
set_option maxRecDepth 20000 in
theorem ggX5_pair_X2_remember : GoodIn wsX5_pair wsX2_remember := goodIn_r _ [48, 49, 50, 51, 52, 53, 54, 21, 55, 23, 32, 56, 57, 58, 59, 60, 61, 62, 63, 64, 65, 66, 67, 68, 69, 70, 71, 72, 109, 110, 111, 99, 100, 101, 102, 103, 104, 105, 106, 107, 108] (by decide +kernel) (by decide +kernel)
set_option maxRecDepth 20000 in
theorem gX5_pair_X2_remember : GoodIn wsX5_pair (wsV RX5 138 RX2 yX2_remember wsX2_remember) := goodIn_app (goodIn_of _ (by decide +kernel)) ggX5_pair_X2_remember
set_option maxRecDepth 20000 in
theorem ggX5_pair_X1_unite : GoodIn wsX5_pair wsX1_unite := goodIn_r _ [76, 32, 33, 77, 99, 100, 101, 102, 103, 104, 105, 106, 107, 108] (by decide +kernel) (by decide +kernel)
set_option maxRecDepth 20000 in
theorem gX5_pair_X1_unite : GoodIn wsX5_pair (wsV RX5 173 RX1 yX1_unite wsX1_unite) := goodIn_app (goodIn_of _ (by decide +kernel)) ggX5_pair_X1_unite
set_option maxRecDepth 20000 in
theorem ggX5_pair_X1_value : GoodIn wsX5_pair wsX1_value := goodIn_r _ [81, 82, 83, 84, 21, 85, 32, 86, 87, 38, 39, 40, 41, 42, 43, 88, 89, 90, 91, 99, 100, 101, 102, 103, 104, 105, 106, 107, 108] (by decide +kernel) (by decide +kernel)
set_option maxRecDepth 20000 in
theorem gX5_pair_X1_value : GoodIn wsX5_pair (wsV RX5 121 RX1 yX1_value wsX1_value) := goodIn_app (goodIn_of _ (by decide +kernel)) ggX5_pair_X1_value
theorem dX5_pair_0 : decode cX5_pair 0 = .ok (.aload_n 0, 1) := by decide +kernel
theorem dX5_pair_1 : decode cX5_pair 1 = .ok (.iload_n 1, 1) := by decide +kernel
theorem dX5_pair_2 : decode cX5_pair 2 = .ok (.iload_n 2, 1) := by decide +kernel
theorem dX5_pair_3 : decode cX5_pair 3 = .ok (.invokevirtual 114, 3) := by decide +kernel
theorem dX5_pair_6 : decode cX5_pair 6 = .ok (.aload_n 0, 1) := by decide +kernel
theorem dX5_pair_7 : decode cX5_pair 7 = .ok (.getfield 19, 3) := by decide +kernel
theorem dX5_pair_10 : decode cX5_pair 10 = .ok (.iload_n 1, 1) := by decide +kernel
theorem dX5_pair_11 : decode cX5_pair 11 = .ok (.iload_n 2, 1) := by decide +kernel
theorem dX5_pair_12 : decode cX5_pair 12 = .ok (.invokevirtual 168, 3) := by decide +kernel
theorem dX5_pair_15 : decode cX5_pair 15 = .ok (.ifCond .ne 13, 3) := by decide +kernel
theorem dX5_pair_18 : decode cX5_pair 18 = .ok (.new 56, 3) := by decide +kernel
theorem dX5_pair_21 : decode cX5_pair 21 = .ok (.dup, 1) := by decide +kernel
theorem dX5_pair_22 : decode cX5_pair 22 = .ok (.ldc 171, 2) := by decide +kernel
theorem dX5_pair_24 : decode cX5_pair 24 = .ok (.invokespecial 60, 3) := by decide +kernel
theorem dX5_pair_27 : decode cX5_pair 27 = .ok (.athrow, 1) := by decide +kernel
theorem dX5_pair_28 : decode cX5_pair 28 = .ok (.aload_n 0, 1) := by decide +kernel
theorem dX5_pair_29 : decode cX5_pair 29 = .ok (.getfield 29, 3) := by decide +kernel
theorem dX5_pair_32 : decode cX5_pair 32 = .ok (.aload_n 0, 1) := by decide +kernel
theorem dX5_pair_33 : decode cX5_pair 33 = .ok (.getfield 19, 3) := by decide +kernel
theorem dX5_pair_36 : decode cX5_pair 36 = .ok (.invokevirtual 138, 3) := by decide +kernel
theorem dX5_pair_39 : decode cX5_pair 39 = .ok (.aload_n 0, 1) := by decide +kernel
theorem dX5_pair_40 : decode cX5_pair 40 = .ok (.getfield 19, 3) := by decide +kernel
theorem dX5_pair_43 : decode cX5_pair 43 = .ok (.iload_n 1, 1) := by decide +kernel
theorem dX5_pair_44 : decode cX5_pair 44 = .ok (.iload_n 2, 1) := by decide +kernel
theorem dX5_pair_45 : decode cX5_pair 45 = .ok (.invokevirtual 173, 3) := by decide +kernel
theorem dX5_pair_48 : decode cX5_pair 48 = .ok (.aload_n 0, 1) := by decide +kernel
theorem dX5_pair_49 : decode cX5_pair 49 = .ok (.getfield 19, 3) := by decide +kernel
theorem dX5_pair_52 : decode cX5_pair 52 = .ok (.iload_n 1, 1) := by decide +kernel
theorem dX5_pair_53 : decode cX5_pair 53 = .ok (.iload_n 2, 1) := by decide +kernel
theorem dX5_pair_54 : decode cX5_pair 54 = .ok (.invokevirtual 121, 3) := by decide +kernel
theorem dX5_pair_57 : decode cX5_pair 57 = .ok (.ireturn, 1) := by decide +kernel
set_option maxRecDepth 20000 in
theorem ggX5_part_X5_requireMember : GoodIn wsX5_part wsX5_requireMember := goodIn_ca (goodIn_r _ [9, 10, 11, 2, 12, 13, 14, 15, 16, 17, 64, 65, 66, 67, 68, 69, 70, 71, 72, 73] (by decide +kernel) (by decide +kernel)) (goodIn_sub (fun _ h => List.mem_cons_of_mem _ (List.mem_append_left _ (List.mem_append_right _ h))) (by decide +kernel))
set_option maxRecDepth 20000 in
theorem gX5_part_X5_requireMember : GoodIn wsX5_part (wsV RX5 106 RX5 yX5_requireMember wsX5_requireMember) := goodIn_app (goodIn_of _ (by decide +kernel)) ggX5_part_X5_requireMember
set_option maxRecDepth 20000 in
theorem ggX5_part_X5_requirePartner : GoodIn wsX5_part wsX5_requirePartner := goodIn_ca (goodIn_r _ [21, 22, 23, 2, 24, 25, 26, 15, 27, 28, 29, 64, 65, 66, 67, 68, 69, 70, 71, 72, 73, 74, 75, 76, 77, 78, 79, 80] (by decide +kernel) (by decide +kernel)) (goodIn_sub (fun _ h => List.mem_cons_of_mem _ (List.mem_append_right _ h)) (by decide +kernel))
set_option maxRecDepth 20000 in
theorem gX5_part_X5_requirePartner : GoodIn wsX5_part (wsV RX5 176 RX5 yX5_requirePartner wsX5_requirePartner) := goodIn_app (goodIn_of _ (by decide +kernel)) ggX5_part_X5_requirePartner
set_option maxRecDepth 20000 in
theorem ggX5_part_X2_remember : GoodIn wsX5_part wsX2_remember := goodIn_r _ [34, 35, 36, 37, 38, 39, 40, 15, 41, 17, 28, 42, 43, 44, 45, 46, 47, 48, 49, 50, 51, 52, 53, 54, 55, 56, 57, 58, 81, 82, 83, 71, 72, 73, 74, 75, 76, 77, 78, 79, 80] (by decide +kernel) (by decide +kernel)
set_option maxRecDepth 20000 in
theorem gX5_part_X2_remember : GoodIn wsX5_part (wsV RX5 138 RX2 yX2_remember wsX2_remember) := goodIn_app (goodIn_of _ (by decide +kernel)) ggX5_part_X2_remember
set_option maxRecDepth 20000 in
theorem ggX5_part_X1_separate : GoodIn wsX5_part wsX1_separate := goodIn_r _ [62, 28, 29, 63, 13, 14, 15, 16, 17, 71, 72, 73, 74, 75, 76, 77, 78, 79, 80] (by decide +kernel) (by decide +kernel)
set_option maxRecDepth 20000 in
theorem gX5_part_X1_separate : GoodIn wsX5_part (wsV RX5 182 RX1 yX1_separate wsX1_separate) := goodIn_app (goodIn_of _ (by decide +kernel)) ggX5_part_X1_separate
theorem dX5_part_0 : decode cX5_part 0 = .ok (.aload_n 0, 1) := by decide +kernel
theorem dX5_part_1 : decode cX5_part 1 = .ok (.iload_n 1, 1) := by decide +kernel
theorem dX5_part_2 : decode cX5_part 2 = .ok (.invokevirtual 106, 3) := by decide +kernel
theorem dX5_part_5 : decode cX5_part 5 = .ok (.aload_n 0, 1) := by decide +kernel
theorem dX5_part_6 : decode cX5_part 6 = .ok (.iload_n 1, 1) := by decide +kernel
theorem dX5_part_7 : decode cX5_part 7 = .ok (.invokevirtual 176, 3) := by decide +kernel
theorem dX5_part_10 : decode cX5_part 10 = .ok (.aload_n 0, 1) := by decide +kernel
theorem dX5_part_11 : decode cX5_part 11 = .ok (.getfield 29, 3) := by decide +kernel
theorem dX5_part_14 : decode cX5_part 14 = .ok (.aload_n 0, 1) := by decide +kernel
theorem dX5_part_15 : decode cX5_part 15 = .ok (.getfield 19, 3) := by decide +kernel
theorem dX5_part_18 : decode cX5_part 18 = .ok (.invokevirtual 138, 3) := by decide +kernel
theorem dX5_part_21 : decode cX5_part 21 = .ok (.aload_n 0, 1) := by decide +kernel
theorem dX5_part_22 : decode cX5_part 22 = .ok (.getfield 19, 3) := by decide +kernel
theorem dX5_part_25 : decode cX5_part 25 = .ok (.getfield 143, 3) := by decide +kernel
theorem dX5_part_28 : decode cX5_part 28 = .ok (.iload_n 1, 1) := by decide +kernel
theorem dX5_part_29 : decode cX5_part 29 = .ok (.aaload, 1) := by decide +kernel
theorem dX5_part_30 : decode cX5_part 30 = .ok (.getfield 179, 3) := by decide +kernel
theorem dX5_part_33 : decode cX5_part 33 = .ok (.istore_n 2, 1) := by decide +kernel
theorem dX5_part_34 : decode cX5_part 34 = .ok (.aload_n 0, 1) := by decide +kernel
theorem dX5_part_35 : decode cX5_part 35 = .ok (.getfield 19, 3) := by decide +kernel
theorem dX5_part_38 : decode cX5_part 38 = .ok (.iload_n 1, 1) := by decide +kernel
theorem dX5_part_39 : decode cX5_part 39 = .ok (.invokevirtual 182, 3) := by decide +kernel
theorem dX5_part_42 : decode cX5_part 42 = .ok (.iload_n 2, 1) := by decide +kernel
theorem dX5_part_43 : decode cX5_part 43 = .ok (.ireturn, 1) := by decide +kernel
set_option maxRecDepth 20000 in
theorem ggX5_match_X2_remember : GoodIn wsX5_match wsX2_remember := goodIn_r _ [7, 8, 9, 10, 11, 12, 13, 14, 15, 16, 17, 18, 19, 20, 21, 22, 23, 24, 25, 26, 27, 28, 29, 30, 31, 32, 33, 34, 92, 93, 94, 95, 96, 97, 98, 99, 100, 101, 102, 103, 104] (by decide +kernel) (by decide +kernel)
set_option maxRecDepth 20000 in
theorem gX5_match_X2_remember : GoodIn wsX5_match (wsV RX5 138 RX2 yX2_remember wsX2_remember) := goodIn_app (goodIn_of _ (by decide +kernel)) ggX5_match_X2_remember
set_option maxRecDepth 20000 in
theorem ggX5_match_X1_matchFree : GoodIn wsX5_match wsX1_matchFree := goodIn_r _ [38, 39, 40, 41, 14, 42, 16, 43, 44, 45, 46, 47, 48, 49, 50, 17, 51, 52, 53, 54, 55, 56, 57, 58, 59, 60, 61, 62, 63, 64, 65, 66, 67, 68, 69, 70, 71, 72, 73, 74, 75, 76, 77, 78, 79, 80, 81, 82, 83, 84, 95, 96, 97, 98, 99, 100, 101, 102, 103, 104] (by decide +kernel) (by decide +kernel)
set_option maxRecDepth 20000 in
theorem gX5_match_X1_matchFree : GoodIn wsX5_match (wsV RX5 185 RX1 yX1_matchFree wsX1_matchFree) := goodIn_app (goodIn_of _ (by decide +kernel)) ggX5_match_X1_matchFree
theorem dX5_match_0 : decode cX5_match 0 = .ok (.aload_n 0, 1) := by decide +kernel
theorem dX5_match_1 : decode cX5_match 1 = .ok (.getfield 29, 3) := by decide +kernel
theorem dX5_match_4 : decode cX5_match 4 = .ok (.aload_n 0, 1) := by decide +kernel
theorem dX5_match_5 : decode cX5_match 5 = .ok (.getfield 19, 3) := by decide +kernel
theorem dX5_match_8 : decode cX5_match 8 = .ok (.invokevirtual 138, 3) := by decide +kernel
theorem dX5_match_11 : decode cX5_match 11 = .ok (.aload_n 0, 1) := by decide +kernel
theorem dX5_match_12 : decode cX5_match 12 = .ok (.getfield 19, 3) := by decide +kernel
theorem dX5_match_15 : decode cX5_match 15 = .ok (.invokevirtual 185, 3) := by decide +kernel
theorem dX5_match_18 : decode cX5_match 18 = .ok (.ireturn, 1) := by decide +kernel
set_option maxRecDepth 20000 in
theorem ggX5_settle_X5_requireRange : GoodIn wsX5_settle wsX5_requireRange := goodIn_ca (goodIn_r _ [6, 7, 8] (by decide +kernel) (by decide +kernel)) (goodIn_sub (fun _ h => List.mem_cons_of_mem _ (List.mem_append_right _ h)) (by decide +kernel))
set_option maxRecDepth 20000 in
theorem gX5_settle_X5_requireRange : GoodIn wsX5_settle (va_wsS RX5 48 yX5_requireRange wsX5_requireRange) := goodIn_app (goodIn_of _ (by decide +kernel)) ggX5_settle_X5_requireRange
set_option maxRecDepth 20000 in
theorem ggX5_settle_X2_remember : GoodIn wsX5_settle wsX2_remember := goodIn_r _ [13, 14, 15, 16, 17, 18, 19, 20, 21, 22, 23, 24, 25, 26, 27, 28, 29, 30, 31, 32, 33, 34, 35, 36, 37, 38, 39, 40, 98, 99, 100, 101, 102, 103, 104, 105, 106, 107, 108, 109, 110] (by decide +kernel) (by decide +kernel)
set_option maxRecDepth 20000 in
theorem gX5_settle_X2_remember : GoodIn wsX5_settle (wsV RX5 138 RX2 yX2_remember wsX2_remember) := goodIn_app (goodIn_of _ (by decide +kernel)) ggX5_settle_X2_remember
set_option maxRecDepth 20000 in
theorem ggX5_settle_X1_settleBy : GoodIn wsX5_settle wsX1_settleBy := goodIn_r _ [44, 45, 46, 47, 20, 48, 22, 49, 50, 51, 52, 23, 53, 54, 55, 56, 57, 58, 59, 60, 61, 62, 63, 64, 65, 66, 67, 68, 69, 70, 71, 72, 73, 74, 75, 76, 77, 78, 79, 80, 81, 82, 83, 84, 85, 86, 87, 88, 89, 90, 101, 102, 103, 104, 105, 106, 107, 108, 109, 110] (by decide +kernel) (by decide +kernel)
set_option maxRecDepth 20000 in
theorem gX5_settle_X1_settleBy : GoodIn wsX5_settle (wsV RX5 188 RX1 yX1_settleBy wsX1_settleBy) := goodIn_app (goodIn_of _ (by decide +kernel)) ggX5_settle_X1_settleBy
theorem dX5_settle_0 : decode cX5_settle 0 = .ok (.iload_n 1, 1) := by decide +kernel
theorem dX5_settle_1 : decode cX5_settle 1 = .ok (.iconst 1, 1) := by decide +kernel
theorem dX5_settle_2 : decode cX5_settle 2 = .ok (.bipush 50, 2) := by decide +kernel
theorem dX5_settle_4 : decode cX5_settle 4 = .ok (.invokestatic 48, 3) := by decide +kernel
theorem dX5_settle_7 : decode cX5_settle 7 = .ok (.aload_n 0, 1) := by decide +kernel
theorem dX5_settle_8 : decode cX5_settle 8 = .ok (.getfield 29, 3) := by decide +kernel
theorem dX5_settle_11 : decode cX5_settle 11 = .ok (.aload_n 0, 1) := by decide +kernel
theorem dX5_settle_12 : decode cX5_settle 12 = .ok (.getfield 19, 3) := by decide +kernel
theorem dX5_settle_15 : decode cX5_settle 15 = .ok (.invokevirtual 138, 3) := by decide +kernel
theorem dX5_settle_18 : decode cX5_settle 18 = .ok (.aload_n 0, 1) := by decide +kernel
theorem dX5_settle_19 : decode cX5_settle 19 = .ok (.getfield 19, 3) := by decide +kernel
theorem dX5_settle_22 : decode cX5_settle 22 = .ok (.iload_n 1, 1) := by decide +kernel
theorem dX5_settle_23 : decode cX5_settle 23 = .ok (.invokevirtual 188, 3) := by decide +kernel
theorem dX5_settle_26 : decode cX5_settle 26 = .ok (.ireturn, 1) := by decide +kernel
set_option maxRecDepth 20000 in
theorem ggX5_week_X5_requireRange : GoodIn wsX5_week wsX5_requireRange := goodIn_ca (goodIn_r _ [6, 7, 8] (by decide +kernel) (by decide +kernel)) (goodIn_sub (fun _ h => List.mem_cons_of_mem _ (List.mem_append_right _ h)) (by decide +kernel))
set_option maxRecDepth 20000 in
theorem gX5_week_X5_requireRange : GoodIn wsX5_week (va_wsS RX5 48 yX5_requireRange wsX5_requireRange) := goodIn_app (goodIn_of _ (by decide +kernel)) ggX5_week_X5_requireRange
set_option maxRecDepth 20000 in
theorem ggX5_week_X2_remember : GoodIn wsX5_week wsX2_remember := goodIn_r _ [13, 14, 15, 16, 17, 18, 19, 20, 21, 22, 23, 24, 25, 26, 27, 28, 29, 30, 31, 32, 33, 34, 35, 36, 37, 38, 39, 40, 112, 113, 114, 115, 116, 117, 118, 119, 120, 121, 122, 123, 124] (by decide +kernel) (by decide +kernel)
set_option maxRecDepth 20000 in
theorem gX5_week_X2_remember : GoodIn wsX5_week (wsV RX5 138 RX2 yX2_remember wsX2_remember) := goodIn_app (goodIn_of _ (by decide +kernel)) ggX5_week_X2_remember
set_option maxRecDepth 20000 in
theorem ggX5_week_X1_passWeek : GoodIn wsX5_week wsX1_passWeek := goodIn_r _ [44, 22, 23, 45, 24, 46, 47, 48, 20, 49, 50, 51, 52, 53, 54, 55, 56, 57, 58, 59, 60, 61, 28, 62, 40, 38, 63, 64, 65, 66, 37, 67, 68, 69, 70, 71, 72, 73, 74, 75, 76, 77, 78, 79, 80, 81, 82, 83, 84, 85, 86, 87, 88, 89, 90, 91, 92, 36, 30, 35, 93, 94, 95, 96, 97, 98, 99, 100, 115, 116, 117, 118, 119, 120, 121, 122, 123, 124] (by decide +kernel) (by decide +kernel)
set_option maxRecDepth 20000 in
theorem gX5_week_X1_passWeek : GoodIn wsX5_week (wsV RX5 192 RX1 yX1_passWeek wsX1_passWeek) := goodIn_app (goodIn_of _ (by decide +kernel)) ggX5_week_X1_passWeek
set_option maxRecDepth 20000 in
theorem ggX5_week_X1_countPairs : GoodIn wsX5_week wsX1_countPairs := goodIn_r _ [104, 22, 46, 47, 48, 20, 49, 23, 50, 51, 52, 53, 54, 115, 116, 117, 118, 119, 120, 121, 122, 123, 124] (by decide +kernel) (by decide +kernel)
set_option maxRecDepth 20000 in
theorem gX5_week_X1_countPairs : GoodIn wsX5_week (wsV RX5 83 RX1 yX1_countPairs wsX1_countPairs) := goodIn_app (goodIn_of _ (by decide +kernel)) ggX5_week_X1_countPairs
theorem dX5_week_0 : decode cX5_week 0 = .ok (.iload_n 1, 1) := by decide +kernel
theorem dX5_week_1 : decode cX5_week 1 = .ok (.iconst 0, 1) := by decide +kernel
theorem dX5_week_2 : decode cX5_week 2 = .ok (.sipush 511, 3) := by decide +kernel
theorem dX5_week_5 : decode cX5_week 5 = .ok (.invokestatic 48, 3) := by decide +kernel
theorem dX5_week_8 : decode cX5_week 8 = .ok (.aload_n 0, 1) := by decide +kernel
theorem dX5_week_9 : decode cX5_week 9 = .ok (.getfield 29, 3) := by decide +kernel
theorem dX5_week_12 : decode cX5_week 12 = .ok (.aload_n 0, 1) := by decide +kernel
theorem dX5_week_13 : decode cX5_week 13 = .ok (.getfield 19, 3) := by decide +kernel
theorem dX5_week_16 : decode cX5_week 16 = .ok (.invokevirtual 138, 3) := by decide +kernel
theorem dX5_week_19 : decode cX5_week 19 = .ok (.aload_n 0, 1) := by decide +kernel
theorem dX5_week_20 : decode cX5_week 20 = .ok (.getfield 19, 3) := by decide +kernel
theorem dX5_week_23 : decode cX5_week 23 = .ok (.iload_n 1, 1) := by decide +kernel
theorem dX5_week_24 : decode cX5_week 24 = .ok (.invokevirtual 192, 3) := by decide +kernel
theorem dX5_week_27 : decode cX5_week 27 = .ok (.aload_n 0, 1) := by decide +kernel
theorem dX5_week_28 : decode cX5_week 28 = .ok (.getfield 19, 3) := by decide +kernel
theorem dX5_week_31 : decode cX5_week 31 = .ok (.invokevirtual 83, 3) := by decide +kernel
theorem dX5_week_34 : decode cX5_week 34 = .ok (.ireturn, 1) := by decide +kernel
set_option maxRecDepth 20000 in
theorem ggX5_undo_X2_takeBack : GoodIn wsX5_undo wsX2_takeBack := goodIn_r _ [10, 11, 12, 13, 14, 15, 16, 17, 18, 19, 20, 21, 22, 23, 24, 25, 26, 27, 28, 29, 30, 31, 32, 33, 34, 35, 36, 37, 45, 46, 47, 48, 49, 50, 51, 52, 53, 54, 55, 56, 57] (by decide +kernel) (by decide +kernel)
set_option maxRecDepth 20000 in
theorem gX5_undo_X2_takeBack : GoodIn wsX5_undo (wsV RX5 200 RX2 yX2_takeBack wsX2_takeBack) := goodIn_app (goodIn_of _ (by decide +kernel)) ggX5_undo_X2_takeBack
theorem dX5_undo_0 : decode cX5_undo 0 = .ok (.aload_n 0, 1) := by decide +kernel
theorem dX5_undo_1 : decode cX5_undo 1 = .ok (.getfield 29, 3) := by decide +kernel
theorem dX5_undo_4 : decode cX5_undo 4 = .ok (.getfield 195, 3) := by decide +kernel
theorem dX5_undo_7 : decode cX5_undo 7 = .ok (.ifCond .ne 13, 3) := by decide +kernel
theorem dX5_undo_10 : decode cX5_undo 10 = .ok (.new 56, 3) := by decide +kernel
theorem dX5_undo_13 : decode cX5_undo 13 = .ok (.dup, 1) := by decide +kernel
theorem dX5_undo_14 : decode cX5_undo 14 = .ok (.ldc 198, 2) := by decide +kernel
theorem dX5_undo_16 : decode cX5_undo 16 = .ok (.invokespecial 60, 3) := by decide +kernel
theorem dX5_undo_19 : decode cX5_undo 19 = .ok (.athrow, 1) := by decide +kernel
theorem dX5_undo_20 : decode cX5_undo 20 = .ok (.aload_n 0, 1) := by decide +kernel
theorem dX5_undo_21 : decode cX5_undo 21 = .ok (.getfield 29, 3) := by decide +kernel
theorem dX5_undo_24 : decode cX5_undo 24 = .ok (.aload_n 0, 1) := by decide +kernel
theorem dX5_undo_25 : decode cX5_undo 25 = .ok (.getfield 19, 3) := by decide +kernel
theorem dX5_undo_28 : decode cX5_undo 28 = .ok (.invokevirtual 200, 3) := by decide +kernel
theorem dX5_undo_31 : decode cX5_undo 31 = .ok (.aload_n 0, 1) := by decide +kernel
theorem dX5_undo_32 : decode cX5_undo 32 = .ok (.getfield 29, 3) := by decide +kernel
theorem dX5_undo_35 : decode cX5_undo 35 = .ok (.getfield 195, 3) := by decide +kernel
theorem dX5_undo_38 : decode cX5_undo 38 = .ok (.ireturn, 1) := by decide +kernel
set_option maxRecDepth 20000 in
theorem ggX5_blocking_X1_block : GoodIn wsX5_blocking wsX1_block := goodIn_r _ [9, 10, 11, 12, 13, 14, 8, 15, 16, 17, 18, 19, 20, 21, 22, 23, 24, 25, 26, 27, 28, 29, 30, 31, 32, 33, 34, 35, 36, 37, 38, 39, 40, 48, 49, 50, 51, 52, 53, 54, 55, 56, 57] (by decide +kernel) (by decide +kernel)
set_option maxRecDepth 20000 in
theorem gX5_blocking_X1_block : GoodIn wsX5_blocking (wsV RX5 128 RX1 yX1_block wsX1_block) := goodIn_app (goodIn_of _ (by decide +kernel)) ggX5_blocking_X1_block
theorem dX5_blocking_0 : decode cX5_blocking 0 = .ok (.iload_n 1, 1) := by decide +kernel
theorem dX5_blocking_1 : decode cX5_blocking 1 = .ok (.ifCond .ge 13, 3) := by decide +kernel
theorem dX5_blocking_4 : decode cX5_blocking 4 = .ok (.new 101, 3) := by decide +kernel
theorem dX5_blocking_7 : decode cX5_blocking 7 = .ok (.dup, 1) := by decide +kernel
theorem dX5_blocking_8 : decode cX5_blocking 8 = .ok (.ldc 203, 2) := by decide +kernel
theorem dX5_blocking_10 : decode cX5_blocking 10 = .ok (.invokespecial 105, 3) := by decide +kernel
theorem dX5_blocking_13 : decode cX5_blocking 13 = .ok (.athrow, 1) := by decide +kernel
theorem dX5_blocking_14 : decode cX5_blocking 14 = .ok (.iload_n 1, 1) := by decide +kernel
theorem dX5_blocking_15 : decode cX5_blocking 15 = .ok (.istore_n 3, 1) := by decide +kernel
theorem dX5_blocking_16 : decode cX5_blocking 16 = .ok (.iconst 0, 1) := by decide +kernel
theorem dX5_blocking_17 : decode cX5_blocking 17 = .ok (.istore 4, 2) := by decide +kernel
theorem dX5_blocking_19 : decode cX5_blocking 19 = .ok (.iload 4, 2) := by decide +kernel
theorem dX5_blocking_21 : decode cX5_blocking 21 = .ok (.aload_n 0, 1) := by decide +kernel
theorem dX5_blocking_22 : decode cX5_blocking 22 = .ok (.getfield 19, 3) := by decide +kernel
theorem dX5_blocking_25 : decode cX5_blocking 25 = .ok (.getfield 80, 3) := by decide +kernel
theorem dX5_blocking_28 : decode cX5_blocking 28 = .ok (.if_icmp .ge 66, 3) := by decide +kernel
theorem dX5_blocking_31 : decode cX5_blocking 31 = .ok (.iload 4, 2) := by decide +kernel
theorem dX5_blocking_33 : decode cX5_blocking 33 = .ok (.iconst 1, 1) := by decide +kernel
theorem dX5_blocking_34 : decode cX5_blocking 34 = .ok (.iadd, 1) := by decide +kernel
theorem dX5_blocking_35 : decode cX5_blocking 35 = .ok (.istore 5, 2) := by decide +kernel
theorem dX5_blocking_37 : decode cX5_blocking 37 = .ok (.iload 5, 2) := by decide +kernel
theorem dX5_blocking_39 : decode cX5_blocking 39 = .ok (.aload_n 0, 1) := by decide +kernel
theorem dX5_blocking_40 : decode cX5_blocking 40 = .ok (.getfield 19, 3) := by decide +kernel
theorem dX5_blocking_43 : decode cX5_blocking 43 = .ok (.getfield 80, 3) := by decide +kernel
theorem dX5_blocking_46 : decode cX5_blocking 46 = .ok (.if_icmp .ge 42, 3) := by decide +kernel
theorem dX5_blocking_49 : decode cX5_blocking 49 = .ok (.aload_n 0, 1) := by decide +kernel
theorem dX5_blocking_50 : decode cX5_blocking 50 = .ok (.getfield 19, 3) := by decide +kernel
theorem dX5_blocking_53 : decode cX5_blocking 53 = .ok (.iload 4, 2) := by decide +kernel
theorem dX5_blocking_55 : decode cX5_blocking 55 = .ok (.iload 5, 2) := by decide +kernel
theorem dX5_blocking_57 : decode cX5_blocking 57 = .ok (.invokevirtual 128, 3) := by decide +kernel
theorem dX5_blocking_60 : decode cX5_blocking 60 = .ok (.ifCond .eq 22, 3) := by decide +kernel
theorem dX5_blocking_63 : decode cX5_blocking 63 = .ok (.iload_n 3, 1) := by decide +kernel
theorem dX5_blocking_64 : decode cX5_blocking 64 = .ok (.ifCond .ne 15, 3) := by decide +kernel
theorem dX5_blocking_67 : decode cX5_blocking 67 = .ok (.iload_n 2, 1) := by decide +kernel
theorem dX5_blocking_68 : decode cX5_blocking 68 = .ok (.ifCond .eq 8, 3) := by decide +kernel
theorem dX5_blocking_71 : decode cX5_blocking 71 = .ok (.iload 5, 2) := by decide +kernel
theorem dX5_blocking_73 : decode cX5_blocking 73 = .ok (.goto 5, 3) := by decide +kernel
theorem dX5_blocking_76 : decode cX5_blocking 76 = .ok (.iload 4, 2) := by decide +kernel
theorem dX5_blocking_78 : decode cX5_blocking 78 = .ok (.ireturn, 1) := by decide +kernel
theorem dX5_blocking_79 : decode cX5_blocking 79 = .ok (.iinc 3 (-1), 3) := by decide +kernel
theorem dX5_blocking_82 : decode cX5_blocking 82 = .ok (.iinc 5 1, 3) := by decide +kernel
theorem dX5_blocking_85 : decode cX5_blocking 85 = .ok (.goto (-48), 3) := by decide +kernel
theorem dX5_blocking_88 : decode cX5_blocking 88 = .ok (.iinc 4 1, 3) := by decide +kernel
theorem dX5_blocking_91 : decode cX5_blocking 91 = .ok (.goto (-72), 3) := by decide +kernel
theorem dX5_blocking_94 : decode cX5_blocking 94 = .ok (.sipush (-9999), 3) := by decide +kernel
theorem dX5_blocking_97 : decode cX5_blocking 97 = .ok (.ireturn, 1) := by decide +kernel
set_option maxRecDepth 20000 in
theorem ggX5_bestPartner_X5_requireMember : GoodIn wsX5_bestPartner wsX5_requireMember := goodIn_ca (goodIn_r _ [7, 8, 9, 1, 10, 11, 12, 13, 14, 15, 42, 43, 44, 45, 46, 47, 48, 49, 50, 51] (by decide +kernel) (by decide +kernel)) (goodIn_sub (fun _ h => List.mem_cons_of_mem _ (List.mem_append_right _ h)) (by decide +kernel))
set_option maxRecDepth 20000 in
theorem gX5_bestPartner_X5_requireMember : GoodIn wsX5_bestPartner (wsV RX5 106 RX5 yX5_requireMember wsX5_requireMember) := goodIn_app (goodIn_of _ (by decide +kernel)) ggX5_bestPartner_X5_requireMember
set_option maxRecDepth 20000 in
theorem ggX5_bestPartner_X1_fit : GoodIn wsX5_bestPartner wsX1_fit := goodIn_r _ [19, 20, 21, 22, 13, 23, 24, 25, 26, 49, 50, 51, 52, 53, 54, 55, 56, 57, 58] (by decide +kernel) (by decide +kernel)
set_option maxRecDepth 20000 in
theorem gX5_bestPartner_X1_fit : GoodIn wsX5_bestPartner (wsV RX5 124 RX1 yX1_fit wsX1_fit) := goodIn_app (goodIn_of _ (by decide +kernel)) ggX5_bestPartner_X1_fit
set_option maxRecDepth 20000 in
theorem ggX5_bestPartner_X1_isFree : GoodIn wsX5_bestPartner wsX1_isFree := goodIn_r _ [30, 24, 31, 49, 50, 51, 52, 53, 54, 55, 56, 57, 58] (by decide +kernel) (by decide +kernel)
set_option maxRecDepth 20000 in
theorem gX5_bestPartner_X1_isFree : GoodIn wsX5_bestPartner (wsV RX5 205 RX1 yX1_isFree wsX1_isFree) := goodIn_app (goodIn_of _ (by decide +kernel)) ggX5_bestPartner_X1_isFree
set_option maxRecDepth 20000 in
theorem ggX5_bestPartner_X1_score : GoodIn wsX5_bestPartner wsX1_score := goodIn_r _ [35, 24, 36, 37, 20, 21, 22, 13, 23, 25, 26, 38, 39, 40, 41, 49, 50, 51, 52, 53, 54, 55, 56, 57, 58] (by decide +kernel) (by decide +kernel)
set_option maxRecDepth 20000 in
theorem gX5_bestPartner_X1_score : GoodIn wsX5_bestPartner (wsV RX5 118 RX1 yX1_score wsX1_score) := goodIn_app (goodIn_of _ (by decide +kernel)) ggX5_bestPartner_X1_score
theorem dX5_bestPartner_0 : decode cX5_bestPartner 0 = .ok (.aload_n 0, 1) := by decide +kernel
theorem dX5_bestPartner_1 : decode cX5_bestPartner 1 = .ok (.iload_n 1, 1) := by decide +kernel
theorem dX5_bestPartner_2 : decode cX5_bestPartner 2 = .ok (.invokevirtual 106, 3) := by decide +kernel
theorem dX5_bestPartner_5 : decode cX5_bestPartner 5 = .ok (.sipush (-9999), 3) := by decide +kernel
theorem dX5_bestPartner_8 : decode cX5_bestPartner 8 = .ok (.istore_n 3, 1) := by decide +kernel
theorem dX5_bestPartner_9 : decode cX5_bestPartner 9 = .ok (.iconst 0, 1) := by decide +kernel
theorem dX5_bestPartner_10 : decode cX5_bestPartner 10 = .ok (.istore 4, 2) := by decide +kernel
theorem dX5_bestPartner_12 : decode cX5_bestPartner 12 = .ok (.iconst 0, 1) := by decide +kernel
theorem dX5_bestPartner_13 : decode cX5_bestPartner 13 = .ok (.istore 5, 2) := by decide +kernel
theorem dX5_bestPartner_15 : decode cX5_bestPartner 15 = .ok (.iload 5, 2) := by decide +kernel
theorem dX5_bestPartner_17 : decode cX5_bestPartner 17 = .ok (.aload_n 0, 1) := by decide +kernel
theorem dX5_bestPartner_18 : decode cX5_bestPartner 18 = .ok (.getfield 19, 3) := by decide +kernel
theorem dX5_bestPartner_21 : decode cX5_bestPartner 21 = .ok (.getfield 80, 3) := by decide +kernel
theorem dX5_bestPartner_24 : decode cX5_bestPartner 24 = .ok (.if_icmp .ge 71, 3) := by decide +kernel
theorem dX5_bestPartner_27 : decode cX5_bestPartner 27 = .ok (.aload_n 0, 1) := by decide +kernel
theorem dX5_bestPartner_28 : decode cX5_bestPartner 28 = .ok (.getfield 19, 3) := by decide +kernel
theorem dX5_bestPartner_31 : decode cX5_bestPartner 31 = .ok (.iload_n 1, 1) := by decide +kernel
theorem dX5_bestPartner_32 : decode cX5_bestPartner 32 = .ok (.iload 5, 2) := by decide +kernel
theorem dX5_bestPartner_34 : decode cX5_bestPartner 34 = .ok (.invokevirtual 124, 3) := by decide +kernel
theorem dX5_bestPartner_37 : decode cX5_bestPartner 37 = .ok (.ifCond .eq 52, 3) := by decide +kernel
theorem dX5_bestPartner_40 : decode cX5_bestPartner 40 = .ok (.iload_n 2, 1) := by decide +kernel
theorem dX5_bestPartner_41 : decode cX5_bestPartner 41 = .ok (.ifCond .eq 15, 3) := by decide +kernel
theorem dX5_bestPartner_44 : decode cX5_bestPartner 44 = .ok (.aload_n 0, 1) := by decide +kernel
theorem dX5_bestPartner_45 : decode cX5_bestPartner 45 = .ok (.getfield 19, 3) := by decide +kernel
theorem dX5_bestPartner_48 : decode cX5_bestPartner 48 = .ok (.iload 5, 2) := by decide +kernel
theorem dX5_bestPartner_50 : decode cX5_bestPartner 50 = .ok (.invokevirtual 205, 3) := by decide +kernel
theorem dX5_bestPartner_53 : decode cX5_bestPartner 53 = .ok (.ifCond .eq 36, 3) := by decide +kernel
theorem dX5_bestPartner_56 : decode cX5_bestPartner 56 = .ok (.aload_n 0, 1) := by decide +kernel
theorem dX5_bestPartner_57 : decode cX5_bestPartner 57 = .ok (.getfield 19, 3) := by decide +kernel
theorem dX5_bestPartner_60 : decode cX5_bestPartner 60 = .ok (.iload_n 1, 1) := by decide +kernel
theorem dX5_bestPartner_61 : decode cX5_bestPartner 61 = .ok (.iload 5, 2) := by decide +kernel
theorem dX5_bestPartner_63 : decode cX5_bestPartner 63 = .ok (.invokevirtual 118, 3) := by decide +kernel
theorem dX5_bestPartner_66 : decode cX5_bestPartner 66 = .ok (.istore 6, 2) := by decide +kernel
theorem dX5_bestPartner_68 : decode cX5_bestPartner 68 = .ok (.iload_n 3, 1) := by decide +kernel
theorem dX5_bestPartner_69 : decode cX5_bestPartner 69 = .ok (.sipush (-9999), 3) := by decide +kernel
theorem dX5_bestPartner_72 : decode cX5_bestPartner 72 = .ok (.if_icmp .eq 10, 3) := by decide +kernel
theorem dX5_bestPartner_75 : decode cX5_bestPartner 75 = .ok (.iload 6, 2) := by decide +kernel
theorem dX5_bestPartner_77 : decode cX5_bestPartner 77 = .ok (.iload 4, 2) := by decide +kernel
theorem dX5_bestPartner_79 : decode cX5_bestPartner 79 = .ok (.if_icmp .le 10, 3) := by decide +kernel
theorem dX5_bestPartner_82 : decode cX5_bestPartner 82 = .ok (.iload 5, 2) := by decide +kernel
theorem dX5_bestPartner_84 : decode cX5_bestPartner 84 = .ok (.istore_n 3, 1) := by decide +kernel
theorem dX5_bestPartner_85 : decode cX5_bestPartner 85 = .ok (.iload 6, 2) := by decide +kernel
theorem dX5_bestPartner_87 : decode cX5_bestPartner 87 = .ok (.istore 4, 2) := by decide +kernel
theorem dX5_bestPartner_89 : decode cX5_bestPartner 89 = .ok (.iinc 5 1, 3) := by decide +kernel
theorem dX5_bestPartner_92 : decode cX5_bestPartner 92 = .ok (.goto (-77), 3) := by decide +kernel
theorem dX5_bestPartner_95 : decode cX5_bestPartner 95 = .ok (.iload_n 3, 1) := by decide +kernel
theorem dX5_bestPartner_96 : decode cX5_bestPartner 96 = .ok (.ireturn, 1) := by decide +kernel
set_option maxRecDepth 20000 in
theorem ggX5_best_X5_requireRange : GoodIn wsX5_best wsX5_requireRange := goodIn_ca (goodIn_r _ [6, 7, 8] (by decide +kernel) (by decide +kernel)) (goodIn_sub (fun _ h => List.mem_cons_of_mem _ (List.mem_append_right _ h)) (by decide +kernel))
set_option maxRecDepth 20000 in
theorem gX5_best_X5_requireRange : GoodIn wsX5_best (va_wsS RX5 48 yX5_requireRange wsX5_requireRange) := goodIn_app (goodIn_of _ (by decide +kernel)) ggX5_best_X5_requireRange
set_option maxRecDepth 20000 in
theorem ggX5_best_X0_fill : GoodIn wsX5_best wsX0_fill := goodIn_r _ [13, 14, 15, 16, 17, 18, 12, 19, 20, 21, 22, 23, 24, 25, 26, 27, 28, 29, 30, 31, 32, 33, 34, 35, 36, 37, 38, 39, 40, 41, 42, 43, 44, 45, 46, 47, 48, 49, 50, 73, 74, 75, 76, 77, 78, 79, 80, 81, 82, 83] (by decide +kernel) (by decide +kernel)
set_option maxRecDepth 20000 in
theorem gX5_best_X0_fill : GoodIn wsX5_best (wsV RX5 209 RX0 yX0_fill wsX0_fill) := goodIn_app (goodIn_of _ (by decide +kernel)) ggX5_best_X0_fill
set_option maxRecDepth 20000 in
theorem ggX5_best_X0_rankOfAll : GoodIn wsX5_best wsX0_rankOfAll := goodIn_r _ [54, 14, 15, 73, 74, 75, 76] (by decide +kernel) (by decide +kernel)
set_option maxRecDepth 20000 in
theorem gX5_best_X0_rankOfAll : GoodIn wsX5_best (wsV RX5 212 RX0 yX0_rankOfAll wsX0_rankOfAll) := goodIn_app (goodIn_of _ (by decide +kernel)) ggX5_best_X0_rankOfAll
set_option maxRecDepth 20000 in
theorem ggX5_best_X0_pairsOf : GoodIn wsX5_best wsX0_pairsOf := goodIn_r _ [58, 59, 20, 60, 48, 49, 50] (by decide +kernel) (by decide +kernel)
set_option maxRecDepth 20000 in
theorem gX5_best_X0_pairsOf : GoodIn wsX5_best (wsV RX5 216 RX0 yX0_pairsOf wsX0_pairsOf) := goodIn_app (goodIn_of _ (by decide +kernel)) ggX5_best_X0_pairsOf
set_option maxRecDepth 20000 in
theorem ggX5_best_X0_sumOf : GoodIn wsX5_best wsX0_sumOf := goodIn_r _ [64, 20, 65, 56, 57, 12, 58, 59, 60, 48, 49, 50] (by decide +kernel) (by decide +kernel)
set_option maxRecDepth 20000 in
theorem gX5_best_X0_sumOf : GoodIn wsX5_best (wsV RX5 219 RX0 yX0_sumOf wsX0_sumOf) := goodIn_app (goodIn_of _ (by decide +kernel)) ggX5_best_X0_sumOf
theorem dX5_best_0 : decode cX5_best 0 = .ok (.iload_n 1, 1) := by decide +kernel
theorem dX5_best_1 : decode cX5_best 1 = .ok (.iconst 0, 1) := by decide +kernel
theorem dX5_best_2 : decode cX5_best 2 = .ok (.iconst 1, 1) := by decide +kernel
theorem dX5_best_3 : decode cX5_best 3 = .ok (.invokestatic 48, 3) := by decide +kernel
theorem dX5_best_6 : decode cX5_best 6 = .ok (.aload_n 0, 1) := by decide +kernel
theorem dX5_best_7 : decode cX5_best 7 = .ok (.getfield 44, 3) := by decide +kernel
theorem dX5_best_10 : decode cX5_best 10 = .ok (.aload_n 0, 1) := by decide +kernel
theorem dX5_best_11 : decode cX5_best 11 = .ok (.getfield 19, 3) := by decide +kernel
theorem dX5_best_14 : decode cX5_best 14 = .ok (.invokevirtual 209, 3) := by decide +kernel
theorem dX5_best_17 : decode cX5_best 17 = .ok (.aload_n 0, 1) := by decide +kernel
theorem dX5_best_18 : decode cX5_best 18 = .ok (.getfield 44, 3) := by decide +kernel
theorem dX5_best_21 : decode cX5_best 21 = .ok (.aload_n 0, 1) := by decide +kernel
theorem dX5_best_22 : decode cX5_best 22 = .ok (.getfield 19, 3) := by decide +kernel
theorem dX5_best_25 : decode cX5_best 25 = .ok (.invokevirtual 212, 3) := by decide +kernel
theorem dX5_best_28 : decode cX5_best 28 = .ok (.istore_n 2, 1) := by decide +kernel
theorem dX5_best_29 : decode cX5_best 29 = .ok (.iload_n 1, 1) := by decide +kernel
theorem dX5_best_30 : decode cX5_best 30 = .ok (.ifCond .ne 14, 3) := by decide +kernel
theorem dX5_best_33 : decode cX5_best 33 = .ok (.aload_n 0, 1) := by decide +kernel
theorem dX5_best_34 : decode cX5_best 34 = .ok (.getfield 44, 3) := by decide +kernel
theorem dX5_best_37 : decode cX5_best 37 = .ok (.iload_n 2, 1) := by decide +kernel
theorem dX5_best_38 : decode cX5_best 38 = .ok (.invokevirtual 216, 3) := by decide +kernel
theorem dX5_best_41 : decode cX5_best 41 = .ok (.goto 11, 3) := by decide +kernel
theorem dX5_best_44 : decode cX5_best 44 = .ok (.aload_n 0, 1) := by decide +kernel
theorem dX5_best_45 : decode cX5_best 45 = .ok (.getfield 44, 3) := by decide +kernel
theorem dX5_best_48 : decode cX5_best 48 = .ok (.iload_n 2, 1) := by decide +kernel
theorem dX5_best_49 : decode cX5_best 49 = .ok (.invokevirtual 219, 3) := by decide +kernel
theorem dX5_best_52 : decode cX5_best 52 = .ok (.ireturn, 1) := by decide +kernel
set_option maxRecDepth 20000 in
theorem ggX5_missedMost_X0_fill : GoodIn wsX5_missedMost wsX0_fill := goodIn_r _ [8, 9, 10, 11, 12, 13, 7, 14, 15, 16, 17, 18, 19, 20, 21, 22, 23, 24, 25, 26, 27, 28, 29, 30, 31, 32, 33, 34, 35, 36, 37, 38, 39, 40, 41, 42, 43, 44, 45, 60, 57, 58, 59, 61, 62, 63, 64, 65, 66, 67] (by decide +kernel) (by decide +kernel)
set_option maxRecDepth 20000 in
theorem gX5_missedMost_X0_fill : GoodIn wsX5_missedMost (wsV RX5 209 RX0 yX0_fill wsX0_fill) := goodIn_app (goodIn_of _ (by decide +kernel)) ggX5_missedMost_X0_fill
set_option maxRecDepth 20000 in
theorem ggX5_missedMost_X0_rankWithout : GoodIn wsX5_missedMost wsX0_rankWithout := goodIn_r _ [49, 9, 10, 60, 57, 58, 59] (by decide +kernel) (by decide +kernel)
set_option maxRecDepth 20000 in
theorem gX5_missedMost_X0_rankWithout : GoodIn wsX5_missedMost (wsV RX5 222 RX0 yX0_rankWithout wsX0_rankWithout) := goodIn_app (goodIn_of _ (by decide +kernel)) ggX5_missedMost_X0_rankWithout
theorem dX5_missedMost_0 : decode cX5_missedMost 0 = .ok (.aload_n 0, 1) := by decide +kernel
theorem dX5_missedMost_1 : decode cX5_missedMost 1 = .ok (.getfield 44, 3) := by decide +kernel
theorem dX5_missedMost_4 : decode cX5_missedMost 4 = .ok (.aload_n 0, 1) := by decide +kernel
theorem dX5_missedMost_5 : decode cX5_missedMost 5 = .ok (.getfield 19, 3) := by decide +kernel
theorem dX5_missedMost_8 : decode cX5_missedMost 8 = .ok (.invokevirtual 209, 3) := by decide +kernel
theorem dX5_missedMost_11 : decode cX5_missedMost 11 = .ok (.sipush (-9999), 3) := by decide +kernel
theorem dX5_missedMost_14 : decode cX5_missedMost 14 = .ok (.istore_n 1, 1) := by decide +kernel
theorem dX5_missedMost_15 : decode cX5_missedMost 15 = .ok (.iconst 0, 1) := by decide +kernel
theorem dX5_missedMost_16 : decode cX5_missedMost 16 = .ok (.istore_n 2, 1) := by decide +kernel
theorem dX5_missedMost_17 : decode cX5_missedMost 17 = .ok (.iconst 0, 1) := by decide +kernel
theorem dX5_missedMost_18 : decode cX5_missedMost 18 = .ok (.istore_n 3, 1) := by decide +kernel
theorem dX5_missedMost_19 : decode cX5_missedMost 19 = .ok (.iload_n 3, 1) := by decide +kernel
theorem dX5_missedMost_20 : decode cX5_missedMost 20 = .ok (.aload_n 0, 1) := by decide +kernel
theorem dX5_missedMost_21 : decode cX5_missedMost 21 = .ok (.getfield 19, 3) := by decide +kernel
theorem dX5_missedMost_24 : decode cX5_missedMost 24 = .ok (.getfield 80, 3) := by decide +kernel
theorem dX5_missedMost_27 : decode cX5_missedMost 27 = .ok (.if_icmp .ge 41, 3) := by decide +kernel
theorem dX5_missedMost_30 : decode cX5_missedMost 30 = .ok (.aload_n 0, 1) := by decide +kernel
theorem dX5_missedMost_31 : decode cX5_missedMost 31 = .ok (.getfield 44, 3) := by decide +kernel
theorem dX5_missedMost_34 : decode cX5_missedMost 34 = .ok (.aload_n 0, 1) := by decide +kernel
theorem dX5_missedMost_35 : decode cX5_missedMost 35 = .ok (.getfield 19, 3) := by decide +kernel
theorem dX5_missedMost_38 : decode cX5_missedMost 38 = .ok (.iload_n 3, 1) := by decide +kernel
theorem dX5_missedMost_39 : decode cX5_missedMost 39 = .ok (.invokevirtual 222, 3) := by decide +kernel
theorem dX5_missedMost_42 : decode cX5_missedMost 42 = .ok (.istore 4, 2) := by decide +kernel
theorem dX5_missedMost_44 : decode cX5_missedMost 44 = .ok (.iload_n 1, 1) := by decide +kernel
theorem dX5_missedMost_45 : decode cX5_missedMost 45 = .ok (.sipush (-9999), 3) := by decide +kernel
theorem dX5_missedMost_48 : decode cX5_missedMost 48 = .ok (.if_icmp .eq 9, 3) := by decide +kernel
theorem dX5_missedMost_51 : decode cX5_missedMost 51 = .ok (.iload 4, 2) := by decide +kernel
theorem dX5_missedMost_53 : decode cX5_missedMost 53 = .ok (.iload_n 2, 1) := by decide +kernel
theorem dX5_missedMost_54 : decode cX5_missedMost 54 = .ok (.if_icmp .ge 8, 3) := by decide +kernel
theorem dX5_missedMost_57 : decode cX5_missedMost 57 = .ok (.iload_n 3, 1) := by decide +kernel
theorem dX5_missedMost_58 : decode cX5_missedMost 58 = .ok (.istore_n 1, 1) := by decide +kernel
theorem dX5_missedMost_59 : decode cX5_missedMost 59 = .ok (.iload 4, 2) := by decide +kernel
theorem dX5_missedMost_61 : decode cX5_missedMost 61 = .ok (.istore_n 2, 1) := by decide +kernel
theorem dX5_missedMost_62 : decode cX5_missedMost 62 = .ok (.iinc 3 1, 3) := by decide +kernel
theorem dX5_missedMost_65 : decode cX5_missedMost 65 = .ok (.goto (-46), 3) := by decide +kernel
theorem dX5_missedMost_68 : decode cX5_missedMost 68 = .ok (.iload_n 1, 1) := by decide +kernel
theorem dX5_missedMost_69 : decode cX5_missedMost 69 = .ok (.ireturn, 1) := by decide +kernel
set_option maxRecDepth 20000 in
theorem ggX5_ahead_X5_requireMember : GoodIn wsX5_ahead wsX5_requireMember := goodIn_ca (goodIn_r _ [7, 8, 9, 2, 10, 11, 12, 13, 14, 15, 115, 116, 117, 118, 119, 120, 121, 122, 123, 124] (by decide +kernel) (by decide +kernel)) (goodIn_sub (fun _ h => List.mem_cons_of_mem _ (List.mem_append_left _ (List.mem_append_right _ h))) (by decide +kernel))
set_option maxRecDepth 20000 in
theorem gX5_ahead_X5_requireMember : GoodIn wsX5_ahead (wsV RX5 106 RX5 yX5_requireMember wsX5_requireMember) := goodIn_app (goodIn_of _ (by decide +kernel)) ggX5_ahead_X5_requireMember
set_option maxRecDepth 20000 in
theorem ggX5_ahead_X5_requireRange : GoodIn wsX5_ahead wsX5_requireRange := goodIn_ca (goodIn_r _ [18, 19, 20] (by decide +kernel) (by decide +kernel)) (goodIn_sub (fun _ h => List.mem_cons_of_mem _ (List.mem_append_right _ h)) (by decide +kernel))
set_option maxRecDepth 20000 in
theorem gX5_ahead_X5_requireRange : GoodIn wsX5_ahead (va_wsS RX5 48 yX5_requireRange wsX5_requireRange) := goodIn_app (goodIn_of _ (by decide +kernel)) ggX5_ahead_X5_requireRange
set_option maxRecDepth 20000 in
theorem ggX5_ahead_X1_copyFrom : GoodIn wsX5_ahead wsX1_copyFrom := goodIn_r _ [24, 15, 25, 26, 27, 28, 29, 30, 31, 32, 33, 34, 35, 36, 37, 38, 39, 40, 41, 42, 122, 123, 124, 125, 126, 127, 128, 129, 130, 131] (by decide +kernel) (by decide +kernel)
set_option maxRecDepth 20000 in
theorem gX5_ahead_X1_copyFrom : GoodIn wsX5_ahead (wsV RX5 226 RX1 yX1_copyFrom wsX1_copyFrom) := goodIn_app (goodIn_of _ (by decide +kernel)) ggX5_ahead_X1_copyFrom
set_option maxRecDepth 20000 in
theorem ggX5_ahead_X1_passWeek : GoodIn wsX5_ahead wsX1_passWeek := goodIn_r _ [46, 15, 25, 47, 26, 48, 49, 50, 13, 51, 52, 53, 11, 12, 14, 54, 55, 56, 57, 58, 59, 60, 30, 61, 42, 40, 62, 63, 64, 65, 39, 66, 67, 68, 69, 70, 71, 72, 73, 74, 75, 76, 77, 78, 79, 80, 81, 82, 83, 84, 85, 86, 87, 88, 89, 90, 91, 38, 32, 37, 92, 93, 94, 95, 96, 97, 98, 99, 122, 123, 124, 125, 126, 127, 128, 129, 130, 131] (by decide +kernel) (by decide +kernel)
set_option maxRecDepth 20000 in
theorem gX5_ahead_X1_passWeek : GoodIn wsX5_ahead (wsV RX5 192 RX1 yX1_passWeek wsX1_passWeek) := goodIn_app (goodIn_of _ (by decide +kernel)) ggX5_ahead_X1_passWeek
set_option maxRecDepth 20000 in
theorem ggX5_ahead_X1_numberOf : GoodIn wsX5_ahead wsX1_numberOf := goodIn_r _ [103, 25, 83, 82, 104, 105, 106, 52, 47, 107, 108, 109, 13, 110, 111, 112, 113, 114, 15, 92, 93, 94, 95, 78, 79, 80, 81, 122, 123, 124, 125, 126, 127, 128, 129, 130, 131] (by decide +kernel) (by decide +kernel)
set_option maxRecDepth 20000 in
theorem gX5_ahead_X1_numberOf : GoodIn wsX5_ahead (wsV RX5 110 RX1 yX1_numberOf wsX1_numberOf) := goodIn_app (goodIn_of _ (by decide +kernel)) ggX5_ahead_X1_numberOf
theorem dX5_ahead_0 : decode cX5_ahead 0 = .ok (.aload_n 0, 1) := by decide +kernel
theorem dX5_ahead_1 : decode cX5_ahead 1 = .ok (.iload_n 1, 1) := by decide +kernel
theorem dX5_ahead_2 : decode cX5_ahead 2 = .ok (.invokevirtual 106, 3) := by decide +kernel
theorem dX5_ahead_5 : decode cX5_ahead 5 = .ok (.iload_n 2, 1) := by decide +kernel
theorem dX5_ahead_6 : decode cX5_ahead 6 = .ok (.iconst 0, 1) := by decide +kernel
theorem dX5_ahead_7 : decode cX5_ahead 7 = .ok (.bipush 60, 2) := by decide +kernel
theorem dX5_ahead_9 : decode cX5_ahead 9 = .ok (.invokestatic 48, 3) := by decide +kernel
theorem dX5_ahead_12 : decode cX5_ahead 12 = .ok (.iload_n 3, 1) := by decide +kernel
theorem dX5_ahead_13 : decode cX5_ahead 13 = .ok (.iconst 0, 1) := by decide +kernel
theorem dX5_ahead_14 : decode cX5_ahead 14 = .ok (.sipush 511, 3) := by decide +kernel
theorem dX5_ahead_17 : decode cX5_ahead 17 = .ok (.invokestatic 48, 3) := by decide +kernel
theorem dX5_ahead_20 : decode cX5_ahead 20 = .ok (.iload 4, 2) := by decide +kernel
theorem dX5_ahead_22 : decode cX5_ahead 22 = .ok (.iconst 0, 1) := by decide +kernel
theorem dX5_ahead_23 : decode cX5_ahead 23 = .ok (.bipush 10, 2) := by decide +kernel
theorem dX5_ahead_25 : decode cX5_ahead 25 = .ok (.invokestatic 48, 3) := by decide +kernel
theorem dX5_ahead_28 : decode cX5_ahead 28 = .ok (.aload_n 0, 1) := by decide +kernel
theorem dX5_ahead_29 : decode cX5_ahead 29 = .ok (.getfield 23, 3) := by decide +kernel
theorem dX5_ahead_32 : decode cX5_ahead 32 = .ok (.aload_n 0, 1) := by decide +kernel
theorem dX5_ahead_33 : decode cX5_ahead 33 = .ok (.getfield 19, 3) := by decide +kernel
theorem dX5_ahead_36 : decode cX5_ahead 36 = .ok (.invokevirtual 226, 3) := by decide +kernel
theorem dX5_ahead_39 : decode cX5_ahead 39 = .ok (.iconst 0, 1) := by decide +kernel
theorem dX5_ahead_40 : decode cX5_ahead 40 = .ok (.istore 5, 2) := by decide +kernel
theorem dX5_ahead_42 : decode cX5_ahead 42 = .ok (.iload 5, 2) := by decide +kernel
theorem dX5_ahead_44 : decode cX5_ahead 44 = .ok (.iload_n 2, 1) := by decide +kernel
theorem dX5_ahead_45 : decode cX5_ahead 45 = .ok (.if_icmp .ge 17, 3) := by decide +kernel
theorem dX5_ahead_48 : decode cX5_ahead 48 = .ok (.aload_n 0, 1) := by decide +kernel
theorem dX5_ahead_49 : decode cX5_ahead 49 = .ok (.getfield 23, 3) := by decide +kernel
theorem dX5_ahead_52 : decode cX5_ahead 52 = .ok (.iload_n 3, 1) := by decide +kernel
theorem dX5_ahead_53 : decode cX5_ahead 53 = .ok (.invokevirtual 192, 3) := by decide +kernel
theorem dX5_ahead_56 : decode cX5_ahead 56 = .ok (.iinc 5 1, 3) := by decide +kernel
theorem dX5_ahead_59 : decode cX5_ahead 59 = .ok (.goto (-17), 3) := by decide +kernel
theorem dX5_ahead_62 : decode cX5_ahead 62 = .ok (.aload_n 0, 1) := by decide +kernel
theorem dX5_ahead_63 : decode cX5_ahead 63 = .ok (.getfield 23, 3) := by decide +kernel
theorem dX5_ahead_66 : decode cX5_ahead 66 = .ok (.iload_n 1, 1) := by decide +kernel
theorem dX5_ahead_67 : decode cX5_ahead 67 = .ok (.iload 4, 2) := by decide +kernel
theorem dX5_ahead_69 : decode cX5_ahead 69 = .ok (.invokevirtual 110, 3) := by decide +kernel
theorem dX5_ahead_72 : decode cX5_ahead 72 = .ok (.ireturn, 1) := by decide +kernel
set_option maxRecDepth 20000 in
theorem ggX5_levelAfter_X5_requireMember : GoodIn wsX5_levelAfter wsX5_requireMember := goodIn_ca (goodIn_r _ [8, 9, 10, 2, 11, 12, 13, 14, 15, 16, 139, 140, 141, 142, 143, 144, 145, 146, 147, 148] (by decide +kernel) (by decide +kernel)) (goodIn_sub (fun _ h => List.mem_cons_of_mem _ (List.mem_append_left _ (List.mem_append_right _ h))) (by decide +kernel))
set_option maxRecDepth 20000 in
theorem gX5_levelAfter_X5_requireMember : GoodIn wsX5_levelAfter (wsV RX5 106 RX5 yX5_requireMember wsX5_requireMember) := goodIn_app (goodIn_of _ (by decide +kernel)) ggX5_levelAfter_X5_requireMember
set_option maxRecDepth 20000 in
theorem ggX5_levelAfter_X5_requireRange : GoodIn wsX5_levelAfter wsX5_requireRange := goodIn_ca (goodIn_r _ [19, 20, 21] (by decide +kernel) (by decide +kernel)) (goodIn_sub (fun _ h => List.mem_cons_of_mem _ (List.mem_append_right _ h)) (by decide +kernel))
set_option maxRecDepth 20000 in
theorem gX5_levelAfter_X5_requireRange : GoodIn wsX5_levelAfter (va_wsS RX5 48 yX5_requireRange wsX5_requireRange) := goodIn_app (goodIn_of _ (by decide +kernel)) ggX5_levelAfter_X5_requireRange
set_option maxRecDepth 20000 in
theorem ggX5_levelAfter_X1_copyFrom : GoodIn wsX5_levelAfter wsX1_copyFrom := goodIn_r _ [25, 16, 26, 27, 28, 29, 30, 31, 32, 33, 34, 35, 36, 37, 38, 39, 40, 41, 42, 43, 146, 147, 148, 149, 150, 151, 152, 153, 154, 155] (by decide +kernel) (by decide +kernel)
set_option maxRecDepth 20000 in
theorem gX5_levelAfter_X1_copyFrom : GoodIn wsX5_levelAfter (wsV RX5 226 RX1 yX1_copyFrom wsX1_copyFrom) := goodIn_app (goodIn_of _ (by decide +kernel)) ggX5_levelAfter_X1_copyFrom
set_option maxRecDepth 20000 in
theorem ggX5_levelAfter_X3_wantedLevel : GoodIn wsX5_levelAfter wsX3_wantedLevel := goodIn_r _ [47, 33, 38, 149, 150, 151, 152, 153, 154, 155] (by decide +kernel) (by decide +kernel)
set_option maxRecDepth 20000 in
theorem gX5_levelAfter_X3_wantedLevel : GoodIn wsX5_levelAfter (wsV RX5 229 RX3 yX3_wantedLevel wsX3_wantedLevel) := goodIn_app (goodIn_of _ (by decide +kernel)) ggX5_levelAfter_X3_wantedLevel
set_option maxRecDepth 20000 in
theorem ggX5_levelAfter_X1_matchFree : GoodIn wsX5_levelAfter wsX1_matchFree := goodIn_r _ [51, 52, 53, 54, 14, 55, 16, 56, 57, 58, 59, 60, 61, 62, 63, 26, 64, 65, 66, 67, 68, 69, 70, 71, 72, 73, 74, 75, 76, 77, 78, 79, 80, 81, 82, 83, 84, 85, 86, 87, 88, 89, 12, 13, 15, 90, 91, 92, 93, 94, 146, 147, 148, 149, 150, 151, 152, 153, 154, 155] (by decide +kernel) (by decide +kernel)
set_option maxRecDepth 20000 in
theorem gX5_levelAfter_X1_matchFree : GoodIn wsX5_levelAfter (wsV RX5 185 RX1 yX1_matchFree wsX1_matchFree) := goodIn_app (goodIn_of _ (by decide +kernel)) ggX5_levelAfter_X1_matchFree
set_option maxRecDepth 20000 in
theorem ggX5_levelAfter_X1_passWeek : GoodIn wsX5_levelAfter wsX1_passWeek := goodIn_r _ [98, 16, 26, 94, 27, 99, 100, 101, 14, 102, 64, 89, 12, 13, 15, 103, 104, 105, 106, 107, 108, 109, 31, 110, 43, 41, 111, 112, 113, 114, 40, 115, 116, 117, 118, 119, 120, 121, 122, 123, 124, 125, 126, 69, 70, 71, 72, 73, 74, 127, 128, 129, 130, 131, 132, 133, 134, 39, 33, 38, 65, 66, 67, 68, 135, 136, 137, 138, 146, 147, 148, 149, 150, 151, 152, 153, 154, 155] (by decide +kernel) (by decide +kernel)
set_option maxRecDepth 20000 in
theorem gX5_levelAfter_X1_passWeek : GoodIn wsX5_levelAfter (wsV RX5 192 RX1 yX1_passWeek wsX1_passWeek) := goodIn_app (goodIn_of _ (by decide +kernel)) ggX5_levelAfter_X1_passWeek
theorem dX5_levelAfter_0 : decode cX5_levelAfter 0 = .ok (.aload_n 0, 1) := by decide +kernel
theorem dX5_levelAfter_1 : decode cX5_levelAfter 1 = .ok (.iload_n 1, 1) := by decide +kernel
theorem dX5_levelAfter_2 : decode cX5_levelAfter 2 = .ok (.invokevirtual 106, 3) := by decide +kernel
theorem dX5_levelAfter_5 : decode cX5_levelAfter 5 = .ok (.iload_n 2, 1) := by decide +kernel
theorem dX5_levelAfter_6 : decode cX5_levelAfter 6 = .ok (.iconst 0, 1) := by decide +kernel
theorem dX5_levelAfter_7 : decode cX5_levelAfter 7 = .ok (.bipush 9, 2) := by decide +kernel
theorem dX5_levelAfter_9 : decode cX5_levelAfter 9 = .ok (.invokestatic 48, 3) := by decide +kernel
theorem dX5_levelAfter_12 : decode cX5_levelAfter 12 = .ok (.aload_n 0, 1) := by decide +kernel
theorem dX5_levelAfter_13 : decode cX5_levelAfter 13 = .ok (.getfield 23, 3) := by decide +kernel
theorem dX5_levelAfter_16 : decode cX5_levelAfter 16 = .ok (.aload_n 0, 1) := by decide +kernel
theorem dX5_levelAfter_17 : decode cX5_levelAfter 17 = .ok (.getfield 19, 3) := by decide +kernel
theorem dX5_levelAfter_20 : decode cX5_levelAfter 20 = .ok (.invokevirtual 226, 3) := by decide +kernel
theorem dX5_levelAfter_23 : decode cX5_levelAfter 23 = .ok (.iconst 0, 1) := by decide +kernel
theorem dX5_levelAfter_24 : decode cX5_levelAfter 24 = .ok (.istore_n 3, 1) := by decide +kernel
theorem dX5_levelAfter_25 : decode cX5_levelAfter 25 = .ok (.iload_n 3, 1) := by decide +kernel
theorem dX5_levelAfter_26 : decode cX5_levelAfter 26 = .ok (.bipush 100, 2) := by decide +kernel
theorem dX5_levelAfter_28 : decode cX5_levelAfter 28 = .ok (.if_icmp .gt 43, 3) := by decide +kernel
theorem dX5_levelAfter_31 : decode cX5_levelAfter 31 = .ok (.aload_n 0, 1) := by decide +kernel
theorem dX5_levelAfter_32 : decode cX5_levelAfter 32 = .ok (.getfield 23, 3) := by decide +kernel
theorem dX5_levelAfter_35 : decode cX5_levelAfter 35 = .ok (.getfield 143, 3) := by decide +kernel
theorem dX5_levelAfter_38 : decode cX5_levelAfter 38 = .ok (.iload_n 1, 1) := by decide +kernel
theorem dX5_levelAfter_39 : decode cX5_levelAfter 39 = .ok (.aaload, 1) := by decide +kernel
theorem dX5_levelAfter_40 : decode cX5_levelAfter 40 = .ok (.invokevirtual 229, 3) := by decide +kernel
theorem dX5_levelAfter_43 : decode cX5_levelAfter 43 = .ok (.iload_n 2, 1) := by decide +kernel
theorem dX5_levelAfter_44 : decode cX5_levelAfter 44 = .ok (.if_icmp .lt 5, 3) := by decide +kernel
theorem dX5_levelAfter_47 : decode cX5_levelAfter 47 = .ok (.iload_n 3, 1) := by decide +kernel
theorem dX5_levelAfter_48 : decode cX5_levelAfter 48 = .ok (.ireturn, 1) := by decide +kernel
theorem dX5_levelAfter_49 : decode cX5_levelAfter 49 = .ok (.aload_n 0, 1) := by decide +kernel
theorem dX5_levelAfter_50 : decode cX5_levelAfter 50 = .ok (.getfield 23, 3) := by decide +kernel
theorem dX5_levelAfter_53 : decode cX5_levelAfter 53 = .ok (.invokevirtual 185, 3) := by decide +kernel
theorem dX5_levelAfter_56 : decode cX5_levelAfter 56 = .ok (.pop, 1) := by decide +kernel
theorem dX5_levelAfter_57 : decode cX5_levelAfter 57 = .ok (.aload_n 0, 1) := by decide +kernel
theorem dX5_levelAfter_58 : decode cX5_levelAfter 58 = .ok (.getfield 23, 3) := by decide +kernel
theorem dX5_levelAfter_61 : decode cX5_levelAfter 61 = .ok (.iconst 0, 1) := by decide +kernel
theorem dX5_levelAfter_62 : decode cX5_levelAfter 62 = .ok (.invokevirtual 192, 3) := by decide +kernel
theorem dX5_levelAfter_65 : decode cX5_levelAfter 65 = .ok (.iinc 3 1, 3) := by decide +kernel
theorem dX5_levelAfter_68 : decode cX5_levelAfter 68 = .ok (.goto (-43), 3) := by decide +kernel
theorem dX5_levelAfter_71 : decode cX5_levelAfter 71 = .ok (.sipush (-9999), 3) := by decide +kernel
theorem dX5_levelAfter_74 : decode cX5_levelAfter 74 = .ok (.ireturn, 1) := by decide +kernel
set_option maxRecDepth 20000 in
theorem ggX5_partsAfter_X5_requireMember : GoodIn wsX5_partsAfter wsX5_requireMember := goodIn_ca (goodIn_r _ [7, 8, 9, 2, 10, 11, 12, 13, 14, 15, 110, 111, 112, 113, 114, 115, 116, 117, 118, 119] (by decide +kernel) (by decide +kernel)) (goodIn_sub (fun _ h => List.mem_cons_of_mem _ (List.mem_append_left _ (List.mem_append_left _ (List.mem_append_right _ h)))) (by decide +kernel))
set_option maxRecDepth 20000 in
theorem gX5_partsAfter_X5_requireMember : GoodIn wsX5_partsAfter (wsV RX5 106 RX5 yX5_requireMember wsX5_requireMember) := goodIn_app (goodIn_of _ (by decide +kernel)) ggX5_partsAfter_X5_requireMember
set_option maxRecDepth 20000 in
theorem ggX5_partsAfter_X5_requireRange : GoodIn wsX5_partsAfter wsX5_requireRange := goodIn_ca (goodIn_r _ [18, 19, 20] (by decide +kernel) (by decide +kernel)) (goodIn_sub (fun _ h => List.mem_cons_of_mem _ (List.mem_append_left _ (List.mem_append_right _ h))) (by decide +kernel))
set_option maxRecDepth 20000 in
theorem gX5_partsAfter_X5_requireRange : GoodIn wsX5_partsAfter (va_wsS RX5 48 yX5_requireRange wsX5_requireRange) := goodIn_app (goodIn_of _ (by decide +kernel)) ggX5_partsAfter_X5_requireRange
set_option maxRecDepth 20000 in
theorem ggX5_partsAfter_X5_requirePartner : GoodIn wsX5_partsAfter wsX5_requirePartner := goodIn_ca (goodIn_r _ [24, 25, 26, 2, 27, 28, 29, 13, 30, 31, 32, 110, 111, 112, 113, 114, 115, 116, 117, 118, 119, 120, 121, 122, 123, 124, 125, 126] (by decide +kernel) (by decide +kernel)) (goodIn_sub (fun _ h => List.mem_cons_of_mem _ (List.mem_append_right _ h)) (by decide +kernel))
set_option maxRecDepth 20000 in
theorem gX5_partsAfter_X5_requirePartner : GoodIn wsX5_partsAfter (wsV RX5 176 RX5 yX5_requirePartner wsX5_requirePartner) := goodIn_app (goodIn_of _ (by decide +kernel)) ggX5_partsAfter_X5_requirePartner
set_option maxRecDepth 20000 in
theorem ggX5_partsAfter_X1_copyFrom : GoodIn wsX5_partsAfter wsX1_copyFrom := goodIn_r _ [36, 15, 31, 37, 38, 39, 40, 41, 42, 43, 44, 45, 46, 47, 48, 49, 50, 51, 52, 53, 117, 118, 119, 120, 121, 122, 123, 124, 125, 126] (by decide +kernel) (by decide +kernel)
set_option maxRecDepth 20000 in
theorem gX5_partsAfter_X1_copyFrom : GoodIn wsX5_partsAfter (wsV RX5 226 RX1 yX1_copyFrom wsX1_copyFrom) := goodIn_app (goodIn_of _ (by decide +kernel)) ggX5_partsAfter_X1_copyFrom
set_option maxRecDepth 20000 in
theorem ggX5_partsAfter_X1_passWeek : GoodIn wsX5_partsAfter wsX1_passWeek := goodIn_r _ [57, 15, 31, 58, 37, 59, 60, 61, 13, 62, 32, 63, 11, 12, 14, 64, 65, 66, 67, 68, 69, 70, 41, 71, 53, 51, 72, 73, 74, 75, 50, 76, 77, 78, 79, 80, 81, 82, 83, 84, 85, 86, 87, 88, 89, 90, 91, 92, 93, 94, 95, 96, 97, 98, 99, 100, 101, 49, 43, 48, 102, 103, 104, 105, 106, 107, 108, 109, 117, 118, 119, 120, 121, 122, 123, 124, 125, 126] (by decide +kernel) (by decide +kernel)
set_option maxRecDepth 20000 in
theorem gX5_partsAfter_X1_passWeek : GoodIn wsX5_partsAfter (wsV RX5 192 RX1 yX1_passWeek wsX1_passWeek) := goodIn_app (goodIn_of _ (by decide +kernel)) ggX5_partsAfter_X1_passWeek
set_option maxRecDepth 20000 in
theorem ggX5_partsAfter_X1_isFree : GoodIn wsX5_partsAfter wsX1_isFree := goodIn_r _ [30, 31, 32, 117, 118, 119, 120, 121, 122, 123, 124, 125, 126] (by decide +kernel) (by decide +kernel)
set_option maxRecDepth 20000 in
theorem gX5_partsAfter_X1_isFree : GoodIn wsX5_partsAfter (wsV RX5 205 RX1 yX1_isFree wsX1_isFree) := goodIn_app (goodIn_of _ (by decide +kernel)) ggX5_partsAfter_X1_isFree
theorem dX5_partsAfter_0 : decode cX5_partsAfter 0 = .ok (.aload_n 0, 1) := by decide +kernel
theorem dX5_partsAfter_1 : decode cX5_partsAfter 1 = .ok (.iload_n 1, 1) := by decide +kernel
theorem dX5_partsAfter_2 : decode cX5_partsAfter 2 = .ok (.invokevirtual 106, 3) := by decide +kernel
theorem dX5_partsAfter_5 : decode cX5_partsAfter 5 = .ok (.iload_n 2, 1) := by decide +kernel
theorem dX5_partsAfter_6 : decode cX5_partsAfter 6 = .ok (.iconst 0, 1) := by decide +kernel
theorem dX5_partsAfter_7 : decode cX5_partsAfter 7 = .ok (.sipush 511, 3) := by decide +kernel
theorem dX5_partsAfter_10 : decode cX5_partsAfter 10 = .ok (.invokestatic 48, 3) := by decide +kernel
theorem dX5_partsAfter_13 : decode cX5_partsAfter 13 = .ok (.aload_n 0, 1) := by decide +kernel
theorem dX5_partsAfter_14 : decode cX5_partsAfter 14 = .ok (.iload_n 1, 1) := by decide +kernel
theorem dX5_partsAfter_15 : decode cX5_partsAfter 15 = .ok (.invokevirtual 176, 3) := by decide +kernel
theorem dX5_partsAfter_18 : decode cX5_partsAfter 18 = .ok (.aload_n 0, 1) := by decide +kernel
theorem dX5_partsAfter_19 : decode cX5_partsAfter 19 = .ok (.getfield 23, 3) := by decide +kernel
theorem dX5_partsAfter_22 : decode cX5_partsAfter 22 = .ok (.aload_n 0, 1) := by decide +kernel
theorem dX5_partsAfter_23 : decode cX5_partsAfter 23 = .ok (.getfield 19, 3) := by decide +kernel
theorem dX5_partsAfter_26 : decode cX5_partsAfter 26 = .ok (.invokevirtual 226, 3) := by decide +kernel
theorem dX5_partsAfter_29 : decode cX5_partsAfter 29 = .ok (.iconst 1, 1) := by decide +kernel
theorem dX5_partsAfter_30 : decode cX5_partsAfter 30 = .ok (.istore_n 3, 1) := by decide +kernel
theorem dX5_partsAfter_31 : decode cX5_partsAfter 31 = .ok (.iload_n 3, 1) := by decide +kernel
theorem dX5_partsAfter_32 : decode cX5_partsAfter 32 = .ok (.bipush 100, 2) := by decide +kernel
theorem dX5_partsAfter_34 : decode cX5_partsAfter 34 = .ok (.if_icmp .gt 30, 3) := by decide +kernel
theorem dX5_partsAfter_37 : decode cX5_partsAfter 37 = .ok (.aload_n 0, 1) := by decide +kernel
theorem dX5_partsAfter_38 : decode cX5_partsAfter 38 = .ok (.getfield 23, 3) := by decide +kernel
theorem dX5_partsAfter_41 : decode cX5_partsAfter 41 = .ok (.iload_n 2, 1) := by decide +kernel
theorem dX5_partsAfter_42 : decode cX5_partsAfter 42 = .ok (.invokevirtual 192, 3) := by decide +kernel
theorem dX5_partsAfter_45 : decode cX5_partsAfter 45 = .ok (.aload_n 0, 1) := by decide +kernel
theorem dX5_partsAfter_46 : decode cX5_partsAfter 46 = .ok (.getfield 23, 3) := by decide +kernel
theorem dX5_partsAfter_49 : decode cX5_partsAfter 49 = .ok (.iload_n 1, 1) := by decide +kernel
theorem dX5_partsAfter_50 : decode cX5_partsAfter 50 = .ok (.invokevirtual 205, 3) := by decide +kernel
theorem dX5_partsAfter_53 : decode cX5_partsAfter 53 = .ok (.ifCond .eq 5, 3) := by decide +kernel
theorem dX5_partsAfter_56 : decode cX5_partsAfter 56 = .ok (.iload_n 3, 1) := by decide +kernel
theorem dX5_partsAfter_57 : decode cX5_partsAfter 57 = .ok (.ireturn, 1) := by decide +kernel
theorem dX5_partsAfter_58 : decode cX5_partsAfter 58 = .ok (.iinc 3 1, 3) := by decide +kernel
theorem dX5_partsAfter_61 : decode cX5_partsAfter 61 = .ok (.goto (-30), 3) := by decide +kernel
theorem dX5_partsAfter_64 : decode cX5_partsAfter 64 = .ok (.sipush (-9999), 3) := by decide +kernel
theorem dX5_partsAfter_67 : decode cX5_partsAfter 67 = .ok (.ireturn, 1) := by decide +kernel
set_option maxRecDepth 20000 in
theorem ggX5_runScript_X5_requireRange : GoodIn wsX5_runScript wsX5_requireRange := goodIn_ca (goodIn_r _ [9, 1, 2] (by decide +kernel) (by decide +kernel)) (goodIn_sub (fun _ h => List.mem_cons_of_mem _ (List.mem_append_right _ h)) (by decide +kernel))
set_option maxRecDepth 20000 in
theorem gX5_runScript_X5_requireRange : GoodIn wsX5_runScript (va_wsS RX5 48 yX5_requireRange wsX5_requireRange) := goodIn_app (goodIn_of _ (by decide +kernel)) ggX5_runScript_X5_requireRange
set_option maxRecDepth 20000 in
theorem ggX5_runScript_X5_withoutLowestGroups : GoodIn wsX5_runScript wsX5_withoutLowestGroups := goodIn_r _ [12, 5] (by decide +kernel) (by decide +kernel)
set_option maxRecDepth 20000 in
theorem gX5_runScript_X5_withoutLowestGroups : GoodIn wsX5_runScript (va_wsS RX5 232 yX5_withoutLowestGroups wsX5_withoutLowestGroups) := goodIn_app (goodIn_of _ (by decide +kernel)) ggX5_runScript_X5_withoutLowestGroups
set_option maxRecDepth 20000 in
theorem ggX5_runScript_X1_copyFrom : GoodIn wsX5_runScript wsX1_copyFrom := goodIn_r _ [17, 18, 19, 20, 21, 22, 23, 24, 25, 26, 27, 28, 29, 30, 31, 32, 33, 34, 35, 36, 179, 180, 181, 182, 183, 184, 185, 186, 187, 188] (by decide +kernel) (by decide +kernel)
set_option maxRecDepth 20000 in
theorem gX5_runScript_X1_copyFrom : GoodIn wsX5_runScript (wsV RX5 226 RX1 yX1_copyFrom wsX1_copyFrom) := goodIn_app (goodIn_of _ (by decide +kernel)) ggX5_runScript_X1_copyFrom
set_option maxRecDepth 20000 in
theorem ggX5_runScript_X5_commandSucceeds : GoodIn wsX5_runScript wsX5_commandSucceeds := goodIn_r _ [40, 3, 41, 42, 43, 44, 45, 46, 16, 47, 18, 48, 49, 50, 51, 52, 53, 54, 55, 19, 56, 57, 58, 59, 60, 61, 62, 63, 64, 65, 66, 67, 68, 69, 70, 71, 72, 73, 74, 75, 76, 77, 78, 79, 80, 81, 82, 83, 84, 85, 86, 87, 88, 89, 90, 91, 92, 93, 94, 95, 96, 97, 98, 99, 100, 101, 102, 103, 104, 105, 106, 107, 108, 109, 110, 111, 112, 113, 114, 115, 116, 117, 118, 119, 120, 121, 122, 20, 123, 124, 125, 126, 127, 128, 129, 130, 131, 132, 133, 24, 134, 36, 34, 135, 136, 137, 138, 33, 139, 140, 141, 142, 143, 144, 145, 146, 147, 148, 149, 150, 151, 152, 153, 154, 155, 156, 157, 158, 32, 26, 31, 159, 160, 161, 162, 163, 164, 165, 166, 167, 168, 169, 170, 171, 172, 173, 174, 175, 176, 177, 178, 179, 180, 181, 182, 183, 184, 185, 186, 187, 188] (by decide +kernel) (by decide +kernel)
set_option maxRecDepth 20000 in
theorem gX5_runScript_X5_commandSucceeds : GoodIn wsX5_runScript (wsV RX5 240 RX5 yX5_commandSucceeds wsX5_commandSucceeds) := goodIn_app (goodIn_of _ (by decide +kernel)) ggX5_runScript_X5_commandSucceeds
theorem dX5_runScript_0 : decode cX5_runScript 0 = .ok (.iload_n 1, 1) := by decide +kernel
theorem dX5_runScript_1 : decode cX5_runScript 1 = .ok (.iconst 1, 1) := by decide +kernel
theorem dX5_runScript_2 : decode cX5_runScript 2 = .ok (.iconst 4, 1) := by decide +kernel
theorem dX5_runScript_3 : decode cX5_runScript 3 = .ok (.invokestatic 48, 3) := by decide +kernel
theorem dX5_runScript_6 : decode cX5_runScript 6 = .ok (.lload_n 2, 1) := by decide +kernel
theorem dX5_runScript_7 : decode cX5_runScript 7 = .ok (.lconst 0, 1) := by decide +kernel
theorem dX5_runScript_8 : decode cX5_runScript 8 = .ok (.lcmp, 1) := by decide +kernel
theorem dX5_runScript_9 : decode cX5_runScript 9 = .ok (.ifCond .lt 13, 3) := by decide +kernel
theorem dX5_runScript_12 : decode cX5_runScript 12 = .ok (.lload_n 2, 1) := by decide +kernel
theorem dX5_runScript_13 : decode cX5_runScript 13 = .ok (.iload_n 1, 1) := by decide +kernel
theorem dX5_runScript_14 : decode cX5_runScript 14 = .ok (.invokestatic 232, 3) := by decide +kernel
theorem dX5_runScript_17 : decode cX5_runScript 17 = .ok (.lconst 0, 1) := by decide +kernel
theorem dX5_runScript_18 : decode cX5_runScript 18 = .ok (.lcmp, 1) := by decide +kernel
theorem dX5_runScript_19 : decode cX5_runScript 19 = .ok (.ifCond .eq 13, 3) := by decide +kernel
theorem dX5_runScript_22 : decode cX5_runScript 22 = .ok (.new 101, 3) := by decide +kernel
theorem dX5_runScript_25 : decode cX5_runScript 25 = .ok (.dup, 1) := by decide +kernel
theorem dX5_runScript_26 : decode cX5_runScript 26 = .ok (.ldc 236, 2) := by decide +kernel
theorem dX5_runScript_28 : decode cX5_runScript 28 = .ok (.invokespecial 105, 3) := by decide +kernel
theorem dX5_runScript_31 : decode cX5_runScript 31 = .ok (.athrow, 1) := by decide +kernel
theorem dX5_runScript_32 : decode cX5_runScript 32 = .ok (.aload_n 0, 1) := by decide +kernel
theorem dX5_runScript_33 : decode cX5_runScript 33 = .ok (.getfield 23, 3) := by decide +kernel
theorem dX5_runScript_36 : decode cX5_runScript 36 = .ok (.aload_n 0, 1) := by decide +kernel
theorem dX5_runScript_37 : decode cX5_runScript 37 = .ok (.getfield 19, 3) := by decide +kernel
theorem dX5_runScript_40 : decode cX5_runScript 40 = .ok (.invokevirtual 226, 3) := by decide +kernel
theorem dX5_runScript_43 : decode cX5_runScript 43 = .ok (.iconst 0, 1) := by decide +kernel
theorem dX5_runScript_44 : decode cX5_runScript 44 = .ok (.istore 4, 2) := by decide +kernel
theorem dX5_runScript_46 : decode cX5_runScript 46 = .ok (.iload 4, 2) := by decide +kernel
theorem dX5_runScript_48 : decode cX5_runScript 48 = .ok (.iload_n 1, 1) := by decide +kernel
theorem dX5_runScript_49 : decode cX5_runScript 49 = .ok (.if_icmp .ge 38, 3) := by decide +kernel
theorem dX5_runScript_52 : decode cX5_runScript 52 = .ok (.lload_n 2, 1) := by decide +kernel
theorem dX5_runScript_53 : decode cX5_runScript 53 = .ok (.iload_n 1, 1) := by decide +kernel
theorem dX5_runScript_54 : decode cX5_runScript 54 = .ok (.iconst 1, 1) := by decide +kernel
theorem dX5_runScript_55 : decode cX5_runScript 55 = .ok (.isub, 1) := by decide +kernel
theorem dX5_runScript_56 : decode cX5_runScript 56 = .ok (.iload 4, 2) := by decide +kernel
theorem dX5_runScript_58 : decode cX5_runScript 58 = .ok (.isub, 1) := by decide +kernel
theorem dX5_runScript_59 : decode cX5_runScript 59 = .ok (.invokestatic 232, 3) := by decide +kernel
theorem dX5_runScript_62 : decode cX5_runScript 62 = .ok (.ldc2_w 238, 3) := by decide +kernel
theorem dX5_runScript_65 : decode cX5_runScript 65 = .ok (.lrem, 1) := by decide +kernel
theorem dX5_runScript_66 : decode cX5_runScript 66 = .ok (.l2i, 1) := by decide +kernel
theorem dX5_runScript_67 : decode cX5_runScript 67 = .ok (.istore 5, 2) := by decide +kernel
theorem dX5_runScript_69 : decode cX5_runScript 69 = .ok (.aload_n 0, 1) := by decide +kernel
theorem dX5_runScript_70 : decode cX5_runScript 70 = .ok (.iload 5, 2) := by decide +kernel
theorem dX5_runScript_72 : decode cX5_runScript 72 = .ok (.invokevirtual 240, 3) := by decide +kernel
theorem dX5_runScript_75 : decode cX5_runScript 75 = .ok (.ifCond .ne 6, 3) := by decide +kernel
theorem dX5_runScript_78 : decode cX5_runScript 78 = .ok (.iload 4, 2) := by decide +kernel
theorem dX5_runScript_80 : decode cX5_runScript 80 = .ok (.ireturn, 1) := by decide +kernel
theorem dX5_runScript_81 : decode cX5_runScript 81 = .ok (.iinc 4 1, 3) := by decide +kernel
theorem dX5_runScript_84 : decode cX5_runScript 84 = .ok (.goto (-38), 3) := by decide +kernel
theorem dX5_runScript_87 : decode cX5_runScript 87 = .ok (.sipush (-9999), 3) := by decide +kernel
theorem dX5_runScript_90 : decode cX5_runScript 90 = .ok (.ireturn, 1) := by decide +kernel
set_option maxRecDepth 20000 in
theorem ggX5_simulate_X5_requireRange : GoodIn wsX5_simulate wsX5_requireRange := goodIn_ca (goodIn_r _ [8, 9, 10] (by decide +kernel) (by decide +kernel)) (goodIn_sub (fun _ h => List.mem_cons_of_mem _ (List.mem_append_right _ h)) (by decide +kernel))
set_option maxRecDepth 20000 in
theorem gX5_simulate_X5_requireRange : GoodIn wsX5_simulate (va_wsS RX5 48 yX5_requireRange wsX5_requireRange) := goodIn_app (goodIn_of _ (by decide +kernel)) ggX5_simulate_X5_requireRange
set_option maxRecDepth 20000 in
theorem ggX5_simulate_X1_copyFrom : GoodIn wsX5_simulate wsX1_copyFrom := goodIn_r _ [15, 16, 17, 18, 19, 20, 21, 22, 23, 24, 25, 26, 27, 28, 29, 30, 31, 32, 33, 34, 140, 141, 142, 143, 144, 145, 146, 147, 148, 149] (by decide +kernel) (by decide +kernel)
set_option maxRecDepth 20000 in
theorem gX5_simulate_X1_copyFrom : GoodIn wsX5_simulate (wsV RX5 226 RX1 yX1_copyFrom wsX1_copyFrom) := goodIn_app (goodIn_of _ (by decide +kernel)) ggX5_simulate_X1_copyFrom
set_option maxRecDepth 20000 in
theorem ggX5_simulate_X1_matchFree : GoodIn wsX5_simulate wsX1_matchFree := goodIn_r _ [38, 39, 40, 41, 14, 42, 16, 43, 44, 45, 46, 47, 48, 49, 50, 17, 51, 52, 53, 54, 55, 56, 57, 58, 59, 60, 61, 62, 63, 64, 65, 66, 67, 68, 69, 70, 71, 72, 73, 74, 75, 76, 77, 78, 79, 80, 81, 82, 83, 84, 140, 141, 142, 143, 144, 145, 146, 147, 148, 149] (by decide +kernel) (by decide +kernel)
set_option maxRecDepth 20000 in
theorem gX5_simulate_X1_matchFree : GoodIn wsX5_simulate (wsV RX5 185 RX1 yX1_matchFree wsX1_matchFree) := goodIn_app (goodIn_of _ (by decide +kernel)) ggX5_simulate_X1_matchFree
set_option maxRecDepth 20000 in
theorem ggX5_simulate_X1_passWeek : GoodIn wsX5_simulate wsX1_passWeek := goodIn_r _ [88, 16, 17, 84, 18, 89, 90, 91, 14, 92, 51, 76, 77, 78, 79, 93, 94, 95, 96, 97, 98, 99, 22, 100, 34, 32, 101, 102, 103, 104, 31, 105, 106, 107, 108, 109, 110, 111, 112, 113, 114, 115, 116, 56, 57, 58, 59, 60, 61, 117, 118, 119, 120, 121, 122, 123, 124, 30, 24, 29, 52, 53, 54, 55, 125, 126, 127, 128, 140, 141, 142, 143, 144, 145, 146, 147, 148, 149] (by decide +kernel) (by decide +kernel)
set_option maxRecDepth 20000 in
theorem gX5_simulate_X1_passWeek : GoodIn wsX5_simulate (wsV RX5 192 RX1 yX1_passWeek wsX1_passWeek) := goodIn_app (goodIn_of _ (by decide +kernel)) ggX5_simulate_X1_passWeek
set_option maxRecDepth 20000 in
theorem ggX5_simulate_X1_sumOfCredits : GoodIn wsX5_simulate wsX1_sumOfCredits := goodIn_r _ [132, 16, 17, 71, 140, 141, 142, 143, 144, 145, 146, 147, 148, 149] (by decide +kernel) (by decide +kernel)
set_option maxRecDepth 20000 in
theorem gX5_simulate_X1_sumOfCredits : GoodIn wsX5_simulate (wsV RX5 95 RX1 yX1_sumOfCredits wsX1_sumOfCredits) := goodIn_app (goodIn_of _ (by decide +kernel)) ggX5_simulate_X1_sumOfCredits
theorem dX5_simulate_0 : decode cX5_simulate 0 = .ok (.iload_n 3, 1) := by decide +kernel
theorem dX5_simulate_1 : decode cX5_simulate 1 = .ok (.iconst 1, 1) := by decide +kernel
theorem dX5_simulate_2 : decode cX5_simulate 2 = .ok (.bipush 60, 2) := by decide +kernel
theorem dX5_simulate_4 : decode cX5_simulate 4 = .ok (.invokestatic 48, 3) := by decide +kernel
theorem dX5_simulate_7 : decode cX5_simulate 7 = .ok (.aload_n 0, 1) := by decide +kernel
theorem dX5_simulate_8 : decode cX5_simulate 8 = .ok (.getfield 23, 3) := by decide +kernel
theorem dX5_simulate_11 : decode cX5_simulate 11 = .ok (.aload_n 0, 1) := by decide +kernel
theorem dX5_simulate_12 : decode cX5_simulate 12 = .ok (.getfield 19, 3) := by decide +kernel
theorem dX5_simulate_15 : decode cX5_simulate 15 = .ok (.invokevirtual 226, 3) := by decide +kernel
theorem dX5_simulate_18 : decode cX5_simulate 18 = .ok (.lload_n 1, 1) := by decide +kernel
theorem dX5_simulate_19 : decode cX5_simulate 19 = .ok (.lstore 4, 2) := by decide +kernel
theorem dX5_simulate_21 : decode cX5_simulate 21 = .ok (.iconst 0, 1) := by decide +kernel
theorem dX5_simulate_22 : decode cX5_simulate 22 = .ok (.istore 6, 2) := by decide +kernel
theorem dX5_simulate_24 : decode cX5_simulate 24 = .ok (.iload 6, 2) := by decide +kernel
theorem dX5_simulate_26 : decode cX5_simulate 26 = .ok (.iload_n 3, 1) := by decide +kernel
theorem dX5_simulate_27 : decode cX5_simulate 27 = .ok (.if_icmp .ge 59, 3) := by decide +kernel
theorem dX5_simulate_30 : decode cX5_simulate 30 = .ok (.lload 4, 2) := by decide +kernel
theorem dX5_simulate_32 : decode cX5_simulate 32 = .ok (.ldc2_w 243, 3) := by decide +kernel
theorem dX5_simulate_35 : decode cX5_simulate 35 = .ok (.lmul, 1) := by decide +kernel
theorem dX5_simulate_36 : decode cX5_simulate 36 = .ok (.ldc2_w 245, 3) := by decide +kernel
theorem dX5_simulate_39 : decode cX5_simulate 39 = .ok (.ladd, 1) := by decide +kernel
theorem dX5_simulate_40 : decode cX5_simulate 40 = .ok (.lstore 4, 2) := by decide +kernel
theorem dX5_simulate_42 : decode cX5_simulate 42 = .ok (.lload 4, 2) := by decide +kernel
theorem dX5_simulate_44 : decode cX5_simulate 44 = .ok (.bipush 33, 2) := by decide +kernel
theorem dX5_simulate_46 : decode cX5_simulate 46 = .ok (.lushr, 1) := by decide +kernel
theorem dX5_simulate_47 : decode cX5_simulate 47 = .ok (.l2i, 1) := by decide +kernel
theorem dX5_simulate_48 : decode cX5_simulate 48 = .ok (.istore 7, 2) := by decide +kernel
theorem dX5_simulate_50 : decode cX5_simulate 50 = .ok (.iload 7, 2) := by decide +kernel
theorem dX5_simulate_52 : decode cX5_simulate 52 = .ok (.iconst 4, 1) := by decide +kernel
theorem dX5_simulate_53 : decode cX5_simulate 53 = .ok (.irem, 1) := by decide +kernel
theorem dX5_simulate_54 : decode cX5_simulate 54 = .ok (.ifCond .ne 11, 3) := by decide +kernel
theorem dX5_simulate_57 : decode cX5_simulate 57 = .ok (.aload_n 0, 1) := by decide +kernel
theorem dX5_simulate_58 : decode cX5_simulate 58 = .ok (.getfield 23, 3) := by decide +kernel
theorem dX5_simulate_61 : decode cX5_simulate 61 = .ok (.invokevirtual 185, 3) := by decide +kernel
theorem dX5_simulate_64 : decode cX5_simulate 64 = .ok (.pop, 1) := by decide +kernel
theorem dX5_simulate_65 : decode cX5_simulate 65 = .ok (.aload_n 0, 1) := by decide +kernel
theorem dX5_simulate_66 : decode cX5_simulate 66 = .ok (.getfield 23, 3) := by decide +kernel
theorem dX5_simulate_69 : decode cX5_simulate 69 = .ok (.iload 7, 2) := by decide +kernel
theorem dX5_simulate_71 : decode cX5_simulate 71 = .ok (.iconst 4, 1) := by decide +kernel
theorem dX5_simulate_72 : decode cX5_simulate 72 = .ok (.idiv, 1) := by decide +kernel
theorem dX5_simulate_73 : decode cX5_simulate 73 = .ok (.sipush 512, 3) := by decide +kernel
theorem dX5_simulate_76 : decode cX5_simulate 76 = .ok (.irem, 1) := by decide +kernel
theorem dX5_simulate_77 : decode cX5_simulate 77 = .ok (.invokevirtual 192, 3) := by decide +kernel
theorem dX5_simulate_80 : decode cX5_simulate 80 = .ok (.iinc 6 1, 3) := by decide +kernel
theorem dX5_simulate_83 : decode cX5_simulate 83 = .ok (.goto (-59), 3) := by decide +kernel
theorem dX5_simulate_86 : decode cX5_simulate 86 = .ok (.aload_n 0, 1) := by decide +kernel
theorem dX5_simulate_87 : decode cX5_simulate 87 = .ok (.getfield 23, 3) := by decide +kernel
theorem dX5_simulate_90 : decode cX5_simulate 90 = .ok (.invokevirtual 95, 3) := by decide +kernel
theorem dX5_simulate_93 : decode cX5_simulate 93 = .ok (.ireturn, 1) := by decide +kernel
set_option maxRecDepth 20000 in
theorem ggX5_save_X5_requireSlot : GoodIn wsX5_save wsX5_requireSlot := goodIn_ca (goodIn_r _ [8, 9, 10] (by decide +kernel) (by decide +kernel)) (goodIn_sub (fun _ h => List.mem_cons_of_mem _ (List.mem_append_right _ h)) (by decide +kernel))
set_option maxRecDepth 20000 in
theorem gX5_save_X5_requireSlot : GoodIn wsX5_save (va_wsS RX5 247 yX5_requireSlot wsX5_requireSlot) := goodIn_app (goodIn_of _ (by decide +kernel)) ggX5_save_X5_requireSlot
set_option maxRecDepth 20000 in
theorem ggX5_save_X1_copyFrom : GoodIn wsX5_save wsX1_copyFrom := goodIn_r _ [15, 16, 17, 18, 19, 20, 21, 22, 23, 24, 25, 26, 27, 28, 29, 30, 31, 32, 33, 34, 42, 43, 44, 45, 46, 47, 48, 49, 50, 51] (by decide +kernel) (by decide +kernel)
set_option maxRecDepth 20000 in
theorem gX5_save_X1_copyFrom : GoodIn wsX5_save (wsV RX5 226 RX1 yX1_copyFrom wsX1_copyFrom) := goodIn_app (goodIn_of _ (by decide +kernel)) ggX5_save_X1_copyFrom
theorem dX5_save_0 : decode cX5_save 0 = .ok (.iload_n 1, 1) := by decide +kernel
theorem dX5_save_1 : decode cX5_save 1 = .ok (.invokestatic 247, 3) := by decide +kernel
theorem dX5_save_4 : decode cX5_save 4 = .ok (.aload_n 0, 1) := by decide +kernel
theorem dX5_save_5 : decode cX5_save 5 = .ok (.getfield 33, 3) := by decide +kernel
theorem dX5_save_8 : decode cX5_save 8 = .ok (.iload_n 1, 1) := by decide +kernel
theorem dX5_save_9 : decode cX5_save 9 = .ok (.aaload, 1) := by decide +kernel
theorem dX5_save_10 : decode cX5_save 10 = .ok (.aload_n 0, 1) := by decide +kernel
theorem dX5_save_11 : decode cX5_save 11 = .ok (.getfield 19, 3) := by decide +kernel
theorem dX5_save_14 : decode cX5_save 14 = .ok (.invokevirtual 226, 3) := by decide +kernel
theorem dX5_save_17 : decode cX5_save 17 = .ok (.aload_n 0, 1) := by decide +kernel
theorem dX5_save_18 : decode cX5_save 18 = .ok (.getfield 37, 3) := by decide +kernel
theorem dX5_save_21 : decode cX5_save 21 = .ok (.iload_n 1, 1) := by decide +kernel
theorem dX5_save_22 : decode cX5_save 22 = .ok (.iconst 1, 1) := by decide +kernel
theorem dX5_save_23 : decode cX5_save 23 = .ok (.bastore, 1) := by decide +kernel
theorem dX5_save_24 : decode cX5_save 24 = .ok (.aload_n 0, 1) := by decide +kernel
theorem dX5_save_25 : decode cX5_save 25 = .ok (.getfield 19, 3) := by decide +kernel
theorem dX5_save_28 : decode cX5_save 28 = .ok (.getfield 86, 3) := by decide +kernel
theorem dX5_save_31 : decode cX5_save 31 = .ok (.ireturn, 1) := by decide +kernel
set_option maxRecDepth 20000 in
theorem ggX5_restore_X5_requireSlot : GoodIn wsX5_restore wsX5_requireSlot := goodIn_ca (goodIn_r _ [11, 12, 13] (by decide +kernel) (by decide +kernel)) (goodIn_sub (fun _ h => List.mem_cons_of_mem _ (List.mem_append_right _ h)) (by decide +kernel))
set_option maxRecDepth 20000 in
theorem gX5_restore_X5_requireSlot : GoodIn wsX5_restore (va_wsS RX5 247 yX5_requireSlot wsX5_requireSlot) := goodIn_app (goodIn_of _ (by decide +kernel)) ggX5_restore_X5_requireSlot
set_option maxRecDepth 20000 in
theorem ggX5_restore_X1_copyFrom : GoodIn wsX5_restore wsX1_copyFrom := goodIn_r _ [18, 19, 20, 21, 22, 23, 24, 25, 26, 27, 28, 29, 30, 31, 32, 33, 34, 35, 36, 37, 51, 52, 53, 54, 55, 56, 57, 58, 59, 60] (by decide +kernel) (by decide +kernel)
set_option maxRecDepth 20000 in
theorem gX5_restore_X1_copyFrom : GoodIn wsX5_restore (wsV RX5 226 RX1 yX1_copyFrom wsX1_copyFrom) := goodIn_app (goodIn_of _ (by decide +kernel)) ggX5_restore_X1_copyFrom
set_option maxRecDepth 20000 in
theorem ggX5_restore_X2_forget : GoodIn wsX5_restore wsX2_forget := goodIn_r _ [42, 43, 61, 62, 63] (by decide +kernel) (by decide +kernel)
set_option maxRecDepth 20000 in
theorem gX5_restore_X2_forget : GoodIn wsX5_restore (wsV RX5 77 RX2 yX2_forget wsX2_forget) := goodIn_app (goodIn_of _ (by decide +kernel)) ggX5_restore_X2_forget
theorem dX5_restore_0 : decode cX5_restore 0 = .ok (.iload_n 1, 1) := by decide +kernel
theorem dX5_restore_1 : decode cX5_restore 1 = .ok (.invokestatic 247, 3) := by decide +kernel
theorem dX5_restore_4 : decode cX5_restore 4 = .ok (.aload_n 0, 1) := by decide +kernel
theorem dX5_restore_5 : decode cX5_restore 5 = .ok (.getfield 37, 3) := by decide +kernel
theorem dX5_restore_8 : decode cX5_restore 8 = .ok (.iload_n 1, 1) := by decide +kernel
theorem dX5_restore_9 : decode cX5_restore 9 = .ok (.baload, 1) := by decide +kernel
theorem dX5_restore_10 : decode cX5_restore 10 = .ok (.ifCond .ne 13, 3) := by decide +kernel
theorem dX5_restore_13 : decode cX5_restore 13 = .ok (.new 56, 3) := by decide +kernel
theorem dX5_restore_16 : decode cX5_restore 16 = .ok (.dup, 1) := by decide +kernel
theorem dX5_restore_17 : decode cX5_restore 17 = .ok (.ldc 250, 2) := by decide +kernel
theorem dX5_restore_19 : decode cX5_restore 19 = .ok (.invokespecial 60, 3) := by decide +kernel
theorem dX5_restore_22 : decode cX5_restore 22 = .ok (.athrow, 1) := by decide +kernel
theorem dX5_restore_23 : decode cX5_restore 23 = .ok (.aload_n 0, 1) := by decide +kernel
theorem dX5_restore_24 : decode cX5_restore 24 = .ok (.getfield 19, 3) := by decide +kernel
theorem dX5_restore_27 : decode cX5_restore 27 = .ok (.aload_n 0, 1) := by decide +kernel
theorem dX5_restore_28 : decode cX5_restore 28 = .ok (.getfield 33, 3) := by decide +kernel
theorem dX5_restore_31 : decode cX5_restore 31 = .ok (.iload_n 1, 1) := by decide +kernel
theorem dX5_restore_32 : decode cX5_restore 32 = .ok (.aaload, 1) := by decide +kernel
theorem dX5_restore_33 : decode cX5_restore 33 = .ok (.invokevirtual 226, 3) := by decide +kernel
theorem dX5_restore_36 : decode cX5_restore 36 = .ok (.aload_n 0, 1) := by decide +kernel
theorem dX5_restore_37 : decode cX5_restore 37 = .ok (.getfield 29, 3) := by decide +kernel
theorem dX5_restore_40 : decode cX5_restore 40 = .ok (.invokevirtual 77, 3) := by decide +kernel
theorem dX5_restore_43 : decode cX5_restore 43 = .ok (.aload_n 0, 1) := by decide +kernel
theorem dX5_restore_44 : decode cX5_restore 44 = .ok (.getfield 19, 3) := by decide +kernel
theorem dX5_restore_47 : decode cX5_restore 47 = .ok (.getfield 86, 3) := by decide +kernel
theorem dX5_restore_50 : decode cX5_restore 50 = .ok (.ireturn, 1) := by decide +kernel
set_option maxRecDepth 20000 in
theorem ggX5_requireMember_X1_has : GoodIn wsX5_requireMember wsX1_has := goodIn_r _ [8, 9, 17, 18, 19] (by decide +kernel) (by decide +kernel)
set_option maxRecDepth 20000 in
theorem gX5_requireMember_X1_has : GoodIn wsX5_requireMember (wsV RX5 252 RX1 yX1_has wsX1_has) := goodIn_app (goodIn_of _ (by decide +kernel)) ggX5_requireMember_X1_has
theorem dX5_requireMember_0 : decode cX5_requireMember 0 = .ok (.aload_n 0, 1) := by decide +kernel
theorem dX5_requireMember_1 : decode cX5_requireMember 1 = .ok (.getfield 19, 3) := by decide +kernel
theorem dX5_requireMember_4 : decode cX5_requireMember 4 = .ok (.iload_n 1, 1) := by decide +kernel
theorem dX5_requireMember_5 : decode cX5_requireMember 5 = .ok (.invokevirtual 252, 3) := by decide +kernel
theorem dX5_requireMember_8 : decode cX5_requireMember 8 = .ok (.ifCond .ne 14, 3) := by decide +kernel
theorem dX5_requireMember_11 : decode cX5_requireMember 11 = .ok (.new 255, 3) := by decide +kernel
theorem dX5_requireMember_14 : decode cX5_requireMember 14 = .ok (.dup, 1) := by decide +kernel
theorem dX5_requireMember_15 : decode cX5_requireMember 15 = .ok (.ldc_w 257, 3) := by decide +kernel
theorem dX5_requireMember_18 : decode cX5_requireMember 18 = .ok (.invokespecial 259, 3) := by decide +kernel
theorem dX5_requireMember_21 : decode cX5_requireMember 21 = .ok (.athrow, 1) := by decide +kernel
theorem dX5_requireMember_22 : decode cX5_requireMember 22 = .ok (.return_, 1) := by decide +kernel
set_option maxRecDepth 20000 in
theorem ggX5_requireTwoMembers_X5_requireMember : GoodIn wsX5_requireTwoMembers wsX5_requireMember := goodIn_ca (goodIn_r _ [7, 8, 9, 10, 11, 12, 13, 14, 15, 16, 17, 18, 19, 20, 21, 22, 23, 24, 25, 26] (by decide +kernel) (by decide +kernel)) (goodIn_sub (fun _ h => List.mem_cons_of_mem _ (List.mem_append_right _ h)) (by decide +kernel))
set_option maxRecDepth 20000 in
theorem gX5_requireTwoMembers_X5_requireMember : GoodIn wsX5_requireTwoMembers (wsV RX5 106 RX5 yX5_requireMember wsX5_requireMember) := goodIn_app (goodIn_of _ (by decide +kernel)) ggX5_requireTwoMembers_X5_requireMember
theorem dX5_requireTwoMembers_0 : decode cX5_requireTwoMembers 0 = .ok (.aload_n 0, 1) := by decide +kernel
theorem dX5_requireTwoMembers_1 : decode cX5_requireTwoMembers 1 = .ok (.iload_n 1, 1) := by decide +kernel
theorem dX5_requireTwoMembers_2 : decode cX5_requireTwoMembers 2 = .ok (.invokevirtual 106, 3) := by decide +kernel
theorem dX5_requireTwoMembers_5 : decode cX5_requireTwoMembers 5 = .ok (.aload_n 0, 1) := by decide +kernel
theorem dX5_requireTwoMembers_6 : decode cX5_requireTwoMembers 6 = .ok (.iload_n 2, 1) := by decide +kernel
theorem dX5_requireTwoMembers_7 : decode cX5_requireTwoMembers 7 = .ok (.invokevirtual 106, 3) := by decide +kernel
theorem dX5_requireTwoMembers_10 : decode cX5_requireTwoMembers 10 = .ok (.iload_n 1, 1) := by decide +kernel
theorem dX5_requireTwoMembers_11 : decode cX5_requireTwoMembers 11 = .ok (.iload_n 2, 1) := by decide +kernel
theorem dX5_requireTwoMembers_12 : decode cX5_requireTwoMembers 12 = .ok (.if_icmp .ne 14, 3) := by decide +kernel
theorem dX5_requireTwoMembers_15 : decode cX5_requireTwoMembers 15 = .ok (.new 101, 3) := by decide +kernel
theorem dX5_requireTwoMembers_18 : decode cX5_requireTwoMembers 18 = .ok (.dup, 1) := by decide +kernel
theorem dX5_requireTwoMembers_19 : decode cX5_requireTwoMembers 19 = .ok (.ldc_w 260, 3) := by decide +kernel
theorem dX5_requireTwoMembers_22 : decode cX5_requireTwoMembers 22 = .ok (.invokespecial 105, 3) := by decide +kernel
theorem dX5_requireTwoMembers_25 : decode cX5_requireTwoMembers 25 = .ok (.athrow, 1) := by decide +kernel
theorem dX5_requireTwoMembers_26 : decode cX5_requireTwoMembers 26 = .ok (.return_, 1) := by decide +kernel
set_option maxRecDepth 20000 in
theorem ggX5_requirePartner_X1_isFree : GoodIn wsX5_requirePartner wsX1_isFree := goodIn_r _ [8, 9, 10, 18, 19, 20, 21, 22, 23, 24, 25, 26, 27] (by decide +kernel) (by decide +kernel)
set_option maxRecDepth 20000 in
theorem gX5_requirePartner_X1_isFree : GoodIn wsX5_requirePartner (wsV RX5 205 RX1 yX1_isFree wsX1_isFree) := goodIn_app (goodIn_of _ (by decide +kernel)) ggX5_requirePartner_X1_isFree
theorem dX5_requirePartner_0 : decode cX5_requirePartner 0 = .ok (.aload_n 0, 1) := by decide +kernel
theorem dX5_requirePartner_1 : decode cX5_requirePartner 1 = .ok (.getfield 19, 3) := by decide +kernel
theorem dX5_requirePartner_4 : decode cX5_requirePartner 4 = .ok (.iload_n 1, 1) := by decide +kernel
theorem dX5_requirePartner_5 : decode cX5_requirePartner 5 = .ok (.invokevirtual 205, 3) := by decide +kernel
theorem dX5_requirePartner_8 : decode cX5_requirePartner 8 = .ok (.ifCond .eq 14, 3) := by decide +kernel
theorem dX5_requirePartner_11 : decode cX5_requirePartner 11 = .ok (.new 56, 3) := by decide +kernel
theorem dX5_requirePartner_14 : decode cX5_requirePartner 14 = .ok (.dup, 1) := by decide +kernel
theorem dX5_requirePartner_15 : decode cX5_requirePartner 15 = .ok (.ldc_w 262, 3) := by decide +kernel
theorem dX5_requirePartner_18 : decode cX5_requirePartner 18 = .ok (.invokespecial 60, 3) := by decide +kernel
theorem dX5_requirePartner_21 : decode cX5_requirePartner 21 = .ok (.athrow, 1) := by decide +kernel
theorem dX5_requirePartner_22 : decode cX5_requirePartner 22 = .ok (.return_, 1) := by decide +kernel
set_option maxRecDepth 20000 in
theorem ggX5_requireLanguage_X5_requireRange : GoodIn wsX5_requireLanguage wsX5_requireRange := goodIn_ca (goodIn_r _ [4, 5, 6] (by decide +kernel) (by decide +kernel)) (goodIn_sub (fun _ h => List.mem_cons_of_mem _ (List.mem_append_right _ h)) (by decide +kernel))
set_option maxRecDepth 20000 in
theorem gX5_requireLanguage_X5_requireRange : GoodIn wsX5_requireLanguage (va_wsS RX5 48 yX5_requireRange wsX5_requireRange) := goodIn_app (goodIn_of _ (by decide +kernel)) ggX5_requireLanguage_X5_requireRange
theorem dX5_requireLanguage_0 : decode cX5_requireLanguage 0 = .ok (.iload_n 0, 1) := by decide +kernel
theorem dX5_requireLanguage_1 : decode cX5_requireLanguage 1 = .ok (.iconst 0, 1) := by decide +kernel
theorem dX5_requireLanguage_2 : decode cX5_requireLanguage 2 = .ok (.iconst 3, 1) := by decide +kernel
theorem dX5_requireLanguage_3 : decode cX5_requireLanguage 3 = .ok (.invokestatic 48, 3) := by decide +kernel
theorem dX5_requireLanguage_6 : decode cX5_requireLanguage 6 = .ok (.return_, 1) := by decide +kernel
theorem dX5_requireRange_0 : decode cX5_requireRange 0 = .ok (.iload_n 0, 1) := by decide +kernel
theorem dX5_requireRange_1 : decode cX5_requireRange 1 = .ok (.iload_n 1, 1) := by decide +kernel
theorem dX5_requireRange_2 : decode cX5_requireRange 2 = .ok (.if_icmp .lt 8, 3) := by decide +kernel
theorem dX5_requireRange_5 : decode cX5_requireRange 5 = .ok (.iload_n 0, 1) := by decide +kernel
theorem dX5_requireRange_6 : decode cX5_requireRange 6 = .ok (.iload_n 2, 1) := by decide +kernel
theorem dX5_requireRange_7 : decode cX5_requireRange 7 = .ok (.if_icmp .le 14, 3) := by decide +kernel
theorem dX5_requireRange_10 : decode cX5_requireRange 10 = .ok (.new 101, 3) := by decide +kernel
theorem dX5_requireRange_13 : decode cX5_requireRange 13 = .ok (.dup, 1) := by decide +kernel
theorem dX5_requireRange_14 : decode cX5_requireRange 14 = .ok (.ldc_w 264, 3) := by decide +kernel
theorem dX5_requireRange_17 : decode cX5_requireRange 17 = .ok (.invokespecial 105, 3) := by decide +kernel
theorem dX5_requireRange_20 : decode cX5_requireRange 20 = .ok (.athrow, 1) := by decide +kernel
theorem dX5_requireRange_21 : decode cX5_requireRange 21 = .ok (.return_, 1) := by decide +kernel
theorem dX5_requireSlot_0 : decode cX5_requireSlot 0 = .ok (.iload_n 0, 1) := by decide +kernel
theorem dX5_requireSlot_1 : decode cX5_requireSlot 1 = .ok (.ifCond .lt 8, 3) := by decide +kernel
theorem dX5_requireSlot_4 : decode cX5_requireSlot 4 = .ok (.iload_n 0, 1) := by decide +kernel
theorem dX5_requireSlot_5 : decode cX5_requireSlot 5 = .ok (.iconst 2, 1) := by decide +kernel
theorem dX5_requireSlot_6 : decode cX5_requireSlot 6 = .ok (.if_icmp .lt 14, 3) := by decide +kernel
theorem dX5_requireSlot_9 : decode cX5_requireSlot 9 = .ok (.new 255, 3) := by decide +kernel
theorem dX5_requireSlot_12 : decode cX5_requireSlot 12 = .ok (.dup, 1) := by decide +kernel
theorem dX5_requireSlot_13 : decode cX5_requireSlot 13 = .ok (.ldc_w 266, 3) := by decide +kernel
theorem dX5_requireSlot_16 : decode cX5_requireSlot 16 = .ok (.invokespecial 259, 3) := by decide +kernel
theorem dX5_requireSlot_19 : decode cX5_requireSlot 19 = .ok (.athrow, 1) := by decide +kernel
theorem dX5_requireSlot_20 : decode cX5_requireSlot 20 = .ok (.return_, 1) := by decide +kernel
theorem dX5_withoutLowestGroups_0 : decode cX5_withoutLowestGroups 0 = .ok (.lload_n 0, 1) := by decide +kernel
theorem dX5_withoutLowestGroups_1 : decode cX5_withoutLowestGroups 1 = .ok (.lstore_n 3, 1) := by decide +kernel
theorem dX5_withoutLowestGroups_2 : decode cX5_withoutLowestGroups 2 = .ok (.iconst 0, 1) := by decide +kernel
theorem dX5_withoutLowestGroups_3 : decode cX5_withoutLowestGroups 3 = .ok (.istore 5, 2) := by decide +kernel
theorem dX5_withoutLowestGroups_5 : decode cX5_withoutLowestGroups 5 = .ok (.iload 5, 2) := by decide +kernel
theorem dX5_withoutLowestGroups_7 : decode cX5_withoutLowestGroups 7 = .ok (.iload_n 2, 1) := by decide +kernel
theorem dX5_withoutLowestGroups_8 : decode cX5_withoutLowestGroups 8 = .ok (.if_icmp .ge 15, 3) := by decide +kernel
theorem dX5_withoutLowestGroups_11 : decode cX5_withoutLowestGroups 11 = .ok (.lload_n 3, 1) := by decide +kernel
theorem dX5_withoutLowestGroups_12 : decode cX5_withoutLowestGroups 12 = .ok (.ldc2_w 238, 3) := by decide +kernel
theorem dX5_withoutLowestGroups_15 : decode cX5_withoutLowestGroups 15 = .ok (.ldiv, 1) := by decide +kernel
theorem dX5_withoutLowestGroups_16 : decode cX5_withoutLowestGroups 16 = .ok (.lstore_n 3, 1) := by decide +kernel
theorem dX5_withoutLowestGroups_17 : decode cX5_withoutLowestGroups 17 = .ok (.iinc 5 1, 3) := by decide +kernel
theorem dX5_withoutLowestGroups_20 : decode cX5_withoutLowestGroups 20 = .ok (.goto (-15), 3) := by decide +kernel
theorem dX5_withoutLowestGroups_23 : decode cX5_withoutLowestGroups 23 = .ok (.lload_n 3, 1) := by decide +kernel
theorem dX5_withoutLowestGroups_24 : decode cX5_withoutLowestGroups 24 = .ok (.lreturn, 1) := by decide +kernel
set_option maxRecDepth 20000 in
theorem ggX5_commandSucceeds_X1_has : GoodIn wsX5_commandSucceeds wsX1_has := goodIn_r _ [9, 10, 151, 152, 153] (by decide +kernel) (by decide +kernel)
set_option maxRecDepth 20000 in
theorem gX5_commandSucceeds_X1_has : GoodIn wsX5_commandSucceeds (wsV RX5 252 RX1 yX1_has wsX1_has) := goodIn_app (goodIn_of _ (by decide +kernel)) ggX5_commandSucceeds_X1_has
set_option maxRecDepth 20000 in
theorem ggX5_commandSucceeds_X1_canBecomePartners : GoodIn wsX5_commandSucceeds wsX1_canBecomePartners := goodIn_r _ [14, 15, 16, 17, 8, 18, 19, 20, 21, 22, 23, 24, 25, 26, 27, 28, 29, 30, 151, 152, 153, 154, 155, 156, 157, 158, 159, 160] (by decide +kernel) (by decide +kernel)
set_option maxRecDepth 20000 in
theorem gX5_commandSucceeds_X1_canBecomePartners : GoodIn wsX5_commandSucceeds (wsV RX5 168 RX1 yX1_canBecomePartners wsX1_canBecomePartners) := goodIn_app (goodIn_of _ (by decide +kernel)) ggX5_commandSucceeds_X1_canBecomePartners
set_option maxRecDepth 20000 in
theorem ggX5_commandSucceeds_X1_unite : GoodIn wsX5_commandSucceeds wsX1_unite := goodIn_r _ [34, 19, 20, 35, 151, 152, 153, 154, 155, 156, 157, 158, 159, 160] (by decide +kernel) (by decide +kernel)
set_option maxRecDepth 20000 in
theorem gX5_commandSucceeds_X1_unite : GoodIn wsX5_commandSucceeds (wsV RX5 173 RX1 yX1_unite wsX1_unite) := goodIn_app (goodIn_of _ (by decide +kernel)) ggX5_commandSucceeds_X1_unite
set_option maxRecDepth 20000 in
theorem ggX5_commandSucceeds_X1_isFree : GoodIn wsX5_commandSucceeds wsX1_isFree := goodIn_r _ [18, 19, 20, 151, 152, 153, 154, 155, 156, 157, 158, 159, 160] (by decide +kernel) (by decide +kernel)
set_option maxRecDepth 20000 in
theorem gX5_commandSucceeds_X1_isFree : GoodIn wsX5_commandSucceeds (wsV RX5 205 RX1 yX1_isFree wsX1_isFree) := goodIn_app (goodIn_of _ (by decide +kernel)) ggX5_commandSucceeds_X1_isFree
set_option maxRecDepth 20000 in
theorem ggX5_commandSucceeds_X1_separate : GoodIn wsX5_commandSucceeds wsX1_separate := goodIn_r _ [40, 19, 20, 41, 6, 7, 8, 9, 10, 151, 152, 153, 154, 155, 156, 157, 158, 159, 160] (by decide +kernel) (by decide +kernel)
set_option maxRecDepth 20000 in
theorem gX5_commandSucceeds_X1_separate : GoodIn wsX5_commandSucceeds (wsV RX5 182 RX1 yX1_separate wsX1_separate) := goodIn_app (goodIn_of _ (by decide +kernel)) ggX5_commandSucceeds_X1_separate
set_option maxRecDepth 20000 in
theorem ggX5_commandSucceeds_X1_matchFree : GoodIn wsX5_commandSucceeds wsX1_matchFree := goodIn_r _ [45, 46, 47, 48, 8, 49, 10, 50, 12, 13, 14, 15, 16, 17, 18, 19, 20, 21, 22, 23, 24, 25, 26, 27, 28, 29, 30, 51, 52, 53, 54, 55, 56, 57, 58, 59, 60, 61, 62, 63, 64, 41, 6, 7, 9, 65, 32, 33, 34, 35, 151, 152, 153, 154, 155, 156, 157, 158, 159, 160] (by decide +kernel) (by decide +kernel)
set_option maxRecDepth 20000 in
theorem gX5_commandSucceeds_X1_matchFree : GoodIn wsX5_commandSucceeds (wsV RX5 185 RX1 yX1_matchFree wsX1_matchFree) := goodIn_app (goodIn_of _ (by decide +kernel)) ggX5_commandSucceeds_X1_matchFree
set_option maxRecDepth 20000 in
theorem ggX5_commandSucceeds_X1_settleBy : GoodIn wsX5_commandSucceeds wsX1_settleBy := goodIn_r _ [69, 70, 71, 72, 8, 73, 10, 74, 75, 76, 77, 19, 20, 21, 22, 23, 24, 25, 26, 27, 28, 29, 30, 78, 79, 80, 81, 41, 6, 7, 9, 55, 56, 57, 58, 59, 60, 61, 62, 63, 64, 82, 38, 39, 40, 65, 32, 33, 34, 35, 151, 152, 153, 154, 155, 156, 157, 158, 159, 160] (by decide +kernel) (by decide +kernel)
set_option maxRecDepth 20000 in
theorem gX5_commandSucceeds_X1_settleBy : GoodIn wsX5_commandSucceeds (wsV RX5 188 RX1 yX1_settleBy wsX1_settleBy) := goodIn_app (goodIn_of _ (by decide +kernel)) ggX5_commandSucceeds_X1_settleBy
set_option maxRecDepth 20000 in
theorem ggX5_commandSucceeds_X1_passWeek : GoodIn wsX5_commandSucceeds wsX1_passWeek := goodIn_r _ [86, 10, 19, 35, 87, 88, 89, 90, 8, 91, 20, 41, 6, 7, 9, 92, 93, 94, 95, 96, 97, 98, 99, 100, 101, 102, 103, 104, 105, 106, 107, 108, 109, 110, 111, 112, 113, 114, 115, 116, 117, 118, 119, 25, 26, 27, 28, 29, 30, 120, 121, 122, 123, 124, 125, 126, 127, 128, 129, 130, 21, 22, 23, 24, 82, 38, 39, 40, 151, 152, 153, 154, 155, 156, 157, 158, 159, 160] (by decide +kernel) (by decide +kernel)
set_option maxRecDepth 20000 in
theorem gX5_commandSucceeds_X1_passWeek : GoodIn wsX5_commandSucceeds (wsV RX5 192 RX1 yX1_passWeek wsX1_passWeek) := goodIn_app (goodIn_of _ (by decide +kernel)) ggX5_commandSucceeds_X1_passWeek
set_option maxRecDepth 20000 in
theorem ggX5_commandSucceeds_X1_grade : GoodIn wsX5_commandSucceeds wsX1_grade := goodIn_r _ [134, 19, 30, 29, 135, 136, 137, 138, 8, 139, 20, 41, 6, 7, 9, 10, 21, 22, 23, 24, 25, 26, 27, 28, 82, 38, 39, 40, 151, 152, 153, 154, 155, 156, 157, 158, 159, 160] (by decide +kernel) (by decide +kernel)
set_option maxRecDepth 20000 in
theorem gX5_commandSucceeds_X1_grade : GoodIn wsX5_commandSucceeds (wsV RX5 165 RX1 yX1_grade wsX1_grade) := goodIn_app (goodIn_of _ (by decide +kernel)) ggX5_commandSucceeds_X1_grade
set_option maxRecDepth 20000 in
theorem ggX5_commandSucceeds_X1_countPairs : GoodIn wsX5_commandSucceeds wsX1_countPairs := goodIn_r _ [143, 10, 88, 89, 90, 8, 91, 19, 20, 41, 6, 7, 9, 151, 152, 153, 154, 155, 156, 157, 158, 159, 160] (by decide +kernel) (by decide +kernel)
set_option maxRecDepth 20000 in
theorem gX5_commandSucceeds_X1_countPairs : GoodIn wsX5_commandSucceeds (wsV RX5 83 RX1 yX1_countPairs wsX1_countPairs) := goodIn_app (goodIn_of _ (by decide +kernel)) ggX5_commandSucceeds_X1_countPairs
theorem dX5_commandSucceeds_0 : decode cX5_commandSucceeds 0 = .ok (.iload_n 1, 1) := by decide +kernel
theorem dX5_commandSucceeds_1 : decode cX5_commandSucceeds 1 = .ok (.bipush 100, 2) := by decide +kernel
theorem dX5_commandSucceeds_3 : decode cX5_commandSucceeds 3 = .ok (.idiv, 1) := by decide +kernel
theorem dX5_commandSucceeds_4 : decode cX5_commandSucceeds 4 = .ok (.bipush 10, 2) := by decide +kernel
theorem dX5_commandSucceeds_6 : decode cX5_commandSucceeds 6 = .ok (.irem, 1) := by decide +kernel
theorem dX5_commandSucceeds_7 : decode cX5_commandSucceeds 7 = .ok (.istore_n 2, 1) := by decide +kernel
theorem dX5_commandSucceeds_8 : decode cX5_commandSucceeds 8 = .ok (.iload_n 1, 1) := by decide +kernel
theorem dX5_commandSucceeds_9 : decode cX5_commandSucceeds 9 = .ok (.bipush 10, 2) := by decide +kernel
theorem dX5_commandSucceeds_11 : decode cX5_commandSucceeds 11 = .ok (.idiv, 1) := by decide +kernel
theorem dX5_commandSucceeds_12 : decode cX5_commandSucceeds 12 = .ok (.bipush 10, 2) := by decide +kernel
theorem dX5_commandSucceeds_14 : decode cX5_commandSucceeds 14 = .ok (.irem, 1) := by decide +kernel
theorem dX5_commandSucceeds_15 : decode cX5_commandSucceeds 15 = .ok (.istore_n 3, 1) := by decide +kernel
theorem dX5_commandSucceeds_16 : decode cX5_commandSucceeds 16 = .ok (.iload_n 1, 1) := by decide +kernel
theorem dX5_commandSucceeds_17 : decode cX5_commandSucceeds 17 = .ok (.bipush 10, 2) := by decide +kernel
theorem dX5_commandSucceeds_19 : decode cX5_commandSucceeds 19 = .ok (.irem, 1) := by decide +kernel
theorem dX5_commandSucceeds_20 : decode cX5_commandSucceeds 20 = .ok (.istore 4, 2) := by decide +kernel
theorem dX5_commandSucceeds_22 : decode cX5_commandSucceeds 22 = .ok (.iload_n 1, 1) := by decide +kernel
theorem dX5_commandSucceeds_23 : decode cX5_commandSucceeds 23 = .ok (.sipush 1000, 3) := by decide +kernel
theorem dX5_commandSucceeds_26 : decode cX5_commandSucceeds 26 = .ok (.idiv, 1) := by decide +kernel
theorem dX5_commandSucceeds_27 : decode cX5_commandSucceeds 27 = .ok (.tableswitch 399 1 9 #[49, 106, 149, 174, 214, 249, 283, 332, 358], 49) := by decide +kernel
theorem dX5_commandSucceeds_76 : decode cX5_commandSucceeds 76 = .ok (.iload 4, 2) := by decide +kernel
theorem dX5_commandSucceeds_78 : decode cX5_commandSucceeds 78 = .ok (.ifCond .ne 42, 3) := by decide +kernel
theorem dX5_commandSucceeds_81 : decode cX5_commandSucceeds 81 = .ok (.aload_n 0, 1) := by decide +kernel
theorem dX5_commandSucceeds_82 : decode cX5_commandSucceeds 82 = .ok (.getfield 23, 3) := by decide +kernel
theorem dX5_commandSucceeds_85 : decode cX5_commandSucceeds 85 = .ok (.iload_n 2, 1) := by decide +kernel
theorem dX5_commandSucceeds_86 : decode cX5_commandSucceeds 86 = .ok (.invokevirtual 252, 3) := by decide +kernel
theorem dX5_commandSucceeds_89 : decode cX5_commandSucceeds 89 = .ok (.ifCond .eq 31, 3) := by decide +kernel
theorem dX5_commandSucceeds_92 : decode cX5_commandSucceeds 92 = .ok (.aload_n 0, 1) := by decide +kernel
theorem dX5_commandSucceeds_93 : decode cX5_commandSucceeds 93 = .ok (.getfield 23, 3) := by decide +kernel
theorem dX5_commandSucceeds_96 : decode cX5_commandSucceeds 96 = .ok (.iload_n 3, 1) := by decide +kernel
theorem dX5_commandSucceeds_97 : decode cX5_commandSucceeds 97 = .ok (.invokevirtual 252, 3) := by decide +kernel
theorem dX5_commandSucceeds_100 : decode cX5_commandSucceeds 100 = .ok (.ifCond .eq 20, 3) := by decide +kernel
theorem dX5_commandSucceeds_103 : decode cX5_commandSucceeds 103 = .ok (.iload_n 2, 1) := by decide +kernel
theorem dX5_commandSucceeds_104 : decode cX5_commandSucceeds 104 = .ok (.iload_n 3, 1) := by decide +kernel
theorem dX5_commandSucceeds_105 : decode cX5_commandSucceeds 105 = .ok (.if_icmp .eq 15, 3) := by decide +kernel
theorem dX5_commandSucceeds_108 : decode cX5_commandSucceeds 108 = .ok (.aload_n 0, 1) := by decide +kernel
theorem dX5_commandSucceeds_109 : decode cX5_commandSucceeds 109 = .ok (.getfield 23, 3) := by decide +kernel
theorem dX5_commandSucceeds_112 : decode cX5_commandSucceeds 112 = .ok (.iload_n 2, 1) := by decide +kernel
theorem dX5_commandSucceeds_113 : decode cX5_commandSucceeds 113 = .ok (.iload_n 3, 1) := by decide +kernel
theorem dX5_commandSucceeds_114 : decode cX5_commandSucceeds 114 = .ok (.invokevirtual 168, 3) := by decide +kernel
theorem dX5_commandSucceeds_117 : decode cX5_commandSucceeds 117 = .ok (.ifCond .ne 5, 3) := by decide +kernel
theorem dX5_commandSucceeds_120 : decode cX5_commandSucceeds 120 = .ok (.iconst 0, 1) := by decide +kernel
theorem dX5_commandSucceeds_121 : decode cX5_commandSucceeds 121 = .ok (.ireturn, 1) := by decide +kernel
theorem dX5_commandSucceeds_122 : decode cX5_commandSucceeds 122 = .ok (.aload_n 0, 1) := by decide +kernel
theorem dX5_commandSucceeds_123 : decode cX5_commandSucceeds 123 = .ok (.getfield 23, 3) := by decide +kernel
theorem dX5_commandSucceeds_126 : decode cX5_commandSucceeds 126 = .ok (.iload_n 2, 1) := by decide +kernel
theorem dX5_commandSucceeds_127 : decode cX5_commandSucceeds 127 = .ok (.iload_n 3, 1) := by decide +kernel
theorem dX5_commandSucceeds_128 : decode cX5_commandSucceeds 128 = .ok (.invokevirtual 173, 3) := by decide +kernel
theorem dX5_commandSucceeds_131 : decode cX5_commandSucceeds 131 = .ok (.iconst 1, 1) := by decide +kernel
theorem dX5_commandSucceeds_132 : decode cX5_commandSucceeds 132 = .ok (.ireturn, 1) := by decide +kernel
theorem dX5_commandSucceeds_133 : decode cX5_commandSucceeds 133 = .ok (.iload_n 3, 1) := by decide +kernel
theorem dX5_commandSucceeds_134 : decode cX5_commandSucceeds 134 = .ok (.ifCond .ne 30, 3) := by decide +kernel
theorem dX5_commandSucceeds_137 : decode cX5_commandSucceeds 137 = .ok (.iload 4, 2) := by decide +kernel
theorem dX5_commandSucceeds_139 : decode cX5_commandSucceeds 139 = .ok (.ifCond .ne 25, 3) := by decide +kernel
theorem dX5_commandSucceeds_142 : decode cX5_commandSucceeds 142 = .ok (.aload_n 0, 1) := by decide +kernel
theorem dX5_commandSucceeds_143 : decode cX5_commandSucceeds 143 = .ok (.getfield 23, 3) := by decide +kernel
theorem dX5_commandSucceeds_146 : decode cX5_commandSucceeds 146 = .ok (.iload_n 2, 1) := by decide +kernel
theorem dX5_commandSucceeds_147 : decode cX5_commandSucceeds 147 = .ok (.invokevirtual 252, 3) := by decide +kernel
theorem dX5_commandSucceeds_150 : decode cX5_commandSucceeds 150 = .ok (.ifCond .eq 14, 3) := by decide +kernel
theorem dX5_commandSucceeds_153 : decode cX5_commandSucceeds 153 = .ok (.aload_n 0, 1) := by decide +kernel
theorem dX5_commandSucceeds_154 : decode cX5_commandSucceeds 154 = .ok (.getfield 23, 3) := by decide +kernel
theorem dX5_commandSucceeds_157 : decode cX5_commandSucceeds 157 = .ok (.iload_n 2, 1) := by decide +kernel
theorem dX5_commandSucceeds_158 : decode cX5_commandSucceeds 158 = .ok (.invokevirtual 205, 3) := by decide +kernel
theorem dX5_commandSucceeds_161 : decode cX5_commandSucceeds 161 = .ok (.ifCond .eq 5, 3) := by decide +kernel
theorem dX5_commandSucceeds_164 : decode cX5_commandSucceeds 164 = .ok (.iconst 0, 1) := by decide +kernel
theorem dX5_commandSucceeds_165 : decode cX5_commandSucceeds 165 = .ok (.ireturn, 1) := by decide +kernel
theorem dX5_commandSucceeds_166 : decode cX5_commandSucceeds 166 = .ok (.aload_n 0, 1) := by decide +kernel
theorem dX5_commandSucceeds_167 : decode cX5_commandSucceeds 167 = .ok (.getfield 23, 3) := by decide +kernel
theorem dX5_commandSucceeds_170 : decode cX5_commandSucceeds 170 = .ok (.iload_n 2, 1) := by decide +kernel
theorem dX5_commandSucceeds_171 : decode cX5_commandSucceeds 171 = .ok (.invokevirtual 182, 3) := by decide +kernel
theorem dX5_commandSucceeds_174 : decode cX5_commandSucceeds 174 = .ok (.iconst 1, 1) := by decide +kernel
theorem dX5_commandSucceeds_175 : decode cX5_commandSucceeds 175 = .ok (.ireturn, 1) := by decide +kernel
theorem dX5_commandSucceeds_176 : decode cX5_commandSucceeds 176 = .ok (.iload_n 2, 1) := by decide +kernel
theorem dX5_commandSucceeds_177 : decode cX5_commandSucceeds 177 = .ok (.ifCond .ne 12, 3) := by decide +kernel
theorem dX5_commandSucceeds_180 : decode cX5_commandSucceeds 180 = .ok (.iload_n 3, 1) := by decide +kernel
theorem dX5_commandSucceeds_181 : decode cX5_commandSucceeds 181 = .ok (.ifCond .ne 8, 3) := by decide +kernel
theorem dX5_commandSucceeds_184 : decode cX5_commandSucceeds 184 = .ok (.iload 4, 2) := by decide +kernel
theorem dX5_commandSucceeds_186 : decode cX5_commandSucceeds 186 = .ok (.ifCond .eq 5, 3) := by decide +kernel
theorem dX5_commandSucceeds_189 : decode cX5_commandSucceeds 189 = .ok (.iconst 0, 1) := by decide +kernel
theorem dX5_commandSucceeds_190 : decode cX5_commandSucceeds 190 = .ok (.ireturn, 1) := by decide +kernel
theorem dX5_commandSucceeds_191 : decode cX5_commandSucceeds 191 = .ok (.aload_n 0, 1) := by decide +kernel
theorem dX5_commandSucceeds_192 : decode cX5_commandSucceeds 192 = .ok (.getfield 23, 3) := by decide +kernel
theorem dX5_commandSucceeds_195 : decode cX5_commandSucceeds 195 = .ok (.invokevirtual 185, 3) := by decide +kernel
theorem dX5_commandSucceeds_198 : decode cX5_commandSucceeds 198 = .ok (.pop, 1) := by decide +kernel
theorem dX5_commandSucceeds_199 : decode cX5_commandSucceeds 199 = .ok (.iconst 1, 1) := by decide +kernel
theorem dX5_commandSucceeds_200 : decode cX5_commandSucceeds 200 = .ok (.ireturn, 1) := by decide +kernel
theorem dX5_commandSucceeds_201 : decode cX5_commandSucceeds 201 = .ok (.bipush 10, 2) := by decide +kernel
theorem dX5_commandSucceeds_203 : decode cX5_commandSucceeds 203 = .ok (.iload_n 3, 1) := by decide +kernel
theorem dX5_commandSucceeds_204 : decode cX5_commandSucceeds 204 = .ok (.imul, 1) := by decide +kernel
theorem dX5_commandSucceeds_205 : decode cX5_commandSucceeds 205 = .ok (.iload 4, 2) := by decide +kernel
theorem dX5_commandSucceeds_207 : decode cX5_commandSucceeds 207 = .ok (.iadd, 1) := by decide +kernel
theorem dX5_commandSucceeds_208 : decode cX5_commandSucceeds 208 = .ok (.istore 5, 2) := by decide +kernel
theorem dX5_commandSucceeds_210 : decode cX5_commandSucceeds 210 = .ok (.iload_n 2, 1) := by decide +kernel
theorem dX5_commandSucceeds_211 : decode cX5_commandSucceeds 211 = .ok (.ifCond .ne 16, 3) := by decide +kernel
theorem dX5_commandSucceeds_214 : decode cX5_commandSucceeds 214 = .ok (.iload 5, 2) := by decide +kernel
theorem dX5_commandSucceeds_216 : decode cX5_commandSucceeds 216 = .ok (.iconst 1, 1) := by decide +kernel
theorem dX5_commandSucceeds_217 : decode cX5_commandSucceeds 217 = .ok (.if_icmp .lt 10, 3) := by decide +kernel
theorem dX5_commandSucceeds_220 : decode cX5_commandSucceeds 220 = .ok (.iload 5, 2) := by decide +kernel
theorem dX5_commandSucceeds_222 : decode cX5_commandSucceeds 222 = .ok (.bipush 50, 2) := by decide +kernel
theorem dX5_commandSucceeds_224 : decode cX5_commandSucceeds 224 = .ok (.if_icmp .le 5, 3) := by decide +kernel
theorem dX5_commandSucceeds_227 : decode cX5_commandSucceeds 227 = .ok (.iconst 0, 1) := by decide +kernel
theorem dX5_commandSucceeds_228 : decode cX5_commandSucceeds 228 = .ok (.ireturn, 1) := by decide +kernel
theorem dX5_commandSucceeds_229 : decode cX5_commandSucceeds 229 = .ok (.aload_n 0, 1) := by decide +kernel
theorem dX5_commandSucceeds_230 : decode cX5_commandSucceeds 230 = .ok (.getfield 23, 3) := by decide +kernel
theorem dX5_commandSucceeds_233 : decode cX5_commandSucceeds 233 = .ok (.iload 5, 2) := by decide +kernel
theorem dX5_commandSucceeds_235 : decode cX5_commandSucceeds 235 = .ok (.invokevirtual 188, 3) := by decide +kernel
theorem dX5_commandSucceeds_238 : decode cX5_commandSucceeds 238 = .ok (.pop, 1) := by decide +kernel
theorem dX5_commandSucceeds_239 : decode cX5_commandSucceeds 239 = .ok (.iconst 1, 1) := by decide +kernel
theorem dX5_commandSucceeds_240 : decode cX5_commandSucceeds 240 = .ok (.ireturn, 1) := by decide +kernel
theorem dX5_commandSucceeds_241 : decode cX5_commandSucceeds 241 = .ok (.bipush 100, 2) := by decide +kernel
theorem dX5_commandSucceeds_243 : decode cX5_commandSucceeds 243 = .ok (.iload_n 2, 1) := by decide +kernel
theorem dX5_commandSucceeds_244 : decode cX5_commandSucceeds 244 = .ok (.imul, 1) := by decide +kernel
theorem dX5_commandSucceeds_245 : decode cX5_commandSucceeds 245 = .ok (.bipush 10, 2) := by decide +kernel
theorem dX5_commandSucceeds_247 : decode cX5_commandSucceeds 247 = .ok (.iload_n 3, 1) := by decide +kernel
theorem dX5_commandSucceeds_248 : decode cX5_commandSucceeds 248 = .ok (.imul, 1) := by decide +kernel
theorem dX5_commandSucceeds_249 : decode cX5_commandSucceeds 249 = .ok (.iadd, 1) := by decide +kernel
theorem dX5_commandSucceeds_250 : decode cX5_commandSucceeds 250 = .ok (.iload 4, 2) := by decide +kernel
theorem dX5_commandSucceeds_252 : decode cX5_commandSucceeds 252 = .ok (.iadd, 1) := by decide +kernel
theorem dX5_commandSucceeds_253 : decode cX5_commandSucceeds 253 = .ok (.istore 6, 2) := by decide +kernel
theorem dX5_commandSucceeds_255 : decode cX5_commandSucceeds 255 = .ok (.iload 6, 2) := by decide +kernel
theorem dX5_commandSucceeds_257 : decode cX5_commandSucceeds 257 = .ok (.sipush 511, 3) := by decide +kernel
theorem dX5_commandSucceeds_260 : decode cX5_commandSucceeds 260 = .ok (.if_icmp .le 5, 3) := by decide +kernel
theorem dX5_commandSucceeds_263 : decode cX5_commandSucceeds 263 = .ok (.iconst 0, 1) := by decide +kernel
theorem dX5_commandSucceeds_264 : decode cX5_commandSucceeds 264 = .ok (.ireturn, 1) := by decide +kernel
theorem dX5_commandSucceeds_265 : decode cX5_commandSucceeds 265 = .ok (.aload_n 0, 1) := by decide +kernel
theorem dX5_commandSucceeds_266 : decode cX5_commandSucceeds 266 = .ok (.getfield 23, 3) := by decide +kernel
theorem dX5_commandSucceeds_269 : decode cX5_commandSucceeds 269 = .ok (.iload 6, 2) := by decide +kernel
theorem dX5_commandSucceeds_271 : decode cX5_commandSucceeds 271 = .ok (.invokevirtual 192, 3) := by decide +kernel
theorem dX5_commandSucceeds_274 : decode cX5_commandSucceeds 274 = .ok (.iconst 1, 1) := by decide +kernel
theorem dX5_commandSucceeds_275 : decode cX5_commandSucceeds 275 = .ok (.ireturn, 1) := by decide +kernel
theorem dX5_commandSucceeds_276 : decode cX5_commandSucceeds 276 = .ok (.aload_n 0, 1) := by decide +kernel
theorem dX5_commandSucceeds_277 : decode cX5_commandSucceeds 277 = .ok (.getfield 23, 3) := by decide +kernel
theorem dX5_commandSucceeds_280 : decode cX5_commandSucceeds 280 = .ok (.iload_n 2, 1) := by decide +kernel
theorem dX5_commandSucceeds_281 : decode cX5_commandSucceeds 281 = .ok (.invokevirtual 252, 3) := by decide +kernel
theorem dX5_commandSucceeds_284 : decode cX5_commandSucceeds 284 = .ok (.ifCond .eq 8, 3) := by decide +kernel
theorem dX5_commandSucceeds_287 : decode cX5_commandSucceeds 287 = .ok (.iload_n 3, 1) := by decide +kernel
theorem dX5_commandSucceeds_288 : decode cX5_commandSucceeds 288 = .ok (.iconst 4, 1) := by decide +kernel
theorem dX5_commandSucceeds_289 : decode cX5_commandSucceeds 289 = .ok (.if_icmp .lt 5, 3) := by decide +kernel
theorem dX5_commandSucceeds_292 : decode cX5_commandSucceeds 292 = .ok (.iconst 0, 1) := by decide +kernel
theorem dX5_commandSucceeds_293 : decode cX5_commandSucceeds 293 = .ok (.ireturn, 1) := by decide +kernel
theorem dX5_commandSucceeds_294 : decode cX5_commandSucceeds 294 = .ok (.aload_n 0, 1) := by decide +kernel
theorem dX5_commandSucceeds_295 : decode cX5_commandSucceeds 295 = .ok (.getfield 23, 3) := by decide +kernel
theorem dX5_commandSucceeds_298 : decode cX5_commandSucceeds 298 = .ok (.iload_n 2, 1) := by decide +kernel
theorem dX5_commandSucceeds_299 : decode cX5_commandSucceeds 299 = .ok (.iload_n 3, 1) := by decide +kernel
theorem dX5_commandSucceeds_300 : decode cX5_commandSucceeds 300 = .ok (.bipush 10, 2) := by decide +kernel
theorem dX5_commandSucceeds_302 : decode cX5_commandSucceeds 302 = .ok (.iload 4, 2) := by decide +kernel
theorem dX5_commandSucceeds_304 : decode cX5_commandSucceeds 304 = .ok (.imul, 1) := by decide +kernel
theorem dX5_commandSucceeds_305 : decode cX5_commandSucceeds 305 = .ok (.invokevirtual 165, 3) := by decide +kernel
theorem dX5_commandSucceeds_308 : decode cX5_commandSucceeds 308 = .ok (.iconst 1, 1) := by decide +kernel
theorem dX5_commandSucceeds_309 : decode cX5_commandSucceeds 309 = .ok (.ireturn, 1) := by decide +kernel
theorem dX5_commandSucceeds_310 : decode cX5_commandSucceeds 310 = .ok (.iload 4, 2) := by decide +kernel
theorem dX5_commandSucceeds_312 : decode cX5_commandSucceeds 312 = .ok (.ifCond .ne 45, 3) := by decide +kernel
theorem dX5_commandSucceeds_315 : decode cX5_commandSucceeds 315 = .ok (.aload_n 0, 1) := by decide +kernel
theorem dX5_commandSucceeds_316 : decode cX5_commandSucceeds 316 = .ok (.getfield 23, 3) := by decide +kernel
theorem dX5_commandSucceeds_319 : decode cX5_commandSucceeds 319 = .ok (.iload_n 2, 1) := by decide +kernel
theorem dX5_commandSucceeds_320 : decode cX5_commandSucceeds 320 = .ok (.invokevirtual 252, 3) := by decide +kernel
theorem dX5_commandSucceeds_323 : decode cX5_commandSucceeds 323 = .ok (.ifCond .eq 34, 3) := by decide +kernel
theorem dX5_commandSucceeds_326 : decode cX5_commandSucceeds 326 = .ok (.aload_n 0, 1) := by decide +kernel
theorem dX5_commandSucceeds_327 : decode cX5_commandSucceeds 327 = .ok (.getfield 23, 3) := by decide +kernel
theorem dX5_commandSucceeds_330 : decode cX5_commandSucceeds 330 = .ok (.iload_n 3, 1) := by decide +kernel
theorem dX5_commandSucceeds_331 : decode cX5_commandSucceeds 331 = .ok (.invokevirtual 252, 3) := by decide +kernel
theorem dX5_commandSucceeds_334 : decode cX5_commandSucceeds 334 = .ok (.ifCond .eq 23, 3) := by decide +kernel
theorem dX5_commandSucceeds_337 : decode cX5_commandSucceeds 337 = .ok (.aload_n 0, 1) := by decide +kernel
theorem dX5_commandSucceeds_338 : decode cX5_commandSucceeds 338 = .ok (.getfield 23, 3) := by decide +kernel
theorem dX5_commandSucceeds_341 : decode cX5_commandSucceeds 341 = .ok (.getfield 143, 3) := by decide +kernel
theorem dX5_commandSucceeds_344 : decode cX5_commandSucceeds 344 = .ok (.iload_n 2, 1) := by decide +kernel
theorem dX5_commandSucceeds_345 : decode cX5_commandSucceeds 345 = .ok (.aaload, 1) := by decide +kernel
theorem dX5_commandSucceeds_346 : decode cX5_commandSucceeds 346 = .ok (.getfield 179, 3) := by decide +kernel
theorem dX5_commandSucceeds_349 : decode cX5_commandSucceeds 349 = .ok (.iload_n 3, 1) := by decide +kernel
theorem dX5_commandSucceeds_350 : decode cX5_commandSucceeds 350 = .ok (.if_icmp .ne 7, 3) := by decide +kernel
theorem dX5_commandSucceeds_353 : decode cX5_commandSucceeds 353 = .ok (.iconst 1, 1) := by decide +kernel
theorem dX5_commandSucceeds_354 : decode cX5_commandSucceeds 354 = .ok (.goto 4, 3) := by decide +kernel
theorem dX5_commandSucceeds_357 : decode cX5_commandSucceeds 357 = .ok (.iconst 0, 1) := by decide +kernel
theorem dX5_commandSucceeds_358 : decode cX5_commandSucceeds 358 = .ok (.ireturn, 1) := by decide +kernel
theorem dX5_commandSucceeds_359 : decode cX5_commandSucceeds 359 = .ok (.iload_n 2, 1) := by decide +kernel
theorem dX5_commandSucceeds_360 : decode cX5_commandSucceeds 360 = .ok (.ifCond .ne 23, 3) := by decide +kernel
theorem dX5_commandSucceeds_363 : decode cX5_commandSucceeds 363 = .ok (.iload_n 3, 1) := by decide +kernel
theorem dX5_commandSucceeds_364 : decode cX5_commandSucceeds 364 = .ok (.ifCond .ne 19, 3) := by decide +kernel
theorem dX5_commandSucceeds_367 : decode cX5_commandSucceeds 367 = .ok (.aload_n 0, 1) := by decide +kernel
theorem dX5_commandSucceeds_368 : decode cX5_commandSucceeds 368 = .ok (.getfield 23, 3) := by decide +kernel
theorem dX5_commandSucceeds_371 : decode cX5_commandSucceeds 371 = .ok (.invokevirtual 83, 3) := by decide +kernel
theorem dX5_commandSucceeds_374 : decode cX5_commandSucceeds 374 = .ok (.iload 4, 2) := by decide +kernel
theorem dX5_commandSucceeds_376 : decode cX5_commandSucceeds 376 = .ok (.if_icmp .ne 7, 3) := by decide +kernel
theorem dX5_commandSucceeds_379 : decode cX5_commandSucceeds 379 = .ok (.iconst 1, 1) := by decide +kernel
theorem dX5_commandSucceeds_380 : decode cX5_commandSucceeds 380 = .ok (.goto 4, 3) := by decide +kernel
theorem dX5_commandSucceeds_383 : decode cX5_commandSucceeds 383 = .ok (.iconst 0, 1) := by decide +kernel
theorem dX5_commandSucceeds_384 : decode cX5_commandSucceeds 384 = .ok (.ireturn, 1) := by decide +kernel
theorem dX5_commandSucceeds_385 : decode cX5_commandSucceeds 385 = .ok (.aload_n 0, 1) := by decide +kernel
theorem dX5_commandSucceeds_386 : decode cX5_commandSucceeds 386 = .ok (.getfield 23, 3) := by decide +kernel
theorem dX5_commandSucceeds_389 : decode cX5_commandSucceeds 389 = .ok (.iload_n 2, 1) := by decide +kernel
theorem dX5_commandSucceeds_390 : decode cX5_commandSucceeds 390 = .ok (.invokevirtual 252, 3) := by decide +kernel
theorem dX5_commandSucceeds_393 : decode cX5_commandSucceeds 393 = .ok (.ifCond .eq 31, 3) := by decide +kernel
theorem dX5_commandSucceeds_396 : decode cX5_commandSucceeds 396 = .ok (.iload_n 3, 1) := by decide +kernel
theorem dX5_commandSucceeds_397 : decode cX5_commandSucceeds 397 = .ok (.iconst 4, 1) := by decide +kernel
theorem dX5_commandSucceeds_398 : decode cX5_commandSucceeds 398 = .ok (.if_icmp .ge 26, 3) := by decide +kernel
theorem dX5_commandSucceeds_401 : decode cX5_commandSucceeds 401 = .ok (.aload_n 0, 1) := by decide +kernel
theorem dX5_commandSucceeds_402 : decode cX5_commandSucceeds 402 = .ok (.getfield 23, 3) := by decide +kernel
theorem dX5_commandSucceeds_405 : decode cX5_commandSucceeds 405 = .ok (.getfield 143, 3) := by decide +kernel
theorem dX5_commandSucceeds_408 : decode cX5_commandSucceeds 408 = .ok (.iload_n 2, 1) := by decide +kernel
theorem dX5_commandSucceeds_409 : decode cX5_commandSucceeds 409 = .ok (.aaload, 1) := by decide +kernel
theorem dX5_commandSucceeds_410 : decode cX5_commandSucceeds 410 = .ok (.getfield 161, 3) := by decide +kernel
theorem dX5_commandSucceeds_413 : decode cX5_commandSucceeds 413 = .ok (.iload_n 3, 1) := by decide +kernel
theorem dX5_commandSucceeds_414 : decode cX5_commandSucceeds 414 = .ok (.iaload, 1) := by decide +kernel
theorem dX5_commandSucceeds_415 : decode cX5_commandSucceeds 415 = .ok (.iload 4, 2) := by decide +kernel
theorem dX5_commandSucceeds_417 : decode cX5_commandSucceeds 417 = .ok (.if_icmp .ne 7, 3) := by decide +kernel
theorem dX5_commandSucceeds_420 : decode cX5_commandSucceeds 420 = .ok (.iconst 1, 1) := by decide +kernel
theorem dX5_commandSucceeds_421 : decode cX5_commandSucceeds 421 = .ok (.goto 4, 3) := by decide +kernel
theorem dX5_commandSucceeds_424 : decode cX5_commandSucceeds 424 = .ok (.iconst 0, 1) := by decide +kernel
theorem dX5_commandSucceeds_425 : decode cX5_commandSucceeds 425 = .ok (.ireturn, 1) := by decide +kernel
theorem dX5_commandSucceeds_426 : decode cX5_commandSucceeds 426 = .ok (.iconst 0, 1) := by decide +kernel
theorem dX5_commandSucceeds_427 : decode cX5_commandSucceeds 427 = .ok (.ireturn, 1) := by decide +kernel
theorem dJ9_floorDiv_7cf53_0 : decode cJ9_floorDiv_7cf53 0 = .ok (.iload_n 0, 1) := by decide +kernel
theorem dJ9_floorDiv_7cf53_1 : decode cJ9_floorDiv_7cf53 1 = .ok (.iload_n 1, 1) := by decide +kernel
theorem dJ9_floorDiv_7cf53_2 : decode cJ9_floorDiv_7cf53 2 = .ok (.idiv, 1) := by decide +kernel
theorem dJ9_floorDiv_7cf53_3 : decode cJ9_floorDiv_7cf53 3 = .ok (.istore_n 2, 1) := by decide +kernel
theorem dJ9_floorDiv_7cf53_4 : decode cJ9_floorDiv_7cf53 4 = .ok (.iload_n 0, 1) := by decide +kernel
theorem dJ9_floorDiv_7cf53_5 : decode cJ9_floorDiv_7cf53 5 = .ok (.iload_n 1, 1) := by decide +kernel
theorem dJ9_floorDiv_7cf53_6 : decode cJ9_floorDiv_7cf53 6 = .ok (.ixor, 1) := by decide +kernel
theorem dJ9_floorDiv_7cf53_7 : decode cJ9_floorDiv_7cf53 7 = .ok (.ifCond .ge 14, 3) := by decide +kernel
theorem dJ9_floorDiv_7cf53_10 : decode cJ9_floorDiv_7cf53 10 = .ok (.iload_n 2, 1) := by decide +kernel
theorem dJ9_floorDiv_7cf53_11 : decode cJ9_floorDiv_7cf53 11 = .ok (.iload_n 1, 1) := by decide +kernel
theorem dJ9_floorDiv_7cf53_12 : decode cJ9_floorDiv_7cf53 12 = .ok (.imul, 1) := by decide +kernel
theorem dJ9_floorDiv_7cf53_13 : decode cJ9_floorDiv_7cf53 13 = .ok (.iload_n 0, 1) := by decide +kernel
theorem dJ9_floorDiv_7cf53_14 : decode cJ9_floorDiv_7cf53 14 = .ok (.if_icmp .eq 7, 3) := by decide +kernel
theorem dJ9_floorDiv_7cf53_17 : decode cJ9_floorDiv_7cf53 17 = .ok (.iload_n 2, 1) := by decide +kernel
theorem dJ9_floorDiv_7cf53_18 : decode cJ9_floorDiv_7cf53 18 = .ok (.iconst 1, 1) := by decide +kernel
theorem dJ9_floorDiv_7cf53_19 : decode cJ9_floorDiv_7cf53 19 = .ok (.isub, 1) := by decide +kernel
theorem dJ9_floorDiv_7cf53_20 : decode cJ9_floorDiv_7cf53 20 = .ok (.ireturn, 1) := by decide +kernel
theorem dJ9_floorDiv_7cf53_21 : decode cJ9_floorDiv_7cf53 21 = .ok (.iload_n 2, 1) := by decide +kernel
theorem dJ9_floorDiv_7cf53_22 : decode cJ9_floorDiv_7cf53 22 = .ok (.ireturn, 1) := by decide +kernel
theorem dJ9_max_7cf53_0 : decode cJ9_max_7cf53 0 = .ok (.iload_n 0, 1) := by decide +kernel
theorem dJ9_max_7cf53_1 : decode cJ9_max_7cf53 1 = .ok (.iload_n 1, 1) := by decide +kernel
theorem dJ9_max_7cf53_2 : decode cJ9_max_7cf53 2 = .ok (.if_icmp .lt 7, 3) := by decide +kernel
theorem dJ9_max_7cf53_5 : decode cJ9_max_7cf53 5 = .ok (.iload_n 0, 1) := by decide +kernel
theorem dJ9_max_7cf53_6 : decode cJ9_max_7cf53 6 = .ok (.goto 4, 3) := by decide +kernel
theorem dJ9_max_7cf53_9 : decode cJ9_max_7cf53 9 = .ok (.iload_n 1, 1) := by decide +kernel
theorem dJ9_max_7cf53_10 : decode cJ9_max_7cf53 10 = .ok (.ireturn, 1) := by decide +kernel
theorem dJ9_min_7cf53_0 : decode cJ9_min_7cf53 0 = .ok (.iload_n 0, 1) := by decide +kernel
theorem dJ9_min_7cf53_1 : decode cJ9_min_7cf53 1 = .ok (.iload_n 1, 1) := by decide +kernel
theorem dJ9_min_7cf53_2 : decode cJ9_min_7cf53 2 = .ok (.if_icmp .gt 7, 3) := by decide +kernel
theorem dJ9_min_7cf53_5 : decode cJ9_min_7cf53 5 = .ok (.iload_n 0, 1) := by decide +kernel
theorem dJ9_min_7cf53_6 : decode cJ9_min_7cf53 6 = .ok (.goto 4, 3) := by decide +kernel
theorem dJ9_min_7cf53_9 : decode cJ9_min_7cf53 9 = .ok (.iload_n 1, 1) := by decide +kernel
theorem dJ9_min_7cf53_10 : decode cJ9_min_7cf53 10 = .ok (.ireturn, 1) := by decide +kernel
set_option maxRecDepth 20000 in
theorem ggL_tryAppend_X5_append : GoodIn wsL_tryAppend wsX5_append := goodIn_ca (goodIn_ca (goodIn_r _ [9, 10, 11, 12, 13, 14, 15, 8, 16, 17, 18, 19, 20, 21, 22, 23, 24, 25, 26, 27, 28, 29, 30, 31, 32, 33, 34] (by decide +kernel) (by decide +kernel)) (goodIn_sub (fun _ h => List.mem_cons_of_mem _ (List.mem_append_left _ (List.mem_append_right _ h))) (by decide +kernel))) (goodIn_sub (fun _ h => List.mem_cons_of_mem _ (List.mem_append_right _ h)) (by decide +kernel))
set_option maxRecDepth 20000 in
theorem gL_tryAppend_X5_append : GoodIn wsL_tryAppend (wsV RL 7 RX5 yX5_append wsX5_append) := goodIn_app (goodIn_of _ (by decide +kernel)) ggL_tryAppend_X5_append
