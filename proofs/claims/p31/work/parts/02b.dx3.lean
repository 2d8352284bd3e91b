theorem dX3_init_0 : decode cX3_init 0 = .ok (.aload_n 0, 1) := by decide +kernel
theorem dX3_init_1 : decode cX3_init 1 = .ok (.invokespecial 3, 3) := by decide +kernel
theorem dX3_init_4 : decode cX3_init 4 = .ok (.aload_n 0, 1) := by decide +kernel
theorem dX3_init_5 : decode cX3_init 5 = .ok (.iconst 4, 1) := by decide +kernel
theorem dX3_init_6 : decode cX3_init 6 = .ok (.newarray .int, 2) := by decide +kernel
theorem dX3_init_8 : decode cX3_init 8 = .ok (.putfield 9, 3) := by decide +kernel
theorem dX3_init_11 : decode cX3_init 11 = .ok (.return_, 1) := by decide +kernel
theorem dX3_copyFrom_0 : decode cX3_copyFrom 0 = .ok (.aload_n 1, 1) := by decide +kernel
theorem dX3_copyFrom_1 : decode cX3_copyFrom 1 = .ok (.getfield 9, 3) := by decide +kernel
theorem dX3_copyFrom_4 : decode cX3_copyFrom 4 = .ok (.iconst 0, 1) := by decide +kernel
theorem dX3_copyFrom_5 : decode cX3_copyFrom 5 = .ok (.aload_n 0, 1) := by decide +kernel
theorem dX3_copyFrom_6 : decode cX3_copyFrom 6 = .ok (.getfield 9, 3) := by decide +kernel
theorem dX3_copyFrom_9 : decode cX3_copyFrom 9 = .ok (.iconst 0, 1) := by decide +kernel
theorem dX3_copyFrom_10 : decode cX3_copyFrom 10 = .ok (.iconst 4, 1) := by decide +kernel
theorem dX3_copyFrom_11 : decode cX3_copyFrom 11 = .ok (.invokestatic 15, 3) := by decide +kernel
theorem dX3_copyFrom_14 : decode cX3_copyFrom 14 = .ok (.aload_n 0, 1) := by decide +kernel
theorem dX3_copyFrom_15 : decode cX3_copyFrom 15 = .ok (.aload_n 1, 1) := by decide +kernel
theorem dX3_copyFrom_16 : decode cX3_copyFrom 16 = .ok (.getfield 21, 3) := by decide +kernel
theorem dX3_copyFrom_19 : decode cX3_copyFrom 19 = .ok (.putfield 21, 3) := by decide +kernel
theorem dX3_copyFrom_22 : decode cX3_copyFrom 22 = .ok (.aload_n 0, 1) := by decide +kernel
theorem dX3_copyFrom_23 : decode cX3_copyFrom 23 = .ok (.aload_n 1, 1) := by decide +kernel
theorem dX3_copyFrom_24 : decode cX3_copyFrom 24 = .ok (.getfield 25, 3) := by decide +kernel
theorem dX3_copyFrom_27 : decode cX3_copyFrom 27 = .ok (.putfield 25, 3) := by decide +kernel
theorem dX3_copyFrom_30 : decode cX3_copyFrom 30 = .ok (.aload_n 0, 1) := by decide +kernel
theorem dX3_copyFrom_31 : decode cX3_copyFrom 31 = .ok (.aload_n 1, 1) := by decide +kernel
theorem dX3_copyFrom_32 : decode cX3_copyFrom 32 = .ok (.getfield 28, 3) := by decide +kernel
theorem dX3_copyFrom_35 : decode cX3_copyFrom 35 = .ok (.putfield 28, 3) := by decide +kernel
theorem dX3_copyFrom_38 : decode cX3_copyFrom 38 = .ok (.aload_n 0, 1) := by decide +kernel
theorem dX3_copyFrom_39 : decode cX3_copyFrom 39 = .ok (.aload_n 1, 1) := by decide +kernel
theorem dX3_copyFrom_40 : decode cX3_copyFrom 40 = .ok (.getfield 31, 3) := by decide +kernel
theorem dX3_copyFrom_43 : decode cX3_copyFrom 43 = .ok (.putfield 31, 3) := by decide +kernel
theorem dX3_copyFrom_46 : decode cX3_copyFrom 46 = .ok (.aload_n 0, 1) := by decide +kernel
theorem dX3_copyFrom_47 : decode cX3_copyFrom 47 = .ok (.aload_n 1, 1) := by decide +kernel
theorem dX3_copyFrom_48 : decode cX3_copyFrom 48 = .ok (.getfield 34, 3) := by decide +kernel
theorem dX3_copyFrom_51 : decode cX3_copyFrom 51 = .ok (.putfield 34, 3) := by decide +kernel
theorem dX3_copyFrom_54 : decode cX3_copyFrom 54 = .ok (.aload_n 0, 1) := by decide +kernel
theorem dX3_copyFrom_55 : decode cX3_copyFrom 55 = .ok (.aload_n 1, 1) := by decide +kernel
theorem dX3_copyFrom_56 : decode cX3_copyFrom 56 = .ok (.getfield 37, 3) := by decide +kernel
theorem dX3_copyFrom_59 : decode cX3_copyFrom 59 = .ok (.putfield 37, 3) := by decide +kernel
theorem dX3_copyFrom_62 : decode cX3_copyFrom 62 = .ok (.return_, 1) := by decide +kernel
theorem dX3_start_0 : decode cX3_start 0 = .ok (.iload_n 2, 1) := by decide +kernel
theorem dX3_start_1 : decode cX3_start 1 = .ok (.istore 4, 2) := by decide +kernel
theorem dX3_start_3 : decode cX3_start 3 = .ok (.iconst 3, 1) := by decide +kernel
theorem dX3_start_4 : decode cX3_start 4 = .ok (.istore 5, 2) := by decide +kernel
theorem dX3_start_6 : decode cX3_start 6 = .ok (.iload 5, 2) := by decide +kernel
theorem dX3_start_8 : decode cX3_start 8 = .ok (.ifCond .lt 28, 3) := by decide +kernel
theorem dX3_start_11 : decode cX3_start 11 = .ok (.aload_n 0, 1) := by decide +kernel
theorem dX3_start_12 : decode cX3_start 12 = .ok (.getfield 9, 3) := by decide +kernel
theorem dX3_start_15 : decode cX3_start 15 = .ok (.iload 5, 2) := by decide +kernel
theorem dX3_start_17 : decode cX3_start 17 = .ok (.iload 4, 2) := by decide +kernel
theorem dX3_start_19 : decode cX3_start 19 = .ok (.bipush 10, 2) := by decide +kernel
theorem dX3_start_21 : decode cX3_start 21 = .ok (.irem, 1) := by decide +kernel
theorem dX3_start_22 : decode cX3_start 22 = .ok (.iastore, 1) := by decide +kernel
theorem dX3_start_23 : decode cX3_start 23 = .ok (.iload 4, 2) := by decide +kernel
theorem dX3_start_25 : decode cX3_start 25 = .ok (.bipush 10, 2) := by decide +kernel
theorem dX3_start_27 : decode cX3_start 27 = .ok (.idiv, 1) := by decide +kernel
theorem dX3_start_28 : decode cX3_start 28 = .ok (.istore 4, 2) := by decide +kernel
theorem dX3_start_30 : decode cX3_start 30 = .ok (.iinc 5 (-1), 3) := by decide +kernel
theorem dX3_start_33 : decode cX3_start 33 = .ok (.goto (-27), 3) := by decide +kernel
theorem dX3_start_36 : decode cX3_start 36 = .ok (.aload_n 0, 1) := by decide +kernel
theorem dX3_start_37 : decode cX3_start 37 = .ok (.iload_n 1, 1) := by decide +kernel
theorem dX3_start_38 : decode cX3_start 38 = .ok (.putfield 21, 3) := by decide +kernel
theorem dX3_start_41 : decode cX3_start 41 = .ok (.aload_n 0, 1) := by decide +kernel
theorem dX3_start_42 : decode cX3_start 42 = .ok (.iconst 0, 1) := by decide +kernel
theorem dX3_start_43 : decode cX3_start 43 = .ok (.putfield 25, 3) := by decide +kernel
theorem dX3_start_46 : decode cX3_start 46 = .ok (.aload_n 0, 1) := by decide +kernel
theorem dX3_start_47 : decode cX3_start 47 = .ok (.iload_n 3, 1) := by decide +kernel
theorem dX3_start_48 : decode cX3_start 48 = .ok (.putfield 28, 3) := by decide +kernel
theorem dX3_start_51 : decode cX3_start 51 = .ok (.aload_n 0, 1) := by decide +kernel
theorem dX3_start_52 : decode cX3_start 52 = .ok (.iconst 0, 1) := by decide +kernel
theorem dX3_start_53 : decode cX3_start 53 = .ok (.putfield 31, 3) := by decide +kernel
theorem dX3_start_56 : decode cX3_start 56 = .ok (.aload_n 0, 1) := by decide +kernel
theorem dX3_start_57 : decode cX3_start 57 = .ok (.sipush (-9999), 3) := by decide +kernel
theorem dX3_start_60 : decode cX3_start 60 = .ok (.putfield 34, 3) := by decide +kernel
theorem dX3_start_63 : decode cX3_start 63 = .ok (.aload_n 0, 1) := by decide +kernel
theorem dX3_start_64 : decode cX3_start 64 = .ok (.iconst 0, 1) := by decide +kernel
theorem dX3_start_65 : decode cX3_start 65 = .ok (.putfield 37, 3) := by decide +kernel
theorem dX3_start_68 : decode cX3_start 68 = .ok (.return_, 1) := by decide +kernel
theorem dX3_wantedLevel_0 : decode cX3_wantedLevel 0 = .ok (.aload_n 0, 1) := by decide +kernel
theorem dX3_wantedLevel_1 : decode cX3_wantedLevel 1 = .ok (.getfield 9, 3) := by decide +kernel
theorem dX3_wantedLevel_4 : decode cX3_wantedLevel 4 = .ok (.aload_n 0, 1) := by decide +kernel
theorem dX3_wantedLevel_5 : decode cX3_wantedLevel 5 = .ok (.getfield 21, 3) := by decide +kernel
theorem dX3_wantedLevel_8 : decode cX3_wantedLevel 8 = .ok (.iaload, 1) := by decide +kernel
theorem dX3_wantedLevel_9 : decode cX3_wantedLevel 9 = .ok (.ireturn, 1) := by decide +kernel
theorem dX3_gainCredits_0 : decode cX3_gainCredits 0 = .ok (.aload_n 0, 1) := by decide +kernel
theorem dX3_gainCredits_1 : decode cX3_gainCredits 1 = .ok (.bipush (-99), 2) := by decide +kernel
theorem dX3_gainCredits_3 : decode cX3_gainCredits 3 = .ok (.bipush 99, 2) := by decide +kernel
theorem dX3_gainCredits_5 : decode cX3_gainCredits 5 = .ok (.aload_n 0, 1) := by decide +kernel
theorem dX3_gainCredits_6 : decode cX3_gainCredits 6 = .ok (.getfield 28, 3) := by decide +kernel
theorem dX3_gainCredits_9 : decode cX3_gainCredits 9 = .ok (.iload_n 1, 1) := by decide +kernel
theorem dX3_gainCredits_10 : decode cX3_gainCredits 10 = .ok (.iadd, 1) := by decide +kernel
theorem dX3_gainCredits_11 : decode cX3_gainCredits 11 = .ok (.invokestatic 40, 3) := by decide +kernel
theorem dX3_gainCredits_14 : decode cX3_gainCredits 14 = .ok (.invokestatic 46, 3) := by decide +kernel
theorem dX3_gainCredits_17 : decode cX3_gainCredits 17 = .ok (.putfield 28, 3) := by decide +kernel
theorem dX3_gainCredits_20 : decode cX3_gainCredits 20 = .ok (.return_, 1) := by decide +kernel
theorem dX3_learn_0 : decode cX3_learn 0 = .ok (.aload_n 0, 1) := by decide +kernel
theorem dX3_learn_1 : decode cX3_learn 1 = .ok (.dup, 1) := by decide +kernel
theorem dX3_learn_2 : decode cX3_learn 2 = .ok (.getfield 25, 3) := by decide +kernel
theorem dX3_learn_5 : decode cX3_learn 5 = .ok (.iload_n 1, 1) := by decide +kernel
theorem dX3_learn_6 : decode cX3_learn 6 = .ok (.iadd, 1) := by decide +kernel
theorem dX3_learn_7 : decode cX3_learn 7 = .ok (.putfield 25, 3) := by decide +kernel
theorem dX3_learn_10 : decode cX3_learn 10 = .ok (.aload_n 0, 1) := by decide +kernel
theorem dX3_learn_11 : decode cX3_learn 11 = .ok (.getfield 25, 3) := by decide +kernel
theorem dX3_learn_14 : decode cX3_learn 14 = .ok (.bipush 20, 2) := by decide +kernel
theorem dX3_learn_16 : decode cX3_learn 16 = .ok (.if_icmp .lt 41, 3) := by decide +kernel
theorem dX3_learn_19 : decode cX3_learn 19 = .ok (.aload_n 0, 1) := by decide +kernel
theorem dX3_learn_20 : decode cX3_learn 20 = .ok (.getfield 9, 3) := by decide +kernel
theorem dX3_learn_23 : decode cX3_learn 23 = .ok (.aload_n 0, 1) := by decide +kernel
theorem dX3_learn_24 : decode cX3_learn 24 = .ok (.getfield 21, 3) := by decide +kernel
theorem dX3_learn_27 : decode cX3_learn 27 = .ok (.iaload, 1) := by decide +kernel
theorem dX3_learn_28 : decode cX3_learn 28 = .ok (.bipush 9, 2) := by decide +kernel
theorem dX3_learn_30 : decode cX3_learn 30 = .ok (.if_icmp .ge 27, 3) := by decide +kernel
theorem dX3_learn_33 : decode cX3_learn 33 = .ok (.aload_n 0, 1) := by decide +kernel
theorem dX3_learn_34 : decode cX3_learn 34 = .ok (.getfield 9, 3) := by decide +kernel
theorem dX3_learn_37 : decode cX3_learn 37 = .ok (.aload_n 0, 1) := by decide +kernel
theorem dX3_learn_38 : decode cX3_learn 38 = .ok (.getfield 21, 3) := by decide +kernel
theorem dX3_learn_41 : decode cX3_learn 41 = .ok (.dup2, 1) := by decide +kernel
theorem dX3_learn_42 : decode cX3_learn 42 = .ok (.iaload, 1) := by decide +kernel
theorem dX3_learn_43 : decode cX3_learn 43 = .ok (.iconst 1, 1) := by decide +kernel
theorem dX3_learn_44 : decode cX3_learn 44 = .ok (.iadd, 1) := by decide +kernel
theorem dX3_learn_45 : decode cX3_learn 45 = .ok (.iastore, 1) := by decide +kernel
theorem dX3_learn_46 : decode cX3_learn 46 = .ok (.aload_n 0, 1) := by decide +kernel
theorem dX3_learn_47 : decode cX3_learn 47 = .ok (.dup, 1) := by decide +kernel
theorem dX3_learn_48 : decode cX3_learn 48 = .ok (.getfield 25, 3) := by decide +kernel
theorem dX3_learn_51 : decode cX3_learn 51 = .ok (.bipush 20, 2) := by decide +kernel
theorem dX3_learn_53 : decode cX3_learn 53 = .ok (.isub, 1) := by decide +kernel
theorem dX3_learn_54 : decode cX3_learn 54 = .ok (.putfield 25, 3) := by decide +kernel
theorem dX3_learn_57 : decode cX3_learn 57 = .ok (.aload_n 0, 1) := by decide +kernel
theorem dX3_learn_58 : decode cX3_learn 58 = .ok (.getfield 9, 3) := by decide +kernel
theorem dX3_learn_61 : decode cX3_learn 61 = .ok (.aload_n 0, 1) := by decide +kernel
theorem dX3_learn_62 : decode cX3_learn 62 = .ok (.getfield 21, 3) := by decide +kernel
theorem dX3_learn_65 : decode cX3_learn 65 = .ok (.iaload, 1) := by decide +kernel
theorem dX3_learn_66 : decode cX3_learn 66 = .ok (.bipush 9, 2) := by decide +kernel
theorem dX3_learn_68 : decode cX3_learn 68 = .ok (.if_icmp .ne 8, 3) := by decide +kernel
theorem dX3_learn_71 : decode cX3_learn 71 = .ok (.aload_n 0, 1) := by decide +kernel
theorem dX3_learn_72 : decode cX3_learn 72 = .ok (.iconst 0, 1) := by decide +kernel
theorem dX3_learn_73 : decode cX3_learn 73 = .ok (.putfield 25, 3) := by decide +kernel
theorem dX3_learn_76 : decode cX3_learn 76 = .ok (.return_, 1) := by decide +kernel
set_option maxRecDepth 20000 in
theorem ggX3_meet_X3_gainCredits : GoodIn wsX3_meet wsX3_gainCredits := goodIn_r _ [6, 7, 8, 9, 10, 11, 12, 13, 14, 22, 23, 24, 25, 26, 27, 28] (by decide +kernel) (by decide +kernel)
set_option maxRecDepth 20000 in
theorem gX3_meet_X3_gainCredits : GoodIn wsX3_meet (wsV RX3 49 RX3 yX3_gainCredits wsX3_gainCredits) := goodIn_app (goodIn_of _ (by decide +kernel)) ggX3_meet_X3_gainCredits
set_option maxRecDepth 20000 in
theorem ggX3_meet_X3_learn : GoodIn wsX3_meet wsX3_learn := goodIn_r _ [18, 19, 20, 21, 22, 23, 24, 25, 26, 27, 28] (by decide +kernel) (by decide +kernel)
set_option maxRecDepth 20000 in
theorem gX3_meet_X3_learn : GoodIn wsX3_meet (wsV RX3 53 RX3 yX3_learn wsX3_learn) := goodIn_app (goodIn_of _ (by decide +kernel)) ggX3_meet_X3_learn
theorem dX3_meet_0 : decode cX3_meet 0 = .ok (.aload_n 0, 1) := by decide +kernel
theorem dX3_meet_1 : decode cX3_meet 1 = .ok (.iconst 0, 1) := by decide +kernel
theorem dX3_meet_2 : decode cX3_meet 2 = .ok (.putfield 37, 3) := by decide +kernel
theorem dX3_meet_5 : decode cX3_meet 5 = .ok (.aload_n 0, 1) := by decide +kernel
theorem dX3_meet_6 : decode cX3_meet 6 = .ok (.iconst 1, 1) := by decide +kernel
theorem dX3_meet_7 : decode cX3_meet 7 = .ok (.invokevirtual 49, 3) := by decide +kernel
theorem dX3_meet_10 : decode cX3_meet 10 = .ok (.aload_n 0, 1) := by decide +kernel
theorem dX3_meet_11 : decode cX3_meet 11 = .ok (.iload_n 1, 1) := by decide +kernel
theorem dX3_meet_12 : decode cX3_meet 12 = .ok (.invokevirtual 53, 3) := by decide +kernel
theorem dX3_meet_15 : decode cX3_meet 15 = .ok (.return_, 1) := by decide +kernel
set_option maxRecDepth 20000 in
theorem ggX3_failToMeet_X3_gainCredits : GoodIn wsX3_failToMeet wsX3_gainCredits := goodIn_r _ [7, 8, 9, 10, 11, 12, 13, 14, 15, 16, 17, 18, 19, 20, 21, 22] (by decide +kernel) (by decide +kernel)
set_option maxRecDepth 20000 in
theorem gX3_failToMeet_X3_gainCredits : GoodIn wsX3_failToMeet (wsV RX3 49 RX3 yX3_gainCredits wsX3_gainCredits) := goodIn_app (goodIn_of _ (by decide +kernel)) ggX3_failToMeet_X3_gainCredits
theorem dX3_failToMeet_0 : decode cX3_failToMeet 0 = .ok (.aload_n 0, 1) := by decide +kernel
theorem dX3_failToMeet_1 : decode cX3_failToMeet 1 = .ok (.dup, 1) := by decide +kernel
theorem dX3_failToMeet_2 : decode cX3_failToMeet 2 = .ok (.getfield 37, 3) := by decide +kernel
theorem dX3_failToMeet_5 : decode cX3_failToMeet 5 = .ok (.iconst 1, 1) := by decide +kernel
theorem dX3_failToMeet_6 : decode cX3_failToMeet 6 = .ok (.iadd, 1) := by decide +kernel
theorem dX3_failToMeet_7 : decode cX3_failToMeet 7 = .ok (.putfield 37, 3) := by decide +kernel
theorem dX3_failToMeet_10 : decode cX3_failToMeet 10 = .ok (.iload_n 1, 1) := by decide +kernel
theorem dX3_failToMeet_11 : decode cX3_failToMeet 11 = .ok (.ifCond .eq 22, 3) := by decide +kernel
theorem dX3_failToMeet_14 : decode cX3_failToMeet 14 = .ok (.aload_n 0, 1) := by decide +kernel
theorem dX3_failToMeet_15 : decode cX3_failToMeet 15 = .ok (.dup, 1) := by decide +kernel
theorem dX3_failToMeet_16 : decode cX3_failToMeet 16 = .ok (.getfield 31, 3) := by decide +kernel
theorem dX3_failToMeet_19 : decode cX3_failToMeet 19 = .ok (.iconst 1, 1) := by decide +kernel
theorem dX3_failToMeet_20 : decode cX3_failToMeet 20 = .ok (.iadd, 1) := by decide +kernel
theorem dX3_failToMeet_21 : decode cX3_failToMeet 21 = .ok (.putfield 31, 3) := by decide +kernel
theorem dX3_failToMeet_24 : decode cX3_failToMeet 24 = .ok (.aload_n 0, 1) := by decide +kernel
theorem dX3_failToMeet_25 : decode cX3_failToMeet 25 = .ok (.bipush (-3), 2) := by decide +kernel
theorem dX3_failToMeet_27 : decode cX3_failToMeet 27 = .ok (.invokevirtual 49, 3) := by decide +kernel
theorem dX3_failToMeet_30 : decode cX3_failToMeet 30 = .ok (.goto 8, 3) := by decide +kernel
theorem dX3_failToMeet_33 : decode cX3_failToMeet 33 = .ok (.aload_n 0, 1) := by decide +kernel
theorem dX3_failToMeet_34 : decode cX3_failToMeet 34 = .ok (.iconst 2, 1) := by decide +kernel
theorem dX3_failToMeet_35 : decode cX3_failToMeet 35 = .ok (.invokevirtual 49, 3) := by decide +kernel
theorem dX3_failToMeet_38 : decode cX3_failToMeet 38 = .ok (.return_, 1) := by decide +kernel
theorem dX4_init_0 : decode cX4_init 0 = .ok (.aload_n 0, 1) := by decide +kernel
theorem dX4_init_1 : decode cX4_init 1 = .ok (.invokespecial 3, 3) := by decide +kernel
theorem dX4_init_4 : decode cX4_init 4 = .ok (.aload_n 0, 1) := by decide +kernel
theorem dX4_init_5 : decode cX4_init 5 = .ok (.bipush 90, 2) := by decide +kernel
theorem dX4_init_7 : decode cX4_init 7 = .ok (.newarray .char, 2) := by decide +kernel
theorem dX4_init_9 : decode cX4_init 9 = .ok (.putfield 9, 3) := by decide +kernel
theorem dX4_init_12 : decode cX4_init 12 = .ok (.return_, 1) := by decide +kernel
theorem dX4_add_0 : decode cX4_add 0 = .ok (.aload_n 0, 1) := by decide +kernel
theorem dX4_add_1 : decode cX4_add 1 = .ok (.getfield 15, 3) := by decide +kernel
theorem dX4_add_4 : decode cX4_add 4 = .ok (.bipush 90, 2) := by decide +kernel
theorem dX4_add_6 : decode cX4_add 6 = .ok (.if_icmp .ge 23, 3) := by decide +kernel
theorem dX4_add_9 : decode cX4_add 9 = .ok (.aload_n 0, 1) := by decide +kernel
theorem dX4_add_10 : decode cX4_add 10 = .ok (.getfield 9, 3) := by decide +kernel
theorem dX4_add_13 : decode cX4_add 13 = .ok (.aload_n 0, 1) := by decide +kernel
theorem dX4_add_14 : decode cX4_add 14 = .ok (.getfield 15, 3) := by decide +kernel
theorem dX4_add_17 : decode cX4_add 17 = .ok (.iload_n 1, 1) := by decide +kernel
theorem dX4_add_18 : decode cX4_add 18 = .ok (.castore, 1) := by decide +kernel
theorem dX4_add_19 : decode cX4_add 19 = .ok (.aload_n 0, 1) := by decide +kernel
theorem dX4_add_20 : decode cX4_add 20 = .ok (.dup, 1) := by decide +kernel
theorem dX4_add_21 : decode cX4_add 21 = .ok (.getfield 15, 3) := by decide +kernel
theorem dX4_add_24 : decode cX4_add 24 = .ok (.iconst 1, 1) := by decide +kernel
theorem dX4_add_25 : decode cX4_add 25 = .ok (.iadd, 1) := by decide +kernel
theorem dX4_add_26 : decode cX4_add 26 = .ok (.putfield 15, 3) := by decide +kernel
theorem dX4_add_29 : decode cX4_add 29 = .ok (.return_, 1) := by decide +kernel
set_option maxRecDepth 20000 in
theorem ggX4_firstError_X4_allows : GoodIn wsX4_firstError wsX4_allows := goodIn_r _ [7] (by decide +kernel) (by decide +kernel)
set_option maxRecDepth 20000 in
theorem gX4_firstError_X4_allows : GoodIn wsX4_firstError (wsV RX4 19 RX4 yX4_allows wsX4_allows) := goodIn_app (goodIn_of _ (by decide +kernel)) ggX4_firstError_X4_allows
set_option maxRecDepth 20000 in
theorem ggX4_firstError_X4_isWhole : GoodIn wsX4_firstError wsX4_isWhole := goodIn_r _ [11, 1, 12, 13] (by decide +kernel) (by decide +kernel)
set_option maxRecDepth 20000 in
theorem gX4_firstError_X4_isWhole : GoodIn wsX4_firstError (wsV RX4 23 RX4 yX4_isWhole wsX4_isWhole) := goodIn_app (goodIn_of _ (by decide +kernel)) ggX4_firstError_X4_isWhole
theorem dX4_firstError_0 : decode cX4_firstError 0 = .ok (.iconst 0, 1) := by decide +kernel
theorem dX4_firstError_1 : decode cX4_firstError 1 = .ok (.istore_n 1, 1) := by decide +kernel
theorem dX4_firstError_2 : decode cX4_firstError 2 = .ok (.iload_n 1, 1) := by decide +kernel
theorem dX4_firstError_3 : decode cX4_firstError 3 = .ok (.aload_n 0, 1) := by decide +kernel
theorem dX4_firstError_4 : decode cX4_firstError 4 = .ok (.getfield 15, 3) := by decide +kernel
theorem dX4_firstError_7 : decode cX4_firstError 7 = .ok (.if_icmp .ge 25, 3) := by decide +kernel
theorem dX4_firstError_10 : decode cX4_firstError 10 = .ok (.aload_n 0, 1) := by decide +kernel
theorem dX4_firstError_11 : decode cX4_firstError 11 = .ok (.iload_n 1, 1) := by decide +kernel
theorem dX4_firstError_12 : decode cX4_firstError 12 = .ok (.aload_n 0, 1) := by decide +kernel
theorem dX4_firstError_13 : decode cX4_firstError 13 = .ok (.getfield 9, 3) := by decide +kernel
theorem dX4_firstError_16 : decode cX4_firstError 16 = .ok (.iload_n 1, 1) := by decide +kernel
theorem dX4_firstError_17 : decode cX4_firstError 17 = .ok (.caload, 1) := by decide +kernel
theorem dX4_firstError_18 : decode cX4_firstError 18 = .ok (.invokevirtual 19, 3) := by decide +kernel
theorem dX4_firstError_21 : decode cX4_firstError 21 = .ok (.ifCond .ne 5, 3) := by decide +kernel
theorem dX4_firstError_24 : decode cX4_firstError 24 = .ok (.iload_n 1, 1) := by decide +kernel
theorem dX4_firstError_25 : decode cX4_firstError 25 = .ok (.ireturn, 1) := by decide +kernel
theorem dX4_firstError_26 : decode cX4_firstError 26 = .ok (.iinc 1 1, 3) := by decide +kernel
theorem dX4_firstError_29 : decode cX4_firstError 29 = .ok (.goto (-27), 3) := by decide +kernel
theorem dX4_firstError_32 : decode cX4_firstError 32 = .ok (.aload_n 0, 1) := by decide +kernel
theorem dX4_firstError_33 : decode cX4_firstError 33 = .ok (.invokevirtual 23, 3) := by decide +kernel
theorem dX4_firstError_36 : decode cX4_firstError 36 = .ok (.ifCond .eq 9, 3) := by decide +kernel
theorem dX4_firstError_39 : decode cX4_firstError 39 = .ok (.sipush (-9999), 3) := by decide +kernel
theorem dX4_firstError_42 : decode cX4_firstError 42 = .ok (.goto 7, 3) := by decide +kernel
theorem dX4_firstError_45 : decode cX4_firstError 45 = .ok (.aload_n 0, 1) := by decide +kernel
theorem dX4_firstError_46 : decode cX4_firstError 46 = .ok (.getfield 15, 3) := by decide +kernel
theorem dX4_firstError_49 : decode cX4_firstError 49 = .ok (.ireturn, 1) := by decide +kernel
theorem dX4_allows_0 : decode cX4_allows 0 = .ok (.iload_n 1, 1) := by decide +kernel
theorem dX4_allows_1 : decode cX4_allows 1 = .ok (.ifCond .ne 15, 3) := by decide +kernel
theorem dX4_allows_4 : decode cX4_allows 4 = .ok (.iload_n 2, 1) := by decide +kernel
theorem dX4_allows_5 : decode cX4_allows 5 = .ok (.bipush 76, 2) := by decide +kernel
theorem dX4_allows_7 : decode cX4_allows 7 = .ok (.if_icmp .ne 7, 3) := by decide +kernel
theorem dX4_allows_10 : decode cX4_allows 10 = .ok (.iconst 1, 1) := by decide +kernel
theorem dX4_allows_11 : decode cX4_allows 11 = .ok (.goto 4, 3) := by decide +kernel
theorem dX4_allows_14 : decode cX4_allows 14 = .ok (.iconst 0, 1) := by decide +kernel
theorem dX4_allows_15 : decode cX4_allows 15 = .ok (.ireturn, 1) := by decide +kernel
theorem dX4_allows_16 : decode cX4_allows 16 = .ok (.iload_n 1, 1) := by decide +kernel
theorem dX4_allows_17 : decode cX4_allows 17 = .ok (.bipush 72, 2) := by decide +kernel
theorem dX4_allows_19 : decode cX4_allows 19 = .ok (.if_icmp .le 5, 3) := by decide +kernel
theorem dX4_allows_22 : decode cX4_allows 22 = .ok (.iconst 0, 1) := by decide +kernel
theorem dX4_allows_23 : decode cX4_allows 23 = .ok (.ireturn, 1) := by decide +kernel
theorem dX4_allows_24 : decode cX4_allows 24 = .ok (.iload_n 1, 1) := by decide +kernel
theorem dX4_allows_25 : decode cX4_allows 25 = .ok (.iconst 1, 1) := by decide +kernel
theorem dX4_allows_26 : decode cX4_allows 26 = .ok (.isub, 1) := by decide +kernel
theorem dX4_allows_27 : decode cX4_allows 27 = .ok (.bipush 8, 2) := by decide +kernel
theorem dX4_allows_29 : decode cX4_allows 29 = .ok (.irem, 1) := by decide +kernel
theorem dX4_allows_30 : decode cX4_allows 30 = .ok (.istore_n 3, 1) := by decide +kernel
theorem dX4_allows_31 : decode cX4_allows 31 = .ok (.iload_n 3, 1) := by decide +kernel
theorem dX4_allows_32 : decode cX4_allows 32 = .ok (.ifCond .ne 15, 3) := by decide +kernel
theorem dX4_allows_35 : decode cX4_allows 35 = .ok (.iload_n 2, 1) := by decide +kernel
theorem dX4_allows_36 : decode cX4_allows 36 = .ok (.bipush 109, 2) := by decide +kernel
theorem dX4_allows_38 : decode cX4_allows 38 = .ok (.if_icmp .ne 7, 3) := by decide +kernel
theorem dX4_allows_41 : decode cX4_allows 41 = .ok (.iconst 1, 1) := by decide +kernel
theorem dX4_allows_42 : decode cX4_allows 42 = .ok (.goto 4, 3) := by decide +kernel
theorem dX4_allows_45 : decode cX4_allows 45 = .ok (.iconst 0, 1) := by decide +kernel
theorem dX4_allows_46 : decode cX4_allows 46 = .ok (.ireturn, 1) := by decide +kernel
theorem dX4_allows_47 : decode cX4_allows 47 = .ok (.iload_n 3, 1) := by decide +kernel
theorem dX4_allows_48 : decode cX4_allows 48 = .ok (.iconst 1, 1) := by decide +kernel
theorem dX4_allows_49 : decode cX4_allows 49 = .ok (.if_icmp .ne 8, 3) := by decide +kernel
theorem dX4_allows_52 : decode cX4_allows 52 = .ok (.bipush 51, 2) := by decide +kernel
theorem dX4_allows_54 : decode cX4_allows 54 = .ok (.goto 5, 3) := by decide +kernel
theorem dX4_allows_57 : decode cX4_allows 57 = .ok (.bipush 57, 2) := by decide +kernel
theorem dX4_allows_59 : decode cX4_allows 59 = .ok (.istore 4, 2) := by decide +kernel
theorem dX4_allows_61 : decode cX4_allows 61 = .ok (.iload_n 2, 1) := by decide +kernel
theorem dX4_allows_62 : decode cX4_allows 62 = .ok (.bipush 48, 2) := by decide +kernel
theorem dX4_allows_64 : decode cX4_allows 64 = .ok (.if_icmp .lt 13, 3) := by decide +kernel
theorem dX4_allows_67 : decode cX4_allows 67 = .ok (.iload_n 2, 1) := by decide +kernel
theorem dX4_allows_68 : decode cX4_allows 68 = .ok (.iload 4, 2) := by decide +kernel
theorem dX4_allows_70 : decode cX4_allows 70 = .ok (.if_icmp .gt 7, 3) := by decide +kernel
theorem dX4_allows_73 : decode cX4_allows 73 = .ok (.iconst 1, 1) := by decide +kernel
theorem dX4_allows_74 : decode cX4_allows 74 = .ok (.goto 4, 3) := by decide +kernel
theorem dX4_allows_77 : decode cX4_allows 77 = .ok (.iconst 0, 1) := by decide +kernel
theorem dX4_allows_78 : decode cX4_allows 78 = .ok (.ireturn, 1) := by decide +kernel
theorem dX4_isWhole_0 : decode cX4_isWhole 0 = .ok (.aload_n 0, 1) := by decide +kernel
theorem dX4_isWhole_1 : decode cX4_isWhole 1 = .ok (.getfield 15, 3) := by decide +kernel
theorem dX4_isWhole_4 : decode cX4_isWhole 4 = .ok (.ifCond .le 19, 3) := by decide +kernel
theorem dX4_isWhole_7 : decode cX4_isWhole 7 = .ok (.aload_n 0, 1) := by decide +kernel
theorem dX4_isWhole_8 : decode cX4_isWhole 8 = .ok (.getfield 15, 3) := by decide +kernel
theorem dX4_isWhole_11 : decode cX4_isWhole 11 = .ok (.iconst 1, 1) := by decide +kernel
theorem dX4_isWhole_12 : decode cX4_isWhole 12 = .ok (.isub, 1) := by decide +kernel
theorem dX4_isWhole_13 : decode cX4_isWhole 13 = .ok (.bipush 8, 2) := by decide +kernel
theorem dX4_isWhole_15 : decode cX4_isWhole 15 = .ok (.irem, 1) := by decide +kernel
theorem dX4_isWhole_16 : decode cX4_isWhole 16 = .ok (.ifCond .ne 7, 3) := by decide +kernel
theorem dX4_isWhole_19 : decode cX4_isWhole 19 = .ok (.iconst 1, 1) := by decide +kernel
theorem dX4_isWhole_20 : decode cX4_isWhole 20 = .ok (.goto 4, 3) := by decide +kernel
theorem dX4_isWhole_23 : decode cX4_isWhole 23 = .ok (.iconst 0, 1) := by decide +kernel
theorem dX4_isWhole_24 : decode cX4_isWhole 24 = .ok (.ireturn, 1) := by decide +kernel
set_option maxRecDepth 20000 in
theorem ggX4_readInto_X4_number : GoodIn wsX4_readInto wsX4_number := goodIn_r _ [8, 3, 9, 32, 33] (by decide +kernel) (by decide +kernel)
set_option maxRecDepth 20000 in
theorem gX4_readInto_X4_number : GoodIn wsX4_readInto (wsV RX4 35 RX4 yX4_number wsX4_number) := goodIn_app (goodIn_of _ (by decide +kernel)) ggX4_readInto_X4_number
set_option maxRecDepth 20000 in
theorem ggX4_readInto_X1_add : GoodIn wsX4_readInto wsX1_add := goodIn_r _ [14, 15, 16, 17, 18, 19, 20, 21, 22, 23, 24, 25, 26, 27, 28, 29, 30, 31, 34, 35, 36, 37, 38, 39, 40] (by decide +kernel) (by decide +kernel)
set_option maxRecDepth 20000 in
theorem gX4_readInto_X1_add : GoodIn wsX4_readInto (wsV RX4 39 RX1 yX1_add wsX1_add) := goodIn_app (goodIn_of _ (by decide +kernel)) ggX4_readInto_X1_add
theorem dX4_readInto_0 : decode cX4_readInto 0 = .ok (.aload_n 1, 1) := by decide +kernel
theorem dX4_readInto_1 : decode cX4_readInto 1 = .ok (.iconst 0, 1) := by decide +kernel
theorem dX4_readInto_2 : decode cX4_readInto 2 = .ok (.putfield 27, 3) := by decide +kernel
theorem dX4_readInto_5 : decode cX4_readInto 5 = .ok (.aload_n 1, 1) := by decide +kernel
theorem dX4_readInto_6 : decode cX4_readInto 6 = .ok (.iconst 0, 1) := by decide +kernel
theorem dX4_readInto_7 : decode cX4_readInto 7 = .ok (.putfield 32, 3) := by decide +kernel
theorem dX4_readInto_10 : decode cX4_readInto 10 = .ok (.iconst 1, 1) := by decide +kernel
theorem dX4_readInto_11 : decode cX4_readInto 11 = .ok (.istore_n 2, 1) := by decide +kernel
theorem dX4_readInto_12 : decode cX4_readInto 12 = .ok (.iload_n 2, 1) := by decide +kernel
theorem dX4_readInto_13 : decode cX4_readInto 13 = .ok (.bipush 8, 2) := by decide +kernel
theorem dX4_readInto_15 : decode cX4_readInto 15 = .ok (.iadd, 1) := by decide +kernel
theorem dX4_readInto_16 : decode cX4_readInto 16 = .ok (.aload_n 0, 1) := by decide +kernel
theorem dX4_readInto_17 : decode cX4_readInto 17 = .ok (.getfield 15, 3) := by decide +kernel
theorem dX4_readInto_20 : decode cX4_readInto 20 = .ok (.if_icmp .gt 38, 3) := by decide +kernel
theorem dX4_readInto_23 : decode cX4_readInto 23 = .ok (.aload_n 1, 1) := by decide +kernel
theorem dX4_readInto_24 : decode cX4_readInto 24 = .ok (.aload_n 0, 1) := by decide +kernel
theorem dX4_readInto_25 : decode cX4_readInto 25 = .ok (.iload_n 2, 1) := by decide +kernel
theorem dX4_readInto_26 : decode cX4_readInto 26 = .ok (.iconst 1, 1) := by decide +kernel
theorem dX4_readInto_27 : decode cX4_readInto 27 = .ok (.iadd, 1) := by decide +kernel
theorem dX4_readInto_28 : decode cX4_readInto 28 = .ok (.iconst 1, 1) := by decide +kernel
theorem dX4_readInto_29 : decode cX4_readInto 29 = .ok (.invokevirtual 35, 3) := by decide +kernel
theorem dX4_readInto_32 : decode cX4_readInto 32 = .ok (.aload_n 0, 1) := by decide +kernel
theorem dX4_readInto_33 : decode cX4_readInto 33 = .ok (.iload_n 2, 1) := by decide +kernel
theorem dX4_readInto_34 : decode cX4_readInto 34 = .ok (.iconst 2, 1) := by decide +kernel
theorem dX4_readInto_35 : decode cX4_readInto 35 = .ok (.iadd, 1) := by decide +kernel
theorem dX4_readInto_36 : decode cX4_readInto 36 = .ok (.iconst 4, 1) := by decide +kernel
theorem dX4_readInto_37 : decode cX4_readInto 37 = .ok (.invokevirtual 35, 3) := by decide +kernel
theorem dX4_readInto_40 : decode cX4_readInto 40 = .ok (.aload_n 0, 1) := by decide +kernel
theorem dX4_readInto_41 : decode cX4_readInto 41 = .ok (.iload_n 2, 1) := by decide +kernel
theorem dX4_readInto_42 : decode cX4_readInto 42 = .ok (.bipush 6, 2) := by decide +kernel
theorem dX4_readInto_44 : decode cX4_readInto 44 = .ok (.iadd, 1) := by decide +kernel
theorem dX4_readInto_45 : decode cX4_readInto 45 = .ok (.iconst 2, 1) := by decide +kernel
theorem dX4_readInto_46 : decode cX4_readInto 46 = .ok (.invokevirtual 35, 3) := by decide +kernel
theorem dX4_readInto_49 : decode cX4_readInto 49 = .ok (.invokevirtual 39, 3) := by decide +kernel
theorem dX4_readInto_52 : decode cX4_readInto 52 = .ok (.iinc 2 8, 3) := by decide +kernel
theorem dX4_readInto_55 : decode cX4_readInto 55 = .ok (.goto (-43), 3) := by decide +kernel
theorem dX4_readInto_58 : decode cX4_readInto 58 = .ok (.return_, 1) := by decide +kernel
theorem dX4_number_0 : decode cX4_number 0 = .ok (.iconst 0, 1) := by decide +kernel
theorem dX4_number_1 : decode cX4_number 1 = .ok (.istore_n 3, 1) := by decide +kernel
theorem dX4_number_2 : decode cX4_number 2 = .ok (.iload_n 1, 1) := by decide +kernel
theorem dX4_number_3 : decode cX4_number 3 = .ok (.istore 4, 2) := by decide +kernel
theorem dX4_number_5 : decode cX4_number 5 = .ok (.iload 4, 2) := by decide +kernel
theorem dX4_number_7 : decode cX4_number 7 = .ok (.iload_n 1, 1) := by decide +kernel
theorem dX4_number_8 : decode cX4_number 8 = .ok (.iload_n 2, 1) := by decide +kernel
theorem dX4_number_9 : decode cX4_number 9 = .ok (.iadd, 1) := by decide +kernel
theorem dX4_number_10 : decode cX4_number 10 = .ok (.if_icmp .ge 34, 3) := by decide +kernel
theorem dX4_number_13 : decode cX4_number 13 = .ok (.iload 4, 2) := by decide +kernel
theorem dX4_number_15 : decode cX4_number 15 = .ok (.aload_n 0, 1) := by decide +kernel
theorem dX4_number_16 : decode cX4_number 16 = .ok (.getfield 15, 3) := by decide +kernel
theorem dX4_number_19 : decode cX4_number 19 = .ok (.if_icmp .ge 25, 3) := by decide +kernel
theorem dX4_number_22 : decode cX4_number 22 = .ok (.bipush 10, 2) := by decide +kernel
theorem dX4_number_24 : decode cX4_number 24 = .ok (.iload_n 3, 1) := by decide +kernel
theorem dX4_number_25 : decode cX4_number 25 = .ok (.imul, 1) := by decide +kernel
theorem dX4_number_26 : decode cX4_number 26 = .ok (.aload_n 0, 1) := by decide +kernel
theorem dX4_number_27 : decode cX4_number 27 = .ok (.getfield 9, 3) := by decide +kernel
theorem dX4_number_30 : decode cX4_number 30 = .ok (.iload 4, 2) := by decide +kernel
theorem dX4_number_32 : decode cX4_number 32 = .ok (.caload, 1) := by decide +kernel
theorem dX4_number_33 : decode cX4_number 33 = .ok (.iadd, 1) := by decide +kernel
theorem dX4_number_34 : decode cX4_number 34 = .ok (.bipush 48, 2) := by decide +kernel
theorem dX4_number_36 : decode cX4_number 36 = .ok (.isub, 1) := by decide +kernel
theorem dX4_number_37 : decode cX4_number 37 = .ok (.istore_n 3, 1) := by decide +kernel
theorem dX4_number_38 : decode cX4_number 38 = .ok (.iinc 4 1, 3) := by decide +kernel
theorem dX4_number_41 : decode cX4_number 41 = .ok (.goto (-36), 3) := by decide +kernel
theorem dX4_number_44 : decode cX4_number 44 = .ok (.iload_n 3, 1) := by decide +kernel
theorem dX4_number_45 : decode cX4_number 45 = .ok (.ireturn, 1) := by decide +kernel
set_option maxRecDepth 20000 in
theorem ggX5_init_X4_init : GoodIn wsX5_init wsX4_init := goodIn_r _ [25, 26, 2, 3, 27, 28, 53, 54] (by decide +kernel) (by decide +kernel)
set_option maxRecDepth 20000 in
theorem gX5_init_X4_init_n11 : GoodIn wsX5_init (wsX4_init) := ggX5_init_X4_init
set_option maxRecDepth 20000 in
theorem ggX5_init_X1_init : GoodIn wsX5_init wsX1_init := goodIn_r _ [31, 32, 2, 3, 33, 34, 35, 36, 37, 38, 39, 40, 41, 62, 63, 64, 69, 70, 71, 72, 73, 74, 75] (by decide +kernel) (by decide +kernel)
set_option maxRecDepth 20000 in
theorem gX5_init_X1_init : GoodIn wsX5_init (wsX1_init) := ggX5_init_X1_init
set_option maxRecDepth 20000 in
theorem ggX5_init_X2_init : GoodIn wsX5_init wsX2_init := goodIn_r _ [44, 45, 2, 3, 46, 47, 9, 10, 48, 30, 31, 32, 33, 34, 35, 36, 37, 38, 39, 40, 41, 65, 66, 67, 62, 63, 64, 69, 70, 71, 72, 73, 74, 75] (by decide +kernel) (by decide +kernel)
set_option maxRecDepth 20000 in
theorem gX5_init_X2_init : GoodIn wsX5_init (wsX2_init) := ggX5_init_X2_init
set_option maxRecDepth 20000 in
theorem ggX5_init_X0_init : GoodIn wsX5_init wsX0_init := goodIn_r _ [50, 51, 2, 3, 40, 52, 68] (by decide +kernel) (by decide +kernel)
set_option maxRecDepth 20000 in
theorem gX5_init_X0_init_n43 : GoodIn wsX5_init (wsX0_init) := ggX5_init_X0_init
