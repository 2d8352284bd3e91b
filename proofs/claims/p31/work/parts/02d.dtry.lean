theorem dL_tryAppend_0 : decode cL_tryAppend 0 = .ok (.aload_n 0, 1) := by decide +kernel
theorem dL_tryAppend_1 : decode cL_tryAppend 1 = .ok (.iload_n 1, 1) := by decide +kernel
theorem dL_tryAppend_2 : decode cL_tryAppend 2 = .ok (.invokevirtual 7, 3) := by decide +kernel
theorem dL_tryAppend_5 : decode cL_tryAppend 5 = .ok (.ireturn, 1) := by decide +kernel
theorem dL_tryAppend_6 : decode cL_tryAppend 6 = .ok (.astore_n 2, 1) := by decide +kernel
theorem dL_tryAppend_7 : decode cL_tryAppend 7 = .ok (.ldc 15, 2) := by decide +kernel
theorem dL_tryAppend_9 : decode cL_tryAppend 9 = .ok (.ireturn, 1) := by decide +kernel
theorem dL_tryAppend_10 : decode cL_tryAppend 10 = .ok (.astore_n 2, 1) := by decide +kernel
theorem dL_tryAppend_11 : decode cL_tryAppend 11 = .ok (.ldc 18, 2) := by decide +kernel
theorem dL_tryAppend_13 : decode cL_tryAppend 13 = .ok (.ireturn, 1) := by decide +kernel
set_option maxRecDepth 20000 in
theorem ggL_tryLoad_X5_load : GoodIn wsL_tryLoad wsX5_load := goodIn_ca (goodIn_r _ [7, 8, 9, 10, 11, 12, 13, 14, 15, 16, 17, 18, 19, 20, 21, 22, 23, 24, 25, 26, 27, 28, 29, 30, 31, 32, 33, 34, 35, 36, 37, 38, 39, 40, 41, 42, 43, 44, 45, 46, 47, 48, 49, 50, 51, 52, 53, 54, 55, 56, 57, 58, 59, 60, 61, 62, 63, 64, 65, 66, 67, 68, 69, 70, 71, 72, 73, 74, 75, 76, 77, 78, 79, 80, 81, 82, 83, 84, 85, 86] (by decide +kernel) (by decide +kernel)) (goodIn_sub (fun _ h => List.mem_cons_of_mem _ (List.mem_append_right _ h)) (by decide +kernel))
set_option maxRecDepth 20000 in
theorem gL_tryLoad_X5_load : GoodIn wsL_tryLoad (wsV RL 19 RX5 yX5_load wsX5_load) := goodIn_app (goodIn_of _ (by decide +kernel)) ggL_tryLoad_X5_load
theorem dL_tryLoad_0 : decode cL_tryLoad 0 = .ok (.aload_n 0, 1) := by decide +kernel
theorem dL_tryLoad_1 : decode cL_tryLoad 1 = .ok (.invokevirtual 19, 3) := by decide +kernel
theorem dL_tryLoad_4 : decode cL_tryLoad 4 = .ok (.ireturn, 1) := by decide +kernel
theorem dL_tryLoad_5 : decode cL_tryLoad 5 = .ok (.astore_n 1, 1) := by decide +kernel
theorem dL_tryLoad_6 : decode cL_tryLoad 6 = .ok (.ldc 18, 2) := by decide +kernel
theorem dL_tryLoad_8 : decode cL_tryLoad 8 = .ok (.ireturn, 1) := by decide +kernel
set_option maxRecDepth 20000 in
theorem ggL_tryAbout_X5_about : GoodIn wsL_tryAbout wsX5_about := goodIn_ca (goodIn_r _ [7, 8, 9, 10, 11, 12, 13, 14, 15, 16, 17, 18, 19, 20, 21, 22, 23, 24, 25, 26, 27, 28, 29, 30, 31, 32, 33, 34, 35, 36, 37, 38, 39, 40, 41, 42, 43, 44, 45, 46, 47, 48, 49, 50, 51, 52, 53, 54, 55, 56, 57, 58, 59, 60, 61, 62, 63, 64, 65, 66, 67, 68, 69, 70, 71, 72, 73, 74, 75, 76, 77, 78, 79, 80, 81, 82, 83, 84, 85, 86, 87, 88, 89, 90, 91, 92, 93, 94, 95, 96, 97] (by decide +kernel) (by decide +kernel)) (goodIn_sub (fun _ h => List.mem_cons_of_mem _ (List.mem_append_right _ h)) (by decide +kernel))
set_option maxRecDepth 20000 in
theorem gL_tryAbout_X5_about : GoodIn wsL_tryAbout (wsV RL 23 RX5 yX5_about wsX5_about) := goodIn_app (goodIn_of _ (by decide +kernel)) ggL_tryAbout_X5_about
theorem dL_tryAbout_0 : decode cL_tryAbout 0 = .ok (.aload_n 0, 1) := by decide +kernel
theorem dL_tryAbout_1 : decode cL_tryAbout 1 = .ok (.iload_n 1, 1) := by decide +kernel
theorem dL_tryAbout_2 : decode cL_tryAbout 2 = .ok (.invokevirtual 23, 3) := by decide +kernel
theorem dL_tryAbout_5 : decode cL_tryAbout 5 = .ok (.ireturn, 1) := by decide +kernel
theorem dL_tryAbout_6 : decode cL_tryAbout 6 = .ok (.astore_n 2, 1) := by decide +kernel
theorem dL_tryAbout_7 : decode cL_tryAbout 7 = .ok (.ldc 15, 2) := by decide +kernel
theorem dL_tryAbout_9 : decode cL_tryAbout 9 = .ok (.ireturn, 1) := by decide +kernel
set_option maxRecDepth 20000 in
theorem ggL_tryMember_X5_member : GoodIn wsL_tryMember wsX5_member := goodIn_ca (goodIn_ca (goodIn_r _ [9, 10, 11, 12, 13, 8, 14, 15, 16, 17, 18, 19, 20, 21, 22, 23, 24, 25, 26, 27, 28, 29, 30, 31, 32, 33, 34, 35, 36, 37, 38, 39, 40, 41, 42, 43, 44, 45, 46, 47, 48, 49, 50, 51, 52, 53, 54, 55, 56, 57, 58, 59, 60, 61, 62, 63, 64, 65, 66, 67, 68, 69, 70, 71, 72] (by decide +kernel) (by decide +kernel)) (goodIn_sub (fun _ h => List.mem_cons_of_mem _ (List.mem_append_left _ (List.mem_append_right _ h))) (by decide +kernel))) (goodIn_sub (fun _ h => List.mem_cons_of_mem _ (List.mem_append_right _ h)) (by decide +kernel))
set_option maxRecDepth 20000 in
theorem gL_tryMember_X5_member : GoodIn wsL_tryMember (wsV RL 26 RX5 yX5_member wsX5_member) := goodIn_app (goodIn_of _ (by decide +kernel)) ggL_tryMember_X5_member
theorem dL_tryMember_0 : decode cL_tryMember 0 = .ok (.aload_n 0, 1) := by decide +kernel
theorem dL_tryMember_1 : decode cL_tryMember 1 = .ok (.iload_n 1, 1) := by decide +kernel
theorem dL_tryMember_2 : decode cL_tryMember 2 = .ok (.iload_n 2, 1) := by decide +kernel
theorem dL_tryMember_3 : decode cL_tryMember 3 = .ok (.invokevirtual 26, 3) := by decide +kernel
theorem dL_tryMember_6 : decode cL_tryMember 6 = .ok (.ireturn, 1) := by decide +kernel
theorem dL_tryMember_7 : decode cL_tryMember 7 = .ok (.astore_n 3, 1) := by decide +kernel
theorem dL_tryMember_8 : decode cL_tryMember 8 = .ok (.ldc 32, 2) := by decide +kernel
theorem dL_tryMember_10 : decode cL_tryMember 10 = .ok (.ireturn, 1) := by decide +kernel
theorem dL_tryMember_11 : decode cL_tryMember 11 = .ok (.astore_n 3, 1) := by decide +kernel
theorem dL_tryMember_12 : decode cL_tryMember 12 = .ok (.ldc 15, 2) := by decide +kernel
theorem dL_tryMember_14 : decode cL_tryMember 14 = .ok (.ireturn, 1) := by decide +kernel
set_option maxRecDepth 20000 in
theorem ggL_tryBoth_X5_both : GoodIn wsL_tryBoth wsX5_both := goodIn_ca (goodIn_ca (goodIn_r _ [9, 10, 11, 12, 13, 14, 15, 8, 16, 17, 18, 19, 20, 21, 22, 23, 24, 25, 26, 27, 28, 29, 30, 31, 32, 33, 34, 35, 36, 37, 38, 39, 40, 41, 42, 43, 44, 45, 46, 47, 48, 49, 50, 51, 52, 53, 54, 55, 56, 57, 58, 59, 60, 61, 62, 63, 64, 65, 66, 67, 68, 69, 70, 71, 72, 73, 74, 75, 76, 77, 78, 79, 80, 81, 82] (by decide +kernel) (by decide +kernel)) (goodIn_sub (fun _ h => List.mem_cons_of_mem _ (List.mem_append_left _ (List.mem_append_right _ h))) (by decide +kernel))) (goodIn_sub (fun _ h => List.mem_cons_of_mem _ (List.mem_append_right _ h)) (by decide +kernel))
set_option maxRecDepth 20000 in
theorem gL_tryBoth_X5_both : GoodIn wsL_tryBoth (wsV RL 33 RX5 yX5_both wsX5_both) := goodIn_app (goodIn_of _ (by decide +kernel)) ggL_tryBoth_X5_both
theorem dL_tryBoth_0 : decode cL_tryBoth 0 = .ok (.aload_n 0, 1) := by decide +kernel
theorem dL_tryBoth_1 : decode cL_tryBoth 1 = .ok (.iload_n 1, 1) := by decide +kernel
theorem dL_tryBoth_2 : decode cL_tryBoth 2 = .ok (.iload_n 2, 1) := by decide +kernel
theorem dL_tryBoth_3 : decode cL_tryBoth 3 = .ok (.iload_n 3, 1) := by decide +kernel
theorem dL_tryBoth_4 : decode cL_tryBoth 4 = .ok (.invokevirtual 33, 3) := by decide +kernel
theorem dL_tryBoth_7 : decode cL_tryBoth 7 = .ok (.ireturn, 1) := by decide +kernel
theorem dL_tryBoth_8 : decode cL_tryBoth 8 = .ok (.astore 4, 2) := by decide +kernel
theorem dL_tryBoth_10 : decode cL_tryBoth 10 = .ok (.ldc 32, 2) := by decide +kernel
theorem dL_tryBoth_12 : decode cL_tryBoth 12 = .ok (.ireturn, 1) := by decide +kernel
theorem dL_tryBoth_13 : decode cL_tryBoth 13 = .ok (.astore 4, 2) := by decide +kernel
theorem dL_tryBoth_15 : decode cL_tryBoth 15 = .ok (.ldc 15, 2) := by decide +kernel
theorem dL_tryBoth_17 : decode cL_tryBoth 17 = .ok (.ireturn, 1) := by decide +kernel
set_option maxRecDepth 20000 in
theorem ggL_tryJoin_X5_join : GoodIn wsL_tryJoin wsX5_join := goodIn_ca (goodIn_ca (goodIn_r _ [9, 10, 11, 12, 13, 14, 15, 16, 8, 17, 18, 19, 20, 21, 22, 23, 24, 25, 26, 27, 28, 29, 30, 31, 32, 33, 34, 35, 36, 37, 38, 39, 40, 41, 42, 43, 44, 45, 46, 47, 48, 49, 50, 51, 52, 53, 54, 55, 56, 57, 58, 59, 60, 61, 62, 63, 64, 65, 66, 67, 68, 69, 70, 71, 72, 73, 74, 75, 76, 77, 78, 79, 80, 81, 82] (by decide +kernel) (by decide +kernel)) (goodIn_sub (fun _ h => List.mem_cons_of_mem _ (List.mem_append_left _ (List.mem_append_right _ h))) (by decide +kernel))) (goodIn_sub (fun _ h => List.mem_cons_of_mem _ (List.mem_append_right _ h)) (by decide +kernel))
set_option maxRecDepth 20000 in
theorem gL_tryJoin_X5_join : GoodIn wsL_tryJoin (wsV RL 37 RX5 yX5_join wsX5_join) := goodIn_app (goodIn_of _ (by decide +kernel)) ggL_tryJoin_X5_join
theorem dL_tryJoin_0 : decode cL_tryJoin 0 = .ok (.aload_n 0, 1) := by decide +kernel
theorem dL_tryJoin_1 : decode cL_tryJoin 1 = .ok (.iload_n 1, 1) := by decide +kernel
theorem dL_tryJoin_2 : decode cL_tryJoin 2 = .ok (.iload_n 2, 1) := by decide +kernel
theorem dL_tryJoin_3 : decode cL_tryJoin 3 = .ok (.iload_n 3, 1) := by decide +kernel
theorem dL_tryJoin_4 : decode cL_tryJoin 4 = .ok (.invokevirtual 37, 3) := by decide +kernel
theorem dL_tryJoin_7 : decode cL_tryJoin 7 = .ok (.ireturn, 1) := by decide +kernel
theorem dL_tryJoin_8 : decode cL_tryJoin 8 = .ok (.astore 4, 2) := by decide +kernel
theorem dL_tryJoin_10 : decode cL_tryJoin 10 = .ok (.ldc 15, 2) := by decide +kernel
theorem dL_tryJoin_12 : decode cL_tryJoin 12 = .ok (.ireturn, 1) := by decide +kernel
theorem dL_tryJoin_13 : decode cL_tryJoin 13 = .ok (.astore 4, 2) := by decide +kernel
theorem dL_tryJoin_15 : decode cL_tryJoin 15 = .ok (.ldc 18, 2) := by decide +kernel
theorem dL_tryJoin_17 : decode cL_tryJoin 17 = .ok (.ireturn, 1) := by decide +kernel
set_option maxRecDepth 20000 in
theorem ggL_tryLeave_X5_leave : GoodIn wsL_tryLeave wsX5_leave := goodIn_ca (goodIn_r _ [7, 8, 9, 10, 11, 12, 13, 14, 6, 15, 16, 17, 18, 19, 20, 21, 22, 23, 24, 25, 26, 27, 28, 29, 30, 31, 32, 33, 34, 35, 36, 37, 38, 39, 40, 41, 42, 43, 44, 45, 46, 47, 48, 49, 50, 51, 52, 53, 54, 55, 56, 57, 58, 59, 60, 61, 62, 63, 64, 65, 66, 67, 68, 69, 70, 71, 72, 73, 74, 75, 76, 77, 78, 79, 80, 81, 82, 83] (by decide +kernel) (by decide +kernel)) (goodIn_sub (fun _ h => List.mem_cons_of_mem _ (List.mem_append_right _ h)) (by decide +kernel))
set_option maxRecDepth 20000 in
theorem gL_tryLeave_X5_leave : GoodIn wsL_tryLeave (wsV RL 40 RX5 yX5_leave wsX5_leave) := goodIn_app (goodIn_of _ (by decide +kernel)) ggL_tryLeave_X5_leave
theorem dL_tryLeave_0 : decode cL_tryLeave 0 = .ok (.aload_n 0, 1) := by decide +kernel
theorem dL_tryLeave_1 : decode cL_tryLeave 1 = .ok (.iload_n 1, 1) := by decide +kernel
theorem dL_tryLeave_2 : decode cL_tryLeave 2 = .ok (.invokevirtual 40, 3) := by decide +kernel
theorem dL_tryLeave_5 : decode cL_tryLeave 5 = .ok (.ireturn, 1) := by decide +kernel
theorem dL_tryLeave_6 : decode cL_tryLeave 6 = .ok (.astore_n 2, 1) := by decide +kernel
theorem dL_tryLeave_7 : decode cL_tryLeave 7 = .ok (.ldc 32, 2) := by decide +kernel
theorem dL_tryLeave_9 : decode cL_tryLeave 9 = .ok (.ireturn, 1) := by decide +kernel
set_option maxRecDepth 20000 in
theorem ggL_tryWant_X5_want : GoodIn wsL_tryWant wsX5_want := goodIn_ca (goodIn_ca (goodIn_r _ [9, 10, 11, 12, 13, 14, 15, 16, 8, 17, 18, 19, 20, 21, 22, 23, 24, 25, 26, 27, 28, 29, 30, 31, 32, 33, 34, 35, 36, 37, 38, 39, 40, 41, 42, 43, 44, 45, 46, 47, 48, 49, 50, 51, 52, 53, 54, 55, 56, 57, 58, 59, 60, 61, 62, 63, 64, 65, 66, 67, 68, 69, 70, 71, 72, 73, 74, 75, 76, 77, 78, 79, 80, 81, 82, 83, 84, 85, 86, 87, 88, 89, 90, 91, 92, 93, 94, 95, 96, 97, 98, 99, 100, 101, 102, 103, 104, 105, 106, 107, 108] (by decide +kernel) (by decide +kernel)) (goodIn_sub (fun _ h => List.mem_cons_of_mem _ (List.mem_append_left _ (List.mem_append_right _ h))) (by decide +kernel))) (goodIn_sub (fun _ h => List.mem_cons_of_mem _ (List.mem_append_right _ h)) (by decide +kernel))
set_option maxRecDepth 20000 in
theorem gL_tryWant_X5_want : GoodIn wsL_tryWant (wsV RL 43 RX5 yX5_want wsX5_want) := goodIn_app (goodIn_of _ (by decide +kernel)) ggL_tryWant_X5_want
theorem dL_tryWant_0 : decode cL_tryWant 0 = .ok (.aload_n 0, 1) := by decide +kernel
theorem dL_tryWant_1 : decode cL_tryWant 1 = .ok (.iload_n 1, 1) := by decide +kernel
theorem dL_tryWant_2 : decode cL_tryWant 2 = .ok (.iload_n 2, 1) := by decide +kernel
theorem dL_tryWant_3 : decode cL_tryWant 3 = .ok (.invokevirtual 43, 3) := by decide +kernel
theorem dL_tryWant_6 : decode cL_tryWant 6 = .ok (.ireturn, 1) := by decide +kernel
theorem dL_tryWant_7 : decode cL_tryWant 7 = .ok (.astore_n 3, 1) := by decide +kernel
theorem dL_tryWant_8 : decode cL_tryWant 8 = .ok (.ldc 32, 2) := by decide +kernel
theorem dL_tryWant_10 : decode cL_tryWant 10 = .ok (.ireturn, 1) := by decide +kernel
theorem dL_tryWant_11 : decode cL_tryWant 11 = .ok (.astore_n 3, 1) := by decide +kernel
theorem dL_tryWant_12 : decode cL_tryWant 12 = .ok (.ldc 15, 2) := by decide +kernel
theorem dL_tryWant_14 : decode cL_tryWant 14 = .ok (.ireturn, 1) := by decide +kernel
set_option maxRecDepth 20000 in
theorem ggL_tryTest_X5_test : GoodIn wsL_tryTest wsX5_test := goodIn_ca (goodIn_ca (goodIn_r _ [9, 10, 11, 12, 13, 14, 15, 16, 8, 17, 18, 19, 20, 21, 22, 23, 24, 25, 26, 27, 28, 29, 30, 31, 32, 33, 34, 35, 36, 37, 38, 39, 40, 41, 42, 43, 44, 45, 46, 47, 48, 49, 50, 51, 52, 53, 54, 55, 56, 57, 58, 59, 60, 61, 62, 63, 64, 65, 66, 67, 68, 69, 70, 71, 72, 73, 74, 75, 76, 77, 78, 79, 80, 81, 82, 83, 84, 85, 86, 87, 88, 89, 90, 91, 92, 93, 94, 95, 96, 97, 98, 99, 100, 101, 102, 103, 104, 105, 106, 107, 108] (by decide +kernel) (by decide +kernel)) (goodIn_sub (fun _ h => List.mem_cons_of_mem _ (List.mem_append_left _ (List.mem_append_right _ h))) (by decide +kernel))) (goodIn_sub (fun _ h => List.mem_cons_of_mem _ (List.mem_append_right _ h)) (by decide +kernel))
set_option maxRecDepth 20000 in
theorem gL_tryTest_X5_test : GoodIn wsL_tryTest (wsV RL 46 RX5 yX5_test wsX5_test) := goodIn_app (goodIn_of _ (by decide +kernel)) ggL_tryTest_X5_test
theorem dL_tryTest_0 : decode cL_tryTest 0 = .ok (.aload_n 0, 1) := by decide +kernel
theorem dL_tryTest_1 : decode cL_tryTest 1 = .ok (.iload_n 1, 1) := by decide +kernel
theorem dL_tryTest_2 : decode cL_tryTest 2 = .ok (.iload_n 2, 1) := by decide +kernel
theorem dL_tryTest_3 : decode cL_tryTest 3 = .ok (.iload_n 3, 1) := by decide +kernel
theorem dL_tryTest_4 : decode cL_tryTest 4 = .ok (.invokevirtual 46, 3) := by decide +kernel
theorem dL_tryTest_7 : decode cL_tryTest 7 = .ok (.ireturn, 1) := by decide +kernel
theorem dL_tryTest_8 : decode cL_tryTest 8 = .ok (.astore 4, 2) := by decide +kernel
theorem dL_tryTest_10 : decode cL_tryTest 10 = .ok (.ldc 32, 2) := by decide +kernel
theorem dL_tryTest_12 : decode cL_tryTest 12 = .ok (.ireturn, 1) := by decide +kernel
theorem dL_tryTest_13 : decode cL_tryTest 13 = .ok (.astore 4, 2) := by decide +kernel
theorem dL_tryTest_15 : decode cL_tryTest 15 = .ok (.ldc 15, 2) := by decide +kernel
theorem dL_tryTest_17 : decode cL_tryTest 17 = .ok (.ireturn, 1) := by decide +kernel
set_option maxRecDepth 20000 in
theorem ggL_tryPair_X5_pair : GoodIn wsL_tryPair wsX5_pair := goodIn_ca (goodIn_ca (goodIn_ca (goodIn_r _ [11, 12, 13, 14, 15, 16, 17, 18, 10, 19, 20, 21, 22, 23, 24, 25, 26, 27, 28, 29, 30, 31, 32, 33, 34, 35, 36, 37, 38, 39, 40, 41, 42, 43, 44, 45, 46, 47, 48, 49, 50, 51, 52, 53, 54, 55, 56, 57, 58, 59, 60, 61, 62, 63, 64, 65, 66, 67, 68, 69, 70, 71, 72, 73, 74, 75, 76, 77, 78, 79, 80, 81, 82, 83, 84, 85, 86, 87, 88, 89, 90, 91, 92, 93, 94, 95, 96, 97, 98, 99, 100, 101, 102, 103, 104, 105, 106, 107, 108, 109, 110, 111, 112, 113, 114, 115, 116, 117, 118, 119, 120, 121] (by decide +kernel) (by decide +kernel)) (goodIn_sub (fun _ h => List.mem_cons_of_mem _ (List.mem_append_left _ (List.mem_append_left _ (List.mem_append_right _ h)))) (by decide +kernel))) (goodIn_sub (fun _ h => List.mem_cons_of_mem _ (List.mem_append_left _ (List.mem_append_right _ h))) (by decide +kernel))) (goodIn_sub (fun _ h => List.mem_cons_of_mem _ (List.mem_append_right _ h)) (by decide +kernel))
set_option maxRecDepth 20000 in
theorem gL_tryPair_X5_pair : GoodIn wsL_tryPair (wsV RL 49 RX5 yX5_pair wsX5_pair) := goodIn_app (goodIn_of _ (by decide +kernel)) ggL_tryPair_X5_pair
theorem dL_tryPair_0 : decode cL_tryPair 0 = .ok (.aload_n 0, 1) := by decide +kernel
theorem dL_tryPair_1 : decode cL_tryPair 1 = .ok (.iload_n 1, 1) := by decide +kernel
theorem dL_tryPair_2 : decode cL_tryPair 2 = .ok (.iload_n 2, 1) := by decide +kernel
theorem dL_tryPair_3 : decode cL_tryPair 3 = .ok (.invokevirtual 49, 3) := by decide +kernel
theorem dL_tryPair_6 : decode cL_tryPair 6 = .ok (.ireturn, 1) := by decide +kernel
theorem dL_tryPair_7 : decode cL_tryPair 7 = .ok (.astore_n 3, 1) := by decide +kernel
theorem dL_tryPair_8 : decode cL_tryPair 8 = .ok (.ldc 32, 2) := by decide +kernel
theorem dL_tryPair_10 : decode cL_tryPair 10 = .ok (.ireturn, 1) := by decide +kernel
theorem dL_tryPair_11 : decode cL_tryPair 11 = .ok (.astore_n 3, 1) := by decide +kernel
theorem dL_tryPair_12 : decode cL_tryPair 12 = .ok (.ldc 15, 2) := by decide +kernel
theorem dL_tryPair_14 : decode cL_tryPair 14 = .ok (.ireturn, 1) := by decide +kernel
theorem dL_tryPair_15 : decode cL_tryPair 15 = .ok (.astore_n 3, 1) := by decide +kernel
theorem dL_tryPair_16 : decode cL_tryPair 16 = .ok (.ldc 18, 2) := by decide +kernel
theorem dL_tryPair_18 : decode cL_tryPair 18 = .ok (.ireturn, 1) := by decide +kernel
set_option maxRecDepth 20000 in
theorem ggL_tryPart_X5_part : GoodIn wsL_tryPart wsX5_part := goodIn_ca (goodIn_ca (goodIn_r _ [9, 10, 11, 12, 13, 14, 15, 16, 8, 17, 18, 19, 20, 21, 22, 23, 24, 25, 26, 27, 28, 29, 30, 31, 32, 33, 34, 35, 36, 37, 38, 39, 40, 41, 42, 43, 44, 45, 46, 47, 48, 49, 50, 51, 52, 53, 54, 55, 56, 57, 58, 59, 60, 61, 62, 63, 64, 65, 66, 67, 68, 69, 70, 71, 72, 73, 74, 75, 76, 77, 78, 79, 80, 81, 82, 83, 84, 85, 86, 87, 88, 89, 90, 91] (by decide +kernel) (by decide +kernel)) (goodIn_sub (fun _ h => List.mem_cons_of_mem _ (List.mem_append_left _ (List.mem_append_right _ h))) (by decide +kernel))) (goodIn_sub (fun _ h => List.mem_cons_of_mem _ (List.mem_append_right _ h)) (by decide +kernel))
set_option maxRecDepth 20000 in
theorem gL_tryPart_X5_part : GoodIn wsL_tryPart (wsV RL 52 RX5 yX5_part wsX5_part) := goodIn_app (goodIn_of _ (by decide +kernel)) ggL_tryPart_X5_part
theorem dL_tryPart_0 : decode cL_tryPart 0 = .ok (.aload_n 0, 1) := by decide +kernel
theorem dL_tryPart_1 : decode cL_tryPart 1 = .ok (.iload_n 1, 1) := by decide +kernel
theorem dL_tryPart_2 : decode cL_tryPart 2 = .ok (.invokevirtual 52, 3) := by decide +kernel
theorem dL_tryPart_5 : decode cL_tryPart 5 = .ok (.ireturn, 1) := by decide +kernel
theorem dL_tryPart_6 : decode cL_tryPart 6 = .ok (.astore_n 2, 1) := by decide +kernel
theorem dL_tryPart_7 : decode cL_tryPart 7 = .ok (.ldc 32, 2) := by decide +kernel
theorem dL_tryPart_9 : decode cL_tryPart 9 = .ok (.ireturn, 1) := by decide +kernel
theorem dL_tryPart_10 : decode cL_tryPart 10 = .ok (.astore_n 2, 1) := by decide +kernel
theorem dL_tryPart_11 : decode cL_tryPart 11 = .ok (.ldc 18, 2) := by decide +kernel
theorem dL_tryPart_13 : decode cL_tryPart 13 = .ok (.ireturn, 1) := by decide +kernel
set_option maxRecDepth 20000 in
theorem ggL_trySettle_X5_settle : GoodIn wsL_trySettle wsX5_settle := goodIn_ca (goodIn_r _ [7, 8, 9, 10, 11, 6, 12, 13, 14, 15, 16, 17, 18, 19, 20, 21, 22, 23, 24, 25, 26, 27, 28, 29, 30, 31, 32, 33, 34, 35, 36, 37, 38, 39, 40, 41, 42, 43, 44, 45, 46, 47, 48, 49, 50, 51, 52, 53, 54, 55, 56, 57, 58, 59, 60, 61, 62, 63, 64, 65, 66, 67, 68, 69, 70, 71, 72, 73, 74, 75, 76, 77, 78, 79, 80, 81, 82, 83, 84, 85, 86, 87, 88, 89, 90, 91, 92, 93, 94, 95, 96, 97, 98, 99, 100, 101, 102, 103, 104, 105, 106, 107, 108, 109, 110, 111, 112, 113, 114, 115, 116] (by decide +kernel) (by decide +kernel)) (goodIn_sub (fun _ h => List.mem_cons_of_mem _ (List.mem_append_right _ h)) (by decide +kernel))
set_option maxRecDepth 20000 in
theorem gL_trySettle_X5_settle : GoodIn wsL_trySettle (wsV RL 55 RX5 yX5_settle wsX5_settle) := goodIn_app (goodIn_of _ (by decide +kernel)) ggL_trySettle_X5_settle
theorem dL_trySettle_0 : decode cL_trySettle 0 = .ok (.aload_n 0, 1) := by decide +kernel
theorem dL_trySettle_1 : decode cL_trySettle 1 = .ok (.iload_n 1, 1) := by decide +kernel
theorem dL_trySettle_2 : decode cL_trySettle 2 = .ok (.invokevirtual 55, 3) := by decide +kernel
theorem dL_trySettle_5 : decode cL_trySettle 5 = .ok (.ireturn, 1) := by decide +kernel
theorem dL_trySettle_6 : decode cL_trySettle 6 = .ok (.astore_n 2, 1) := by decide +kernel
theorem dL_trySettle_7 : decode cL_trySettle 7 = .ok (.ldc 15, 2) := by decide +kernel
theorem dL_trySettle_9 : decode cL_trySettle 9 = .ok (.ireturn, 1) := by decide +kernel
set_option maxRecDepth 20000 in
theorem ggL_tryWeek_X5_week : GoodIn wsL_tryWeek wsX5_week := goodIn_ca (goodIn_r _ [7, 8, 9, 10, 11, 6, 12, 13, 14, 15, 16, 17, 18, 19, 20, 21, 22, 23, 24, 25, 26, 27, 28, 29, 30, 31, 32, 33, 34, 35, 36, 37, 38, 39, 40, 41, 42, 43, 44, 45, 46, 47, 48, 49, 50, 51, 52, 53, 54, 55, 56, 57, 58, 59, 60, 61, 62, 63, 64, 65, 66, 67, 68, 69, 70, 71, 72, 73, 74, 75, 76, 77, 78, 79, 80, 81, 82, 83, 84, 85, 86, 87, 88, 89, 90, 91, 92, 93, 94, 95, 96, 97, 98, 99, 100, 101, 102, 103, 104, 105, 106, 107, 108, 109, 110, 111, 112, 113, 114, 115, 116, 117, 118, 119, 120, 121, 122, 123, 124, 125, 126, 127, 128, 129, 130] (by decide +kernel) (by decide +kernel)) (goodIn_sub (fun _ h => List.mem_cons_of_mem _ (List.mem_append_right _ h)) (by decide +kernel))
set_option maxRecDepth 20000 in
theorem gL_tryWeek_X5_week : GoodIn wsL_tryWeek (wsV RL 58 RX5 yX5_week wsX5_week) := goodIn_app (goodIn_of _ (by decide +kernel)) ggL_tryWeek_X5_week
theorem dL_tryWeek_0 : decode cL_tryWeek 0 = .ok (.aload_n 0, 1) := by decide +kernel
theorem dL_tryWeek_1 : decode cL_tryWeek 1 = .ok (.iload_n 1, 1) := by decide +kernel
theorem dL_tryWeek_2 : decode cL_tryWeek 2 = .ok (.invokevirtual 58, 3) := by decide +kernel
theorem dL_tryWeek_5 : decode cL_tryWeek 5 = .ok (.ireturn, 1) := by decide +kernel
theorem dL_tryWeek_6 : decode cL_tryWeek 6 = .ok (.astore_n 2, 1) := by decide +kernel
theorem dL_tryWeek_7 : decode cL_tryWeek 7 = .ok (.ldc 15, 2) := by decide +kernel
theorem dL_tryWeek_9 : decode cL_tryWeek 9 = .ok (.ireturn, 1) := by decide +kernel
set_option maxRecDepth 20000 in
theorem ggL_tryUndo_X5_undo : GoodIn wsL_tryUndo wsX5_undo := goodIn_ca (goodIn_r _ [7, 8, 9, 10, 11, 12, 13, 14, 15, 16, 17, 18, 19, 20, 21, 22, 23, 24, 25, 26, 27, 28, 29, 30, 31, 32, 33, 34, 35, 36, 37, 38, 39, 40, 41, 42, 43, 44, 45, 46, 47, 48, 49, 50, 51, 52, 53, 54, 55, 56, 57, 58, 59, 60, 61, 62, 63, 64] (by decide +kernel) (by decide +kernel)) (goodIn_sub (fun _ h => List.mem_cons_of_mem _ (List.mem_append_right _ h)) (by decide +kernel))
set_option maxRecDepth 20000 in
theorem gL_tryUndo_X5_undo : GoodIn wsL_tryUndo (wsV RL 61 RX5 yX5_undo wsX5_undo) := goodIn_app (goodIn_of _ (by decide +kernel)) ggL_tryUndo_X5_undo
theorem dL_tryUndo_0 : decode cL_tryUndo 0 = .ok (.aload_n 0, 1) := by decide +kernel
theorem dL_tryUndo_1 : decode cL_tryUndo 1 = .ok (.invokevirtual 61, 3) := by decide +kernel
theorem dL_tryUndo_4 : decode cL_tryUndo 4 = .ok (.ireturn, 1) := by decide +kernel
theorem dL_tryUndo_5 : decode cL_tryUndo 5 = .ok (.astore_n 1, 1) := by decide +kernel
theorem dL_tryUndo_6 : decode cL_tryUndo 6 = .ok (.ldc 18, 2) := by decide +kernel
theorem dL_tryUndo_8 : decode cL_tryUndo 8 = .ok (.ireturn, 1) := by decide +kernel
set_option maxRecDepth 20000 in
theorem ggL_tryBlocking_X5_blocking : GoodIn wsL_tryBlocking wsX5_blocking := goodIn_ca (goodIn_r _ [7, 8, 9, 10, 11, 12, 13, 14, 15, 16, 17, 18, 19, 20, 21, 22, 23, 24, 25, 26, 27, 28, 29, 30, 31, 32, 33, 34, 35, 36, 37, 38, 39, 40, 41, 42, 43, 44, 45, 46, 47, 48, 49, 50, 51, 52, 53, 54, 55, 56, 57, 58, 59, 60, 61, 62, 63, 64] (by decide +kernel) (by decide +kernel)) (goodIn_sub (fun _ h => List.mem_cons_of_mem _ (List.mem_append_right _ h)) (by decide +kernel))
set_option maxRecDepth 20000 in
theorem gL_tryBlocking_X5_blocking : GoodIn wsL_tryBlocking (wsV RL 64 RX5 yX5_blocking wsX5_blocking) := goodIn_app (goodIn_of _ (by decide +kernel)) ggL_tryBlocking_X5_blocking
theorem dL_tryBlocking_0 : decode cL_tryBlocking 0 = .ok (.aload_n 0, 1) := by decide +kernel
theorem dL_tryBlocking_1 : decode cL_tryBlocking 1 = .ok (.iload_n 1, 1) := by decide +kernel
theorem dL_tryBlocking_2 : decode cL_tryBlocking 2 = .ok (.iload_n 2, 1) := by decide +kernel
theorem dL_tryBlocking_3 : decode cL_tryBlocking 3 = .ok (.invokevirtual 64, 3) := by decide +kernel
theorem dL_tryBlocking_6 : decode cL_tryBlocking 6 = .ok (.ireturn, 1) := by decide +kernel
theorem dL_tryBlocking_7 : decode cL_tryBlocking 7 = .ok (.astore_n 3, 1) := by decide +kernel
theorem dL_tryBlocking_8 : decode cL_tryBlocking 8 = .ok (.ldc 15, 2) := by decide +kernel
theorem dL_tryBlocking_10 : decode cL_tryBlocking 10 = .ok (.ireturn, 1) := by decide +kernel
set_option maxRecDepth 20000 in
theorem ggL_tryBestPartner_X5_bestPartner : GoodIn wsL_tryBestPartner wsX5_bestPartner := goodIn_ca (goodIn_r _ [7, 8, 9, 10, 11, 12, 6, 13, 14, 15, 16, 17, 18, 19, 20, 21, 22, 23, 24, 25, 26, 27, 28, 29, 30, 31, 32, 33, 34, 35, 36, 37, 38, 39, 40, 41, 42, 43, 44, 45, 46, 47, 48, 49, 50, 51, 52, 53, 54, 55, 56, 57, 58, 59, 60, 61, 62, 63, 64] (by decide +kernel) (by decide +kernel)) (goodIn_sub (fun _ h => List.mem_cons_of_mem _ (List.mem_append_right _ h)) (by decide +kernel))
set_option maxRecDepth 20000 in
theorem gL_tryBestPartner_X5_bestPartner : GoodIn wsL_tryBestPartner (wsV RL 68 RX5 yX5_bestPartner wsX5_bestPartner) := goodIn_app (goodIn_of _ (by decide +kernel)) ggL_tryBestPartner_X5_bestPartner
theorem dL_tryBestPartner_0 : decode cL_tryBestPartner 0 = .ok (.aload_n 0, 1) := by decide +kernel
theorem dL_tryBestPartner_1 : decode cL_tryBestPartner 1 = .ok (.iload_n 1, 1) := by decide +kernel
theorem dL_tryBestPartner_2 : decode cL_tryBestPartner 2 = .ok (.iload_n 2, 1) := by decide +kernel
theorem dL_tryBestPartner_3 : decode cL_tryBestPartner 3 = .ok (.invokevirtual 68, 3) := by decide +kernel
theorem dL_tryBestPartner_6 : decode cL_tryBestPartner 6 = .ok (.ireturn, 1) := by decide +kernel
theorem dL_tryBestPartner_7 : decode cL_tryBestPartner 7 = .ok (.astore_n 3, 1) := by decide +kernel
theorem dL_tryBestPartner_8 : decode cL_tryBestPartner 8 = .ok (.ldc 32, 2) := by decide +kernel
theorem dL_tryBestPartner_10 : decode cL_tryBestPartner 10 = .ok (.ireturn, 1) := by decide +kernel
set_option maxRecDepth 20000 in
theorem ggL_tryBest_X5_best : GoodIn wsL_tryBest wsX5_best := goodIn_ca (goodIn_r _ [7, 8, 9, 10, 11, 6, 12, 13, 14, 15, 16, 17, 18, 19, 20, 21, 22, 23, 24, 25, 26, 27, 28, 29, 30, 31, 32, 33, 34, 35, 36, 37, 38, 39, 40, 41, 42, 43, 44, 45, 46, 47, 48, 49, 50, 51, 52, 53, 54, 55, 56, 57, 58, 59, 60, 61, 62, 63, 64, 65, 66, 67, 68, 69, 70, 71, 72, 73, 74, 75, 76, 77, 78, 79, 80, 81, 82, 83, 84, 85, 86, 87, 88, 89] (by decide +kernel) (by decide +kernel)) (goodIn_sub (fun _ h => List.mem_cons_of_mem _ (List.mem_append_right _ h)) (by decide +kernel))
set_option maxRecDepth 20000 in
theorem gL_tryBest_X5_best : GoodIn wsL_tryBest (wsV RL 71 RX5 yX5_best wsX5_best) := goodIn_app (goodIn_of _ (by decide +kernel)) ggL_tryBest_X5_best
theorem dL_tryBest_0 : decode cL_tryBest 0 = .ok (.aload_n 0, 1) := by decide +kernel
theorem dL_tryBest_1 : decode cL_tryBest 1 = .ok (.iload_n 1, 1) := by decide +kernel
theorem dL_tryBest_2 : decode cL_tryBest 2 = .ok (.invokevirtual 71, 3) := by decide +kernel
theorem dL_tryBest_5 : decode cL_tryBest 5 = .ok (.ireturn, 1) := by decide +kernel
theorem dL_tryBest_6 : decode cL_tryBest 6 = .ok (.astore_n 2, 1) := by decide +kernel
theorem dL_tryBest_7 : decode cL_tryBest 7 = .ok (.ldc 15, 2) := by decide +kernel
theorem dL_tryBest_9 : decode cL_tryBest 9 = .ok (.ireturn, 1) := by decide +kernel
set_option maxRecDepth 20000 in
theorem ggL_tryAhead_X5_ahead : GoodIn wsL_tryAhead wsX5_ahead := goodIn_ca (goodIn_ca (goodIn_r _ [9, 10, 11, 12, 13, 14, 8, 15, 16, 17, 18, 19, 20, 21, 22, 23, 24, 25, 26, 27, 28, 29, 30, 31, 32, 33, 34, 35, 36, 37, 38, 39, 40, 41, 42, 43, 44, 45, 46, 47, 48, 49, 50, 51, 52, 53, 54, 55, 56, 57, 58, 59, 60, 61, 62, 63, 64, 65, 66, 67, 68, 69, 70, 71, 72, 73, 74, 75, 76, 77, 78, 79, 80, 81, 82, 83, 84, 85, 86, 87, 88, 89, 90, 91, 92, 93, 94, 95, 96, 97, 98, 99, 100, 101, 102, 103, 104, 105, 106, 107, 108, 109, 110, 111, 112, 113, 114, 115, 116, 117, 118, 119, 120, 121, 122, 123, 124, 125, 126, 127, 128, 129, 130, 131, 132, 133, 134, 135, 136, 137, 138, 139] (by decide +kernel) (by decide +kernel)) (goodIn_sub (fun _ h => List.mem_cons_of_mem _ (List.mem_append_left _ (List.mem_append_right _ h))) (by decide +kernel))) (goodIn_sub (fun _ h => List.mem_cons_of_mem _ (List.mem_append_right _ h)) (by decide +kernel))
set_option maxRecDepth 20000 in
theorem gL_tryAhead_X5_ahead : GoodIn wsL_tryAhead (wsV RL 74 RX5 yX5_ahead wsX5_ahead) := goodIn_app (goodIn_of _ (by decide +kernel)) ggL_tryAhead_X5_ahead
theorem dL_tryAhead_0 : decode cL_tryAhead 0 = .ok (.aload_n 0, 1) := by decide +kernel
theorem dL_tryAhead_1 : decode cL_tryAhead 1 = .ok (.iload_n 1, 1) := by decide +kernel
theorem dL_tryAhead_2 : decode cL_tryAhead 2 = .ok (.iload_n 2, 1) := by decide +kernel
theorem dL_tryAhead_3 : decode cL_tryAhead 3 = .ok (.iload_n 3, 1) := by decide +kernel
theorem dL_tryAhead_4 : decode cL_tryAhead 4 = .ok (.iload 4, 2) := by decide +kernel
theorem dL_tryAhead_6 : decode cL_tryAhead 6 = .ok (.invokevirtual 74, 3) := by decide +kernel
theorem dL_tryAhead_9 : decode cL_tryAhead 9 = .ok (.ireturn, 1) := by decide +kernel
theorem dL_tryAhead_10 : decode cL_tryAhead 10 = .ok (.astore 5, 2) := by decide +kernel
theorem dL_tryAhead_12 : decode cL_tryAhead 12 = .ok (.ldc 32, 2) := by decide +kernel
theorem dL_tryAhead_14 : decode cL_tryAhead 14 = .ok (.ireturn, 1) := by decide +kernel
theorem dL_tryAhead_15 : decode cL_tryAhead 15 = .ok (.astore 5, 2) := by decide +kernel
theorem dL_tryAhead_17 : decode cL_tryAhead 17 = .ok (.ldc 15, 2) := by decide +kernel
theorem dL_tryAhead_19 : decode cL_tryAhead 19 = .ok (.ireturn, 1) := by decide +kernel
set_option maxRecDepth 20000 in
theorem ggL_tryLevelAfter_X5_levelAfter : GoodIn wsL_tryLevelAfter wsX5_levelAfter := goodIn_ca (goodIn_ca (goodIn_r _ [9, 10, 11, 12, 13, 14, 15, 8, 16, 17, 18, 19, 20, 21, 22, 23, 24, 25, 26, 27, 28, 29, 30, 31, 32, 33, 34, 35, 36, 37, 38, 39, 40, 41, 42, 43, 44, 45, 46, 47, 48, 49, 50, 51, 52, 53, 54, 55, 56, 57, 58, 59, 60, 61, 62, 63, 64, 65, 66, 67, 68, 69, 70, 71, 72, 73, 74, 75, 76, 77, 78, 79, 80, 81, 82, 83, 84, 85, 86, 87, 88, 89, 90, 91, 92, 93, 94, 95, 96, 97, 98, 99, 100, 101, 102, 103, 104, 105, 106, 107, 108, 109, 110, 111, 112, 113, 114, 115, 116, 117, 118, 119, 120, 121, 122, 123, 124, 125, 126, 127, 128, 129, 130, 131, 132, 133, 134, 135, 136, 137, 138, 139, 140, 141, 142, 143, 144, 145, 146, 147, 148, 149, 150, 151, 152, 153, 154, 155, 156, 157, 158, 159, 160, 161, 162, 163] (by decide +kernel) (by decide +kernel)) (goodIn_sub (fun _ h => List.mem_cons_of_mem _ (List.mem_append_left _ (List.mem_append_right _ h))) (by decide +kernel))) (goodIn_sub (fun _ h => List.mem_cons_of_mem _ (List.mem_append_right _ h)) (by decide +kernel))
set_option maxRecDepth 20000 in
theorem gL_tryLevelAfter_X5_levelAfter : GoodIn wsL_tryLevelAfter (wsV RL 78 RX5 yX5_levelAfter wsX5_levelAfter) := goodIn_app (goodIn_of _ (by decide +kernel)) ggL_tryLevelAfter_X5_levelAfter
theorem dL_tryLevelAfter_0 : decode cL_tryLevelAfter 0 = .ok (.aload_n 0, 1) := by decide +kernel
theorem dL_tryLevelAfter_1 : decode cL_tryLevelAfter 1 = .ok (.iload_n 1, 1) := by decide +kernel
theorem dL_tryLevelAfter_2 : decode cL_tryLevelAfter 2 = .ok (.iload_n 2, 1) := by decide +kernel
theorem dL_tryLevelAfter_3 : decode cL_tryLevelAfter 3 = .ok (.invokevirtual 78, 3) := by decide +kernel
theorem dL_tryLevelAfter_6 : decode cL_tryLevelAfter 6 = .ok (.ireturn, 1) := by decide +kernel
theorem dL_tryLevelAfter_7 : decode cL_tryLevelAfter 7 = .ok (.astore_n 3, 1) := by decide +kernel
theorem dL_tryLevelAfter_8 : decode cL_tryLevelAfter 8 = .ok (.ldc 32, 2) := by decide +kernel
theorem dL_tryLevelAfter_10 : decode cL_tryLevelAfter 10 = .ok (.ireturn, 1) := by decide +kernel
theorem dL_tryLevelAfter_11 : decode cL_tryLevelAfter 11 = .ok (.astore_n 3, 1) := by decide +kernel
theorem dL_tryLevelAfter_12 : decode cL_tryLevelAfter 12 = .ok (.ldc 15, 2) := by decide +kernel
theorem dL_tryLevelAfter_14 : decode cL_tryLevelAfter 14 = .ok (.ireturn, 1) := by decide +kernel
set_option maxRecDepth 20000 in
theorem ggL_tryPartsAfter_X5_partsAfter : GoodIn wsL_tryPartsAfter wsX5_partsAfter := goodIn_ca (goodIn_ca (goodIn_ca (goodIn_r _ [11, 12, 13, 14, 15, 16, 10, 17, 18, 19, 20, 21, 22, 23, 24, 25, 26, 27, 28, 29, 30, 31, 32, 33, 34, 35, 36, 37, 38, 39, 40, 41, 42, 43, 44, 45, 46, 47, 48, 49, 50, 51, 52, 53, 54, 55, 56, 57, 58, 59, 60, 61, 62, 63, 64, 65, 66, 67, 68, 69, 70, 71, 72, 73, 74, 75, 76, 77, 78, 79, 80, 81, 82, 83, 84, 85, 86, 87, 88, 89, 90, 91, 92, 93, 94, 95, 96, 97, 98, 99, 100, 101, 102, 103, 104, 105, 106, 107, 108, 109, 110, 111, 112, 113, 114, 115, 116, 117, 118, 119, 120, 121, 122, 123, 124, 125, 126, 127, 128, 129, 130, 131, 132, 133, 134, 135, 136] (by decide +kernel) (by decide +kernel)) (goodIn_sub (fun _ h => List.mem_cons_of_mem _ (List.mem_append_left _ (List.mem_append_left _ (List.mem_append_right _ h)))) (by decide +kernel))) (goodIn_sub (fun _ h => List.mem_cons_of_mem _ (List.mem_append_left _ (List.mem_append_right _ h))) (by decide +kernel))) (goodIn_sub (fun _ h => List.mem_cons_of_mem _ (List.mem_append_right _ h)) (by decide +kernel))
set_option maxRecDepth 20000 in
theorem gL_tryPartsAfter_X5_partsAfter : GoodIn wsL_tryPartsAfter (wsV RL 81 RX5 yX5_partsAfter wsX5_partsAfter) := goodIn_app (goodIn_of _ (by decide +kernel)) ggL_tryPartsAfter_X5_partsAfter
theorem dL_tryPartsAfter_0 : decode cL_tryPartsAfter 0 = .ok (.aload_n 0, 1) := by decide +kernel
theorem dL_tryPartsAfter_1 : decode cL_tryPartsAfter 1 = .ok (.iload_n 1, 1) := by decide +kernel
theorem dL_tryPartsAfter_2 : decode cL_tryPartsAfter 2 = .ok (.iload_n 2, 1) := by decide +kernel
theorem dL_tryPartsAfter_3 : decode cL_tryPartsAfter 3 = .ok (.invokevirtual 81, 3) := by decide +kernel
theorem dL_tryPartsAfter_6 : decode cL_tryPartsAfter 6 = .ok (.ireturn, 1) := by decide +kernel
theorem dL_tryPartsAfter_7 : decode cL_tryPartsAfter 7 = .ok (.astore_n 3, 1) := by decide +kernel
theorem dL_tryPartsAfter_8 : decode cL_tryPartsAfter 8 = .ok (.ldc 32, 2) := by decide +kernel
theorem dL_tryPartsAfter_10 : decode cL_tryPartsAfter 10 = .ok (.ireturn, 1) := by decide +kernel
theorem dL_tryPartsAfter_11 : decode cL_tryPartsAfter 11 = .ok (.astore_n 3, 1) := by decide +kernel
theorem dL_tryPartsAfter_12 : decode cL_tryPartsAfter 12 = .ok (.ldc 15, 2) := by decide +kernel
theorem dL_tryPartsAfter_14 : decode cL_tryPartsAfter 14 = .ok (.ireturn, 1) := by decide +kernel
theorem dL_tryPartsAfter_15 : decode cL_tryPartsAfter 15 = .ok (.astore_n 3, 1) := by decide +kernel
theorem dL_tryPartsAfter_16 : decode cL_tryPartsAfter 16 = .ok (.ldc 18, 2) := by decide +kernel
theorem dL_tryPartsAfter_18 : decode cL_tryPartsAfter 18 = .ok (.ireturn, 1) := by decide +kernel
set_option maxRecDepth 20000 in
theorem ggL_tryScript_X5_runScript : GoodIn wsL_tryScript wsX5_runScript := goodIn_ca (goodIn_r _ [7, 8, 9, 10, 11, 12, 13, 14, 6, 15, 16, 17, 18, 19, 20, 21, 22, 23, 24, 25, 26, 27, 28, 29, 30, 31, 32, 33, 34, 35, 36, 37, 38, 39, 40, 41, 42, 43, 44, 45, 46, 47, 48, 49, 50, 51, 52, 53, 54, 55, 56, 57, 58, 59, 60, 61, 62, 63, 64, 65, 66, 67, 68, 69, 70, 71, 72, 73, 74, 75, 76, 77, 78, 79, 80, 81, 82, 83, 84, 85, 86, 87, 88, 89, 90, 91, 92, 93, 94, 95, 96, 97, 98, 99, 100, 101, 102, 103, 104, 105, 106, 107, 108, 109, 110, 111, 112, 113, 114, 115, 116, 117, 118, 119, 120, 121, 122, 123, 124, 125, 126, 127, 128, 129, 130, 131, 132, 133, 134, 135, 136, 137, 138, 139, 140, 141, 142, 143, 144, 145, 146, 147, 148, 149, 150, 151, 152, 153, 154, 155, 156, 157, 158, 159, 160, 161, 162, 163, 164, 165, 166, 167, 168, 169, 170, 171, 172, 173, 174, 175, 176, 177, 178, 179, 180, 181, 182, 183, 184, 185, 186, 187, 188, 189, 190, 191, 192, 193, 194] (by decide +kernel) (by decide +kernel)) (goodIn_sub (fun _ h => List.mem_cons_of_mem _ (List.mem_append_right _ h)) (by decide +kernel))
set_option maxRecDepth 20000 in
theorem gL_tryScript_X5_runScript : GoodIn wsL_tryScript (wsV RL 84 RX5 yX5_runScript wsX5_runScript) := goodIn_app (goodIn_of _ (by decide +kernel)) ggL_tryScript_X5_runScript
theorem dL_tryScript_0 : decode cL_tryScript 0 = .ok (.aload_n 0, 1) := by decide +kernel
theorem dL_tryScript_1 : decode cL_tryScript 1 = .ok (.iload_n 1, 1) := by decide +kernel
theorem dL_tryScript_2 : decode cL_tryScript 2 = .ok (.lload_n 2, 1) := by decide +kernel
theorem dL_tryScript_3 : decode cL_tryScript 3 = .ok (.invokevirtual 84, 3) := by decide +kernel
theorem dL_tryScript_6 : decode cL_tryScript 6 = .ok (.ireturn, 1) := by decide +kernel
theorem dL_tryScript_7 : decode cL_tryScript 7 = .ok (.astore 4, 2) := by decide +kernel
theorem dL_tryScript_9 : decode cL_tryScript 9 = .ok (.ldc 15, 2) := by decide +kernel
theorem dL_tryScript_11 : decode cL_tryScript 11 = .ok (.ireturn, 1) := by decide +kernel
set_option maxRecDepth 20000 in
theorem ggL_trySimulate_X5_simulate : GoodIn wsL_trySimulate wsX5_simulate := goodIn_ca (goodIn_r _ [7, 8, 9, 10, 11, 12, 13, 6, 14, 15, 16, 17, 18, 19, 20, 21, 22, 23, 24, 25, 26, 27, 28, 29, 30, 31, 32, 33, 34, 35, 36, 37, 38, 39, 40, 41, 42, 43, 44, 45, 46, 47, 48, 49, 50, 51, 52, 53, 54, 55, 56, 57, 58, 59, 60, 61, 62, 63, 64, 65, 66, 67, 68, 69, 70, 71, 72, 73, 74, 75, 76, 77, 78, 79, 80, 81, 82, 83, 84, 85, 86, 87, 88, 89, 90, 91, 92, 93, 94, 95, 96, 97, 98, 99, 100, 101, 102, 103, 104, 105, 106, 107, 108, 109, 110, 111, 112, 113, 114, 115, 116, 117, 118, 119, 120, 121, 122, 123, 124, 125, 126, 127, 128, 129, 130, 131, 132, 133, 134, 135, 136, 137, 138, 139, 140, 141, 142, 143, 144, 145, 146, 147, 148, 149, 150, 151, 152, 153, 154, 155] (by decide +kernel) (by decide +kernel)) (goodIn_sub (fun _ h => List.mem_cons_of_mem _ (List.mem_append_right _ h)) (by decide +kernel))
set_option maxRecDepth 20000 in
theorem gL_trySimulate_X5_simulate : GoodIn wsL_trySimulate (wsV RL 88 RX5 yX5_simulate wsX5_simulate) := goodIn_app (goodIn_of _ (by decide +kernel)) ggL_trySimulate_X5_simulate
theorem dL_trySimulate_0 : decode cL_trySimulate 0 = .ok (.aload_n 0, 1) := by decide +kernel
theorem dL_trySimulate_1 : decode cL_trySimulate 1 = .ok (.lload_n 1, 1) := by decide +kernel
theorem dL_trySimulate_2 : decode cL_trySimulate 2 = .ok (.iload_n 3, 1) := by decide +kernel
theorem dL_trySimulate_3 : decode cL_trySimulate 3 = .ok (.invokevirtual 88, 3) := by decide +kernel
theorem dL_trySimulate_6 : decode cL_trySimulate 6 = .ok (.ireturn, 1) := by decide +kernel
theorem dL_trySimulate_7 : decode cL_trySimulate 7 = .ok (.astore 4, 2) := by decide +kernel
theorem dL_trySimulate_9 : decode cL_trySimulate 9 = .ok (.ldc 15, 2) := by decide +kernel
theorem dL_trySimulate_11 : decode cL_trySimulate 11 = .ok (.ireturn, 1) := by decide +kernel
set_option maxRecDepth 20000 in
theorem ggL_trySave_X5_save : GoodIn wsL_trySave wsX5_save := goodIn_ca (goodIn_r _ [7, 8, 9, 10, 11, 12, 13, 6, 14, 15, 16, 17, 18, 19, 20, 21, 22, 23, 24, 25, 26, 27, 28, 29, 30, 31, 32, 33, 34, 35, 36, 37, 38, 39, 40, 41, 42, 43, 44, 45, 46, 47, 48, 49, 50, 51, 52, 53, 54, 55, 56, 57] (by decide +kernel) (by decide +kernel)) (goodIn_sub (fun _ h => List.mem_cons_of_mem _ (List.mem_append_right _ h)) (by decide +kernel))
set_option maxRecDepth 20000 in
theorem gL_trySave_X5_save : GoodIn wsL_trySave (wsV RL 92 RX5 yX5_save wsX5_save) := goodIn_app (goodIn_of _ (by decide +kernel)) ggL_trySave_X5_save
theorem dL_trySave_0 : decode cL_trySave 0 = .ok (.aload_n 0, 1) := by decide +kernel
theorem dL_trySave_1 : decode cL_trySave 1 = .ok (.iload_n 1, 1) := by decide +kernel
theorem dL_trySave_2 : decode cL_trySave 2 = .ok (.invokevirtual 92, 3) := by decide +kernel
theorem dL_trySave_5 : decode cL_trySave 5 = .ok (.ireturn, 1) := by decide +kernel
theorem dL_trySave_6 : decode cL_trySave 6 = .ok (.astore_n 2, 1) := by decide +kernel
theorem dL_trySave_7 : decode cL_trySave 7 = .ok (.ldc 32, 2) := by decide +kernel
theorem dL_trySave_9 : decode cL_trySave 9 = .ok (.ireturn, 1) := by decide +kernel
set_option maxRecDepth 20000 in
theorem ggL_tryRestore_X5_restore : GoodIn wsL_tryRestore wsX5_restore := goodIn_ca (goodIn_ca (goodIn_r _ [9, 10, 11, 12, 13, 14, 15, 16, 17, 18, 8, 19, 20, 21, 22, 23, 24, 25, 26, 27, 28, 29, 30, 31, 32, 33, 34, 35, 36, 37, 38, 39, 40, 41, 42, 43, 44, 45, 46, 47, 48, 49, 50, 51, 52, 53, 54, 55, 56, 57, 58, 59, 60, 61, 62, 63, 64, 65, 66, 67, 68, 69, 70, 71] (by decide +kernel) (by decide +kernel)) (goodIn_sub (fun _ h => List.mem_cons_of_mem _ (List.mem_append_left _ (List.mem_append_right _ h))) (by decide +kernel))) (goodIn_sub (fun _ h => List.mem_cons_of_mem _ (List.mem_append_right _ h)) (by decide +kernel))
set_option maxRecDepth 20000 in
theorem gL_tryRestore_X5_restore : GoodIn wsL_tryRestore (wsV RL 95 RX5 yX5_restore wsX5_restore) := goodIn_app (goodIn_of _ (by decide +kernel)) ggL_tryRestore_X5_restore
theorem dL_tryRestore_0 : decode cL_tryRestore 0 = .ok (.aload_n 0, 1) := by decide +kernel
theorem dL_tryRestore_1 : decode cL_tryRestore 1 = .ok (.iload_n 1, 1) := by decide +kernel
theorem dL_tryRestore_2 : decode cL_tryRestore 2 = .ok (.invokevirtual 95, 3) := by decide +kernel
theorem dL_tryRestore_5 : decode cL_tryRestore 5 = .ok (.ireturn, 1) := by decide +kernel
theorem dL_tryRestore_6 : decode cL_tryRestore 6 = .ok (.astore_n 2, 1) := by decide +kernel
theorem dL_tryRestore_7 : decode cL_tryRestore 7 = .ok (.ldc 32, 2) := by decide +kernel
theorem dL_tryRestore_9 : decode cL_tryRestore 9 = .ok (.ireturn, 1) := by decide +kernel
theorem dL_tryRestore_10 : decode cL_tryRestore 10 = .ok (.astore_n 2, 1) := by decide +kernel
theorem dL_tryRestore_11 : decode cL_tryRestore 11 = .ok (.ldc 18, 2) := by decide +kernel
theorem dL_tryRestore_13 : decode cL_tryRestore 13 = .ok (.ireturn, 1) := by decide +kernel
theorem dL_number_0 : decode cL_number 0 = .ok (.iload_n 1, 1) := by decide +kernel
theorem dL_number_1 : decode cL_number 1 = .ok (.aload_n 0, 1) := by decide +kernel
theorem dL_number_2 : decode cL_number 2 = .ok (.arraylength, 1) := by decide +kernel
theorem dL_number_3 : decode cL_number 3 = .ok (.if_icmp .ge 9, 3) := by decide +kernel
theorem dL_number_6 : decode cL_number 6 = .ok (.aload_n 0, 1) := by decide +kernel
theorem dL_number_7 : decode cL_number 7 = .ok (.iload_n 1, 1) := by decide +kernel
theorem dL_number_8 : decode cL_number 8 = .ok (.iaload, 1) := by decide +kernel
theorem dL_number_9 : decode cL_number 9 = .ok (.goto 13, 3) := by decide +kernel
theorem dL_number_12 : decode cL_number 12 = .ok (.ldc 98, 2) := by decide +kernel
theorem dL_number_14 : decode cL_number 14 = .ok (.iload_n 1, 1) := by decide +kernel
theorem dL_number_15 : decode cL_number 15 = .ok (.iconst 5, 1) := by decide +kernel
theorem dL_number_16 : decode cL_number 16 = .ok (.iadd, 1) := by decide +kernel
theorem dL_number_17 : decode cL_number 17 = .ok (.imul, 1) := by decide +kernel
theorem dL_number_18 : decode cL_number 18 = .ok (.sipush 10091, 3) := by decide +kernel
theorem dL_number_21 : decode cL_number 21 = .ok (.iadd, 1) := by decide +kernel
theorem dL_number_22 : decode cL_number 22 = .ok (.ldc 99, 2) := by decide +kernel
theorem dL_number_24 : decode cL_number 24 = .ok (.iand, 1) := by decide +kernel
theorem dL_number_25 : decode cL_number 25 = .ok (.ireturn, 1) := by decide +kernel
set_option maxRecDepth 20000 in
theorem ggL_put_L_tryAppend : GoodIn wsL_put wsL_tryAppend := goodIn_ca (goodIn_ca (goodIn_r _ [4, 5, 6, 7, 8, 9, 10, 11, 12, 13, 14, 15, 16, 17, 18, 19, 20, 21, 22, 23, 24, 25, 26, 27, 28, 29, 30, 31, 32, 33, 34, 35, 36, 37, 38] (by decide +kernel) (by decide +kernel)) (goodIn_sub (fun _ h => List.mem_cons_of_mem _ (List.mem_append_left _ (List.mem_append_right _ h))) (by decide +kernel))) (goodIn_sub (fun _ h => List.mem_cons_of_mem _ (List.mem_append_right _ h)) (by decide +kernel))
set_option maxRecDepth 20000 in
theorem gL_put_L_tryAppend : GoodIn wsL_put (va_wsS RL 100 yL_tryAppend wsL_tryAppend) := goodIn_app (goodIn_of _ (by decide +kernel)) ggL_put_L_tryAppend
theorem dL_put_0 : decode cL_put 0 = .ok (.aload_n 0, 1) := by decide +kernel
theorem dL_put_1 : decode cL_put 1 = .ok (.iload_n 2, 1) := by decide +kernel
theorem dL_put_2 : decode cL_put 2 = .ok (.invokestatic 100, 3) := by decide +kernel
theorem dL_put_5 : decode cL_put 5 = .ok (.ifCond .le 15, 3) := by decide +kernel
theorem dL_put_8 : decode cL_put 8 = .ok (.aload_n 1, 1) := by decide +kernel
theorem dL_put_9 : decode cL_put 9 = .ok (.iload_n 2, 1) := by decide +kernel
theorem dL_put_10 : decode cL_put 10 = .ok (.invokestatic 100, 3) := by decide +kernel
theorem dL_put_13 : decode cL_put 13 = .ok (.ifCond .le 7, 3) := by decide +kernel
theorem dL_put_16 : decode cL_put 16 = .ok (.iconst 1, 1) := by decide +kernel
theorem dL_put_17 : decode cL_put 17 = .ok (.goto 4, 3) := by decide +kernel
theorem dL_put_20 : decode cL_put 20 = .ok (.iconst 0, 1) := by decide +kernel
theorem dL_put_21 : decode cL_put 21 = .ok (.ireturn, 1) := by decide +kernel
set_option maxRecDepth 20000 in
theorem ggL_told_L_number : GoodIn wsL_told wsL_number := goodIn_r _ [7, 8, 9] (by decide +kernel) (by decide +kernel)
set_option maxRecDepth 20000 in
theorem gL_told_L_number : GoodIn wsL_told (va_wsS RL 106 yL_number wsL_number) := goodIn_app (goodIn_of _ (by decide +kernel)) ggL_told_L_number
set_option maxRecDepth 20000 in
theorem ggL_told_X5_clearText : GoodIn wsL_told wsX5_clearText := goodIn_r _ [14, 15, 16, 244, 245, 246, 247, 248, 249, 250, 251, 252] (by decide +kernel) (by decide +kernel)
set_option maxRecDepth 20000 in
theorem gL_told_X5_clearText : GoodIn wsL_told (wsV RL 110 RX5 yX5_clearText wsX5_clearText) := goodIn_app (goodIn_of _ (by decide +kernel)) ggL_told_X5_clearText
set_option maxRecDepth 20000 in
theorem ggL_told_L_put : GoodIn wsL_told wsL_put := goodIn_ca (goodIn_ca (goodIn_r _ [19, 20, 21, 6, 22, 23, 24, 25, 3, 26, 27, 28, 13, 29, 30, 31, 15, 16, 32, 33, 34, 35, 36, 37, 38, 39, 40, 41, 42, 43, 244, 245, 246, 247, 248, 249, 250, 251, 252] (by decide +kernel) (by decide +kernel)) (goodIn_sub (fun _ h => List.mem_cons_of_mem _ (List.mem_append_left _ (List.mem_append_left _ (List.mem_append_right _ h)))) (by decide +kernel))) (goodIn_sub (fun _ h => List.mem_cons_of_mem _ (List.mem_append_left _ (List.mem_append_right _ h))) (by decide +kernel))
set_option maxRecDepth 20000 in
theorem gL_told_L_put : GoodIn wsL_told (va_wsS RL 113 yL_put wsL_put) := goodIn_app (goodIn_of _ (by decide +kernel)) ggL_told_L_put
set_option maxRecDepth 20000 in
theorem ggL_told_X5_errorPosition : GoodIn wsL_told wsX5_errorPosition := goodIn_r _ [47, 15, 48, 49, 50, 40, 51, 42, 43, 52, 53, 54, 55, 56, 57, 58, 59, 244, 245, 246, 247, 248, 249, 250, 251, 252] (by decide +kernel) (by decide +kernel)
set_option maxRecDepth 20000 in
theorem gL_told_X5_errorPosition : GoodIn wsL_told (wsV RL 117 RX5 yX5_errorPosition wsX5_errorPosition) := goodIn_app (goodIn_of _ (by decide +kernel)) ggL_told_X5_errorPosition
set_option maxRecDepth 20000 in
theorem ggL_told_L_tryLoad : GoodIn wsL_told wsL_tryLoad := goodIn_ca (goodIn_r _ [62, 24, 3, 63, 64, 65, 13, 66, 30, 31, 15, 67, 68, 69, 70, 48, 49, 50, 40, 51, 42, 43, 52, 53, 54, 55, 56, 57, 58, 59, 71, 72, 73, 74, 75, 76, 77, 78, 79, 80, 81, 82, 83, 84, 85, 86, 87, 88, 89, 90, 91, 92, 93, 94, 95, 96, 97, 98, 99, 100, 101, 102, 103, 104, 105, 244, 245, 246, 247, 248, 249, 250, 253, 254, 255, 251, 252, 256, 257, 258, 259, 260, 261, 262, 263, 264, 265] (by decide +kernel) (by decide +kernel)) (goodIn_sub (fun _ h => List.mem_cons_of_mem _ (List.mem_append_left _ (List.mem_append_left _ (List.mem_append_right _ h)))) (by decide +kernel))
set_option maxRecDepth 20000 in
theorem gL_told_L_tryLoad : GoodIn wsL_told (va_wsS RL 122 yL_tryLoad wsL_tryLoad) := goodIn_app (goodIn_of _ (by decide +kernel)) ggL_told_L_tryLoad
set_option maxRecDepth 20000 in
theorem ggL_told_L_tryAbout : GoodIn wsL_told wsL_tryAbout := goodIn_ca (goodIn_r _ [108, 23, 25, 109, 110, 111, 13, 112, 35, 36, 67, 70, 113, 114, 115, 116, 84, 117, 86, 118, 119, 120, 121, 87, 122, 123, 124, 125, 126, 127, 128, 129, 130, 131, 132, 133, 134, 135, 136, 137, 138, 139, 140, 141, 142, 143, 144, 145, 146, 147, 148, 149, 150, 151, 152, 153, 154, 155, 156, 157, 158, 159, 160, 161, 162, 163, 164, 165, 166, 167, 168, 169, 170, 171, 172, 173, 174, 175, 176, 177, 178, 244, 245, 246, 247, 248, 249, 250, 253, 254, 255, 256, 257, 258, 259, 260, 261, 262] (by decide +kernel) (by decide +kernel)) (goodIn_sub (fun _ h => List.mem_cons_of_mem _ (List.mem_append_left _ (List.mem_append_right _ h))) (by decide +kernel))
set_option maxRecDepth 20000 in
theorem gL_told_L_tryAbout : GoodIn wsL_told (va_wsS RL 126 yL_tryAbout wsL_tryAbout) := goodIn_app (goodIn_of _ (by decide +kernel)) ggL_told_L_tryAbout
set_option maxRecDepth 20000 in
theorem ggL_told_L_tryMember : GoodIn wsL_told wsL_tryMember := goodIn_ca (goodIn_ca (goodIn_r _ [181, 182, 23, 183, 25, 184, 185, 186, 13, 187, 67, 188, 189, 190, 191, 192, 193, 194, 124, 125, 84, 126, 86, 32, 33, 34, 35, 36, 195, 196, 197, 198, 87, 146, 145, 199, 140, 139, 122, 200, 201, 202, 203, 204, 175, 176, 177, 178, 159, 160, 161, 162, 141, 142, 143, 144, 244, 245, 246, 247, 248, 249, 250, 253, 254, 255, 256, 257, 258, 259, 260, 261, 262] (by decide +kernel) (by decide +kernel)) (goodIn_sub (fun _ h => List.mem_cons_of_mem _ (List.mem_append_right _ h)) (by decide +kernel))) (goodIn_sub (fun _ h => List.mem_cons_of_mem _ (List.mem_append_left _ (List.mem_append_right _ h))) (by decide +kernel))
set_option maxRecDepth 20000 in
theorem gL_told_L_tryMember : GoodIn wsL_told (va_wsS RL 129 yL_tryMember wsL_tryMember) := goodIn_app (goodIn_of _ (by decide +kernel)) ggL_told_L_tryMember
set_option maxRecDepth 20000 in
theorem ggL_told_L_tryUndo : GoodIn wsL_told wsL_tryUndo := goodIn_ca (goodIn_r _ [207, 24, 3, 208, 209, 210, 13, 211, 30, 31, 68, 212, 67, 213, 214, 215, 103, 216, 105, 217, 218, 219, 220, 221, 84, 222, 86, 87, 223, 224, 225, 226, 91, 227, 93, 228, 229, 230, 231, 94, 95, 96, 97, 98, 99, 244, 245, 246, 247, 248, 249, 250, 263, 264, 265, 253, 254, 255, 256, 257, 258, 259, 260, 261, 262] (by decide +kernel) (by decide +kernel)) (goodIn_sub (fun _ h => List.mem_cons_of_mem _ (List.mem_append_left _ (List.mem_append_left _ (List.mem_append_right _ h)))) (by decide +kernel))
set_option maxRecDepth 20000 in
theorem gL_told_L_tryUndo : GoodIn wsL_told (va_wsS RL 133 yL_tryUndo wsL_tryUndo) := goodIn_app (goodIn_of _ (by decide +kernel)) ggL_told_L_tryUndo
set_option maxRecDepth 20000 in
theorem ggL_told_L_tryRestore : GoodIn wsL_told wsL_tryRestore := goodIn_ca (goodIn_ca (goodIn_r _ [234, 182, 24, 183, 3, 235, 236, 237, 13, 238, 30, 31, 69, 67, 239, 68, 113, 240, 241, 242, 192, 193, 243, 220, 221, 84, 222, 86, 87, 223, 224, 225, 226, 91, 227, 93, 228, 229, 230, 231, 94, 95, 96, 97, 98, 99, 100, 101, 102, 103, 104, 105, 244, 245, 246, 247, 248, 249, 250, 253, 254, 255, 256, 257, 258, 259, 260, 261, 262, 263, 264, 265] (by decide +kernel) (by decide +kernel)) (goodIn_sub (fun _ h => List.mem_cons_of_mem _ (List.mem_append_left _ (List.mem_append_left _ (List.mem_append_right _ h)))) (by decide +kernel))) (goodIn_sub (fun _ h => List.mem_cons_of_mem _ (List.mem_append_right _ h)) (by decide +kernel))
set_option maxRecDepth 20000 in
theorem gL_told_L_tryRestore : GoodIn wsL_told (va_wsS RL 136 yL_tryRestore wsL_tryRestore) := goodIn_app (goodIn_of _ (by decide +kernel)) ggL_told_L_tryRestore
