set_option maxRecDepth 20000 in
theorem ggL_hands_L_trySave : GoodIn wsL_hands wsL_trySave := goodIn_ca (goodIn_r _ [185, 186, 187, 188, 189, 190, 11, 191, 192, 15, 193, 17, 194, 195, 196, 197, 198, 199, 127, 128, 21, 129, 23, 28, 130, 131, 132, 133, 134, 135, 136, 137, 138, 139, 140, 141, 142, 143, 144, 145, 146, 409, 410, 411, 412, 413, 414, 415, 416, 417, 418, 419, 420, 421, 422, 423, 424, 425] (by decide +kernel) (by decide +kernel)) (goodIn_sub (fun _ h => List.mem_cons_of_mem _ (List.mem_append_right _ h)) (by decide +kernel))
set_option maxRecDepth 20000 in
theorem gL_hands_L_trySave : GoodIn wsL_hands (va_wsS RL 197 yL_trySave wsL_trySave) := goodIn_app (goodIn_of _ (by decide +kernel)) ggL_hands_L_trySave
