set_option maxRecDepth 20000 in
theorem ggL_law_L_tryAbout : GoodIn wsL_law wsL_tryAbout := goodIn_ca (goodIn_r _ [79, 80, 81, 82, 83, 84, 2, 85, 86, 87, 17, 88, 89, 90, 91, 92, 16, 93, 94, 95, 96, 97, 98, 40, 99, 100, 101, 102, 103, 104, 105, 106, 107, 108, 109, 110, 111, 112, 113, 114, 115, 116, 117, 118, 119, 120, 121, 122, 123, 124, 125, 126, 127, 128, 129, 130, 131, 132, 133, 134, 135, 136, 137, 138, 139, 140, 141, 142, 143, 144, 145, 146, 147, 148, 149, 150, 151, 152, 153, 154, 155, 628, 629, 630, 631, 632, 633, 634, 637, 638, 639, 644, 645, 646, 647, 648, 649, 650] rfl (by decide +kernel)) (goodIn_sub (fun _ h => List.mem_append_left _ (List.mem_append_left _ (List.mem_append_right _ h))) (by decide +kernel))
set_option maxRecDepth 20000 in
theorem gL_law_L_tryAbout : GoodIn wsL_law (va_wsS RL 126 yL_tryAbout wsL_tryAbout) := goodIn_app (goodIn_of _ (by decide +kernel)) ggL_law_L_tryAbout
set_option maxRecDepth 20000 in
theorem ggL_law_X5_missedMost : GoodIn wsL_law wsX5_missedMost := goodIn_r _ [159, 29, 17, 88, 160, 161, 162, 28, 163, 58, 164, 165, 166, 167, 168, 169, 170, 171, 172, 173, 174, 137, 138, 16, 139, 118, 119, 120, 121, 40, 122, 123, 175, 109, 110, 111, 112, 113, 114, 115, 116, 117, 124, 125, 126, 127, 176, 177, 178, 179, 628, 629, 630, 631, 632, 633, 634, 637, 638, 639, 643, 644, 645, 646, 647, 648, 649, 650] rfl (by decide +kernel)
set_option maxRecDepth 20000 in
theorem gL_law_X5_missedMost : GoodIn wsL_law (wsV RL 203 RX5 yX5_missedMost wsX5_missedMost) := goodIn_app (goodIn_of _ (by decide +kernel)) ggL_law_X5_missedMost
set_option maxRecDepth 20000 in
theorem ggL_law_L_tryUndo : GoodIn wsL_law wsL_tryUndo := goodIn_ca (goodIn_r _ [182, 183, 3, 184, 185, 186, 2, 187, 188, 189, 22, 190, 17, 191, 192, 193, 21, 194, 195, 53, 196, 197, 198, 199, 16, 200, 94, 40, 201, 202, 203, 204, 42, 205, 47, 206, 207, 208, 209, 210, 211, 212, 213, 214, 215, 628, 629, 630, 631, 632, 633, 634, 640, 641, 642, 637, 638, 639, 644, 645, 646, 647, 648, 649, 650] rfl (by decide +kernel)) (goodIn_sub (fun _ h => List.mem_append_left _ (List.mem_append_right _ h)) (by decide +kernel))
set_option maxRecDepth 20000 in
theorem gL_law_L_tryUndo : GoodIn wsL_law (va_wsS RL 133 yL_tryUndo wsL_tryUndo) := goodIn_app (goodIn_of _ (by decide +kernel)) ggL_law_L_tryUndo
