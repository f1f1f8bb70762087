set_option maxRecDepth 20000 in
theorem ggL_law_X2_init : GoodIn wsL_law wsX2_init := goodIn_r _ [9, 10, 11, 12, 13, 14, 15, 16, 17, 18, 19, 20, 21, 22, 23, 24, 25, 26, 27, 28, 29, 30, 31, 32, 33, 34, 35, 36, 37, 38, 39, 40, 41, 42, 43, 44, 45, 46, 47, 48, 49, 50, 495, 496, 497, 498, 499, 500, 501, 502, 503, 504, 505, 506, 507, 508, 459, 460, 461, 462, 463, 464, 465, 466, 467, 468, 469, 470, 509, 510, 511] (by decide +kernel) (by decide +kernel)
set_option maxRecDepth 20000 in
theorem gL_law_X2_init : GoodIn wsL_law (wsX2_init) := ggL_law_X2_init
set_option maxRecDepth 20000 in
theorem ggL_law_X3_init : GoodIn wsL_law wsX3_init := goodIn_r _ [53, 54, 11, 12, 21, 55, 56, 57, 34, 58, 59, 60, 61, 62, 63, 64, 65, 66, 67, 68, 69, 70, 471, 472, 473, 474, 475, 476, 477, 478, 479, 480, 481, 482, 483, 484, 485, 486, 487, 488, 489, 490, 491, 492, 493, 494] (by decide +kernel) (by decide +kernel)
set_option maxRecDepth 20000 in
theorem gL_law_X3_init : GoodIn wsL_law (wsX3_init) := ggL_law_X3_init
set_option maxRecDepth 20000 in
theorem ggL_law_L_piece : GoodIn wsL_law wsL_piece := goodIn_ca (goodIn_ca (goodIn_r _ [74, 75, 76, 77, 78, 79, 2, 80, 81, 82, 83, 84, 16, 85, 86, 15, 87, 88, 89, 31, 32, 33, 35, 459, 460, 461, 462, 463, 464, 465, 466, 467, 468, 469, 470, 495, 496, 497, 498, 499, 500, 501, 502, 503, 504, 505, 506, 507, 508] (by decide +kernel) (by decide +kernel)) (goodIn_sub (fun _ h => List.mem_append_left _ (List.mem_append_left _ (List.mem_append_right _ h))) (by decide +kernel))) (goodIn_sub (fun _ h => List.mem_append_left _ (List.mem_append_right _ h)) (by decide +kernel))
set_option maxRecDepth 20000 in
theorem gL_law_L_piece : GoodIn wsL_law (va_wsS RL 72 yL_piece wsL_piece) := goodIn_app (goodIn_of _ (by decide +kernel)) ggL_law_L_piece
set_option maxRecDepth 20000 in
theorem ggL_law_X3_piece : GoodIn wsL_law wsX3_piece := goodIn_r _ [93, 94, 95, 55, 56, 57, 58, 96, 97, 98, 5, 99, 471, 472, 473, 474, 475, 476, 477, 478, 479, 480, 481, 482, 483, 484, 485, 486, 487, 488, 489, 490, 491, 492, 493, 494] (by decide +kernel) (by decide +kernel)
set_option maxRecDepth 20000 in
theorem gL_law_X3_piece : GoodIn wsL_law (wsV RL 77 RX3 yX3_piece wsX3_piece) := goodIn_app (goodIn_of _ (by decide +kernel)) ggL_law_X3_piece
set_option maxRecDepth 20000 in
theorem ggL_law_X3_thrown : GoodIn wsL_law wsX3_thrown := goodIn_r _ [103, 95, 471, 472, 473, 474, 475, 476, 477, 478, 479, 480, 481, 482, 483, 484, 485, 486, 487, 488, 489, 490, 491, 492, 493, 494] (by decide +kernel) (by decide +kernel)
set_option maxRecDepth 20000 in
theorem gL_law_X3_thrown : GoodIn wsL_law (wsV RL 78 RX3 yX3_thrown wsX3_thrown) := goodIn_app (goodIn_of _ (by decide +kernel)) ggL_law_X3_thrown
set_option maxRecDepth 20000 in
theorem ggL_law_L_join : GoodIn wsL_law wsL_join := goodIn_ca (goodIn_ca (goodIn_r _ [106, 75, 76, 107, 108, 109, 2, 110, 81, 82, 16, 111, 112, 113, 114, 115, 116, 117, 118, 119, 120, 121, 83, 84, 85, 122, 15, 123, 124, 125, 126, 127, 128, 129, 38, 39, 40, 43, 44, 459, 460, 461, 462, 463, 464, 465, 466, 467, 468, 469, 470, 495, 496, 497, 498, 499, 500, 501, 502, 503, 504, 505, 506, 507, 508] (by decide +kernel) (by decide +kernel)) (goodIn_sub (fun _ h => List.mem_append_left _ (List.mem_append_left _ (List.mem_append_right _ h))) (by decide +kernel))) (goodIn_sub (fun _ h => List.mem_append_left _ (List.mem_append_right _ h)) (by decide +kernel))
set_option maxRecDepth 20000 in
theorem gL_law_L_join : GoodIn wsL_law (va_wsS RL 82 yL_join wsL_join) := goodIn_app (goodIn_of _ (by decide +kernel)) ggL_law_L_join
set_option maxRecDepth 20000 in
theorem ggL_law_X3_join : GoodIn wsL_law wsX3_join := goodIn_r _ [133, 55, 134, 95, 135, 136, 137, 5, 138, 94, 97, 98, 99, 139, 140, 141, 142, 61, 62, 63, 96, 471, 472, 473, 474, 475, 476, 477, 478, 479, 480, 481, 482, 483, 484, 485, 486, 487, 488, 489, 490, 491, 492, 493, 494] (by decide +kernel) (by decide +kernel)
set_option maxRecDepth 20000 in
theorem gL_law_X3_join : GoodIn wsL_law (wsV RL 85 RX3 yX3_join wsX3_join) := goodIn_app (goodIn_of _ (by decide +kernel)) ggL_law_X3_join
set_option maxRecDepth 20000 in
theorem ggL_law_L_lift : GoodIn wsL_law wsL_lift := goodIn_ca (goodIn_ca (goodIn_r _ [145, 75, 76, 146, 147, 148, 2, 149, 81, 82, 16, 111, 112, 113, 114, 118, 119, 120, 121, 83, 84, 85, 122, 15, 123, 124, 125, 126, 127, 128, 129, 38, 39, 40, 43, 44, 459, 460, 461, 462, 463, 464, 465, 466, 467, 468, 469, 470, 495, 496, 497, 498, 499, 500, 501, 502, 503, 504, 505, 506, 507, 508] (by decide +kernel) (by decide +kernel)) (goodIn_sub (fun _ h => List.mem_append_left _ (List.mem_append_left _ (List.mem_append_right _ h))) (by decide +kernel))) (goodIn_sub (fun _ h => List.mem_append_left _ (List.mem_append_right _ h)) (by decide +kernel))
set_option maxRecDepth 20000 in
theorem gL_law_L_lift : GoodIn wsL_law (va_wsS RL 86 yL_lift wsL_lift) := goodIn_app (goodIn_of _ (by decide +kernel)) ggL_law_L_lift
set_option maxRecDepth 20000 in
theorem ggL_law_X3_lift : GoodIn wsL_law wsX3_lift := goodIn_r _ [153, 55, 134, 95, 135, 136, 137, 5, 138, 94, 97, 98, 99, 139, 140, 141, 142, 61, 62, 63, 96, 471, 472, 473, 474, 475, 476, 477, 478, 479, 480, 481, 482, 483, 484, 485, 486, 487, 488, 489, 490, 491, 492, 493, 494] (by decide +kernel) (by decide +kernel)
set_option maxRecDepth 20000 in
theorem gL_law_X3_lift : GoodIn wsL_law (wsV RL 89 RX3 yX3_lift wsX3_lift) := goodIn_app (goodIn_of _ (by decide +kernel)) ggL_law_X3_lift
set_option maxRecDepth 20000 in
theorem ggL_law_L_turn : GoodIn wsL_law wsL_turn := goodIn_ca (goodIn_r _ [156, 75, 157, 158, 159, 2, 160, 81, 82, 16, 85, 115, 116, 117, 161, 15, 162, 163, 41, 459, 460, 461, 462, 463, 464, 465, 466, 467, 468, 469, 470, 495, 496, 497, 498, 499, 500, 501, 502, 503, 504, 505, 506, 507, 508] (by decide +kernel) (by decide +kernel)) (goodIn_sub (fun _ h => List.mem_append_left _ (List.mem_append_left _ (List.mem_append_right _ h))) (by decide +kernel))
set_option maxRecDepth 20000 in
theorem gL_law_L_turn : GoodIn wsL_law (va_wsS RL 90 yL_turn wsL_turn) := goodIn_app (goodIn_of _ (by decide +kernel)) ggL_law_L_turn
set_option maxRecDepth 20000 in
theorem ggL_law_X3_turn : GoodIn wsL_law wsX3_turn := goodIn_r _ [167, 134, 95, 64, 96, 97, 98, 5, 99, 168, 169, 170, 171, 172, 173, 471, 472, 473, 474, 475, 476, 477, 478, 479, 480, 481, 482, 483, 484, 485, 486, 487, 488, 489, 490, 491, 492, 493, 494] (by decide +kernel) (by decide +kernel)
set_option maxRecDepth 20000 in
theorem gL_law_X3_turn : GoodIn wsL_law (wsV RL 92 RX3 yX3_turn wsX3_turn) := goodIn_app (goodIn_of _ (by decide +kernel)) ggL_law_X3_turn
set_option maxRecDepth 20000 in
theorem ggL_law_L_width : GoodIn wsL_law wsL_width := goodIn_ca (goodIn_r _ [176, 75, 177, 178, 179, 2, 180, 85, 16, 111, 112, 113, 114, 81, 82, 181, 182, 183, 459, 460, 461, 462, 463, 464, 465, 466, 467, 468, 469, 470, 495, 496, 497, 498, 499, 500, 501, 502, 503, 504, 505, 506, 507, 508] (by decide +kernel) (by decide +kernel)) (goodIn_sub (fun _ h => List.mem_append_left _ (List.mem_append_left _ (List.mem_append_right _ h))) (by decide +kernel))
set_option maxRecDepth 20000 in
theorem gL_law_L_width : GoodIn wsL_law (va_wsS RL 93 yL_width wsL_width) := goodIn_app (goodIn_of _ (by decide +kernel)) ggL_law_L_width
set_option maxRecDepth 20000 in
theorem ggL_law_X3_width : GoodIn wsL_law wsX3_width := goodIn_r _ [187, 95, 57, 96, 135, 136, 137, 5, 138, 94, 97, 98, 99, 471, 472, 473, 474, 475, 476, 477, 478, 479, 480, 481, 482, 483, 484, 485, 486, 487, 488, 489, 490, 491, 492, 493, 494] (by decide +kernel) (by decide +kernel)
set_option maxRecDepth 20000 in
theorem gL_law_X3_width : GoodIn wsL_law (wsV RL 96 RX3 yX3_width wsX3_width) := goodIn_app (goodIn_of _ (by decide +kernel)) ggL_law_X3_width
