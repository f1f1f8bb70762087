set_option maxRecDepth 20000 in
theorem ggL_law_L_zone : GoodIn wsL_law wsL_zone := goodIn_ca (goodIn_r _ [190, 75, 191, 192, 193, 2, 194, 85, 16, 111, 112, 113, 114, 81, 82, 195, 196, 197, 198, 15, 199, 200, 37, 201, 202, 203, 204, 205, 206, 207, 459, 460, 461, 462, 463, 464, 465, 466, 467, 468, 469, 470, 495, 496, 497, 498, 499, 500, 501, 502, 503, 504, 505, 506, 507, 508] (by decide +kernel) (by decide +kernel)) (goodIn_sub (fun _ h => List.mem_append_left _ (List.mem_append_left _ (List.mem_append_right _ h))) (by decide +kernel))
set_option maxRecDepth 20000 in
theorem gL_law_L_zone : GoodIn wsL_law (va_wsS RL 97 yL_zone wsL_zone) := goodIn_app (goodIn_of _ (by decide +kernel)) ggL_law_L_zone
set_option maxRecDepth 20000 in
theorem ggL_law_X3_zone : GoodIn wsL_law wsX3_zone := goodIn_r _ [211, 95, 60, 96, 135, 136, 137, 5, 138, 94, 97, 98, 99, 168, 169, 170, 171, 172, 173, 471, 472, 473, 474, 475, 476, 477, 478, 479, 480, 481, 482, 483, 484, 485, 486, 487, 488, 489, 490, 491, 492, 493, 494] (by decide +kernel) (by decide +kernel)
set_option maxRecDepth 20000 in
theorem gL_law_X3_zone : GoodIn wsL_law (wsV RL 99 RX3 yX3_zone wsX3_zone) := goodIn_app (goodIn_of _ (by decide +kernel)) ggL_law_X3_zone
set_option maxRecDepth 20000 in
theorem ggL_law_L_closed : GoodIn wsL_law wsL_closed := goodIn_ca (goodIn_r _ [214, 75, 215, 216, 217, 2, 218, 85, 16, 111, 112, 113, 114, 81, 82, 219, 15, 220, 221, 89, 36, 459, 460, 461, 462, 463, 464, 465, 466, 467, 468, 469, 470, 495, 496, 497, 498, 499, 500, 501, 502, 503, 504, 505, 506, 507, 508] (by decide +kernel) (by decide +kernel)) (goodIn_sub (fun _ h => List.mem_append_left _ (List.mem_append_left _ (List.mem_append_right _ h))) (by decide +kernel))
set_option maxRecDepth 20000 in
theorem gL_law_L_closed : GoodIn wsL_law (va_wsS RL 100 yL_closed wsL_closed) := goodIn_app (goodIn_of _ (by decide +kernel)) ggL_law_L_closed
set_option maxRecDepth 20000 in
theorem ggL_law_X3_closed : GoodIn wsL_law wsX3_closed := goodIn_r _ [225, 95, 59, 96, 94, 135, 136, 137, 5, 138, 97, 98, 99, 471, 472, 473, 474, 475, 476, 477, 478, 479, 480, 481, 482, 483, 484, 485, 486, 487, 488, 489, 490, 491, 492, 493, 494] (by decide +kernel) (by decide +kernel)
set_option maxRecDepth 20000 in
theorem gL_law_X3_closed : GoodIn wsL_law (wsV RL 103 RX3 yX3_closed wsX3_closed) := goodIn_app (goodIn_of _ (by decide +kernel)) ggL_law_X3_closed
set_option maxRecDepth 20000 in
theorem ggL_law_L_robot : GoodIn wsL_law wsL_robot := goodIn_ca (goodIn_ca (goodIn_r _ [228, 75, 76, 229, 230, 231, 2, 232, 83, 84, 233, 16, 85, 22, 181, 182, 183, 81, 82, 234, 15, 235, 236, 89, 33, 459, 460, 461, 462, 463, 464, 465, 466, 467, 468, 469, 470, 495, 496, 497, 498, 499, 500, 501, 502, 503, 504, 505, 506, 507, 508] (by decide +kernel) (by decide +kernel)) (goodIn_sub (fun _ h => List.mem_append_left _ (List.mem_append_right _ h)) (by decide +kernel))) (goodIn_sub (fun _ h => List.mem_append_left _ (List.mem_append_left _ (List.mem_append_right _ h))) (by decide +kernel))
set_option maxRecDepth 20000 in
theorem gL_law_L_robot : GoodIn wsL_law (va_wsS RL 104 yL_robot wsL_robot) := goodIn_app (goodIn_of _ (by decide +kernel)) ggL_law_L_robot
set_option maxRecDepth 20000 in
theorem ggL_law_X3_robot : GoodIn wsL_law wsX3_robot := goodIn_r _ [240, 241, 95, 94, 57, 65, 96, 97, 98, 5, 99, 471, 472, 473, 474, 475, 476, 477, 478, 479, 480, 481, 482, 483, 484, 485, 486, 487, 488, 489, 490, 491, 492, 493, 494] (by decide +kernel) (by decide +kernel)
set_option maxRecDepth 20000 in
theorem gL_law_X3_robot : GoodIn wsL_law (wsV RL 107 RX3 yX3_robot wsX3_robot) := goodIn_app (goodIn_of _ (by decide +kernel)) ggL_law_X3_robot
set_option maxRecDepth 20000 in
theorem ggL_law_L_way : GoodIn wsL_law wsL_way := goodIn_ca (goodIn_r _ [244, 75, 245, 246, 247, 2, 248, 20, 16, 22, 24, 249, 250, 251, 252, 253, 81, 82, 233, 111, 112, 113, 114, 195, 196, 197, 254, 19, 255, 256, 48, 257, 15, 258, 259, 36, 37, 33, 35, 260, 261, 262, 49, 263, 264, 265, 266, 267, 268, 269, 270, 271, 272, 273, 274, 275, 276, 277, 278, 279, 280, 281, 282, 283, 284, 285, 286, 287, 288, 289, 290, 291, 292, 293, 294, 295, 296, 459, 460, 461, 462, 463, 464, 465, 466, 467, 468, 469, 470, 495, 496, 497, 498, 499, 500, 501, 502, 503, 504, 505, 506, 507, 508, 509, 510, 511] (by decide +kernel) (by decide +kernel)) (goodIn_sub (fun _ h => List.mem_append_left _ (List.mem_append_left _ (List.mem_append_right _ h))) (by decide +kernel))
set_option maxRecDepth 20000 in
theorem gL_law_L_way : GoodIn wsL_law (va_wsS RL 108 yL_way wsL_way) := goodIn_app (goodIn_of _ (by decide +kernel)) ggL_law_L_way
set_option maxRecDepth 20000 in
theorem ggL_law_X3_way : GoodIn wsL_law wsX3_way := goodIn_r _ [300, 95, 301, 69, 68, 302, 303, 304, 5, 305, 241, 97, 98, 99, 135, 136, 137, 138, 94, 306, 307, 308, 309, 310, 311, 312, 313, 58, 134, 314, 315, 316, 317, 318, 319, 320, 321, 63, 56, 322, 323, 324, 325, 61, 62, 326, 327, 328, 329, 64, 330, 331, 332, 333, 334, 335, 336, 337, 59, 60, 57, 65, 338, 339, 340, 341, 342, 343, 344, 345, 346, 347, 348, 349, 471, 472, 473, 474, 475, 476, 477, 478, 479, 480, 481, 482, 483, 484, 485, 486, 487, 488, 489, 490, 491, 492, 493, 494] (by decide +kernel) (by decide +kernel)
set_option maxRecDepth 20000 in
theorem gL_law_X3_way : GoodIn wsL_law (wsV RL 111 RX3 yX3_way wsX3_way) := goodIn_app (goodIn_of _ (by decide +kernel)) ggL_law_X3_way
set_option maxRecDepth 20000 in
theorem ggL_law_X2_step : GoodIn wsL_law wsX2_step := goodIn_r _ [353, 249, 24, 459, 460, 461, 462, 463, 464, 465, 466, 467, 468, 469, 470] (by decide +kernel) (by decide +kernel)
set_option maxRecDepth 20000 in
theorem gL_law_X2_step : GoodIn wsL_law (wsV RL 112 RX2 yX2_step wsX2_step) := goodIn_app (goodIn_of _ (by decide +kernel)) ggL_law_X2_step
set_option maxRecDepth 20000 in
theorem ggL_law_X3_step : GoodIn wsL_law wsX3_step := goodIn_r _ [357, 95, 301, 69, 97, 98, 5, 99, 471, 472, 473, 474, 475, 476, 477, 478, 479, 480, 481, 482, 483, 484, 485, 486, 487, 488, 489, 490, 491, 492, 493, 494] (by decide +kernel) (by decide +kernel)
set_option maxRecDepth 20000 in
theorem gL_law_X3_step : GoodIn wsL_law (wsV RL 115 RX3 yX3_step wsX3_step) := goodIn_app (goodIn_of _ (by decide +kernel)) ggL_law_X3_step
set_option maxRecDepth 20000 in
theorem ggL_law_L_same : GoodIn wsL_law wsL_same := goodIn_ca (goodIn_r _ [360, 75, 361, 362, 363, 2, 364, 20, 16, 22, 250, 251, 252, 253, 81, 82, 233, 111, 112, 113, 114, 195, 196, 197, 254, 19, 255, 256, 48, 257, 15, 258, 259, 36, 37, 33, 35, 260, 261, 262, 49, 263, 264, 265, 266, 267, 268, 269, 270, 271, 272, 273, 274, 275, 276, 277, 278, 279, 280, 281, 282, 294, 295, 296, 286, 287, 288, 289, 459, 460, 461, 462, 463, 464, 465, 466, 467, 468, 469, 470, 495, 496, 497, 498, 499, 500, 501, 502, 503, 504, 505, 506, 507, 508, 509, 510, 511] (by decide +kernel) (by decide +kernel)) (goodIn_sub (fun _ h => List.mem_append_left _ (List.mem_append_left _ (List.mem_append_right _ h))) (by decide +kernel))
set_option maxRecDepth 20000 in
theorem gL_law_L_same : GoodIn wsL_law (va_wsS RL 116 yL_same wsL_same) := goodIn_app (goodIn_of _ (by decide +kernel)) ggL_law_L_same
set_option maxRecDepth 20000 in
theorem ggL_law_X3_same : GoodIn wsL_law wsX3_same := goodIn_r _ [368, 95, 302, 303, 304, 5, 305, 241, 97, 98, 99, 135, 136, 137, 138, 94, 306, 307, 308, 309, 310, 311, 312, 313, 68, 58, 134, 314, 315, 316, 317, 318, 319, 320, 321, 63, 56, 322, 323, 324, 325, 61, 62, 326, 327, 328, 329, 64, 330, 331, 332, 333, 334, 335, 336, 337, 59, 60, 57, 65, 338, 339, 340, 341, 471, 472, 473, 474, 475, 476, 477, 478, 479, 480, 481, 482, 483, 484, 485, 486, 487, 488, 489, 490, 491, 492, 493, 494] (by decide +kernel) (by decide +kernel)
set_option maxRecDepth 20000 in
theorem gL_law_X3_same : GoodIn wsL_law (wsV RL 118 RX3 yX3_same wsX3_same) := goodIn_app (goodIn_of _ (by decide +kernel)) ggL_law_X3_same
set_option maxRecDepth 20000 in
theorem ggL_law_L_charger : GoodIn wsL_law wsL_charger := goodIn_ca (goodIn_ca (goodIn_ca (goodIn_r _ [371, 75, 372, 76, 373, 374, 375, 2, 376, 377, 378, 83, 84, 379, 85, 23, 111, 112, 113, 114, 81, 82, 16, 380, 381, 382, 383, 459, 460, 461, 462, 463, 464, 465, 466, 467, 468, 469, 470, 495, 496, 497, 498, 499, 500, 501, 502, 503, 504, 505, 506, 507, 508] (by decide +kernel) (by decide +kernel)) (goodIn_sub (fun _ h => List.mem_append_right _ h) (by decide +kernel))) (goodIn_sub (fun _ h => List.mem_append_left _ (List.mem_append_right _ h)) (by decide +kernel))) (goodIn_sub (fun _ h => List.mem_append_left _ (List.mem_append_left _ (List.mem_append_right _ h))) (by decide +kernel))
set_option maxRecDepth 20000 in
theorem gL_law_L_charger : GoodIn wsL_law (va_wsS RL 119 yL_charger wsL_charger) := goodIn_app (goodIn_of _ (by decide +kernel)) ggL_law_L_charger
