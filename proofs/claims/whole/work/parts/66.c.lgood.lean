set_option maxRecDepth 20000 in
theorem ggL_law_X3_charger : GoodIn wsL_law wsX3_charger := goodIn_r _ [387, 95, 388, 66, 96, 135, 136, 137, 5, 138, 94, 97, 98, 99, 471, 472, 473, 474, 475, 476, 477, 478, 479, 480, 481, 482, 483, 484, 485, 486, 487, 488, 489, 490, 491, 492, 493, 494] (by decide +kernel) (by decide +kernel)
set_option maxRecDepth 20000 in
theorem gL_law_X3_charger : GoodIn wsL_law (wsV RL 121 RX3 yX3_charger wsX3_charger) := goodIn_app (goodIn_of _ (by decide +kernel)) ggL_law_X3_charger
set_option maxRecDepth 20000 in
theorem ggL_law_L_nearest : GoodIn wsL_law wsL_nearest := goodIn_ca (goodIn_r _ [391, 75, 392, 393, 394, 2, 395, 20, 16, 22, 396, 250, 251, 252, 253, 81, 82, 233, 111, 112, 113, 114, 195, 196, 197, 254, 19, 255, 256, 48, 257, 15, 258, 259, 36, 37, 33, 35, 260, 261, 262, 49, 263, 264, 265, 266, 267, 268, 269, 270, 271, 272, 273, 274, 275, 276, 277, 278, 279, 280, 281, 282, 380, 381, 382, 383, 379, 23, 294, 295, 296, 286, 287, 288, 289, 459, 460, 461, 462, 463, 464, 465, 466, 467, 468, 469, 470, 495, 496, 497, 498, 499, 500, 501, 502, 503, 504, 505, 506, 507, 508, 509, 510, 511] (by decide +kernel) (by decide +kernel)) (goodIn_sub (fun _ h => List.mem_append_left _ (List.mem_append_left _ (List.mem_append_right _ h))) (by decide +kernel))
set_option maxRecDepth 20000 in
theorem gL_law_L_nearest : GoodIn wsL_law (va_wsS RL 122 yL_nearest wsL_nearest) := goodIn_app (goodIn_of _ (by decide +kernel)) ggL_law_L_nearest
set_option maxRecDepth 20000 in
theorem ggL_law_X3_nearest : GoodIn wsL_law wsX3_nearest := goodIn_r _ [400, 95, 94, 388, 66, 302, 303, 304, 5, 305, 241, 97, 98, 99, 135, 136, 137, 138, 310, 311, 312, 313, 68, 58, 134, 314, 315, 316, 317, 318, 319, 320, 321, 63, 56, 322, 323, 324, 325, 61, 62, 326, 327, 328, 329, 64, 330, 331, 332, 333, 334, 335, 336, 337, 59, 60, 57, 65, 338, 339, 340, 341, 471, 472, 473, 474, 475, 476, 477, 478, 479, 480, 481, 482, 483, 484, 485, 486, 487, 488, 489, 490, 491, 492, 493, 494] (by decide +kernel) (by decide +kernel)
set_option maxRecDepth 20000 in
theorem gL_law_X3_nearest : GoodIn wsL_law (wsV RL 124 RX3 yX3_nearest wsX3_nearest) := goodIn_app (goodIn_of _ (by decide +kernel)) ggL_law_X3_nearest
set_option maxRecDepth 20000 in
theorem ggL_law_L_table : GoodIn wsL_law wsL_table := goodIn_ca (goodIn_r _ [403, 372, 404, 405, 406, 2, 407, 377, 378, 233, 379, 408, 409, 410, 27, 85, 26, 411, 412, 413, 414, 23, 20, 16, 22, 415, 254, 19, 255, 256, 48, 257, 15, 258, 259, 36, 37, 33, 35, 260, 261, 262, 49, 263, 264, 265, 266, 267, 268, 269, 270, 271, 272, 273, 274, 275, 276, 277, 278, 279, 280, 281, 282, 294, 295, 296, 286, 287, 288, 289, 459, 460, 461, 462, 463, 464, 465, 466, 467, 468, 469, 470, 512, 513, 514, 515, 516, 517, 495, 496, 497, 498, 499, 500, 501, 502, 503, 504, 505, 506, 507, 508, 509, 510, 511] (by decide +kernel) (by decide +kernel)) (goodIn_sub (fun _ h => List.mem_append_right _ h) (by decide +kernel))
set_option maxRecDepth 20000 in
theorem gL_law_L_table : GoodIn wsL_law (va_wsS RL 125 yL_table wsL_table) := goodIn_app (goodIn_of _ (by decide +kernel)) ggL_law_L_table
set_option maxRecDepth 20000 in
theorem ggL_law_X3_table : GoodIn wsL_law wsX3_table := goodIn_r _ [419, 241, 388, 95, 67, 96, 420, 66, 97, 98, 5, 99, 306, 307, 308, 309, 310, 311, 312, 313, 94, 68, 58, 134, 314, 315, 316, 317, 318, 319, 320, 321, 63, 56, 322, 323, 324, 325, 61, 62, 326, 327, 328, 329, 64, 330, 331, 332, 333, 334, 335, 336, 337, 59, 60, 57, 65, 338, 339, 340, 341, 471, 472, 473, 474, 475, 476, 477, 478, 479, 480, 481, 482, 483, 484, 485, 486, 487, 488, 489, 490, 491, 492, 493, 494] (by decide +kernel) (by decide +kernel)
set_option maxRecDepth 20000 in
theorem gL_law_X3_table : GoodIn wsL_law (wsV RL 128 RX3 yX3_table wsX3_table) := goodIn_app (goodIn_of _ (by decide +kernel)) ggL_law_X3_table
set_option maxRecDepth 20000 in
theorem ggL_law_X2_rows : GoodIn wsL_law wsX2_rows := goodIn_r _ [424, 415, 459, 460, 461, 462, 463, 464, 465, 466, 467, 468, 469, 470] (by decide +kernel) (by decide +kernel)
set_option maxRecDepth 20000 in
theorem gL_law_X2_rows : GoodIn wsL_law (wsV RL 129 RX2 yX2_rows wsX2_rows) := goodIn_app (goodIn_of _ (by decide +kernel)) ggL_law_X2_rows
set_option maxRecDepth 20000 in
theorem ggL_law_X3_rows : GoodIn wsL_law wsX3_rows := goodIn_r _ [428, 95, 420, 471, 472, 473, 474, 475, 476, 477, 478, 479, 480, 481, 482, 483, 484, 485, 486, 487, 488, 489, 490, 491, 492, 493, 494] (by decide +kernel) (by decide +kernel)
set_option maxRecDepth 20000 in
theorem gL_law_X3_rows : GoodIn wsL_law (wsV RL 132 RX3 yX3_rows wsX3_rows) := goodIn_app (goodIn_of _ (by decide +kernel)) ggL_law_X3_rows
set_option maxRecDepth 20000 in
theorem ggL_law_L_plain : GoodIn wsL_law wsL_plain := goodIn_ca (goodIn_r _ [431, 75, 432, 433, 434, 2, 435, 81, 82, 20, 16, 22, 250, 251, 252, 253, 233, 111, 112, 113, 114, 195, 196, 197, 254, 19, 255, 256, 48, 257, 15, 258, 259, 36, 37, 33, 35, 436, 437, 438, 50, 268, 269, 270, 439, 440, 441, 442, 459, 460, 461, 462, 463, 464, 465, 466, 467, 468, 469, 470, 495, 496, 497, 498, 499, 500, 501, 502, 503, 504, 505, 506, 507, 508, 509, 510, 511] (by decide +kernel) (by decide +kernel)) (goodIn_sub (fun _ h => List.mem_append_left _ (List.mem_append_left _ (List.mem_append_right _ h))) (by decide +kernel))
set_option maxRecDepth 20000 in
theorem gL_law_L_plain : GoodIn wsL_law (va_wsS RL 133 yL_plain wsL_plain) := goodIn_app (goodIn_of _ (by decide +kernel)) ggL_law_L_plain
set_option maxRecDepth 20000 in
theorem ggL_law_X3_plain : GoodIn wsL_law wsX3_plain := goodIn_r _ [446, 95, 70, 134, 302, 303, 304, 5, 305, 241, 97, 98, 99, 135, 136, 137, 138, 94, 447, 448, 449, 450, 58, 326, 327, 328, 329, 64, 330, 331, 332, 333, 62, 61, 334, 335, 336, 337, 59, 60, 57, 65, 322, 323, 324, 325, 471, 472, 473, 474, 475, 476, 477, 478, 479, 480, 481, 482, 483, 484, 485, 486, 487, 488, 489, 490, 491, 492, 493, 494] (by decide +kernel) (by decide +kernel)
set_option maxRecDepth 20000 in
theorem gL_law_X3_plain : GoodIn wsL_law (wsV RL 135 RX3 yX3_plain wsX3_plain) := goodIn_app (goodIn_of _ (by decide +kernel)) ggL_law_X3_plain
set_option maxRecDepth 20000 in
theorem ggL_law_X2_count : GoodIn wsL_law wsX2_count := goodIn_r _ [454, 16, 233, 379, 161, 15, 162, 163, 41, 459, 460, 461, 462, 463, 464, 465, 466, 467, 468, 469, 470, 495, 496, 497, 498, 499, 500, 501, 502, 503, 504, 505, 506, 507, 508] (by decide +kernel) (by decide +kernel)
set_option maxRecDepth 20000 in
theorem gL_law_X2_count : GoodIn wsL_law (wsV RL 136 RX2 yX2_count wsX2_count) := goodIn_app (goodIn_of _ (by decide +kernel)) ggL_law_X2_count
set_option maxRecDepth 20000 in
theorem ggL_law_X3_count : GoodIn wsL_law wsX3_count := goodIn_r _ [458, 95, 94, 134, 241, 388, 64, 171, 172, 5, 173, 471, 472, 473, 474, 475, 476, 477, 478, 479, 480, 481, 482, 483, 484, 485, 486, 487, 488, 489, 490, 491, 492, 493, 494] (by decide +kernel) (by decide +kernel)
set_option maxRecDepth 20000 in
theorem gL_law_X3_count : GoodIn wsL_law (wsV RL 139 RX3 yX3_count wsX3_count) := goodIn_app (goodIn_of _ (by decide +kernel)) ggL_law_X3_count
