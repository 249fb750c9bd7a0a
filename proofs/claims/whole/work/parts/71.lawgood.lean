/-! ===== rows of the law: calls ===== -/
set_option maxRecDepth 20000 in
theorem ggL_law_X4_init : GoodIn wsL_law wsX4_init := goodIn_r _ [9, 10, 11, 12, 13, 14, 15, 16, 17, 18, 19, 20, 21, 22, 23, 24, 25, 26, 27, 28, 29, 30, 31, 32, 33, 34, 35, 36, 37, 38, 39, 40, 41, 42, 43, 6, 44, 45, 46, 47, 48, 49, 50, 51, 52, 53, 54, 55, 56, 57, 58, 59, 60, 61, 62, 63, 64, 65, 66, 67, 68, 518, 519, 520, 521, 522, 538, 539, 540, 541, 542, 543, 544, 545, 546, 547, 548, 549, 550, 551, 552, 553, 554, 555, 556, 557, 558, 559, 560, 561, 562] (by decide +kernel) (by decide +kernel)
set_option maxRecDepth 20000 in
theorem gL_law_X4_init : GoodIn wsL_law (wsX4_init) := ggL_law_X4_init
set_option maxRecDepth 20000 in
theorem ggL_law_X5_init : GoodIn wsL_law wsX5_init := goodIn_r _ [71, 72, 11, 12, 31, 73, 74, 75, 76, 77, 78, 79, 80, 81, 82, 83, 84, 85, 86, 523, 524, 525, 526, 527, 528, 529, 530, 531, 532, 533, 534, 535, 536, 537] (by decide +kernel) (by decide +kernel)
set_option maxRecDepth 20000 in
theorem gL_law_X5_init : GoodIn wsL_law (wsX5_init) := ggL_law_X5_init
set_option maxRecDepth 20000 in
theorem ggL_law_X4_band : GoodIn wsL_law wsX4_band := goodIn_r _ [90, 21, 14, 91, 92, 2, 93, 518, 519, 520, 521, 522, 544, 545, 546, 547, 548, 549, 550, 551] (by decide +kernel) (by decide +kernel)
set_option maxRecDepth 20000 in
theorem gL_law_X4_band : GoodIn wsL_law (wsV RL 70 RX4 yX4_band wsX4_band) := goodIn_app (goodIn_of _ (by decide +kernel)) ggL_law_X4_band
set_option maxRecDepth 20000 in
theorem ggL_law_X5_band : GoodIn wsL_law wsX5_band := goodIn_r _ [97, 98, 99, 73, 523, 524, 525, 526, 527, 528, 529, 530, 531, 532, 533, 534, 535, 536, 537] (by decide +kernel) (by decide +kernel)
set_option maxRecDepth 20000 in
theorem gL_law_X5_band : GoodIn wsL_law (wsV RL 73 RX5 yX5_band wsX5_band) := goodIn_app (goodIn_of _ (by decide +kernel)) ggL_law_X5_band
set_option maxRecDepth 20000 in
theorem ggL_law_L_colour : GoodIn wsL_law wsL_colour := goodIn_ca (goodIn_ca (goodIn_r _ [103, 104, 105, 106, 107, 108, 2, 109, 110, 111, 112, 113, 21, 14, 114, 115, 116, 117, 118, 119, 120, 121, 122, 123, 544, 545, 546, 547, 548, 549, 550, 551, 518, 519, 520, 521, 522] (by decide +kernel) (by decide +kernel)) (goodIn_sub (fun _ h => List.mem_append_left _ (List.mem_append_right _ h)) (by decide +kernel))) (goodIn_sub (fun _ h => List.mem_append_right _ h) (by decide +kernel))
set_option maxRecDepth 20000 in
theorem gL_law_L_colour : GoodIn wsL_law (va_wsS RL 74 yL_colour wsL_colour) := goodIn_app (goodIn_of _ (by decide +kernel)) ggL_law_L_colour
set_option maxRecDepth 20000 in
theorem ggL_law_X5_colour : GoodIn wsL_law wsX5_colour := goodIn_r _ [127, 73, 75, 128, 129, 130, 5, 131, 98, 99, 132, 133, 134, 135, 523, 524, 525, 526, 527, 528, 529, 530, 531, 532, 533, 534, 535, 536, 537] (by decide +kernel) (by decide +kernel)
set_option maxRecDepth 20000 in
theorem gL_law_X5_colour : GoodIn wsL_law (wsV RL 79 RX5 yX5_colour wsX5_colour) := goodIn_app (goodIn_of _ (by decide +kernel)) ggL_law_X5_colour
set_option maxRecDepth 20000 in
theorem ggL_law_X5_thrown : GoodIn wsL_law wsX5_thrown := goodIn_r _ [139, 98, 523, 524, 525, 526, 527, 528, 529, 530, 531, 532, 533, 534, 535, 536, 537] (by decide +kernel) (by decide +kernel)
set_option maxRecDepth 20000 in
theorem gL_law_X5_thrown : GoodIn wsL_law (wsV RL 80 RX5 yX5_thrown wsX5_thrown) := goodIn_app (goodIn_of _ (by decide +kernel)) ggL_law_X5_thrown
set_option maxRecDepth 20000 in
theorem ggL_law_L_row : GoodIn wsL_law wsL_row := goodIn_ca (goodIn_r _ [142, 104, 143, 144, 145, 2, 146, 110, 111, 112, 113, 21, 14, 114, 115, 116, 117, 118, 544, 545, 546, 547, 548, 549, 550, 551, 518, 519, 520, 521, 522] (by decide +kernel) (by decide +kernel)) (goodIn_sub (fun _ h => List.mem_append_left _ (List.mem_append_right _ h)) (by decide +kernel))
set_option maxRecDepth 20000 in
theorem gL_law_L_row : GoodIn wsL_law (va_wsS RL 84 yL_row wsL_row) := goodIn_app (goodIn_of _ (by decide +kernel)) ggL_law_L_row
set_option maxRecDepth 20000 in
theorem ggL_law_X5_row : GoodIn wsL_law wsX5_row := goodIn_r _ [150, 74, 76, 128, 129, 130, 5, 131, 98, 99, 132, 133, 134, 135, 523, 524, 525, 526, 527, 528, 529, 530, 531, 532, 533, 534, 535, 536, 537] (by decide +kernel) (by decide +kernel)
set_option maxRecDepth 20000 in
theorem gL_law_X5_row : GoodIn wsL_law (wsV RL 87 RX5 yX5_row wsX5_row) := goodIn_app (goodIn_of _ (by decide +kernel)) ggL_law_X5_row
set_option maxRecDepth 20000 in
theorem ggL_law_L_knot : GoodIn wsL_law wsL_knot := goodIn_ca (goodIn_ca (goodIn_r _ [153, 104, 105, 154, 155, 156, 2, 157, 110, 111, 112, 113, 21, 14, 114, 115, 116, 117, 118, 158, 159, 160, 161, 162, 163, 119, 120, 121, 122, 123, 164, 165, 166, 544, 545, 546, 547, 548, 549, 550, 551, 518, 519, 520, 521, 522] (by decide +kernel) (by decide +kernel)) (goodIn_sub (fun _ h => List.mem_append_left _ (List.mem_append_right _ h)) (by decide +kernel))) (goodIn_sub (fun _ h => List.mem_append_right _ h) (by decide +kernel))
set_option maxRecDepth 20000 in
theorem gL_law_L_knot : GoodIn wsL_law (va_wsS RL 88 yL_knot wsL_knot) := goodIn_app (goodIn_of _ (by decide +kernel)) ggL_law_L_knot
set_option maxRecDepth 20000 in
theorem ggL_law_X5_knot : GoodIn wsL_law wsX5_knot := goodIn_r _ [170, 76, 171, 172, 173, 5, 174, 74, 73, 128, 129, 130, 131, 98, 99, 132, 133, 134, 135, 175, 176, 177, 523, 524, 525, 526, 527, 528, 529, 530, 531, 532, 533, 534, 535, 536, 537] (by decide +kernel) (by decide +kernel)
set_option maxRecDepth 20000 in
theorem gL_law_X5_knot : GoodIn wsL_law (wsV RL 91 RX5 yX5_knot wsX5_knot) := goodIn_app (goodIn_of _ (by decide +kernel)) ggL_law_X5_knot
set_option maxRecDepth 20000 in
theorem ggL_law_L_shows : GoodIn wsL_law wsL_shows := goodIn_ca (goodIn_r _ [180, 104, 181, 182, 183, 2, 184, 110, 111, 112, 113, 21, 14, 114, 115, 116, 117, 118, 158, 159, 160, 185, 186, 187, 24, 188, 50, 52, 53, 189, 190, 191, 192, 49, 54, 48, 193, 194, 162, 163, 195, 196, 197, 198, 199, 544, 545, 546, 547, 548, 549, 550, 551, 518, 519, 520, 521, 522] (by decide +kernel) (by decide +kernel)) (goodIn_sub (fun _ h => List.mem_append_left _ (List.mem_append_right _ h)) (by decide +kernel))
set_option maxRecDepth 20000 in
theorem gL_law_L_shows : GoodIn wsL_law (va_wsS RL 92 yL_shows wsL_shows) := goodIn_app (goodIn_of _ (by decide +kernel)) ggL_law_L_shows
set_option maxRecDepth 20000 in
theorem ggL_law_X5_shows : GoodIn wsL_law wsX5_shows := goodIn_r _ [203, 171, 172, 173, 5, 174, 74, 73, 128, 129, 130, 131, 98, 99, 132, 133, 134, 135, 175, 176, 177, 204, 205, 206, 207, 75, 208, 209, 210, 211, 81, 76, 212, 213, 214, 215, 216, 217, 218, 523, 524, 525, 526, 527, 528, 529, 530, 531, 532, 533, 534, 535, 536, 537] (by decide +kernel) (by decide +kernel)
set_option maxRecDepth 20000 in
theorem gL_law_X5_shows : GoodIn wsL_law (wsV RL 94 RX5 yX5_shows wsX5_shows) := goodIn_app (goodIn_of _ (by decide +kernel)) ggL_law_X5_shows
set_option maxRecDepth 20000 in
theorem ggL_law_L_thread : GoodIn wsL_law wsL_thread := goodIn_ca (goodIn_r _ [221, 104, 222, 223, 224, 2, 225, 110, 111, 112, 113, 21, 14, 114, 115, 116, 117, 118, 185, 186, 187, 24, 188, 50, 52, 53, 159, 160, 189, 190, 191, 192, 49, 54, 48, 193, 194, 162, 163, 195, 196, 197, 198, 544, 545, 546, 547, 548, 549, 550, 551, 518, 519, 520, 521, 522] (by decide +kernel) (by decide +kernel)) (goodIn_sub (fun _ h => List.mem_append_left _ (List.mem_append_right _ h)) (by decide +kernel))
set_option maxRecDepth 20000 in
theorem gL_law_L_thread : GoodIn wsL_law (va_wsS RL 95 yL_thread wsL_thread) := goodIn_app (goodIn_of _ (by decide +kernel)) ggL_law_L_thread
set_option maxRecDepth 20000 in
theorem ggL_law_X5_thread : GoodIn wsL_law wsX5_thread := goodIn_r _ [229, 74, 73, 81, 128, 129, 130, 5, 131, 98, 99, 132, 133, 134, 135, 208, 209, 210, 211, 76, 175, 176, 177, 212, 213, 214, 523, 524, 525, 526, 527, 528, 529, 530, 531, 532, 533, 534, 535, 536, 537] (by decide +kernel) (by decide +kernel)
set_option maxRecDepth 20000 in
theorem gL_law_X5_thread : GoodIn wsL_law (wsV RL 97 RX5 yX5_thread wsX5_thread) := goodIn_app (goodIn_of _ (by decide +kernel)) ggL_law_X5_thread
set_option maxRecDepth 20000 in
theorem ggL_law_L_used : GoodIn wsL_law wsL_used := goodIn_ca (goodIn_r _ [232, 104, 233, 234, 235, 2, 236, 110, 111, 112, 113, 21, 14, 114, 115, 116, 117, 118, 185, 186, 187, 24, 188, 50, 52, 53, 159, 160, 189, 190, 191, 192, 49, 54, 48, 193, 194, 162, 163, 195, 196, 197, 198, 544, 545, 546, 547, 548, 549, 550, 551, 518, 519, 520, 521, 522] (by decide +kernel) (by decide +kernel)) (goodIn_sub (fun _ h => List.mem_append_left _ (List.mem_append_right _ h)) (by decide +kernel))
set_option maxRecDepth 20000 in
theorem gL_law_L_used : GoodIn wsL_law (va_wsS RL 98 yL_used wsL_used) := goodIn_app (goodIn_of _ (by decide +kernel)) ggL_law_L_used
set_option maxRecDepth 20000 in
theorem ggL_law_X5_used : GoodIn wsL_law wsX5_used := goodIn_r _ [240, 73, 74, 128, 129, 130, 5, 131, 98, 99, 132, 133, 134, 135, 208, 209, 210, 211, 81, 76, 175, 176, 177, 212, 213, 214, 215, 216, 217, 218, 523, 524, 525, 526, 527, 528, 529, 530, 531, 532, 533, 534, 535, 536, 537] (by decide +kernel) (by decide +kernel)
set_option maxRecDepth 20000 in
theorem gL_law_X5_used : GoodIn wsL_law (wsV RL 100 RX5 yX5_used wsX5_used) := goodIn_app (goodIn_of _ (by decide +kernel)) ggL_law_X5_used
set_option maxRecDepth 20000 in
theorem ggL_law_L_home : GoodIn wsL_law wsL_home := goodIn_ca (goodIn_r _ [243, 104, 244, 245, 246, 2, 247, 110, 111, 112, 113, 21, 14, 114, 115, 116, 117, 118, 248, 249, 250, 24, 251, 51, 50, 55, 52, 252, 186, 187, 188, 53, 159, 160, 189, 190, 191, 192, 49, 54, 48, 193, 194, 162, 163, 195, 196, 197, 198, 253, 254, 255, 256, 544, 545, 546, 547, 548, 549, 550, 551, 518, 519, 520, 521, 522] (by decide +kernel) (by decide +kernel)) (goodIn_sub (fun _ h => List.mem_append_left _ (List.mem_append_right _ h)) (by decide +kernel))
set_option maxRecDepth 20000 in
theorem gL_law_L_home : GoodIn wsL_law (va_wsS RL 101 yL_home wsL_home) := goodIn_app (goodIn_of _ (by decide +kernel)) ggL_law_L_home
set_option maxRecDepth 20000 in
theorem ggL_law_X5_home : GoodIn wsL_law wsX5_home := goodIn_r _ [260, 74, 82, 83, 81, 73, 75, 128, 129, 130, 5, 131, 98, 99, 132, 133, 134, 135, 208, 209, 210, 211, 76, 175, 176, 177, 212, 213, 214, 523, 524, 525, 526, 527, 528, 529, 530, 531, 532, 533, 534, 535, 536, 537] (by decide +kernel) (by decide +kernel)
set_option maxRecDepth 20000 in
theorem gL_law_X5_home : GoodIn wsL_law (wsV RL 103 RX5 yX5_home wsX5_home) := goodIn_app (goodIn_of _ (by decide +kernel)) ggL_law_X5_home
set_option maxRecDepth 20000 in
theorem ggL_law_L_unlike : GoodIn wsL_law wsL_unlike := goodIn_ca (goodIn_ca (goodIn_r _ [263, 104, 105, 264, 265, 266, 2, 267, 122, 123, 110, 111, 112, 113, 21, 14, 114, 115, 116, 117, 118, 185, 186, 187, 24, 188, 50, 52, 53, 159, 160, 189, 190, 191, 192, 49, 54, 48, 193, 194, 162, 163, 195, 196, 197, 198, 158, 199, 544, 545, 546, 547, 548, 549, 550, 551, 518, 519, 520, 521, 522] (by decide +kernel) (by decide +kernel)) (goodIn_sub (fun _ h => List.mem_append_right _ h) (by decide +kernel))) (goodIn_sub (fun _ h => List.mem_append_left _ (List.mem_append_right _ h)) (by decide +kernel))
set_option maxRecDepth 20000 in
theorem gL_law_L_unlike : GoodIn wsL_law (va_wsS RL 104 yL_unlike wsL_unlike) := goodIn_app (goodIn_of _ (by decide +kernel)) ggL_law_L_unlike
set_option maxRecDepth 20000 in
theorem ggL_law_X5_unlike : GoodIn wsL_law wsX5_unlike := goodIn_r _ [271, 99, 73, 74, 128, 129, 130, 5, 131, 98, 132, 133, 134, 135, 175, 176, 177, 204, 205, 206, 207, 75, 208, 209, 210, 211, 81, 76, 212, 213, 214, 215, 216, 217, 218, 523, 524, 525, 526, 527, 528, 529, 530, 531, 532, 533, 534, 535, 536, 537] (by decide +kernel) (by decide +kernel)
set_option maxRecDepth 20000 in
theorem gL_law_X5_unlike : GoodIn wsL_law (wsV RL 106 RX5 yX5_unlike wsX5_unlike) := goodIn_app (goodIn_of _ (by decide +kernel)) ggL_law_X5_unlike
set_option maxRecDepth 20000 in
theorem ggL_law_X4_picture : GoodIn wsL_law wsX4_picture := goodIn_r _ [275, 22, 16, 91, 92, 2, 93, 276, 277, 278, 26, 279, 61, 62, 59, 60, 518, 519, 520, 521, 522, 552, 553, 554, 555, 556, 557, 558, 559, 560, 561] (by decide +kernel) (by decide +kernel)
set_option maxRecDepth 20000 in
theorem gL_law_X4_picture : GoodIn wsL_law (wsV RL 107 RX4 yX4_picture wsX4_picture) := goodIn_app (goodIn_of _ (by decide +kernel)) ggL_law_X4_picture
set_option maxRecDepth 20000 in
theorem ggL_law_X5_picture : GoodIn wsL_law wsX5_picture := goodIn_r _ [283, 98, 284, 77, 78, 79, 80, 523, 524, 525, 526, 527, 528, 529, 530, 531, 532, 533, 534, 535, 536, 537] (by decide +kernel) (by decide +kernel)
set_option maxRecDepth 20000 in
theorem gL_law_X5_picture : GoodIn wsL_law (wsV RL 110 RX5 yX5_picture wsX5_picture) := goodIn_app (goodIn_of _ (by decide +kernel)) ggL_law_X5_picture
set_option maxRecDepth 20000 in
theorem ggL_law_L_see : GoodIn wsL_law wsL_see := goodIn_ca (goodIn_ca (goodIn_r _ [287, 104, 105, 288, 289, 290, 2, 291, 292, 293, 294, 295, 22, 16, 114, 115, 116, 117, 118, 158, 159, 160, 119, 120, 121, 122, 123, 199, 197, 198, 552, 553, 554, 555, 556, 557, 558, 559, 560, 561, 518, 519, 520, 521, 522] (by decide +kernel) (by decide +kernel)) (goodIn_sub (fun _ h => List.mem_append_left _ (List.mem_append_right _ h)) (by decide +kernel))) (goodIn_sub (fun _ h => List.mem_append_right _ h) (by decide +kernel))
set_option maxRecDepth 20000 in
theorem gL_law_L_see : GoodIn wsL_law (va_wsS RL 111 yL_see wsL_see) := goodIn_app (goodIn_of _ (by decide +kernel)) ggL_law_L_see
set_option maxRecDepth 20000 in
theorem ggL_law_X5_see : GoodIn wsL_law wsX5_see := goodIn_r _ [299, 78, 77, 79, 300, 301, 302, 5, 303, 98, 284, 132, 133, 134, 135, 175, 176, 177, 523, 524, 525, 526, 527, 528, 529, 530, 531, 532, 533, 534, 535, 536, 537] (by decide +kernel) (by decide +kernel)
set_option maxRecDepth 20000 in
theorem gL_law_X5_see : GoodIn wsL_law (wsV RL 113 RX5 yX5_see wsX5_see) := goodIn_app (goodIn_of _ (by decide +kernel)) ggL_law_X5_see
set_option maxRecDepth 20000 in
theorem ggL_law_L_must : GoodIn wsL_law wsL_must := goodIn_ca (goodIn_ca (goodIn_r _ [306, 104, 105, 307, 308, 309, 2, 310, 292, 293, 294, 295, 22, 16, 114, 115, 116, 117, 118, 119, 120, 121, 122, 123, 552, 553, 554, 555, 556, 557, 558, 559, 560, 561, 518, 519, 520, 521, 522] (by decide +kernel) (by decide +kernel)) (goodIn_sub (fun _ h => List.mem_append_left _ (List.mem_append_right _ h)) (by decide +kernel))) (goodIn_sub (fun _ h => List.mem_append_right _ h) (by decide +kernel))
set_option maxRecDepth 20000 in
theorem gL_law_L_must : GoodIn wsL_law (va_wsS RL 114 yL_must wsL_must) := goodIn_app (goodIn_of _ (by decide +kernel)) ggL_law_L_must
set_option maxRecDepth 20000 in
theorem ggL_law_X5_must : GoodIn wsL_law wsX5_must := goodIn_r _ [314, 77, 80, 300, 301, 302, 5, 303, 98, 284, 132, 133, 134, 135, 523, 524, 525, 526, 527, 528, 529, 530, 531, 532, 533, 534, 535, 536, 537] (by decide +kernel) (by decide +kernel)
set_option maxRecDepth 20000 in
theorem gL_law_X5_must : GoodIn wsL_law (wsV RL 116 RX5 yX5_must wsX5_must) := goodIn_app (goodIn_of _ (by decide +kernel)) ggL_law_X5_must
set_option maxRecDepth 20000 in
theorem ggL_law_L_copy : GoodIn wsL_law wsL_copy := goodIn_ca (goodIn_r _ [317, 104, 318, 319, 320, 2, 321, 292, 293, 294, 295, 22, 16, 114, 115, 116, 117, 118, 110, 111, 112, 113, 21, 14, 185, 186, 187, 24, 188, 50, 52, 53, 159, 160, 189, 190, 191, 192, 49, 54, 48, 193, 194, 162, 163, 195, 196, 197, 198, 552, 553, 554, 555, 556, 557, 558, 559, 560, 561, 544, 545, 546, 547, 548, 549, 550, 551, 518, 519, 520, 521, 522] (by decide +kernel) (by decide +kernel)) (goodIn_sub (fun _ h => List.mem_append_left _ (List.mem_append_right _ h)) (by decide +kernel))
set_option maxRecDepth 20000 in
theorem gL_law_L_copy : GoodIn wsL_law (va_wsS RL 117 yL_copy wsL_copy) := goodIn_app (goodIn_of _ (by decide +kernel)) ggL_law_L_copy
set_option maxRecDepth 20000 in
theorem ggL_law_X5_copy : GoodIn wsL_law wsX5_copy := goodIn_r _ [325, 99, 77, 73, 78, 74, 79, 300, 301, 302, 5, 303, 98, 284, 132, 133, 134, 135, 175, 176, 177, 204, 205, 206, 207, 75, 208, 209, 210, 211, 81, 76, 212, 213, 214, 215, 216, 217, 218, 523, 524, 525, 526, 527, 528, 529, 530, 531, 532, 533, 534, 535, 536, 537] (by decide +kernel) (by decide +kernel)
set_option maxRecDepth 20000 in
theorem gL_law_X5_copy : GoodIn wsL_law (wsV RL 119 RX5 yX5_copy wsX5_copy) := goodIn_app (goodIn_of _ (by decide +kernel)) ggL_law_X5_copy
set_option maxRecDepth 20000 in
theorem ggL_law_L_starts : GoodIn wsL_law wsL_starts := goodIn_ca (goodIn_r _ [328, 104, 329, 330, 331, 2, 332, 333, 334, 335, 336, 20, 292, 293, 294, 295, 22, 16, 114, 115, 116, 117, 118, 337, 338, 339, 19, 340, 40, 37, 341, 342, 343, 344, 35, 32, 33, 34, 159, 160, 193, 194, 197, 198, 345, 346, 347, 348, 349, 350, 351, 39, 352, 44, 353, 354, 355, 356, 357, 358, 359, 360, 361, 362, 363, 364, 365, 366, 367, 368, 369, 370, 371, 372, 373, 374, 375, 376, 377, 378, 379, 380, 381, 382, 383, 384, 385, 386, 387, 388, 389, 390, 391, 392, 393, 394, 395, 396, 397, 398, 399, 400, 401, 402, 403, 404, 405, 406, 407, 408, 409, 410, 195, 196, 411, 412, 413, 414, 415, 416, 417, 418, 419, 420, 421, 422, 423, 165, 166, 424, 425, 426, 427, 552, 553, 554, 555, 556, 557, 558, 559, 560, 561, 518, 519, 520, 521, 522, 538, 539, 540, 541, 542, 543, 562] (by decide +kernel) (by decide +kernel)) (goodIn_sub (fun _ h => List.mem_append_left _ (List.mem_append_right _ h)) (by decide +kernel))
set_option maxRecDepth 20000 in
theorem gL_law_L_starts : GoodIn wsL_law (va_wsS RL 120 yL_starts wsL_starts) := goodIn_app (goodIn_of _ (by decide +kernel)) ggL_law_L_starts
set_option maxRecDepth 20000 in
theorem ggL_law_X5_starts : GoodIn wsL_law wsX5_starts := goodIn_r _ [431, 300, 301, 302, 5, 303, 98, 284, 132, 133, 134, 135, 432, 433, 434, 435, 77, 86, 78, 436, 437, 438, 439, 440, 441, 442, 443, 79, 175, 176, 177, 212, 213, 214, 444, 445, 446, 447, 448, 449, 450, 451, 452, 453, 454, 455, 456, 80, 523, 524, 525, 526, 527, 528, 529, 530, 531, 532, 533, 534, 535, 536, 537] (by decide +kernel) (by decide +kernel)
set_option maxRecDepth 20000 in
theorem gL_law_X5_starts : GoodIn wsL_law (wsV RL 123 RX5 yX5_starts wsX5_starts) := goodIn_app (goodIn_of _ (by decide +kernel)) ggL_law_X5_starts
set_option maxRecDepth 20000 in
theorem ggL_law_L_start : GoodIn wsL_law wsL_start := goodIn_ca (goodIn_r _ [459, 104, 460, 461, 462, 2, 463, 292, 293, 294, 295, 22, 16, 114, 115, 116, 117, 118, 333, 334, 335, 336, 20, 337, 338, 339, 19, 340, 40, 37, 341, 342, 343, 344, 35, 32, 33, 34, 159, 160, 193, 194, 197, 198, 345, 346, 347, 348, 349, 350, 351, 39, 352, 44, 353, 354, 355, 356, 357, 358, 359, 360, 361, 362, 363, 364, 365, 366, 367, 368, 369, 370, 371, 372, 373, 374, 375, 376, 377, 378, 379, 380, 381, 382, 383, 384, 385, 386, 387, 388, 389, 390, 391, 392, 393, 394, 395, 396, 397, 398, 399, 400, 401, 402, 403, 404, 405, 406, 407, 408, 409, 410, 195, 196, 411, 412, 413, 414, 415, 416, 417, 418, 419, 420, 421, 422, 423, 165, 166, 424, 425, 426, 427, 464, 552, 553, 554, 555, 556, 557, 558, 559, 560, 561, 518, 519, 520, 521, 522, 538, 539, 540, 541, 542, 543, 562] (by decide +kernel) (by decide +kernel)) (goodIn_sub (fun _ h => List.mem_append_left _ (List.mem_append_right _ h)) (by decide +kernel))
set_option maxRecDepth 20000 in
theorem gL_law_L_start : GoodIn wsL_law (va_wsS RL 124 yL_start wsL_start) := goodIn_app (goodIn_of _ (by decide +kernel)) ggL_law_L_start
set_option maxRecDepth 20000 in
theorem ggL_law_X5_start : GoodIn wsL_law wsX5_start := goodIn_r _ [468, 77, 300, 301, 302, 5, 303, 98, 284, 132, 133, 134, 135, 469, 470, 471, 472, 432, 433, 434, 435, 86, 78, 436, 437, 438, 439, 440, 441, 442, 443, 79, 175, 176, 177, 212, 213, 214, 444, 445, 446, 447, 448, 449, 450, 451, 452, 453, 454, 455, 456, 80, 523, 524, 525, 526, 527, 528, 529, 530, 531, 532, 533, 534, 535, 536, 537] (by decide +kernel) (by decide +kernel)
set_option maxRecDepth 20000 in
theorem gL_law_X5_start : GoodIn wsL_law (wsV RL 126 RX5 yX5_start wsX5_start) := goodIn_app (goodIn_of _ (by decide +kernel)) ggL_law_X5_start
set_option maxRecDepth 20000 in
theorem ggL_law_L_tie : GoodIn wsL_law wsL_tie := goodIn_ca (goodIn_r _ [475, 104, 476, 477, 478, 2, 479, 21, 14, 333, 334, 335, 336, 20, 292, 293, 294, 295, 22, 16, 114, 115, 116, 117, 118, 337, 338, 339, 19, 340, 40, 37, 341, 342, 343, 344, 35, 32, 33, 34, 159, 160, 193, 194, 197, 198, 345, 346, 347, 348, 349, 350, 351, 39, 352, 44, 353, 354, 355, 356, 357, 358, 359, 360, 361, 362, 363, 364, 365, 366, 367, 368, 369, 370, 371, 372, 373, 374, 375, 376, 377, 378, 379, 380, 381, 382, 383, 384, 385, 386, 387, 388, 389, 390, 391, 392, 393, 394, 395, 396, 397, 398, 399, 400, 401, 402, 403, 404, 405, 406, 407, 408, 409, 410, 195, 196, 411, 412, 413, 414, 415, 416, 417, 418, 419, 420, 421, 422, 423, 165, 166, 424, 425, 426, 427, 480, 481, 482, 24, 483, 50, 51, 48, 49, 552, 553, 554, 555, 556, 557, 558, 559, 560, 561, 518, 519, 520, 521, 522, 538, 539, 540, 541, 542, 543, 562, 544, 545, 546, 547, 548, 549, 550, 551] (by decide +kernel) (by decide +kernel)) (goodIn_sub (fun _ h => List.mem_append_left _ (List.mem_append_right _ h)) (by decide +kernel))
set_option maxRecDepth 20000 in
theorem gL_law_L_tie : GoodIn wsL_law (va_wsS RL 127 yL_tie wsL_tie) := goodIn_app (goodIn_of _ (by decide +kernel)) ggL_law_L_tie
set_option maxRecDepth 20000 in
theorem ggL_law_X5_tie : GoodIn wsL_law wsX5_tie := goodIn_r _ [487, 99, 77, 73, 74, 78, 75, 79, 76, 300, 301, 302, 5, 303, 98, 284, 132, 133, 134, 135, 469, 470, 471, 472, 432, 433, 434, 435, 86, 436, 437, 438, 439, 440, 441, 442, 443, 175, 176, 177, 212, 213, 214, 444, 445, 446, 447, 448, 449, 450, 451, 452, 453, 454, 455, 456, 80, 488, 489, 490, 491, 492, 493, 494, 495, 523, 524, 525, 526, 527, 528, 529, 530, 531, 532, 533, 534, 535, 536, 537] (by decide +kernel) (by decide +kernel)
set_option maxRecDepth 20000 in
theorem gL_law_X5_tie : GoodIn wsL_law (wsV RL 129 RX5 yX5_tie wsX5_tie) := goodIn_app (goodIn_of _ (by decide +kernel)) ggL_law_X5_tie
set_option maxRecDepth 20000 in
theorem ggL_law_L_suspect : GoodIn wsL_law wsL_suspect := goodIn_ca (goodIn_r _ [498, 104, 499, 500, 501, 2, 502, 333, 334, 335, 336, 20, 292, 293, 294, 295, 22, 16, 114, 115, 116, 117, 118, 337, 338, 339, 19, 340, 40, 37, 341, 342, 343, 344, 35, 32, 33, 34, 159, 160, 193, 194, 197, 198, 345, 346, 347, 348, 349, 350, 351, 39, 352, 44, 353, 354, 355, 356, 357, 358, 359, 360, 361, 362, 363, 364, 365, 366, 367, 368, 369, 370, 371, 372, 373, 374, 375, 376, 377, 378, 379, 380, 381, 382, 383, 384, 385, 386, 387, 388, 389, 390, 391, 392, 393, 394, 395, 396, 397, 398, 399, 400, 401, 402, 403, 404, 405, 406, 407, 408, 409, 410, 195, 196, 411, 412, 413, 414, 415, 416, 417, 418, 419, 420, 421, 422, 423, 165, 166, 424, 425, 426, 427, 552, 553, 554, 555, 556, 557, 558, 559, 560, 561, 518, 519, 520, 521, 522, 538, 539, 540, 541, 542, 543, 562] (by decide +kernel) (by decide +kernel)) (goodIn_sub (fun _ h => List.mem_append_left _ (List.mem_append_right _ h)) (by decide +kernel))
set_option maxRecDepth 20000 in
theorem gL_law_L_suspect : GoodIn wsL_law (va_wsS RL 130 yL_suspect wsL_suspect) := goodIn_app (goodIn_of _ (by decide +kernel)) ggL_law_L_suspect
set_option maxRecDepth 20000 in
theorem ggL_law_X5_suspect : GoodIn wsL_law wsX5_suspect := goodIn_r _ [506, 78, 77, 79, 300, 301, 302, 5, 303, 98, 284, 132, 133, 134, 135, 469, 470, 471, 472, 432, 433, 434, 435, 86, 436, 437, 438, 439, 440, 441, 442, 443, 175, 176, 177, 212, 213, 214, 444, 445, 446, 447, 448, 449, 450, 451, 452, 453, 454, 455, 456, 80, 523, 524, 525, 526, 527, 528, 529, 530, 531, 532, 533, 534, 535, 536, 537] (by decide +kernel) (by decide +kernel)
set_option maxRecDepth 20000 in
theorem gL_law_X5_suspect : GoodIn wsL_law (wsV RL 132 RX5 yX5_suspect wsX5_suspect) := goodIn_app (goodIn_of _ (by decide +kernel)) ggL_law_X5_suspect
set_option maxRecDepth 20000 in
theorem ggL_law_L_count : GoodIn wsL_law wsL_count := goodIn_ca (goodIn_r _ [509, 104, 510, 511, 512, 2, 513, 21, 22, 114, 115, 116, 117, 118, 518, 519, 520, 521, 522] (by decide +kernel) (by decide +kernel)) (goodIn_sub (fun _ h => List.mem_append_left _ (List.mem_append_right _ h)) (by decide +kernel))
set_option maxRecDepth 20000 in
theorem gL_law_L_count : GoodIn wsL_law (va_wsS RL 133 yL_count wsL_count) := goodIn_app (goodIn_of _ (by decide +kernel)) ggL_law_L_count
set_option maxRecDepth 20000 in
theorem ggL_law_X5_count : GoodIn wsL_law wsX5_count := goodIn_r _ [517, 98, 99, 284, 132, 133, 134, 5, 135, 523, 524, 525, 526, 527, 528, 529, 530, 531, 532, 533, 534, 535, 536, 537] (by decide +kernel) (by decide +kernel)
set_option maxRecDepth 20000 in
theorem gL_law_X5_count : GoodIn wsL_law (wsV RL 135 RX5 yX5_count wsX5_count) := goodIn_app (goodIn_of _ (by decide +kernel)) ggL_law_X5_count
