/-! ===== rows of the law's helpers ===== -/
set_option maxRecDepth 20000 in
theorem ggL_colour_X4_colour : GoodIn wsL_colour wsX4_colour := goodIn_ca (goodIn_ca (goodIn_r _ [7, 8, 9, 10, 6, 11, 12, 13, 14, 15, 16, 17, 18, 19, 20, 21, 22, 23, 24, 25, 26, 27, 28, 29, 30, 31, 32, 33, 34, 35, 36] (by decide +kernel) (by decide +kernel)) (goodIn_sub (fun _ h => List.mem_cons_of_mem _ (List.mem_append_left _ (List.mem_append_right _ h))) (by decide +kernel))) (goodIn_sub (fun _ h => List.mem_cons_of_mem _ (List.mem_append_right _ h)) (by decide +kernel))
set_option maxRecDepth 20000 in
theorem gL_colour_X4_colour : GoodIn wsL_colour (wsV RL 7 RX4 yX4_colour wsX4_colour) := goodIn_app (goodIn_of _ (by decide +kernel)) ggL_colour_X4_colour
theorem dL_colour_0 : decode cL_colour 0 = .ok (.aload 4, 2) := by decide +kernel
theorem dL_colour_2 : decode cL_colour 2 = .ok (.iconst 0, 1) := by decide +kernel
theorem dL_colour_3 : decode cL_colour 3 = .ok (.aload_n 0, 1) := by decide +kernel
theorem dL_colour_4 : decode cL_colour 4 = .ok (.iload_n 1, 1) := by decide +kernel
theorem dL_colour_5 : decode cL_colour 5 = .ok (.iload_n 2, 1) := by decide +kernel
theorem dL_colour_6 : decode cL_colour 6 = .ok (.iload_n 3, 1) := by decide +kernel
theorem dL_colour_7 : decode cL_colour 7 = .ok (.invokevirtual 7, 3) := by decide +kernel
theorem dL_colour_10 : decode cL_colour 10 = .ok (.i2l, 1) := by decide +kernel
theorem dL_colour_11 : decode cL_colour 11 = .ok (.lastore, 1) := by decide +kernel
theorem dL_colour_12 : decode cL_colour 12 = .ok (.goto 11, 3) := by decide +kernel
theorem dL_colour_15 : decode cL_colour 15 = .ok (.astore 5, 2) := by decide +kernel
theorem dL_colour_17 : decode cL_colour 17 = .ok (.iconst 1, 1) := by decide +kernel
theorem dL_colour_18 : decode cL_colour 18 = .ok (.ireturn, 1) := by decide +kernel
theorem dL_colour_19 : decode cL_colour 19 = .ok (.astore 5, 2) := by decide +kernel
theorem dL_colour_21 : decode cL_colour 21 = .ok (.iconst 2, 1) := by decide +kernel
theorem dL_colour_22 : decode cL_colour 22 = .ok (.ireturn, 1) := by decide +kernel
theorem dL_colour_23 : decode cL_colour 23 = .ok (.iconst 0, 1) := by decide +kernel
theorem dL_colour_24 : decode cL_colour 24 = .ok (.ireturn, 1) := by decide +kernel
set_option maxRecDepth 20000 in
theorem ggL_row_X4_row : GoodIn wsL_row wsX4_row := goodIn_ca (goodIn_r _ [6, 7, 8, 9, 5, 10, 11, 12, 13, 14, 15, 16, 17, 18, 19, 20, 21, 22, 23, 24, 25, 26, 27, 28, 29, 30] (by decide +kernel) (by decide +kernel)) (goodIn_sub (fun _ h => List.mem_cons_of_mem _ (List.mem_append_right _ h)) (by decide +kernel))
set_option maxRecDepth 20000 in
theorem gL_row_X4_row : GoodIn wsL_row (wsV RL 17 RX4 yX4_row wsX4_row) := goodIn_app (goodIn_of _ (by decide +kernel)) ggL_row_X4_row
theorem dL_row_0 : decode cL_row 0 = .ok (.aload_n 3, 1) := by decide +kernel
theorem dL_row_1 : decode cL_row 1 = .ok (.iconst 0, 1) := by decide +kernel
theorem dL_row_2 : decode cL_row 2 = .ok (.aload_n 0, 1) := by decide +kernel
theorem dL_row_3 : decode cL_row 3 = .ok (.iload_n 1, 1) := by decide +kernel
theorem dL_row_4 : decode cL_row 4 = .ok (.iload_n 2, 1) := by decide +kernel
theorem dL_row_5 : decode cL_row 5 = .ok (.invokevirtual 17, 3) := by decide +kernel
theorem dL_row_8 : decode cL_row 8 = .ok (.i2l, 1) := by decide +kernel
theorem dL_row_9 : decode cL_row 9 = .ok (.lastore, 1) := by decide +kernel
theorem dL_row_10 : decode cL_row 10 = .ok (.goto 7, 3) := by decide +kernel
theorem dL_row_13 : decode cL_row 13 = .ok (.astore 4, 2) := by decide +kernel
theorem dL_row_15 : decode cL_row 15 = .ok (.iconst 1, 1) := by decide +kernel
theorem dL_row_16 : decode cL_row 16 = .ok (.ireturn, 1) := by decide +kernel
theorem dL_row_17 : decode cL_row 17 = .ok (.iconst 0, 1) := by decide +kernel
theorem dL_row_18 : decode cL_row 18 = .ok (.ireturn, 1) := by decide +kernel
set_option maxRecDepth 20000 in
theorem ggL_knot_X4_knot : GoodIn wsL_knot wsX4_knot := goodIn_ca (goodIn_ca (goodIn_r _ [7, 8, 9, 10, 6, 11, 12, 13, 14, 15, 16, 17, 18, 19, 20, 21, 22, 23, 24, 25, 26, 27, 28, 29, 30, 31, 32, 33, 34, 35, 36, 37, 38, 39, 40, 41, 42, 43, 44, 45] (by decide +kernel) (by decide +kernel)) (goodIn_sub (fun _ h => List.mem_cons_of_mem _ (List.mem_append_left _ (List.mem_append_right _ h))) (by decide +kernel))) (goodIn_sub (fun _ h => List.mem_cons_of_mem _ (List.mem_append_right _ h)) (by decide +kernel))
set_option maxRecDepth 20000 in
theorem gL_knot_X4_knot : GoodIn wsL_knot (wsV RL 21 RX4 yX4_knot wsX4_knot) := goodIn_app (goodIn_of _ (by decide +kernel)) ggL_knot_X4_knot
theorem dL_knot_0 : decode cL_knot 0 = .ok (.aload 5, 2) := by decide +kernel
theorem dL_knot_2 : decode cL_knot 2 = .ok (.iconst 0, 1) := by decide +kernel
theorem dL_knot_3 : decode cL_knot 3 = .ok (.aload_n 0, 1) := by decide +kernel
theorem dL_knot_4 : decode cL_knot 4 = .ok (.iload_n 1, 1) := by decide +kernel
theorem dL_knot_5 : decode cL_knot 5 = .ok (.iload_n 2, 1) := by decide +kernel
theorem dL_knot_6 : decode cL_knot 6 = .ok (.iload_n 3, 1) := by decide +kernel
theorem dL_knot_7 : decode cL_knot 7 = .ok (.iload 4, 2) := by decide +kernel
theorem dL_knot_9 : decode cL_knot 9 = .ok (.invokevirtual 21, 3) := by decide +kernel
theorem dL_knot_12 : decode cL_knot 12 = .ok (.i2l, 1) := by decide +kernel
theorem dL_knot_13 : decode cL_knot 13 = .ok (.lastore, 1) := by decide +kernel
theorem dL_knot_14 : decode cL_knot 14 = .ok (.goto 11, 3) := by decide +kernel
theorem dL_knot_17 : decode cL_knot 17 = .ok (.astore 6, 2) := by decide +kernel
theorem dL_knot_19 : decode cL_knot 19 = .ok (.iconst 1, 1) := by decide +kernel
theorem dL_knot_20 : decode cL_knot 20 = .ok (.ireturn, 1) := by decide +kernel
theorem dL_knot_21 : decode cL_knot 21 = .ok (.astore 6, 2) := by decide +kernel
theorem dL_knot_23 : decode cL_knot 23 = .ok (.iconst 2, 1) := by decide +kernel
theorem dL_knot_24 : decode cL_knot 24 = .ok (.ireturn, 1) := by decide +kernel
theorem dL_knot_25 : decode cL_knot 25 = .ok (.iconst 0, 1) := by decide +kernel
theorem dL_knot_26 : decode cL_knot 26 = .ok (.ireturn, 1) := by decide +kernel
set_option maxRecDepth 20000 in
theorem ggL_shows_X4_shows : GoodIn wsL_shows wsX4_shows := goodIn_ca (goodIn_r _ [6, 7, 8, 9, 5, 10, 11, 12, 13, 14, 15, 16, 17, 18, 19, 20, 21, 22, 23, 24, 25, 26, 27, 28, 29, 30, 31, 32, 33, 34, 35, 36, 37, 38, 39, 40, 41, 42, 43, 44, 45, 46, 47, 48, 49, 50, 51, 52, 53, 54, 55, 56, 57] (by decide +kernel) (by decide +kernel)) (goodIn_sub (fun _ h => List.mem_cons_of_mem _ (List.mem_append_right _ h)) (by decide +kernel))
set_option maxRecDepth 20000 in
theorem gL_shows_X4_shows : GoodIn wsL_shows (wsV RL 25 RX4 yX4_shows wsX4_shows) := goodIn_app (goodIn_of _ (by decide +kernel)) ggL_shows_X4_shows
theorem dL_shows_0 : decode cL_shows 0 = .ok (.aload 4, 2) := by decide +kernel
theorem dL_shows_2 : decode cL_shows 2 = .ok (.iconst 0, 1) := by decide +kernel
theorem dL_shows_3 : decode cL_shows 3 = .ok (.aload_n 0, 1) := by decide +kernel
theorem dL_shows_4 : decode cL_shows 4 = .ok (.iload_n 1, 1) := by decide +kernel
theorem dL_shows_5 : decode cL_shows 5 = .ok (.iload_n 2, 1) := by decide +kernel
theorem dL_shows_6 : decode cL_shows 6 = .ok (.iload_n 3, 1) := by decide +kernel
theorem dL_shows_7 : decode cL_shows 7 = .ok (.invokevirtual 25, 3) := by decide +kernel
theorem dL_shows_10 : decode cL_shows 10 = .ok (.i2l, 1) := by decide +kernel
theorem dL_shows_11 : decode cL_shows 11 = .ok (.lastore, 1) := by decide +kernel
theorem dL_shows_12 : decode cL_shows 12 = .ok (.goto 7, 3) := by decide +kernel
theorem dL_shows_15 : decode cL_shows 15 = .ok (.astore 5, 2) := by decide +kernel
theorem dL_shows_17 : decode cL_shows 17 = .ok (.iconst 1, 1) := by decide +kernel
theorem dL_shows_18 : decode cL_shows 18 = .ok (.ireturn, 1) := by decide +kernel
theorem dL_shows_19 : decode cL_shows 19 = .ok (.iconst 0, 1) := by decide +kernel
theorem dL_shows_20 : decode cL_shows 20 = .ok (.ireturn, 1) := by decide +kernel
set_option maxRecDepth 20000 in
theorem ggL_thread_X4_thread : GoodIn wsL_thread wsX4_thread := goodIn_ca (goodIn_r _ [6, 7, 8, 9, 5, 10, 11, 12, 13, 14, 15, 16, 17, 18, 19, 20, 21, 22, 23, 24, 25, 26, 27, 28, 29, 30, 31, 32, 33, 34, 35, 36, 37, 38, 39, 40, 41, 42, 43, 44, 45, 46, 47, 48, 49, 50, 51, 52, 53, 54, 55] (by decide +kernel) (by decide +kernel)) (goodIn_sub (fun _ h => List.mem_cons_of_mem _ (List.mem_append_right _ h)) (by decide +kernel))
set_option maxRecDepth 20000 in
theorem gL_thread_X4_thread : GoodIn wsL_thread (wsV RL 28 RX4 yX4_thread wsX4_thread) := goodIn_app (goodIn_of _ (by decide +kernel)) ggL_thread_X4_thread
theorem dL_thread_0 : decode cL_thread 0 = .ok (.aload 4, 2) := by decide +kernel
theorem dL_thread_2 : decode cL_thread 2 = .ok (.iconst 0, 1) := by decide +kernel
theorem dL_thread_3 : decode cL_thread 3 = .ok (.aload_n 0, 1) := by decide +kernel
theorem dL_thread_4 : decode cL_thread 4 = .ok (.iload_n 1, 1) := by decide +kernel
theorem dL_thread_5 : decode cL_thread 5 = .ok (.iload_n 2, 1) := by decide +kernel
theorem dL_thread_6 : decode cL_thread 6 = .ok (.iload_n 3, 1) := by decide +kernel
theorem dL_thread_7 : decode cL_thread 7 = .ok (.invokevirtual 28, 3) := by decide +kernel
theorem dL_thread_10 : decode cL_thread 10 = .ok (.i2l, 1) := by decide +kernel
theorem dL_thread_11 : decode cL_thread 11 = .ok (.lastore, 1) := by decide +kernel
theorem dL_thread_12 : decode cL_thread 12 = .ok (.goto 7, 3) := by decide +kernel
theorem dL_thread_15 : decode cL_thread 15 = .ok (.astore 5, 2) := by decide +kernel
theorem dL_thread_17 : decode cL_thread 17 = .ok (.iconst 1, 1) := by decide +kernel
theorem dL_thread_18 : decode cL_thread 18 = .ok (.ireturn, 1) := by decide +kernel
theorem dL_thread_19 : decode cL_thread 19 = .ok (.iconst 0, 1) := by decide +kernel
theorem dL_thread_20 : decode cL_thread 20 = .ok (.ireturn, 1) := by decide +kernel
set_option maxRecDepth 20000 in
theorem ggL_used_X4_used : GoodIn wsL_used wsX4_used := goodIn_ca (goodIn_r _ [6, 7, 8, 9, 5, 10, 11, 12, 13, 14, 15, 16, 17, 18, 19, 20, 21, 22, 23, 24, 25, 26, 27, 28, 29, 30, 31, 32, 33, 34, 35, 36, 37, 38, 39, 40, 41, 42, 43, 44, 45, 46, 47, 48, 49, 50, 51, 52, 53, 54, 55] (by decide +kernel) (by decide +kernel)) (goodIn_sub (fun _ h => List.mem_cons_of_mem _ (List.mem_append_right _ h)) (by decide +kernel))
set_option maxRecDepth 20000 in
theorem gL_used_X4_used : GoodIn wsL_used (wsV RL 31 RX4 yX4_used wsX4_used) := goodIn_app (goodIn_of _ (by decide +kernel)) ggL_used_X4_used
theorem dL_used_0 : decode cL_used 0 = .ok (.aload_n 3, 1) := by decide +kernel
theorem dL_used_1 : decode cL_used 1 = .ok (.iconst 0, 1) := by decide +kernel
theorem dL_used_2 : decode cL_used 2 = .ok (.aload_n 0, 1) := by decide +kernel
theorem dL_used_3 : decode cL_used 3 = .ok (.iload_n 1, 1) := by decide +kernel
theorem dL_used_4 : decode cL_used 4 = .ok (.iload_n 2, 1) := by decide +kernel
theorem dL_used_5 : decode cL_used 5 = .ok (.invokevirtual 31, 3) := by decide +kernel
theorem dL_used_8 : decode cL_used 8 = .ok (.i2l, 1) := by decide +kernel
theorem dL_used_9 : decode cL_used 9 = .ok (.lastore, 1) := by decide +kernel
theorem dL_used_10 : decode cL_used 10 = .ok (.goto 7, 3) := by decide +kernel
theorem dL_used_13 : decode cL_used 13 = .ok (.astore 4, 2) := by decide +kernel
theorem dL_used_15 : decode cL_used 15 = .ok (.iconst 1, 1) := by decide +kernel
theorem dL_used_16 : decode cL_used 16 = .ok (.ireturn, 1) := by decide +kernel
theorem dL_used_17 : decode cL_used 17 = .ok (.iconst 0, 1) := by decide +kernel
theorem dL_used_18 : decode cL_used 18 = .ok (.ireturn, 1) := by decide +kernel
set_option maxRecDepth 20000 in
theorem ggL_home_X4_home : GoodIn wsL_home wsX4_home := goodIn_ca (goodIn_r _ [6, 7, 8, 9, 5, 10, 11, 12, 13, 14, 15, 16, 17, 18, 19, 20, 21, 22, 23, 24, 25, 26, 27, 28, 29, 30, 31, 32, 33, 34, 35, 36, 37, 38, 39, 40, 41, 42, 43, 44, 45, 46, 47, 48, 49, 50, 51, 52, 53, 54, 55, 56, 57, 58, 59, 60, 61, 62, 63, 64, 65] (by decide +kernel) (by decide +kernel)) (goodIn_sub (fun _ h => List.mem_cons_of_mem _ (List.mem_append_right _ h)) (by decide +kernel))
set_option maxRecDepth 20000 in
theorem gL_home_X4_home : GoodIn wsL_home (wsV RL 34 RX4 yX4_home wsX4_home) := goodIn_app (goodIn_of _ (by decide +kernel)) ggL_home_X4_home
theorem dL_home_0 : decode cL_home 0 = .ok (.aload_n 3, 1) := by decide +kernel
theorem dL_home_1 : decode cL_home 1 = .ok (.iconst 0, 1) := by decide +kernel
theorem dL_home_2 : decode cL_home 2 = .ok (.aload_n 0, 1) := by decide +kernel
theorem dL_home_3 : decode cL_home 3 = .ok (.iload_n 1, 1) := by decide +kernel
theorem dL_home_4 : decode cL_home 4 = .ok (.iload_n 2, 1) := by decide +kernel
theorem dL_home_5 : decode cL_home 5 = .ok (.invokevirtual 34, 3) := by decide +kernel
theorem dL_home_8 : decode cL_home 8 = .ok (.i2l, 1) := by decide +kernel
theorem dL_home_9 : decode cL_home 9 = .ok (.lastore, 1) := by decide +kernel
theorem dL_home_10 : decode cL_home 10 = .ok (.goto 7, 3) := by decide +kernel
theorem dL_home_13 : decode cL_home 13 = .ok (.astore 4, 2) := by decide +kernel
theorem dL_home_15 : decode cL_home 15 = .ok (.iconst 1, 1) := by decide +kernel
theorem dL_home_16 : decode cL_home 16 = .ok (.ireturn, 1) := by decide +kernel
theorem dL_home_17 : decode cL_home 17 = .ok (.iconst 0, 1) := by decide +kernel
theorem dL_home_18 : decode cL_home 18 = .ok (.ireturn, 1) := by decide +kernel
set_option maxRecDepth 20000 in
theorem ggL_unlike_X4_unlike : GoodIn wsL_unlike wsX4_unlike := goodIn_ca (goodIn_ca (goodIn_r _ [7, 8, 9, 10, 11, 12, 6, 13, 14, 15, 16, 17, 18, 19, 20, 21, 22, 23, 24, 25, 26, 27, 28, 29, 30, 31, 32, 33, 34, 35, 36, 37, 38, 39, 40, 41, 42, 43, 44, 45, 46, 47, 48, 49, 50, 51, 52, 53, 54, 55, 56, 57, 58, 59, 60] (by decide +kernel) (by decide +kernel)) (goodIn_sub (fun _ h => List.mem_cons_of_mem _ (List.mem_append_left _ (List.mem_append_right _ h))) (by decide +kernel))) (goodIn_sub (fun _ h => List.mem_cons_of_mem _ (List.mem_append_right _ h)) (by decide +kernel))
set_option maxRecDepth 20000 in
theorem gL_unlike_X4_unlike : GoodIn wsL_unlike (wsV RL 37 RX4 yX4_unlike wsX4_unlike) := goodIn_app (goodIn_of _ (by decide +kernel)) ggL_unlike_X4_unlike
theorem dL_unlike_0 : decode cL_unlike 0 = .ok (.aload_n 3, 1) := by decide +kernel
theorem dL_unlike_1 : decode cL_unlike 1 = .ok (.iconst 0, 1) := by decide +kernel
theorem dL_unlike_2 : decode cL_unlike 2 = .ok (.aload_n 0, 1) := by decide +kernel
theorem dL_unlike_3 : decode cL_unlike 3 = .ok (.iload_n 1, 1) := by decide +kernel
theorem dL_unlike_4 : decode cL_unlike 4 = .ok (.iload_n 2, 1) := by decide +kernel
theorem dL_unlike_5 : decode cL_unlike 5 = .ok (.invokevirtual 37, 3) := by decide +kernel
theorem dL_unlike_8 : decode cL_unlike 8 = .ok (.i2l, 1) := by decide +kernel
theorem dL_unlike_9 : decode cL_unlike 9 = .ok (.lastore, 1) := by decide +kernel
theorem dL_unlike_10 : decode cL_unlike 10 = .ok (.goto 11, 3) := by decide +kernel
theorem dL_unlike_13 : decode cL_unlike 13 = .ok (.astore 4, 2) := by decide +kernel
theorem dL_unlike_15 : decode cL_unlike 15 = .ok (.iconst 1, 1) := by decide +kernel
theorem dL_unlike_16 : decode cL_unlike 16 = .ok (.ireturn, 1) := by decide +kernel
theorem dL_unlike_17 : decode cL_unlike 17 = .ok (.astore 4, 2) := by decide +kernel
theorem dL_unlike_19 : decode cL_unlike 19 = .ok (.iconst 2, 1) := by decide +kernel
theorem dL_unlike_20 : decode cL_unlike 20 = .ok (.ireturn, 1) := by decide +kernel
theorem dL_unlike_21 : decode cL_unlike 21 = .ok (.iconst 0, 1) := by decide +kernel
theorem dL_unlike_22 : decode cL_unlike 22 = .ok (.ireturn, 1) := by decide +kernel
set_option maxRecDepth 20000 in
theorem ggL_see_X4_see : GoodIn wsL_see wsX4_see := goodIn_ca (goodIn_ca (goodIn_r _ [7, 8, 9, 10, 6, 11, 12, 13, 14, 15, 16, 17, 18, 19, 20, 21, 22, 23, 24, 25, 26, 27, 28, 29, 30, 31, 32, 33, 34, 35, 36, 37, 38, 39, 40, 41, 42, 43, 44] (by decide +kernel) (by decide +kernel)) (goodIn_sub (fun _ h => List.mem_cons_of_mem _ (List.mem_append_left _ (List.mem_append_right _ h))) (by decide +kernel))) (goodIn_sub (fun _ h => List.mem_cons_of_mem _ (List.mem_append_right _ h)) (by decide +kernel))
set_option maxRecDepth 20000 in
theorem gL_see_X4_see : GoodIn wsL_see (wsV RL 40 RX4 yX4_see wsX4_see) := goodIn_app (goodIn_of _ (by decide +kernel)) ggL_see_X4_see
theorem dL_see_0 : decode cL_see 0 = .ok (.aload 5, 2) := by decide +kernel
theorem dL_see_2 : decode cL_see 2 = .ok (.iconst 0, 1) := by decide +kernel
theorem dL_see_3 : decode cL_see 3 = .ok (.aload_n 0, 1) := by decide +kernel
theorem dL_see_4 : decode cL_see 4 = .ok (.iload_n 1, 1) := by decide +kernel
theorem dL_see_5 : decode cL_see 5 = .ok (.iload_n 2, 1) := by decide +kernel
theorem dL_see_6 : decode cL_see 6 = .ok (.iload_n 3, 1) := by decide +kernel
theorem dL_see_7 : decode cL_see 7 = .ok (.iload 4, 2) := by decide +kernel
theorem dL_see_9 : decode cL_see 9 = .ok (.invokevirtual 40, 3) := by decide +kernel
theorem dL_see_12 : decode cL_see 12 = .ok (.i2l, 1) := by decide +kernel
theorem dL_see_13 : decode cL_see 13 = .ok (.lastore, 1) := by decide +kernel
theorem dL_see_14 : decode cL_see 14 = .ok (.goto 11, 3) := by decide +kernel
theorem dL_see_17 : decode cL_see 17 = .ok (.astore 6, 2) := by decide +kernel
theorem dL_see_19 : decode cL_see 19 = .ok (.iconst 1, 1) := by decide +kernel
theorem dL_see_20 : decode cL_see 20 = .ok (.ireturn, 1) := by decide +kernel
theorem dL_see_21 : decode cL_see 21 = .ok (.astore 6, 2) := by decide +kernel
theorem dL_see_23 : decode cL_see 23 = .ok (.iconst 2, 1) := by decide +kernel
theorem dL_see_24 : decode cL_see 24 = .ok (.ireturn, 1) := by decide +kernel
theorem dL_see_25 : decode cL_see 25 = .ok (.iconst 0, 1) := by decide +kernel
theorem dL_see_26 : decode cL_see 26 = .ok (.ireturn, 1) := by decide +kernel
set_option maxRecDepth 20000 in
theorem ggL_must_X4_must : GoodIn wsL_must wsX4_must := goodIn_ca (goodIn_ca (goodIn_r _ [7, 8, 9, 10, 6, 11, 12, 13, 14, 15, 16, 17, 18, 19, 20, 21, 22, 23, 24, 25, 26, 27, 28, 29, 30, 31, 32, 33, 34, 35, 36, 37, 38] (by decide +kernel) (by decide +kernel)) (goodIn_sub (fun _ h => List.mem_cons_of_mem _ (List.mem_append_left _ (List.mem_append_right _ h))) (by decide +kernel))) (goodIn_sub (fun _ h => List.mem_cons_of_mem _ (List.mem_append_right _ h)) (by decide +kernel))
set_option maxRecDepth 20000 in
theorem gL_must_X4_must : GoodIn wsL_must (wsV RL 43 RX4 yX4_must wsX4_must) := goodIn_app (goodIn_of _ (by decide +kernel)) ggL_must_X4_must
theorem dL_must_0 : decode cL_must 0 = .ok (.aload 4, 2) := by decide +kernel
theorem dL_must_2 : decode cL_must 2 = .ok (.iconst 0, 1) := by decide +kernel
theorem dL_must_3 : decode cL_must 3 = .ok (.aload_n 0, 1) := by decide +kernel
theorem dL_must_4 : decode cL_must 4 = .ok (.iload_n 1, 1) := by decide +kernel
theorem dL_must_5 : decode cL_must 5 = .ok (.iload_n 2, 1) := by decide +kernel
theorem dL_must_6 : decode cL_must 6 = .ok (.iload_n 3, 1) := by decide +kernel
theorem dL_must_7 : decode cL_must 7 = .ok (.invokevirtual 43, 3) := by decide +kernel
theorem dL_must_10 : decode cL_must 10 = .ok (.i2l, 1) := by decide +kernel
theorem dL_must_11 : decode cL_must 11 = .ok (.lastore, 1) := by decide +kernel
theorem dL_must_12 : decode cL_must 12 = .ok (.goto 11, 3) := by decide +kernel
theorem dL_must_15 : decode cL_must 15 = .ok (.astore 5, 2) := by decide +kernel
theorem dL_must_17 : decode cL_must 17 = .ok (.iconst 1, 1) := by decide +kernel
theorem dL_must_18 : decode cL_must 18 = .ok (.ireturn, 1) := by decide +kernel
theorem dL_must_19 : decode cL_must 19 = .ok (.astore 5, 2) := by decide +kernel
theorem dL_must_21 : decode cL_must 21 = .ok (.iconst 2, 1) := by decide +kernel
theorem dL_must_22 : decode cL_must 22 = .ok (.ireturn, 1) := by decide +kernel
theorem dL_must_23 : decode cL_must 23 = .ok (.iconst 0, 1) := by decide +kernel
theorem dL_must_24 : decode cL_must 24 = .ok (.ireturn, 1) := by decide +kernel
set_option maxRecDepth 20000 in
theorem ggL_copy_X4_copy : GoodIn wsL_copy wsX4_copy := goodIn_ca (goodIn_r _ [6, 7, 8, 9, 5, 10, 11, 12, 13, 14, 15, 16, 17, 18, 19, 20, 21, 22, 23, 24, 25, 26, 27, 28, 29, 30, 31, 32, 33, 34, 35, 36, 37, 38, 39, 40, 41, 42, 43, 44, 45, 46, 47, 48, 49, 50, 51, 52, 53, 54, 55, 56, 57, 58, 59, 60, 61, 62, 63, 64, 65, 66, 67, 68, 69, 70, 71] (by decide +kernel) (by decide +kernel)) (goodIn_sub (fun _ h => List.mem_cons_of_mem _ (List.mem_append_right _ h)) (by decide +kernel))
set_option maxRecDepth 20000 in
theorem gL_copy_X4_copy : GoodIn wsL_copy (wsV RL 46 RX4 yX4_copy wsX4_copy) := goodIn_app (goodIn_of _ (by decide +kernel)) ggL_copy_X4_copy
theorem dL_copy_0 : decode cL_copy 0 = .ok (.aload_n 3, 1) := by decide +kernel
theorem dL_copy_1 : decode cL_copy 1 = .ok (.iconst 0, 1) := by decide +kernel
theorem dL_copy_2 : decode cL_copy 2 = .ok (.aload_n 0, 1) := by decide +kernel
theorem dL_copy_3 : decode cL_copy 3 = .ok (.iload_n 1, 1) := by decide +kernel
theorem dL_copy_4 : decode cL_copy 4 = .ok (.iload_n 2, 1) := by decide +kernel
theorem dL_copy_5 : decode cL_copy 5 = .ok (.invokevirtual 46, 3) := by decide +kernel
theorem dL_copy_8 : decode cL_copy 8 = .ok (.ifCond .eq 7, 3) := by decide +kernel
theorem dL_copy_11 : decode cL_copy 11 = .ok (.lconst 1, 1) := by decide +kernel
theorem dL_copy_12 : decode cL_copy 12 = .ok (.goto 4, 3) := by decide +kernel
theorem dL_copy_15 : decode cL_copy 15 = .ok (.lconst 0, 1) := by decide +kernel
theorem dL_copy_16 : decode cL_copy 16 = .ok (.lastore, 1) := by decide +kernel
theorem dL_copy_17 : decode cL_copy 17 = .ok (.goto 7, 3) := by decide +kernel
theorem dL_copy_20 : decode cL_copy 20 = .ok (.astore 4, 2) := by decide +kernel
theorem dL_copy_22 : decode cL_copy 22 = .ok (.iconst 1, 1) := by decide +kernel
theorem dL_copy_23 : decode cL_copy 23 = .ok (.ireturn, 1) := by decide +kernel
theorem dL_copy_24 : decode cL_copy 24 = .ok (.iconst 0, 1) := by decide +kernel
theorem dL_copy_25 : decode cL_copy 25 = .ok (.ireturn, 1) := by decide +kernel
set_option maxRecDepth 20000 in
theorem ggL_starts_X4_starts : GoodIn wsL_starts wsX4_starts := goodIn_ca (goodIn_r _ [6, 7, 8, 9, 5, 10, 11, 12, 13, 14, 15, 16, 17, 18, 19, 20, 21, 22, 23, 24, 25, 26, 27, 28, 29, 30, 31, 32, 33, 34, 35, 36, 37, 38, 39, 40, 41, 42, 43, 44, 45, 46, 47, 48, 49, 50, 51, 52, 53, 54, 55, 56, 57, 58, 59, 60, 61, 62, 63, 64, 65, 66, 67, 68, 69, 70, 71, 72, 73, 74, 75, 76, 77, 78, 79, 80, 81, 82, 83, 84, 85, 86, 87, 88, 89, 90, 91, 92, 93, 94, 95, 96, 97, 98, 99, 100, 101, 102, 103, 104, 105, 106, 107, 108, 109, 110, 111, 112, 113, 114, 115, 116, 117, 118, 119, 120, 121, 122, 123, 124, 125, 126, 127, 128, 129, 130, 131, 132, 133, 134, 135, 136, 137, 138, 139, 140, 141, 142, 143, 144, 145, 146, 147, 148, 149, 150, 151, 152, 153, 154] (by decide +kernel) (by decide +kernel)) (goodIn_sub (fun _ h => List.mem_cons_of_mem _ (List.mem_append_right _ h)) (by decide +kernel))
set_option maxRecDepth 20000 in
theorem gL_starts_X4_starts : GoodIn wsL_starts (wsV RL 50 RX4 yX4_starts wsX4_starts) := goodIn_app (goodIn_of _ (by decide +kernel)) ggL_starts_X4_starts
theorem dL_starts_0 : decode cL_starts 0 = .ok (.aload_n 2, 1) := by decide +kernel
theorem dL_starts_1 : decode cL_starts 1 = .ok (.iconst 0, 1) := by decide +kernel
theorem dL_starts_2 : decode cL_starts 2 = .ok (.aload_n 0, 1) := by decide +kernel
theorem dL_starts_3 : decode cL_starts 3 = .ok (.iload_n 1, 1) := by decide +kernel
theorem dL_starts_4 : decode cL_starts 4 = .ok (.invokevirtual 50, 3) := by decide +kernel
theorem dL_starts_7 : decode cL_starts 7 = .ok (.i2l, 1) := by decide +kernel
theorem dL_starts_8 : decode cL_starts 8 = .ok (.lastore, 1) := by decide +kernel
theorem dL_starts_9 : decode cL_starts 9 = .ok (.goto 6, 3) := by decide +kernel
theorem dL_starts_12 : decode cL_starts 12 = .ok (.astore_n 3, 1) := by decide +kernel
theorem dL_starts_13 : decode cL_starts 13 = .ok (.iconst 1, 1) := by decide +kernel
theorem dL_starts_14 : decode cL_starts 14 = .ok (.ireturn, 1) := by decide +kernel
theorem dL_starts_15 : decode cL_starts 15 = .ok (.iconst 0, 1) := by decide +kernel
theorem dL_starts_16 : decode cL_starts 16 = .ok (.ireturn, 1) := by decide +kernel
set_option maxRecDepth 20000 in
theorem ggL_start_X4_start : GoodIn wsL_start wsX4_start := goodIn_ca (goodIn_r _ [6, 7, 8, 9, 5, 10, 11, 12, 13, 14, 15, 16, 17, 18, 19, 20, 21, 22, 23, 24, 25, 26, 27, 28, 29, 30, 31, 32, 33, 34, 35, 36, 37, 38, 39, 40, 41, 42, 43, 44, 45, 46, 47, 48, 49, 50, 51, 52, 53, 54, 55, 56, 57, 58, 59, 60, 61, 62, 63, 64, 65, 66, 67, 68, 69, 70, 71, 72, 73, 74, 75, 76, 77, 78, 79, 80, 81, 82, 83, 84, 85, 86, 87, 88, 89, 90, 91, 92, 93, 94, 95, 96, 97, 98, 99, 100, 101, 102, 103, 104, 105, 106, 107, 108, 109, 110, 111, 112, 113, 114, 115, 116, 117, 118, 119, 120, 121, 122, 123, 124, 125, 126, 127, 128, 129, 130, 131, 132, 133, 134, 135, 136, 137, 138, 139, 140, 141, 142, 143, 144, 145, 146, 147, 148, 149, 150, 151, 152, 153, 154, 155] (by decide +kernel) (by decide +kernel)) (goodIn_sub (fun _ h => List.mem_cons_of_mem _ (List.mem_append_right _ h)) (by decide +kernel))
set_option maxRecDepth 20000 in
theorem gL_start_X4_start : GoodIn wsL_start (wsV RL 54 RX4 yX4_start wsX4_start) := goodIn_app (goodIn_of _ (by decide +kernel)) ggL_start_X4_start
theorem dL_start_0 : decode cL_start 0 = .ok (.aload_n 3, 1) := by decide +kernel
theorem dL_start_1 : decode cL_start 1 = .ok (.iconst 0, 1) := by decide +kernel
theorem dL_start_2 : decode cL_start 2 = .ok (.aload_n 0, 1) := by decide +kernel
theorem dL_start_3 : decode cL_start 3 = .ok (.iload_n 1, 1) := by decide +kernel
theorem dL_start_4 : decode cL_start 4 = .ok (.iload_n 2, 1) := by decide +kernel
theorem dL_start_5 : decode cL_start 5 = .ok (.invokevirtual 54, 3) := by decide +kernel
theorem dL_start_8 : decode cL_start 8 = .ok (.i2l, 1) := by decide +kernel
theorem dL_start_9 : decode cL_start 9 = .ok (.lastore, 1) := by decide +kernel
theorem dL_start_10 : decode cL_start 10 = .ok (.goto 7, 3) := by decide +kernel
theorem dL_start_13 : decode cL_start 13 = .ok (.astore 4, 2) := by decide +kernel
theorem dL_start_15 : decode cL_start 15 = .ok (.iconst 1, 1) := by decide +kernel
theorem dL_start_16 : decode cL_start 16 = .ok (.ireturn, 1) := by decide +kernel
theorem dL_start_17 : decode cL_start 17 = .ok (.iconst 0, 1) := by decide +kernel
theorem dL_start_18 : decode cL_start 18 = .ok (.ireturn, 1) := by decide +kernel
set_option maxRecDepth 20000 in
theorem ggL_tie_X4_tie : GoodIn wsL_tie wsX4_tie := goodIn_ca (goodIn_r _ [6, 7, 8, 9, 10, 11, 5, 12, 13, 14, 15, 16, 17, 18, 19, 20, 21, 22, 23, 24, 25, 26, 27, 28, 29, 30, 31, 32, 33, 34, 35, 36, 37, 38, 39, 40, 41, 42, 43, 44, 45, 46, 47, 48, 49, 50, 51, 52, 53, 54, 55, 56, 57, 58, 59, 60, 61, 62, 63, 64, 65, 66, 67, 68, 69, 70, 71, 72, 73, 74, 75, 76, 77, 78, 79, 80, 81, 82, 83, 84, 85, 86, 87, 88, 89, 90, 91, 92, 93, 94, 95, 96, 97, 98, 99, 100, 101, 102, 103, 104, 105, 106, 107, 108, 109, 110, 111, 112, 113, 114, 115, 116, 117, 118, 119, 120, 121, 122, 123, 124, 125, 126, 127, 128, 129, 130, 131, 132, 133, 134, 135, 136, 137, 138, 139, 140, 141, 142, 143, 144, 145, 146, 147, 148, 149, 150, 151, 152, 153, 154, 155, 156, 157, 158, 159, 160, 161, 162, 163, 164, 165, 166, 167, 168, 169, 170, 171, 172, 173] (by decide +kernel) (by decide +kernel)) (goodIn_sub (fun _ h => List.mem_cons_of_mem _ (List.mem_append_right _ h)) (by decide +kernel))
set_option maxRecDepth 20000 in
theorem gL_tie_X4_tie : GoodIn wsL_tie (wsV RL 57 RX4 yX4_tie wsX4_tie) := goodIn_app (goodIn_of _ (by decide +kernel)) ggL_tie_X4_tie
theorem dL_tie_0 : decode cL_tie 0 = .ok (.aload_n 2, 1) := by decide +kernel
theorem dL_tie_1 : decode cL_tie 1 = .ok (.iconst 0, 1) := by decide +kernel
theorem dL_tie_2 : decode cL_tie 2 = .ok (.aload_n 0, 1) := by decide +kernel
theorem dL_tie_3 : decode cL_tie 3 = .ok (.iload_n 1, 1) := by decide +kernel
theorem dL_tie_4 : decode cL_tie 4 = .ok (.invokevirtual 57, 3) := by decide +kernel
theorem dL_tie_7 : decode cL_tie 7 = .ok (.i2l, 1) := by decide +kernel
theorem dL_tie_8 : decode cL_tie 8 = .ok (.lastore, 1) := by decide +kernel
theorem dL_tie_9 : decode cL_tie 9 = .ok (.goto 6, 3) := by decide +kernel
theorem dL_tie_12 : decode cL_tie 12 = .ok (.astore_n 3, 1) := by decide +kernel
theorem dL_tie_13 : decode cL_tie 13 = .ok (.iconst 1, 1) := by decide +kernel
theorem dL_tie_14 : decode cL_tie 14 = .ok (.ireturn, 1) := by decide +kernel
theorem dL_tie_15 : decode cL_tie 15 = .ok (.iconst 0, 1) := by decide +kernel
theorem dL_tie_16 : decode cL_tie 16 = .ok (.ireturn, 1) := by decide +kernel
set_option maxRecDepth 20000 in
theorem ggL_suspect_X4_suspect : GoodIn wsL_suspect wsX4_suspect := goodIn_ca (goodIn_r _ [6, 7, 8, 9, 5, 10, 11, 12, 13, 14, 15, 16, 17, 18, 19, 20, 21, 22, 23, 24, 25, 26, 27, 28, 29, 30, 31, 32, 33, 34, 35, 36, 37, 38, 39, 40, 41, 42, 43, 44, 45, 46, 47, 48, 49, 50, 51, 52, 53, 54, 55, 56, 57, 58, 59, 60, 61, 62, 63, 64, 65, 66, 67, 68, 69, 70, 71, 72, 73, 74, 75, 76, 77, 78, 79, 80, 81, 82, 83, 84, 85, 86, 87, 88, 89, 90, 91, 92, 93, 94, 95, 96, 97, 98, 99, 100, 101, 102, 103, 104, 105, 106, 107, 108, 109, 110, 111, 112, 113, 114, 115, 116, 117, 118, 119, 120, 121, 122, 123, 124, 125, 126, 127, 128, 129, 130, 131, 132, 133, 134, 135, 136, 137, 138, 139, 140, 141, 142, 143, 144, 145, 146, 147, 148, 149, 150, 151, 152, 153, 154] (by decide +kernel) (by decide +kernel)) (goodIn_sub (fun _ h => List.mem_cons_of_mem _ (List.mem_append_right _ h)) (by decide +kernel))
set_option maxRecDepth 20000 in
theorem gL_suspect_X4_suspect : GoodIn wsL_suspect (wsV RL 60 RX4 yX4_suspect wsX4_suspect) := goodIn_app (goodIn_of _ (by decide +kernel)) ggL_suspect_X4_suspect
theorem dL_suspect_0 : decode cL_suspect 0 = .ok (.aload_n 3, 1) := by decide +kernel
theorem dL_suspect_1 : decode cL_suspect 1 = .ok (.iconst 0, 1) := by decide +kernel
theorem dL_suspect_2 : decode cL_suspect 2 = .ok (.aload_n 0, 1) := by decide +kernel
theorem dL_suspect_3 : decode cL_suspect 3 = .ok (.iload_n 1, 1) := by decide +kernel
theorem dL_suspect_4 : decode cL_suspect 4 = .ok (.iload_n 2, 1) := by decide +kernel
theorem dL_suspect_5 : decode cL_suspect 5 = .ok (.invokevirtual 60, 3) := by decide +kernel
theorem dL_suspect_8 : decode cL_suspect 8 = .ok (.i2l, 1) := by decide +kernel
theorem dL_suspect_9 : decode cL_suspect 9 = .ok (.lastore, 1) := by decide +kernel
theorem dL_suspect_10 : decode cL_suspect 10 = .ok (.goto 7, 3) := by decide +kernel
theorem dL_suspect_13 : decode cL_suspect 13 = .ok (.astore 4, 2) := by decide +kernel
theorem dL_suspect_15 : decode cL_suspect 15 = .ok (.iconst 1, 1) := by decide +kernel
theorem dL_suspect_16 : decode cL_suspect 16 = .ok (.ireturn, 1) := by decide +kernel
theorem dL_suspect_17 : decode cL_suspect 17 = .ok (.iconst 0, 1) := by decide +kernel
theorem dL_suspect_18 : decode cL_suspect 18 = .ok (.ireturn, 1) := by decide +kernel
set_option maxRecDepth 20000 in
theorem ggL_count_X4_count : GoodIn wsL_count wsX4_count := goodIn_ca (goodIn_r _ [6, 7, 8, 9, 10, 5, 11, 12, 13, 14, 15, 16, 17, 18] (by decide +kernel) (by decide +kernel)) (goodIn_sub (fun _ h => List.mem_cons_of_mem _ (List.mem_append_right _ h)) (by decide +kernel))
set_option maxRecDepth 20000 in
theorem gL_count_X4_count : GoodIn wsL_count (wsV RL 63 RX4 yX4_count wsX4_count) := goodIn_app (goodIn_of _ (by decide +kernel)) ggL_count_X4_count
theorem dL_count_0 : decode cL_count 0 = .ok (.aload_n 2, 1) := by decide +kernel
theorem dL_count_1 : decode cL_count 1 = .ok (.iconst 0, 1) := by decide +kernel
theorem dL_count_2 : decode cL_count 2 = .ok (.aload_n 0, 1) := by decide +kernel
theorem dL_count_3 : decode cL_count 3 = .ok (.iload_n 1, 1) := by decide +kernel
theorem dL_count_4 : decode cL_count 4 = .ok (.invokevirtual 63, 3) := by decide +kernel
theorem dL_count_7 : decode cL_count 7 = .ok (.i2l, 1) := by decide +kernel
theorem dL_count_8 : decode cL_count 8 = .ok (.lastore, 1) := by decide +kernel
theorem dL_count_9 : decode cL_count 9 = .ok (.goto 6, 3) := by decide +kernel
theorem dL_count_12 : decode cL_count 12 = .ok (.astore_n 3, 1) := by decide +kernel
theorem dL_count_13 : decode cL_count 13 = .ok (.iconst 1, 1) := by decide +kernel
theorem dL_count_14 : decode cL_count 14 = .ok (.ireturn, 1) := by decide +kernel
theorem dL_count_15 : decode cL_count 15 = .ok (.iconst 0, 1) := by decide +kernel
theorem dL_count_16 : decode cL_count 16 = .ok (.ireturn, 1) := by decide +kernel
