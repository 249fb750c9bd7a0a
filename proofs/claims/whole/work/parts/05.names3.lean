theorem dX5_thread_0 : decode cX5_thread 0 = .ok (.aload_n 0, 1) := by decide +kernel
theorem dX5_thread_1 : decode cX5_thread 1 = .ok (.iload_n 1, 1) := by decide +kernel
theorem dX5_thread_2 : decode cX5_thread 2 = .ok (.invokevirtual 59, 3) := by decide +kernel
theorem dX5_thread_5 : decode cX5_thread 5 = .ok (.ifCond .eq 44, 3) := by decide +kernel
theorem dX5_thread_8 : decode cX5_thread 8 = .ok (.aload_n 0, 1) := by decide +kernel
theorem dX5_thread_9 : decode cX5_thread 9 = .ok (.iload_n 2, 1) := by decide +kernel
theorem dX5_thread_10 : decode cX5_thread 10 = .ok (.ifCond .lt 31, 3) := by decide +kernel
theorem dX5_thread_13 : decode cX5_thread 13 = .ok (.iload_n 2, 1) := by decide +kernel
theorem dX5_thread_14 : decode cX5_thread 14 = .ok (.aload_n 0, 1) := by decide +kernel
theorem dX5_thread_15 : decode cX5_thread 15 = .ok (.getfield 13, 3) := by decide +kernel
theorem dX5_thread_18 : decode cX5_thread 18 = .ok (.iload_n 1, 1) := by decide +kernel
theorem dX5_thread_19 : decode cX5_thread 19 = .ok (.iaload, 1) := by decide +kernel
theorem dX5_thread_20 : decode cX5_thread 20 = .ok (.if_icmp .gt 21, 3) := by decide +kernel
theorem dX5_thread_23 : decode cX5_thread 23 = .ok (.iload_n 3, 1) := by decide +kernel
theorem dX5_thread_24 : decode cX5_thread 24 = .ok (.ifCond .lt 17, 3) := by decide +kernel
theorem dX5_thread_27 : decode cX5_thread 27 = .ok (.iload_n 3, 1) := by decide +kernel
theorem dX5_thread_28 : decode cX5_thread 28 = .ok (.aload_n 0, 1) := by decide +kernel
theorem dX5_thread_29 : decode cX5_thread 29 = .ok (.getfield 7, 3) := by decide +kernel
theorem dX5_thread_32 : decode cX5_thread 32 = .ok (.iload_n 1, 1) := by decide +kernel
theorem dX5_thread_33 : decode cX5_thread 33 = .ok (.iaload, 1) := by decide +kernel
theorem dX5_thread_34 : decode cX5_thread 34 = .ok (.if_icmp .ge 7, 3) := by decide +kernel
theorem dX5_thread_37 : decode cX5_thread 37 = .ok (.iconst 1, 1) := by decide +kernel
theorem dX5_thread_38 : decode cX5_thread 38 = .ok (.goto 4, 3) := by decide +kernel
theorem dX5_thread_41 : decode cX5_thread 41 = .ok (.iconst 0, 1) := by decide +kernel
theorem dX5_thread_42 : decode cX5_thread 42 = .ok (.iconst 1, 1) := by decide +kernel
theorem dX5_thread_43 : decode cX5_thread 43 = .ok (.invokevirtual 55, 3) := by decide +kernel
theorem dX5_thread_46 : decode cX5_thread 46 = .ok (.ifCond .ne 5, 3) := by decide +kernel
theorem dX5_thread_49 : decode cX5_thread 49 = .ok (.iconst 0, 1) := by decide +kernel
theorem dX5_thread_50 : decode cX5_thread 50 = .ok (.ireturn, 1) := by decide +kernel
theorem dX5_thread_51 : decode cX5_thread 51 = .ok (.aload_n 0, 1) := by decide +kernel
theorem dX5_thread_52 : decode cX5_thread 52 = .ok (.iload_n 1, 1) := by decide +kernel
theorem dX5_thread_53 : decode cX5_thread 53 = .ok (.iload_n 2, 1) := by decide +kernel
theorem dX5_thread_54 : decode cX5_thread 54 = .ok (.invokevirtual 74, 3) := by decide +kernel
theorem dX5_thread_57 : decode cX5_thread 57 = .ok (.aload_n 0, 1) := by decide +kernel
theorem dX5_thread_58 : decode cX5_thread 58 = .ok (.getfield 34, 3) := by decide +kernel
theorem dX5_thread_61 : decode cX5_thread 61 = .ok (.iload_n 3, 1) := by decide +kernel
theorem dX5_thread_62 : decode cX5_thread 62 = .ok (.iaload, 1) := by decide +kernel
theorem dX5_thread_63 : decode cX5_thread 63 = .ok (.ireturn, 1) := by decide +kernel
set_option maxRecDepth 20000 in
theorem ggX5_used_X5_isBand : GoodIn wsX5_used wsX5_isBand := goodIn_r _ [7, 8, 9, 10, 11, 12, 6, 13, 30, 31, 32, 33, 34, 35, 36, 37, 38, 39, 40, 41, 42, 43, 44] (by decide +kernel) (by decide +kernel)
set_option maxRecDepth 20000 in
theorem gX5_used_X5_isBand : GoodIn wsX5_used (wsV RX5 59 RX5 yX5_isBand wsX5_isBand) := goodIn_app (goodIn_of _ (by decide +kernel)) ggX5_used_X5_isBand
set_option maxRecDepth 20000 in
theorem ggX5_used_X5_right : GoodIn wsX5_used wsX5_right := goodIn_r _ [13, 8, 30, 31, 32, 33, 34, 35, 36, 37, 38, 39, 40, 41, 42, 43, 44] (by decide +kernel) (by decide +kernel)
set_option maxRecDepth 20000 in
theorem gX5_used_X5_right : GoodIn wsX5_used (wsV RX5 55 RX5 yX5_right wsX5_right) := goodIn_app (goodIn_of _ (by decide +kernel)) ggX5_used_X5_right
set_option maxRecDepth 20000 in
theorem ggX5_used_X5_stands : GoodIn wsX5_used wsX5_stands := goodIn_r _ [17, 18, 1, 19, 20, 21, 6, 22, 23, 24, 25, 30, 31, 32, 33, 34, 35, 36, 37, 38, 39, 40, 41, 42, 43, 44] (by decide +kernel) (by decide +kernel)
set_option maxRecDepth 20000 in
theorem gX5_used_X5_stands : GoodIn wsX5_used (wsV RX5 74 RX5 yX5_stands wsX5_stands) := goodIn_app (goodIn_of _ (by decide +kernel)) ggX5_used_X5_stands
set_option maxRecDepth 20000 in
theorem ggX5_used_X5_knots : GoodIn wsX5_used wsX5_knots := goodIn_r _ [22] (by decide +kernel) (by decide +kernel)
set_option maxRecDepth 20000 in
theorem gX5_used_X5_knots : GoodIn wsX5_used (va_wsS RX5 63 yX5_knots wsX5_knots) := goodIn_app (goodIn_of _ (by decide +kernel)) ggX5_used_X5_knots
set_option maxRecDepth 20000 in
theorem ggX5_used_X5_of : GoodIn wsX5_used wsX5_of := goodIn_r _ [29, 19, 18, 23, 24, 6, 25, 30, 31, 32, 33, 34, 35, 36, 37, 38, 39, 40, 41, 42, 43, 44] (by decide +kernel) (by decide +kernel)
set_option maxRecDepth 20000 in
theorem gX5_used_X5_of : GoodIn wsX5_used (wsV RX5 78 RX5 yX5_of wsX5_of) := goodIn_app (goodIn_of _ (by decide +kernel)) ggX5_used_X5_of
theorem dX5_used_0 : decode cX5_used 0 = .ok (.aload_n 0, 1) := by decide +kernel
theorem dX5_used_1 : decode cX5_used 1 = .ok (.iload_n 1, 1) := by decide +kernel
theorem dX5_used_2 : decode cX5_used 2 = .ok (.invokevirtual 59, 3) := by decide +kernel
theorem dX5_used_5 : decode cX5_used 5 = .ok (.ifCond .eq 30, 3) := by decide +kernel
theorem dX5_used_8 : decode cX5_used 8 = .ok (.aload_n 0, 1) := by decide +kernel
theorem dX5_used_9 : decode cX5_used 9 = .ok (.iload_n 2, 1) := by decide +kernel
theorem dX5_used_10 : decode cX5_used 10 = .ok (.ifCond .lt 17, 3) := by decide +kernel
theorem dX5_used_13 : decode cX5_used 13 = .ok (.iload_n 2, 1) := by decide +kernel
theorem dX5_used_14 : decode cX5_used 14 = .ok (.aload_n 0, 1) := by decide +kernel
theorem dX5_used_15 : decode cX5_used 15 = .ok (.getfield 7, 3) := by decide +kernel
theorem dX5_used_18 : decode cX5_used 18 = .ok (.iload_n 1, 1) := by decide +kernel
theorem dX5_used_19 : decode cX5_used 19 = .ok (.iaload, 1) := by decide +kernel
theorem dX5_used_20 : decode cX5_used 20 = .ok (.if_icmp .ge 7, 3) := by decide +kernel
theorem dX5_used_23 : decode cX5_used 23 = .ok (.iconst 1, 1) := by decide +kernel
theorem dX5_used_24 : decode cX5_used 24 = .ok (.goto 4, 3) := by decide +kernel
theorem dX5_used_27 : decode cX5_used 27 = .ok (.iconst 0, 1) := by decide +kernel
theorem dX5_used_28 : decode cX5_used 28 = .ok (.iconst 1, 1) := by decide +kernel
theorem dX5_used_29 : decode cX5_used 29 = .ok (.invokevirtual 55, 3) := by decide +kernel
theorem dX5_used_32 : decode cX5_used 32 = .ok (.ifCond .ne 5, 3) := by decide +kernel
theorem dX5_used_35 : decode cX5_used 35 = .ok (.iconst 0, 1) := by decide +kernel
theorem dX5_used_36 : decode cX5_used 36 = .ok (.ireturn, 1) := by decide +kernel
theorem dX5_used_37 : decode cX5_used 37 = .ok (.iconst 0, 1) := by decide +kernel
theorem dX5_used_38 : decode cX5_used 38 = .ok (.istore_n 3, 1) := by decide +kernel
theorem dX5_used_39 : decode cX5_used 39 = .ok (.iconst 0, 1) := by decide +kernel
theorem dX5_used_40 : decode cX5_used 40 = .ok (.istore 4, 2) := by decide +kernel
theorem dX5_used_42 : decode cX5_used 42 = .ok (.iload 4, 2) := by decide +kernel
theorem dX5_used_44 : decode cX5_used 44 = .ok (.aload_n 0, 1) := by decide +kernel
theorem dX5_used_45 : decode cX5_used 45 = .ok (.getfield 13, 3) := by decide +kernel
theorem dX5_used_48 : decode cX5_used 48 = .ok (.iload_n 1, 1) := by decide +kernel
theorem dX5_used_49 : decode cX5_used 49 = .ok (.iaload, 1) := by decide +kernel
theorem dX5_used_50 : decode cX5_used 50 = .ok (.if_icmp .ge 81, 3) := by decide +kernel
theorem dX5_used_53 : decode cX5_used 53 = .ok (.aload_n 0, 1) := by decide +kernel
theorem dX5_used_54 : decode cX5_used 54 = .ok (.iload_n 1, 1) := by decide +kernel
theorem dX5_used_55 : decode cX5_used 55 = .ok (.iload 4, 2) := by decide +kernel
theorem dX5_used_57 : decode cX5_used 57 = .ok (.invokevirtual 74, 3) := by decide +kernel
theorem dX5_used_60 : decode cX5_used 60 = .ok (.iconst 0, 1) := by decide +kernel
theorem dX5_used_61 : decode cX5_used 61 = .ok (.istore 5, 2) := by decide +kernel
theorem dX5_used_63 : decode cX5_used 63 = .ok (.iload 5, 2) := by decide +kernel
theorem dX5_used_65 : decode cX5_used 65 = .ok (.aload_n 0, 1) := by decide +kernel
theorem dX5_used_66 : decode cX5_used 66 = .ok (.getfield 7, 3) := by decide +kernel
theorem dX5_used_69 : decode cX5_used 69 = .ok (.iload_n 1, 1) := by decide +kernel
theorem dX5_used_70 : decode cX5_used 70 = .ok (.iaload, 1) := by decide +kernel
theorem dX5_used_71 : decode cX5_used 71 = .ok (.iload 4, 2) := by decide +kernel
theorem dX5_used_73 : decode cX5_used 73 = .ok (.invokestatic 63, 3) := by decide +kernel
theorem dX5_used_76 : decode cX5_used 76 = .ok (.if_icmp .ge 49, 3) := by decide +kernel
theorem dX5_used_79 : decode cX5_used 79 = .ok (.iload_n 3, 1) := by decide +kernel
theorem dX5_used_80 : decode cX5_used 80 = .ok (.aload_n 0, 1) := by decide +kernel
theorem dX5_used_81 : decode cX5_used 81 = .ok (.iload_n 1, 1) := by decide +kernel
theorem dX5_used_82 : decode cX5_used 82 = .ok (.iload 4, 2) := by decide +kernel
theorem dX5_used_84 : decode cX5_used 84 = .ok (.iload 5, 2) := by decide +kernel
theorem dX5_used_86 : decode cX5_used 86 = .ok (.iconst 1, 1) := by decide +kernel
theorem dX5_used_87 : decode cX5_used 87 = .ok (.invokevirtual 78, 3) := by decide +kernel
theorem dX5_used_90 : decode cX5_used 90 = .ok (.iload_n 2, 1) := by decide +kernel
theorem dX5_used_91 : decode cX5_used 91 = .ok (.if_icmp .ne 7, 3) := by decide +kernel
theorem dX5_used_94 : decode cX5_used 94 = .ok (.iconst 5, 1) := by decide +kernel
theorem dX5_used_95 : decode cX5_used 95 = .ok (.goto 22, 3) := by decide +kernel
theorem dX5_used_98 : decode cX5_used 98 = .ok (.aload_n 0, 1) := by decide +kernel
theorem dX5_used_99 : decode cX5_used 99 = .ok (.iload_n 1, 1) := by decide +kernel
theorem dX5_used_100 : decode cX5_used 100 = .ok (.iload 4, 2) := by decide +kernel
theorem dX5_used_102 : decode cX5_used 102 = .ok (.iload 5, 2) := by decide +kernel
theorem dX5_used_104 : decode cX5_used 104 = .ok (.iconst 0, 1) := by decide +kernel
theorem dX5_used_105 : decode cX5_used 105 = .ok (.invokevirtual 78, 3) := by decide +kernel
theorem dX5_used_108 : decode cX5_used 108 = .ok (.iload_n 2, 1) := by decide +kernel
theorem dX5_used_109 : decode cX5_used 109 = .ok (.if_icmp .ne 7, 3) := by decide +kernel
theorem dX5_used_112 : decode cX5_used 112 = .ok (.iconst 1, 1) := by decide +kernel
theorem dX5_used_113 : decode cX5_used 113 = .ok (.goto 4, 3) := by decide +kernel
theorem dX5_used_116 : decode cX5_used 116 = .ok (.iconst 0, 1) := by decide +kernel
theorem dX5_used_117 : decode cX5_used 117 = .ok (.iadd, 1) := by decide +kernel
theorem dX5_used_118 : decode cX5_used 118 = .ok (.istore_n 3, 1) := by decide +kernel
theorem dX5_used_119 : decode cX5_used 119 = .ok (.iinc 5 1, 3) := by decide +kernel
theorem dX5_used_122 : decode cX5_used 122 = .ok (.goto (-59), 3) := by decide +kernel
theorem dX5_used_125 : decode cX5_used 125 = .ok (.iinc 4 1, 3) := by decide +kernel
theorem dX5_used_128 : decode cX5_used 128 = .ok (.goto (-86), 3) := by decide +kernel
theorem dX5_used_131 : decode cX5_used 131 = .ok (.iload_n 3, 1) := by decide +kernel
theorem dX5_used_132 : decode cX5_used 132 = .ok (.ireturn, 1) := by decide +kernel
set_option maxRecDepth 20000 in
theorem ggX5_home_X5_isBand : GoodIn wsX5_home wsX5_isBand := goodIn_r _ [11, 12, 13, 14, 15, 16, 10, 17, 29, 30, 31, 32, 33, 34, 35, 36, 37, 38, 39, 40, 41, 42, 43] (by decide +kernel) (by decide +kernel)
set_option maxRecDepth 20000 in
theorem gX5_home_X5_isBand : GoodIn wsX5_home (wsV RX5 59 RX5 yX5_isBand wsX5_isBand) := goodIn_app (goodIn_of _ (by decide +kernel)) ggX5_home_X5_isBand
set_option maxRecDepth 20000 in
theorem ggX5_home_X5_right : GoodIn wsX5_home wsX5_right := goodIn_r _ [17, 12, 29, 30, 31, 32, 33, 34, 35, 36, 37, 38, 39, 40, 41, 42, 43] (by decide +kernel) (by decide +kernel)
set_option maxRecDepth 20000 in
theorem gX5_home_X5_right : GoodIn wsX5_home (wsV RX5 55 RX5 yX5_right wsX5_right) := goodIn_app (goodIn_of _ (by decide +kernel)) ggX5_home_X5_right
set_option maxRecDepth 20000 in
theorem ggX5_home_X5_stands : GoodIn wsX5_home wsX5_stands := goodIn_r _ [21, 4, 5, 22, 23, 24, 10, 25, 26, 27, 28, 29, 30, 31, 32, 33, 34, 35, 36, 37, 38, 39, 40, 41, 42, 43] (by decide +kernel) (by decide +kernel)
set_option maxRecDepth 20000 in
theorem gX5_home_X5_stands : GoodIn wsX5_home (wsV RX5 74 RX5 yX5_stands wsX5_stands) := goodIn_app (goodIn_of _ (by decide +kernel)) ggX5_home_X5_stands
theorem dX5_home_0 : decode cX5_home 0 = .ok (.aload_n 0, 1) := by decide +kernel
theorem dX5_home_1 : decode cX5_home 1 = .ok (.iload_n 1, 1) := by decide +kernel
theorem dX5_home_2 : decode cX5_home 2 = .ok (.invokevirtual 59, 3) := by decide +kernel
theorem dX5_home_5 : decode cX5_home 5 = .ok (.ifCond .eq 25, 3) := by decide +kernel
theorem dX5_home_8 : decode cX5_home 8 = .ok (.aload_n 0, 1) := by decide +kernel
theorem dX5_home_9 : decode cX5_home 9 = .ok (.iload_n 2, 1) := by decide +kernel
theorem dX5_home_10 : decode cX5_home 10 = .ok (.ifCond .eq 8, 3) := by decide +kernel
theorem dX5_home_13 : decode cX5_home 13 = .ok (.iload_n 2, 1) := by decide +kernel
theorem dX5_home_14 : decode cX5_home 14 = .ok (.iconst 1, 1) := by decide +kernel
theorem dX5_home_15 : decode cX5_home 15 = .ok (.if_icmp .ne 7, 3) := by decide +kernel
theorem dX5_home_18 : decode cX5_home 18 = .ok (.iconst 1, 1) := by decide +kernel
theorem dX5_home_19 : decode cX5_home 19 = .ok (.goto 4, 3) := by decide +kernel
theorem dX5_home_22 : decode cX5_home 22 = .ok (.iconst 0, 1) := by decide +kernel
theorem dX5_home_23 : decode cX5_home 23 = .ok (.iconst 1, 1) := by decide +kernel
theorem dX5_home_24 : decode cX5_home 24 = .ok (.invokevirtual 55, 3) := by decide +kernel
theorem dX5_home_27 : decode cX5_home 27 = .ok (.ifCond .ne 5, 3) := by decide +kernel
theorem dX5_home_30 : decode cX5_home 30 = .ok (.iconst 0, 1) := by decide +kernel
theorem dX5_home_31 : decode cX5_home 31 = .ok (.ireturn, 1) := by decide +kernel
theorem dX5_home_32 : decode cX5_home 32 = .ok (.aload_n 0, 1) := by decide +kernel
theorem dX5_home_33 : decode cX5_home 33 = .ok (.getfield 13, 3) := by decide +kernel
theorem dX5_home_36 : decode cX5_home 36 = .ok (.iload_n 1, 1) := by decide +kernel
theorem dX5_home_37 : decode cX5_home 37 = .ok (.iaload, 1) := by decide +kernel
theorem dX5_home_38 : decode cX5_home 38 = .ok (.iconst 2, 1) := by decide +kernel
theorem dX5_home_39 : decode cX5_home 39 = .ok (.irem, 1) := by decide +kernel
theorem dX5_home_40 : decode cX5_home 40 = .ok (.iconst 1, 1) := by decide +kernel
theorem dX5_home_41 : decode cX5_home 41 = .ok (.if_icmp .ne 5, 3) := by decide +kernel
theorem dX5_home_44 : decode cX5_home 44 = .ok (.iconst (-1), 1) := by decide +kernel
theorem dX5_home_45 : decode cX5_home 45 = .ok (.ireturn, 1) := by decide +kernel
theorem dX5_home_46 : decode cX5_home 46 = .ok (.aload_n 0, 1) := by decide +kernel
theorem dX5_home_47 : decode cX5_home 47 = .ok (.iload_n 1, 1) := by decide +kernel
theorem dX5_home_48 : decode cX5_home 48 = .ok (.aload_n 0, 1) := by decide +kernel
theorem dX5_home_49 : decode cX5_home 49 = .ok (.getfield 13, 3) := by decide +kernel
theorem dX5_home_52 : decode cX5_home 52 = .ok (.iload_n 1, 1) := by decide +kernel
theorem dX5_home_53 : decode cX5_home 53 = .ok (.iaload, 1) := by decide +kernel
theorem dX5_home_54 : decode cX5_home 54 = .ok (.invokevirtual 74, 3) := by decide +kernel
theorem dX5_home_57 : decode cX5_home 57 = .ok (.iconst 0, 1) := by decide +kernel
theorem dX5_home_58 : decode cX5_home 58 = .ok (.istore_n 3, 1) := by decide +kernel
theorem dX5_home_59 : decode cX5_home 59 = .ok (.iload_n 3, 1) := by decide +kernel
theorem dX5_home_60 : decode cX5_home 60 = .ok (.bipush 6, 2) := by decide +kernel
theorem dX5_home_62 : decode cX5_home 62 = .ok (.if_icmp .ge 16, 3) := by decide +kernel
theorem dX5_home_65 : decode cX5_home 65 = .ok (.aload_n 0, 1) := by decide +kernel
theorem dX5_home_66 : decode cX5_home 66 = .ok (.getfield 37, 3) := by decide +kernel
theorem dX5_home_69 : decode cX5_home 69 = .ok (.iload_n 3, 1) := by decide +kernel
theorem dX5_home_70 : decode cX5_home 70 = .ok (.iload_n 3, 1) := by decide +kernel
theorem dX5_home_71 : decode cX5_home 71 = .ok (.iastore, 1) := by decide +kernel
theorem dX5_home_72 : decode cX5_home 72 = .ok (.iinc 3 1, 3) := by decide +kernel
theorem dX5_home_75 : decode cX5_home 75 = .ok (.goto (-16), 3) := by decide +kernel
theorem dX5_home_78 : decode cX5_home 78 = .ok (.iconst 0, 1) := by decide +kernel
theorem dX5_home_79 : decode cX5_home 79 = .ok (.istore_n 3, 1) := by decide +kernel
theorem dX5_home_80 : decode cX5_home 80 = .ok (.iconst 0, 1) := by decide +kernel
theorem dX5_home_81 : decode cX5_home 81 = .ok (.istore 4, 2) := by decide +kernel
theorem dX5_home_83 : decode cX5_home 83 = .ok (.iload 4, 2) := by decide +kernel
theorem dX5_home_85 : decode cX5_home 85 = .ok (.ifCond .ne 144, 3) := by decide +kernel
theorem dX5_home_88 : decode cX5_home 88 = .ok (.iinc 3 1, 3) := by decide +kernel
theorem dX5_home_91 : decode cX5_home 91 = .ok (.iconst 0, 1) := by decide +kernel
theorem dX5_home_92 : decode cX5_home 92 = .ok (.istore 5, 2) := by decide +kernel
theorem dX5_home_94 : decode cX5_home 94 = .ok (.iload 5, 2) := by decide +kernel
theorem dX5_home_96 : decode cX5_home 96 = .ok (.bipush 6, 2) := by decide +kernel
theorem dX5_home_98 : decode cX5_home 98 = .ok (.if_icmp .ge 28, 3) := by decide +kernel
theorem dX5_home_101 : decode cX5_home 101 = .ok (.aload_n 0, 1) := by decide +kernel
theorem dX5_home_102 : decode cX5_home 102 = .ok (.getfield 40, 3) := by decide +kernel
theorem dX5_home_105 : decode cX5_home 105 = .ok (.iload 5, 2) := by decide +kernel
theorem dX5_home_107 : decode cX5_home 107 = .ok (.aload_n 0, 1) := by decide +kernel
theorem dX5_home_108 : decode cX5_home 108 = .ok (.getfield 37, 3) := by decide +kernel
theorem dX5_home_111 : decode cX5_home 111 = .ok (.aload_n 0, 1) := by decide +kernel
theorem dX5_home_112 : decode cX5_home 112 = .ok (.getfield 34, 3) := by decide +kernel
theorem dX5_home_115 : decode cX5_home 115 = .ok (.iload 5, 2) := by decide +kernel
theorem dX5_home_117 : decode cX5_home 117 = .ok (.iaload, 1) := by decide +kernel
theorem dX5_home_118 : decode cX5_home 118 = .ok (.iaload, 1) := by decide +kernel
theorem dX5_home_119 : decode cX5_home 119 = .ok (.iastore, 1) := by decide +kernel
theorem dX5_home_120 : decode cX5_home 120 = .ok (.iinc 5 1, 3) := by decide +kernel
theorem dX5_home_123 : decode cX5_home 123 = .ok (.goto (-29), 3) := by decide +kernel
theorem dX5_home_126 : decode cX5_home 126 = .ok (.iconst 1, 1) := by decide +kernel
theorem dX5_home_127 : decode cX5_home 127 = .ok (.istore 4, 2) := by decide +kernel
theorem dX5_home_129 : decode cX5_home 129 = .ok (.iconst 0, 1) := by decide +kernel
theorem dX5_home_130 : decode cX5_home 130 = .ok (.istore 5, 2) := by decide +kernel
theorem dX5_home_132 : decode cX5_home 132 = .ok (.iload 5, 2) := by decide +kernel
theorem dX5_home_134 : decode cX5_home 134 = .ok (.aload_n 0, 1) := by decide +kernel
theorem dX5_home_135 : decode cX5_home 135 = .ok (.getfield 7, 3) := by decide +kernel
theorem dX5_home_138 : decode cX5_home 138 = .ok (.iload_n 1, 1) := by decide +kernel
theorem dX5_home_139 : decode cX5_home 139 = .ok (.iaload, 1) := by decide +kernel
theorem dX5_home_140 : decode cX5_home 140 = .ok (.if_icmp .ge 86, 3) := by decide +kernel
theorem dX5_home_143 : decode cX5_home 143 = .ok (.aload_n 0, 1) := by decide +kernel
theorem dX5_home_144 : decode cX5_home 144 = .ok (.getfield 37, 3) := by decide +kernel
theorem dX5_home_147 : decode cX5_home 147 = .ok (.iload 5, 2) := by decide +kernel
theorem dX5_home_149 : decode cX5_home 149 = .ok (.aload_n 0, 1) := by decide +kernel
theorem dX5_home_150 : decode cX5_home 150 = .ok (.getfield 40, 3) := by decide +kernel
theorem dX5_home_153 : decode cX5_home 153 = .ok (.iload 5, 2) := by decide +kernel
theorem dX5_home_155 : decode cX5_home 155 = .ok (.iaload, 1) := by decide +kernel
theorem dX5_home_156 : decode cX5_home 156 = .ok (.iastore, 1) := by decide +kernel
theorem dX5_home_157 : decode cX5_home 157 = .ok (.iload 4, 2) := by decide +kernel
theorem dX5_home_159 : decode cX5_home 159 = .ok (.ifCond .eq 58, 3) := by decide +kernel
theorem dX5_home_162 : decode cX5_home 162 = .ok (.iload_n 2, 1) := by decide +kernel
theorem dX5_home_163 : decode cX5_home 163 = .ok (.ifCond .ne 18, 3) := by decide +kernel
theorem dX5_home_166 : decode cX5_home 166 = .ok (.aload_n 0, 1) := by decide +kernel
theorem dX5_home_167 : decode cX5_home 167 = .ok (.getfield 37, 3) := by decide +kernel
theorem dX5_home_170 : decode cX5_home 170 = .ok (.iload 5, 2) := by decide +kernel
theorem dX5_home_172 : decode cX5_home 172 = .ok (.iaload, 1) := by decide +kernel
theorem dX5_home_173 : decode cX5_home 173 = .ok (.iload 5, 2) := by decide +kernel
theorem dX5_home_175 : decode cX5_home 175 = .ok (.if_icmp .ne 42, 3) := by decide +kernel
theorem dX5_home_178 : decode cX5_home 178 = .ok (.goto 35, 3) := by decide +kernel
theorem dX5_home_181 : decode cX5_home 181 = .ok (.aload_n 0, 1) := by decide +kernel
theorem dX5_home_182 : decode cX5_home 182 = .ok (.getfield 16, 3) := by decide +kernel
theorem dX5_home_185 : decode cX5_home 185 = .ok (.bipush 6, 2) := by decide +kernel
theorem dX5_home_187 : decode cX5_home 187 = .ok (.iload_n 1, 1) := by decide +kernel
theorem dX5_home_188 : decode cX5_home 188 = .ok (.imul, 1) := by decide +kernel
theorem dX5_home_189 : decode cX5_home 189 = .ok (.aload_n 0, 1) := by decide +kernel
theorem dX5_home_190 : decode cX5_home 190 = .ok (.getfield 37, 3) := by decide +kernel
theorem dX5_home_193 : decode cX5_home 193 = .ok (.iload 5, 2) := by decide +kernel
theorem dX5_home_195 : decode cX5_home 195 = .ok (.iaload, 1) := by decide +kernel
theorem dX5_home_196 : decode cX5_home 196 = .ok (.iadd, 1) := by decide +kernel
theorem dX5_home_197 : decode cX5_home 197 = .ok (.iaload, 1) := by decide +kernel
theorem dX5_home_198 : decode cX5_home 198 = .ok (.aload_n 0, 1) := by decide +kernel
theorem dX5_home_199 : decode cX5_home 199 = .ok (.getfield 16, 3) := by decide +kernel
theorem dX5_home_202 : decode cX5_home 202 = .ok (.bipush 6, 2) := by decide +kernel
theorem dX5_home_204 : decode cX5_home 204 = .ok (.iload_n 1, 1) := by decide +kernel
theorem dX5_home_205 : decode cX5_home 205 = .ok (.imul, 1) := by decide +kernel
theorem dX5_home_206 : decode cX5_home 206 = .ok (.iload 5, 2) := by decide +kernel
theorem dX5_home_208 : decode cX5_home 208 = .ok (.iadd, 1) := by decide +kernel
theorem dX5_home_209 : decode cX5_home 209 = .ok (.iaload, 1) := by decide +kernel
theorem dX5_home_210 : decode cX5_home 210 = .ok (.if_icmp .ne 7, 3) := by decide +kernel
theorem dX5_home_213 : decode cX5_home 213 = .ok (.iconst 1, 1) := by decide +kernel
theorem dX5_home_214 : decode cX5_home 214 = .ok (.goto 4, 3) := by decide +kernel
theorem dX5_home_217 : decode cX5_home 217 = .ok (.iconst 0, 1) := by decide +kernel
theorem dX5_home_218 : decode cX5_home 218 = .ok (.istore 4, 2) := by decide +kernel
theorem dX5_home_220 : decode cX5_home 220 = .ok (.iinc 5 1, 3) := by decide +kernel
theorem dX5_home_223 : decode cX5_home 223 = .ok (.goto (-91), 3) := by decide +kernel
theorem dX5_home_226 : decode cX5_home 226 = .ok (.goto (-143), 3) := by decide +kernel
theorem dX5_home_229 : decode cX5_home 229 = .ok (.iload_n 3, 1) := by decide +kernel
theorem dX5_home_230 : decode cX5_home 230 = .ok (.ireturn, 1) := by decide +kernel
set_option maxRecDepth 20000 in
theorem ggX5_unlike_X5_isBand : GoodIn wsX5_unlike wsX5_isBand := goodIn_r _ [8, 9, 1, 10, 11, 12, 7, 13, 35, 36, 37, 38, 39, 40, 41, 42, 43, 44, 45, 46, 47, 48, 49] (by decide +kernel) (by decide +kernel)
set_option maxRecDepth 20000 in
theorem gX5_unlike_X5_isBand : GoodIn wsX5_unlike (wsV RX5 59 RX5 yX5_isBand wsX5_isBand) := goodIn_app (goodIn_of _ (by decide +kernel)) ggX5_unlike_X5_isBand
set_option maxRecDepth 20000 in
theorem ggX5_unlike_X5_right : GoodIn wsX5_unlike wsX5_right := goodIn_r _ [13, 9, 35, 36, 37, 38, 39, 40, 41, 42, 43, 44, 45, 46, 47, 48, 49] (by decide +kernel) (by decide +kernel)
set_option maxRecDepth 20000 in
theorem gX5_unlike_X5_right : GoodIn wsX5_unlike (wsV RX5 55 RX5 yX5_right wsX5_right) := goodIn_app (goodIn_of _ (by decide +kernel)) ggX5_unlike_X5_right
set_option maxRecDepth 20000 in
theorem ggX5_unlike_X5_knots : GoodIn wsX5_unlike wsX5_knots := goodIn_r _ [16] (by decide +kernel) (by decide +kernel)
set_option maxRecDepth 20000 in
theorem gX5_unlike_X5_knots : GoodIn wsX5_unlike (va_wsS RX5 63 yX5_knots wsX5_knots) := goodIn_app (goodIn_of _ (by decide +kernel)) ggX5_unlike_X5_knots
set_option maxRecDepth 20000 in
theorem ggX5_unlike_X5_showsOf : GoodIn wsX5_unlike wsX5_showsOf := goodIn_r _ [20, 21, 22, 23, 24, 7, 25, 26, 2, 27, 14, 15, 16, 28, 29, 30, 31, 32, 33, 34, 35, 36, 37, 38, 39, 40, 41, 42, 43, 44, 45, 46, 47, 48, 49] (by decide +kernel) (by decide +kernel)
set_option maxRecDepth 20000 in
theorem gX5_unlike_X5_showsOf : GoodIn wsX5_unlike (wsV RX5 82 RX5 yX5_showsOf wsX5_showsOf) := goodIn_app (goodIn_of _ (by decide +kernel)) ggX5_unlike_X5_showsOf
theorem dX5_unlike_0 : decode cX5_unlike 0 = .ok (.aload_n 0, 1) := by decide +kernel
theorem dX5_unlike_1 : decode cX5_unlike 1 = .ok (.iload_n 1, 1) := by decide +kernel
theorem dX5_unlike_2 : decode cX5_unlike 2 = .ok (.invokevirtual 59, 3) := by decide +kernel
theorem dX5_unlike_5 : decode cX5_unlike 5 = .ok (.ifCond .eq 71, 3) := by decide +kernel
theorem dX5_unlike_8 : decode cX5_unlike 8 = .ok (.aload_n 0, 1) := by decide +kernel
theorem dX5_unlike_9 : decode cX5_unlike 9 = .ok (.iload_n 2, 1) := by decide +kernel
theorem dX5_unlike_10 : decode cX5_unlike 10 = .ok (.ifCond .lt 15, 3) := by decide +kernel
theorem dX5_unlike_13 : decode cX5_unlike 13 = .ok (.iload_n 2, 1) := by decide +kernel
theorem dX5_unlike_14 : decode cX5_unlike 14 = .ok (.aload_n 0, 1) := by decide +kernel
theorem dX5_unlike_15 : decode cX5_unlike 15 = .ok (.getfield 52, 3) := by decide +kernel
theorem dX5_unlike_18 : decode cX5_unlike 18 = .ok (.if_icmp .ge 7, 3) := by decide +kernel
theorem dX5_unlike_21 : decode cX5_unlike 21 = .ok (.iconst 1, 1) := by decide +kernel
theorem dX5_unlike_22 : decode cX5_unlike 22 = .ok (.goto 4, 3) := by decide +kernel
theorem dX5_unlike_25 : decode cX5_unlike 25 = .ok (.iconst 0, 1) := by decide +kernel
theorem dX5_unlike_26 : decode cX5_unlike 26 = .ok (.iconst 1, 1) := by decide +kernel
theorem dX5_unlike_27 : decode cX5_unlike 27 = .ok (.invokevirtual 55, 3) := by decide +kernel
theorem dX5_unlike_30 : decode cX5_unlike 30 = .ok (.ifCond .eq 46, 3) := by decide +kernel
theorem dX5_unlike_33 : decode cX5_unlike 33 = .ok (.aload_n 0, 1) := by decide +kernel
theorem dX5_unlike_34 : decode cX5_unlike 34 = .ok (.aload_n 0, 1) := by decide +kernel
theorem dX5_unlike_35 : decode cX5_unlike 35 = .ok (.getfield 7, 3) := by decide +kernel
theorem dX5_unlike_38 : decode cX5_unlike 38 = .ok (.iload_n 1, 1) := by decide +kernel
theorem dX5_unlike_39 : decode cX5_unlike 39 = .ok (.iaload, 1) := by decide +kernel
theorem dX5_unlike_40 : decode cX5_unlike 40 = .ok (.aload_n 0, 1) := by decide +kernel
theorem dX5_unlike_41 : decode cX5_unlike 41 = .ok (.getfield 7, 3) := by decide +kernel
theorem dX5_unlike_44 : decode cX5_unlike 44 = .ok (.iload_n 2, 1) := by decide +kernel
theorem dX5_unlike_45 : decode cX5_unlike 45 = .ok (.iaload, 1) := by decide +kernel
theorem dX5_unlike_46 : decode cX5_unlike 46 = .ok (.if_icmp .ne 22, 3) := by decide +kernel
theorem dX5_unlike_49 : decode cX5_unlike 49 = .ok (.aload_n 0, 1) := by decide +kernel
theorem dX5_unlike_50 : decode cX5_unlike 50 = .ok (.getfield 13, 3) := by decide +kernel
theorem dX5_unlike_53 : decode cX5_unlike 53 = .ok (.iload_n 1, 1) := by decide +kernel
theorem dX5_unlike_54 : decode cX5_unlike 54 = .ok (.iaload, 1) := by decide +kernel
theorem dX5_unlike_55 : decode cX5_unlike 55 = .ok (.aload_n 0, 1) := by decide +kernel
theorem dX5_unlike_56 : decode cX5_unlike 56 = .ok (.getfield 13, 3) := by decide +kernel
theorem dX5_unlike_59 : decode cX5_unlike 59 = .ok (.iload_n 2, 1) := by decide +kernel
theorem dX5_unlike_60 : decode cX5_unlike 60 = .ok (.iaload, 1) := by decide +kernel
theorem dX5_unlike_61 : decode cX5_unlike 61 = .ok (.if_icmp .ne 7, 3) := by decide +kernel
theorem dX5_unlike_64 : decode cX5_unlike 64 = .ok (.iconst 1, 1) := by decide +kernel
theorem dX5_unlike_65 : decode cX5_unlike 65 = .ok (.goto 4, 3) := by decide +kernel
theorem dX5_unlike_68 : decode cX5_unlike 68 = .ok (.iconst 0, 1) := by decide +kernel
theorem dX5_unlike_69 : decode cX5_unlike 69 = .ok (.iconst 2, 1) := by decide +kernel
theorem dX5_unlike_70 : decode cX5_unlike 70 = .ok (.invokevirtual 55, 3) := by decide +kernel
theorem dX5_unlike_73 : decode cX5_unlike 73 = .ok (.ifCond .ne 5, 3) := by decide +kernel
theorem dX5_unlike_76 : decode cX5_unlike 76 = .ok (.iconst 0, 1) := by decide +kernel
theorem dX5_unlike_77 : decode cX5_unlike 77 = .ok (.ireturn, 1) := by decide +kernel
theorem dX5_unlike_78 : decode cX5_unlike 78 = .ok (.iconst 0, 1) := by decide +kernel
theorem dX5_unlike_79 : decode cX5_unlike 79 = .ok (.istore_n 3, 1) := by decide +kernel
theorem dX5_unlike_80 : decode cX5_unlike 80 = .ok (.iconst 0, 1) := by decide +kernel
theorem dX5_unlike_81 : decode cX5_unlike 81 = .ok (.istore 4, 2) := by decide +kernel
theorem dX5_unlike_83 : decode cX5_unlike 83 = .ok (.iload 4, 2) := by decide +kernel
theorem dX5_unlike_85 : decode cX5_unlike 85 = .ok (.aload_n 0, 1) := by decide +kernel
theorem dX5_unlike_86 : decode cX5_unlike 86 = .ok (.getfield 13, 3) := by decide +kernel
theorem dX5_unlike_89 : decode cX5_unlike 89 = .ok (.iload_n 1, 1) := by decide +kernel
theorem dX5_unlike_90 : decode cX5_unlike 90 = .ok (.iaload, 1) := by decide +kernel
theorem dX5_unlike_91 : decode cX5_unlike 91 = .ok (.if_icmp .ge 58, 3) := by decide +kernel
theorem dX5_unlike_94 : decode cX5_unlike 94 = .ok (.iconst 0, 1) := by decide +kernel
theorem dX5_unlike_95 : decode cX5_unlike 95 = .ok (.istore 5, 2) := by decide +kernel
theorem dX5_unlike_97 : decode cX5_unlike 97 = .ok (.iload 5, 2) := by decide +kernel
theorem dX5_unlike_99 : decode cX5_unlike 99 = .ok (.aload_n 0, 1) := by decide +kernel
theorem dX5_unlike_100 : decode cX5_unlike 100 = .ok (.getfield 7, 3) := by decide +kernel
theorem dX5_unlike_103 : decode cX5_unlike 103 = .ok (.iload_n 1, 1) := by decide +kernel
theorem dX5_unlike_104 : decode cX5_unlike 104 = .ok (.iaload, 1) := by decide +kernel
theorem dX5_unlike_105 : decode cX5_unlike 105 = .ok (.iload 4, 2) := by decide +kernel
theorem dX5_unlike_107 : decode cX5_unlike 107 = .ok (.invokestatic 63, 3) := by decide +kernel
theorem dX5_unlike_110 : decode cX5_unlike 110 = .ok (.if_icmp .ge 33, 3) := by decide +kernel
theorem dX5_unlike_113 : decode cX5_unlike 113 = .ok (.aload_n 0, 1) := by decide +kernel
theorem dX5_unlike_114 : decode cX5_unlike 114 = .ok (.iload_n 1, 1) := by decide +kernel
theorem dX5_unlike_115 : decode cX5_unlike 115 = .ok (.iload 4, 2) := by decide +kernel
theorem dX5_unlike_117 : decode cX5_unlike 117 = .ok (.iload 5, 2) := by decide +kernel
theorem dX5_unlike_119 : decode cX5_unlike 119 = .ok (.invokevirtual 82, 3) := by decide +kernel
theorem dX5_unlike_122 : decode cX5_unlike 122 = .ok (.aload_n 0, 1) := by decide +kernel
theorem dX5_unlike_123 : decode cX5_unlike 123 = .ok (.iload_n 2, 1) := by decide +kernel
theorem dX5_unlike_124 : decode cX5_unlike 124 = .ok (.iload 4, 2) := by decide +kernel
theorem dX5_unlike_126 : decode cX5_unlike 126 = .ok (.iload 5, 2) := by decide +kernel
theorem dX5_unlike_128 : decode cX5_unlike 128 = .ok (.invokevirtual 82, 3) := by decide +kernel
theorem dX5_unlike_131 : decode cX5_unlike 131 = .ok (.if_icmp .eq 6, 3) := by decide +kernel
theorem dX5_unlike_134 : decode cX5_unlike 134 = .ok (.iinc 3 1, 3) := by decide +kernel
theorem dX5_unlike_137 : decode cX5_unlike 137 = .ok (.iinc 5 1, 3) := by decide +kernel
theorem dX5_unlike_140 : decode cX5_unlike 140 = .ok (.goto (-43), 3) := by decide +kernel
theorem dX5_unlike_143 : decode cX5_unlike 143 = .ok (.iinc 4 1, 3) := by decide +kernel
theorem dX5_unlike_146 : decode cX5_unlike 146 = .ok (.goto (-63), 3) := by decide +kernel
theorem dX5_unlike_149 : decode cX5_unlike 149 = .ok (.iload_n 3, 1) := by decide +kernel
theorem dX5_unlike_150 : decode cX5_unlike 150 = .ok (.ireturn, 1) := by decide +kernel
set_option maxRecDepth 20000 in
theorem ggX5_isPicture_X5_right : GoodIn wsX5_isPicture wsX5_right := goodIn_r _ [7, 1, 8, 9, 10, 11, 12, 13, 14, 15, 16, 17, 18, 19, 20, 21, 22] (by decide +kernel) (by decide +kernel)
set_option maxRecDepth 20000 in
theorem gX5_isPicture_X5_right : GoodIn wsX5_isPicture (wsV RX5 55 RX5 yX5_right wsX5_right) := goodIn_app (goodIn_of _ (by decide +kernel)) ggX5_isPicture_X5_right
theorem dX5_isPicture_0 : decode cX5_isPicture 0 = .ok (.aload_n 0, 1) := by decide +kernel
theorem dX5_isPicture_1 : decode cX5_isPicture 1 = .ok (.iconst 0, 1) := by decide +kernel
theorem dX5_isPicture_2 : decode cX5_isPicture 2 = .ok (.putfield 48, 3) := by decide +kernel
theorem dX5_isPicture_5 : decode cX5_isPicture 5 = .ok (.aload_n 0, 1) := by decide +kernel
theorem dX5_isPicture_6 : decode cX5_isPicture 6 = .ok (.iload_n 1, 1) := by decide +kernel
theorem dX5_isPicture_7 : decode cX5_isPicture 7 = .ok (.ifCond .lt 15, 3) := by decide +kernel
theorem dX5_isPicture_10 : decode cX5_isPicture 10 = .ok (.iload_n 1, 1) := by decide +kernel
theorem dX5_isPicture_11 : decode cX5_isPicture 11 = .ok (.aload_n 0, 1) := by decide +kernel
theorem dX5_isPicture_12 : decode cX5_isPicture 12 = .ok (.getfield 86, 3) := by decide +kernel
theorem dX5_isPicture_15 : decode cX5_isPicture 15 = .ok (.if_icmp .ge 7, 3) := by decide +kernel
theorem dX5_isPicture_18 : decode cX5_isPicture 18 = .ok (.iconst 1, 1) := by decide +kernel
theorem dX5_isPicture_19 : decode cX5_isPicture 19 = .ok (.goto 4, 3) := by decide +kernel
theorem dX5_isPicture_22 : decode cX5_isPicture 22 = .ok (.iconst 0, 1) := by decide +kernel
theorem dX5_isPicture_23 : decode cX5_isPicture 23 = .ok (.iconst 1, 1) := by decide +kernel
theorem dX5_isPicture_24 : decode cX5_isPicture 24 = .ok (.invokevirtual 55, 3) := by decide +kernel
theorem dX5_isPicture_27 : decode cX5_isPicture 27 = .ok (.ireturn, 1) := by decide +kernel
theorem dX5_picture_0 : decode cX5_picture 0 = .ok (.aload_n 0, 1) := by decide +kernel
theorem dX5_picture_1 : decode cX5_picture 1 = .ok (.iconst 0, 1) := by decide +kernel
theorem dX5_picture_2 : decode cX5_picture 2 = .ok (.putfield 48, 3) := by decide +kernel
theorem dX5_picture_5 : decode cX5_picture 5 = .ok (.aload_n 0, 1) := by decide +kernel
theorem dX5_picture_6 : decode cX5_picture 6 = .ok (.getfield 86, 3) := by decide +kernel
theorem dX5_picture_9 : decode cX5_picture 9 = .ok (.bipush 8, 2) := by decide +kernel
theorem dX5_picture_11 : decode cX5_picture 11 = .ok (.if_icmp .eq 25, 3) := by decide +kernel
theorem dX5_picture_14 : decode cX5_picture 14 = .ok (.iload_n 1, 1) := by decide +kernel
theorem dX5_picture_15 : decode cX5_picture 15 = .ok (.iconst 2, 1) := by decide +kernel
theorem dX5_picture_16 : decode cX5_picture 16 = .ok (.if_icmp .lt 20, 3) := by decide +kernel
theorem dX5_picture_19 : decode cX5_picture 19 = .ok (.iload_n 1, 1) := by decide +kernel
theorem dX5_picture_20 : decode cX5_picture 20 = .ok (.bipush 6, 2) := by decide +kernel
theorem dX5_picture_22 : decode cX5_picture 22 = .ok (.if_icmp .gt 14, 3) := by decide +kernel
theorem dX5_picture_25 : decode cX5_picture 25 = .ok (.iload_n 2, 1) := by decide +kernel
theorem dX5_picture_26 : decode cX5_picture 26 = .ok (.iconst 1, 1) := by decide +kernel
theorem dX5_picture_27 : decode cX5_picture 27 = .ok (.if_icmp .lt 9, 3) := by decide +kernel
theorem dX5_picture_30 : decode cX5_picture 30 = .ok (.iload_n 2, 1) := by decide +kernel
theorem dX5_picture_31 : decode cX5_picture 31 = .ok (.bipush 16, 2) := by decide +kernel
theorem dX5_picture_33 : decode cX5_picture 33 = .ok (.if_icmp .le 5, 3) := by decide +kernel
theorem dX5_picture_36 : decode cX5_picture 36 = .ok (.iconst (-1), 1) := by decide +kernel
theorem dX5_picture_37 : decode cX5_picture 37 = .ok (.ireturn, 1) := by decide +kernel
theorem dX5_picture_38 : decode cX5_picture 38 = .ok (.aload_n 0, 1) := by decide +kernel
theorem dX5_picture_39 : decode cX5_picture 39 = .ok (.getfield 22, 3) := by decide +kernel
theorem dX5_picture_42 : decode cX5_picture 42 = .ok (.aload_n 0, 1) := by decide +kernel
theorem dX5_picture_43 : decode cX5_picture 43 = .ok (.getfield 86, 3) := by decide +kernel
theorem dX5_picture_46 : decode cX5_picture 46 = .ok (.iload_n 1, 1) := by decide +kernel
theorem dX5_picture_47 : decode cX5_picture 47 = .ok (.iastore, 1) := by decide +kernel
theorem dX5_picture_48 : decode cX5_picture 48 = .ok (.aload_n 0, 1) := by decide +kernel
theorem dX5_picture_49 : decode cX5_picture 49 = .ok (.getfield 25, 3) := by decide +kernel
theorem dX5_picture_52 : decode cX5_picture 52 = .ok (.aload_n 0, 1) := by decide +kernel
theorem dX5_picture_53 : decode cX5_picture 53 = .ok (.getfield 86, 3) := by decide +kernel
theorem dX5_picture_56 : decode cX5_picture 56 = .ok (.iload_n 2, 1) := by decide +kernel
theorem dX5_picture_57 : decode cX5_picture 57 = .ok (.iastore, 1) := by decide +kernel
theorem dX5_picture_58 : decode cX5_picture 58 = .ok (.iconst 0, 1) := by decide +kernel
theorem dX5_picture_59 : decode cX5_picture 59 = .ok (.istore_n 3, 1) := by decide +kernel
theorem dX5_picture_60 : decode cX5_picture 60 = .ok (.iload_n 3, 1) := by decide +kernel
theorem dX5_picture_61 : decode cX5_picture 61 = .ok (.bipush 48, 2) := by decide +kernel
theorem dX5_picture_63 : decode cX5_picture 63 = .ok (.if_icmp .ge 24, 3) := by decide +kernel
theorem dX5_picture_66 : decode cX5_picture 66 = .ok (.aload_n 0, 1) := by decide +kernel
theorem dX5_picture_67 : decode cX5_picture 67 = .ok (.getfield 28, 3) := by decide +kernel
theorem dX5_picture_70 : decode cX5_picture 70 = .ok (.bipush 48, 2) := by decide +kernel
theorem dX5_picture_72 : decode cX5_picture 72 = .ok (.aload_n 0, 1) := by decide +kernel
theorem dX5_picture_73 : decode cX5_picture 73 = .ok (.getfield 86, 3) := by decide +kernel
theorem dX5_picture_76 : decode cX5_picture 76 = .ok (.imul, 1) := by decide +kernel
theorem dX5_picture_77 : decode cX5_picture 77 = .ok (.iload_n 3, 1) := by decide +kernel
theorem dX5_picture_78 : decode cX5_picture 78 = .ok (.iadd, 1) := by decide +kernel
theorem dX5_picture_79 : decode cX5_picture 79 = .ok (.iconst 4, 1) := by decide +kernel
theorem dX5_picture_80 : decode cX5_picture 80 = .ok (.iastore, 1) := by decide +kernel
theorem dX5_picture_81 : decode cX5_picture 81 = .ok (.iinc 3 1, 3) := by decide +kernel
theorem dX5_picture_84 : decode cX5_picture 84 = .ok (.goto (-24), 3) := by decide +kernel
theorem dX5_picture_87 : decode cX5_picture 87 = .ok (.iconst 0, 1) := by decide +kernel
theorem dX5_picture_88 : decode cX5_picture 88 = .ok (.istore_n 3, 1) := by decide +kernel
theorem dX5_picture_89 : decode cX5_picture 89 = .ok (.iload_n 3, 1) := by decide +kernel
theorem dX5_picture_90 : decode cX5_picture 90 = .ok (.bipush 6, 2) := by decide +kernel
theorem dX5_picture_92 : decode cX5_picture 92 = .ok (.if_icmp .ge 24, 3) := by decide +kernel
theorem dX5_picture_95 : decode cX5_picture 95 = .ok (.aload_n 0, 1) := by decide +kernel
theorem dX5_picture_96 : decode cX5_picture 96 = .ok (.getfield 31, 3) := by decide +kernel
theorem dX5_picture_99 : decode cX5_picture 99 = .ok (.bipush 6, 2) := by decide +kernel
theorem dX5_picture_101 : decode cX5_picture 101 = .ok (.aload_n 0, 1) := by decide +kernel
theorem dX5_picture_102 : decode cX5_picture 102 = .ok (.getfield 86, 3) := by decide +kernel
theorem dX5_picture_105 : decode cX5_picture 105 = .ok (.imul, 1) := by decide +kernel
theorem dX5_picture_106 : decode cX5_picture 106 = .ok (.iload_n 3, 1) := by decide +kernel
theorem dX5_picture_107 : decode cX5_picture 107 = .ok (.iadd, 1) := by decide +kernel
theorem dX5_picture_108 : decode cX5_picture 108 = .ok (.iconst 4, 1) := by decide +kernel
theorem dX5_picture_109 : decode cX5_picture 109 = .ok (.iastore, 1) := by decide +kernel
theorem dX5_picture_110 : decode cX5_picture 110 = .ok (.iinc 3 1, 3) := by decide +kernel
theorem dX5_picture_113 : decode cX5_picture 113 = .ok (.goto (-24), 3) := by decide +kernel
theorem dX5_picture_116 : decode cX5_picture 116 = .ok (.aload_n 0, 1) := by decide +kernel
theorem dX5_picture_117 : decode cX5_picture 117 = .ok (.dup, 1) := by decide +kernel
theorem dX5_picture_118 : decode cX5_picture 118 = .ok (.getfield 86, 3) := by decide +kernel
theorem dX5_picture_121 : decode cX5_picture 121 = .ok (.iconst 1, 1) := by decide +kernel
theorem dX5_picture_122 : decode cX5_picture 122 = .ok (.iadd, 1) := by decide +kernel
theorem dX5_picture_123 : decode cX5_picture 123 = .ok (.putfield 86, 3) := by decide +kernel
theorem dX5_picture_126 : decode cX5_picture 126 = .ok (.aload_n 0, 1) := by decide +kernel
theorem dX5_picture_127 : decode cX5_picture 127 = .ok (.getfield 86, 3) := by decide +kernel
theorem dX5_picture_130 : decode cX5_picture 130 = .ok (.iconst 1, 1) := by decide +kernel
theorem dX5_picture_131 : decode cX5_picture 131 = .ok (.isub, 1) := by decide +kernel
theorem dX5_picture_132 : decode cX5_picture 132 = .ok (.ireturn, 1) := by decide +kernel
set_option maxRecDepth 20000 in
theorem ggX5_see_X5_isPicture : GoodIn wsX5_see wsX5_isPicture := goodIn_r _ [8, 9, 10, 11, 12, 13, 7, 14, 18, 19, 20, 21, 22, 23, 24, 25, 26, 27, 28, 29, 30, 31, 32] (by decide +kernel) (by decide +kernel)
set_option maxRecDepth 20000 in
theorem gX5_see_X5_isPicture : GoodIn wsX5_see (wsV RX5 89 RX5 yX5_isPicture wsX5_isPicture) := goodIn_app (goodIn_of _ (by decide +kernel)) ggX5_see_X5_isPicture
set_option maxRecDepth 20000 in
theorem ggX5_see_X5_knots : GoodIn wsX5_see wsX5_knots := goodIn_r _ [17] (by decide +kernel) (by decide +kernel)
set_option maxRecDepth 20000 in
theorem gX5_see_X5_knots : GoodIn wsX5_see (va_wsS RX5 63 yX5_knots wsX5_knots) := goodIn_app (goodIn_of _ (by decide +kernel)) ggX5_see_X5_knots
set_option maxRecDepth 20000 in
theorem ggX5_see_X5_right : GoodIn wsX5_see wsX5_right := goodIn_r _ [14, 9, 18, 19, 20, 21, 22, 23, 24, 25, 26, 27, 28, 29, 30, 31, 32] (by decide +kernel) (by decide +kernel)
set_option maxRecDepth 20000 in
theorem gX5_see_X5_right : GoodIn wsX5_see (wsV RX5 55 RX5 yX5_right wsX5_right) := goodIn_app (goodIn_of _ (by decide +kernel)) ggX5_see_X5_right
theorem dX5_see_0 : decode cX5_see 0 = .ok (.aload_n 0, 1) := by decide +kernel
theorem dX5_see_1 : decode cX5_see 1 = .ok (.iload_n 1, 1) := by decide +kernel
theorem dX5_see_2 : decode cX5_see 2 = .ok (.invokevirtual 89, 3) := by decide +kernel
theorem dX5_see_5 : decode cX5_see 5 = .ok (.ifCond .eq 72, 3) := by decide +kernel
theorem dX5_see_8 : decode cX5_see 8 = .ok (.aload_n 0, 1) := by decide +kernel
theorem dX5_see_9 : decode cX5_see 9 = .ok (.iload_n 2, 1) := by decide +kernel
theorem dX5_see_10 : decode cX5_see 10 = .ok (.ifCond .lt 35, 3) := by decide +kernel
theorem dX5_see_13 : decode cX5_see 13 = .ok (.iload_n 2, 1) := by decide +kernel
theorem dX5_see_14 : decode cX5_see 14 = .ok (.aload_n 0, 1) := by decide +kernel
theorem dX5_see_15 : decode cX5_see 15 = .ok (.getfield 25, 3) := by decide +kernel
theorem dX5_see_18 : decode cX5_see 18 = .ok (.iload_n 1, 1) := by decide +kernel
theorem dX5_see_19 : decode cX5_see 19 = .ok (.iaload, 1) := by decide +kernel
theorem dX5_see_20 : decode cX5_see 20 = .ok (.if_icmp .ge 25, 3) := by decide +kernel
theorem dX5_see_23 : decode cX5_see 23 = .ok (.iload_n 3, 1) := by decide +kernel
theorem dX5_see_24 : decode cX5_see 24 = .ok (.ifCond .lt 21, 3) := by decide +kernel
theorem dX5_see_27 : decode cX5_see 27 = .ok (.iload_n 3, 1) := by decide +kernel
theorem dX5_see_28 : decode cX5_see 28 = .ok (.aload_n 0, 1) := by decide +kernel
theorem dX5_see_29 : decode cX5_see 29 = .ok (.getfield 22, 3) := by decide +kernel
theorem dX5_see_32 : decode cX5_see 32 = .ok (.iload_n 1, 1) := by decide +kernel
theorem dX5_see_33 : decode cX5_see 33 = .ok (.iaload, 1) := by decide +kernel
theorem dX5_see_34 : decode cX5_see 34 = .ok (.iload_n 2, 1) := by decide +kernel
theorem dX5_see_35 : decode cX5_see 35 = .ok (.invokestatic 63, 3) := by decide +kernel
theorem dX5_see_38 : decode cX5_see 38 = .ok (.if_icmp .ge 7, 3) := by decide +kernel
theorem dX5_see_41 : decode cX5_see 41 = .ok (.iconst 1, 1) := by decide +kernel
theorem dX5_see_42 : decode cX5_see 42 = .ok (.goto 4, 3) := by decide +kernel
theorem dX5_see_45 : decode cX5_see 45 = .ok (.iconst 0, 1) := by decide +kernel
theorem dX5_see_46 : decode cX5_see 46 = .ok (.iconst 1, 1) := by decide +kernel
theorem dX5_see_47 : decode cX5_see 47 = .ok (.invokevirtual 55, 3) := by decide +kernel
theorem dX5_see_50 : decode cX5_see 50 = .ok (.ifCond .eq 27, 3) := by decide +kernel
theorem dX5_see_53 : decode cX5_see 53 = .ok (.aload_n 0, 1) := by decide +kernel
theorem dX5_see_54 : decode cX5_see 54 = .ok (.iload 4, 2) := by decide +kernel
theorem dX5_see_56 : decode cX5_see 56 = .ok (.ifCond .lt 13, 3) := by decide +kernel
theorem dX5_see_59 : decode cX5_see 59 = .ok (.iload 4, 2) := by decide +kernel
theorem dX5_see_61 : decode cX5_see 61 = .ok (.iconst 4, 1) := by decide +kernel
theorem dX5_see_62 : decode cX5_see 62 = .ok (.if_icmp .gt 7, 3) := by decide +kernel
theorem dX5_see_65 : decode cX5_see 65 = .ok (.iconst 1, 1) := by decide +kernel
theorem dX5_see_66 : decode cX5_see 66 = .ok (.goto 4, 3) := by decide +kernel
theorem dX5_see_69 : decode cX5_see 69 = .ok (.iconst 0, 1) := by decide +kernel
theorem dX5_see_70 : decode cX5_see 70 = .ok (.iconst 2, 1) := by decide +kernel
theorem dX5_see_71 : decode cX5_see 71 = .ok (.invokevirtual 55, 3) := by decide +kernel
theorem dX5_see_74 : decode cX5_see 74 = .ok (.ifCond .ne 5, 3) := by decide +kernel
theorem dX5_see_77 : decode cX5_see 77 = .ok (.iconst 0, 1) := by decide +kernel
theorem dX5_see_78 : decode cX5_see 78 = .ok (.ireturn, 1) := by decide +kernel
theorem dX5_see_79 : decode cX5_see 79 = .ok (.aload_n 0, 1) := by decide +kernel
theorem dX5_see_80 : decode cX5_see 80 = .ok (.getfield 28, 3) := by decide +kernel
theorem dX5_see_83 : decode cX5_see 83 = .ok (.bipush 48, 2) := by decide +kernel
theorem dX5_see_85 : decode cX5_see 85 = .ok (.iload_n 1, 1) := by decide +kernel
theorem dX5_see_86 : decode cX5_see 86 = .ok (.imul, 1) := by decide +kernel
theorem dX5_see_87 : decode cX5_see 87 = .ok (.iconst 3, 1) := by decide +kernel
theorem dX5_see_88 : decode cX5_see 88 = .ok (.iload_n 2, 1) := by decide +kernel
theorem dX5_see_89 : decode cX5_see 89 = .ok (.imul, 1) := by decide +kernel
theorem dX5_see_90 : decode cX5_see 90 = .ok (.iadd, 1) := by decide +kernel
theorem dX5_see_91 : decode cX5_see 91 = .ok (.iload_n 3, 1) := by decide +kernel
theorem dX5_see_92 : decode cX5_see 92 = .ok (.iadd, 1) := by decide +kernel
theorem dX5_see_93 : decode cX5_see 93 = .ok (.iaload, 1) := by decide +kernel
theorem dX5_see_94 : decode cX5_see 94 = .ok (.istore 5, 2) := by decide +kernel
theorem dX5_see_96 : decode cX5_see 96 = .ok (.aload_n 0, 1) := by decide +kernel
theorem dX5_see_97 : decode cX5_see 97 = .ok (.getfield 28, 3) := by decide +kernel
theorem dX5_see_100 : decode cX5_see 100 = .ok (.bipush 48, 2) := by decide +kernel
theorem dX5_see_102 : decode cX5_see 102 = .ok (.iload_n 1, 1) := by decide +kernel
theorem dX5_see_103 : decode cX5_see 103 = .ok (.imul, 1) := by decide +kernel
theorem dX5_see_104 : decode cX5_see 104 = .ok (.iconst 3, 1) := by decide +kernel
theorem dX5_see_105 : decode cX5_see 105 = .ok (.iload_n 2, 1) := by decide +kernel
theorem dX5_see_106 : decode cX5_see 106 = .ok (.imul, 1) := by decide +kernel
theorem dX5_see_107 : decode cX5_see 107 = .ok (.iadd, 1) := by decide +kernel
theorem dX5_see_108 : decode cX5_see 108 = .ok (.iload_n 3, 1) := by decide +kernel
theorem dX5_see_109 : decode cX5_see 109 = .ok (.iadd, 1) := by decide +kernel
theorem dX5_see_110 : decode cX5_see 110 = .ok (.iload 4, 2) := by decide +kernel
theorem dX5_see_112 : decode cX5_see 112 = .ok (.iastore, 1) := by decide +kernel
theorem dX5_see_113 : decode cX5_see 113 = .ok (.iload 5, 2) := by decide +kernel
theorem dX5_see_115 : decode cX5_see 115 = .ok (.ireturn, 1) := by decide +kernel
set_option maxRecDepth 20000 in
theorem ggX5_must_X5_isPicture : GoodIn wsX5_must wsX5_isPicture := goodIn_r _ [7, 8, 9, 10, 11, 12, 6, 13, 14, 15, 16, 17, 18, 19, 20, 21, 22, 23, 24, 25, 26, 27, 28] (by decide +kernel) (by decide +kernel)
set_option maxRecDepth 20000 in
theorem gX5_must_X5_isPicture : GoodIn wsX5_must (wsV RX5 89 RX5 yX5_isPicture wsX5_isPicture) := goodIn_app (goodIn_of _ (by decide +kernel)) ggX5_must_X5_isPicture
set_option maxRecDepth 20000 in
theorem ggX5_must_X5_right : GoodIn wsX5_must wsX5_right := goodIn_r _ [13, 8, 14, 15, 16, 17, 18, 19, 20, 21, 22, 23, 24, 25, 26, 27, 28] (by decide +kernel) (by decide +kernel)
set_option maxRecDepth 20000 in
theorem gX5_must_X5_right : GoodIn wsX5_must (wsV RX5 55 RX5 yX5_right wsX5_right) := goodIn_app (goodIn_of _ (by decide +kernel)) ggX5_must_X5_right
theorem dX5_must_0 : decode cX5_must 0 = .ok (.aload_n 0, 1) := by decide +kernel
theorem dX5_must_1 : decode cX5_must 1 = .ok (.iload_n 1, 1) := by decide +kernel
theorem dX5_must_2 : decode cX5_must 2 = .ok (.invokevirtual 89, 3) := by decide +kernel
theorem dX5_must_5 : decode cX5_must 5 = .ok (.ifCond .eq 52, 3) := by decide +kernel
theorem dX5_must_8 : decode cX5_must 8 = .ok (.aload_n 0, 1) := by decide +kernel
theorem dX5_must_9 : decode cX5_must 9 = .ok (.iload_n 2, 1) := by decide +kernel
theorem dX5_must_10 : decode cX5_must 10 = .ok (.ifCond .lt 17, 3) := by decide +kernel
theorem dX5_must_13 : decode cX5_must 13 = .ok (.iload_n 2, 1) := by decide +kernel
theorem dX5_must_14 : decode cX5_must 14 = .ok (.aload_n 0, 1) := by decide +kernel
theorem dX5_must_15 : decode cX5_must 15 = .ok (.getfield 22, 3) := by decide +kernel
theorem dX5_must_18 : decode cX5_must 18 = .ok (.iload_n 1, 1) := by decide +kernel
theorem dX5_must_19 : decode cX5_must 19 = .ok (.iaload, 1) := by decide +kernel
theorem dX5_must_20 : decode cX5_must 20 = .ok (.if_icmp .ge 7, 3) := by decide +kernel
theorem dX5_must_23 : decode cX5_must 23 = .ok (.iconst 1, 1) := by decide +kernel
theorem dX5_must_24 : decode cX5_must 24 = .ok (.goto 4, 3) := by decide +kernel
theorem dX5_must_27 : decode cX5_must 27 = .ok (.iconst 0, 1) := by decide +kernel
theorem dX5_must_28 : decode cX5_must 28 = .ok (.iconst 1, 1) := by decide +kernel
theorem dX5_must_29 : decode cX5_must 29 = .ok (.invokevirtual 55, 3) := by decide +kernel
theorem dX5_must_32 : decode cX5_must 32 = .ok (.ifCond .eq 25, 3) := by decide +kernel
theorem dX5_must_35 : decode cX5_must 35 = .ok (.aload_n 0, 1) := by decide +kernel
theorem dX5_must_36 : decode cX5_must 36 = .ok (.iload_n 3, 1) := by decide +kernel
theorem dX5_must_37 : decode cX5_must 37 = .ok (.ifCond .lt 12, 3) := by decide +kernel
theorem dX5_must_40 : decode cX5_must 40 = .ok (.iload_n 3, 1) := by decide +kernel
theorem dX5_must_41 : decode cX5_must 41 = .ok (.iconst 4, 1) := by decide +kernel
theorem dX5_must_42 : decode cX5_must 42 = .ok (.if_icmp .gt 7, 3) := by decide +kernel
theorem dX5_must_45 : decode cX5_must 45 = .ok (.iconst 1, 1) := by decide +kernel
theorem dX5_must_46 : decode cX5_must 46 = .ok (.goto 4, 3) := by decide +kernel
theorem dX5_must_49 : decode cX5_must 49 = .ok (.iconst 0, 1) := by decide +kernel
theorem dX5_must_50 : decode cX5_must 50 = .ok (.iconst 2, 1) := by decide +kernel
theorem dX5_must_51 : decode cX5_must 51 = .ok (.invokevirtual 55, 3) := by decide +kernel
theorem dX5_must_54 : decode cX5_must 54 = .ok (.ifCond .ne 5, 3) := by decide +kernel
theorem dX5_must_57 : decode cX5_must 57 = .ok (.iconst 0, 1) := by decide +kernel
theorem dX5_must_58 : decode cX5_must 58 = .ok (.ireturn, 1) := by decide +kernel
theorem dX5_must_59 : decode cX5_must 59 = .ok (.aload_n 0, 1) := by decide +kernel
theorem dX5_must_60 : decode cX5_must 60 = .ok (.getfield 31, 3) := by decide +kernel
theorem dX5_must_63 : decode cX5_must 63 = .ok (.bipush 6, 2) := by decide +kernel
theorem dX5_must_65 : decode cX5_must 65 = .ok (.iload_n 1, 1) := by decide +kernel
theorem dX5_must_66 : decode cX5_must 66 = .ok (.imul, 1) := by decide +kernel
theorem dX5_must_67 : decode cX5_must 67 = .ok (.iload_n 2, 1) := by decide +kernel
theorem dX5_must_68 : decode cX5_must 68 = .ok (.iadd, 1) := by decide +kernel
theorem dX5_must_69 : decode cX5_must 69 = .ok (.iaload, 1) := by decide +kernel
theorem dX5_must_70 : decode cX5_must 70 = .ok (.istore 4, 2) := by decide +kernel
theorem dX5_must_72 : decode cX5_must 72 = .ok (.aload_n 0, 1) := by decide +kernel
theorem dX5_must_73 : decode cX5_must 73 = .ok (.getfield 31, 3) := by decide +kernel
theorem dX5_must_76 : decode cX5_must 76 = .ok (.bipush 6, 2) := by decide +kernel
theorem dX5_must_78 : decode cX5_must 78 = .ok (.iload_n 1, 1) := by decide +kernel
theorem dX5_must_79 : decode cX5_must 79 = .ok (.imul, 1) := by decide +kernel
theorem dX5_must_80 : decode cX5_must 80 = .ok (.iload_n 2, 1) := by decide +kernel
theorem dX5_must_81 : decode cX5_must 81 = .ok (.iadd, 1) := by decide +kernel
theorem dX5_must_82 : decode cX5_must 82 = .ok (.iload_n 3, 1) := by decide +kernel
theorem dX5_must_83 : decode cX5_must 83 = .ok (.iastore, 1) := by decide +kernel
theorem dX5_must_84 : decode cX5_must 84 = .ok (.iload 4, 2) := by decide +kernel
theorem dX5_must_86 : decode cX5_must 86 = .ok (.ireturn, 1) := by decide +kernel
set_option maxRecDepth 20000 in
theorem ggX5_copy_X5_isPicture : GoodIn wsX5_copy wsX5_isPicture := goodIn_r _ [11, 12, 13, 14, 15, 16, 10, 17, 39, 40, 41, 42, 43, 44, 45, 46, 47, 48, 49, 50, 51, 52, 53] (by decide +kernel) (by decide +kernel)
set_option maxRecDepth 20000 in
theorem gX5_copy_X5_isPicture : GoodIn wsX5_copy (wsV RX5 89 RX5 yX5_isPicture wsX5_isPicture) := goodIn_app (goodIn_of _ (by decide +kernel)) ggX5_copy_X5_isPicture
set_option maxRecDepth 20000 in
theorem ggX5_copy_X5_right : GoodIn wsX5_copy wsX5_right := goodIn_r _ [17, 12, 39, 40, 41, 42, 43, 44, 45, 46, 47, 48, 49, 50, 51, 52, 53] (by decide +kernel) (by decide +kernel)
set_option maxRecDepth 20000 in
theorem gX5_copy_X5_right : GoodIn wsX5_copy (wsV RX5 55 RX5 yX5_right wsX5_right) := goodIn_app (goodIn_of _ (by decide +kernel)) ggX5_copy_X5_right
set_option maxRecDepth 20000 in
theorem ggX5_copy_X5_knots : GoodIn wsX5_copy wsX5_knots := goodIn_r _ [20] (by decide +kernel) (by decide +kernel)
set_option maxRecDepth 20000 in
theorem gX5_copy_X5_knots : GoodIn wsX5_copy (va_wsS RX5 63 yX5_knots wsX5_knots) := goodIn_app (goodIn_of _ (by decide +kernel)) ggX5_copy_X5_knots
set_option maxRecDepth 20000 in
theorem ggX5_copy_X5_showsOf : GoodIn wsX5_copy wsX5_showsOf := goodIn_r _ [24, 25, 26, 27, 28, 10, 29, 30, 3, 31, 18, 19, 20, 32, 33, 34, 35, 36, 37, 38, 39, 40, 41, 42, 43, 44, 45, 46, 47, 48, 49, 50, 51, 52, 53] (by decide +kernel) (by decide +kernel)
set_option maxRecDepth 20000 in
theorem gX5_copy_X5_showsOf : GoodIn wsX5_copy (wsV RX5 82 RX5 yX5_showsOf wsX5_showsOf) := goodIn_app (goodIn_of _ (by decide +kernel)) ggX5_copy_X5_showsOf
theorem dX5_copy_0 : decode cX5_copy 0 = .ok (.aload_n 0, 1) := by decide +kernel
theorem dX5_copy_1 : decode cX5_copy 1 = .ok (.iload_n 1, 1) := by decide +kernel
theorem dX5_copy_2 : decode cX5_copy 2 = .ok (.invokevirtual 89, 3) := by decide +kernel
theorem dX5_copy_5 : decode cX5_copy 5 = .ok (.ifCond .eq 28, 3) := by decide +kernel
theorem dX5_copy_8 : decode cX5_copy 8 = .ok (.aload_n 0, 1) := by decide +kernel
theorem dX5_copy_9 : decode cX5_copy 9 = .ok (.iload_n 2, 1) := by decide +kernel
theorem dX5_copy_10 : decode cX5_copy 10 = .ok (.ifCond .lt 15, 3) := by decide +kernel
theorem dX5_copy_13 : decode cX5_copy 13 = .ok (.iload_n 2, 1) := by decide +kernel
theorem dX5_copy_14 : decode cX5_copy 14 = .ok (.aload_n 0, 1) := by decide +kernel
theorem dX5_copy_15 : decode cX5_copy 15 = .ok (.getfield 52, 3) := by decide +kernel
theorem dX5_copy_18 : decode cX5_copy 18 = .ok (.if_icmp .ge 7, 3) := by decide +kernel
theorem dX5_copy_21 : decode cX5_copy 21 = .ok (.iconst 1, 1) := by decide +kernel
theorem dX5_copy_22 : decode cX5_copy 22 = .ok (.goto 4, 3) := by decide +kernel
theorem dX5_copy_25 : decode cX5_copy 25 = .ok (.iconst 0, 1) := by decide +kernel
theorem dX5_copy_26 : decode cX5_copy 26 = .ok (.iconst 1, 1) := by decide +kernel
theorem dX5_copy_27 : decode cX5_copy 27 = .ok (.invokevirtual 55, 3) := by decide +kernel
theorem dX5_copy_30 : decode cX5_copy 30 = .ok (.ifCond .ne 5, 3) := by decide +kernel
theorem dX5_copy_33 : decode cX5_copy 33 = .ok (.iconst 0, 1) := by decide +kernel
theorem dX5_copy_34 : decode cX5_copy 34 = .ok (.ireturn, 1) := by decide +kernel
theorem dX5_copy_35 : decode cX5_copy 35 = .ok (.aload_n 0, 1) := by decide +kernel
theorem dX5_copy_36 : decode cX5_copy 36 = .ok (.getfield 22, 3) := by decide +kernel
theorem dX5_copy_39 : decode cX5_copy 39 = .ok (.iload_n 1, 1) := by decide +kernel
theorem dX5_copy_40 : decode cX5_copy 40 = .ok (.iaload, 1) := by decide +kernel
theorem dX5_copy_41 : decode cX5_copy 41 = .ok (.aload_n 0, 1) := by decide +kernel
theorem dX5_copy_42 : decode cX5_copy 42 = .ok (.getfield 7, 3) := by decide +kernel
theorem dX5_copy_45 : decode cX5_copy 45 = .ok (.iload_n 2, 1) := by decide +kernel
theorem dX5_copy_46 : decode cX5_copy 46 = .ok (.iaload, 1) := by decide +kernel
theorem dX5_copy_47 : decode cX5_copy 47 = .ok (.if_icmp .ne 18, 3) := by decide +kernel
theorem dX5_copy_50 : decode cX5_copy 50 = .ok (.aload_n 0, 1) := by decide +kernel
theorem dX5_copy_51 : decode cX5_copy 51 = .ok (.getfield 25, 3) := by decide +kernel
theorem dX5_copy_54 : decode cX5_copy 54 = .ok (.iload_n 1, 1) := by decide +kernel
theorem dX5_copy_55 : decode cX5_copy 55 = .ok (.iaload, 1) := by decide +kernel
theorem dX5_copy_56 : decode cX5_copy 56 = .ok (.aload_n 0, 1) := by decide +kernel
theorem dX5_copy_57 : decode cX5_copy 57 = .ok (.getfield 13, 3) := by decide +kernel
theorem dX5_copy_60 : decode cX5_copy 60 = .ok (.iload_n 2, 1) := by decide +kernel
theorem dX5_copy_61 : decode cX5_copy 61 = .ok (.iaload, 1) := by decide +kernel
theorem dX5_copy_62 : decode cX5_copy 62 = .ok (.if_icmp .eq 5, 3) := by decide +kernel
theorem dX5_copy_65 : decode cX5_copy 65 = .ok (.iconst 0, 1) := by decide +kernel
theorem dX5_copy_66 : decode cX5_copy 66 = .ok (.ireturn, 1) := by decide +kernel
theorem dX5_copy_67 : decode cX5_copy 67 = .ok (.iconst 0, 1) := by decide +kernel
theorem dX5_copy_68 : decode cX5_copy 68 = .ok (.istore_n 3, 1) := by decide +kernel
theorem dX5_copy_69 : decode cX5_copy 69 = .ok (.iload_n 3, 1) := by decide +kernel
theorem dX5_copy_70 : decode cX5_copy 70 = .ok (.aload_n 0, 1) := by decide +kernel
theorem dX5_copy_71 : decode cX5_copy 71 = .ok (.getfield 13, 3) := by decide +kernel
theorem dX5_copy_74 : decode cX5_copy 74 = .ok (.iload_n 2, 1) := by decide +kernel
theorem dX5_copy_75 : decode cX5_copy 75 = .ok (.iaload, 1) := by decide +kernel
theorem dX5_copy_76 : decode cX5_copy 76 = .ok (.if_icmp .ge 57, 3) := by decide +kernel
theorem dX5_copy_79 : decode cX5_copy 79 = .ok (.iconst 0, 1) := by decide +kernel
theorem dX5_copy_80 : decode cX5_copy 80 = .ok (.istore 4, 2) := by decide +kernel
theorem dX5_copy_82 : decode cX5_copy 82 = .ok (.iload 4, 2) := by decide +kernel
theorem dX5_copy_84 : decode cX5_copy 84 = .ok (.aload_n 0, 1) := by decide +kernel
theorem dX5_copy_85 : decode cX5_copy 85 = .ok (.getfield 7, 3) := by decide +kernel
theorem dX5_copy_88 : decode cX5_copy 88 = .ok (.iload_n 2, 1) := by decide +kernel
theorem dX5_copy_89 : decode cX5_copy 89 = .ok (.iaload, 1) := by decide +kernel
theorem dX5_copy_90 : decode cX5_copy 90 = .ok (.iload_n 3, 1) := by decide +kernel
theorem dX5_copy_91 : decode cX5_copy 91 = .ok (.invokestatic 63, 3) := by decide +kernel
theorem dX5_copy_94 : decode cX5_copy 94 = .ok (.if_icmp .ge 33, 3) := by decide +kernel
theorem dX5_copy_97 : decode cX5_copy 97 = .ok (.aload_n 0, 1) := by decide +kernel
theorem dX5_copy_98 : decode cX5_copy 98 = .ok (.getfield 28, 3) := by decide +kernel
theorem dX5_copy_101 : decode cX5_copy 101 = .ok (.bipush 48, 2) := by decide +kernel
theorem dX5_copy_103 : decode cX5_copy 103 = .ok (.iload_n 1, 1) := by decide +kernel
theorem dX5_copy_104 : decode cX5_copy 104 = .ok (.imul, 1) := by decide +kernel
theorem dX5_copy_105 : decode cX5_copy 105 = .ok (.iconst 3, 1) := by decide +kernel
theorem dX5_copy_106 : decode cX5_copy 106 = .ok (.iload_n 3, 1) := by decide +kernel
theorem dX5_copy_107 : decode cX5_copy 107 = .ok (.imul, 1) := by decide +kernel
theorem dX5_copy_108 : decode cX5_copy 108 = .ok (.iadd, 1) := by decide +kernel
theorem dX5_copy_109 : decode cX5_copy 109 = .ok (.iload 4, 2) := by decide +kernel
theorem dX5_copy_111 : decode cX5_copy 111 = .ok (.iadd, 1) := by decide +kernel
theorem dX5_copy_112 : decode cX5_copy 112 = .ok (.aload_n 0, 1) := by decide +kernel
theorem dX5_copy_113 : decode cX5_copy 113 = .ok (.iload_n 2, 1) := by decide +kernel
theorem dX5_copy_114 : decode cX5_copy 114 = .ok (.iload_n 3, 1) := by decide +kernel
theorem dX5_copy_115 : decode cX5_copy 115 = .ok (.iload 4, 2) := by decide +kernel
theorem dX5_copy_117 : decode cX5_copy 117 = .ok (.invokevirtual 82, 3) := by decide +kernel
theorem dX5_copy_120 : decode cX5_copy 120 = .ok (.iastore, 1) := by decide +kernel
theorem dX5_copy_121 : decode cX5_copy 121 = .ok (.iinc 4 1, 3) := by decide +kernel
theorem dX5_copy_124 : decode cX5_copy 124 = .ok (.goto (-42), 3) := by decide +kernel
theorem dX5_copy_127 : decode cX5_copy 127 = .ok (.iinc 3 1, 3) := by decide +kernel
theorem dX5_copy_130 : decode cX5_copy 130 = .ok (.goto (-61), 3) := by decide +kernel
theorem dX5_copy_133 : decode cX5_copy 133 = .ok (.iconst 1, 1) := by decide +kernel
theorem dX5_copy_134 : decode cX5_copy 134 = .ok (.ireturn, 1) := by decide +kernel
theorem dX5_digit_0 : decode cX5_digit 0 = .ok (.iload_n 1, 1) := by decide +kernel
theorem dX5_digit_1 : decode cX5_digit 1 = .ok (.iconst 2, 1) := by decide +kernel
theorem dX5_digit_2 : decode cX5_digit 2 = .ok (.iload_n 0, 1) := by decide +kernel
theorem dX5_digit_3 : decode cX5_digit 3 = .ok (.iconst 1, 1) := by decide +kernel
theorem dX5_digit_4 : decode cX5_digit 4 = .ok (.isub, 1) := by decide +kernel
theorem dX5_digit_5 : decode cX5_digit 5 = .ok (.iload_n 2, 1) := by decide +kernel
theorem dX5_digit_6 : decode cX5_digit 6 = .ok (.isub, 1) := by decide +kernel
theorem dX5_digit_7 : decode cX5_digit 7 = .ok (.imul, 1) := by decide +kernel
theorem dX5_digit_8 : decode cX5_digit 8 = .ok (.ishr, 1) := by decide +kernel
theorem dX5_digit_9 : decode cX5_digit 9 = .ok (.iconst 3, 1) := by decide +kernel
theorem dX5_digit_10 : decode cX5_digit 10 = .ok (.iand, 1) := by decide +kernel
theorem dX5_digit_11 : decode cX5_digit 11 = .ok (.ireturn, 1) := by decide +kernel
theorem dX5_swapped_0 : decode cX5_swapped 0 = .ok (.iconst 2, 1) := by decide +kernel
theorem dX5_swapped_1 : decode cX5_swapped 1 = .ok (.iload_n 0, 1) := by decide +kernel
theorem dX5_swapped_2 : decode cX5_swapped 2 = .ok (.iconst 2, 1) := by decide +kernel
theorem dX5_swapped_3 : decode cX5_swapped 3 = .ok (.isub, 1) := by decide +kernel
theorem dX5_swapped_4 : decode cX5_swapped 4 = .ok (.iload_n 2, 1) := by decide +kernel
theorem dX5_swapped_5 : decode cX5_swapped 5 = .ok (.isub, 1) := by decide +kernel
theorem dX5_swapped_6 : decode cX5_swapped 6 = .ok (.imul, 1) := by decide +kernel
theorem dX5_swapped_7 : decode cX5_swapped 7 = .ok (.istore_n 3, 1) := by decide +kernel
theorem dX5_swapped_8 : decode cX5_swapped 8 = .ok (.iload_n 1, 1) := by decide +kernel
theorem dX5_swapped_9 : decode cX5_swapped 9 = .ok (.iload_n 3, 1) := by decide +kernel
theorem dX5_swapped_10 : decode cX5_swapped 10 = .ok (.iconst 2, 1) := by decide +kernel
theorem dX5_swapped_11 : decode cX5_swapped 11 = .ok (.iadd, 1) := by decide +kernel
theorem dX5_swapped_12 : decode cX5_swapped 12 = .ok (.ishr, 1) := by decide +kernel
theorem dX5_swapped_13 : decode cX5_swapped 13 = .ok (.iconst 3, 1) := by decide +kernel
theorem dX5_swapped_14 : decode cX5_swapped 14 = .ok (.iand, 1) := by decide +kernel
theorem dX5_swapped_15 : decode cX5_swapped 15 = .ok (.istore 4, 2) := by decide +kernel
theorem dX5_swapped_17 : decode cX5_swapped 17 = .ok (.iload_n 1, 1) := by decide +kernel
theorem dX5_swapped_18 : decode cX5_swapped 18 = .ok (.iload_n 3, 1) := by decide +kernel
theorem dX5_swapped_19 : decode cX5_swapped 19 = .ok (.ishr, 1) := by decide +kernel
theorem dX5_swapped_20 : decode cX5_swapped 20 = .ok (.iconst 3, 1) := by decide +kernel
theorem dX5_swapped_21 : decode cX5_swapped 21 = .ok (.iand, 1) := by decide +kernel
theorem dX5_swapped_22 : decode cX5_swapped 22 = .ok (.istore 5, 2) := by decide +kernel
theorem dX5_swapped_24 : decode cX5_swapped 24 = .ok (.iload_n 1, 1) := by decide +kernel
theorem dX5_swapped_25 : decode cX5_swapped 25 = .ok (.bipush 15, 2) := by decide +kernel
theorem dX5_swapped_27 : decode cX5_swapped 27 = .ok (.iload_n 3, 1) := by decide +kernel
theorem dX5_swapped_28 : decode cX5_swapped 28 = .ok (.ishl, 1) := by decide +kernel
theorem dX5_swapped_29 : decode cX5_swapped 29 = .ok (.iconst (-1), 1) := by decide +kernel
theorem dX5_swapped_30 : decode cX5_swapped 30 = .ok (.ixor, 1) := by decide +kernel
theorem dX5_swapped_31 : decode cX5_swapped 31 = .ok (.iand, 1) := by decide +kernel
theorem dX5_swapped_32 : decode cX5_swapped 32 = .ok (.iload 5, 2) := by decide +kernel
theorem dX5_swapped_34 : decode cX5_swapped 34 = .ok (.iload_n 3, 1) := by decide +kernel
theorem dX5_swapped_35 : decode cX5_swapped 35 = .ok (.iconst 2, 1) := by decide +kernel
theorem dX5_swapped_36 : decode cX5_swapped 36 = .ok (.iadd, 1) := by decide +kernel
theorem dX5_swapped_37 : decode cX5_swapped 37 = .ok (.ishl, 1) := by decide +kernel
theorem dX5_swapped_38 : decode cX5_swapped 38 = .ok (.ior, 1) := by decide +kernel
theorem dX5_swapped_39 : decode cX5_swapped 39 = .ok (.iload 4, 2) := by decide +kernel
theorem dX5_swapped_41 : decode cX5_swapped 41 = .ok (.iload_n 3, 1) := by decide +kernel
theorem dX5_swapped_42 : decode cX5_swapped 42 = .ok (.ishl, 1) := by decide +kernel
theorem dX5_swapped_43 : decode cX5_swapped 43 = .ok (.ior, 1) := by decide +kernel
theorem dX5_swapped_44 : decode cX5_swapped 44 = .ok (.ireturn, 1) := by decide +kernel
set_option maxRecDepth 20000 in
theorem ggX5_changed_X5_knots : GoodIn wsX5_changed wsX5_knots := goodIn_r _ [4] (by decide +kernel) (by decide +kernel)
set_option maxRecDepth 20000 in
theorem gX5_changed_X5_knots : GoodIn wsX5_changed (va_wsS RX5 63 yX5_knots wsX5_knots) := goodIn_app (goodIn_of _ (by decide +kernel)) ggX5_changed_X5_knots
set_option maxRecDepth 20000 in
theorem ggX5_changed_X5_left : GoodIn wsX5_changed wsX5_left := goodIn_r _ [7] (by decide +kernel) (by decide +kernel)
set_option maxRecDepth 20000 in
theorem gX5_changed_X5_left : GoodIn wsX5_changed (va_wsS RX5 71 yX5_left wsX5_left) := goodIn_app (goodIn_of _ (by decide +kernel)) ggX5_changed_X5_left
set_option maxRecDepth 20000 in
theorem ggX5_changed_X5_swapped : GoodIn wsX5_changed wsX5_swapped := goodIn_r _ [10] (by decide +kernel) (by decide +kernel)
set_option maxRecDepth 20000 in
theorem gX5_changed_X5_swapped : GoodIn wsX5_changed (va_wsS RX5 92 yX5_swapped wsX5_swapped) := goodIn_app (goodIn_of _ (by decide +kernel)) ggX5_changed_X5_swapped
theorem dX5_changed_0 : decode cX5_changed 0 = .ok (.iload_n 2, 1) := by decide +kernel
theorem dX5_changed_1 : decode cX5_changed 1 = .ok (.istore 4, 2) := by decide +kernel
theorem dX5_changed_3 : decode cX5_changed 3 = .ok (.iconst 0, 1) := by decide +kernel
theorem dX5_changed_4 : decode cX5_changed 4 = .ok (.istore 5, 2) := by decide +kernel
theorem dX5_changed_6 : decode cX5_changed 6 = .ok (.iload 5, 2) := by decide +kernel
theorem dX5_changed_8 : decode cX5_changed 8 = .ok (.iload_n 0, 1) := by decide +kernel
theorem dX5_changed_9 : decode cX5_changed 9 = .ok (.iload_n 1, 1) := by decide +kernel
theorem dX5_changed_10 : decode cX5_changed 10 = .ok (.invokestatic 63, 3) := by decide +kernel
theorem dX5_changed_13 : decode cX5_changed 13 = .ok (.if_icmp .ge 33, 3) := by decide +kernel
theorem dX5_changed_16 : decode cX5_changed 16 = .ok (.iload_n 3, 1) := by decide +kernel
theorem dX5_changed_17 : decode cX5_changed 17 = .ok (.iload 5, 2) := by decide +kernel
theorem dX5_changed_19 : decode cX5_changed 19 = .ok (.ishr, 1) := by decide +kernel
theorem dX5_changed_20 : decode cX5_changed 20 = .ok (.iconst 1, 1) := by decide +kernel
theorem dX5_changed_21 : decode cX5_changed 21 = .ok (.iand, 1) := by decide +kernel
theorem dX5_changed_22 : decode cX5_changed 22 = .ok (.iconst 1, 1) := by decide +kernel
theorem dX5_changed_23 : decode cX5_changed 23 = .ok (.if_icmp .ne 17, 3) := by decide +kernel
theorem dX5_changed_26 : decode cX5_changed 26 = .ok (.iload_n 0, 1) := by decide +kernel
theorem dX5_changed_27 : decode cX5_changed 27 = .ok (.iload 4, 2) := by decide +kernel
theorem dX5_changed_29 : decode cX5_changed 29 = .ok (.iload_n 1, 1) := by decide +kernel
theorem dX5_changed_30 : decode cX5_changed 30 = .ok (.iload 5, 2) := by decide +kernel
theorem dX5_changed_32 : decode cX5_changed 32 = .ok (.invokestatic 71, 3) := by decide +kernel
theorem dX5_changed_35 : decode cX5_changed 35 = .ok (.invokestatic 92, 3) := by decide +kernel
theorem dX5_changed_38 : decode cX5_changed 38 = .ok (.istore 4, 2) := by decide +kernel
theorem dX5_changed_40 : decode cX5_changed 40 = .ok (.iinc 5 1, 3) := by decide +kernel
theorem dX5_changed_43 : decode cX5_changed 43 = .ok (.goto (-37), 3) := by decide +kernel
theorem dX5_changed_46 : decode cX5_changed 46 = .ok (.iload 4, 2) := by decide +kernel
theorem dX5_changed_48 : decode cX5_changed 48 = .ok (.ireturn, 1) := by decide +kernel
set_option maxRecDepth 20000 in
theorem ggX5_fits_X5_knots : GoodIn wsX5_fits wsX5_knots := goodIn_r _ [6] (by decide +kernel) (by decide +kernel)
set_option maxRecDepth 20000 in
theorem gX5_fits_X5_knots : GoodIn wsX5_fits (va_wsS RX5 63 yX5_knots wsX5_knots) := goodIn_app (goodIn_of _ (by decide +kernel)) ggX5_fits_X5_knots
set_option maxRecDepth 20000 in
theorem ggX5_fits_X5_left : GoodIn wsX5_fits wsX5_left := goodIn_r _ [9] (by decide +kernel) (by decide +kernel)
set_option maxRecDepth 20000 in
theorem gX5_fits_X5_left : GoodIn wsX5_fits (va_wsS RX5 71 yX5_left wsX5_left) := goodIn_app (goodIn_of _ (by decide +kernel)) ggX5_fits_X5_left
set_option maxRecDepth 20000 in
theorem ggX5_fits_X5_digit : GoodIn wsX5_fits wsX5_digit := goodIn_r _ [12] (by decide +kernel) (by decide +kernel)
set_option maxRecDepth 20000 in
theorem gX5_fits_X5_digit : GoodIn wsX5_fits (va_wsS RX5 95 yX5_digit wsX5_digit) := goodIn_app (goodIn_of _ (by decide +kernel)) ggX5_fits_X5_digit
theorem dX5_fits_0 : decode cX5_fits 0 = .ok (.iconst 1, 1) := by decide +kernel
theorem dX5_fits_1 : decode cX5_fits 1 = .ok (.istore 4, 2) := by decide +kernel
theorem dX5_fits_3 : decode cX5_fits 3 = .ok (.iconst 0, 1) := by decide +kernel
theorem dX5_fits_4 : decode cX5_fits 4 = .ok (.istore 5, 2) := by decide +kernel
theorem dX5_fits_6 : decode cX5_fits 6 = .ok (.iload 5, 2) := by decide +kernel
theorem dX5_fits_8 : decode cX5_fits 8 = .ok (.aload_n 0, 1) := by decide +kernel
theorem dX5_fits_9 : decode cX5_fits 9 = .ok (.getfield 22, 3) := by decide +kernel
theorem dX5_fits_12 : decode cX5_fits 12 = .ok (.iload_n 1, 1) := by decide +kernel
theorem dX5_fits_13 : decode cX5_fits 13 = .ok (.iaload, 1) := by decide +kernel
theorem dX5_fits_14 : decode cX5_fits 14 = .ok (.iload_n 2, 1) := by decide +kernel
theorem dX5_fits_15 : decode cX5_fits 15 = .ok (.invokestatic 63, 3) := by decide +kernel
theorem dX5_fits_18 : decode cX5_fits 18 = .ok (.if_icmp .ge 89, 3) := by decide +kernel
theorem dX5_fits_21 : decode cX5_fits 21 = .ok (.aload_n 0, 1) := by decide +kernel
theorem dX5_fits_22 : decode cX5_fits 22 = .ok (.getfield 28, 3) := by decide +kernel
theorem dX5_fits_25 : decode cX5_fits 25 = .ok (.bipush 48, 2) := by decide +kernel
theorem dX5_fits_27 : decode cX5_fits 27 = .ok (.iload_n 1, 1) := by decide +kernel
theorem dX5_fits_28 : decode cX5_fits 28 = .ok (.imul, 1) := by decide +kernel
theorem dX5_fits_29 : decode cX5_fits 29 = .ok (.iconst 3, 1) := by decide +kernel
theorem dX5_fits_30 : decode cX5_fits 30 = .ok (.iload_n 2, 1) := by decide +kernel
theorem dX5_fits_31 : decode cX5_fits 31 = .ok (.imul, 1) := by decide +kernel
theorem dX5_fits_32 : decode cX5_fits 32 = .ok (.iadd, 1) := by decide +kernel
theorem dX5_fits_33 : decode cX5_fits 33 = .ok (.iload 5, 2) := by decide +kernel
theorem dX5_fits_35 : decode cX5_fits 35 = .ok (.iadd, 1) := by decide +kernel
theorem dX5_fits_36 : decode cX5_fits 36 = .ok (.iaload, 1) := by decide +kernel
theorem dX5_fits_37 : decode cX5_fits 37 = .ok (.istore 6, 2) := by decide +kernel
theorem dX5_fits_39 : decode cX5_fits 39 = .ok (.iload 4, 2) := by decide +kernel
theorem dX5_fits_41 : decode cX5_fits 41 = .ok (.ifCond .eq 57, 3) := by decide +kernel
theorem dX5_fits_44 : decode cX5_fits 44 = .ok (.iload 6, 2) := by decide +kernel
theorem dX5_fits_46 : decode cX5_fits 46 = .ok (.iconst 4, 1) := by decide +kernel
theorem dX5_fits_47 : decode cX5_fits 47 = .ok (.if_icmp .eq 47, 3) := by decide +kernel
theorem dX5_fits_50 : decode cX5_fits 50 = .ok (.aload_n 0, 1) := by decide +kernel
theorem dX5_fits_51 : decode cX5_fits 51 = .ok (.getfield 22, 3) := by decide +kernel
theorem dX5_fits_54 : decode cX5_fits 54 = .ok (.iload_n 1, 1) := by decide +kernel
theorem dX5_fits_55 : decode cX5_fits 55 = .ok (.iaload, 1) := by decide +kernel
theorem dX5_fits_56 : decode cX5_fits 56 = .ok (.iload_n 3, 1) := by decide +kernel
theorem dX5_fits_57 : decode cX5_fits 57 = .ok (.iload_n 2, 1) := by decide +kernel
theorem dX5_fits_58 : decode cX5_fits 58 = .ok (.iload 5, 2) := by decide +kernel
theorem dX5_fits_60 : decode cX5_fits 60 = .ok (.invokestatic 71, 3) := by decide +kernel
theorem dX5_fits_63 : decode cX5_fits 63 = .ok (.invokestatic 95, 3) := by decide +kernel
theorem dX5_fits_66 : decode cX5_fits 66 = .ok (.iload 6, 2) := by decide +kernel
theorem dX5_fits_68 : decode cX5_fits 68 = .ok (.if_icmp .eq 26, 3) := by decide +kernel
theorem dX5_fits_71 : decode cX5_fits 71 = .ok (.aload_n 0, 1) := by decide +kernel
theorem dX5_fits_72 : decode cX5_fits 72 = .ok (.getfield 22, 3) := by decide +kernel
theorem dX5_fits_75 : decode cX5_fits 75 = .ok (.iload_n 1, 1) := by decide +kernel
theorem dX5_fits_76 : decode cX5_fits 76 = .ok (.iaload, 1) := by decide +kernel
theorem dX5_fits_77 : decode cX5_fits 77 = .ok (.iload_n 3, 1) := by decide +kernel
theorem dX5_fits_78 : decode cX5_fits 78 = .ok (.iload_n 2, 1) := by decide +kernel
theorem dX5_fits_79 : decode cX5_fits 79 = .ok (.iload 5, 2) := by decide +kernel
theorem dX5_fits_81 : decode cX5_fits 81 = .ok (.invokestatic 71, 3) := by decide +kernel
theorem dX5_fits_84 : decode cX5_fits 84 = .ok (.iconst 1, 1) := by decide +kernel
theorem dX5_fits_85 : decode cX5_fits 85 = .ok (.iadd, 1) := by decide +kernel
theorem dX5_fits_86 : decode cX5_fits 86 = .ok (.invokestatic 95, 3) := by decide +kernel
theorem dX5_fits_89 : decode cX5_fits 89 = .ok (.iload 6, 2) := by decide +kernel
theorem dX5_fits_91 : decode cX5_fits 91 = .ok (.if_icmp .ne 7, 3) := by decide +kernel
theorem dX5_fits_94 : decode cX5_fits 94 = .ok (.iconst 1, 1) := by decide +kernel
theorem dX5_fits_95 : decode cX5_fits 95 = .ok (.goto 4, 3) := by decide +kernel
theorem dX5_fits_98 : decode cX5_fits 98 = .ok (.iconst 0, 1) := by decide +kernel
theorem dX5_fits_99 : decode cX5_fits 99 = .ok (.istore 4, 2) := by decide +kernel
theorem dX5_fits_101 : decode cX5_fits 101 = .ok (.iinc 5 1, 3) := by decide +kernel
theorem dX5_fits_104 : decode cX5_fits 104 = .ok (.goto (-98), 3) := by decide +kernel
theorem dX5_fits_107 : decode cX5_fits 107 = .ok (.iload 4, 2) := by decide +kernel
theorem dX5_fits_109 : decode cX5_fits 109 = .ok (.ireturn, 1) := by decide +kernel
theorem dX5_states_0 : decode cX5_states 0 = .ok (.iconst 1, 1) := by decide +kernel
theorem dX5_states_1 : decode cX5_states 1 = .ok (.iconst 2, 1) := by decide +kernel
theorem dX5_states_2 : decode cX5_states 2 = .ok (.aload_n 0, 1) := by decide +kernel
theorem dX5_states_3 : decode cX5_states 3 = .ok (.getfield 22, 3) := by decide +kernel
theorem dX5_states_6 : decode cX5_states 6 = .ok (.iload_n 1, 1) := by decide +kernel
theorem dX5_states_7 : decode cX5_states 7 = .ok (.iaload, 1) := by decide +kernel
theorem dX5_states_8 : decode cX5_states 8 = .ok (.imul, 1) := by decide +kernel
theorem dX5_states_9 : decode cX5_states 9 = .ok (.ishl, 1) := by decide +kernel
theorem dX5_states_10 : decode cX5_states 10 = .ok (.ireturn, 1) := by decide +kernel
set_option maxRecDepth 20000 in
theorem ggX5_leadsBack_X5_states : GoodIn wsX5_leadsBack wsX5_states := goodIn_r _ [8, 1, 29, 30, 31, 32, 33, 34, 35, 36, 37, 38, 39, 40, 41, 42, 43] (by decide +kernel) (by decide +kernel)
set_option maxRecDepth 20000 in
theorem gX5_leadsBack_X5_states : GoodIn wsX5_leadsBack (wsV RX5 98 RX5 yX5_states wsX5_states) := goodIn_app (goodIn_of _ (by decide +kernel)) ggX5_leadsBack_X5_states
set_option maxRecDepth 20000 in
theorem ggX5_leadsBack_X5_fits : GoodIn wsX5_leadsBack wsX5_fits := goodIn_r _ [12, 1, 13, 14, 15, 7, 16, 17, 18, 19, 20, 21, 22, 29, 30, 31, 32, 33, 34, 35, 36, 37, 38, 39, 40, 41, 42, 43] (by decide +kernel) (by decide +kernel)
set_option maxRecDepth 20000 in
theorem gX5_leadsBack_X5_fits : GoodIn wsX5_leadsBack (wsV RX5 102 RX5 yX5_fits wsX5_fits) := goodIn_app (goodIn_of _ (by decide +kernel)) ggX5_leadsBack_X5_fits
set_option maxRecDepth 20000 in
theorem ggX5_leadsBack_X5_knots : GoodIn wsX5_leadsBack wsX5_knots := goodIn_r _ [16] (by decide +kernel) (by decide +kernel)
set_option maxRecDepth 20000 in
theorem gX5_leadsBack_X5_knots : GoodIn wsX5_leadsBack (va_wsS RX5 63 yX5_knots wsX5_knots) := goodIn_app (goodIn_of _ (by decide +kernel)) ggX5_leadsBack_X5_knots
set_option maxRecDepth 20000 in
theorem ggX5_leadsBack_X5_changed : GoodIn wsX5_leadsBack wsX5_changed := goodIn_r _ [25, 14, 15, 7, 16, 17, 18, 19, 26, 27, 28] (by decide +kernel) (by decide +kernel)
set_option maxRecDepth 20000 in
theorem gX5_leadsBack_X5_changed : GoodIn wsX5_leadsBack (va_wsS RX5 105 yX5_changed wsX5_changed) := goodIn_app (goodIn_of _ (by decide +kernel)) ggX5_leadsBack_X5_changed
theorem dX5_leadsBack_0 : decode cX5_leadsBack 0 = .ok (.aload_n 0, 1) := by decide +kernel
theorem dX5_leadsBack_1 : decode cX5_leadsBack 1 = .ok (.getfield 22, 3) := by decide +kernel
theorem dX5_leadsBack_4 : decode cX5_leadsBack 4 = .ok (.iload_n 1, 1) := by decide +kernel
theorem dX5_leadsBack_5 : decode cX5_leadsBack 5 = .ok (.iaload, 1) := by decide +kernel
theorem dX5_leadsBack_6 : decode cX5_leadsBack 6 = .ok (.istore_n 2, 1) := by decide +kernel
theorem dX5_leadsBack_7 : decode cX5_leadsBack 7 = .ok (.iconst 0, 1) := by decide +kernel
theorem dX5_leadsBack_8 : decode cX5_leadsBack 8 = .ok (.istore_n 3, 1) := by decide +kernel
theorem dX5_leadsBack_9 : decode cX5_leadsBack 9 = .ok (.iload_n 3, 1) := by decide +kernel
theorem dX5_leadsBack_10 : decode cX5_leadsBack 10 = .ok (.aload_n 0, 1) := by decide +kernel
theorem dX5_leadsBack_11 : decode cX5_leadsBack 11 = .ok (.iload_n 1, 1) := by decide +kernel
theorem dX5_leadsBack_12 : decode cX5_leadsBack 12 = .ok (.invokevirtual 98, 3) := by decide +kernel
theorem dX5_leadsBack_15 : decode cX5_leadsBack 15 = .ok (.if_icmp .ge 27, 3) := by decide +kernel
theorem dX5_leadsBack_18 : decode cX5_leadsBack 18 = .ok (.aload_n 0, 1) := by decide +kernel
theorem dX5_leadsBack_19 : decode cX5_leadsBack 19 = .ok (.getfield 44, 3) := by decide +kernel
theorem dX5_leadsBack_22 : decode cX5_leadsBack 22 = .ok (.sipush 4096, 3) := by decide +kernel
theorem dX5_leadsBack_25 : decode cX5_leadsBack 25 = .ok (.aload_n 0, 1) := by decide +kernel
theorem dX5_leadsBack_26 : decode cX5_leadsBack 26 = .ok (.getfield 25, 3) := by decide +kernel
theorem dX5_leadsBack_29 : decode cX5_leadsBack 29 = .ok (.iload_n 1, 1) := by decide +kernel
theorem dX5_leadsBack_30 : decode cX5_leadsBack 30 = .ok (.iaload, 1) := by decide +kernel
theorem dX5_leadsBack_31 : decode cX5_leadsBack 31 = .ok (.imul, 1) := by decide +kernel
theorem dX5_leadsBack_32 : decode cX5_leadsBack 32 = .ok (.iload_n 3, 1) := by decide +kernel
theorem dX5_leadsBack_33 : decode cX5_leadsBack 33 = .ok (.iadd, 1) := by decide +kernel
theorem dX5_leadsBack_34 : decode cX5_leadsBack 34 = .ok (.iconst 1, 1) := by decide +kernel
theorem dX5_leadsBack_35 : decode cX5_leadsBack 35 = .ok (.bastore, 1) := by decide +kernel
theorem dX5_leadsBack_36 : decode cX5_leadsBack 36 = .ok (.iinc 3 1, 3) := by decide +kernel
theorem dX5_leadsBack_39 : decode cX5_leadsBack 39 = .ok (.goto (-30), 3) := by decide +kernel
theorem dX5_leadsBack_42 : decode cX5_leadsBack 42 = .ok (.aload_n 0, 1) := by decide +kernel
theorem dX5_leadsBack_43 : decode cX5_leadsBack 43 = .ok (.getfield 25, 3) := by decide +kernel
theorem dX5_leadsBack_46 : decode cX5_leadsBack 46 = .ok (.iload_n 1, 1) := by decide +kernel
theorem dX5_leadsBack_47 : decode cX5_leadsBack 47 = .ok (.iaload, 1) := by decide +kernel
theorem dX5_leadsBack_48 : decode cX5_leadsBack 48 = .ok (.iconst 1, 1) := by decide +kernel
theorem dX5_leadsBack_49 : decode cX5_leadsBack 49 = .ok (.isub, 1) := by decide +kernel
theorem dX5_leadsBack_50 : decode cX5_leadsBack 50 = .ok (.istore_n 3, 1) := by decide +kernel
theorem dX5_leadsBack_51 : decode cX5_leadsBack 51 = .ok (.iload_n 3, 1) := by decide +kernel
theorem dX5_leadsBack_52 : decode cX5_leadsBack 52 = .ok (.ifCond .lt 135, 3) := by decide +kernel
theorem dX5_leadsBack_55 : decode cX5_leadsBack 55 = .ok (.iconst 0, 1) := by decide +kernel
theorem dX5_leadsBack_56 : decode cX5_leadsBack 56 = .ok (.istore 4, 2) := by decide +kernel
theorem dX5_leadsBack_58 : decode cX5_leadsBack 58 = .ok (.iload 4, 2) := by decide +kernel
theorem dX5_leadsBack_60 : decode cX5_leadsBack 60 = .ok (.aload_n 0, 1) := by decide +kernel
theorem dX5_leadsBack_61 : decode cX5_leadsBack 61 = .ok (.iload_n 1, 1) := by decide +kernel
theorem dX5_leadsBack_62 : decode cX5_leadsBack 62 = .ok (.invokevirtual 98, 3) := by decide +kernel
theorem dX5_leadsBack_65 : decode cX5_leadsBack 65 = .ok (.if_icmp .ge 23, 3) := by decide +kernel
theorem dX5_leadsBack_68 : decode cX5_leadsBack 68 = .ok (.aload_n 0, 1) := by decide +kernel
theorem dX5_leadsBack_69 : decode cX5_leadsBack 69 = .ok (.getfield 44, 3) := by decide +kernel
theorem dX5_leadsBack_72 : decode cX5_leadsBack 72 = .ok (.sipush 4096, 3) := by decide +kernel
theorem dX5_leadsBack_75 : decode cX5_leadsBack 75 = .ok (.iload_n 3, 1) := by decide +kernel
theorem dX5_leadsBack_76 : decode cX5_leadsBack 76 = .ok (.imul, 1) := by decide +kernel
theorem dX5_leadsBack_77 : decode cX5_leadsBack 77 = .ok (.iload 4, 2) := by decide +kernel
theorem dX5_leadsBack_79 : decode cX5_leadsBack 79 = .ok (.iadd, 1) := by decide +kernel
theorem dX5_leadsBack_80 : decode cX5_leadsBack 80 = .ok (.iconst 0, 1) := by decide +kernel
theorem dX5_leadsBack_81 : decode cX5_leadsBack 81 = .ok (.bastore, 1) := by decide +kernel
theorem dX5_leadsBack_82 : decode cX5_leadsBack 82 = .ok (.iinc 4 1, 3) := by decide +kernel
theorem dX5_leadsBack_85 : decode cX5_leadsBack 85 = .ok (.goto (-27), 3) := by decide +kernel
theorem dX5_leadsBack_88 : decode cX5_leadsBack 88 = .ok (.iconst 0, 1) := by decide +kernel
theorem dX5_leadsBack_89 : decode cX5_leadsBack 89 = .ok (.istore 4, 2) := by decide +kernel
theorem dX5_leadsBack_91 : decode cX5_leadsBack 91 = .ok (.iload 4, 2) := by decide +kernel
theorem dX5_leadsBack_93 : decode cX5_leadsBack 93 = .ok (.aload_n 0, 1) := by decide +kernel
theorem dX5_leadsBack_94 : decode cX5_leadsBack 94 = .ok (.iload_n 1, 1) := by decide +kernel
theorem dX5_leadsBack_95 : decode cX5_leadsBack 95 = .ok (.invokevirtual 98, 3) := by decide +kernel
theorem dX5_leadsBack_98 : decode cX5_leadsBack 98 = .ok (.if_icmp .ge 83, 3) := by decide +kernel
theorem dX5_leadsBack_101 : decode cX5_leadsBack 101 = .ok (.aload_n 0, 1) := by decide +kernel
theorem dX5_leadsBack_102 : decode cX5_leadsBack 102 = .ok (.getfield 44, 3) := by decide +kernel
theorem dX5_leadsBack_105 : decode cX5_leadsBack 105 = .ok (.sipush 4096, 3) := by decide +kernel
theorem dX5_leadsBack_108 : decode cX5_leadsBack 108 = .ok (.iload_n 3, 1) := by decide +kernel
theorem dX5_leadsBack_109 : decode cX5_leadsBack 109 = .ok (.iconst 1, 1) := by decide +kernel
theorem dX5_leadsBack_110 : decode cX5_leadsBack 110 = .ok (.iadd, 1) := by decide +kernel
theorem dX5_leadsBack_111 : decode cX5_leadsBack 111 = .ok (.imul, 1) := by decide +kernel
theorem dX5_leadsBack_112 : decode cX5_leadsBack 112 = .ok (.iload 4, 2) := by decide +kernel
theorem dX5_leadsBack_114 : decode cX5_leadsBack 114 = .ok (.iadd, 1) := by decide +kernel
theorem dX5_leadsBack_115 : decode cX5_leadsBack 115 = .ok (.baload, 1) := by decide +kernel
theorem dX5_leadsBack_116 : decode cX5_leadsBack 116 = .ok (.ifCond .eq 59, 3) := by decide +kernel
theorem dX5_leadsBack_119 : decode cX5_leadsBack 119 = .ok (.aload_n 0, 1) := by decide +kernel
theorem dX5_leadsBack_120 : decode cX5_leadsBack 120 = .ok (.iload_n 1, 1) := by decide +kernel
theorem dX5_leadsBack_121 : decode cX5_leadsBack 121 = .ok (.iload_n 3, 1) := by decide +kernel
theorem dX5_leadsBack_122 : decode cX5_leadsBack 122 = .ok (.iload 4, 2) := by decide +kernel
theorem dX5_leadsBack_124 : decode cX5_leadsBack 124 = .ok (.invokevirtual 102, 3) := by decide +kernel
theorem dX5_leadsBack_127 : decode cX5_leadsBack 127 = .ok (.ifCond .ne 6, 3) := by decide +kernel
theorem dX5_leadsBack_130 : decode cX5_leadsBack 130 = .ok (.goto 45, 3) := by decide +kernel
theorem dX5_leadsBack_133 : decode cX5_leadsBack 133 = .ok (.iconst 0, 1) := by decide +kernel
theorem dX5_leadsBack_134 : decode cX5_leadsBack 134 = .ok (.istore 5, 2) := by decide +kernel
theorem dX5_leadsBack_136 : decode cX5_leadsBack 136 = .ok (.iload 5, 2) := by decide +kernel
theorem dX5_leadsBack_138 : decode cX5_leadsBack 138 = .ok (.iconst 1, 1) := by decide +kernel
theorem dX5_leadsBack_139 : decode cX5_leadsBack 139 = .ok (.iload_n 2, 1) := by decide +kernel
theorem dX5_leadsBack_140 : decode cX5_leadsBack 140 = .ok (.iload_n 3, 1) := by decide +kernel
theorem dX5_leadsBack_141 : decode cX5_leadsBack 141 = .ok (.invokestatic 63, 3) := by decide +kernel
theorem dX5_leadsBack_144 : decode cX5_leadsBack 144 = .ok (.ishl, 1) := by decide +kernel
theorem dX5_leadsBack_145 : decode cX5_leadsBack 145 = .ok (.if_icmp .ge 30, 3) := by decide +kernel
theorem dX5_leadsBack_148 : decode cX5_leadsBack 148 = .ok (.aload_n 0, 1) := by decide +kernel
theorem dX5_leadsBack_149 : decode cX5_leadsBack 149 = .ok (.getfield 44, 3) := by decide +kernel
theorem dX5_leadsBack_152 : decode cX5_leadsBack 152 = .ok (.sipush 4096, 3) := by decide +kernel
theorem dX5_leadsBack_155 : decode cX5_leadsBack 155 = .ok (.iload_n 3, 1) := by decide +kernel
theorem dX5_leadsBack_156 : decode cX5_leadsBack 156 = .ok (.imul, 1) := by decide +kernel
theorem dX5_leadsBack_157 : decode cX5_leadsBack 157 = .ok (.iload_n 2, 1) := by decide +kernel
theorem dX5_leadsBack_158 : decode cX5_leadsBack 158 = .ok (.iload_n 3, 1) := by decide +kernel
theorem dX5_leadsBack_159 : decode cX5_leadsBack 159 = .ok (.iload 4, 2) := by decide +kernel
theorem dX5_leadsBack_161 : decode cX5_leadsBack 161 = .ok (.iload 5, 2) := by decide +kernel
theorem dX5_leadsBack_163 : decode cX5_leadsBack 163 = .ok (.invokestatic 105, 3) := by decide +kernel
theorem dX5_leadsBack_166 : decode cX5_leadsBack 166 = .ok (.iadd, 1) := by decide +kernel
theorem dX5_leadsBack_167 : decode cX5_leadsBack 167 = .ok (.iconst 1, 1) := by decide +kernel
theorem dX5_leadsBack_168 : decode cX5_leadsBack 168 = .ok (.bastore, 1) := by decide +kernel
theorem dX5_leadsBack_169 : decode cX5_leadsBack 169 = .ok (.iinc 5 1, 3) := by decide +kernel
theorem dX5_leadsBack_172 : decode cX5_leadsBack 172 = .ok (.goto (-36), 3) := by decide +kernel
theorem dX5_leadsBack_175 : decode cX5_leadsBack 175 = .ok (.iinc 4 1, 3) := by decide +kernel
theorem dX5_leadsBack_178 : decode cX5_leadsBack 178 = .ok (.goto (-87), 3) := by decide +kernel
theorem dX5_leadsBack_181 : decode cX5_leadsBack 181 = .ok (.iinc 3 (-1), 3) := by decide +kernel
theorem dX5_leadsBack_184 : decode cX5_leadsBack 184 = .ok (.goto (-133), 3) := by decide +kernel
theorem dX5_leadsBack_187 : decode cX5_leadsBack 187 = .ok (.return_, 1) := by decide +kernel
set_option maxRecDepth 20000 in
theorem ggX5_isStart_X5_digit : GoodIn wsX5_isStart wsX5_digit := goodIn_r _ [7] (by decide +kernel) (by decide +kernel)
set_option maxRecDepth 20000 in
theorem gX5_isStart_X5_digit : GoodIn wsX5_isStart (va_wsS RX5 95 yX5_digit wsX5_digit) := goodIn_app (goodIn_of _ (by decide +kernel)) ggX5_isStart_X5_digit
theorem dX5_isStart_0 : decode cX5_isStart 0 = .ok (.aload_n 0, 1) := by decide +kernel
theorem dX5_isStart_1 : decode cX5_isStart 1 = .ok (.getfield 44, 3) := by decide +kernel
theorem dX5_isStart_4 : decode cX5_isStart 4 = .ok (.iload_n 2, 1) := by decide +kernel
theorem dX5_isStart_5 : decode cX5_isStart 5 = .ok (.baload, 1) := by decide +kernel
theorem dX5_isStart_6 : decode cX5_isStart 6 = .ok (.istore_n 3, 1) := by decide +kernel
theorem dX5_isStart_7 : decode cX5_isStart 7 = .ok (.iconst 0, 1) := by decide +kernel
theorem dX5_isStart_8 : decode cX5_isStart 8 = .ok (.istore 4, 2) := by decide +kernel
theorem dX5_isStart_10 : decode cX5_isStart 10 = .ok (.iload 4, 2) := by decide +kernel
theorem dX5_isStart_12 : decode cX5_isStart 12 = .ok (.aload_n 0, 1) := by decide +kernel
theorem dX5_isStart_13 : decode cX5_isStart 13 = .ok (.getfield 22, 3) := by decide +kernel
theorem dX5_isStart_16 : decode cX5_isStart 16 = .ok (.iload_n 1, 1) := by decide +kernel
theorem dX5_isStart_17 : decode cX5_isStart 17 = .ok (.iaload, 1) := by decide +kernel
theorem dX5_isStart_18 : decode cX5_isStart 18 = .ok (.if_icmp .ge 62, 3) := by decide +kernel
theorem dX5_isStart_21 : decode cX5_isStart 21 = .ok (.iload_n 3, 1) := by decide +kernel
theorem dX5_isStart_22 : decode cX5_isStart 22 = .ok (.ifCond .eq 50, 3) := by decide +kernel
theorem dX5_isStart_25 : decode cX5_isStart 25 = .ok (.aload_n 0, 1) := by decide +kernel
theorem dX5_isStart_26 : decode cX5_isStart 26 = .ok (.getfield 31, 3) := by decide +kernel
theorem dX5_isStart_29 : decode cX5_isStart 29 = .ok (.bipush 6, 2) := by decide +kernel
theorem dX5_isStart_31 : decode cX5_isStart 31 = .ok (.iload_n 1, 1) := by decide +kernel
theorem dX5_isStart_32 : decode cX5_isStart 32 = .ok (.imul, 1) := by decide +kernel
theorem dX5_isStart_33 : decode cX5_isStart 33 = .ok (.iload 4, 2) := by decide +kernel
theorem dX5_isStart_35 : decode cX5_isStart 35 = .ok (.iadd, 1) := by decide +kernel
theorem dX5_isStart_36 : decode cX5_isStart 36 = .ok (.iaload, 1) := by decide +kernel
theorem dX5_isStart_37 : decode cX5_isStart 37 = .ok (.iconst 4, 1) := by decide +kernel
theorem dX5_isStart_38 : decode cX5_isStart 38 = .ok (.if_icmp .eq 30, 3) := by decide +kernel
theorem dX5_isStart_41 : decode cX5_isStart 41 = .ok (.aload_n 0, 1) := by decide +kernel
theorem dX5_isStart_42 : decode cX5_isStart 42 = .ok (.getfield 31, 3) := by decide +kernel
theorem dX5_isStart_45 : decode cX5_isStart 45 = .ok (.bipush 6, 2) := by decide +kernel
theorem dX5_isStart_47 : decode cX5_isStart 47 = .ok (.iload_n 1, 1) := by decide +kernel
theorem dX5_isStart_48 : decode cX5_isStart 48 = .ok (.imul, 1) := by decide +kernel
theorem dX5_isStart_49 : decode cX5_isStart 49 = .ok (.iload 4, 2) := by decide +kernel
theorem dX5_isStart_51 : decode cX5_isStart 51 = .ok (.iadd, 1) := by decide +kernel
theorem dX5_isStart_52 : decode cX5_isStart 52 = .ok (.iaload, 1) := by decide +kernel
theorem dX5_isStart_53 : decode cX5_isStart 53 = .ok (.aload_n 0, 1) := by decide +kernel
theorem dX5_isStart_54 : decode cX5_isStart 54 = .ok (.getfield 22, 3) := by decide +kernel
theorem dX5_isStart_57 : decode cX5_isStart 57 = .ok (.iload_n 1, 1) := by decide +kernel
theorem dX5_isStart_58 : decode cX5_isStart 58 = .ok (.iaload, 1) := by decide +kernel
theorem dX5_isStart_59 : decode cX5_isStart 59 = .ok (.iload_n 2, 1) := by decide +kernel
theorem dX5_isStart_60 : decode cX5_isStart 60 = .ok (.iload 4, 2) := by decide +kernel
theorem dX5_isStart_62 : decode cX5_isStart 62 = .ok (.invokestatic 95, 3) := by decide +kernel
theorem dX5_isStart_65 : decode cX5_isStart 65 = .ok (.if_icmp .ne 7, 3) := by decide +kernel
theorem dX5_isStart_68 : decode cX5_isStart 68 = .ok (.iconst 1, 1) := by decide +kernel
theorem dX5_isStart_69 : decode cX5_isStart 69 = .ok (.goto 4, 3) := by decide +kernel
theorem dX5_isStart_72 : decode cX5_isStart 72 = .ok (.iconst 0, 1) := by decide +kernel
theorem dX5_isStart_73 : decode cX5_isStart 73 = .ok (.istore_n 3, 1) := by decide +kernel
theorem dX5_isStart_74 : decode cX5_isStart 74 = .ok (.iinc 4 1, 3) := by decide +kernel
theorem dX5_isStart_77 : decode cX5_isStart 77 = .ok (.goto (-67), 3) := by decide +kernel
theorem dX5_isStart_80 : decode cX5_isStart 80 = .ok (.iload_n 3, 1) := by decide +kernel
theorem dX5_isStart_81 : decode cX5_isStart 81 = .ok (.ireturn, 1) := by decide +kernel
set_option maxRecDepth 20000 in
theorem ggX5_first_X5_leadsBack : GoodIn wsX5_first wsX5_leadsBack := goodIn_r _ [5, 6, 7, 8, 9, 10, 11, 4, 12, 13, 14, 15, 16, 17, 18, 19, 20, 21, 22, 23, 24, 25, 26, 27, 28, 29, 30, 31, 32, 38, 39, 40, 41, 42, 43, 44, 45, 46, 47, 48, 49, 50, 51, 52] (by decide +kernel) (by decide +kernel)
set_option maxRecDepth 20000 in
theorem gX5_first_X5_leadsBack : GoodIn wsX5_first (wsV RX5 109 RX5 yX5_leadsBack wsX5_leadsBack) := goodIn_app (goodIn_of _ (by decide +kernel)) ggX5_first_X5_leadsBack
set_option maxRecDepth 20000 in
theorem ggX5_first_X5_states : GoodIn wsX5_first wsX5_states := goodIn_r _ [12, 6, 38, 39, 40, 41, 42, 43, 44, 45, 46, 47, 48, 49, 50, 51, 52] (by decide +kernel) (by decide +kernel)
set_option maxRecDepth 20000 in
theorem gX5_first_X5_states : GoodIn wsX5_first (wsV RX5 98 RX5 yX5_states wsX5_states) := goodIn_app (goodIn_of _ (by decide +kernel)) ggX5_first_X5_states
set_option maxRecDepth 20000 in
theorem ggX5_first_X5_isStart : GoodIn wsX5_first wsX5_isStart := goodIn_r _ [36, 7, 6, 37, 24, 25, 4, 26, 38, 39, 40, 41, 42, 43, 44, 45, 46, 47, 48, 49, 50, 51, 52] (by decide +kernel) (by decide +kernel)
set_option maxRecDepth 20000 in
theorem gX5_first_X5_isStart : GoodIn wsX5_first (wsV RX5 113 RX5 yX5_isStart wsX5_isStart) := goodIn_app (goodIn_of _ (by decide +kernel)) ggX5_first_X5_isStart
theorem dX5_first_0 : decode cX5_first 0 = .ok (.aload_n 0, 1) := by decide +kernel
theorem dX5_first_1 : decode cX5_first 1 = .ok (.iload_n 1, 1) := by decide +kernel
theorem dX5_first_2 : decode cX5_first 2 = .ok (.invokevirtual 109, 3) := by decide +kernel
theorem dX5_first_5 : decode cX5_first 5 = .ok (.iconst 0, 1) := by decide +kernel
theorem dX5_first_6 : decode cX5_first 6 = .ok (.istore_n 2, 1) := by decide +kernel
theorem dX5_first_7 : decode cX5_first 7 = .ok (.iload_n 2, 1) := by decide +kernel
theorem dX5_first_8 : decode cX5_first 8 = .ok (.aload_n 0, 1) := by decide +kernel
theorem dX5_first_9 : decode cX5_first 9 = .ok (.iload_n 1, 1) := by decide +kernel
theorem dX5_first_10 : decode cX5_first 10 = .ok (.invokevirtual 98, 3) := by decide +kernel
theorem dX5_first_13 : decode cX5_first 13 = .ok (.if_icmp .ge 20, 3) := by decide +kernel
theorem dX5_first_16 : decode cX5_first 16 = .ok (.aload_n 0, 1) := by decide +kernel
theorem dX5_first_17 : decode cX5_first 17 = .ok (.iload_n 1, 1) := by decide +kernel
theorem dX5_first_18 : decode cX5_first 18 = .ok (.iload_n 2, 1) := by decide +kernel
theorem dX5_first_19 : decode cX5_first 19 = .ok (.invokevirtual 113, 3) := by decide +kernel
theorem dX5_first_22 : decode cX5_first 22 = .ok (.ifCond .eq 5, 3) := by decide +kernel
theorem dX5_first_25 : decode cX5_first 25 = .ok (.iload_n 2, 1) := by decide +kernel
theorem dX5_first_26 : decode cX5_first 26 = .ok (.ireturn, 1) := by decide +kernel
theorem dX5_first_27 : decode cX5_first 27 = .ok (.iinc 2 1, 3) := by decide +kernel
theorem dX5_first_30 : decode cX5_first 30 = .ok (.goto (-23), 3) := by decide +kernel
theorem dX5_first_33 : decode cX5_first 33 = .ok (.iconst (-1), 1) := by decide +kernel
theorem dX5_first_34 : decode cX5_first 34 = .ok (.ireturn, 1) := by decide +kernel
set_option maxRecDepth 20000 in
theorem ggX5_starts_X5_isPicture : GoodIn wsX5_starts wsX5_isPicture := goodIn_r _ [5, 6, 7, 8, 9, 10, 4, 11, 48, 49, 50, 51, 52, 53, 54, 55, 56, 57, 58, 59, 60, 61, 62] (by decide +kernel) (by decide +kernel)
set_option maxRecDepth 20000 in
theorem gX5_starts_X5_isPicture : GoodIn wsX5_starts (wsV RX5 89 RX5 yX5_isPicture wsX5_isPicture) := goodIn_app (goodIn_of _ (by decide +kernel)) ggX5_starts_X5_isPicture
set_option maxRecDepth 20000 in
theorem ggX5_starts_X5_leadsBack : GoodIn wsX5_starts wsX5_leadsBack := goodIn_r _ [15, 16, 17, 18, 19, 20, 21, 4, 22, 23, 24, 25, 26, 27, 28, 29, 30, 31, 32, 33, 34, 35, 36, 37, 38, 39, 40, 41, 42, 48, 49, 50, 51, 52, 53, 54, 55, 56, 57, 58, 59, 60, 61, 62] (by decide +kernel) (by decide +kernel)
set_option maxRecDepth 20000 in
theorem gX5_starts_X5_leadsBack : GoodIn wsX5_starts (wsV RX5 109 RX5 yX5_leadsBack wsX5_leadsBack) := goodIn_app (goodIn_of _ (by decide +kernel)) ggX5_starts_X5_leadsBack
set_option maxRecDepth 20000 in
theorem ggX5_starts_X5_states : GoodIn wsX5_starts wsX5_states := goodIn_r _ [22, 16, 48, 49, 50, 51, 52, 53, 54, 55, 56, 57, 58, 59, 60, 61, 62] (by decide +kernel) (by decide +kernel)
set_option maxRecDepth 20000 in
theorem gX5_starts_X5_states : GoodIn wsX5_starts (wsV RX5 98 RX5 yX5_states wsX5_states) := goodIn_app (goodIn_of _ (by decide +kernel)) ggX5_starts_X5_states
set_option maxRecDepth 20000 in
theorem ggX5_starts_X5_isStart : GoodIn wsX5_starts wsX5_isStart := goodIn_r _ [46, 17, 16, 47, 34, 35, 4, 36, 48, 49, 50, 51, 52, 53, 54, 55, 56, 57, 58, 59, 60, 61, 62] (by decide +kernel) (by decide +kernel)
set_option maxRecDepth 20000 in
theorem gX5_starts_X5_isStart : GoodIn wsX5_starts (wsV RX5 113 RX5 yX5_isStart wsX5_isStart) := goodIn_app (goodIn_of _ (by decide +kernel)) ggX5_starts_X5_isStart
theorem dX5_starts_0 : decode cX5_starts 0 = .ok (.aload_n 0, 1) := by decide +kernel
theorem dX5_starts_1 : decode cX5_starts 1 = .ok (.iload_n 1, 1) := by decide +kernel
theorem dX5_starts_2 : decode cX5_starts 2 = .ok (.invokevirtual 89, 3) := by decide +kernel
theorem dX5_starts_5 : decode cX5_starts 5 = .ok (.ifCond .ne 5, 3) := by decide +kernel
theorem dX5_starts_8 : decode cX5_starts 8 = .ok (.iconst 0, 1) := by decide +kernel
theorem dX5_starts_9 : decode cX5_starts 9 = .ok (.ireturn, 1) := by decide +kernel
theorem dX5_starts_10 : decode cX5_starts 10 = .ok (.aload_n 0, 1) := by decide +kernel
theorem dX5_starts_11 : decode cX5_starts 11 = .ok (.iload_n 1, 1) := by decide +kernel
theorem dX5_starts_12 : decode cX5_starts 12 = .ok (.invokevirtual 109, 3) := by decide +kernel
theorem dX5_starts_15 : decode cX5_starts 15 = .ok (.iconst 0, 1) := by decide +kernel
theorem dX5_starts_16 : decode cX5_starts 16 = .ok (.istore_n 2, 1) := by decide +kernel
theorem dX5_starts_17 : decode cX5_starts 17 = .ok (.iconst 0, 1) := by decide +kernel
theorem dX5_starts_18 : decode cX5_starts 18 = .ok (.istore_n 3, 1) := by decide +kernel
theorem dX5_starts_19 : decode cX5_starts 19 = .ok (.iload_n 3, 1) := by decide +kernel
theorem dX5_starts_20 : decode cX5_starts 20 = .ok (.aload_n 0, 1) := by decide +kernel
theorem dX5_starts_21 : decode cX5_starts 21 = .ok (.iload_n 1, 1) := by decide +kernel
theorem dX5_starts_22 : decode cX5_starts 22 = .ok (.invokevirtual 98, 3) := by decide +kernel
theorem dX5_starts_25 : decode cX5_starts 25 = .ok (.if_icmp .ge 21, 3) := by decide +kernel
theorem dX5_starts_28 : decode cX5_starts 28 = .ok (.aload_n 0, 1) := by decide +kernel
theorem dX5_starts_29 : decode cX5_starts 29 = .ok (.iload_n 1, 1) := by decide +kernel
theorem dX5_starts_30 : decode cX5_starts 30 = .ok (.iload_n 3, 1) := by decide +kernel
theorem dX5_starts_31 : decode cX5_starts 31 = .ok (.invokevirtual 113, 3) := by decide +kernel
theorem dX5_starts_34 : decode cX5_starts 34 = .ok (.ifCond .eq 6, 3) := by decide +kernel
theorem dX5_starts_37 : decode cX5_starts 37 = .ok (.iinc 2 1, 3) := by decide +kernel
theorem dX5_starts_40 : decode cX5_starts 40 = .ok (.iinc 3 1, 3) := by decide +kernel
theorem dX5_starts_43 : decode cX5_starts 43 = .ok (.goto (-24), 3) := by decide +kernel
theorem dX5_starts_46 : decode cX5_starts 46 = .ok (.iload_n 2, 1) := by decide +kernel
theorem dX5_starts_47 : decode cX5_starts 47 = .ok (.ireturn, 1) := by decide +kernel
set_option maxRecDepth 20000 in
theorem ggX5_start_X5_isPicture : GoodIn wsX5_start wsX5_isPicture := goodIn_r _ [6, 7, 8, 9, 10, 11, 5, 12, 52, 53, 54, 55, 56, 57, 58, 59, 60, 61, 62, 63, 64, 65, 66] (by decide +kernel) (by decide +kernel)
set_option maxRecDepth 20000 in
theorem gX5_start_X5_isPicture : GoodIn wsX5_start (wsV RX5 89 RX5 yX5_isPicture wsX5_isPicture) := goodIn_app (goodIn_of _ (by decide +kernel)) ggX5_start_X5_isPicture
set_option maxRecDepth 20000 in
theorem ggX5_start_X5_right : GoodIn wsX5_start wsX5_right := goodIn_r _ [12, 7, 52, 53, 54, 55, 56, 57, 58, 59, 60, 61, 62, 63, 64, 65, 66] (by decide +kernel) (by decide +kernel)
set_option maxRecDepth 20000 in
theorem gX5_start_X5_right : GoodIn wsX5_start (wsV RX5 55 RX5 yX5_right wsX5_right) := goodIn_app (goodIn_of _ (by decide +kernel)) ggX5_start_X5_right
set_option maxRecDepth 20000 in
theorem ggX5_start_X5_first : GoodIn wsX5_start wsX5_first := goodIn_r _ [16, 17, 18, 19, 5, 20, 1, 21, 22, 23, 24, 25, 26, 27, 28, 29, 30, 31, 32, 33, 34, 35, 36, 37, 38, 39, 40, 41, 42, 43, 44, 45, 46, 47, 48, 49, 50, 51, 52, 53, 54, 55, 56, 57, 58, 59, 60, 61, 62, 63, 64, 65, 66] (by decide +kernel) (by decide +kernel)
set_option maxRecDepth 20000 in
theorem gX5_start_X5_first : GoodIn wsX5_start (wsV RX5 117 RX5 yX5_first wsX5_first) := goodIn_app (goodIn_of _ (by decide +kernel)) ggX5_start_X5_first
set_option maxRecDepth 20000 in
theorem ggX5_start_X5_digit : GoodIn wsX5_start wsX5_digit := goodIn_r _ [40] (by decide +kernel) (by decide +kernel)
set_option maxRecDepth 20000 in
theorem gX5_start_X5_digit : GoodIn wsX5_start (va_wsS RX5 95 yX5_digit wsX5_digit) := goodIn_app (goodIn_of _ (by decide +kernel)) ggX5_start_X5_digit
theorem dX5_start_0 : decode cX5_start 0 = .ok (.aload_n 0, 1) := by decide +kernel
theorem dX5_start_1 : decode cX5_start 1 = .ok (.iload_n 1, 1) := by decide +kernel
theorem dX5_start_2 : decode cX5_start 2 = .ok (.invokevirtual 89, 3) := by decide +kernel
theorem dX5_start_5 : decode cX5_start 5 = .ok (.ifCond .eq 30, 3) := by decide +kernel
theorem dX5_start_8 : decode cX5_start 8 = .ok (.aload_n 0, 1) := by decide +kernel
theorem dX5_start_9 : decode cX5_start 9 = .ok (.iload_n 2, 1) := by decide +kernel
theorem dX5_start_10 : decode cX5_start 10 = .ok (.ifCond .lt 17, 3) := by decide +kernel
theorem dX5_start_13 : decode cX5_start 13 = .ok (.iload_n 2, 1) := by decide +kernel
theorem dX5_start_14 : decode cX5_start 14 = .ok (.aload_n 0, 1) := by decide +kernel
theorem dX5_start_15 : decode cX5_start 15 = .ok (.getfield 22, 3) := by decide +kernel
theorem dX5_start_18 : decode cX5_start 18 = .ok (.iload_n 1, 1) := by decide +kernel
theorem dX5_start_19 : decode cX5_start 19 = .ok (.iaload, 1) := by decide +kernel
theorem dX5_start_20 : decode cX5_start 20 = .ok (.if_icmp .ge 7, 3) := by decide +kernel
theorem dX5_start_23 : decode cX5_start 23 = .ok (.iconst 1, 1) := by decide +kernel
theorem dX5_start_24 : decode cX5_start 24 = .ok (.goto 4, 3) := by decide +kernel
theorem dX5_start_27 : decode cX5_start 27 = .ok (.iconst 0, 1) := by decide +kernel
theorem dX5_start_28 : decode cX5_start 28 = .ok (.iconst 1, 1) := by decide +kernel
theorem dX5_start_29 : decode cX5_start 29 = .ok (.invokevirtual 55, 3) := by decide +kernel
theorem dX5_start_32 : decode cX5_start 32 = .ok (.ifCond .ne 5, 3) := by decide +kernel
theorem dX5_start_35 : decode cX5_start 35 = .ok (.iconst 0, 1) := by decide +kernel
theorem dX5_start_36 : decode cX5_start 36 = .ok (.ireturn, 1) := by decide +kernel
theorem dX5_start_37 : decode cX5_start 37 = .ok (.aload_n 0, 1) := by decide +kernel
theorem dX5_start_38 : decode cX5_start 38 = .ok (.iload_n 1, 1) := by decide +kernel
theorem dX5_start_39 : decode cX5_start 39 = .ok (.invokevirtual 117, 3) := by decide +kernel
theorem dX5_start_42 : decode cX5_start 42 = .ok (.istore_n 3, 1) := by decide +kernel
theorem dX5_start_43 : decode cX5_start 43 = .ok (.iload_n 3, 1) := by decide +kernel
theorem dX5_start_44 : decode cX5_start 44 = .ok (.iconst (-1), 1) := by decide +kernel
theorem dX5_start_45 : decode cX5_start 45 = .ok (.if_icmp .ne 7, 3) := by decide +kernel
theorem dX5_start_48 : decode cX5_start 48 = .ok (.iconst (-1), 1) := by decide +kernel
theorem dX5_start_49 : decode cX5_start 49 = .ok (.goto 14, 3) := by decide +kernel
theorem dX5_start_52 : decode cX5_start 52 = .ok (.aload_n 0, 1) := by decide +kernel
theorem dX5_start_53 : decode cX5_start 53 = .ok (.getfield 22, 3) := by decide +kernel
theorem dX5_start_56 : decode cX5_start 56 = .ok (.iload_n 1, 1) := by decide +kernel
theorem dX5_start_57 : decode cX5_start 57 = .ok (.iaload, 1) := by decide +kernel
theorem dX5_start_58 : decode cX5_start 58 = .ok (.iload_n 3, 1) := by decide +kernel
theorem dX5_start_59 : decode cX5_start 59 = .ok (.iload_n 2, 1) := by decide +kernel
theorem dX5_start_60 : decode cX5_start 60 = .ok (.invokestatic 95, 3) := by decide +kernel
theorem dX5_start_63 : decode cX5_start 63 = .ok (.ireturn, 1) := by decide +kernel
set_option maxRecDepth 20000 in
theorem ggX5_isOpen_X5_knots : GoodIn wsX5_isOpen wsX5_knots := goodIn_r _ [6] (by decide +kernel) (by decide +kernel)
set_option maxRecDepth 20000 in
theorem gX5_isOpen_X5_knots : GoodIn wsX5_isOpen (va_wsS RX5 63 yX5_knots wsX5_knots) := goodIn_app (goodIn_of _ (by decide +kernel)) ggX5_isOpen_X5_knots
set_option maxRecDepth 20000 in
theorem ggX5_isOpen_X5_changed : GoodIn wsX5_isOpen wsX5_changed := goodIn_r _ [9, 3, 4, 5, 6, 10, 11, 12, 13, 14, 15] (by decide +kernel) (by decide +kernel)
set_option maxRecDepth 20000 in
theorem gX5_isOpen_X5_changed : GoodIn wsX5_isOpen (va_wsS RX5 105 yX5_changed wsX5_changed) := goodIn_app (goodIn_of _ (by decide +kernel)) ggX5_isOpen_X5_changed
theorem dX5_isOpen_0 : decode cX5_isOpen 0 = .ok (.iconst 0, 1) := by decide +kernel
theorem dX5_isOpen_1 : decode cX5_isOpen 1 = .ok (.istore 6, 2) := by decide +kernel
theorem dX5_isOpen_3 : decode cX5_isOpen 3 = .ok (.iload 6, 2) := by decide +kernel
theorem dX5_isOpen_5 : decode cX5_isOpen 5 = .ok (.iconst 1, 1) := by decide +kernel
theorem dX5_isOpen_6 : decode cX5_isOpen 6 = .ok (.aload_n 0, 1) := by decide +kernel
theorem dX5_isOpen_7 : decode cX5_isOpen 7 = .ok (.getfield 22, 3) := by decide +kernel
theorem dX5_isOpen_10 : decode cX5_isOpen 10 = .ok (.iload_n 1, 1) := by decide +kernel
theorem dX5_isOpen_11 : decode cX5_isOpen 11 = .ok (.iaload, 1) := by decide +kernel
theorem dX5_isOpen_12 : decode cX5_isOpen 12 = .ok (.iload_n 2, 1) := by decide +kernel
theorem dX5_isOpen_13 : decode cX5_isOpen 13 = .ok (.invokestatic 63, 3) := by decide +kernel
theorem dX5_isOpen_16 : decode cX5_isOpen 16 = .ok (.iload 4, 2) := by decide +kernel
theorem dX5_isOpen_18 : decode cX5_isOpen 18 = .ok (.isub, 1) := by decide +kernel
theorem dX5_isOpen_19 : decode cX5_isOpen 19 = .ok (.ishl, 1) := by decide +kernel
theorem dX5_isOpen_20 : decode cX5_isOpen 20 = .ok (.if_icmp .ge 46, 3) := by decide +kernel
theorem dX5_isOpen_23 : decode cX5_isOpen 23 = .ok (.aload_n 0, 1) := by decide +kernel
theorem dX5_isOpen_24 : decode cX5_isOpen 24 = .ok (.getfield 44, 3) := by decide +kernel
theorem dX5_isOpen_27 : decode cX5_isOpen 27 = .ok (.sipush 4096, 3) := by decide +kernel
theorem dX5_isOpen_30 : decode cX5_isOpen 30 = .ok (.iload_n 2, 1) := by decide +kernel
theorem dX5_isOpen_31 : decode cX5_isOpen 31 = .ok (.iconst 1, 1) := by decide +kernel
theorem dX5_isOpen_32 : decode cX5_isOpen 32 = .ok (.iadd, 1) := by decide +kernel
theorem dX5_isOpen_33 : decode cX5_isOpen 33 = .ok (.imul, 1) := by decide +kernel
theorem dX5_isOpen_34 : decode cX5_isOpen 34 = .ok (.aload_n 0, 1) := by decide +kernel
theorem dX5_isOpen_35 : decode cX5_isOpen 35 = .ok (.getfield 22, 3) := by decide +kernel
theorem dX5_isOpen_38 : decode cX5_isOpen 38 = .ok (.iload_n 1, 1) := by decide +kernel
theorem dX5_isOpen_39 : decode cX5_isOpen 39 = .ok (.iaload, 1) := by decide +kernel
theorem dX5_isOpen_40 : decode cX5_isOpen 40 = .ok (.iload_n 2, 1) := by decide +kernel
theorem dX5_isOpen_41 : decode cX5_isOpen 41 = .ok (.iload_n 3, 1) := by decide +kernel
theorem dX5_isOpen_42 : decode cX5_isOpen 42 = .ok (.iload 5, 2) := by decide +kernel
theorem dX5_isOpen_44 : decode cX5_isOpen 44 = .ok (.iload 6, 2) := by decide +kernel
theorem dX5_isOpen_46 : decode cX5_isOpen 46 = .ok (.iload 4, 2) := by decide +kernel
theorem dX5_isOpen_48 : decode cX5_isOpen 48 = .ok (.ishl, 1) := by decide +kernel
theorem dX5_isOpen_49 : decode cX5_isOpen 49 = .ok (.ior, 1) := by decide +kernel
theorem dX5_isOpen_50 : decode cX5_isOpen 50 = .ok (.invokestatic 105, 3) := by decide +kernel
theorem dX5_isOpen_53 : decode cX5_isOpen 53 = .ok (.iadd, 1) := by decide +kernel
theorem dX5_isOpen_54 : decode cX5_isOpen 54 = .ok (.baload, 1) := by decide +kernel
theorem dX5_isOpen_55 : decode cX5_isOpen 55 = .ok (.ifCond .eq 5, 3) := by decide +kernel
theorem dX5_isOpen_58 : decode cX5_isOpen 58 = .ok (.iconst 1, 1) := by decide +kernel
theorem dX5_isOpen_59 : decode cX5_isOpen 59 = .ok (.ireturn, 1) := by decide +kernel
theorem dX5_isOpen_60 : decode cX5_isOpen 60 = .ok (.iinc 6 1, 3) := by decide +kernel
theorem dX5_isOpen_63 : decode cX5_isOpen 63 = .ok (.goto (-60), 3) := by decide +kernel
theorem dX5_isOpen_66 : decode cX5_isOpen 66 = .ok (.iconst 0, 1) := by decide +kernel
theorem dX5_isOpen_67 : decode cX5_isOpen 67 = .ok (.ireturn, 1) := by decide +kernel
set_option maxRecDepth 20000 in
theorem ggX5_tie_X5_isPicture : GoodIn wsX5_tie wsX5_isPicture := goodIn_r _ [13, 14, 15, 16, 17, 18, 12, 19, 65, 66, 67, 68, 69, 70, 71, 72, 73, 74, 75, 76, 77, 78, 79] (by decide +kernel) (by decide +kernel)
set_option maxRecDepth 20000 in
theorem gX5_tie_X5_isPicture : GoodIn wsX5_tie (wsV RX5 89 RX5 yX5_isPicture wsX5_isPicture) := goodIn_app (goodIn_of _ (by decide +kernel)) ggX5_tie_X5_isPicture
set_option maxRecDepth 20000 in
theorem ggX5_tie_X5_first : GoodIn wsX5_tie wsX5_first := goodIn_r _ [23, 24, 25, 26, 12, 27, 2, 28, 5, 29, 30, 31, 32, 33, 34, 35, 36, 7, 37, 38, 39, 40, 41, 42, 43, 44, 45, 46, 47, 48, 49, 50, 51, 52, 53, 54, 55, 56, 65, 66, 67, 68, 69, 70, 71, 72, 73, 74, 75, 76, 77, 78, 79] (by decide +kernel) (by decide +kernel)
set_option maxRecDepth 20000 in
theorem gX5_tie_X5_first : GoodIn wsX5_tie (wsV RX5 117 RX5 yX5_first wsX5_first) := goodIn_app (goodIn_of _ (by decide +kernel)) ggX5_tie_X5_first
set_option maxRecDepth 20000 in
theorem ggX5_tie_X5_digit : GoodIn wsX5_tie wsX5_digit := goodIn_r _ [45] (by decide +kernel) (by decide +kernel)
set_option maxRecDepth 20000 in
theorem gX5_tie_X5_digit : GoodIn wsX5_tie (va_wsS RX5 95 yX5_digit wsX5_digit) := goodIn_app (goodIn_of _ (by decide +kernel)) ggX5_tie_X5_digit
set_option maxRecDepth 20000 in
theorem ggX5_tie_X5_knots : GoodIn wsX5_tie wsX5_knots := goodIn_r _ [39] (by decide +kernel) (by decide +kernel)
set_option maxRecDepth 20000 in
theorem gX5_tie_X5_knots : GoodIn wsX5_tie (va_wsS RX5 63 yX5_knots wsX5_knots) := goodIn_app (goodIn_of _ (by decide +kernel)) ggX5_tie_X5_knots
set_option maxRecDepth 20000 in
theorem ggX5_tie_X5_isKind : GoodIn wsX5_tie wsX5_isKind := goodIn_r _ [60, 40, 41, 12, 42, 43, 44, 45] (by decide +kernel) (by decide +kernel)
set_option maxRecDepth 20000 in
theorem gX5_tie_X5_isKind : GoodIn wsX5_tie (wsV RX5 120 RX5 yX5_isKind wsX5_isKind) := goodIn_app (goodIn_of _ (by decide +kernel)) ggX5_tie_X5_isKind
set_option maxRecDepth 20000 in
theorem ggX5_tie_X5_isOpen : GoodIn wsX5_tie wsX5_isOpen := goodIn_r _ [64, 2, 28, 37, 38, 12, 39, 46, 47, 48, 40, 41, 42, 49, 50, 51, 65, 66, 67, 68, 69, 70, 71, 72, 73, 74, 75, 76, 77, 78, 79] (by decide +kernel) (by decide +kernel)
set_option maxRecDepth 20000 in
theorem gX5_tie_X5_isOpen : GoodIn wsX5_tie (wsV RX5 124 RX5 yX5_isOpen wsX5_isOpen) := goodIn_app (goodIn_of _ (by decide +kernel)) ggX5_tie_X5_isOpen
set_option maxRecDepth 20000 in
theorem ggX5_tie_X5_changed : GoodIn wsX5_tie wsX5_changed := goodIn_r _ [48, 37, 38, 12, 39, 40, 41, 42, 49, 50, 51] (by decide +kernel) (by decide +kernel)
set_option maxRecDepth 20000 in
theorem gX5_tie_X5_changed : GoodIn wsX5_tie (va_wsS RX5 105 yX5_changed wsX5_changed) := goodIn_app (goodIn_of _ (by decide +kernel)) ggX5_tie_X5_changed
theorem dX5_tie_0 : decode cX5_tie 0 = .ok (.aload_n 0, 1) := by decide +kernel
theorem dX5_tie_1 : decode cX5_tie 1 = .ok (.iload_n 1, 1) := by decide +kernel
theorem dX5_tie_2 : decode cX5_tie 2 = .ok (.invokevirtual 89, 3) := by decide +kernel
theorem dX5_tie_5 : decode cX5_tie 5 = .ok (.ifCond .ne 5, 3) := by decide +kernel
theorem dX5_tie_8 : decode cX5_tie 8 = .ok (.iconst 0, 1) := by decide +kernel
theorem dX5_tie_9 : decode cX5_tie 9 = .ok (.ireturn, 1) := by decide +kernel
theorem dX5_tie_10 : decode cX5_tie 10 = .ok (.aload_n 0, 1) := by decide +kernel
theorem dX5_tie_11 : decode cX5_tie 11 = .ok (.iload_n 1, 1) := by decide +kernel
theorem dX5_tie_12 : decode cX5_tie 12 = .ok (.invokevirtual 117, 3) := by decide +kernel
theorem dX5_tie_15 : decode cX5_tie 15 = .ok (.istore_n 2, 1) := by decide +kernel
theorem dX5_tie_16 : decode cX5_tie 16 = .ok (.iload_n 2, 1) := by decide +kernel
theorem dX5_tie_17 : decode cX5_tie 17 = .ok (.iconst (-1), 1) := by decide +kernel
theorem dX5_tie_18 : decode cX5_tie 18 = .ok (.if_icmp .eq 12, 3) := by decide +kernel
theorem dX5_tie_21 : decode cX5_tie 21 = .ok (.aload_n 0, 1) := by decide +kernel
theorem dX5_tie_22 : decode cX5_tie 22 = .ok (.getfield 52, 3) := by decide +kernel
theorem dX5_tie_25 : decode cX5_tie 25 = .ok (.bipush 8, 2) := by decide +kernel
theorem dX5_tie_27 : decode cX5_tie 27 = .ok (.if_icmp .ne 5, 3) := by decide +kernel
theorem dX5_tie_30 : decode cX5_tie 30 = .ok (.iconst (-1), 1) := by decide +kernel
theorem dX5_tie_31 : decode cX5_tie 31 = .ok (.ireturn, 1) := by decide +kernel
theorem dX5_tie_32 : decode cX5_tie 32 = .ok (.aload_n 0, 1) := by decide +kernel
theorem dX5_tie_33 : decode cX5_tie 33 = .ok (.getfield 22, 3) := by decide +kernel
theorem dX5_tie_36 : decode cX5_tie 36 = .ok (.iload_n 1, 1) := by decide +kernel
theorem dX5_tie_37 : decode cX5_tie 37 = .ok (.iaload, 1) := by decide +kernel
theorem dX5_tie_38 : decode cX5_tie 38 = .ok (.istore_n 3, 1) := by decide +kernel
theorem dX5_tie_39 : decode cX5_tie 39 = .ok (.aload_n 0, 1) := by decide +kernel
theorem dX5_tie_40 : decode cX5_tie 40 = .ok (.getfield 52, 3) := by decide +kernel
theorem dX5_tie_43 : decode cX5_tie 43 = .ok (.istore 4, 2) := by decide +kernel
theorem dX5_tie_45 : decode cX5_tie 45 = .ok (.aload_n 0, 1) := by decide +kernel
theorem dX5_tie_46 : decode cX5_tie 46 = .ok (.dup, 1) := by decide +kernel
theorem dX5_tie_47 : decode cX5_tie 47 = .ok (.getfield 52, 3) := by decide +kernel
theorem dX5_tie_50 : decode cX5_tie 50 = .ok (.iconst 1, 1) := by decide +kernel
theorem dX5_tie_51 : decode cX5_tie 51 = .ok (.iadd, 1) := by decide +kernel
theorem dX5_tie_52 : decode cX5_tie 52 = .ok (.putfield 52, 3) := by decide +kernel
theorem dX5_tie_55 : decode cX5_tie 55 = .ok (.aload_n 0, 1) := by decide +kernel
theorem dX5_tie_56 : decode cX5_tie 56 = .ok (.getfield 7, 3) := by decide +kernel
theorem dX5_tie_59 : decode cX5_tie 59 = .ok (.iload 4, 2) := by decide +kernel
theorem dX5_tie_61 : decode cX5_tie 61 = .ok (.iload_n 3, 1) := by decide +kernel
theorem dX5_tie_62 : decode cX5_tie 62 = .ok (.iastore, 1) := by decide +kernel
theorem dX5_tie_63 : decode cX5_tie 63 = .ok (.aload_n 0, 1) := by decide +kernel
theorem dX5_tie_64 : decode cX5_tie 64 = .ok (.getfield 13, 3) := by decide +kernel
theorem dX5_tie_67 : decode cX5_tie 67 = .ok (.iload 4, 2) := by decide +kernel
theorem dX5_tie_69 : decode cX5_tie 69 = .ok (.aload_n 0, 1) := by decide +kernel
theorem dX5_tie_70 : decode cX5_tie 70 = .ok (.getfield 25, 3) := by decide +kernel
theorem dX5_tie_73 : decode cX5_tie 73 = .ok (.iload_n 1, 1) := by decide +kernel
theorem dX5_tie_74 : decode cX5_tie 74 = .ok (.iaload, 1) := by decide +kernel
theorem dX5_tie_75 : decode cX5_tie 75 = .ok (.iastore, 1) := by decide +kernel
theorem dX5_tie_76 : decode cX5_tie 76 = .ok (.iconst 0, 1) := by decide +kernel
theorem dX5_tie_77 : decode cX5_tie 77 = .ok (.istore 5, 2) := by decide +kernel
theorem dX5_tie_79 : decode cX5_tie 79 = .ok (.iload 5, 2) := by decide +kernel
theorem dX5_tie_81 : decode cX5_tie 81 = .ok (.iload_n 3, 1) := by decide +kernel
theorem dX5_tie_82 : decode cX5_tie 82 = .ok (.if_icmp .ge 29, 3) := by decide +kernel
theorem dX5_tie_85 : decode cX5_tie 85 = .ok (.aload_n 0, 1) := by decide +kernel
theorem dX5_tie_86 : decode cX5_tie 86 = .ok (.getfield 16, 3) := by decide +kernel
theorem dX5_tie_89 : decode cX5_tie 89 = .ok (.bipush 6, 2) := by decide +kernel
theorem dX5_tie_91 : decode cX5_tie 91 = .ok (.iload 4, 2) := by decide +kernel
theorem dX5_tie_93 : decode cX5_tie 93 = .ok (.imul, 1) := by decide +kernel
theorem dX5_tie_94 : decode cX5_tie 94 = .ok (.iload 5, 2) := by decide +kernel
theorem dX5_tie_96 : decode cX5_tie 96 = .ok (.iadd, 1) := by decide +kernel
theorem dX5_tie_97 : decode cX5_tie 97 = .ok (.iload_n 3, 1) := by decide +kernel
theorem dX5_tie_98 : decode cX5_tie 98 = .ok (.iload_n 2, 1) := by decide +kernel
theorem dX5_tie_99 : decode cX5_tie 99 = .ok (.iload 5, 2) := by decide +kernel
theorem dX5_tie_101 : decode cX5_tie 101 = .ok (.invokestatic 95, 3) := by decide +kernel
theorem dX5_tie_104 : decode cX5_tie 104 = .ok (.iastore, 1) := by decide +kernel
theorem dX5_tie_105 : decode cX5_tie 105 = .ok (.iinc 5 1, 3) := by decide +kernel
theorem dX5_tie_108 : decode cX5_tie 108 = .ok (.goto (-29), 3) := by decide +kernel
theorem dX5_tie_111 : decode cX5_tie 111 = .ok (.iconst 0, 1) := by decide +kernel
theorem dX5_tie_112 : decode cX5_tie 112 = .ok (.istore 5, 2) := by decide +kernel
theorem dX5_tie_114 : decode cX5_tie 114 = .ok (.iload 5, 2) := by decide +kernel
theorem dX5_tie_116 : decode cX5_tie 116 = .ok (.aload_n 0, 1) := by decide +kernel
theorem dX5_tie_117 : decode cX5_tie 117 = .ok (.getfield 25, 3) := by decide +kernel
theorem dX5_tie_120 : decode cX5_tie 120 = .ok (.iload_n 1, 1) := by decide +kernel
theorem dX5_tie_121 : decode cX5_tie 121 = .ok (.iaload, 1) := by decide +kernel
theorem dX5_tie_122 : decode cX5_tie 122 = .ok (.if_icmp .ge 155, 3) := by decide +kernel
theorem dX5_tie_125 : decode cX5_tie 125 = .ok (.iconst 0, 1) := by decide +kernel
theorem dX5_tie_126 : decode cX5_tie 126 = .ok (.istore 6, 2) := by decide +kernel
theorem dX5_tie_128 : decode cX5_tie 128 = .ok (.iconst 0, 1) := by decide +kernel
theorem dX5_tie_129 : decode cX5_tie 129 = .ok (.istore 7, 2) := by decide +kernel
theorem dX5_tie_131 : decode cX5_tie 131 = .ok (.iload 7, 2) := by decide +kernel
theorem dX5_tie_133 : decode cX5_tie 133 = .ok (.iload_n 3, 1) := by decide +kernel
theorem dX5_tie_134 : decode cX5_tie 134 = .ok (.iload 5, 2) := by decide +kernel
theorem dX5_tie_136 : decode cX5_tie 136 = .ok (.invokestatic 63, 3) := by decide +kernel
theorem dX5_tie_139 : decode cX5_tie 139 = .ok (.if_icmp .ge 122, 3) := by decide +kernel
theorem dX5_tie_142 : decode cX5_tie 142 = .ok (.aload_n 0, 1) := by decide +kernel
theorem dX5_tie_143 : decode cX5_tie 143 = .ok (.getfield 28, 3) := by decide +kernel
theorem dX5_tie_146 : decode cX5_tie 146 = .ok (.bipush 48, 2) := by decide +kernel
theorem dX5_tie_148 : decode cX5_tie 148 = .ok (.iload_n 1, 1) := by decide +kernel
theorem dX5_tie_149 : decode cX5_tie 149 = .ok (.imul, 1) := by decide +kernel
theorem dX5_tie_150 : decode cX5_tie 150 = .ok (.iconst 3, 1) := by decide +kernel
theorem dX5_tie_151 : decode cX5_tie 151 = .ok (.iload 5, 2) := by decide +kernel
theorem dX5_tie_153 : decode cX5_tie 153 = .ok (.imul, 1) := by decide +kernel
theorem dX5_tie_154 : decode cX5_tie 154 = .ok (.iadd, 1) := by decide +kernel
theorem dX5_tie_155 : decode cX5_tie 155 = .ok (.iload 7, 2) := by decide +kernel
theorem dX5_tie_157 : decode cX5_tie 157 = .ok (.iadd, 1) := by decide +kernel
theorem dX5_tie_158 : decode cX5_tie 158 = .ok (.iaload, 1) := by decide +kernel
theorem dX5_tie_159 : decode cX5_tie 159 = .ok (.istore 8, 2) := by decide +kernel
theorem dX5_tie_161 : decode cX5_tie 161 = .ok (.iconst 0, 1) := by decide +kernel
theorem dX5_tie_162 : decode cX5_tie 162 = .ok (.istore 9, 2) := by decide +kernel
theorem dX5_tie_164 : decode cX5_tie 164 = .ok (.aload_n 0, 1) := by decide +kernel
theorem dX5_tie_165 : decode cX5_tie 165 = .ok (.iload_n 3, 1) := by decide +kernel
theorem dX5_tie_166 : decode cX5_tie 166 = .ok (.iload 5, 2) := by decide +kernel
theorem dX5_tie_168 : decode cX5_tie 168 = .ok (.iload 7, 2) := by decide +kernel
theorem dX5_tie_170 : decode cX5_tie 170 = .ok (.iload_n 2, 1) := by decide +kernel
theorem dX5_tie_171 : decode cX5_tie 171 = .ok (.iload 8, 2) := by decide +kernel
theorem dX5_tie_173 : decode cX5_tie 173 = .ok (.iload 9, 2) := by decide +kernel
theorem dX5_tie_175 : decode cX5_tie 175 = .ok (.invokevirtual 120, 3) := by decide +kernel
theorem dX5_tie_178 : decode cX5_tie 178 = .ok (.ifCond .eq 36, 3) := by decide +kernel
theorem dX5_tie_181 : decode cX5_tie 181 = .ok (.aload_n 0, 1) := by decide +kernel
theorem dX5_tie_182 : decode cX5_tie 182 = .ok (.iload_n 1, 1) := by decide +kernel
theorem dX5_tie_183 : decode cX5_tie 183 = .ok (.iload 5, 2) := by decide +kernel
theorem dX5_tie_185 : decode cX5_tie 185 = .ok (.iload_n 2, 1) := by decide +kernel
theorem dX5_tie_186 : decode cX5_tie 186 = .ok (.iload 7, 2) := by decide +kernel
theorem dX5_tie_188 : decode cX5_tie 188 = .ok (.iconst 1, 1) := by decide +kernel
theorem dX5_tie_189 : decode cX5_tie 189 = .ok (.iadd, 1) := by decide +kernel
theorem dX5_tie_190 : decode cX5_tie 190 = .ok (.iload 9, 2) := by decide +kernel
theorem dX5_tie_192 : decode cX5_tie 192 = .ok (.iconst 2, 1) := by decide +kernel
theorem dX5_tie_193 : decode cX5_tie 193 = .ok (.if_icmp .ge 13, 3) := by decide +kernel
theorem dX5_tie_196 : decode cX5_tie 196 = .ok (.iload 6, 2) := by decide +kernel
theorem dX5_tie_198 : decode cX5_tie 198 = .ok (.iconst 1, 1) := by decide +kernel
theorem dX5_tie_199 : decode cX5_tie 199 = .ok (.iload 7, 2) := by decide +kernel
theorem dX5_tie_201 : decode cX5_tie 201 = .ok (.ishl, 1) := by decide +kernel
theorem dX5_tie_202 : decode cX5_tie 202 = .ok (.ior, 1) := by decide +kernel
theorem dX5_tie_203 : decode cX5_tie 203 = .ok (.goto 5, 3) := by decide +kernel
theorem dX5_tie_206 : decode cX5_tie 206 = .ok (.iload 6, 2) := by decide +kernel
theorem dX5_tie_208 : decode cX5_tie 208 = .ok (.invokevirtual 124, 3) := by decide +kernel
theorem dX5_tie_211 : decode cX5_tie 211 = .ok (.ifCond .ne 9, 3) := by decide +kernel
theorem dX5_tie_214 : decode cX5_tie 214 = .ok (.iinc 9 1, 3) := by decide +kernel
theorem dX5_tie_217 : decode cX5_tie 217 = .ok (.goto (-53), 3) := by decide +kernel
theorem dX5_tie_220 : decode cX5_tie 220 = .ok (.aload_n 0, 1) := by decide +kernel
theorem dX5_tie_221 : decode cX5_tie 221 = .ok (.getfield 19, 3) := by decide +kernel
theorem dX5_tie_224 : decode cX5_tie 224 = .ok (.bipush 48, 2) := by decide +kernel
theorem dX5_tie_226 : decode cX5_tie 226 = .ok (.iload 4, 2) := by decide +kernel
theorem dX5_tie_228 : decode cX5_tie 228 = .ok (.imul, 1) := by decide +kernel
theorem dX5_tie_229 : decode cX5_tie 229 = .ok (.iconst 3, 1) := by decide +kernel
theorem dX5_tie_230 : decode cX5_tie 230 = .ok (.iload 5, 2) := by decide +kernel
theorem dX5_tie_232 : decode cX5_tie 232 = .ok (.imul, 1) := by decide +kernel
theorem dX5_tie_233 : decode cX5_tie 233 = .ok (.iadd, 1) := by decide +kernel
theorem dX5_tie_234 : decode cX5_tie 234 = .ok (.iload 7, 2) := by decide +kernel
theorem dX5_tie_236 : decode cX5_tie 236 = .ok (.iadd, 1) := by decide +kernel
theorem dX5_tie_237 : decode cX5_tie 237 = .ok (.iload 9, 2) := by decide +kernel
theorem dX5_tie_239 : decode cX5_tie 239 = .ok (.iastore, 1) := by decide +kernel
theorem dX5_tie_240 : decode cX5_tie 240 = .ok (.iload 9, 2) := by decide +kernel
theorem dX5_tie_242 : decode cX5_tie 242 = .ok (.iconst 2, 1) := by decide +kernel
theorem dX5_tie_243 : decode cX5_tie 243 = .ok (.if_icmp .ge 12, 3) := by decide +kernel
theorem dX5_tie_246 : decode cX5_tie 246 = .ok (.iload 6, 2) := by decide +kernel
theorem dX5_tie_248 : decode cX5_tie 248 = .ok (.iconst 1, 1) := by decide +kernel
theorem dX5_tie_249 : decode cX5_tie 249 = .ok (.iload 7, 2) := by decide +kernel
theorem dX5_tie_251 : decode cX5_tie 251 = .ok (.ishl, 1) := by decide +kernel
theorem dX5_tie_252 : decode cX5_tie 252 = .ok (.ior, 1) := by decide +kernel
theorem dX5_tie_253 : decode cX5_tie 253 = .ok (.istore 6, 2) := by decide +kernel
theorem dX5_tie_255 : decode cX5_tie 255 = .ok (.iinc 7 1, 3) := by decide +kernel
theorem dX5_tie_258 : decode cX5_tie 258 = .ok (.goto (-127), 3) := by decide +kernel
theorem dX5_tie_261 : decode cX5_tie 261 = .ok (.iload_n 3, 1) := by decide +kernel
theorem dX5_tie_262 : decode cX5_tie 262 = .ok (.iload 5, 2) := by decide +kernel
theorem dX5_tie_264 : decode cX5_tie 264 = .ok (.iload_n 2, 1) := by decide +kernel
theorem dX5_tie_265 : decode cX5_tie 265 = .ok (.iload 6, 2) := by decide +kernel
theorem dX5_tie_267 : decode cX5_tie 267 = .ok (.invokestatic 105, 3) := by decide +kernel
theorem dX5_tie_270 : decode cX5_tie 270 = .ok (.istore_n 2, 1) := by decide +kernel
theorem dX5_tie_271 : decode cX5_tie 271 = .ok (.iinc 5 1, 3) := by decide +kernel
theorem dX5_tie_274 : decode cX5_tie 274 = .ok (.goto (-160), 3) := by decide +kernel
theorem dX5_tie_277 : decode cX5_tie 277 = .ok (.iload 4, 2) := by decide +kernel
theorem dX5_tie_279 : decode cX5_tie 279 = .ok (.ireturn, 1) := by decide +kernel
set_option maxRecDepth 20000 in
theorem ggX5_isKind_X5_left : GoodIn wsX5_isKind wsX5_left := goodIn_r _ [4] (by decide +kernel) (by decide +kernel)
set_option maxRecDepth 20000 in
theorem gX5_isKind_X5_left : GoodIn wsX5_isKind (va_wsS RX5 71 yX5_left wsX5_left) := goodIn_app (goodIn_of _ (by decide +kernel)) ggX5_isKind_X5_left
set_option maxRecDepth 20000 in
theorem ggX5_isKind_X5_digit : GoodIn wsX5_isKind wsX5_digit := goodIn_r _ [7] (by decide +kernel) (by decide +kernel)
set_option maxRecDepth 20000 in
theorem gX5_isKind_X5_digit : GoodIn wsX5_isKind (va_wsS RX5 95 yX5_digit wsX5_digit) := goodIn_app (goodIn_of _ (by decide +kernel)) ggX5_isKind_X5_digit
theorem dX5_isKind_0 : decode cX5_isKind 0 = .ok (.iload 5, 2) := by decide +kernel
theorem dX5_isKind_2 : decode cX5_isKind 2 = .ok (.iconst 4, 1) := by decide +kernel
theorem dX5_isKind_3 : decode cX5_isKind 3 = .ok (.if_icmp .eq 24, 3) := by decide +kernel
theorem dX5_isKind_6 : decode cX5_isKind 6 = .ok (.iload_n 1, 1) := by decide +kernel
theorem dX5_isKind_7 : decode cX5_isKind 7 = .ok (.iload 4, 2) := by decide +kernel
theorem dX5_isKind_9 : decode cX5_isKind 9 = .ok (.iload_n 2, 1) := by decide +kernel
theorem dX5_isKind_10 : decode cX5_isKind 10 = .ok (.iload_n 3, 1) := by decide +kernel
theorem dX5_isKind_11 : decode cX5_isKind 11 = .ok (.invokestatic 71, 3) := by decide +kernel
theorem dX5_isKind_14 : decode cX5_isKind 14 = .ok (.iload 6, 2) := by decide +kernel
theorem dX5_isKind_16 : decode cX5_isKind 16 = .ok (.iconst 2, 1) := by decide +kernel
theorem dX5_isKind_17 : decode cX5_isKind 17 = .ok (.irem, 1) := by decide +kernel
theorem dX5_isKind_18 : decode cX5_isKind 18 = .ok (.iadd, 1) := by decide +kernel
theorem dX5_isKind_19 : decode cX5_isKind 19 = .ok (.invokestatic 95, 3) := by decide +kernel
theorem dX5_isKind_22 : decode cX5_isKind 22 = .ok (.iload 5, 2) := by decide +kernel
theorem dX5_isKind_24 : decode cX5_isKind 24 = .ok (.if_icmp .ne 7, 3) := by decide +kernel
theorem dX5_isKind_27 : decode cX5_isKind 27 = .ok (.iconst 1, 1) := by decide +kernel
theorem dX5_isKind_28 : decode cX5_isKind 28 = .ok (.goto 4, 3) := by decide +kernel
theorem dX5_isKind_31 : decode cX5_isKind 31 = .ok (.iconst 0, 1) := by decide +kernel
theorem dX5_isKind_32 : decode cX5_isKind 32 = .ok (.ireturn, 1) := by decide +kernel
set_option maxRecDepth 20000 in
theorem ggX5_suspect_X5_isPicture : GoodIn wsX5_suspect wsX5_isPicture := goodIn_r _ [8, 9, 10, 11, 12, 13, 7, 14, 52, 53, 54, 55, 56, 57, 58, 59, 60, 61, 62, 63, 64, 65, 66] (by decide +kernel) (by decide +kernel)
set_option maxRecDepth 20000 in
theorem gX5_suspect_X5_isPicture : GoodIn wsX5_suspect (wsV RX5 89 RX5 yX5_isPicture wsX5_isPicture) := goodIn_app (goodIn_of _ (by decide +kernel)) ggX5_suspect_X5_isPicture
set_option maxRecDepth 20000 in
theorem ggX5_suspect_X5_first : GoodIn wsX5_suspect wsX5_first := goodIn_r _ [18, 19, 20, 21, 7, 22, 2, 23, 1, 24, 25, 26, 27, 28, 29, 30, 31, 3, 32, 33, 34, 35, 36, 37, 38, 39, 40, 41, 42, 43, 44, 45, 46, 47, 48, 49, 50, 51, 52, 53, 54, 55, 56, 57, 58, 59, 60, 61, 62, 63, 64, 65, 66] (by decide +kernel) (by decide +kernel)
set_option maxRecDepth 20000 in
theorem gX5_suspect_X5_first : GoodIn wsX5_suspect (wsV RX5 117 RX5 yX5_first wsX5_first) := goodIn_app (goodIn_of _ (by decide +kernel)) ggX5_suspect_X5_first
set_option maxRecDepth 20000 in
theorem ggX5_suspect_X5_knots : GoodIn wsX5_suspect wsX5_knots := goodIn_r _ [34] (by decide +kernel) (by decide +kernel)
set_option maxRecDepth 20000 in
theorem gX5_suspect_X5_knots : GoodIn wsX5_suspect (va_wsS RX5 63 yX5_knots wsX5_knots) := goodIn_app (goodIn_of _ (by decide +kernel)) ggX5_suspect_X5_knots
set_option maxRecDepth 20000 in
theorem ggX5_suspect_X5_right : GoodIn wsX5_suspect wsX5_right := goodIn_r _ [14, 9, 52, 53, 54, 55, 56, 57, 58, 59, 60, 61, 62, 63, 64, 65, 66] (by decide +kernel) (by decide +kernel)
set_option maxRecDepth 20000 in
theorem gX5_suspect_X5_right : GoodIn wsX5_suspect (wsV RX5 55 RX5 yX5_right wsX5_right) := goodIn_app (goodIn_of _ (by decide +kernel)) ggX5_suspect_X5_right
theorem dX5_suspect_0 : decode cX5_suspect 0 = .ok (.aload_n 0, 1) := by decide +kernel
theorem dX5_suspect_1 : decode cX5_suspect 1 = .ok (.iload_n 1, 1) := by decide +kernel
theorem dX5_suspect_2 : decode cX5_suspect 2 = .ok (.invokevirtual 89, 3) := by decide +kernel
theorem dX5_suspect_5 : decode cX5_suspect 5 = .ok (.ifCond .ne 5, 3) := by decide +kernel
theorem dX5_suspect_8 : decode cX5_suspect 8 = .ok (.iconst 0, 1) := by decide +kernel
theorem dX5_suspect_9 : decode cX5_suspect 9 = .ok (.ireturn, 1) := by decide +kernel
theorem dX5_suspect_10 : decode cX5_suspect 10 = .ok (.iconst (-1), 1) := by decide +kernel
theorem dX5_suspect_11 : decode cX5_suspect 11 = .ok (.istore_n 3, 1) := by decide +kernel
theorem dX5_suspect_12 : decode cX5_suspect 12 = .ok (.iconst 0, 1) := by decide +kernel
theorem dX5_suspect_13 : decode cX5_suspect 13 = .ok (.istore 4, 2) := by decide +kernel
theorem dX5_suspect_15 : decode cX5_suspect 15 = .ok (.aload_n 0, 1) := by decide +kernel
theorem dX5_suspect_16 : decode cX5_suspect 16 = .ok (.iload_n 1, 1) := by decide +kernel
theorem dX5_suspect_17 : decode cX5_suspect 17 = .ok (.invokevirtual 117, 3) := by decide +kernel
theorem dX5_suspect_20 : decode cX5_suspect 20 = .ok (.iconst (-1), 1) := by decide +kernel
theorem dX5_suspect_21 : decode cX5_suspect 21 = .ok (.if_icmp .ne 7, 3) := by decide +kernel
theorem dX5_suspect_24 : decode cX5_suspect 24 = .ok (.iconst 1, 1) := by decide +kernel
theorem dX5_suspect_25 : decode cX5_suspect 25 = .ok (.goto 4, 3) := by decide +kernel
theorem dX5_suspect_28 : decode cX5_suspect 28 = .ok (.iconst 0, 1) := by decide +kernel
theorem dX5_suspect_29 : decode cX5_suspect 29 = .ok (.istore 5, 2) := by decide +kernel
theorem dX5_suspect_31 : decode cX5_suspect 31 = .ok (.iconst 0, 1) := by decide +kernel
theorem dX5_suspect_32 : decode cX5_suspect 32 = .ok (.istore 6, 2) := by decide +kernel
theorem dX5_suspect_34 : decode cX5_suspect 34 = .ok (.iload 6, 2) := by decide +kernel
theorem dX5_suspect_36 : decode cX5_suspect 36 = .ok (.aload_n 0, 1) := by decide +kernel
theorem dX5_suspect_37 : decode cX5_suspect 37 = .ok (.getfield 25, 3) := by decide +kernel
theorem dX5_suspect_40 : decode cX5_suspect 40 = .ok (.iload_n 1, 1) := by decide +kernel
theorem dX5_suspect_41 : decode cX5_suspect 41 = .ok (.iaload, 1) := by decide +kernel
theorem dX5_suspect_42 : decode cX5_suspect 42 = .ok (.if_icmp .ge 146, 3) := by decide +kernel
theorem dX5_suspect_45 : decode cX5_suspect 45 = .ok (.iload 5, 2) := by decide +kernel
theorem dX5_suspect_47 : decode cX5_suspect 47 = .ok (.ifCond .eq 141, 3) := by decide +kernel
theorem dX5_suspect_50 : decode cX5_suspect 50 = .ok (.iconst 0, 1) := by decide +kernel
theorem dX5_suspect_51 : decode cX5_suspect 51 = .ok (.istore 7, 2) := by decide +kernel
theorem dX5_suspect_53 : decode cX5_suspect 53 = .ok (.iload 7, 2) := by decide +kernel
theorem dX5_suspect_55 : decode cX5_suspect 55 = .ok (.aload_n 0, 1) := by decide +kernel
theorem dX5_suspect_56 : decode cX5_suspect 56 = .ok (.getfield 22, 3) := by decide +kernel
theorem dX5_suspect_59 : decode cX5_suspect 59 = .ok (.iload_n 1, 1) := by decide +kernel
theorem dX5_suspect_60 : decode cX5_suspect 60 = .ok (.iaload, 1) := by decide +kernel
theorem dX5_suspect_61 : decode cX5_suspect 61 = .ok (.iload 6, 2) := by decide +kernel
theorem dX5_suspect_63 : decode cX5_suspect 63 = .ok (.invokestatic 63, 3) := by decide +kernel
theorem dX5_suspect_66 : decode cX5_suspect 66 = .ok (.if_icmp .ge 116, 3) := by decide +kernel
theorem dX5_suspect_69 : decode cX5_suspect 69 = .ok (.aload_n 0, 1) := by decide +kernel
theorem dX5_suspect_70 : decode cX5_suspect 70 = .ok (.getfield 28, 3) := by decide +kernel
theorem dX5_suspect_73 : decode cX5_suspect 73 = .ok (.bipush 48, 2) := by decide +kernel
theorem dX5_suspect_75 : decode cX5_suspect 75 = .ok (.iload_n 1, 1) := by decide +kernel
theorem dX5_suspect_76 : decode cX5_suspect 76 = .ok (.imul, 1) := by decide +kernel
theorem dX5_suspect_77 : decode cX5_suspect 77 = .ok (.iconst 3, 1) := by decide +kernel
theorem dX5_suspect_78 : decode cX5_suspect 78 = .ok (.iload 6, 2) := by decide +kernel
theorem dX5_suspect_80 : decode cX5_suspect 80 = .ok (.imul, 1) := by decide +kernel
theorem dX5_suspect_81 : decode cX5_suspect 81 = .ok (.iadd, 1) := by decide +kernel
theorem dX5_suspect_82 : decode cX5_suspect 82 = .ok (.iload 7, 2) := by decide +kernel
theorem dX5_suspect_84 : decode cX5_suspect 84 = .ok (.iadd, 1) := by decide +kernel
theorem dX5_suspect_85 : decode cX5_suspect 85 = .ok (.iaload, 1) := by decide +kernel
theorem dX5_suspect_86 : decode cX5_suspect 86 = .ok (.istore 8, 2) := by decide +kernel
theorem dX5_suspect_88 : decode cX5_suspect 88 = .ok (.iload 8, 2) := by decide +kernel
theorem dX5_suspect_90 : decode cX5_suspect 90 = .ok (.iconst 4, 1) := by decide +kernel
theorem dX5_suspect_91 : decode cX5_suspect 91 = .ok (.if_icmp .ne 6, 3) := by decide +kernel
theorem dX5_suspect_94 : decode cX5_suspect 94 = .ok (.goto 82, 3) := by decide +kernel
theorem dX5_suspect_97 : decode cX5_suspect 97 = .ok (.aload_n 0, 1) := by decide +kernel
theorem dX5_suspect_98 : decode cX5_suspect 98 = .ok (.getfield 28, 3) := by decide +kernel
theorem dX5_suspect_101 : decode cX5_suspect 101 = .ok (.bipush 48, 2) := by decide +kernel
theorem dX5_suspect_103 : decode cX5_suspect 103 = .ok (.iload_n 1, 1) := by decide +kernel
theorem dX5_suspect_104 : decode cX5_suspect 104 = .ok (.imul, 1) := by decide +kernel
theorem dX5_suspect_105 : decode cX5_suspect 105 = .ok (.iconst 3, 1) := by decide +kernel
theorem dX5_suspect_106 : decode cX5_suspect 106 = .ok (.iload 6, 2) := by decide +kernel
theorem dX5_suspect_108 : decode cX5_suspect 108 = .ok (.imul, 1) := by decide +kernel
theorem dX5_suspect_109 : decode cX5_suspect 109 = .ok (.iadd, 1) := by decide +kernel
theorem dX5_suspect_110 : decode cX5_suspect 110 = .ok (.iload 7, 2) := by decide +kernel
theorem dX5_suspect_112 : decode cX5_suspect 112 = .ok (.iadd, 1) := by decide +kernel
theorem dX5_suspect_113 : decode cX5_suspect 113 = .ok (.iconst 4, 1) := by decide +kernel
theorem dX5_suspect_114 : decode cX5_suspect 114 = .ok (.iastore, 1) := by decide +kernel
theorem dX5_suspect_115 : decode cX5_suspect 115 = .ok (.aload_n 0, 1) := by decide +kernel
theorem dX5_suspect_116 : decode cX5_suspect 116 = .ok (.iload_n 1, 1) := by decide +kernel
theorem dX5_suspect_117 : decode cX5_suspect 117 = .ok (.invokevirtual 117, 3) := by decide +kernel
theorem dX5_suspect_120 : decode cX5_suspect 120 = .ok (.iconst (-1), 1) := by decide +kernel
theorem dX5_suspect_121 : decode cX5_suspect 121 = .ok (.if_icmp .eq 7, 3) := by decide +kernel
theorem dX5_suspect_124 : decode cX5_suspect 124 = .ok (.iconst 1, 1) := by decide +kernel
theorem dX5_suspect_125 : decode cX5_suspect 125 = .ok (.goto 4, 3) := by decide +kernel
theorem dX5_suspect_128 : decode cX5_suspect 128 = .ok (.iconst 0, 1) := by decide +kernel
theorem dX5_suspect_129 : decode cX5_suspect 129 = .ok (.istore 9, 2) := by decide +kernel
theorem dX5_suspect_131 : decode cX5_suspect 131 = .ok (.aload_n 0, 1) := by decide +kernel
theorem dX5_suspect_132 : decode cX5_suspect 132 = .ok (.getfield 28, 3) := by decide +kernel
theorem dX5_suspect_135 : decode cX5_suspect 135 = .ok (.bipush 48, 2) := by decide +kernel
theorem dX5_suspect_137 : decode cX5_suspect 137 = .ok (.iload_n 1, 1) := by decide +kernel
theorem dX5_suspect_138 : decode cX5_suspect 138 = .ok (.imul, 1) := by decide +kernel
theorem dX5_suspect_139 : decode cX5_suspect 139 = .ok (.iconst 3, 1) := by decide +kernel
theorem dX5_suspect_140 : decode cX5_suspect 140 = .ok (.iload 6, 2) := by decide +kernel
theorem dX5_suspect_142 : decode cX5_suspect 142 = .ok (.imul, 1) := by decide +kernel
theorem dX5_suspect_143 : decode cX5_suspect 143 = .ok (.iadd, 1) := by decide +kernel
theorem dX5_suspect_144 : decode cX5_suspect 144 = .ok (.iload 7, 2) := by decide +kernel
theorem dX5_suspect_146 : decode cX5_suspect 146 = .ok (.iadd, 1) := by decide +kernel
theorem dX5_suspect_147 : decode cX5_suspect 147 = .ok (.iload 8, 2) := by decide +kernel
theorem dX5_suspect_149 : decode cX5_suspect 149 = .ok (.iastore, 1) := by decide +kernel
theorem dX5_suspect_150 : decode cX5_suspect 150 = .ok (.iload 9, 2) := by decide +kernel
theorem dX5_suspect_152 : decode cX5_suspect 152 = .ok (.ifCond .ne 6, 3) := by decide +kernel
theorem dX5_suspect_155 : decode cX5_suspect 155 = .ok (.goto 21, 3) := by decide +kernel
theorem dX5_suspect_158 : decode cX5_suspect 158 = .ok (.iload 4, 2) := by decide +kernel
theorem dX5_suspect_160 : decode cX5_suspect 160 = .ok (.iload_n 2, 1) := by decide +kernel
theorem dX5_suspect_161 : decode cX5_suspect 161 = .ok (.if_icmp .ne 12, 3) := by decide +kernel
theorem dX5_suspect_164 : decode cX5_suspect 164 = .ok (.bipush 8, 2) := by decide +kernel
theorem dX5_suspect_166 : decode cX5_suspect 166 = .ok (.iload 6, 2) := by decide +kernel
theorem dX5_suspect_168 : decode cX5_suspect 168 = .ok (.imul, 1) := by decide +kernel
theorem dX5_suspect_169 : decode cX5_suspect 169 = .ok (.iload 7, 2) := by decide +kernel
theorem dX5_suspect_171 : decode cX5_suspect 171 = .ok (.iadd, 1) := by decide +kernel
theorem dX5_suspect_172 : decode cX5_suspect 172 = .ok (.istore_n 3, 1) := by decide +kernel
theorem dX5_suspect_173 : decode cX5_suspect 173 = .ok (.iinc 4 1, 3) := by decide +kernel
theorem dX5_suspect_176 : decode cX5_suspect 176 = .ok (.iinc 7 1, 3) := by decide +kernel
theorem dX5_suspect_179 : decode cX5_suspect 179 = .ok (.goto (-126), 3) := by decide +kernel
theorem dX5_suspect_182 : decode cX5_suspect 182 = .ok (.iinc 6 1, 3) := by decide +kernel
theorem dX5_suspect_185 : decode cX5_suspect 185 = .ok (.goto (-151), 3) := by decide +kernel
theorem dX5_suspect_188 : decode cX5_suspect 188 = .ok (.aload_n 0, 1) := by decide +kernel
theorem dX5_suspect_189 : decode cX5_suspect 189 = .ok (.iload_n 2, 1) := by decide +kernel
theorem dX5_suspect_190 : decode cX5_suspect 190 = .ok (.iconst (-1), 1) := by decide +kernel
theorem dX5_suspect_191 : decode cX5_suspect 191 = .ok (.if_icmp .lt 13, 3) := by decide +kernel
theorem dX5_suspect_194 : decode cX5_suspect 194 = .ok (.iload_n 2, 1) := by decide +kernel
theorem dX5_suspect_195 : decode cX5_suspect 195 = .ok (.iload 4, 2) := by decide +kernel
theorem dX5_suspect_197 : decode cX5_suspect 197 = .ok (.if_icmp .ge 7, 3) := by decide +kernel
theorem dX5_suspect_200 : decode cX5_suspect 200 = .ok (.iconst 1, 1) := by decide +kernel
theorem dX5_suspect_201 : decode cX5_suspect 201 = .ok (.goto 4, 3) := by decide +kernel
theorem dX5_suspect_204 : decode cX5_suspect 204 = .ok (.iconst 0, 1) := by decide +kernel
theorem dX5_suspect_205 : decode cX5_suspect 205 = .ok (.iconst 1, 1) := by decide +kernel
theorem dX5_suspect_206 : decode cX5_suspect 206 = .ok (.invokevirtual 55, 3) := by decide +kernel
theorem dX5_suspect_209 : decode cX5_suspect 209 = .ok (.ifCond .ne 5, 3) := by decide +kernel
theorem dX5_suspect_212 : decode cX5_suspect 212 = .ok (.iconst 0, 1) := by decide +kernel
theorem dX5_suspect_213 : decode cX5_suspect 213 = .ok (.ireturn, 1) := by decide +kernel
theorem dX5_suspect_214 : decode cX5_suspect 214 = .ok (.iload_n 2, 1) := by decide +kernel
theorem dX5_suspect_215 : decode cX5_suspect 215 = .ok (.iconst (-1), 1) := by decide +kernel
theorem dX5_suspect_216 : decode cX5_suspect 216 = .ok (.if_icmp .ne 8, 3) := by decide +kernel
theorem dX5_suspect_219 : decode cX5_suspect 219 = .ok (.iload 4, 2) := by decide +kernel
theorem dX5_suspect_221 : decode cX5_suspect 221 = .ok (.goto 4, 3) := by decide +kernel
theorem dX5_suspect_224 : decode cX5_suspect 224 = .ok (.iload_n 3, 1) := by decide +kernel
theorem dX5_suspect_225 : decode cX5_suspect 225 = .ok (.ireturn, 1) := by decide +kernel
set_option maxRecDepth 20000 in
theorem ggX5_count_X5_right : GoodIn wsX5_count wsX5_right := goodIn_r _ [8, 1, 9, 10, 11, 12, 13, 14, 15, 16, 17, 18, 19, 20, 21, 22, 23] (by decide +kernel) (by decide +kernel)
set_option maxRecDepth 20000 in
theorem gX5_count_X5_right : GoodIn wsX5_count (wsV RX5 55 RX5 yX5_right wsX5_right) := goodIn_app (goodIn_of _ (by decide +kernel)) ggX5_count_X5_right
theorem dX5_count_0 : decode cX5_count 0 = .ok (.aload_n 0, 1) := by decide +kernel
theorem dX5_count_1 : decode cX5_count 1 = .ok (.iconst 0, 1) := by decide +kernel
theorem dX5_count_2 : decode cX5_count 2 = .ok (.putfield 48, 3) := by decide +kernel
theorem dX5_count_5 : decode cX5_count 5 = .ok (.aload_n 0, 1) := by decide +kernel
theorem dX5_count_6 : decode cX5_count 6 = .ok (.iload_n 1, 1) := by decide +kernel
theorem dX5_count_7 : decode cX5_count 7 = .ok (.ifCond .eq 8, 3) := by decide +kernel
theorem dX5_count_10 : decode cX5_count 10 = .ok (.iload_n 1, 1) := by decide +kernel
theorem dX5_count_11 : decode cX5_count 11 = .ok (.iconst 1, 1) := by decide +kernel
theorem dX5_count_12 : decode cX5_count 12 = .ok (.if_icmp .ne 7, 3) := by decide +kernel
theorem dX5_count_15 : decode cX5_count 15 = .ok (.iconst 1, 1) := by decide +kernel
theorem dX5_count_16 : decode cX5_count 16 = .ok (.goto 4, 3) := by decide +kernel
theorem dX5_count_19 : decode cX5_count 19 = .ok (.iconst 0, 1) := by decide +kernel
theorem dX5_count_20 : decode cX5_count 20 = .ok (.iconst 1, 1) := by decide +kernel
theorem dX5_count_21 : decode cX5_count 21 = .ok (.invokevirtual 55, 3) := by decide +kernel
theorem dX5_count_24 : decode cX5_count 24 = .ok (.ifCond .ne 5, 3) := by decide +kernel
theorem dX5_count_27 : decode cX5_count 27 = .ok (.iconst 0, 1) := by decide +kernel
theorem dX5_count_28 : decode cX5_count 28 = .ok (.ireturn, 1) := by decide +kernel
theorem dX5_count_29 : decode cX5_count 29 = .ok (.iload_n 1, 1) := by decide +kernel
theorem dX5_count_30 : decode cX5_count 30 = .ok (.ifCond .ne 10, 3) := by decide +kernel
theorem dX5_count_33 : decode cX5_count 33 = .ok (.aload_n 0, 1) := by decide +kernel
theorem dX5_count_34 : decode cX5_count 34 = .ok (.getfield 52, 3) := by decide +kernel
theorem dX5_count_37 : decode cX5_count 37 = .ok (.goto 7, 3) := by decide +kernel
theorem dX5_count_40 : decode cX5_count 40 = .ok (.aload_n 0, 1) := by decide +kernel
theorem dX5_count_41 : decode cX5_count 41 = .ok (.getfield 86, 3) := by decide +kernel
theorem dX5_count_44 : decode cX5_count 44 = .ok (.ireturn, 1) := by decide +kernel
theorem dJ13_bitCount_95d88_0 : decode cJ13_bitCount_95d88 0 = .ok (.lload_n 0, 1) := by decide +kernel
theorem dJ13_bitCount_95d88_1 : decode cJ13_bitCount_95d88 1 = .ok (.lload_n 0, 1) := by decide +kernel
theorem dJ13_bitCount_95d88_2 : decode cJ13_bitCount_95d88 2 = .ok (.iconst 1, 1) := by decide +kernel
theorem dJ13_bitCount_95d88_3 : decode cJ13_bitCount_95d88 3 = .ok (.lushr, 1) := by decide +kernel
theorem dJ13_bitCount_95d88_4 : decode cJ13_bitCount_95d88 4 = .ok (.ldc2_w 314, 3) := by decide +kernel
theorem dJ13_bitCount_95d88_7 : decode cJ13_bitCount_95d88 7 = .ok (.land, 1) := by decide +kernel
theorem dJ13_bitCount_95d88_8 : decode cJ13_bitCount_95d88 8 = .ok (.lsub, 1) := by decide +kernel
theorem dJ13_bitCount_95d88_9 : decode cJ13_bitCount_95d88 9 = .ok (.lstore_n 0, 1) := by decide +kernel
theorem dJ13_bitCount_95d88_10 : decode cJ13_bitCount_95d88 10 = .ok (.lload_n 0, 1) := by decide +kernel
theorem dJ13_bitCount_95d88_11 : decode cJ13_bitCount_95d88 11 = .ok (.ldc2_w 316, 3) := by decide +kernel
theorem dJ13_bitCount_95d88_14 : decode cJ13_bitCount_95d88 14 = .ok (.land, 1) := by decide +kernel
theorem dJ13_bitCount_95d88_15 : decode cJ13_bitCount_95d88 15 = .ok (.lload_n 0, 1) := by decide +kernel
theorem dJ13_bitCount_95d88_16 : decode cJ13_bitCount_95d88 16 = .ok (.iconst 2, 1) := by decide +kernel
theorem dJ13_bitCount_95d88_17 : decode cJ13_bitCount_95d88 17 = .ok (.lushr, 1) := by decide +kernel
theorem dJ13_bitCount_95d88_18 : decode cJ13_bitCount_95d88 18 = .ok (.ldc2_w 316, 3) := by decide +kernel
theorem dJ13_bitCount_95d88_21 : decode cJ13_bitCount_95d88 21 = .ok (.land, 1) := by decide +kernel
theorem dJ13_bitCount_95d88_22 : decode cJ13_bitCount_95d88 22 = .ok (.ladd, 1) := by decide +kernel
theorem dJ13_bitCount_95d88_23 : decode cJ13_bitCount_95d88 23 = .ok (.lstore_n 0, 1) := by decide +kernel
theorem dJ13_bitCount_95d88_24 : decode cJ13_bitCount_95d88 24 = .ok (.lload_n 0, 1) := by decide +kernel
theorem dJ13_bitCount_95d88_25 : decode cJ13_bitCount_95d88 25 = .ok (.lload_n 0, 1) := by decide +kernel
theorem dJ13_bitCount_95d88_26 : decode cJ13_bitCount_95d88 26 = .ok (.iconst 4, 1) := by decide +kernel
theorem dJ13_bitCount_95d88_27 : decode cJ13_bitCount_95d88 27 = .ok (.lushr, 1) := by decide +kernel
theorem dJ13_bitCount_95d88_28 : decode cJ13_bitCount_95d88 28 = .ok (.ladd, 1) := by decide +kernel
theorem dJ13_bitCount_95d88_29 : decode cJ13_bitCount_95d88 29 = .ok (.ldc2_w 318, 3) := by decide +kernel
theorem dJ13_bitCount_95d88_32 : decode cJ13_bitCount_95d88 32 = .ok (.land, 1) := by decide +kernel
theorem dJ13_bitCount_95d88_33 : decode cJ13_bitCount_95d88 33 = .ok (.lstore_n 0, 1) := by decide +kernel
theorem dJ13_bitCount_95d88_34 : decode cJ13_bitCount_95d88 34 = .ok (.lload_n 0, 1) := by decide +kernel
theorem dJ13_bitCount_95d88_35 : decode cJ13_bitCount_95d88 35 = .ok (.lload_n 0, 1) := by decide +kernel
theorem dJ13_bitCount_95d88_36 : decode cJ13_bitCount_95d88 36 = .ok (.bipush 8, 2) := by decide +kernel
theorem dJ13_bitCount_95d88_38 : decode cJ13_bitCount_95d88 38 = .ok (.lushr, 1) := by decide +kernel
theorem dJ13_bitCount_95d88_39 : decode cJ13_bitCount_95d88 39 = .ok (.ladd, 1) := by decide +kernel
theorem dJ13_bitCount_95d88_40 : decode cJ13_bitCount_95d88 40 = .ok (.lstore_n 0, 1) := by decide +kernel
theorem dJ13_bitCount_95d88_41 : decode cJ13_bitCount_95d88 41 = .ok (.lload_n 0, 1) := by decide +kernel
theorem dJ13_bitCount_95d88_42 : decode cJ13_bitCount_95d88 42 = .ok (.lload_n 0, 1) := by decide +kernel
theorem dJ13_bitCount_95d88_43 : decode cJ13_bitCount_95d88 43 = .ok (.bipush 16, 2) := by decide +kernel
theorem dJ13_bitCount_95d88_45 : decode cJ13_bitCount_95d88 45 = .ok (.lushr, 1) := by decide +kernel
theorem dJ13_bitCount_95d88_46 : decode cJ13_bitCount_95d88 46 = .ok (.ladd, 1) := by decide +kernel
theorem dJ13_bitCount_95d88_47 : decode cJ13_bitCount_95d88 47 = .ok (.lstore_n 0, 1) := by decide +kernel
theorem dJ13_bitCount_95d88_48 : decode cJ13_bitCount_95d88 48 = .ok (.lload_n 0, 1) := by decide +kernel
theorem dJ13_bitCount_95d88_49 : decode cJ13_bitCount_95d88 49 = .ok (.lload_n 0, 1) := by decide +kernel
theorem dJ13_bitCount_95d88_50 : decode cJ13_bitCount_95d88 50 = .ok (.bipush 32, 2) := by decide +kernel
theorem dJ13_bitCount_95d88_52 : decode cJ13_bitCount_95d88 52 = .ok (.lushr, 1) := by decide +kernel
theorem dJ13_bitCount_95d88_53 : decode cJ13_bitCount_95d88 53 = .ok (.ladd, 1) := by decide +kernel
theorem dJ13_bitCount_95d88_54 : decode cJ13_bitCount_95d88 54 = .ok (.lstore_n 0, 1) := by decide +kernel
theorem dJ13_bitCount_95d88_55 : decode cJ13_bitCount_95d88 55 = .ok (.lload_n 0, 1) := by decide +kernel
theorem dJ13_bitCount_95d88_56 : decode cJ13_bitCount_95d88 56 = .ok (.l2i, 1) := by decide +kernel
theorem dJ13_bitCount_95d88_57 : decode cJ13_bitCount_95d88 57 = .ok (.bipush 127, 2) := by decide +kernel
theorem dJ13_bitCount_95d88_59 : decode cJ13_bitCount_95d88 59 = .ok (.iand, 1) := by decide +kernel
theorem dJ13_bitCount_95d88_60 : decode cJ13_bitCount_95d88 60 = .ok (.ireturn, 1) := by decide +kernel
abbrev vwCl : List vw_C := [(RX0, TX0, 8), (RX1, TX1, 6), (RX2, TX2, 10), (RX3, TX3, 1), (RX4, TX4, 5), (RX5, TX5, 15)]

