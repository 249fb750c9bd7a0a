theorem dX3_spread_71 : decode cX3_spread 71 = .ok (.aload_n 1, 1) := by decide +kernel
theorem dX3_spread_72 : decode cX3_spread 72 = .ok (.getfield 11, 3) := by decide +kernel
theorem dX3_spread_75 : decode cX3_spread 75 = .ok (.iconst 2, 1) := by decide +kernel
theorem dX3_spread_76 : decode cX3_spread 76 = .ok (.iconst 1, 1) := by decide +kernel
theorem dX3_spread_77 : decode cX3_spread 77 = .ok (.iload_n 2, 1) := by decide +kernel
theorem dX3_spread_78 : decode cX3_spread 78 = .ok (.isub, 1) := by decide +kernel
theorem dX3_spread_79 : decode cX3_spread 79 = .ok (.imul, 1) := by decide +kernel
theorem dX3_spread_80 : decode cX3_spread 80 = .ok (.invokevirtual 41, 3) := by decide +kernel
theorem dX3_spread_83 : decode cX3_spread 83 = .ok (.return_, 1) := by decide +kernel
set_option maxRecDepth 20000 in
theorem ggX3_spreadBetween_X4_exchanged : GoodIn wsX3_spreadBetween wsX4_exchanged := goodIn_r _ [4] (by decide +kernel) (by decide +kernel)
set_option maxRecDepth 20000 in
theorem gX3_spreadBetween_X4_exchanged_n45 : GoodIn wsX3_spreadBetween (wsX4_exchanged) := ggX3_spreadBetween_X4_exchanged
theorem dX3_spreadBetween_0 : decode cX3_spreadBetween 0 = .ok (.iconst 0, 1) := by decide +kernel
theorem dX3_spreadBetween_1 : decode cX3_spreadBetween 1 = .ok (.istore_n 3, 1) := by decide +kernel
theorem dX3_spreadBetween_2 : decode cX3_spreadBetween 2 = .ok (.iload_n 3, 1) := by decide +kernel
theorem dX3_spreadBetween_3 : decode cX3_spreadBetween 3 = .ok (.bipush 64, 2) := by decide +kernel
theorem dX3_spreadBetween_5 : decode cX3_spreadBetween 5 = .ok (.if_icmp .ge 26, 3) := by decide +kernel
theorem dX3_spreadBetween_8 : decode cX3_spreadBetween 8 = .ok (.aload_n 0, 1) := by decide +kernel
theorem dX3_spreadBetween_9 : decode cX3_spreadBetween 9 = .ok (.getfield 11, 3) := by decide +kernel
theorem dX3_spreadBetween_12 : decode cX3_spreadBetween 12 = .ok (.iload_n 3, 1) := by decide +kernel
theorem dX3_spreadBetween_13 : decode cX3_spreadBetween 13 = .ok (.aload_n 1, 1) := by decide +kernel
theorem dX3_spreadBetween_14 : decode cX3_spreadBetween 14 = .ok (.iload_n 3, 1) := by decide +kernel
theorem dX3_spreadBetween_15 : decode cX3_spreadBetween 15 = .ok (.laload, 1) := by decide +kernel
theorem dX3_spreadBetween_16 : decode cX3_spreadBetween 16 = .ok (.aload_n 1, 1) := by decide +kernel
theorem dX3_spreadBetween_17 : decode cX3_spreadBetween 17 = .ok (.iload_n 3, 1) := by decide +kernel
theorem dX3_spreadBetween_18 : decode cX3_spreadBetween 18 = .ok (.iload_n 2, 1) := by decide +kernel
theorem dX3_spreadBetween_19 : decode cX3_spreadBetween 19 = .ok (.invokestatic 45, 3) := by decide +kernel
theorem dX3_spreadBetween_22 : decode cX3_spreadBetween 22 = .ok (.laload, 1) := by decide +kernel
theorem dX3_spreadBetween_23 : decode cX3_spreadBetween 23 = .ok (.lor, 1) := by decide +kernel
theorem dX3_spreadBetween_24 : decode cX3_spreadBetween 24 = .ok (.lastore, 1) := by decide +kernel
theorem dX3_spreadBetween_25 : decode cX3_spreadBetween 25 = .ok (.iinc 3 1, 3) := by decide +kernel
theorem dX3_spreadBetween_28 : decode cX3_spreadBetween 28 = .ok (.goto (-26), 3) := by decide +kernel
theorem dX3_spreadBetween_31 : decode cX3_spreadBetween 31 = .ok (.return_, 1) := by decide +kernel
theorem dX3_spreadAcross_0 : decode cX3_spreadAcross 0 = .ok (.iconst 0, 1) := by decide +kernel
theorem dX3_spreadAcross_1 : decode cX3_spreadAcross 1 = .ok (.istore_n 2, 1) := by decide +kernel
theorem dX3_spreadAcross_2 : decode cX3_spreadAcross 2 = .ok (.iload_n 2, 1) := by decide +kernel
theorem dX3_spreadAcross_3 : decode cX3_spreadAcross 3 = .ok (.bipush 64, 2) := by decide +kernel
theorem dX3_spreadAcross_5 : decode cX3_spreadAcross 5 = .ok (.if_icmp .ge 69, 3) := by decide +kernel
theorem dX3_spreadAcross_8 : decode cX3_spreadAcross 8 = .ok (.iload_n 2, 1) := by decide +kernel
theorem dX3_spreadAcross_9 : decode cX3_spreadAcross 9 = .ok (.iconst 3, 1) := by decide +kernel
theorem dX3_spreadAcross_10 : decode cX3_spreadAcross 10 = .ok (.iand, 1) := by decide +kernel
theorem dX3_spreadAcross_11 : decode cX3_spreadAcross 11 = .ok (.istore_n 3, 1) := by decide +kernel
theorem dX3_spreadAcross_12 : decode cX3_spreadAcross 12 = .ok (.aload_n 1, 1) := by decide +kernel
theorem dX3_spreadAcross_13 : decode cX3_spreadAcross 13 = .ok (.iload_n 2, 1) := by decide +kernel
theorem dX3_spreadAcross_14 : decode cX3_spreadAcross 14 = .ok (.laload, 1) := by decide +kernel
theorem dX3_spreadAcross_15 : decode cX3_spreadAcross 15 = .ok (.lstore 4, 2) := by decide +kernel
theorem dX3_spreadAcross_17 : decode cX3_spreadAcross 17 = .ok (.iconst 0, 1) := by decide +kernel
theorem dX3_spreadAcross_18 : decode cX3_spreadAcross 18 = .ok (.istore 6, 2) := by decide +kernel
theorem dX3_spreadAcross_20 : decode cX3_spreadAcross 20 = .ok (.iload 6, 2) := by decide +kernel
theorem dX3_spreadAcross_22 : decode cX3_spreadAcross 22 = .ok (.iconst 4, 1) := by decide +kernel
theorem dX3_spreadAcross_23 : decode cX3_spreadAcross 23 = .ok (.if_icmp .ge 37, 3) := by decide +kernel
theorem dX3_spreadAcross_26 : decode cX3_spreadAcross 26 = .ok (.lload 4, 2) := by decide +kernel
theorem dX3_spreadAcross_28 : decode cX3_spreadAcross 28 = .ok (.aload_n 1, 1) := by decide +kernel
theorem dX3_spreadAcross_29 : decode cX3_spreadAcross 29 = .ok (.iload_n 2, 1) := by decide +kernel
theorem dX3_spreadAcross_30 : decode cX3_spreadAcross 30 = .ok (.iload_n 3, 1) := by decide +kernel
theorem dX3_spreadAcross_31 : decode cX3_spreadAcross 31 = .ok (.isub, 1) := by decide +kernel
theorem dX3_spreadAcross_32 : decode cX3_spreadAcross 32 = .ok (.iload 6, 2) := by decide +kernel
theorem dX3_spreadAcross_34 : decode cX3_spreadAcross 34 = .ok (.iadd, 1) := by decide +kernel
theorem dX3_spreadAcross_35 : decode cX3_spreadAcross 35 = .ok (.laload, 1) := by decide +kernel
theorem dX3_spreadAcross_36 : decode cX3_spreadAcross 36 = .ok (.bipush 16, 2) := by decide +kernel
theorem dX3_spreadAcross_38 : decode cX3_spreadAcross 38 = .ok (.iload_n 3, 1) := by decide +kernel
theorem dX3_spreadAcross_39 : decode cX3_spreadAcross 39 = .ok (.imul, 1) := by decide +kernel
theorem dX3_spreadAcross_40 : decode cX3_spreadAcross 40 = .ok (.lushr, 1) := by decide +kernel
theorem dX3_spreadAcross_41 : decode cX3_spreadAcross 41 = .ok (.ldc2_w 21, 3) := by decide +kernel
theorem dX3_spreadAcross_44 : decode cX3_spreadAcross 44 = .ok (.land, 1) := by decide +kernel
theorem dX3_spreadAcross_45 : decode cX3_spreadAcross 45 = .ok (.bipush 16, 2) := by decide +kernel
theorem dX3_spreadAcross_47 : decode cX3_spreadAcross 47 = .ok (.iload 6, 2) := by decide +kernel
theorem dX3_spreadAcross_49 : decode cX3_spreadAcross 49 = .ok (.imul, 1) := by decide +kernel
theorem dX3_spreadAcross_50 : decode cX3_spreadAcross 50 = .ok (.lshl, 1) := by decide +kernel
theorem dX3_spreadAcross_51 : decode cX3_spreadAcross 51 = .ok (.lor, 1) := by decide +kernel
theorem dX3_spreadAcross_52 : decode cX3_spreadAcross 52 = .ok (.lstore 4, 2) := by decide +kernel
theorem dX3_spreadAcross_54 : decode cX3_spreadAcross 54 = .ok (.iinc 6 1, 3) := by decide +kernel
theorem dX3_spreadAcross_57 : decode cX3_spreadAcross 57 = .ok (.goto (-37), 3) := by decide +kernel
theorem dX3_spreadAcross_60 : decode cX3_spreadAcross 60 = .ok (.aload_n 0, 1) := by decide +kernel
theorem dX3_spreadAcross_61 : decode cX3_spreadAcross 61 = .ok (.getfield 11, 3) := by decide +kernel
theorem dX3_spreadAcross_64 : decode cX3_spreadAcross 64 = .ok (.iload_n 2, 1) := by decide +kernel
theorem dX3_spreadAcross_65 : decode cX3_spreadAcross 65 = .ok (.lload 4, 2) := by decide +kernel
theorem dX3_spreadAcross_67 : decode cX3_spreadAcross 67 = .ok (.lastore, 1) := by decide +kernel
theorem dX3_spreadAcross_68 : decode cX3_spreadAcross 68 = .ok (.iinc 2 1, 3) := by decide +kernel
theorem dX3_spreadAcross_71 : decode cX3_spreadAcross 71 = .ok (.goto (-69), 3) := by decide +kernel
theorem dX3_spreadAcross_74 : decode cX3_spreadAcross 74 = .ok (.return_, 1) := by decide +kernel
theorem dX3_spreadInside_0 : decode cX3_spreadInside 0 = .ok (.iconst 0, 1) := by decide +kernel
theorem dX3_spreadInside_1 : decode cX3_spreadInside 1 = .ok (.istore 4, 2) := by decide +kernel
theorem dX3_spreadInside_3 : decode cX3_spreadInside 3 = .ok (.iload 4, 2) := by decide +kernel
theorem dX3_spreadInside_5 : decode cX3_spreadInside 5 = .ok (.bipush 64, 2) := by decide +kernel
theorem dX3_spreadInside_7 : decode cX3_spreadInside 7 = .ok (.if_icmp .ge 78, 3) := by decide +kernel
theorem dX3_spreadInside_10 : decode cX3_spreadInside 10 = .ok (.aload_n 1, 1) := by decide +kernel
theorem dX3_spreadInside_11 : decode cX3_spreadInside 11 = .ok (.iload 4, 2) := by decide +kernel
theorem dX3_spreadInside_13 : decode cX3_spreadInside 13 = .ok (.laload, 1) := by decide +kernel
theorem dX3_spreadInside_14 : decode cX3_spreadInside 14 = .ok (.lstore 5, 2) := by decide +kernel
theorem dX3_spreadInside_16 : decode cX3_spreadInside 16 = .ok (.lload 5, 2) := by decide +kernel
theorem dX3_spreadInside_18 : decode cX3_spreadInside 18 = .ok (.lstore 7, 2) := by decide +kernel
theorem dX3_spreadInside_20 : decode cX3_spreadInside 20 = .ok (.iconst 0, 1) := by decide +kernel
theorem dX3_spreadInside_21 : decode cX3_spreadInside 21 = .ok (.istore 9, 2) := by decide +kernel
theorem dX3_spreadInside_23 : decode cX3_spreadInside 23 = .ok (.iload 9, 2) := by decide +kernel
theorem dX3_spreadInside_25 : decode cX3_spreadInside 25 = .ok (.aload_n 2, 1) := by decide +kernel
theorem dX3_spreadInside_26 : decode cX3_spreadInside 26 = .ok (.arraylength, 1) := by decide +kernel
theorem dX3_spreadInside_27 : decode cX3_spreadInside 27 = .ok (.if_icmp .ge 43, 3) := by decide +kernel
theorem dX3_spreadInside_30 : decode cX3_spreadInside 30 = .ok (.iload_n 3, 1) := by decide +kernel
theorem dX3_spreadInside_31 : decode cX3_spreadInside 31 = .ok (.iload 9, 2) := by decide +kernel
theorem dX3_spreadInside_33 : decode cX3_spreadInside 33 = .ok (.iconst 1, 1) := by decide +kernel
theorem dX3_spreadInside_34 : decode cX3_spreadInside 34 = .ok (.iadd, 1) := by decide +kernel
theorem dX3_spreadInside_35 : decode cX3_spreadInside 35 = .ok (.imul, 1) := by decide +kernel
theorem dX3_spreadInside_36 : decode cX3_spreadInside 36 = .ok (.istore 10, 2) := by decide +kernel
theorem dX3_spreadInside_38 : decode cX3_spreadInside 38 = .ok (.lload 7, 2) := by decide +kernel
theorem dX3_spreadInside_40 : decode cX3_spreadInside 40 = .ok (.lload 5, 2) := by decide +kernel
theorem dX3_spreadInside_42 : decode cX3_spreadInside 42 = .ok (.aload_n 2, 1) := by decide +kernel
theorem dX3_spreadInside_43 : decode cX3_spreadInside 43 = .ok (.iload 9, 2) := by decide +kernel
theorem dX3_spreadInside_45 : decode cX3_spreadInside 45 = .ok (.laload, 1) := by decide +kernel
theorem dX3_spreadInside_46 : decode cX3_spreadInside 46 = .ok (.land, 1) := by decide +kernel
theorem dX3_spreadInside_47 : decode cX3_spreadInside 47 = .ok (.iload 10, 2) := by decide +kernel
theorem dX3_spreadInside_49 : decode cX3_spreadInside 49 = .ok (.lshl, 1) := by decide +kernel
theorem dX3_spreadInside_50 : decode cX3_spreadInside 50 = .ok (.lload 5, 2) := by decide +kernel
theorem dX3_spreadInside_52 : decode cX3_spreadInside 52 = .ok (.iload 10, 2) := by decide +kernel
theorem dX3_spreadInside_54 : decode cX3_spreadInside 54 = .ok (.lushr, 1) := by decide +kernel
theorem dX3_spreadInside_55 : decode cX3_spreadInside 55 = .ok (.aload_n 2, 1) := by decide +kernel
theorem dX3_spreadInside_56 : decode cX3_spreadInside 56 = .ok (.iload 9, 2) := by decide +kernel
theorem dX3_spreadInside_58 : decode cX3_spreadInside 58 = .ok (.laload, 1) := by decide +kernel
theorem dX3_spreadInside_59 : decode cX3_spreadInside 59 = .ok (.land, 1) := by decide +kernel
theorem dX3_spreadInside_60 : decode cX3_spreadInside 60 = .ok (.lor, 1) := by decide +kernel
theorem dX3_spreadInside_61 : decode cX3_spreadInside 61 = .ok (.lor, 1) := by decide +kernel
theorem dX3_spreadInside_62 : decode cX3_spreadInside 62 = .ok (.lstore 7, 2) := by decide +kernel
theorem dX3_spreadInside_64 : decode cX3_spreadInside 64 = .ok (.iinc 9 1, 3) := by decide +kernel
theorem dX3_spreadInside_67 : decode cX3_spreadInside 67 = .ok (.goto (-44), 3) := by decide +kernel
theorem dX3_spreadInside_70 : decode cX3_spreadInside 70 = .ok (.aload_n 0, 1) := by decide +kernel
theorem dX3_spreadInside_71 : decode cX3_spreadInside 71 = .ok (.getfield 11, 3) := by decide +kernel
theorem dX3_spreadInside_74 : decode cX3_spreadInside 74 = .ok (.iload 4, 2) := by decide +kernel
theorem dX3_spreadInside_76 : decode cX3_spreadInside 76 = .ok (.lload 7, 2) := by decide +kernel
theorem dX3_spreadInside_78 : decode cX3_spreadInside 78 = .ok (.lastore, 1) := by decide +kernel
theorem dX3_spreadInside_79 : decode cX3_spreadInside 79 = .ok (.iinc 4 1, 3) := by decide +kernel
theorem dX3_spreadInside_82 : decode cX3_spreadInside 82 = .ok (.goto (-79), 3) := by decide +kernel
theorem dX3_spreadInside_85 : decode cX3_spreadInside 85 = .ok (.return_, 1) := by decide +kernel
theorem dX3_has_0 : decode cX3_has 0 = .ok (.aload_n 0, 1) := by decide +kernel
theorem dX3_has_1 : decode cX3_has 1 = .ok (.getfield 11, 3) := by decide +kernel
theorem dX3_has_4 : decode cX3_has 4 = .ok (.iload_n 1, 1) := by decide +kernel
theorem dX3_has_5 : decode cX3_has 5 = .ok (.bipush 6, 2) := by decide +kernel
theorem dX3_has_7 : decode cX3_has 7 = .ok (.ishr, 1) := by decide +kernel
theorem dX3_has_8 : decode cX3_has 8 = .ok (.laload, 1) := by decide +kernel
theorem dX3_has_9 : decode cX3_has 9 = .ok (.iload_n 1, 1) := by decide +kernel
theorem dX3_has_10 : decode cX3_has 10 = .ok (.bipush 63, 2) := by decide +kernel
theorem dX3_has_12 : decode cX3_has 12 = .ok (.iand, 1) := by decide +kernel
theorem dX3_has_13 : decode cX3_has 13 = .ok (.lushr, 1) := by decide +kernel
theorem dX3_has_14 : decode cX3_has 14 = .ok (.lconst 1, 1) := by decide +kernel
theorem dX3_has_15 : decode cX3_has 15 = .ok (.land, 1) := by decide +kernel
theorem dX3_has_16 : decode cX3_has 16 = .ok (.lconst 0, 1) := by decide +kernel
theorem dX3_has_17 : decode cX3_has 17 = .ok (.lcmp, 1) := by decide +kernel
theorem dX3_has_18 : decode cX3_has 18 = .ok (.ifCond .eq 7, 3) := by decide +kernel
theorem dX3_has_21 : decode cX3_has 21 = .ok (.iconst 1, 1) := by decide +kernel
theorem dX3_has_22 : decode cX3_has 22 = .ok (.goto 4, 3) := by decide +kernel
theorem dX3_has_25 : decode cX3_has 25 = .ok (.iconst 0, 1) := by decide +kernel
theorem dX3_has_26 : decode cX3_has 26 = .ok (.ireturn, 1) := by decide +kernel
set_option maxRecDepth 20000 in
theorem ggX3_countShared_J13_bitCount_95d88 : GoodIn wsX3_countShared wsJ13_bitCount_95d88 := goodIn_r _ [5, 6, 7, 8] (by decide +kernel) (by decide +kernel)
set_option maxRecDepth 20000 in
theorem gX3_countShared_J13_bitCount_95d88 : GoodIn wsX3_countShared (va_wsS RX3 49 yJ13_bitCount_95d88 wsJ13_bitCount_95d88) := goodIn_app (goodIn_of _ (by decide +kernel)) ggX3_countShared_J13_bitCount_95d88
theorem dX3_countShared_0 : decode cX3_countShared 0 = .ok (.iconst 0, 1) := by decide +kernel
theorem dX3_countShared_1 : decode cX3_countShared 1 = .ok (.istore_n 2, 1) := by decide +kernel
theorem dX3_countShared_2 : decode cX3_countShared 2 = .ok (.iconst 0, 1) := by decide +kernel
theorem dX3_countShared_3 : decode cX3_countShared 3 = .ok (.istore_n 3, 1) := by decide +kernel
theorem dX3_countShared_4 : decode cX3_countShared 4 = .ok (.iload_n 3, 1) := by decide +kernel
theorem dX3_countShared_5 : decode cX3_countShared 5 = .ok (.bipush 64, 2) := by decide +kernel
theorem dX3_countShared_7 : decode cX3_countShared 7 = .ok (.if_icmp .ge 28, 3) := by decide +kernel
theorem dX3_countShared_10 : decode cX3_countShared 10 = .ok (.iload_n 2, 1) := by decide +kernel
theorem dX3_countShared_11 : decode cX3_countShared 11 = .ok (.aload_n 0, 1) := by decide +kernel
theorem dX3_countShared_12 : decode cX3_countShared 12 = .ok (.getfield 11, 3) := by decide +kernel
theorem dX3_countShared_15 : decode cX3_countShared 15 = .ok (.iload_n 3, 1) := by decide +kernel
theorem dX3_countShared_16 : decode cX3_countShared 16 = .ok (.laload, 1) := by decide +kernel
theorem dX3_countShared_17 : decode cX3_countShared 17 = .ok (.aload_n 1, 1) := by decide +kernel
theorem dX3_countShared_18 : decode cX3_countShared 18 = .ok (.getfield 11, 3) := by decide +kernel
theorem dX3_countShared_21 : decode cX3_countShared 21 = .ok (.iload_n 3, 1) := by decide +kernel
theorem dX3_countShared_22 : decode cX3_countShared 22 = .ok (.laload, 1) := by decide +kernel
theorem dX3_countShared_23 : decode cX3_countShared 23 = .ok (.land, 1) := by decide +kernel
theorem dX3_countShared_24 : decode cX3_countShared 24 = .ok (.invokestatic 49, 3) := by decide +kernel
theorem dX3_countShared_27 : decode cX3_countShared 27 = .ok (.iadd, 1) := by decide +kernel
theorem dX3_countShared_28 : decode cX3_countShared 28 = .ok (.istore_n 2, 1) := by decide +kernel
theorem dX3_countShared_29 : decode cX3_countShared 29 = .ok (.iinc 3 1, 3) := by decide +kernel
theorem dX3_countShared_32 : decode cX3_countShared 32 = .ok (.goto (-28), 3) := by decide +kernel
theorem dX3_countShared_35 : decode cX3_countShared 35 = .ok (.iload_n 2, 1) := by decide +kernel
theorem dX3_countShared_36 : decode cX3_countShared 36 = .ok (.ireturn, 1) := by decide +kernel
theorem dX3_firstShared_0 : decode cX3_firstShared 0 = .ok (.iconst 0, 1) := by decide +kernel
theorem dX3_firstShared_1 : decode cX3_firstShared 1 = .ok (.istore_n 2, 1) := by decide +kernel
theorem dX3_firstShared_2 : decode cX3_firstShared 2 = .ok (.iload_n 2, 1) := by decide +kernel
theorem dX3_firstShared_3 : decode cX3_firstShared 3 = .ok (.bipush 64, 2) := by decide +kernel
theorem dX3_firstShared_5 : decode cX3_firstShared 5 = .ok (.if_icmp .ge 64, 3) := by decide +kernel
theorem dX3_firstShared_8 : decode cX3_firstShared 8 = .ok (.aload_n 0, 1) := by decide +kernel
theorem dX3_firstShared_9 : decode cX3_firstShared 9 = .ok (.getfield 11, 3) := by decide +kernel
theorem dX3_firstShared_12 : decode cX3_firstShared 12 = .ok (.iload_n 2, 1) := by decide +kernel
theorem dX3_firstShared_13 : decode cX3_firstShared 13 = .ok (.laload, 1) := by decide +kernel
theorem dX3_firstShared_14 : decode cX3_firstShared 14 = .ok (.aload_n 1, 1) := by decide +kernel
theorem dX3_firstShared_15 : decode cX3_firstShared 15 = .ok (.getfield 11, 3) := by decide +kernel
theorem dX3_firstShared_18 : decode cX3_firstShared 18 = .ok (.iload_n 2, 1) := by decide +kernel
theorem dX3_firstShared_19 : decode cX3_firstShared 19 = .ok (.laload, 1) := by decide +kernel
theorem dX3_firstShared_20 : decode cX3_firstShared 20 = .ok (.land, 1) := by decide +kernel
theorem dX3_firstShared_21 : decode cX3_firstShared 21 = .ok (.lstore_n 3, 1) := by decide +kernel
theorem dX3_firstShared_22 : decode cX3_firstShared 22 = .ok (.iconst 0, 1) := by decide +kernel
theorem dX3_firstShared_23 : decode cX3_firstShared 23 = .ok (.istore 5, 2) := by decide +kernel
theorem dX3_firstShared_25 : decode cX3_firstShared 25 = .ok (.lload_n 3, 1) := by decide +kernel
theorem dX3_firstShared_26 : decode cX3_firstShared 26 = .ok (.lconst 0, 1) := by decide +kernel
theorem dX3_firstShared_27 : decode cX3_firstShared 27 = .ok (.lcmp, 1) := by decide +kernel
theorem dX3_firstShared_28 : decode cX3_firstShared 28 = .ok (.ifCond .eq 35, 3) := by decide +kernel
theorem dX3_firstShared_31 : decode cX3_firstShared 31 = .ok (.iload 5, 2) := by decide +kernel
theorem dX3_firstShared_33 : decode cX3_firstShared 33 = .ok (.bipush 64, 2) := by decide +kernel
theorem dX3_firstShared_35 : decode cX3_firstShared 35 = .ok (.if_icmp .ge 28, 3) := by decide +kernel
theorem dX3_firstShared_38 : decode cX3_firstShared 38 = .ok (.lload_n 3, 1) := by decide +kernel
theorem dX3_firstShared_39 : decode cX3_firstShared 39 = .ok (.iload 5, 2) := by decide +kernel
theorem dX3_firstShared_41 : decode cX3_firstShared 41 = .ok (.lushr, 1) := by decide +kernel
theorem dX3_firstShared_42 : decode cX3_firstShared 42 = .ok (.lconst 1, 1) := by decide +kernel
theorem dX3_firstShared_43 : decode cX3_firstShared 43 = .ok (.land, 1) := by decide +kernel
theorem dX3_firstShared_44 : decode cX3_firstShared 44 = .ok (.lconst 0, 1) := by decide +kernel
theorem dX3_firstShared_45 : decode cX3_firstShared 45 = .ok (.lcmp, 1) := by decide +kernel
theorem dX3_firstShared_46 : decode cX3_firstShared 46 = .ok (.ifCond .eq 11, 3) := by decide +kernel
theorem dX3_firstShared_49 : decode cX3_firstShared 49 = .ok (.bipush 64, 2) := by decide +kernel
theorem dX3_firstShared_51 : decode cX3_firstShared 51 = .ok (.iload_n 2, 1) := by decide +kernel
theorem dX3_firstShared_52 : decode cX3_firstShared 52 = .ok (.imul, 1) := by decide +kernel
theorem dX3_firstShared_53 : decode cX3_firstShared 53 = .ok (.iload 5, 2) := by decide +kernel
theorem dX3_firstShared_55 : decode cX3_firstShared 55 = .ok (.iadd, 1) := by decide +kernel
theorem dX3_firstShared_56 : decode cX3_firstShared 56 = .ok (.ireturn, 1) := by decide +kernel
theorem dX3_firstShared_57 : decode cX3_firstShared 57 = .ok (.iinc 5 1, 3) := by decide +kernel
theorem dX3_firstShared_60 : decode cX3_firstShared 60 = .ok (.goto (-35), 3) := by decide +kernel
theorem dX3_firstShared_63 : decode cX3_firstShared 63 = .ok (.iinc 2 1, 3) := by decide +kernel
theorem dX3_firstShared_66 : decode cX3_firstShared 66 = .ok (.goto (-64), 3) := by decide +kernel
theorem dX3_firstShared_69 : decode cX3_firstShared 69 = .ok (.iconst (-1), 1) := by decide +kernel
theorem dX3_firstShared_70 : decode cX3_firstShared 70 = .ok (.ireturn, 1) := by decide +kernel
set_option maxRecDepth 20000 in
theorem ggX4_init_X1_init : GoodIn wsX4_init wsX1_init := goodIn_r _ [20, 21, 2, 3, 22, 23, 24, 25, 26, 27, 28, 29, 30, 31, 32, 33, 34, 35, 36, 66, 67, 68, 69, 70, 71, 90] (by decide +kernel) (by decide +kernel)
set_option maxRecDepth 20000 in
theorem gX4_init_X1_init : GoodIn wsX4_init (wsX1_init) := ggX4_init_X1_init
set_option maxRecDepth 20000 in
theorem ggX4_init_X0_init : GoodIn wsX4_init wsX0_init := goodIn_r _ [38, 39, 2, 3, 22, 40, 41, 42, 43, 44, 45, 46, 47, 72, 73, 74, 75, 76, 77, 78, 79] (by decide +kernel) (by decide +kernel)
set_option maxRecDepth 20000 in
theorem gX4_init_X0_init_n35 : GoodIn wsX4_init (wsX0_init) := ggX4_init_X0_init
set_option maxRecDepth 20000 in
theorem ggX4_init_X2_init : GoodIn wsX4_init wsX2_init := goodIn_r _ [49, 50, 2, 3, 22, 51, 52, 53, 54, 55, 56, 57, 58, 59, 60, 80, 81, 82, 83, 84, 85, 86, 87, 88, 89] (by decide +kernel) (by decide +kernel)
set_option maxRecDepth 20000 in
theorem gX4_init_X2_init_n36 : GoodIn wsX4_init (wsX2_init) := ggX4_init_X2_init
theorem dX4_init_0 : decode cX4_init 0 = .ok (.aload_n 0, 1) := by decide +kernel
theorem dX4_init_1 : decode cX4_init 1 = .ok (.invokespecial 3, 3) := by decide +kernel
theorem dX4_init_4 : decode cX4_init 4 = .ok (.aload_n 0, 1) := by decide +kernel
theorem dX4_init_5 : decode cX4_init 5 = .ok (.bipush 8, 2) := by decide +kernel
theorem dX4_init_7 : decode cX4_init 7 = .ok (.anewarray 9, 3) := by decide +kernel
theorem dX4_init_10 : decode cX4_init 10 = .ok (.putfield 11, 3) := by decide +kernel
theorem dX4_init_13 : decode cX4_init 13 = .ok (.aload_n 0, 1) := by decide +kernel
theorem dX4_init_14 : decode cX4_init 14 = .ok (.bipush 8, 2) := by decide +kernel
theorem dX4_init_16 : decode cX4_init 16 = .ok (.anewarray 15, 3) := by decide +kernel
theorem dX4_init_19 : decode cX4_init 19 = .ok (.putfield 17, 3) := by decide +kernel
theorem dX4_init_22 : decode cX4_init 22 = .ok (.aload_n 0, 1) := by decide +kernel
theorem dX4_init_23 : decode cX4_init 23 = .ok (.new 21, 3) := by decide +kernel
theorem dX4_init_26 : decode cX4_init 26 = .ok (.dup, 1) := by decide +kernel
theorem dX4_init_27 : decode cX4_init 27 = .ok (.invokespecial 23, 3) := by decide +kernel
theorem dX4_init_30 : decode cX4_init 30 = .ok (.putfield 24, 3) := by decide +kernel
theorem dX4_init_33 : decode cX4_init 33 = .ok (.aload_n 0, 1) := by decide +kernel
theorem dX4_init_34 : decode cX4_init 34 = .ok (.iconst 0, 1) := by decide +kernel
theorem dX4_init_35 : decode cX4_init 35 = .ok (.putfield 28, 3) := by decide +kernel
theorem dX4_init_38 : decode cX4_init 38 = .ok (.aload_n 0, 1) := by decide +kernel
theorem dX4_init_39 : decode cX4_init 39 = .ok (.iconst 0, 1) := by decide +kernel
theorem dX4_init_40 : decode cX4_init 40 = .ok (.putfield 32, 3) := by decide +kernel
theorem dX4_init_43 : decode cX4_init 43 = .ok (.iconst 0, 1) := by decide +kernel
theorem dX4_init_44 : decode cX4_init 44 = .ok (.istore_n 1, 1) := by decide +kernel
theorem dX4_init_45 : decode cX4_init 45 = .ok (.iload_n 1, 1) := by decide +kernel
theorem dX4_init_46 : decode cX4_init 46 = .ok (.bipush 8, 2) := by decide +kernel
theorem dX4_init_48 : decode cX4_init 48 = .ok (.if_icmp .ge 22, 3) := by decide +kernel
theorem dX4_init_51 : decode cX4_init 51 = .ok (.aload_n 0, 1) := by decide +kernel
theorem dX4_init_52 : decode cX4_init 52 = .ok (.getfield 11, 3) := by decide +kernel
theorem dX4_init_55 : decode cX4_init 55 = .ok (.iload_n 1, 1) := by decide +kernel
theorem dX4_init_56 : decode cX4_init 56 = .ok (.new 9, 3) := by decide +kernel
theorem dX4_init_59 : decode cX4_init 59 = .ok (.dup, 1) := by decide +kernel
theorem dX4_init_60 : decode cX4_init 60 = .ok (.invokespecial 35, 3) := by decide +kernel
theorem dX4_init_63 : decode cX4_init 63 = .ok (.aastore, 1) := by decide +kernel
theorem dX4_init_64 : decode cX4_init 64 = .ok (.iinc 1 1, 3) := by decide +kernel
theorem dX4_init_67 : decode cX4_init 67 = .ok (.goto (-22), 3) := by decide +kernel
theorem dX4_init_70 : decode cX4_init 70 = .ok (.iconst 0, 1) := by decide +kernel
theorem dX4_init_71 : decode cX4_init 71 = .ok (.istore_n 1, 1) := by decide +kernel
theorem dX4_init_72 : decode cX4_init 72 = .ok (.iload_n 1, 1) := by decide +kernel
theorem dX4_init_73 : decode cX4_init 73 = .ok (.bipush 8, 2) := by decide +kernel
theorem dX4_init_75 : decode cX4_init 75 = .ok (.if_icmp .ge 22, 3) := by decide +kernel
theorem dX4_init_78 : decode cX4_init 78 = .ok (.aload_n 0, 1) := by decide +kernel
theorem dX4_init_79 : decode cX4_init 79 = .ok (.getfield 17, 3) := by decide +kernel
theorem dX4_init_82 : decode cX4_init 82 = .ok (.iload_n 1, 1) := by decide +kernel
theorem dX4_init_83 : decode cX4_init 83 = .ok (.new 15, 3) := by decide +kernel
theorem dX4_init_86 : decode cX4_init 86 = .ok (.dup, 1) := by decide +kernel
theorem dX4_init_87 : decode cX4_init 87 = .ok (.invokespecial 36, 3) := by decide +kernel
theorem dX4_init_90 : decode cX4_init 90 = .ok (.aastore, 1) := by decide +kernel
theorem dX4_init_91 : decode cX4_init 91 = .ok (.iinc 1 1, 3) := by decide +kernel
theorem dX4_init_94 : decode cX4_init 94 = .ok (.goto (-22), 3) := by decide +kernel
theorem dX4_init_97 : decode cX4_init 97 = .ok (.return_, 1) := by decide +kernel
set_option maxRecDepth 20000 in
theorem ggX4_band_X4_mayBeThreads : GoodIn wsX4_band wsX4_mayBeThreads := goodIn_r _ [6] (by decide +kernel) (by decide +kernel)
set_option maxRecDepth 20000 in
theorem gX4_band_X4_mayBeThreads : GoodIn wsX4_band (va_wsS RX4 37 yX4_mayBeThreads wsX4_mayBeThreads) := goodIn_app (goodIn_of _ (by decide +kernel)) ggX4_band_X4_mayBeThreads
theorem dX4_band_0 : decode cX4_band 0 = .ok (.aload_n 0, 1) := by decide +kernel
theorem dX4_band_1 : decode cX4_band 1 = .ok (.getfield 28, 3) := by decide +kernel
theorem dX4_band_4 : decode cX4_band 4 = .ok (.bipush 8, 2) := by decide +kernel
theorem dX4_band_6 : decode cX4_band 6 = .ok (.if_icmp .ge 10, 3) := by decide +kernel
theorem dX4_band_9 : decode cX4_band 9 = .ok (.iload_n 1, 1) := by decide +kernel
theorem dX4_band_10 : decode cX4_band 10 = .ok (.invokestatic 37, 3) := by decide +kernel
theorem dX4_band_13 : decode cX4_band 13 = .ok (.ifCond .ne 5, 3) := by decide +kernel
theorem dX4_band_16 : decode cX4_band 16 = .ok (.iconst (-1), 1) := by decide +kernel
theorem dX4_band_17 : decode cX4_band 17 = .ok (.ireturn, 1) := by decide +kernel
theorem dX4_band_18 : decode cX4_band 18 = .ok (.aload_n 0, 1) := by decide +kernel
theorem dX4_band_19 : decode cX4_band 19 = .ok (.getfield 11, 3) := by decide +kernel
theorem dX4_band_22 : decode cX4_band 22 = .ok (.aload_n 0, 1) := by decide +kernel
theorem dX4_band_23 : decode cX4_band 23 = .ok (.getfield 28, 3) := by decide +kernel
theorem dX4_band_26 : decode cX4_band 26 = .ok (.aaload, 1) := by decide +kernel
theorem dX4_band_27 : decode cX4_band 27 = .ok (.iload_n 1, 1) := by decide +kernel
theorem dX4_band_28 : decode cX4_band 28 = .ok (.putfield 41, 3) := by decide +kernel
theorem dX4_band_31 : decode cX4_band 31 = .ok (.aload_n 0, 1) := by decide +kernel
theorem dX4_band_32 : decode cX4_band 32 = .ok (.dup, 1) := by decide +kernel
theorem dX4_band_33 : decode cX4_band 33 = .ok (.getfield 28, 3) := by decide +kernel
theorem dX4_band_36 : decode cX4_band 36 = .ok (.dup_x1, 1) := by decide +kernel
theorem dX4_band_37 : decode cX4_band 37 = .ok (.iconst 1, 1) := by decide +kernel
theorem dX4_band_38 : decode cX4_band 38 = .ok (.iadd, 1) := by decide +kernel
theorem dX4_band_39 : decode cX4_band 39 = .ok (.putfield 28, 3) := by decide +kernel
theorem dX4_band_42 : decode cX4_band 42 = .ok (.ireturn, 1) := by decide +kernel
set_option maxRecDepth 20000 in
theorem ggX4_colour_X4_bandAt : GoodIn wsX4_colour wsX4_bandAt := goodIn_ca (goodIn_r _ [5, 6, 7, 8, 9, 4, 10, 11, 12, 26, 27, 28, 29, 30] (by decide +kernel) (by decide +kernel)) (goodIn_sub (fun _ h => List.mem_cons_of_mem _ (List.mem_append_left _ (List.mem_append_right _ h))) (by decide +kernel))
set_option maxRecDepth 20000 in
theorem gX4_colour_X4_bandAt : GoodIn wsX4_colour (wsV RX4 44 RX4 yX4_bandAt wsX4_bandAt) := goodIn_app (goodIn_of _ (by decide +kernel)) ggX4_colour_X4_bandAt
set_option maxRecDepth 20000 in
theorem ggX4_colour_X4_needElement : GoodIn wsX4_colour wsX4_needElement := goodIn_ca (goodIn_r _ [10, 11, 12] (by decide +kernel) (by decide +kernel)) (goodIn_sub (fun _ h => List.mem_cons_of_mem _ (List.mem_append_left _ (List.mem_append_right _ h))) (by decide +kernel))
set_option maxRecDepth 20000 in
theorem gX4_colour_X4_needElement : GoodIn wsX4_colour (va_wsS RX4 48 yX4_needElement wsX4_needElement) := goodIn_app (goodIn_of _ (by decide +kernel)) ggX4_colour_X4_needElement
set_option maxRecDepth 20000 in
theorem ggX4_colour_X4_needArgument : GoodIn wsX4_colour wsX4_needArgument := goodIn_ca (goodIn_r _ [15, 16, 17] (by decide +kernel) (by decide +kernel)) (goodIn_sub (fun _ h => List.mem_cons_of_mem _ (List.mem_append_right _ h)) (by decide +kernel))
set_option maxRecDepth 20000 in
theorem gX4_colour_X4_needArgument : GoodIn wsX4_colour (va_wsS RX4 52 yX4_needArgument wsX4_needArgument) := goodIn_app (goodIn_of _ (by decide +kernel)) ggX4_colour_X4_needArgument
theorem dX4_colour_0 : decode cX4_colour 0 = .ok (.aload_n 0, 1) := by decide +kernel
theorem dX4_colour_1 : decode cX4_colour 1 = .ok (.iload_n 1, 1) := by decide +kernel
theorem dX4_colour_2 : decode cX4_colour 2 = .ok (.invokevirtual 44, 3) := by decide +kernel
theorem dX4_colour_5 : decode cX4_colour 5 = .ok (.astore 4, 2) := by decide +kernel
theorem dX4_colour_7 : decode cX4_colour 7 = .ok (.iload_n 2, 1) := by decide +kernel
theorem dX4_colour_8 : decode cX4_colour 8 = .ok (.aload 4, 2) := by decide +kernel
theorem dX4_colour_10 : decode cX4_colour 10 = .ok (.getfield 41, 3) := by decide +kernel
theorem dX4_colour_13 : decode cX4_colour 13 = .ok (.invokestatic 48, 3) := by decide +kernel
theorem dX4_colour_16 : decode cX4_colour 16 = .ok (.iload_n 3, 1) := by decide +kernel
theorem dX4_colour_17 : decode cX4_colour 17 = .ok (.iconst 4, 1) := by decide +kernel
theorem dX4_colour_18 : decode cX4_colour 18 = .ok (.invokestatic 52, 3) := by decide +kernel
theorem dX4_colour_21 : decode cX4_colour 21 = .ok (.aload 4, 2) := by decide +kernel
theorem dX4_colour_23 : decode cX4_colour 23 = .ok (.getfield 55, 3) := by decide +kernel
theorem dX4_colour_26 : decode cX4_colour 26 = .ok (.iload_n 2, 1) := by decide +kernel
theorem dX4_colour_27 : decode cX4_colour 27 = .ok (.iaload, 1) := by decide +kernel
theorem dX4_colour_28 : decode cX4_colour 28 = .ok (.istore 5, 2) := by decide +kernel
theorem dX4_colour_30 : decode cX4_colour 30 = .ok (.aload 4, 2) := by decide +kernel
theorem dX4_colour_32 : decode cX4_colour 32 = .ok (.getfield 55, 3) := by decide +kernel
theorem dX4_colour_35 : decode cX4_colour 35 = .ok (.iload_n 2, 1) := by decide +kernel
theorem dX4_colour_36 : decode cX4_colour 36 = .ok (.iload_n 3, 1) := by decide +kernel
theorem dX4_colour_37 : decode cX4_colour 37 = .ok (.iastore, 1) := by decide +kernel
theorem dX4_colour_38 : decode cX4_colour 38 = .ok (.iload 5, 2) := by decide +kernel
theorem dX4_colour_40 : decode cX4_colour 40 = .ok (.ireturn, 1) := by decide +kernel
set_option maxRecDepth 20000 in
theorem ggX4_row_X4_bandAt : GoodIn wsX4_row wsX4_bandAt := goodIn_ca (goodIn_r _ [5, 6, 7, 8, 9, 4, 10, 11, 12, 21, 22, 23, 24, 25] (by decide +kernel) (by decide +kernel)) (goodIn_sub (fun _ h => List.mem_cons_of_mem _ (List.mem_append_right _ h)) (by decide +kernel))
set_option maxRecDepth 20000 in
theorem gX4_row_X4_bandAt : GoodIn wsX4_row (wsV RX4 44 RX4 yX4_bandAt wsX4_bandAt) := goodIn_app (goodIn_of _ (by decide +kernel)) ggX4_row_X4_bandAt
theorem dX4_row_0 : decode cX4_row 0 = .ok (.aload_n 0, 1) := by decide +kernel
theorem dX4_row_1 : decode cX4_row 1 = .ok (.iload_n 1, 1) := by decide +kernel
theorem dX4_row_2 : decode cX4_row 2 = .ok (.invokevirtual 44, 3) := by decide +kernel
theorem dX4_row_5 : decode cX4_row 5 = .ok (.astore_n 3, 1) := by decide +kernel
theorem dX4_row_6 : decode cX4_row 6 = .ok (.aload_n 3, 1) := by decide +kernel
theorem dX4_row_7 : decode cX4_row 7 = .ok (.getfield 59, 3) := by decide +kernel
theorem dX4_row_10 : decode cX4_row 10 = .ok (.bipush 16, 2) := by decide +kernel
theorem dX4_row_12 : decode cX4_row 12 = .ok (.if_icmp .lt 5, 3) := by decide +kernel
theorem dX4_row_15 : decode cX4_row 15 = .ok (.iconst (-1), 1) := by decide +kernel
theorem dX4_row_16 : decode cX4_row 16 = .ok (.ireturn, 1) := by decide +kernel
theorem dX4_row_17 : decode cX4_row 17 = .ok (.aload_n 3, 1) := by decide +kernel
theorem dX4_row_18 : decode cX4_row 18 = .ok (.getfield 62, 3) := by decide +kernel
theorem dX4_row_21 : decode cX4_row 21 = .ok (.aload_n 3, 1) := by decide +kernel
theorem dX4_row_22 : decode cX4_row 22 = .ok (.getfield 59, 3) := by decide +kernel
theorem dX4_row_25 : decode cX4_row 25 = .ok (.iload_n 2, 1) := by decide +kernel
theorem dX4_row_26 : decode cX4_row 26 = .ok (.iastore, 1) := by decide +kernel
theorem dX4_row_27 : decode cX4_row 27 = .ok (.aload_n 3, 1) := by decide +kernel
theorem dX4_row_28 : decode cX4_row 28 = .ok (.dup, 1) := by decide +kernel
theorem dX4_row_29 : decode cX4_row 29 = .ok (.getfield 59, 3) := by decide +kernel
theorem dX4_row_32 : decode cX4_row 32 = .ok (.iconst 1, 1) := by decide +kernel
theorem dX4_row_33 : decode cX4_row 33 = .ok (.iadd, 1) := by decide +kernel
theorem dX4_row_34 : decode cX4_row 34 = .ok (.putfield 59, 3) := by decide +kernel
theorem dX4_row_37 : decode cX4_row 37 = .ok (.aload_n 3, 1) := by decide +kernel
theorem dX4_row_38 : decode cX4_row 38 = .ok (.getfield 59, 3) := by decide +kernel
theorem dX4_row_41 : decode cX4_row 41 = .ok (.ireturn, 1) := by decide +kernel
set_option maxRecDepth 20000 in
theorem ggX4_knot_X4_bandAt : GoodIn wsX4_knot wsX4_bandAt := goodIn_ca (goodIn_r _ [5, 6, 7, 8, 9, 4, 10, 11, 12, 35, 36, 37, 38, 39] (by decide +kernel) (by decide +kernel)) (goodIn_sub (fun _ h => List.mem_cons_of_mem _ (List.mem_append_left _ (List.mem_append_right _ h))) (by decide +kernel))
set_option maxRecDepth 20000 in
theorem gX4_knot_X4_bandAt : GoodIn wsX4_knot (wsV RX4 44 RX4 yX4_bandAt wsX4_bandAt) := goodIn_app (goodIn_of _ (by decide +kernel)) ggX4_knot_X4_bandAt
set_option maxRecDepth 20000 in
theorem ggX4_knot_X4_needElement : GoodIn wsX4_knot wsX4_needElement := goodIn_ca (goodIn_r _ [10, 11, 12] (by decide +kernel) (by decide +kernel)) (goodIn_sub (fun _ h => List.mem_cons_of_mem _ (List.mem_append_left _ (List.mem_append_right _ h))) (by decide +kernel))
set_option maxRecDepth 20000 in
theorem gX4_knot_X4_needElement : GoodIn wsX4_knot (va_wsS RX4 48 yX4_needElement wsX4_needElement) := goodIn_app (goodIn_of _ (by decide +kernel)) ggX4_knot_X4_needElement
set_option maxRecDepth 20000 in
theorem ggX4_knot_X4_knotsIn : GoodIn wsX4_knot wsX4_knotsIn := goodIn_r _ [15] (by decide +kernel) (by decide +kernel)
set_option maxRecDepth 20000 in
theorem gX4_knot_X4_knotsIn : GoodIn wsX4_knot (va_wsS RX4 65 yX4_knotsIn wsX4_knotsIn) := goodIn_app (goodIn_of _ (by decide +kernel)) ggX4_knot_X4_knotsIn
set_option maxRecDepth 20000 in
theorem ggX4_knot_X4_kindIn : GoodIn wsX4_knot wsX4_kindIn := goodIn_r _ [18] (by decide +kernel) (by decide +kernel)
set_option maxRecDepth 20000 in
theorem gX4_knot_X4_kindIn : GoodIn wsX4_knot (va_wsS RX4 69 yX4_kindIn wsX4_kindIn) := goodIn_app (goodIn_of _ (by decide +kernel)) ggX4_knot_X4_kindIn
set_option maxRecDepth 20000 in
theorem ggX4_knot_X4_needArgument : GoodIn wsX4_knot wsX4_needArgument := goodIn_ca (goodIn_r _ [21, 22, 23] (by decide +kernel) (by decide +kernel)) (goodIn_sub (fun _ h => List.mem_cons_of_mem _ (List.mem_append_right _ h)) (by decide +kernel))
set_option maxRecDepth 20000 in
theorem gX4_knot_X4_needArgument : GoodIn wsX4_knot (va_wsS RX4 52 yX4_needArgument wsX4_needArgument) := goodIn_app (goodIn_of _ (by decide +kernel)) ggX4_knot_X4_needArgument
set_option maxRecDepth 20000 in
theorem ggX4_knot_X4_withKind : GoodIn wsX4_knot wsX4_withKind := goodIn_r _ [26] (by decide +kernel) (by decide +kernel)
set_option maxRecDepth 20000 in
theorem gX4_knot_X4_withKind : GoodIn wsX4_knot (va_wsS RX4 72 yX4_withKind wsX4_withKind) := goodIn_app (goodIn_of _ (by decide +kernel)) ggX4_knot_X4_withKind
theorem dX4_knot_0 : decode cX4_knot 0 = .ok (.aload_n 0, 1) := by decide +kernel
theorem dX4_knot_1 : decode cX4_knot 1 = .ok (.iload_n 1, 1) := by decide +kernel
theorem dX4_knot_2 : decode cX4_knot 2 = .ok (.invokevirtual 44, 3) := by decide +kernel
theorem dX4_knot_5 : decode cX4_knot 5 = .ok (.astore 5, 2) := by decide +kernel
theorem dX4_knot_7 : decode cX4_knot 7 = .ok (.iload_n 2, 1) := by decide +kernel
theorem dX4_knot_8 : decode cX4_knot 8 = .ok (.aload 5, 2) := by decide +kernel
theorem dX4_knot_10 : decode cX4_knot 10 = .ok (.getfield 59, 3) := by decide +kernel
theorem dX4_knot_13 : decode cX4_knot 13 = .ok (.invokestatic 48, 3) := by decide +kernel
theorem dX4_knot_16 : decode cX4_knot 16 = .ok (.iload_n 3, 1) := by decide +kernel
theorem dX4_knot_17 : decode cX4_knot 17 = .ok (.aload 5, 2) := by decide +kernel
theorem dX4_knot_19 : decode cX4_knot 19 = .ok (.getfield 41, 3) := by decide +kernel
theorem dX4_knot_22 : decode cX4_knot 22 = .ok (.iload_n 2, 1) := by decide +kernel
theorem dX4_knot_23 : decode cX4_knot 23 = .ok (.invokestatic 65, 3) := by decide +kernel
theorem dX4_knot_26 : decode cX4_knot 26 = .ok (.invokestatic 48, 3) := by decide +kernel
theorem dX4_knot_29 : decode cX4_knot 29 = .ok (.aload 5, 2) := by decide +kernel
theorem dX4_knot_31 : decode cX4_knot 31 = .ok (.getfield 62, 3) := by decide +kernel
theorem dX4_knot_34 : decode cX4_knot 34 = .ok (.iload_n 2, 1) := by decide +kernel
theorem dX4_knot_35 : decode cX4_knot 35 = .ok (.iaload, 1) := by decide +kernel
theorem dX4_knot_36 : decode cX4_knot 36 = .ok (.iload_n 3, 1) := by decide +kernel
theorem dX4_knot_37 : decode cX4_knot 37 = .ok (.invokestatic 69, 3) := by decide +kernel
theorem dX4_knot_40 : decode cX4_knot 40 = .ok (.istore 6, 2) := by decide +kernel
theorem dX4_knot_42 : decode cX4_knot 42 = .ok (.iload 4, 2) := by decide +kernel
theorem dX4_knot_44 : decode cX4_knot 44 = .ok (.iconst (-1), 1) := by decide +kernel
theorem dX4_knot_45 : decode cX4_knot 45 = .ok (.if_icmp .eq 29, 3) := by decide +kernel
theorem dX4_knot_48 : decode cX4_knot 48 = .ok (.iload 4, 2) := by decide +kernel
theorem dX4_knot_50 : decode cX4_knot 50 = .ok (.iconst 4, 1) := by decide +kernel
theorem dX4_knot_51 : decode cX4_knot 51 = .ok (.invokestatic 52, 3) := by decide +kernel
theorem dX4_knot_54 : decode cX4_knot 54 = .ok (.aload 5, 2) := by decide +kernel
theorem dX4_knot_56 : decode cX4_knot 56 = .ok (.getfield 62, 3) := by decide +kernel
theorem dX4_knot_59 : decode cX4_knot 59 = .ok (.iload_n 2, 1) := by decide +kernel
theorem dX4_knot_60 : decode cX4_knot 60 = .ok (.aload 5, 2) := by decide +kernel
theorem dX4_knot_62 : decode cX4_knot 62 = .ok (.getfield 62, 3) := by decide +kernel
theorem dX4_knot_65 : decode cX4_knot 65 = .ok (.iload_n 2, 1) := by decide +kernel
theorem dX4_knot_66 : decode cX4_knot 66 = .ok (.iaload, 1) := by decide +kernel
theorem dX4_knot_67 : decode cX4_knot 67 = .ok (.iload_n 3, 1) := by decide +kernel
theorem dX4_knot_68 : decode cX4_knot 68 = .ok (.iload 4, 2) := by decide +kernel
theorem dX4_knot_70 : decode cX4_knot 70 = .ok (.invokestatic 72, 3) := by decide +kernel
theorem dX4_knot_73 : decode cX4_knot 73 = .ok (.iastore, 1) := by decide +kernel
theorem dX4_knot_74 : decode cX4_knot 74 = .ok (.iload 6, 2) := by decide +kernel
theorem dX4_knot_76 : decode cX4_knot 76 = .ok (.ireturn, 1) := by decide +kernel
set_option maxRecDepth 20000 in
theorem ggX4_shows_X4_bandAt : GoodIn wsX4_shows wsX4_bandAt := goodIn_ca (goodIn_r _ [5, 6, 7, 8, 9, 4, 10, 11, 12, 48, 49, 50, 51, 52] (by decide +kernel) (by decide +kernel)) (goodIn_sub (fun _ h => List.mem_cons_of_mem _ (List.mem_append_right _ h)) (by decide +kernel))
set_option maxRecDepth 20000 in
theorem gX4_shows_X4_bandAt : GoodIn wsX4_shows (wsV RX4 44 RX4 yX4_bandAt wsX4_bandAt) := goodIn_app (goodIn_of _ (by decide +kernel)) ggX4_shows_X4_bandAt
set_option maxRecDepth 20000 in
theorem ggX4_shows_X4_needElement : GoodIn wsX4_shows wsX4_needElement := goodIn_ca (goodIn_r _ [10, 11, 12] (by decide +kernel) (by decide +kernel)) (goodIn_sub (fun _ h => List.mem_cons_of_mem _ (List.mem_append_right _ h)) (by decide +kernel))
set_option maxRecDepth 20000 in
theorem gX4_shows_X4_needElement : GoodIn wsX4_shows (va_wsS RX4 48 yX4_needElement wsX4_needElement) := goodIn_app (goodIn_of _ (by decide +kernel)) ggX4_shows_X4_needElement
set_option maxRecDepth 20000 in
theorem ggX4_shows_X4_knotsIn : GoodIn wsX4_shows wsX4_knotsIn := goodIn_r _ [15] (by decide +kernel) (by decide +kernel)
set_option maxRecDepth 20000 in
theorem gX4_shows_X4_knotsIn : GoodIn wsX4_shows (va_wsS RX4 65 yX4_knotsIn wsX4_knotsIn) := goodIn_app (goodIn_of _ (by decide +kernel)) ggX4_shows_X4_knotsIn
set_option maxRecDepth 20000 in
theorem ggX4_shows_X0_walk : GoodIn wsX4_shows wsX0_walk := goodIn_r _ [20, 21, 22, 23, 14, 4, 15, 24, 25, 26, 19, 27, 28, 29, 30, 31, 32, 33, 34, 35, 36, 37, 38, 40, 41, 42, 43, 44, 45, 46, 47] (by decide +kernel) (by decide +kernel)
set_option maxRecDepth 20000 in
theorem gX4_shows_X0_walk : GoodIn wsX4_shows (wsV RX4 76 RX0 yX0_walk wsX0_walk) := goodIn_app (goodIn_of _ (by decide +kernel)) ggX4_shows_X0_walk
set_option maxRecDepth 20000 in
theorem ggX4_shows_X4_spotOf : GoodIn wsX4_shows wsX4_spotOf := goodIn_r _ [38] (by decide +kernel) (by decide +kernel)
set_option maxRecDepth 20000 in
theorem gX4_shows_X4_spotOf : GoodIn wsX4_shows (va_wsS RX4 83 yX4_spotOf wsX4_spotOf) := goodIn_app (goodIn_of _ (by decide +kernel)) ggX4_shows_X4_spotOf
theorem dX4_shows_0 : decode cX4_shows 0 = .ok (.aload_n 0, 1) := by decide +kernel
theorem dX4_shows_1 : decode cX4_shows 1 = .ok (.iload_n 1, 1) := by decide +kernel
theorem dX4_shows_2 : decode cX4_shows 2 = .ok (.invokevirtual 44, 3) := by decide +kernel
theorem dX4_shows_5 : decode cX4_shows 5 = .ok (.astore 4, 2) := by decide +kernel
theorem dX4_shows_7 : decode cX4_shows 7 = .ok (.iload_n 2, 1) := by decide +kernel
theorem dX4_shows_8 : decode cX4_shows 8 = .ok (.aload 4, 2) := by decide +kernel
theorem dX4_shows_10 : decode cX4_shows 10 = .ok (.getfield 59, 3) := by decide +kernel
theorem dX4_shows_13 : decode cX4_shows 13 = .ok (.invokestatic 48, 3) := by decide +kernel
theorem dX4_shows_16 : decode cX4_shows 16 = .ok (.iload_n 3, 1) := by decide +kernel
theorem dX4_shows_17 : decode cX4_shows 17 = .ok (.aload 4, 2) := by decide +kernel
theorem dX4_shows_19 : decode cX4_shows 19 = .ok (.getfield 41, 3) := by decide +kernel
theorem dX4_shows_22 : decode cX4_shows 22 = .ok (.iload_n 2, 1) := by decide +kernel
theorem dX4_shows_23 : decode cX4_shows 23 = .ok (.invokestatic 65, 3) := by decide +kernel
theorem dX4_shows_26 : decode cX4_shows 26 = .ok (.invokestatic 48, 3) := by decide +kernel
theorem dX4_shows_29 : decode cX4_shows 29 = .ok (.aload 4, 2) := by decide +kernel
theorem dX4_shows_31 : decode cX4_shows 31 = .ok (.iload_n 2, 1) := by decide +kernel
theorem dX4_shows_32 : decode cX4_shows 32 = .ok (.iconst 1, 1) := by decide +kernel
theorem dX4_shows_33 : decode cX4_shows 33 = .ok (.iadd, 1) := by decide +kernel
theorem dX4_shows_34 : decode cX4_shows 34 = .ok (.invokevirtual 76, 3) := by decide +kernel
theorem dX4_shows_37 : decode cX4_shows 37 = .ok (.aload 4, 2) := by decide +kernel
theorem dX4_shows_39 : decode cX4_shows 39 = .ok (.getfield 80, 3) := by decide +kernel
theorem dX4_shows_42 : decode cX4_shows 42 = .ok (.iload_n 2, 1) := by decide +kernel
theorem dX4_shows_43 : decode cX4_shows 43 = .ok (.iload_n 3, 1) := by decide +kernel
theorem dX4_shows_44 : decode cX4_shows 44 = .ok (.invokestatic 83, 3) := by decide +kernel
theorem dX4_shows_47 : decode cX4_shows 47 = .ok (.iaload, 1) := by decide +kernel
theorem dX4_shows_48 : decode cX4_shows 48 = .ok (.ireturn, 1) := by decide +kernel
set_option maxRecDepth 20000 in
theorem ggX4_thread_X4_bandAt : GoodIn wsX4_thread wsX4_bandAt := goodIn_ca (goodIn_r _ [5, 6, 7, 8, 9, 4, 10, 11, 12, 46, 47, 48, 49, 50] (by decide +kernel) (by decide +kernel)) (goodIn_sub (fun _ h => List.mem_cons_of_mem _ (List.mem_append_right _ h)) (by decide +kernel))
set_option maxRecDepth 20000 in
theorem gX4_thread_X4_bandAt : GoodIn wsX4_thread (wsV RX4 44 RX4 yX4_bandAt wsX4_bandAt) := goodIn_app (goodIn_of _ (by decide +kernel)) ggX4_thread_X4_bandAt
set_option maxRecDepth 20000 in
theorem ggX4_thread_X4_needElement : GoodIn wsX4_thread wsX4_needElement := goodIn_ca (goodIn_r _ [10, 11, 12] (by decide +kernel) (by decide +kernel)) (goodIn_sub (fun _ h => List.mem_cons_of_mem _ (List.mem_append_right _ h)) (by decide +kernel))
set_option maxRecDepth 20000 in
theorem gX4_thread_X4_needElement : GoodIn wsX4_thread (va_wsS RX4 48 yX4_needElement wsX4_needElement) := goodIn_app (goodIn_of _ (by decide +kernel)) ggX4_thread_X4_needElement
set_option maxRecDepth 20000 in
theorem ggX4_thread_X0_walk : GoodIn wsX4_thread wsX0_walk := goodIn_r _ [17, 18, 19, 20, 21, 4, 22, 23, 24, 25, 16, 26, 27, 28, 29, 30, 31, 32, 33, 34, 35, 36, 37, 38, 39, 40, 41, 42, 43, 44, 45] (by decide +kernel) (by decide +kernel)
set_option maxRecDepth 20000 in
theorem gX4_thread_X0_walk : GoodIn wsX4_thread (wsV RX4 76 RX0 yX0_walk wsX0_walk) := goodIn_app (goodIn_of _ (by decide +kernel)) ggX4_thread_X0_walk
theorem dX4_thread_0 : decode cX4_thread 0 = .ok (.aload_n 0, 1) := by decide +kernel
theorem dX4_thread_1 : decode cX4_thread 1 = .ok (.iload_n 1, 1) := by decide +kernel
theorem dX4_thread_2 : decode cX4_thread 2 = .ok (.invokevirtual 44, 3) := by decide +kernel
theorem dX4_thread_5 : decode cX4_thread 5 = .ok (.astore 4, 2) := by decide +kernel
theorem dX4_thread_7 : decode cX4_thread 7 = .ok (.iload_n 2, 1) := by decide +kernel
theorem dX4_thread_8 : decode cX4_thread 8 = .ok (.aload 4, 2) := by decide +kernel
theorem dX4_thread_10 : decode cX4_thread 10 = .ok (.getfield 59, 3) := by decide +kernel
theorem dX4_thread_13 : decode cX4_thread 13 = .ok (.iconst 1, 1) := by decide +kernel
theorem dX4_thread_14 : decode cX4_thread 14 = .ok (.iadd, 1) := by decide +kernel
theorem dX4_thread_15 : decode cX4_thread 15 = .ok (.invokestatic 48, 3) := by decide +kernel
theorem dX4_thread_18 : decode cX4_thread 18 = .ok (.iload_n 3, 1) := by decide +kernel
theorem dX4_thread_19 : decode cX4_thread 19 = .ok (.aload 4, 2) := by decide +kernel
theorem dX4_thread_21 : decode cX4_thread 21 = .ok (.getfield 41, 3) := by decide +kernel
theorem dX4_thread_24 : decode cX4_thread 24 = .ok (.invokestatic 48, 3) := by decide +kernel
theorem dX4_thread_27 : decode cX4_thread 27 = .ok (.aload 4, 2) := by decide +kernel
theorem dX4_thread_29 : decode cX4_thread 29 = .ok (.iload_n 2, 1) := by decide +kernel
theorem dX4_thread_30 : decode cX4_thread 30 = .ok (.invokevirtual 76, 3) := by decide +kernel
theorem dX4_thread_33 : decode cX4_thread 33 = .ok (.aload 4, 2) := by decide +kernel
theorem dX4_thread_35 : decode cX4_thread 35 = .ok (.getfield 86, 3) := by decide +kernel
theorem dX4_thread_38 : decode cX4_thread 38 = .ok (.iload_n 3, 1) := by decide +kernel
theorem dX4_thread_39 : decode cX4_thread 39 = .ok (.iaload, 1) := by decide +kernel
theorem dX4_thread_40 : decode cX4_thread 40 = .ok (.ireturn, 1) := by decide +kernel
set_option maxRecDepth 20000 in
theorem ggX4_used_X4_bandAt : GoodIn wsX4_used wsX4_bandAt := goodIn_ca (goodIn_r _ [5, 6, 7, 8, 9, 4, 10, 11, 12, 46, 47, 48, 49, 50] (by decide +kernel) (by decide +kernel)) (goodIn_sub (fun _ h => List.mem_cons_of_mem _ (List.mem_append_right _ h)) (by decide +kernel))
set_option maxRecDepth 20000 in
theorem gX4_used_X4_bandAt : GoodIn wsX4_used (wsV RX4 44 RX4 yX4_bandAt wsX4_bandAt) := goodIn_app (goodIn_of _ (by decide +kernel)) ggX4_used_X4_bandAt
set_option maxRecDepth 20000 in
theorem ggX4_used_X4_needElement : GoodIn wsX4_used wsX4_needElement := goodIn_ca (goodIn_r _ [10, 11, 12] (by decide +kernel) (by decide +kernel)) (goodIn_sub (fun _ h => List.mem_cons_of_mem _ (List.mem_append_right _ h)) (by decide +kernel))
set_option maxRecDepth 20000 in
theorem gX4_used_X4_needElement : GoodIn wsX4_used (va_wsS RX4 48 yX4_needElement wsX4_needElement) := goodIn_app (goodIn_of _ (by decide +kernel)) ggX4_used_X4_needElement
set_option maxRecDepth 20000 in
theorem ggX4_used_X0_walk : GoodIn wsX4_used wsX0_walk := goodIn_r _ [17, 18, 19, 20, 21, 4, 22, 23, 24, 25, 16, 26, 27, 28, 29, 30, 31, 32, 33, 34, 35, 36, 37, 38, 39, 40, 41, 42, 43, 44, 45] (by decide +kernel) (by decide +kernel)
set_option maxRecDepth 20000 in
theorem gX4_used_X0_walk : GoodIn wsX4_used (wsV RX4 76 RX0 yX0_walk wsX0_walk) := goodIn_app (goodIn_of _ (by decide +kernel)) ggX4_used_X0_walk
theorem dX4_used_0 : decode cX4_used 0 = .ok (.aload_n 0, 1) := by decide +kernel
theorem dX4_used_1 : decode cX4_used 1 = .ok (.iload_n 1, 1) := by decide +kernel
theorem dX4_used_2 : decode cX4_used 2 = .ok (.invokevirtual 44, 3) := by decide +kernel
theorem dX4_used_5 : decode cX4_used 5 = .ok (.astore_n 3, 1) := by decide +kernel
theorem dX4_used_6 : decode cX4_used 6 = .ok (.iload_n 2, 1) := by decide +kernel
theorem dX4_used_7 : decode cX4_used 7 = .ok (.aload_n 3, 1) := by decide +kernel
theorem dX4_used_8 : decode cX4_used 8 = .ok (.getfield 41, 3) := by decide +kernel
theorem dX4_used_11 : decode cX4_used 11 = .ok (.invokestatic 48, 3) := by decide +kernel
theorem dX4_used_14 : decode cX4_used 14 = .ok (.aload_n 3, 1) := by decide +kernel
theorem dX4_used_15 : decode cX4_used 15 = .ok (.aload_n 3, 1) := by decide +kernel
theorem dX4_used_16 : decode cX4_used 16 = .ok (.getfield 59, 3) := by decide +kernel
theorem dX4_used_19 : decode cX4_used 19 = .ok (.invokevirtual 76, 3) := by decide +kernel
theorem dX4_used_22 : decode cX4_used 22 = .ok (.aload_n 3, 1) := by decide +kernel
theorem dX4_used_23 : decode cX4_used 23 = .ok (.getfield 89, 3) := by decide +kernel
theorem dX4_used_26 : decode cX4_used 26 = .ok (.iload_n 2, 1) := by decide +kernel
theorem dX4_used_27 : decode cX4_used 27 = .ok (.iaload, 1) := by decide +kernel
theorem dX4_used_28 : decode cX4_used 28 = .ok (.ireturn, 1) := by decide +kernel
set_option maxRecDepth 20000 in
theorem ggX4_home_X4_bandAt : GoodIn wsX4_home wsX4_bandAt := goodIn_ca (goodIn_r _ [5, 6, 7, 8, 9, 4, 10, 11, 12, 56, 57, 58, 59, 60] (by decide +kernel) (by decide +kernel)) (goodIn_sub (fun _ h => List.mem_cons_of_mem _ (List.mem_append_right _ h)) (by decide +kernel))
set_option maxRecDepth 20000 in
theorem gX4_home_X4_bandAt : GoodIn wsX4_home (wsV RX4 44 RX4 yX4_bandAt wsX4_bandAt) := goodIn_app (goodIn_of _ (by decide +kernel)) ggX4_home_X4_bandAt
set_option maxRecDepth 20000 in
theorem ggX4_home_X4_needElement : GoodIn wsX4_home wsX4_needElement := goodIn_ca (goodIn_r _ [10, 11, 12] (by decide +kernel) (by decide +kernel)) (goodIn_sub (fun _ h => List.mem_cons_of_mem _ (List.mem_append_right _ h)) (by decide +kernel))
set_option maxRecDepth 20000 in
theorem gX4_home_X4_needElement : GoodIn wsX4_home (va_wsS RX4 48 yX4_needElement wsX4_needElement) := goodIn_app (goodIn_of _ (by decide +kernel)) ggX4_home_X4_needElement
set_option maxRecDepth 20000 in
theorem ggX4_home_X0_timesToHome : GoodIn wsX4_home wsX0_timesToHome := goodIn_r _ [17, 18, 19, 20, 21, 22, 23, 24, 16, 25, 26, 27, 4, 28, 29, 30, 31, 32, 33, 34, 35, 36, 37, 38, 39, 40, 41, 42, 43, 44, 45, 46, 47, 48, 49, 50, 51, 52, 53, 54, 55] (by decide +kernel) (by decide +kernel)
set_option maxRecDepth 20000 in
theorem gX4_home_X0_timesToHome : GoodIn wsX4_home (wsV RX4 92 RX0 yX0_timesToHome wsX0_timesToHome) := goodIn_app (goodIn_of _ (by decide +kernel)) ggX4_home_X0_timesToHome
theorem dX4_home_0 : decode cX4_home 0 = .ok (.aload_n 0, 1) := by decide +kernel
theorem dX4_home_1 : decode cX4_home 1 = .ok (.iload_n 1, 1) := by decide +kernel
theorem dX4_home_2 : decode cX4_home 2 = .ok (.invokevirtual 44, 3) := by decide +kernel
theorem dX4_home_5 : decode cX4_home 5 = .ok (.astore_n 3, 1) := by decide +kernel
theorem dX4_home_6 : decode cX4_home 6 = .ok (.iload_n 2, 1) := by decide +kernel
theorem dX4_home_7 : decode cX4_home 7 = .ok (.iconst 2, 1) := by decide +kernel
theorem dX4_home_8 : decode cX4_home 8 = .ok (.invokestatic 48, 3) := by decide +kernel
theorem dX4_home_11 : decode cX4_home 11 = .ok (.aload_n 3, 1) := by decide +kernel
theorem dX4_home_12 : decode cX4_home 12 = .ok (.getfield 59, 3) := by decide +kernel
theorem dX4_home_15 : decode cX4_home 15 = .ok (.iconst 1, 1) := by decide +kernel
theorem dX4_home_16 : decode cX4_home 16 = .ok (.iand, 1) := by decide +kernel
theorem dX4_home_17 : decode cX4_home 17 = .ok (.iconst 1, 1) := by decide +kernel
theorem dX4_home_18 : decode cX4_home 18 = .ok (.if_icmp .ne 5, 3) := by decide +kernel
theorem dX4_home_21 : decode cX4_home 21 = .ok (.iconst (-1), 1) := by decide +kernel
theorem dX4_home_22 : decode cX4_home 22 = .ok (.ireturn, 1) := by decide +kernel
theorem dX4_home_23 : decode cX4_home 23 = .ok (.aload_n 3, 1) := by decide +kernel
theorem dX4_home_24 : decode cX4_home 24 = .ok (.iload_n 2, 1) := by decide +kernel
theorem dX4_home_25 : decode cX4_home 25 = .ok (.iconst 1, 1) := by decide +kernel
theorem dX4_home_26 : decode cX4_home 26 = .ok (.if_icmp .ne 7, 3) := by decide +kernel
theorem dX4_home_29 : decode cX4_home 29 = .ok (.iconst 1, 1) := by decide +kernel
theorem dX4_home_30 : decode cX4_home 30 = .ok (.goto 4, 3) := by decide +kernel
theorem dX4_home_33 : decode cX4_home 33 = .ok (.iconst 0, 1) := by decide +kernel
theorem dX4_home_34 : decode cX4_home 34 = .ok (.invokevirtual 92, 3) := by decide +kernel
theorem dX4_home_37 : decode cX4_home 37 = .ok (.ireturn, 1) := by decide +kernel
set_option maxRecDepth 20000 in
theorem ggX4_unlike_X4_bandAt : GoodIn wsX4_unlike wsX4_bandAt := goodIn_ca (goodIn_r _ [7, 8, 9, 10, 11, 6, 12, 13, 14, 50, 51, 52, 53, 54] (by decide +kernel) (by decide +kernel)) (goodIn_sub (fun _ h => List.mem_cons_of_mem _ (List.mem_append_right _ h)) (by decide +kernel))
set_option maxRecDepth 20000 in
theorem gX4_unlike_X4_bandAt : GoodIn wsX4_unlike (wsV RX4 44 RX4 yX4_bandAt wsX4_bandAt) := goodIn_app (goodIn_of _ (by decide +kernel)) ggX4_unlike_X4_bandAt
set_option maxRecDepth 20000 in
theorem ggX4_unlike_X0_walk : GoodIn wsX4_unlike wsX0_walk := goodIn_r _ [19, 20, 21, 22, 23, 6, 24, 25, 26, 27, 18, 28, 29, 30, 31, 32, 33, 34, 35, 36, 37, 38, 39, 42, 43, 44, 45, 46, 47, 48, 49] (by decide +kernel) (by decide +kernel)
set_option maxRecDepth 20000 in
theorem gX4_unlike_X0_walk : GoodIn wsX4_unlike (wsV RX4 76 RX0 yX0_walk wsX0_walk) := goodIn_app (goodIn_of _ (by decide +kernel)) ggX4_unlike_X0_walk
set_option maxRecDepth 20000 in
theorem ggX4_unlike_X4_knotsIn : GoodIn wsX4_unlike wsX4_knotsIn := goodIn_r _ [24] (by decide +kernel) (by decide +kernel)
set_option maxRecDepth 20000 in
theorem gX4_unlike_X4_knotsIn : GoodIn wsX4_unlike (va_wsS RX4 65 yX4_knotsIn wsX4_knotsIn) := goodIn_app (goodIn_of _ (by decide +kernel)) ggX4_unlike_X4_knotsIn
set_option maxRecDepth 20000 in
theorem ggX4_unlike_X4_spotOf : GoodIn wsX4_unlike wsX4_spotOf := goodIn_r _ [39] (by decide +kernel) (by decide +kernel)
set_option maxRecDepth 20000 in
theorem gX4_unlike_X4_spotOf : GoodIn wsX4_unlike (va_wsS RX4 83 yX4_spotOf wsX4_spotOf) := goodIn_app (goodIn_of _ (by decide +kernel)) ggX4_unlike_X4_spotOf
theorem dX4_unlike_0 : decode cX4_unlike 0 = .ok (.aload_n 0, 1) := by decide +kernel
theorem dX4_unlike_1 : decode cX4_unlike 1 = .ok (.iload_n 1, 1) := by decide +kernel
theorem dX4_unlike_2 : decode cX4_unlike 2 = .ok (.invokevirtual 44, 3) := by decide +kernel
theorem dX4_unlike_5 : decode cX4_unlike 5 = .ok (.astore_n 3, 1) := by decide +kernel
theorem dX4_unlike_6 : decode cX4_unlike 6 = .ok (.aload_n 0, 1) := by decide +kernel
theorem dX4_unlike_7 : decode cX4_unlike 7 = .ok (.iload_n 2, 1) := by decide +kernel
theorem dX4_unlike_8 : decode cX4_unlike 8 = .ok (.invokevirtual 44, 3) := by decide +kernel
theorem dX4_unlike_11 : decode cX4_unlike 11 = .ok (.astore 4, 2) := by decide +kernel
theorem dX4_unlike_13 : decode cX4_unlike 13 = .ok (.aload_n 3, 1) := by decide +kernel
theorem dX4_unlike_14 : decode cX4_unlike 14 = .ok (.getfield 41, 3) := by decide +kernel
theorem dX4_unlike_17 : decode cX4_unlike 17 = .ok (.aload 4, 2) := by decide +kernel
theorem dX4_unlike_19 : decode cX4_unlike 19 = .ok (.getfield 41, 3) := by decide +kernel
theorem dX4_unlike_22 : decode cX4_unlike 22 = .ok (.if_icmp .ne 15, 3) := by decide +kernel
theorem dX4_unlike_25 : decode cX4_unlike 25 = .ok (.aload_n 3, 1) := by decide +kernel
theorem dX4_unlike_26 : decode cX4_unlike 26 = .ok (.getfield 59, 3) := by decide +kernel
theorem dX4_unlike_29 : decode cX4_unlike 29 = .ok (.aload 4, 2) := by decide +kernel
theorem dX4_unlike_31 : decode cX4_unlike 31 = .ok (.getfield 59, 3) := by decide +kernel
theorem dX4_unlike_34 : decode cX4_unlike 34 = .ok (.if_icmp .eq 13, 3) := by decide +kernel
theorem dX4_unlike_37 : decode cX4_unlike 37 = .ok (.new 96, 3) := by decide +kernel
theorem dX4_unlike_40 : decode cX4_unlike 40 = .ok (.dup, 1) := by decide +kernel
theorem dX4_unlike_41 : decode cX4_unlike 41 = .ok (.ldc 98, 2) := by decide +kernel
theorem dX4_unlike_43 : decode cX4_unlike 43 = .ok (.invokespecial 100, 3) := by decide +kernel
theorem dX4_unlike_46 : decode cX4_unlike 46 = .ok (.athrow, 1) := by decide +kernel
theorem dX4_unlike_47 : decode cX4_unlike 47 = .ok (.aload_n 3, 1) := by decide +kernel
theorem dX4_unlike_48 : decode cX4_unlike 48 = .ok (.aload_n 3, 1) := by decide +kernel
theorem dX4_unlike_49 : decode cX4_unlike 49 = .ok (.getfield 59, 3) := by decide +kernel
theorem dX4_unlike_52 : decode cX4_unlike 52 = .ok (.invokevirtual 76, 3) := by decide +kernel
theorem dX4_unlike_55 : decode cX4_unlike 55 = .ok (.aload 4, 2) := by decide +kernel
theorem dX4_unlike_57 : decode cX4_unlike 57 = .ok (.aload 4, 2) := by decide +kernel
theorem dX4_unlike_59 : decode cX4_unlike 59 = .ok (.getfield 59, 3) := by decide +kernel
theorem dX4_unlike_62 : decode cX4_unlike 62 = .ok (.invokevirtual 76, 3) := by decide +kernel
theorem dX4_unlike_65 : decode cX4_unlike 65 = .ok (.iconst 0, 1) := by decide +kernel
theorem dX4_unlike_66 : decode cX4_unlike 66 = .ok (.istore 5, 2) := by decide +kernel
theorem dX4_unlike_68 : decode cX4_unlike 68 = .ok (.iconst 0, 1) := by decide +kernel
theorem dX4_unlike_69 : decode cX4_unlike 69 = .ok (.istore 6, 2) := by decide +kernel
theorem dX4_unlike_71 : decode cX4_unlike 71 = .ok (.iload 6, 2) := by decide +kernel
theorem dX4_unlike_73 : decode cX4_unlike 73 = .ok (.aload_n 3, 1) := by decide +kernel
theorem dX4_unlike_74 : decode cX4_unlike 74 = .ok (.getfield 59, 3) := by decide +kernel
theorem dX4_unlike_77 : decode cX4_unlike 77 = .ok (.if_icmp .ge 66, 3) := by decide +kernel
theorem dX4_unlike_80 : decode cX4_unlike 80 = .ok (.aload_n 3, 1) := by decide +kernel
theorem dX4_unlike_81 : decode cX4_unlike 81 = .ok (.getfield 41, 3) := by decide +kernel
theorem dX4_unlike_84 : decode cX4_unlike 84 = .ok (.iload 6, 2) := by decide +kernel
theorem dX4_unlike_86 : decode cX4_unlike 86 = .ok (.invokestatic 65, 3) := by decide +kernel
theorem dX4_unlike_89 : decode cX4_unlike 89 = .ok (.istore 7, 2) := by decide +kernel
theorem dX4_unlike_91 : decode cX4_unlike 91 = .ok (.iconst 0, 1) := by decide +kernel
theorem dX4_unlike_92 : decode cX4_unlike 92 = .ok (.istore 8, 2) := by decide +kernel
theorem dX4_unlike_94 : decode cX4_unlike 94 = .ok (.iload 8, 2) := by decide +kernel
theorem dX4_unlike_96 : decode cX4_unlike 96 = .ok (.iload 7, 2) := by decide +kernel
theorem dX4_unlike_98 : decode cX4_unlike 98 = .ok (.if_icmp .ge 39, 3) := by decide +kernel
theorem dX4_unlike_101 : decode cX4_unlike 101 = .ok (.iload 6, 2) := by decide +kernel
theorem dX4_unlike_103 : decode cX4_unlike 103 = .ok (.iload 8, 2) := by decide +kernel
theorem dX4_unlike_105 : decode cX4_unlike 105 = .ok (.invokestatic 83, 3) := by decide +kernel
theorem dX4_unlike_108 : decode cX4_unlike 108 = .ok (.istore 9, 2) := by decide +kernel
theorem dX4_unlike_110 : decode cX4_unlike 110 = .ok (.aload_n 3, 1) := by decide +kernel
theorem dX4_unlike_111 : decode cX4_unlike 111 = .ok (.getfield 80, 3) := by decide +kernel
theorem dX4_unlike_114 : decode cX4_unlike 114 = .ok (.iload 9, 2) := by decide +kernel
theorem dX4_unlike_116 : decode cX4_unlike 116 = .ok (.iaload, 1) := by decide +kernel
theorem dX4_unlike_117 : decode cX4_unlike 117 = .ok (.aload 4, 2) := by decide +kernel
theorem dX4_unlike_119 : decode cX4_unlike 119 = .ok (.getfield 80, 3) := by decide +kernel
theorem dX4_unlike_122 : decode cX4_unlike 122 = .ok (.iload 9, 2) := by decide +kernel
theorem dX4_unlike_124 : decode cX4_unlike 124 = .ok (.iaload, 1) := by decide +kernel
theorem dX4_unlike_125 : decode cX4_unlike 125 = .ok (.if_icmp .eq 6, 3) := by decide +kernel
theorem dX4_unlike_128 : decode cX4_unlike 128 = .ok (.iinc 5 1, 3) := by decide +kernel
theorem dX4_unlike_131 : decode cX4_unlike 131 = .ok (.iinc 8 1, 3) := by decide +kernel
theorem dX4_unlike_134 : decode cX4_unlike 134 = .ok (.goto (-40), 3) := by decide +kernel
theorem dX4_unlike_137 : decode cX4_unlike 137 = .ok (.iinc 6 1, 3) := by decide +kernel
theorem dX4_unlike_140 : decode cX4_unlike 140 = .ok (.goto (-69), 3) := by decide +kernel
theorem dX4_unlike_143 : decode cX4_unlike 143 = .ok (.iload 5, 2) := by decide +kernel
theorem dX4_unlike_145 : decode cX4_unlike 145 = .ok (.ireturn, 1) := by decide +kernel
set_option maxRecDepth 20000 in
theorem ggX4_picture_X4_mayBeThreads : GoodIn wsX4_picture wsX4_mayBeThreads := goodIn_r _ [6] (by decide +kernel) (by decide +kernel)
set_option maxRecDepth 20000 in
theorem gX4_picture_X4_mayBeThreads : GoodIn wsX4_picture (va_wsS RX4 37 yX4_mayBeThreads wsX4_mayBeThreads) := goodIn_app (goodIn_of _ (by decide +kernel)) ggX4_picture_X4_mayBeThreads
set_option maxRecDepth 20000 in
theorem ggX4_picture_X2_begin : GoodIn wsX4_picture wsX2_begin := goodIn_r _ [11, 12, 13, 14, 15, 21, 22, 23, 24, 25, 26, 27, 28, 29, 30] (by decide +kernel) (by decide +kernel)
set_option maxRecDepth 20000 in
theorem gX4_picture_X2_begin : GoodIn wsX4_picture (wsV RX4 103 RX2 yX2_begin wsX2_begin) := goodIn_app (goodIn_of _ (by decide +kernel)) ggX4_picture_X2_begin
theorem dX4_picture_0 : decode cX4_picture 0 = .ok (.aload_n 0, 1) := by decide +kernel
theorem dX4_picture_1 : decode cX4_picture 1 = .ok (.getfield 32, 3) := by decide +kernel
theorem dX4_picture_4 : decode cX4_picture 4 = .ok (.bipush 8, 2) := by decide +kernel
theorem dX4_picture_6 : decode cX4_picture 6 = .ok (.if_icmp .ge 21, 3) := by decide +kernel
theorem dX4_picture_9 : decode cX4_picture 9 = .ok (.iload_n 1, 1) := by decide +kernel
theorem dX4_picture_10 : decode cX4_picture 10 = .ok (.invokestatic 37, 3) := by decide +kernel
theorem dX4_picture_13 : decode cX4_picture 13 = .ok (.ifCond .eq 14, 3) := by decide +kernel
theorem dX4_picture_16 : decode cX4_picture 16 = .ok (.iload_n 2, 1) := by decide +kernel
theorem dX4_picture_17 : decode cX4_picture 17 = .ok (.iconst 1, 1) := by decide +kernel
theorem dX4_picture_18 : decode cX4_picture 18 = .ok (.if_icmp .lt 9, 3) := by decide +kernel
theorem dX4_picture_21 : decode cX4_picture 21 = .ok (.iload_n 2, 1) := by decide +kernel
theorem dX4_picture_22 : decode cX4_picture 22 = .ok (.bipush 16, 2) := by decide +kernel
theorem dX4_picture_24 : decode cX4_picture 24 = .ok (.if_icmp .le 5, 3) := by decide +kernel
theorem dX4_picture_27 : decode cX4_picture 27 = .ok (.iconst (-1), 1) := by decide +kernel
theorem dX4_picture_28 : decode cX4_picture 28 = .ok (.ireturn, 1) := by decide +kernel
theorem dX4_picture_29 : decode cX4_picture 29 = .ok (.aload_n 0, 1) := by decide +kernel
theorem dX4_picture_30 : decode cX4_picture 30 = .ok (.getfield 17, 3) := by decide +kernel
theorem dX4_picture_33 : decode cX4_picture 33 = .ok (.aload_n 0, 1) := by decide +kernel
theorem dX4_picture_34 : decode cX4_picture 34 = .ok (.getfield 32, 3) := by decide +kernel
theorem dX4_picture_37 : decode cX4_picture 37 = .ok (.aaload, 1) := by decide +kernel
theorem dX4_picture_38 : decode cX4_picture 38 = .ok (.iload_n 1, 1) := by decide +kernel
theorem dX4_picture_39 : decode cX4_picture 39 = .ok (.iload_n 2, 1) := by decide +kernel
theorem dX4_picture_40 : decode cX4_picture 40 = .ok (.invokevirtual 103, 3) := by decide +kernel
theorem dX4_picture_43 : decode cX4_picture 43 = .ok (.aload_n 0, 1) := by decide +kernel
theorem dX4_picture_44 : decode cX4_picture 44 = .ok (.dup, 1) := by decide +kernel
theorem dX4_picture_45 : decode cX4_picture 45 = .ok (.getfield 32, 3) := by decide +kernel
theorem dX4_picture_48 : decode cX4_picture 48 = .ok (.dup_x1, 1) := by decide +kernel
theorem dX4_picture_49 : decode cX4_picture 49 = .ok (.iconst 1, 1) := by decide +kernel
theorem dX4_picture_50 : decode cX4_picture 50 = .ok (.iadd, 1) := by decide +kernel
theorem dX4_picture_51 : decode cX4_picture 51 = .ok (.putfield 32, 3) := by decide +kernel
theorem dX4_picture_54 : decode cX4_picture 54 = .ok (.ireturn, 1) := by decide +kernel
set_option maxRecDepth 20000 in
theorem ggX4_see_X4_pictureAt : GoodIn wsX4_see wsX4_pictureAt := goodIn_ca (goodIn_r _ [5, 6, 7, 8, 9, 4, 10, 11, 12, 34, 35, 36, 37, 38] (by decide +kernel) (by decide +kernel)) (goodIn_sub (fun _ h => List.mem_cons_of_mem _ (List.mem_append_left _ (List.mem_append_right _ h))) (by decide +kernel))
set_option maxRecDepth 20000 in
theorem gX4_see_X4_pictureAt : GoodIn wsX4_see (wsV RX4 106 RX4 yX4_pictureAt wsX4_pictureAt) := goodIn_app (goodIn_of _ (by decide +kernel)) ggX4_see_X4_pictureAt
set_option maxRecDepth 20000 in
theorem ggX4_see_X4_needElement : GoodIn wsX4_see wsX4_needElement := goodIn_ca (goodIn_r _ [10, 11, 12] (by decide +kernel) (by decide +kernel)) (goodIn_sub (fun _ h => List.mem_cons_of_mem _ (List.mem_append_left _ (List.mem_append_right _ h))) (by decide +kernel))
set_option maxRecDepth 20000 in
theorem gX4_see_X4_needElement : GoodIn wsX4_see (va_wsS RX4 48 yX4_needElement wsX4_needElement) := goodIn_app (goodIn_of _ (by decide +kernel)) ggX4_see_X4_needElement
set_option maxRecDepth 20000 in
theorem ggX4_see_X4_knotsIn : GoodIn wsX4_see wsX4_knotsIn := goodIn_r _ [15] (by decide +kernel) (by decide +kernel)
set_option maxRecDepth 20000 in
theorem gX4_see_X4_knotsIn : GoodIn wsX4_see (va_wsS RX4 65 yX4_knotsIn wsX4_knotsIn) := goodIn_app (goodIn_of _ (by decide +kernel)) ggX4_see_X4_knotsIn
set_option maxRecDepth 20000 in
theorem ggX4_see_X4_needArgument : GoodIn wsX4_see wsX4_needArgument := goodIn_ca (goodIn_r _ [18, 19, 20] (by decide +kernel) (by decide +kernel)) (goodIn_sub (fun _ h => List.mem_cons_of_mem _ (List.mem_append_right _ h)) (by decide +kernel))
set_option maxRecDepth 20000 in
theorem gX4_see_X4_needArgument : GoodIn wsX4_see (va_wsS RX4 52 yX4_needArgument wsX4_needArgument) := goodIn_app (goodIn_of _ (by decide +kernel)) ggX4_see_X4_needArgument
set_option maxRecDepth 20000 in
theorem ggX4_see_X4_spotOf : GoodIn wsX4_see wsX4_spotOf := goodIn_r _ [23] (by decide +kernel) (by decide +kernel)
set_option maxRecDepth 20000 in
theorem gX4_see_X4_spotOf : GoodIn wsX4_see (va_wsS RX4 83 yX4_spotOf wsX4_spotOf) := goodIn_app (goodIn_of _ (by decide +kernel)) ggX4_see_X4_spotOf
theorem dX4_see_0 : decode cX4_see 0 = .ok (.aload_n 0, 1) := by decide +kernel
theorem dX4_see_1 : decode cX4_see 1 = .ok (.iload_n 1, 1) := by decide +kernel
theorem dX4_see_2 : decode cX4_see 2 = .ok (.invokevirtual 106, 3) := by decide +kernel
theorem dX4_see_5 : decode cX4_see 5 = .ok (.astore 5, 2) := by decide +kernel
theorem dX4_see_7 : decode cX4_see 7 = .ok (.iload_n 2, 1) := by decide +kernel
theorem dX4_see_8 : decode cX4_see 8 = .ok (.aload 5, 2) := by decide +kernel
theorem dX4_see_10 : decode cX4_see 10 = .ok (.getfield 110, 3) := by decide +kernel
theorem dX4_see_13 : decode cX4_see 13 = .ok (.invokestatic 48, 3) := by decide +kernel
theorem dX4_see_16 : decode cX4_see 16 = .ok (.iload_n 3, 1) := by decide +kernel
theorem dX4_see_17 : decode cX4_see 17 = .ok (.aload 5, 2) := by decide +kernel
theorem dX4_see_19 : decode cX4_see 19 = .ok (.getfield 111, 3) := by decide +kernel
theorem dX4_see_22 : decode cX4_see 22 = .ok (.iload_n 2, 1) := by decide +kernel
theorem dX4_see_23 : decode cX4_see 23 = .ok (.invokestatic 65, 3) := by decide +kernel
theorem dX4_see_26 : decode cX4_see 26 = .ok (.invokestatic 48, 3) := by decide +kernel
theorem dX4_see_29 : decode cX4_see 29 = .ok (.iload 4, 2) := by decide +kernel
theorem dX4_see_31 : decode cX4_see 31 = .ok (.iconst 5, 1) := by decide +kernel
theorem dX4_see_32 : decode cX4_see 32 = .ok (.invokestatic 52, 3) := by decide +kernel
theorem dX4_see_35 : decode cX4_see 35 = .ok (.iload_n 2, 1) := by decide +kernel
theorem dX4_see_36 : decode cX4_see 36 = .ok (.iload_n 3, 1) := by decide +kernel
theorem dX4_see_37 : decode cX4_see 37 = .ok (.invokestatic 83, 3) := by decide +kernel
theorem dX4_see_40 : decode cX4_see 40 = .ok (.istore 6, 2) := by decide +kernel
theorem dX4_see_42 : decode cX4_see 42 = .ok (.aload 5, 2) := by decide +kernel
theorem dX4_see_44 : decode cX4_see 44 = .ok (.getfield 112, 3) := by decide +kernel
theorem dX4_see_47 : decode cX4_see 47 = .ok (.iload 6, 2) := by decide +kernel
theorem dX4_see_49 : decode cX4_see 49 = .ok (.iaload, 1) := by decide +kernel
theorem dX4_see_50 : decode cX4_see 50 = .ok (.istore 7, 2) := by decide +kernel
theorem dX4_see_52 : decode cX4_see 52 = .ok (.aload 5, 2) := by decide +kernel
theorem dX4_see_54 : decode cX4_see 54 = .ok (.getfield 112, 3) := by decide +kernel
theorem dX4_see_57 : decode cX4_see 57 = .ok (.iload 6, 2) := by decide +kernel
theorem dX4_see_59 : decode cX4_see 59 = .ok (.iload 4, 2) := by decide +kernel
theorem dX4_see_61 : decode cX4_see 61 = .ok (.iastore, 1) := by decide +kernel
theorem dX4_see_62 : decode cX4_see 62 = .ok (.aload 5, 2) := by decide +kernel
theorem dX4_see_64 : decode cX4_see 64 = .ok (.iconst 0, 1) := by decide +kernel
theorem dX4_see_65 : decode cX4_see 65 = .ok (.putfield 115, 3) := by decide +kernel
theorem dX4_see_68 : decode cX4_see 68 = .ok (.iload 7, 2) := by decide +kernel
theorem dX4_see_70 : decode cX4_see 70 = .ok (.ireturn, 1) := by decide +kernel
set_option maxRecDepth 20000 in
theorem ggX4_must_X4_pictureAt : GoodIn wsX4_must wsX4_pictureAt := goodIn_ca (goodIn_r _ [5, 6, 7, 8, 9, 4, 10, 11, 12, 28, 29, 30, 31, 32] (by decide +kernel) (by decide +kernel)) (goodIn_sub (fun _ h => List.mem_cons_of_mem _ (List.mem_append_left _ (List.mem_append_right _ h))) (by decide +kernel))
set_option maxRecDepth 20000 in
theorem gX4_must_X4_pictureAt : GoodIn wsX4_must (wsV RX4 106 RX4 yX4_pictureAt wsX4_pictureAt) := goodIn_app (goodIn_of _ (by decide +kernel)) ggX4_must_X4_pictureAt
set_option maxRecDepth 20000 in
theorem ggX4_must_X4_needElement : GoodIn wsX4_must wsX4_needElement := goodIn_ca (goodIn_r _ [10, 11, 12] (by decide +kernel) (by decide +kernel)) (goodIn_sub (fun _ h => List.mem_cons_of_mem _ (List.mem_append_left _ (List.mem_append_right _ h))) (by decide +kernel))
set_option maxRecDepth 20000 in
theorem gX4_must_X4_needElement : GoodIn wsX4_must (va_wsS RX4 48 yX4_needElement wsX4_needElement) := goodIn_app (goodIn_of _ (by decide +kernel)) ggX4_must_X4_needElement
set_option maxRecDepth 20000 in
theorem ggX4_must_X4_needArgument : GoodIn wsX4_must wsX4_needArgument := goodIn_ca (goodIn_r _ [15, 16, 17] (by decide +kernel) (by decide +kernel)) (goodIn_sub (fun _ h => List.mem_cons_of_mem _ (List.mem_append_right _ h)) (by decide +kernel))
set_option maxRecDepth 20000 in
theorem gX4_must_X4_needArgument : GoodIn wsX4_must (va_wsS RX4 52 yX4_needArgument wsX4_needArgument) := goodIn_app (goodIn_of _ (by decide +kernel)) ggX4_must_X4_needArgument
theorem dX4_must_0 : decode cX4_must 0 = .ok (.aload_n 0, 1) := by decide +kernel
theorem dX4_must_1 : decode cX4_must 1 = .ok (.iload_n 1, 1) := by decide +kernel
theorem dX4_must_2 : decode cX4_must 2 = .ok (.invokevirtual 106, 3) := by decide +kernel
theorem dX4_must_5 : decode cX4_must 5 = .ok (.astore 4, 2) := by decide +kernel
theorem dX4_must_7 : decode cX4_must 7 = .ok (.iload_n 2, 1) := by decide +kernel
theorem dX4_must_8 : decode cX4_must 8 = .ok (.aload 4, 2) := by decide +kernel
theorem dX4_must_10 : decode cX4_must 10 = .ok (.getfield 111, 3) := by decide +kernel
theorem dX4_must_13 : decode cX4_must 13 = .ok (.invokestatic 48, 3) := by decide +kernel
theorem dX4_must_16 : decode cX4_must 16 = .ok (.iload_n 3, 1) := by decide +kernel
theorem dX4_must_17 : decode cX4_must 17 = .ok (.iconst 5, 1) := by decide +kernel
theorem dX4_must_18 : decode cX4_must 18 = .ok (.invokestatic 52, 3) := by decide +kernel
theorem dX4_must_21 : decode cX4_must 21 = .ok (.aload 4, 2) := by decide +kernel
theorem dX4_must_23 : decode cX4_must 23 = .ok (.getfield 119, 3) := by decide +kernel
theorem dX4_must_26 : decode cX4_must 26 = .ok (.iload_n 2, 1) := by decide +kernel
theorem dX4_must_27 : decode cX4_must 27 = .ok (.iaload, 1) := by decide +kernel
theorem dX4_must_28 : decode cX4_must 28 = .ok (.istore 5, 2) := by decide +kernel
theorem dX4_must_30 : decode cX4_must 30 = .ok (.aload 4, 2) := by decide +kernel
theorem dX4_must_32 : decode cX4_must 32 = .ok (.getfield 119, 3) := by decide +kernel
theorem dX4_must_35 : decode cX4_must 35 = .ok (.iload_n 2, 1) := by decide +kernel
theorem dX4_must_36 : decode cX4_must 36 = .ok (.iload_n 3, 1) := by decide +kernel
theorem dX4_must_37 : decode cX4_must 37 = .ok (.iastore, 1) := by decide +kernel
theorem dX4_must_38 : decode cX4_must 38 = .ok (.aload 4, 2) := by decide +kernel
theorem dX4_must_40 : decode cX4_must 40 = .ok (.iconst 0, 1) := by decide +kernel
theorem dX4_must_41 : decode cX4_must 41 = .ok (.putfield 115, 3) := by decide +kernel
theorem dX4_must_44 : decode cX4_must 44 = .ok (.iload 5, 2) := by decide +kernel
theorem dX4_must_46 : decode cX4_must 46 = .ok (.ireturn, 1) := by decide +kernel
set_option maxRecDepth 20000 in
theorem ggX4_copy_X4_pictureAt : GoodIn wsX4_copy wsX4_pictureAt := goodIn_ca (goodIn_r _ [5, 6, 7, 8, 9, 4, 10, 11, 12, 62, 63, 64, 65, 66] (by decide +kernel) (by decide +kernel)) (goodIn_sub (fun _ h => List.mem_cons_of_mem _ (List.mem_append_right _ h)) (by decide +kernel))
set_option maxRecDepth 20000 in
theorem gX4_copy_X4_pictureAt : GoodIn wsX4_copy (wsV RX4 106 RX4 yX4_pictureAt wsX4_pictureAt) := goodIn_app (goodIn_of _ (by decide +kernel)) ggX4_copy_X4_pictureAt
set_option maxRecDepth 20000 in
theorem ggX4_copy_X4_bandAt : GoodIn wsX4_copy wsX4_bandAt := goodIn_ca (goodIn_r _ [16, 17, 18, 8, 9, 4, 10, 11, 12, 62, 63, 64, 65, 66] (by decide +kernel) (by decide +kernel)) (goodIn_sub (fun _ h => List.mem_cons_of_mem _ (List.mem_append_right _ h)) (by decide +kernel))
set_option maxRecDepth 20000 in
theorem gX4_copy_X4_bandAt : GoodIn wsX4_copy (wsV RX4 44 RX4 yX4_bandAt wsX4_bandAt) := goodIn_app (goodIn_of _ (by decide +kernel)) ggX4_copy_X4_bandAt
set_option maxRecDepth 20000 in
theorem ggX4_copy_X0_walk : GoodIn wsX4_copy wsX0_walk := goodIn_r _ [23, 24, 25, 26, 27, 4, 28, 29, 30, 31, 22, 32, 33, 34, 35, 36, 37, 38, 39, 40, 41, 42, 43, 54, 55, 56, 57, 58, 59, 60, 61] (by decide +kernel) (by decide +kernel)
set_option maxRecDepth 20000 in
theorem gX4_copy_X0_walk : GoodIn wsX4_copy (wsV RX4 76 RX0 yX0_walk wsX0_walk) := goodIn_app (goodIn_of _ (by decide +kernel)) ggX4_copy_X0_walk
theorem dX4_copy_0 : decode cX4_copy 0 = .ok (.aload_n 0, 1) := by decide +kernel
theorem dX4_copy_1 : decode cX4_copy 1 = .ok (.iload_n 1, 1) := by decide +kernel
theorem dX4_copy_2 : decode cX4_copy 2 = .ok (.invokevirtual 106, 3) := by decide +kernel
theorem dX4_copy_5 : decode cX4_copy 5 = .ok (.astore_n 3, 1) := by decide +kernel
theorem dX4_copy_6 : decode cX4_copy 6 = .ok (.aload_n 0, 1) := by decide +kernel
theorem dX4_copy_7 : decode cX4_copy 7 = .ok (.iload_n 2, 1) := by decide +kernel
theorem dX4_copy_8 : decode cX4_copy 8 = .ok (.invokevirtual 44, 3) := by decide +kernel
theorem dX4_copy_11 : decode cX4_copy 11 = .ok (.astore 4, 2) := by decide +kernel
theorem dX4_copy_13 : decode cX4_copy 13 = .ok (.aload_n 3, 1) := by decide +kernel
theorem dX4_copy_14 : decode cX4_copy 14 = .ok (.getfield 111, 3) := by decide +kernel
theorem dX4_copy_17 : decode cX4_copy 17 = .ok (.aload 4, 2) := by decide +kernel
theorem dX4_copy_19 : decode cX4_copy 19 = .ok (.getfield 41, 3) := by decide +kernel
theorem dX4_copy_22 : decode cX4_copy 22 = .ok (.if_icmp .ne 15, 3) := by decide +kernel
theorem dX4_copy_25 : decode cX4_copy 25 = .ok (.aload_n 3, 1) := by decide +kernel
theorem dX4_copy_26 : decode cX4_copy 26 = .ok (.getfield 110, 3) := by decide +kernel
theorem dX4_copy_29 : decode cX4_copy 29 = .ok (.aload 4, 2) := by decide +kernel
theorem dX4_copy_31 : decode cX4_copy 31 = .ok (.getfield 59, 3) := by decide +kernel
theorem dX4_copy_34 : decode cX4_copy 34 = .ok (.if_icmp .eq 5, 3) := by decide +kernel
theorem dX4_copy_37 : decode cX4_copy 37 = .ok (.iconst 0, 1) := by decide +kernel
theorem dX4_copy_38 : decode cX4_copy 38 = .ok (.ireturn, 1) := by decide +kernel
theorem dX4_copy_39 : decode cX4_copy 39 = .ok (.aload 4, 2) := by decide +kernel
theorem dX4_copy_41 : decode cX4_copy 41 = .ok (.aload 4, 2) := by decide +kernel
theorem dX4_copy_43 : decode cX4_copy 43 = .ok (.getfield 59, 3) := by decide +kernel
theorem dX4_copy_46 : decode cX4_copy 46 = .ok (.invokevirtual 76, 3) := by decide +kernel
theorem dX4_copy_49 : decode cX4_copy 49 = .ok (.iconst 0, 1) := by decide +kernel
theorem dX4_copy_50 : decode cX4_copy 50 = .ok (.istore 5, 2) := by decide +kernel
theorem dX4_copy_52 : decode cX4_copy 52 = .ok (.iload 5, 2) := by decide +kernel
theorem dX4_copy_54 : decode cX4_copy 54 = .ok (.bipush 48, 2) := by decide +kernel
theorem dX4_copy_56 : decode cX4_copy 56 = .ok (.if_icmp .ge 24, 3) := by decide +kernel
theorem dX4_copy_59 : decode cX4_copy 59 = .ok (.aload_n 3, 1) := by decide +kernel
theorem dX4_copy_60 : decode cX4_copy 60 = .ok (.getfield 112, 3) := by decide +kernel
theorem dX4_copy_63 : decode cX4_copy 63 = .ok (.iload 5, 2) := by decide +kernel
theorem dX4_copy_65 : decode cX4_copy 65 = .ok (.aload 4, 2) := by decide +kernel
theorem dX4_copy_67 : decode cX4_copy 67 = .ok (.getfield 80, 3) := by decide +kernel
theorem dX4_copy_70 : decode cX4_copy 70 = .ok (.iload 5, 2) := by decide +kernel
theorem dX4_copy_72 : decode cX4_copy 72 = .ok (.iaload, 1) := by decide +kernel
theorem dX4_copy_73 : decode cX4_copy 73 = .ok (.iastore, 1) := by decide +kernel
theorem dX4_copy_74 : decode cX4_copy 74 = .ok (.iinc 5 1, 3) := by decide +kernel
theorem dX4_copy_77 : decode cX4_copy 77 = .ok (.goto (-25), 3) := by decide +kernel
theorem dX4_copy_80 : decode cX4_copy 80 = .ok (.aload_n 3, 1) := by decide +kernel
theorem dX4_copy_81 : decode cX4_copy 81 = .ok (.iconst 0, 1) := by decide +kernel
theorem dX4_copy_82 : decode cX4_copy 82 = .ok (.putfield 115, 3) := by decide +kernel
theorem dX4_copy_85 : decode cX4_copy 85 = .ok (.iconst 1, 1) := by decide +kernel
theorem dX4_copy_86 : decode cX4_copy 86 = .ok (.ireturn, 1) := by decide +kernel
set_option maxRecDepth 20000 in
theorem ggX4_starts_X4_workedOutAt : GoodIn wsX4_starts wsX4_workedOutAt := goodIn_ca (goodIn_r _ [5, 6, 7, 8, 9, 4, 10, 11, 12, 13, 14, 15, 16, 17, 18, 19, 20, 21, 22, 23, 24, 25, 26, 27, 28, 29, 30, 31, 32, 33, 34, 35, 36, 37, 38, 39, 40, 41, 42, 43, 44, 45, 46, 47, 48, 49, 50, 51, 52, 53, 54, 55, 56, 57, 58, 59, 60, 61, 62, 63, 64, 65, 66, 67, 68, 69, 70, 71, 72, 73, 74, 75, 76, 77, 78, 79, 80, 81, 82, 83, 84, 85, 86, 87, 88, 89, 90, 91, 92, 93, 94, 95, 96, 97, 98, 99, 100, 101, 102, 103, 104, 105, 106, 107, 108, 109, 110, 111, 112, 113, 114, 115, 116, 117, 118, 119, 120, 121, 122, 123, 124, 125, 126, 127, 128, 129, 130, 131, 132, 133, 134, 135, 136, 137, 138, 139, 140, 141, 142, 143, 144, 145, 146, 147, 148, 149] (by decide +kernel) (by decide +kernel)) (goodIn_sub (fun _ h => List.mem_cons_of_mem _ (List.mem_append_right _ h)) (by decide +kernel))
set_option maxRecDepth 20000 in
theorem gX4_starts_X4_workedOutAt : GoodIn wsX4_starts (wsV RX4 122 RX4 yX4_workedOutAt wsX4_workedOutAt) := goodIn_app (goodIn_of _ (by decide +kernel)) ggX4_starts_X4_workedOutAt
theorem dX4_starts_0 : decode cX4_starts 0 = .ok (.aload_n 0, 1) := by decide +kernel
theorem dX4_starts_1 : decode cX4_starts 1 = .ok (.iload_n 1, 1) := by decide +kernel
theorem dX4_starts_2 : decode cX4_starts 2 = .ok (.invokevirtual 122, 3) := by decide +kernel
theorem dX4_starts_5 : decode cX4_starts 5 = .ok (.getfield 125, 3) := by decide +kernel
theorem dX4_starts_8 : decode cX4_starts 8 = .ok (.ireturn, 1) := by decide +kernel
set_option maxRecDepth 20000 in
theorem ggX4_start_X4_pictureAt : GoodIn wsX4_start wsX4_pictureAt := goodIn_ca (goodIn_r _ [5, 6, 7, 8, 9, 4, 10, 11, 12, 139, 140, 141, 142, 143] (by decide +kernel) (by decide +kernel)) (goodIn_sub (fun _ h => List.mem_cons_of_mem _ (List.mem_append_right _ h)) (by decide +kernel))
set_option maxRecDepth 20000 in
theorem gX4_start_X4_pictureAt : GoodIn wsX4_start (wsV RX4 106 RX4 yX4_pictureAt wsX4_pictureAt) := goodIn_app (goodIn_of _ (by decide +kernel)) ggX4_start_X4_pictureAt
set_option maxRecDepth 20000 in
theorem ggX4_start_X4_needElement : GoodIn wsX4_start wsX4_needElement := goodIn_ca (goodIn_r _ [10, 11, 12] (by decide +kernel) (by decide +kernel)) (goodIn_sub (fun _ h => List.mem_cons_of_mem _ (List.mem_append_right _ h)) (by decide +kernel))
set_option maxRecDepth 20000 in
theorem gX4_start_X4_needElement : GoodIn wsX4_start (va_wsS RX4 48 yX4_needElement wsX4_needElement) := goodIn_app (goodIn_of _ (by decide +kernel)) ggX4_start_X4_needElement
set_option maxRecDepth 20000 in
theorem ggX4_start_X4_workedOutAt : GoodIn wsX4_start wsX4_workedOutAt := goodIn_ca (goodIn_r _ [16, 17, 1, 2, 3, 4, 5, 6, 7, 8, 9, 10, 11, 12, 18, 19, 20, 21, 22, 23, 24, 25, 26, 27, 28, 29, 30, 31, 32, 33, 34, 35, 36, 37, 38, 39, 40, 41, 42, 43, 44, 45, 46, 47, 48, 49, 50, 51, 52, 53, 54, 55, 56, 57, 58, 59, 60, 61, 62, 63, 64, 65, 66, 67, 68, 69, 70, 71, 72, 73, 74, 75, 76, 77, 78, 79, 80, 81, 82, 83, 84, 85, 86, 87, 88, 89, 90, 91, 92, 93, 94, 95, 96, 97, 98, 99, 100, 101, 102, 103, 104, 105, 106, 107, 108, 109, 110, 111, 112, 113, 114, 115, 116, 117, 118, 119, 120, 121, 122, 123, 124, 125, 126, 127, 129, 130, 131, 132, 133, 134, 135, 136, 137, 138, 139, 140, 141, 142, 143, 144, 145, 146, 147, 148, 149, 150] (by decide +kernel) (by decide +kernel)) (goodIn_sub (fun _ h => List.mem_cons_of_mem _ (List.mem_append_right _ h)) (by decide +kernel))
set_option maxRecDepth 20000 in
theorem gX4_start_X4_workedOutAt : GoodIn wsX4_start (wsV RX4 122 RX4 yX4_workedOutAt wsX4_workedOutAt) := goodIn_app (goodIn_of _ (by decide +kernel)) ggX4_start_X4_workedOutAt
set_option maxRecDepth 20000 in
theorem ggX4_start_X4_colourIn : GoodIn wsX4_start wsX4_colourIn := goodIn_r _ [110, 111, 112, 4, 113] (by decide +kernel) (by decide +kernel)
set_option maxRecDepth 20000 in
theorem gX4_start_X4_colourIn : GoodIn wsX4_start (va_wsS RX4 131 yX4_colourIn wsX4_colourIn) := goodIn_app (goodIn_of _ (by decide +kernel)) ggX4_start_X4_colourIn
theorem dX4_start_0 : decode cX4_start 0 = .ok (.iload_n 2, 1) := by decide +kernel
theorem dX4_start_1 : decode cX4_start 1 = .ok (.aload_n 0, 1) := by decide +kernel
theorem dX4_start_2 : decode cX4_start 2 = .ok (.iload_n 1, 1) := by decide +kernel
theorem dX4_start_3 : decode cX4_start 3 = .ok (.invokevirtual 106, 3) := by decide +kernel
theorem dX4_start_6 : decode cX4_start 6 = .ok (.getfield 111, 3) := by decide +kernel
theorem dX4_start_9 : decode cX4_start 9 = .ok (.invokestatic 48, 3) := by decide +kernel
theorem dX4_start_12 : decode cX4_start 12 = .ok (.aload_n 0, 1) := by decide +kernel
theorem dX4_start_13 : decode cX4_start 13 = .ok (.iload_n 1, 1) := by decide +kernel
theorem dX4_start_14 : decode cX4_start 14 = .ok (.invokevirtual 122, 3) := by decide +kernel
theorem dX4_start_17 : decode cX4_start 17 = .ok (.astore_n 3, 1) := by decide +kernel
theorem dX4_start_18 : decode cX4_start 18 = .ok (.aload_n 3, 1) := by decide +kernel
theorem dX4_start_19 : decode cX4_start 19 = .ok (.getfield 125, 3) := by decide +kernel
theorem dX4_start_22 : decode cX4_start 22 = .ok (.ifCond .ne 7, 3) := by decide +kernel
theorem dX4_start_25 : decode cX4_start 25 = .ok (.iconst (-1), 1) := by decide +kernel
theorem dX4_start_26 : decode cX4_start 26 = .ok (.goto 11, 3) := by decide +kernel
theorem dX4_start_29 : decode cX4_start 29 = .ok (.aload_n 3, 1) := by decide +kernel
theorem dX4_start_30 : decode cX4_start 30 = .ok (.getfield 128, 3) := by decide +kernel
theorem dX4_start_33 : decode cX4_start 33 = .ok (.iload_n 2, 1) := by decide +kernel
theorem dX4_start_34 : decode cX4_start 34 = .ok (.invokestatic 131, 3) := by decide +kernel
theorem dX4_start_37 : decode cX4_start 37 = .ok (.ireturn, 1) := by decide +kernel
set_option maxRecDepth 20000 in
theorem ggX4_tie_X4_workedOutAt : GoodIn wsX4_tie wsX4_workedOutAt := goodIn_ca (goodIn_r _ [7, 8, 9, 10, 11, 6, 12, 13, 14, 15, 16, 17, 18, 19, 20, 21, 22, 23, 24, 25, 26, 27, 28, 29, 30, 31, 32, 33, 34, 35, 36, 37, 38, 39, 40, 41, 42, 43, 44, 45, 46, 47, 48, 49, 50, 51, 52, 53, 54, 55, 56, 57, 58, 59, 60, 61, 62, 63, 64, 65, 66, 67, 68, 69, 70, 71, 72, 73, 74, 75, 76, 77, 78, 79, 80, 81, 82, 83, 84, 85, 86, 87, 88, 89, 90, 91, 92, 93, 94, 95, 96, 97, 98, 99, 100, 101, 102, 103, 104, 105, 106, 107, 108, 109, 110, 111, 112, 113, 114, 115, 116, 117, 118, 119, 120, 121, 122, 123, 124, 125, 126, 127, 128, 129, 139, 140, 141, 142, 143, 144, 145, 146, 147, 148, 149, 150, 151, 152, 153, 154, 155, 156, 157, 158, 159, 160] (by decide +kernel) (by decide +kernel)) (goodIn_sub (fun _ h => List.mem_cons_of_mem _ (List.mem_append_right _ h)) (by decide +kernel))
set_option maxRecDepth 20000 in
theorem gX4_tie_X4_workedOutAt : GoodIn wsX4_tie (wsV RX4 122 RX4 yX4_workedOutAt wsX4_workedOutAt) := goodIn_app (goodIn_of _ (by decide +kernel)) ggX4_tie_X4_workedOutAt
set_option maxRecDepth 20000 in
theorem ggX4_tie_X0_become : GoodIn wsX4_tie wsX0_become := goodIn_r _ [134, 135, 136, 137, 138, 111, 6, 112, 113, 114, 115, 139, 140, 141, 142, 143, 144, 145, 146, 147, 148, 161, 162, 163, 164, 165, 166, 167, 168] (by decide +kernel) (by decide +kernel)
set_option maxRecDepth 20000 in
theorem gX4_tie_X0_become : GoodIn wsX4_tie (wsV RX4 134 RX0 yX0_become wsX0_become) := goodIn_app (goodIn_of _ (by decide +kernel)) ggX4_tie_X0_become
theorem dX4_tie_0 : decode cX4_tie 0 = .ok (.aload_n 0, 1) := by decide +kernel
theorem dX4_tie_1 : decode cX4_tie 1 = .ok (.iload_n 1, 1) := by decide +kernel
theorem dX4_tie_2 : decode cX4_tie 2 = .ok (.invokevirtual 122, 3) := by decide +kernel
theorem dX4_tie_5 : decode cX4_tie 5 = .ok (.astore_n 2, 1) := by decide +kernel
theorem dX4_tie_6 : decode cX4_tie 6 = .ok (.aload_n 2, 1) := by decide +kernel
theorem dX4_tie_7 : decode cX4_tie 7 = .ok (.getfield 125, 3) := by decide +kernel
theorem dX4_tie_10 : decode cX4_tie 10 = .ok (.ifCond .eq 12, 3) := by decide +kernel
theorem dX4_tie_13 : decode cX4_tie 13 = .ok (.aload_n 0, 1) := by decide +kernel
theorem dX4_tie_14 : decode cX4_tie 14 = .ok (.getfield 28, 3) := by decide +kernel
theorem dX4_tie_17 : decode cX4_tie 17 = .ok (.bipush 8, 2) := by decide +kernel
theorem dX4_tie_19 : decode cX4_tie 19 = .ok (.if_icmp .lt 5, 3) := by decide +kernel
theorem dX4_tie_22 : decode cX4_tie 22 = .ok (.iconst (-1), 1) := by decide +kernel
theorem dX4_tie_23 : decode cX4_tie 23 = .ok (.ireturn, 1) := by decide +kernel
theorem dX4_tie_24 : decode cX4_tie 24 = .ok (.aload_n 0, 1) := by decide +kernel
theorem dX4_tie_25 : decode cX4_tie 25 = .ok (.getfield 11, 3) := by decide +kernel
theorem dX4_tie_28 : decode cX4_tie 28 = .ok (.aload_n 0, 1) := by decide +kernel
theorem dX4_tie_29 : decode cX4_tie 29 = .ok (.getfield 28, 3) := by decide +kernel
theorem dX4_tie_32 : decode cX4_tie 32 = .ok (.aaload, 1) := by decide +kernel
theorem dX4_tie_33 : decode cX4_tie 33 = .ok (.aload_n 2, 1) := by decide +kernel
theorem dX4_tie_34 : decode cX4_tie 34 = .ok (.invokevirtual 134, 3) := by decide +kernel
theorem dX4_tie_37 : decode cX4_tie 37 = .ok (.aload_n 0, 1) := by decide +kernel
theorem dX4_tie_38 : decode cX4_tie 38 = .ok (.dup, 1) := by decide +kernel
theorem dX4_tie_39 : decode cX4_tie 39 = .ok (.getfield 28, 3) := by decide +kernel
theorem dX4_tie_42 : decode cX4_tie 42 = .ok (.dup_x1, 1) := by decide +kernel
theorem dX4_tie_43 : decode cX4_tie 43 = .ok (.iconst 1, 1) := by decide +kernel
theorem dX4_tie_44 : decode cX4_tie 44 = .ok (.iadd, 1) := by decide +kernel
theorem dX4_tie_45 : decode cX4_tie 45 = .ok (.putfield 28, 3) := by decide +kernel
theorem dX4_tie_48 : decode cX4_tie 48 = .ok (.ireturn, 1) := by decide +kernel
set_option maxRecDepth 20000 in
theorem ggX4_suspect_X4_workedOutAt : GoodIn wsX4_suspect wsX4_workedOutAt := goodIn_ca (goodIn_r _ [5, 6, 7, 8, 9, 4, 10, 11, 12, 13, 14, 15, 16, 17, 18, 19, 20, 21, 22, 23, 24, 25, 26, 27, 28, 29, 30, 31, 32, 33, 34, 35, 36, 37, 38, 39, 40, 41, 42, 43, 44, 45, 46, 47, 48, 49, 50, 51, 52, 53, 54, 55, 56, 57, 58, 59, 60, 61, 62, 63, 64, 65, 66, 67, 68, 69, 70, 71, 72, 73, 74, 75, 76, 77, 78, 79, 80, 81, 82, 83, 84, 85, 86, 87, 88, 89, 90, 91, 92, 93, 94, 95, 96, 97, 98, 99, 100, 101, 102, 103, 104, 105, 106, 107, 108, 109, 110, 111, 112, 113, 114, 115, 116, 117, 118, 119, 120, 121, 122, 123, 124, 125, 126, 127, 128, 129, 130, 131, 132, 133, 134, 135, 136, 137, 138, 139, 140, 141, 142, 143, 144, 145, 146, 147, 148, 149] (by decide +kernel) (by decide +kernel)) (goodIn_sub (fun _ h => List.mem_cons_of_mem _ (List.mem_append_right _ h)) (by decide +kernel))
set_option maxRecDepth 20000 in
theorem gX4_suspect_X4_workedOutAt : GoodIn wsX4_suspect (wsV RX4 122 RX4 yX4_workedOutAt wsX4_workedOutAt) := goodIn_app (goodIn_of _ (by decide +kernel)) ggX4_suspect_X4_workedOutAt
set_option maxRecDepth 20000 in
theorem ggX4_suspect_X4_needElement : GoodIn wsX4_suspect wsX4_needElement := goodIn_ca (goodIn_r _ [15, 16, 17] (by decide +kernel) (by decide +kernel)) (goodIn_sub (fun _ h => List.mem_cons_of_mem _ (List.mem_append_right _ h)) (by decide +kernel))
set_option maxRecDepth 20000 in
theorem gX4_suspect_X4_needElement : GoodIn wsX4_suspect (va_wsS RX4 48 yX4_needElement wsX4_needElement) := goodIn_app (goodIn_of _ (by decide +kernel)) ggX4_suspect_X4_needElement
theorem dX4_suspect_0 : decode cX4_suspect 0 = .ok (.aload_n 0, 1) := by decide +kernel
theorem dX4_suspect_1 : decode cX4_suspect 1 = .ok (.iload_n 1, 1) := by decide +kernel
theorem dX4_suspect_2 : decode cX4_suspect 2 = .ok (.invokevirtual 122, 3) := by decide +kernel
theorem dX4_suspect_5 : decode cX4_suspect 5 = .ok (.astore_n 3, 1) := by decide +kernel
theorem dX4_suspect_6 : decode cX4_suspect 6 = .ok (.iload_n 2, 1) := by decide +kernel
theorem dX4_suspect_7 : decode cX4_suspect 7 = .ok (.iconst (-1), 1) := by decide +kernel
theorem dX4_suspect_8 : decode cX4_suspect 8 = .ok (.if_icmp .ne 8, 3) := by decide +kernel
theorem dX4_suspect_11 : decode cX4_suspect 11 = .ok (.aload_n 3, 1) := by decide +kernel
theorem dX4_suspect_12 : decode cX4_suspect 12 = .ok (.getfield 138, 3) := by decide +kernel
theorem dX4_suspect_15 : decode cX4_suspect 15 = .ok (.ireturn, 1) := by decide +kernel
theorem dX4_suspect_16 : decode cX4_suspect 16 = .ok (.iload_n 2, 1) := by decide +kernel
theorem dX4_suspect_17 : decode cX4_suspect 17 = .ok (.aload_n 3, 1) := by decide +kernel
theorem dX4_suspect_18 : decode cX4_suspect 18 = .ok (.getfield 138, 3) := by decide +kernel
theorem dX4_suspect_21 : decode cX4_suspect 21 = .ok (.invokestatic 48, 3) := by decide +kernel
theorem dX4_suspect_24 : decode cX4_suspect 24 = .ok (.aload_n 3, 1) := by decide +kernel
theorem dX4_suspect_25 : decode cX4_suspect 25 = .ok (.getfield 141, 3) := by decide +kernel
theorem dX4_suspect_28 : decode cX4_suspect 28 = .ok (.iload_n 2, 1) := by decide +kernel
theorem dX4_suspect_29 : decode cX4_suspect 29 = .ok (.iaload, 1) := by decide +kernel
theorem dX4_suspect_30 : decode cX4_suspect 30 = .ok (.ireturn, 1) := by decide +kernel
set_option maxRecDepth 20000 in
theorem ggX4_count_X4_needElement : GoodIn wsX4_count wsX4_needElement := goodIn_ca (goodIn_r _ [6, 7, 8] (by decide +kernel) (by decide +kernel)) (goodIn_sub (fun _ h => List.mem_cons_of_mem _ (List.mem_append_right _ h)) (by decide +kernel))
set_option maxRecDepth 20000 in
theorem gX4_count_X4_needElement : GoodIn wsX4_count (va_wsS RX4 48 yX4_needElement wsX4_needElement) := goodIn_app (goodIn_of _ (by decide +kernel)) ggX4_count_X4_needElement
theorem dX4_count_0 : decode cX4_count 0 = .ok (.iload_n 1, 1) := by decide +kernel
theorem dX4_count_1 : decode cX4_count 1 = .ok (.iconst 2, 1) := by decide +kernel
theorem dX4_count_2 : decode cX4_count 2 = .ok (.invokestatic 48, 3) := by decide +kernel
theorem dX4_count_5 : decode cX4_count 5 = .ok (.iload_n 1, 1) := by decide +kernel
theorem dX4_count_6 : decode cX4_count 6 = .ok (.ifCond .ne 10, 3) := by decide +kernel
theorem dX4_count_9 : decode cX4_count 9 = .ok (.aload_n 0, 1) := by decide +kernel
theorem dX4_count_10 : decode cX4_count 10 = .ok (.getfield 28, 3) := by decide +kernel
theorem dX4_count_13 : decode cX4_count 13 = .ok (.goto 7, 3) := by decide +kernel
theorem dX4_count_16 : decode cX4_count 16 = .ok (.aload_n 0, 1) := by decide +kernel
theorem dX4_count_17 : decode cX4_count 17 = .ok (.getfield 32, 3) := by decide +kernel
theorem dX4_count_20 : decode cX4_count 20 = .ok (.ireturn, 1) := by decide +kernel
set_option maxRecDepth 20000 in
theorem ggX4_bandAt_X4_needElement : GoodIn wsX4_bandAt wsX4_needElement := goodIn_ca (goodIn_r _ [6, 7, 8] (by decide +kernel) (by decide +kernel)) (goodIn_sub (fun _ h => List.mem_cons_of_mem _ (List.mem_append_right _ h)) (by decide +kernel))
set_option maxRecDepth 20000 in
theorem gX4_bandAt_X4_needElement : GoodIn wsX4_bandAt (va_wsS RX4 48 yX4_needElement wsX4_needElement) := goodIn_app (goodIn_of _ (by decide +kernel)) ggX4_bandAt_X4_needElement
theorem dX4_bandAt_0 : decode cX4_bandAt 0 = .ok (.iload_n 1, 1) := by decide +kernel
theorem dX4_bandAt_1 : decode cX4_bandAt 1 = .ok (.aload_n 0, 1) := by decide +kernel
theorem dX4_bandAt_2 : decode cX4_bandAt 2 = .ok (.getfield 28, 3) := by decide +kernel
theorem dX4_bandAt_5 : decode cX4_bandAt 5 = .ok (.invokestatic 48, 3) := by decide +kernel
theorem dX4_bandAt_8 : decode cX4_bandAt 8 = .ok (.aload_n 0, 1) := by decide +kernel
theorem dX4_bandAt_9 : decode cX4_bandAt 9 = .ok (.getfield 11, 3) := by decide +kernel
theorem dX4_bandAt_12 : decode cX4_bandAt 12 = .ok (.iload_n 1, 1) := by decide +kernel
theorem dX4_bandAt_13 : decode cX4_bandAt 13 = .ok (.aaload, 1) := by decide +kernel
theorem dX4_bandAt_14 : decode cX4_bandAt 14 = .ok (.areturn, 1) := by decide +kernel
set_option maxRecDepth 20000 in
theorem ggX4_pictureAt_X4_needElement : GoodIn wsX4_pictureAt wsX4_needElement := goodIn_ca (goodIn_r _ [6, 7, 8] (by decide +kernel) (by decide +kernel)) (goodIn_sub (fun _ h => List.mem_cons_of_mem _ (List.mem_append_right _ h)) (by decide +kernel))
set_option maxRecDepth 20000 in
theorem gX4_pictureAt_X4_needElement : GoodIn wsX4_pictureAt (va_wsS RX4 48 yX4_needElement wsX4_needElement) := goodIn_app (goodIn_of _ (by decide +kernel)) ggX4_pictureAt_X4_needElement
theorem dX4_pictureAt_0 : decode cX4_pictureAt 0 = .ok (.iload_n 1, 1) := by decide +kernel
theorem dX4_pictureAt_1 : decode cX4_pictureAt 1 = .ok (.aload_n 0, 1) := by decide +kernel
theorem dX4_pictureAt_2 : decode cX4_pictureAt 2 = .ok (.getfield 32, 3) := by decide +kernel
theorem dX4_pictureAt_5 : decode cX4_pictureAt 5 = .ok (.invokestatic 48, 3) := by decide +kernel
theorem dX4_pictureAt_8 : decode cX4_pictureAt 8 = .ok (.aload_n 0, 1) := by decide +kernel
theorem dX4_pictureAt_9 : decode cX4_pictureAt 9 = .ok (.getfield 17, 3) := by decide +kernel
theorem dX4_pictureAt_12 : decode cX4_pictureAt 12 = .ok (.iload_n 1, 1) := by decide +kernel
theorem dX4_pictureAt_13 : decode cX4_pictureAt 13 = .ok (.aaload, 1) := by decide +kernel
theorem dX4_pictureAt_14 : decode cX4_pictureAt 14 = .ok (.areturn, 1) := by decide +kernel
set_option maxRecDepth 20000 in
theorem ggX4_workedOutAt_X4_pictureAt : GoodIn wsX4_workedOutAt wsX4_pictureAt := goodIn_ca (goodIn_r _ [6, 7, 8, 9, 10, 5, 11, 12, 13, 134, 135, 136, 137, 138] (by decide +kernel) (by decide +kernel)) (goodIn_sub (fun _ h => List.mem_cons_of_mem _ (List.mem_append_right _ h)) (by decide +kernel))
set_option maxRecDepth 20000 in
theorem gX4_workedOutAt_X4_pictureAt : GoodIn wsX4_workedOutAt (wsV RX4 106 RX4 yX4_pictureAt wsX4_pictureAt) := goodIn_app (goodIn_of _ (by decide +kernel)) ggX4_workedOutAt_X4_pictureAt
set_option maxRecDepth 20000 in
theorem ggX4_workedOutAt_X1_workOut : GoodIn wsX4_workedOutAt wsX1_workOut := goodIn_r _ [18, 19, 20, 21, 22, 23, 17, 24, 25, 26, 27, 28, 29, 5, 30, 31, 32, 33, 34, 35, 36, 37, 38, 39, 40, 41, 42, 43, 44, 45, 46, 47, 48, 49, 50, 51, 52, 53, 54, 55, 56, 57, 58, 59, 60, 61, 62, 63, 64, 65, 66, 67, 68, 69, 70, 71, 72, 73, 74, 75, 76, 77, 78, 79, 80, 81, 82, 83, 84, 85, 86, 87, 88, 89, 90, 91, 92, 93, 94, 95, 96, 97, 98, 99, 100, 101, 102, 103, 104, 105, 106, 107, 108, 109, 110, 111, 112, 113, 114, 115, 116, 117, 118, 119, 120, 121, 122, 123, 139, 140, 141, 142, 143, 144, 124, 125, 126, 127, 128, 129, 130, 131, 132, 133, 145] (by decide +kernel) (by decide +kernel)
set_option maxRecDepth 20000 in
theorem gX4_workedOutAt_X1_workOut : GoodIn wsX4_workedOutAt (wsV RX4 144 RX1 yX1_workOut wsX1_workOut) := goodIn_app (goodIn_of _ (by decide +kernel)) ggX4_workedOutAt_X1_workOut
theorem dX4_workedOutAt_0 : decode cX4_workedOutAt 0 = .ok (.aload_n 0, 1) := by decide +kernel
theorem dX4_workedOutAt_1 : decode cX4_workedOutAt 1 = .ok (.iload_n 1, 1) := by decide +kernel
theorem dX4_workedOutAt_2 : decode cX4_workedOutAt 2 = .ok (.invokevirtual 106, 3) := by decide +kernel
theorem dX4_workedOutAt_5 : decode cX4_workedOutAt 5 = .ok (.astore_n 2, 1) := by decide +kernel
theorem dX4_workedOutAt_6 : decode cX4_workedOutAt 6 = .ok (.aload_n 2, 1) := by decide +kernel
theorem dX4_workedOutAt_7 : decode cX4_workedOutAt 7 = .ok (.getfield 115, 3) := by decide +kernel
theorem dX4_workedOutAt_10 : decode cX4_workedOutAt 10 = .ok (.ifCond .ne 11, 3) := by decide +kernel
theorem dX4_workedOutAt_13 : decode cX4_workedOutAt 13 = .ok (.aload_n 0, 1) := by decide +kernel
theorem dX4_workedOutAt_14 : decode cX4_workedOutAt 14 = .ok (.getfield 24, 3) := by decide +kernel
theorem dX4_workedOutAt_17 : decode cX4_workedOutAt 17 = .ok (.aload_n 2, 1) := by decide +kernel
theorem dX4_workedOutAt_18 : decode cX4_workedOutAt 18 = .ok (.invokevirtual 144, 3) := by decide +kernel
theorem dX4_workedOutAt_21 : decode cX4_workedOutAt 21 = .ok (.aload_n 2, 1) := by decide +kernel
theorem dX4_workedOutAt_22 : decode cX4_workedOutAt 22 = .ok (.areturn, 1) := by decide +kernel
theorem dX4_needElement_0 : decode cX4_needElement 0 = .ok (.iload_n 0, 1) := by decide +kernel
theorem dX4_needElement_1 : decode cX4_needElement 1 = .ok (.ifCond .lt 8, 3) := by decide +kernel
theorem dX4_needElement_4 : decode cX4_needElement 4 = .ok (.iload_n 0, 1) := by decide +kernel
theorem dX4_needElement_5 : decode cX4_needElement 5 = .ok (.iload_n 1, 1) := by decide +kernel
theorem dX4_needElement_6 : decode cX4_needElement 6 = .ok (.if_icmp .lt 13, 3) := by decide +kernel
theorem dX4_needElement_9 : decode cX4_needElement 9 = .ok (.new 147, 3) := by decide +kernel
theorem dX4_needElement_12 : decode cX4_needElement 12 = .ok (.dup, 1) := by decide +kernel
theorem dX4_needElement_13 : decode cX4_needElement 13 = .ok (.ldc 149, 2) := by decide +kernel
theorem dX4_needElement_15 : decode cX4_needElement 15 = .ok (.invokespecial 151, 3) := by decide +kernel
theorem dX4_needElement_18 : decode cX4_needElement 18 = .ok (.athrow, 1) := by decide +kernel
theorem dX4_needElement_19 : decode cX4_needElement 19 = .ok (.return_, 1) := by decide +kernel
theorem dX4_needArgument_0 : decode cX4_needArgument 0 = .ok (.iload_n 0, 1) := by decide +kernel
theorem dX4_needArgument_1 : decode cX4_needArgument 1 = .ok (.ifCond .lt 8, 3) := by decide +kernel
theorem dX4_needArgument_4 : decode cX4_needArgument 4 = .ok (.iload_n 0, 1) := by decide +kernel
theorem dX4_needArgument_5 : decode cX4_needArgument 5 = .ok (.iload_n 1, 1) := by decide +kernel
theorem dX4_needArgument_6 : decode cX4_needArgument 6 = .ok (.if_icmp .lt 13, 3) := by decide +kernel
theorem dX4_needArgument_9 : decode cX4_needArgument 9 = .ok (.new 96, 3) := by decide +kernel
theorem dX4_needArgument_12 : decode cX4_needArgument 12 = .ok (.dup, 1) := by decide +kernel
theorem dX4_needArgument_13 : decode cX4_needArgument 13 = .ok (.ldc 152, 2) := by decide +kernel
theorem dX4_needArgument_15 : decode cX4_needArgument 15 = .ok (.invokespecial 100, 3) := by decide +kernel
theorem dX4_needArgument_18 : decode cX4_needArgument 18 = .ok (.athrow, 1) := by decide +kernel
theorem dX4_needArgument_19 : decode cX4_needArgument 19 = .ok (.return_, 1) := by decide +kernel
theorem dX4_mayBeThreads_0 : decode cX4_mayBeThreads 0 = .ok (.iload_n 0, 1) := by decide +kernel
theorem dX4_mayBeThreads_1 : decode cX4_mayBeThreads 1 = .ok (.iconst 2, 1) := by decide +kernel
theorem dX4_mayBeThreads_2 : decode cX4_mayBeThreads 2 = .ok (.if_icmp .lt 13, 3) := by decide +kernel
theorem dX4_mayBeThreads_5 : decode cX4_mayBeThreads 5 = .ok (.iload_n 0, 1) := by decide +kernel
theorem dX4_mayBeThreads_6 : decode cX4_mayBeThreads 6 = .ok (.bipush 6, 2) := by decide +kernel
theorem dX4_mayBeThreads_8 : decode cX4_mayBeThreads 8 = .ok (.if_icmp .gt 7, 3) := by decide +kernel
theorem dX4_mayBeThreads_11 : decode cX4_mayBeThreads 11 = .ok (.iconst 1, 1) := by decide +kernel
theorem dX4_mayBeThreads_12 : decode cX4_mayBeThreads 12 = .ok (.goto 4, 3) := by decide +kernel
theorem dX4_mayBeThreads_15 : decode cX4_mayBeThreads 15 = .ok (.iconst 0, 1) := by decide +kernel
theorem dX4_mayBeThreads_16 : decode cX4_mayBeThreads 16 = .ok (.ireturn, 1) := by decide +kernel
theorem dX4_knotsIn_0 : decode cX4_knotsIn 0 = .ok (.iload_n 0, 1) := by decide +kernel
theorem dX4_knotsIn_1 : decode cX4_knotsIn 1 = .ok (.iload_n 1, 1) := by decide +kernel
theorem dX4_knotsIn_2 : decode cX4_knotsIn 2 = .ok (.iconst 1, 1) := by decide +kernel
theorem dX4_knotsIn_3 : decode cX4_knotsIn 3 = .ok (.iand, 1) := by decide +kernel
theorem dX4_knotsIn_4 : decode cX4_knotsIn 4 = .ok (.isub, 1) := by decide +kernel
theorem dX4_knotsIn_5 : decode cX4_knotsIn 5 = .ok (.iconst 1, 1) := by decide +kernel
theorem dX4_knotsIn_6 : decode cX4_knotsIn 6 = .ok (.ishr, 1) := by decide +kernel
theorem dX4_knotsIn_7 : decode cX4_knotsIn 7 = .ok (.ireturn, 1) := by decide +kernel
theorem dX4_leftPlaceOf_0 : decode cX4_leftPlaceOf 0 = .ok (.iconst 2, 1) := by decide +kernel
theorem dX4_leftPlaceOf_1 : decode cX4_leftPlaceOf 1 = .ok (.iload_n 1, 1) := by decide +kernel
theorem dX4_leftPlaceOf_2 : decode cX4_leftPlaceOf 2 = .ok (.imul, 1) := by decide +kernel
theorem dX4_leftPlaceOf_3 : decode cX4_leftPlaceOf 3 = .ok (.iload_n 0, 1) := by decide +kernel
theorem dX4_leftPlaceOf_4 : decode cX4_leftPlaceOf 4 = .ok (.iconst 1, 1) := by decide +kernel
theorem dX4_leftPlaceOf_5 : decode cX4_leftPlaceOf 5 = .ok (.iand, 1) := by decide +kernel
theorem dX4_leftPlaceOf_6 : decode cX4_leftPlaceOf 6 = .ok (.iadd, 1) := by decide +kernel
theorem dX4_leftPlaceOf_7 : decode cX4_leftPlaceOf 7 = .ok (.ireturn, 1) := by decide +kernel
theorem dX4_spotOf_0 : decode cX4_spotOf 0 = .ok (.iconst 3, 1) := by decide +kernel
theorem dX4_spotOf_1 : decode cX4_spotOf 1 = .ok (.iload_n 0, 1) := by decide +kernel
theorem dX4_spotOf_2 : decode cX4_spotOf 2 = .ok (.imul, 1) := by decide +kernel
theorem dX4_spotOf_3 : decode cX4_spotOf 3 = .ok (.iload_n 1, 1) := by decide +kernel
theorem dX4_spotOf_4 : decode cX4_spotOf 4 = .ok (.iadd, 1) := by decide +kernel
theorem dX4_spotOf_5 : decode cX4_spotOf 5 = .ok (.ireturn, 1) := by decide +kernel
theorem dX4_kindIn_0 : decode cX4_kindIn 0 = .ok (.iload_n 0, 1) := by decide +kernel
theorem dX4_kindIn_1 : decode cX4_kindIn 1 = .ok (.iconst 2, 1) := by decide +kernel
theorem dX4_kindIn_2 : decode cX4_kindIn 2 = .ok (.iload_n 1, 1) := by decide +kernel
theorem dX4_kindIn_3 : decode cX4_kindIn 3 = .ok (.imul, 1) := by decide +kernel
theorem dX4_kindIn_4 : decode cX4_kindIn 4 = .ok (.ishr, 1) := by decide +kernel
theorem dX4_kindIn_5 : decode cX4_kindIn 5 = .ok (.iconst 3, 1) := by decide +kernel
theorem dX4_kindIn_6 : decode cX4_kindIn 6 = .ok (.iand, 1) := by decide +kernel
theorem dX4_kindIn_7 : decode cX4_kindIn 7 = .ok (.ireturn, 1) := by decide +kernel
theorem dX4_withKind_0 : decode cX4_withKind 0 = .ok (.iload_n 0, 1) := by decide +kernel
theorem dX4_withKind_1 : decode cX4_withKind 1 = .ok (.iconst 3, 1) := by decide +kernel
theorem dX4_withKind_2 : decode cX4_withKind 2 = .ok (.iconst 2, 1) := by decide +kernel
theorem dX4_withKind_3 : decode cX4_withKind 3 = .ok (.iload_n 1, 1) := by decide +kernel
theorem dX4_withKind_4 : decode cX4_withKind 4 = .ok (.imul, 1) := by decide +kernel
theorem dX4_withKind_5 : decode cX4_withKind 5 = .ok (.ishl, 1) := by decide +kernel
theorem dX4_withKind_6 : decode cX4_withKind 6 = .ok (.iconst (-1), 1) := by decide +kernel
theorem dX4_withKind_7 : decode cX4_withKind 7 = .ok (.ixor, 1) := by decide +kernel
theorem dX4_withKind_8 : decode cX4_withKind 8 = .ok (.iand, 1) := by decide +kernel
theorem dX4_withKind_9 : decode cX4_withKind 9 = .ok (.iload_n 2, 1) := by decide +kernel
theorem dX4_withKind_10 : decode cX4_withKind 10 = .ok (.iconst 2, 1) := by decide +kernel
theorem dX4_withKind_11 : decode cX4_withKind 11 = .ok (.iload_n 1, 1) := by decide +kernel
theorem dX4_withKind_12 : decode cX4_withKind 12 = .ok (.imul, 1) := by decide +kernel
theorem dX4_withKind_13 : decode cX4_withKind 13 = .ok (.ishl, 1) := by decide +kernel
theorem dX4_withKind_14 : decode cX4_withKind 14 = .ok (.ior, 1) := by decide +kernel
theorem dX4_withKind_15 : decode cX4_withKind 15 = .ok (.ireturn, 1) := by decide +kernel
theorem dX4_showingPlace_0 : decode cX4_showingPlace 0 = .ok (.iload_n 0, 1) := by decide +kernel
theorem dX4_showingPlace_1 : decode cX4_showingPlace 1 = .ok (.iload_n 1, 1) := by decide +kernel
theorem dX4_showingPlace_2 : decode cX4_showingPlace 2 = .ok (.iconst 1, 1) := by decide +kernel
theorem dX4_showingPlace_3 : decode cX4_showingPlace 3 = .ok (.iand, 1) := by decide +kernel
theorem dX4_showingPlace_4 : decode cX4_showingPlace 4 = .ok (.iadd, 1) := by decide +kernel
theorem dX4_showingPlace_5 : decode cX4_showingPlace 5 = .ok (.ireturn, 1) := by decide +kernel
theorem dX4_bitOf_0 : decode cX4_bitOf 0 = .ok (.iconst 2, 1) := by decide +kernel
theorem dX4_bitOf_1 : decode cX4_bitOf 1 = .ok (.iconst 5, 1) := by decide +kernel
theorem dX4_bitOf_2 : decode cX4_bitOf 2 = .ok (.iload_n 0, 1) := by decide +kernel
theorem dX4_bitOf_3 : decode cX4_bitOf 3 = .ok (.isub, 1) := by decide +kernel
theorem dX4_bitOf_4 : decode cX4_bitOf 4 = .ok (.imul, 1) := by decide +kernel
theorem dX4_bitOf_5 : decode cX4_bitOf 5 = .ok (.ireturn, 1) := by decide +kernel
set_option maxRecDepth 20000 in
theorem ggX4_colourIn_X4_bitOf : GoodIn wsX4_colourIn wsX4_bitOf := goodIn_r _ [4] (by decide +kernel) (by decide +kernel)
set_option maxRecDepth 20000 in
theorem gX4_colourIn_X4_bitOf : GoodIn wsX4_colourIn (va_wsS RX4 154 yX4_bitOf wsX4_bitOf) := goodIn_app (goodIn_of _ (by decide +kernel)) ggX4_colourIn_X4_bitOf
theorem dX4_colourIn_0 : decode cX4_colourIn 0 = .ok (.iload_n 0, 1) := by decide +kernel
theorem dX4_colourIn_1 : decode cX4_colourIn 1 = .ok (.iload_n 1, 1) := by decide +kernel
theorem dX4_colourIn_2 : decode cX4_colourIn 2 = .ok (.invokestatic 154, 3) := by decide +kernel
theorem dX4_colourIn_5 : decode cX4_colourIn 5 = .ok (.ishr, 1) := by decide +kernel
theorem dX4_colourIn_6 : decode cX4_colourIn 6 = .ok (.iconst 3, 1) := by decide +kernel
theorem dX4_colourIn_7 : decode cX4_colourIn 7 = .ok (.iand, 1) := by decide +kernel
theorem dX4_colourIn_8 : decode cX4_colourIn 8 = .ok (.ireturn, 1) := by decide +kernel
theorem dX4_exchanged_0 : decode cX4_exchanged 0 = .ok (.iload_n 0, 1) := by decide +kernel
theorem dX4_exchanged_1 : decode cX4_exchanged 1 = .ok (.iload_n 1, 1) := by decide +kernel
theorem dX4_exchanged_2 : decode cX4_exchanged 2 = .ok (.ishr, 1) := by decide +kernel
theorem dX4_exchanged_3 : decode cX4_exchanged 3 = .ok (.iload_n 0, 1) := by decide +kernel
theorem dX4_exchanged_4 : decode cX4_exchanged 4 = .ok (.iload_n 1, 1) := by decide +kernel
theorem dX4_exchanged_5 : decode cX4_exchanged 5 = .ok (.iconst 2, 1) := by decide +kernel
theorem dX4_exchanged_6 : decode cX4_exchanged 6 = .ok (.iadd, 1) := by decide +kernel
theorem dX4_exchanged_7 : decode cX4_exchanged 7 = .ok (.ishr, 1) := by decide +kernel
theorem dX4_exchanged_8 : decode cX4_exchanged 8 = .ok (.ixor, 1) := by decide +kernel
theorem dX4_exchanged_9 : decode cX4_exchanged 9 = .ok (.iconst 3, 1) := by decide +kernel
theorem dX4_exchanged_10 : decode cX4_exchanged 10 = .ok (.iand, 1) := by decide +kernel
theorem dX4_exchanged_11 : decode cX4_exchanged 11 = .ok (.istore_n 2, 1) := by decide +kernel
theorem dX4_exchanged_12 : decode cX4_exchanged 12 = .ok (.iload_n 0, 1) := by decide +kernel
theorem dX4_exchanged_13 : decode cX4_exchanged 13 = .ok (.iload_n 2, 1) := by decide +kernel
theorem dX4_exchanged_14 : decode cX4_exchanged 14 = .ok (.iload_n 1, 1) := by decide +kernel
theorem dX4_exchanged_15 : decode cX4_exchanged 15 = .ok (.ishl, 1) := by decide +kernel
theorem dX4_exchanged_16 : decode cX4_exchanged 16 = .ok (.ixor, 1) := by decide +kernel
theorem dX4_exchanged_17 : decode cX4_exchanged 17 = .ok (.iload_n 2, 1) := by decide +kernel
theorem dX4_exchanged_18 : decode cX4_exchanged 18 = .ok (.iload_n 1, 1) := by decide +kernel
theorem dX4_exchanged_19 : decode cX4_exchanged 19 = .ok (.iconst 2, 1) := by decide +kernel
theorem dX4_exchanged_20 : decode cX4_exchanged 20 = .ok (.iadd, 1) := by decide +kernel
theorem dX4_exchanged_21 : decode cX4_exchanged 21 = .ok (.ishl, 1) := by decide +kernel
theorem dX4_exchanged_22 : decode cX4_exchanged 22 = .ok (.ixor, 1) := by decide +kernel
theorem dX4_exchanged_23 : decode cX4_exchanged 23 = .ok (.ireturn, 1) := by decide +kernel
theorem dX5_init_0 : decode cX5_init 0 = .ok (.aload_n 0, 1) := by decide +kernel
theorem dX5_init_1 : decode cX5_init 1 = .ok (.invokespecial 1, 3) := by decide +kernel
theorem dX5_init_4 : decode cX5_init 4 = .ok (.aload_n 0, 1) := by decide +kernel
theorem dX5_init_5 : decode cX5_init 5 = .ok (.bipush 8, 2) := by decide +kernel
theorem dX5_init_7 : decode cX5_init 7 = .ok (.newarray .int, 2) := by decide +kernel
theorem dX5_init_9 : decode cX5_init 9 = .ok (.putfield 7, 3) := by decide +kernel
theorem dX5_init_12 : decode cX5_init 12 = .ok (.aload_n 0, 1) := by decide +kernel
theorem dX5_init_13 : decode cX5_init 13 = .ok (.bipush 8, 2) := by decide +kernel
theorem dX5_init_15 : decode cX5_init 15 = .ok (.newarray .int, 2) := by decide +kernel
theorem dX5_init_17 : decode cX5_init 17 = .ok (.putfield 13, 3) := by decide +kernel
theorem dX5_init_20 : decode cX5_init 20 = .ok (.aload_n 0, 1) := by decide +kernel
theorem dX5_init_21 : decode cX5_init 21 = .ok (.bipush 48, 2) := by decide +kernel
theorem dX5_init_23 : decode cX5_init 23 = .ok (.newarray .int, 2) := by decide +kernel
theorem dX5_init_25 : decode cX5_init 25 = .ok (.putfield 16, 3) := by decide +kernel
theorem dX5_init_28 : decode cX5_init 28 = .ok (.aload_n 0, 1) := by decide +kernel
theorem dX5_init_29 : decode cX5_init 29 = .ok (.sipush 384, 3) := by decide +kernel
theorem dX5_init_32 : decode cX5_init 32 = .ok (.newarray .int, 2) := by decide +kernel
theorem dX5_init_34 : decode cX5_init 34 = .ok (.putfield 19, 3) := by decide +kernel
theorem dX5_init_37 : decode cX5_init 37 = .ok (.aload_n 0, 1) := by decide +kernel
theorem dX5_init_38 : decode cX5_init 38 = .ok (.bipush 8, 2) := by decide +kernel
theorem dX5_init_40 : decode cX5_init 40 = .ok (.newarray .int, 2) := by decide +kernel
theorem dX5_init_42 : decode cX5_init 42 = .ok (.putfield 22, 3) := by decide +kernel
theorem dX5_init_45 : decode cX5_init 45 = .ok (.aload_n 0, 1) := by decide +kernel
theorem dX5_init_46 : decode cX5_init 46 = .ok (.bipush 8, 2) := by decide +kernel
theorem dX5_init_48 : decode cX5_init 48 = .ok (.newarray .int, 2) := by decide +kernel
theorem dX5_init_50 : decode cX5_init 50 = .ok (.putfield 25, 3) := by decide +kernel
theorem dX5_init_53 : decode cX5_init 53 = .ok (.aload_n 0, 1) := by decide +kernel
theorem dX5_init_54 : decode cX5_init 54 = .ok (.sipush 384, 3) := by decide +kernel
theorem dX5_init_57 : decode cX5_init 57 = .ok (.newarray .int, 2) := by decide +kernel
theorem dX5_init_59 : decode cX5_init 59 = .ok (.putfield 28, 3) := by decide +kernel
theorem dX5_init_62 : decode cX5_init 62 = .ok (.aload_n 0, 1) := by decide +kernel
theorem dX5_init_63 : decode cX5_init 63 = .ok (.bipush 48, 2) := by decide +kernel
theorem dX5_init_65 : decode cX5_init 65 = .ok (.newarray .int, 2) := by decide +kernel
theorem dX5_init_67 : decode cX5_init 67 = .ok (.putfield 31, 3) := by decide +kernel
theorem dX5_init_70 : decode cX5_init 70 = .ok (.aload_n 0, 1) := by decide +kernel
theorem dX5_init_71 : decode cX5_init 71 = .ok (.bipush 6, 2) := by decide +kernel
theorem dX5_init_73 : decode cX5_init 73 = .ok (.newarray .int, 2) := by decide +kernel
theorem dX5_init_75 : decode cX5_init 75 = .ok (.putfield 34, 3) := by decide +kernel
theorem dX5_init_78 : decode cX5_init 78 = .ok (.aload_n 0, 1) := by decide +kernel
theorem dX5_init_79 : decode cX5_init 79 = .ok (.bipush 6, 2) := by decide +kernel
theorem dX5_init_81 : decode cX5_init 81 = .ok (.newarray .int, 2) := by decide +kernel
theorem dX5_init_83 : decode cX5_init 83 = .ok (.putfield 37, 3) := by decide +kernel
theorem dX5_init_86 : decode cX5_init 86 = .ok (.aload_n 0, 1) := by decide +kernel
theorem dX5_init_87 : decode cX5_init 87 = .ok (.bipush 6, 2) := by decide +kernel
theorem dX5_init_89 : decode cX5_init 89 = .ok (.newarray .int, 2) := by decide +kernel
theorem dX5_init_91 : decode cX5_init 91 = .ok (.putfield 40, 3) := by decide +kernel
theorem dX5_init_94 : decode cX5_init 94 = .ok (.aload_n 0, 1) := by decide +kernel
theorem dX5_init_95 : decode cX5_init 95 = .ok (.ldc 43, 2) := by decide +kernel
theorem dX5_init_97 : decode cX5_init 97 = .ok (.newarray .boolean, 2) := by decide +kernel
theorem dX5_init_99 : decode cX5_init 99 = .ok (.putfield 44, 3) := by decide +kernel
theorem dX5_init_102 : decode cX5_init 102 = .ok (.return_, 1) := by decide +kernel
theorem dX5_thrown_0 : decode cX5_thrown 0 = .ok (.aload_n 0, 1) := by decide +kernel
theorem dX5_thrown_1 : decode cX5_thrown 1 = .ok (.getfield 48, 3) := by decide +kernel
theorem dX5_thrown_4 : decode cX5_thrown 4 = .ok (.ireturn, 1) := by decide +kernel
theorem dX5_right_0 : decode cX5_right 0 = .ok (.aload_n 0, 1) := by decide +kernel
theorem dX5_right_1 : decode cX5_right 1 = .ok (.getfield 48, 3) := by decide +kernel
theorem dX5_right_4 : decode cX5_right 4 = .ok (.ifCond .ne 12, 3) := by decide +kernel
theorem dX5_right_7 : decode cX5_right 7 = .ok (.iload_n 1, 1) := by decide +kernel
theorem dX5_right_8 : decode cX5_right 8 = .ok (.ifCond .ne 8, 3) := by decide +kernel
theorem dX5_right_11 : decode cX5_right 11 = .ok (.aload_n 0, 1) := by decide +kernel
theorem dX5_right_12 : decode cX5_right 12 = .ok (.iload_n 2, 1) := by decide +kernel
theorem dX5_right_13 : decode cX5_right 13 = .ok (.putfield 48, 3) := by decide +kernel
theorem dX5_right_16 : decode cX5_right 16 = .ok (.aload_n 0, 1) := by decide +kernel
theorem dX5_right_17 : decode cX5_right 17 = .ok (.getfield 48, 3) := by decide +kernel
theorem dX5_right_20 : decode cX5_right 20 = .ok (.ifCond .ne 7, 3) := by decide +kernel
theorem dX5_right_23 : decode cX5_right 23 = .ok (.iconst 1, 1) := by decide +kernel
theorem dX5_right_24 : decode cX5_right 24 = .ok (.goto 4, 3) := by decide +kernel
theorem dX5_right_27 : decode cX5_right 27 = .ok (.iconst 0, 1) := by decide +kernel
theorem dX5_right_28 : decode cX5_right 28 = .ok (.ireturn, 1) := by decide +kernel
theorem dX5_knots_0 : decode cX5_knots 0 = .ok (.iload_n 1, 1) := by decide +kernel
theorem dX5_knots_1 : decode cX5_knots 1 = .ok (.iconst 2, 1) := by decide +kernel
theorem dX5_knots_2 : decode cX5_knots 2 = .ok (.irem, 1) := by decide +kernel
theorem dX5_knots_3 : decode cX5_knots 3 = .ok (.ifCond .ne 9, 3) := by decide +kernel
theorem dX5_knots_6 : decode cX5_knots 6 = .ok (.iload_n 0, 1) := by decide +kernel
theorem dX5_knots_7 : decode cX5_knots 7 = .ok (.iconst 2, 1) := by decide +kernel
theorem dX5_knots_8 : decode cX5_knots 8 = .ok (.idiv, 1) := by decide +kernel
theorem dX5_knots_9 : decode cX5_knots 9 = .ok (.goto 8, 3) := by decide +kernel
theorem dX5_knots_12 : decode cX5_knots 12 = .ok (.iload_n 0, 1) := by decide +kernel
theorem dX5_knots_13 : decode cX5_knots 13 = .ok (.iconst 1, 1) := by decide +kernel
theorem dX5_knots_14 : decode cX5_knots 14 = .ok (.isub, 1) := by decide +kernel
theorem dX5_knots_15 : decode cX5_knots 15 = .ok (.iconst 2, 1) := by decide +kernel
theorem dX5_knots_16 : decode cX5_knots 16 = .ok (.idiv, 1) := by decide +kernel
theorem dX5_knots_17 : decode cX5_knots 17 = .ok (.ireturn, 1) := by decide +kernel
theorem dX5_left_0 : decode cX5_left 0 = .ok (.iconst 2, 1) := by decide +kernel
theorem dX5_left_1 : decode cX5_left 1 = .ok (.iload_n 1, 1) := by decide +kernel
theorem dX5_left_2 : decode cX5_left 2 = .ok (.imul, 1) := by decide +kernel
theorem dX5_left_3 : decode cX5_left 3 = .ok (.iload_n 0, 1) := by decide +kernel
theorem dX5_left_4 : decode cX5_left 4 = .ok (.iconst 2, 1) := by decide +kernel
theorem dX5_left_5 : decode cX5_left 5 = .ok (.irem, 1) := by decide +kernel
theorem dX5_left_6 : decode cX5_left 6 = .ok (.iadd, 1) := by decide +kernel
theorem dX5_left_7 : decode cX5_left 7 = .ok (.ireturn, 1) := by decide +kernel
set_option maxRecDepth 20000 in
theorem ggX5_isBand_X5_right : GoodIn wsX5_isBand wsX5_right := goodIn_r _ [7, 1, 8, 9, 10, 11, 12, 13, 14, 15, 16, 17, 18, 19, 20, 21, 22] (by decide +kernel) (by decide +kernel)
set_option maxRecDepth 20000 in
theorem gX5_isBand_X5_right : GoodIn wsX5_isBand (wsV RX5 55 RX5 yX5_right wsX5_right) := goodIn_app (goodIn_of _ (by decide +kernel)) ggX5_isBand_X5_right
theorem dX5_isBand_0 : decode cX5_isBand 0 = .ok (.aload_n 0, 1) := by decide +kernel
theorem dX5_isBand_1 : decode cX5_isBand 1 = .ok (.iconst 0, 1) := by decide +kernel
theorem dX5_isBand_2 : decode cX5_isBand 2 = .ok (.putfield 48, 3) := by decide +kernel
theorem dX5_isBand_5 : decode cX5_isBand 5 = .ok (.aload_n 0, 1) := by decide +kernel
theorem dX5_isBand_6 : decode cX5_isBand 6 = .ok (.iload_n 1, 1) := by decide +kernel
theorem dX5_isBand_7 : decode cX5_isBand 7 = .ok (.ifCond .lt 15, 3) := by decide +kernel
theorem dX5_isBand_10 : decode cX5_isBand 10 = .ok (.iload_n 1, 1) := by decide +kernel
theorem dX5_isBand_11 : decode cX5_isBand 11 = .ok (.aload_n 0, 1) := by decide +kernel
theorem dX5_isBand_12 : decode cX5_isBand 12 = .ok (.getfield 52, 3) := by decide +kernel
theorem dX5_isBand_15 : decode cX5_isBand 15 = .ok (.if_icmp .ge 7, 3) := by decide +kernel
theorem dX5_isBand_18 : decode cX5_isBand 18 = .ok (.iconst 1, 1) := by decide +kernel
theorem dX5_isBand_19 : decode cX5_isBand 19 = .ok (.goto 4, 3) := by decide +kernel
theorem dX5_isBand_22 : decode cX5_isBand 22 = .ok (.iconst 0, 1) := by decide +kernel
theorem dX5_isBand_23 : decode cX5_isBand 23 = .ok (.iconst 1, 1) := by decide +kernel
theorem dX5_isBand_24 : decode cX5_isBand 24 = .ok (.invokevirtual 55, 3) := by decide +kernel
theorem dX5_isBand_27 : decode cX5_isBand 27 = .ok (.ireturn, 1) := by decide +kernel
theorem dX5_band_0 : decode cX5_band 0 = .ok (.aload_n 0, 1) := by decide +kernel
theorem dX5_band_1 : decode cX5_band 1 = .ok (.iconst 0, 1) := by decide +kernel
theorem dX5_band_2 : decode cX5_band 2 = .ok (.putfield 48, 3) := by decide +kernel
theorem dX5_band_5 : decode cX5_band 5 = .ok (.aload_n 0, 1) := by decide +kernel
theorem dX5_band_6 : decode cX5_band 6 = .ok (.getfield 52, 3) := by decide +kernel
theorem dX5_band_9 : decode cX5_band 9 = .ok (.bipush 8, 2) := by decide +kernel
theorem dX5_band_11 : decode cX5_band 11 = .ok (.if_icmp .eq 14, 3) := by decide +kernel
theorem dX5_band_14 : decode cX5_band 14 = .ok (.iload_n 1, 1) := by decide +kernel
theorem dX5_band_15 : decode cX5_band 15 = .ok (.iconst 2, 1) := by decide +kernel
theorem dX5_band_16 : decode cX5_band 16 = .ok (.if_icmp .lt 9, 3) := by decide +kernel
theorem dX5_band_19 : decode cX5_band 19 = .ok (.iload_n 1, 1) := by decide +kernel
theorem dX5_band_20 : decode cX5_band 20 = .ok (.bipush 6, 2) := by decide +kernel
theorem dX5_band_22 : decode cX5_band 22 = .ok (.if_icmp .le 5, 3) := by decide +kernel
theorem dX5_band_25 : decode cX5_band 25 = .ok (.iconst (-1), 1) := by decide +kernel
theorem dX5_band_26 : decode cX5_band 26 = .ok (.ireturn, 1) := by decide +kernel
theorem dX5_band_27 : decode cX5_band 27 = .ok (.aload_n 0, 1) := by decide +kernel
theorem dX5_band_28 : decode cX5_band 28 = .ok (.getfield 7, 3) := by decide +kernel
theorem dX5_band_31 : decode cX5_band 31 = .ok (.aload_n 0, 1) := by decide +kernel
theorem dX5_band_32 : decode cX5_band 32 = .ok (.getfield 52, 3) := by decide +kernel
theorem dX5_band_35 : decode cX5_band 35 = .ok (.iload_n 1, 1) := by decide +kernel
theorem dX5_band_36 : decode cX5_band 36 = .ok (.iastore, 1) := by decide +kernel
theorem dX5_band_37 : decode cX5_band 37 = .ok (.aload_n 0, 1) := by decide +kernel
theorem dX5_band_38 : decode cX5_band 38 = .ok (.dup, 1) := by decide +kernel
theorem dX5_band_39 : decode cX5_band 39 = .ok (.getfield 52, 3) := by decide +kernel
theorem dX5_band_42 : decode cX5_band 42 = .ok (.iconst 1, 1) := by decide +kernel
theorem dX5_band_43 : decode cX5_band 43 = .ok (.iadd, 1) := by decide +kernel
theorem dX5_band_44 : decode cX5_band 44 = .ok (.putfield 52, 3) := by decide +kernel
theorem dX5_band_47 : decode cX5_band 47 = .ok (.aload_n 0, 1) := by decide +kernel
theorem dX5_band_48 : decode cX5_band 48 = .ok (.getfield 52, 3) := by decide +kernel
theorem dX5_band_51 : decode cX5_band 51 = .ok (.iconst 1, 1) := by decide +kernel
theorem dX5_band_52 : decode cX5_band 52 = .ok (.isub, 1) := by decide +kernel
theorem dX5_band_53 : decode cX5_band 53 = .ok (.ireturn, 1) := by decide +kernel
set_option maxRecDepth 20000 in
theorem ggX5_colour_X5_isBand : GoodIn wsX5_colour wsX5_isBand := goodIn_r _ [7, 8, 9, 10, 11, 12, 6, 13, 14, 15, 16, 17, 18, 19, 20, 21, 22, 23, 24, 25, 26, 27, 28] (by decide +kernel) (by decide +kernel)
set_option maxRecDepth 20000 in
theorem gX5_colour_X5_isBand : GoodIn wsX5_colour (wsV RX5 59 RX5 yX5_isBand wsX5_isBand) := goodIn_app (goodIn_of _ (by decide +kernel)) ggX5_colour_X5_isBand
set_option maxRecDepth 20000 in
theorem ggX5_colour_X5_right : GoodIn wsX5_colour wsX5_right := goodIn_r _ [13, 8, 14, 15, 16, 17, 18, 19, 20, 21, 22, 23, 24, 25, 26, 27, 28] (by decide +kernel) (by decide +kernel)
set_option maxRecDepth 20000 in
theorem gX5_colour_X5_right : GoodIn wsX5_colour (wsV RX5 55 RX5 yX5_right wsX5_right) := goodIn_app (goodIn_of _ (by decide +kernel)) ggX5_colour_X5_right
theorem dX5_colour_0 : decode cX5_colour 0 = .ok (.aload_n 0, 1) := by decide +kernel
theorem dX5_colour_1 : decode cX5_colour 1 = .ok (.iload_n 1, 1) := by decide +kernel
theorem dX5_colour_2 : decode cX5_colour 2 = .ok (.invokevirtual 59, 3) := by decide +kernel
theorem dX5_colour_5 : decode cX5_colour 5 = .ok (.ifCond .eq 52, 3) := by decide +kernel
theorem dX5_colour_8 : decode cX5_colour 8 = .ok (.aload_n 0, 1) := by decide +kernel
theorem dX5_colour_9 : decode cX5_colour 9 = .ok (.iload_n 2, 1) := by decide +kernel
theorem dX5_colour_10 : decode cX5_colour 10 = .ok (.ifCond .lt 17, 3) := by decide +kernel
theorem dX5_colour_13 : decode cX5_colour 13 = .ok (.iload_n 2, 1) := by decide +kernel
theorem dX5_colour_14 : decode cX5_colour 14 = .ok (.aload_n 0, 1) := by decide +kernel
theorem dX5_colour_15 : decode cX5_colour 15 = .ok (.getfield 7, 3) := by decide +kernel
theorem dX5_colour_18 : decode cX5_colour 18 = .ok (.iload_n 1, 1) := by decide +kernel
theorem dX5_colour_19 : decode cX5_colour 19 = .ok (.iaload, 1) := by decide +kernel
theorem dX5_colour_20 : decode cX5_colour 20 = .ok (.if_icmp .ge 7, 3) := by decide +kernel
theorem dX5_colour_23 : decode cX5_colour 23 = .ok (.iconst 1, 1) := by decide +kernel
theorem dX5_colour_24 : decode cX5_colour 24 = .ok (.goto 4, 3) := by decide +kernel
theorem dX5_colour_27 : decode cX5_colour 27 = .ok (.iconst 0, 1) := by decide +kernel
theorem dX5_colour_28 : decode cX5_colour 28 = .ok (.iconst 1, 1) := by decide +kernel
theorem dX5_colour_29 : decode cX5_colour 29 = .ok (.invokevirtual 55, 3) := by decide +kernel
theorem dX5_colour_32 : decode cX5_colour 32 = .ok (.ifCond .eq 25, 3) := by decide +kernel
theorem dX5_colour_35 : decode cX5_colour 35 = .ok (.aload_n 0, 1) := by decide +kernel
theorem dX5_colour_36 : decode cX5_colour 36 = .ok (.iload_n 3, 1) := by decide +kernel
theorem dX5_colour_37 : decode cX5_colour 37 = .ok (.ifCond .lt 12, 3) := by decide +kernel
theorem dX5_colour_40 : decode cX5_colour 40 = .ok (.iload_n 3, 1) := by decide +kernel
theorem dX5_colour_41 : decode cX5_colour 41 = .ok (.iconst 3, 1) := by decide +kernel
theorem dX5_colour_42 : decode cX5_colour 42 = .ok (.if_icmp .gt 7, 3) := by decide +kernel
theorem dX5_colour_45 : decode cX5_colour 45 = .ok (.iconst 1, 1) := by decide +kernel
theorem dX5_colour_46 : decode cX5_colour 46 = .ok (.goto 4, 3) := by decide +kernel
theorem dX5_colour_49 : decode cX5_colour 49 = .ok (.iconst 0, 1) := by decide +kernel
theorem dX5_colour_50 : decode cX5_colour 50 = .ok (.iconst 2, 1) := by decide +kernel
theorem dX5_colour_51 : decode cX5_colour 51 = .ok (.invokevirtual 55, 3) := by decide +kernel
theorem dX5_colour_54 : decode cX5_colour 54 = .ok (.ifCond .ne 5, 3) := by decide +kernel
theorem dX5_colour_57 : decode cX5_colour 57 = .ok (.iconst 0, 1) := by decide +kernel
theorem dX5_colour_58 : decode cX5_colour 58 = .ok (.ireturn, 1) := by decide +kernel
theorem dX5_colour_59 : decode cX5_colour 59 = .ok (.aload_n 0, 1) := by decide +kernel
theorem dX5_colour_60 : decode cX5_colour 60 = .ok (.getfield 16, 3) := by decide +kernel
theorem dX5_colour_63 : decode cX5_colour 63 = .ok (.bipush 6, 2) := by decide +kernel
theorem dX5_colour_65 : decode cX5_colour 65 = .ok (.iload_n 1, 1) := by decide +kernel
theorem dX5_colour_66 : decode cX5_colour 66 = .ok (.imul, 1) := by decide +kernel
theorem dX5_colour_67 : decode cX5_colour 67 = .ok (.iload_n 2, 1) := by decide +kernel
theorem dX5_colour_68 : decode cX5_colour 68 = .ok (.iadd, 1) := by decide +kernel
theorem dX5_colour_69 : decode cX5_colour 69 = .ok (.iaload, 1) := by decide +kernel
theorem dX5_colour_70 : decode cX5_colour 70 = .ok (.istore 4, 2) := by decide +kernel
theorem dX5_colour_72 : decode cX5_colour 72 = .ok (.aload_n 0, 1) := by decide +kernel
theorem dX5_colour_73 : decode cX5_colour 73 = .ok (.getfield 16, 3) := by decide +kernel
theorem dX5_colour_76 : decode cX5_colour 76 = .ok (.bipush 6, 2) := by decide +kernel
theorem dX5_colour_78 : decode cX5_colour 78 = .ok (.iload_n 1, 1) := by decide +kernel
theorem dX5_colour_79 : decode cX5_colour 79 = .ok (.imul, 1) := by decide +kernel
theorem dX5_colour_80 : decode cX5_colour 80 = .ok (.iload_n 2, 1) := by decide +kernel
theorem dX5_colour_81 : decode cX5_colour 81 = .ok (.iadd, 1) := by decide +kernel
theorem dX5_colour_82 : decode cX5_colour 82 = .ok (.iload_n 3, 1) := by decide +kernel
theorem dX5_colour_83 : decode cX5_colour 83 = .ok (.iastore, 1) := by decide +kernel
theorem dX5_colour_84 : decode cX5_colour 84 = .ok (.iload 4, 2) := by decide +kernel
theorem dX5_colour_86 : decode cX5_colour 86 = .ok (.ireturn, 1) := by decide +kernel
set_option maxRecDepth 20000 in
theorem ggX5_row_X5_isBand : GoodIn wsX5_row wsX5_isBand := goodIn_r _ [7, 8, 9, 10, 11, 12, 6, 13, 14, 15, 16, 17, 18, 19, 20, 21, 22, 23, 24, 25, 26, 27, 28] (by decide +kernel) (by decide +kernel)
set_option maxRecDepth 20000 in
theorem gX5_row_X5_isBand : GoodIn wsX5_row (wsV RX5 59 RX5 yX5_isBand wsX5_isBand) := goodIn_app (goodIn_of _ (by decide +kernel)) ggX5_row_X5_isBand
theorem dX5_row_0 : decode cX5_row 0 = .ok (.aload_n 0, 1) := by decide +kernel
theorem dX5_row_1 : decode cX5_row 1 = .ok (.iload_n 1, 1) := by decide +kernel
theorem dX5_row_2 : decode cX5_row 2 = .ok (.invokevirtual 59, 3) := by decide +kernel
theorem dX5_row_5 : decode cX5_row 5 = .ok (.ifCond .ne 5, 3) := by decide +kernel
theorem dX5_row_8 : decode cX5_row 8 = .ok (.iconst 0, 1) := by decide +kernel
theorem dX5_row_9 : decode cX5_row 9 = .ok (.ireturn, 1) := by decide +kernel
theorem dX5_row_10 : decode cX5_row 10 = .ok (.aload_n 0, 1) := by decide +kernel
theorem dX5_row_11 : decode cX5_row 11 = .ok (.getfield 13, 3) := by decide +kernel
theorem dX5_row_14 : decode cX5_row 14 = .ok (.iload_n 1, 1) := by decide +kernel
theorem dX5_row_15 : decode cX5_row 15 = .ok (.iaload, 1) := by decide +kernel
theorem dX5_row_16 : decode cX5_row 16 = .ok (.bipush 16, 2) := by decide +kernel
theorem dX5_row_18 : decode cX5_row 18 = .ok (.if_icmp .ne 5, 3) := by decide +kernel
theorem dX5_row_21 : decode cX5_row 21 = .ok (.iconst (-1), 1) := by decide +kernel
theorem dX5_row_22 : decode cX5_row 22 = .ok (.ireturn, 1) := by decide +kernel
theorem dX5_row_23 : decode cX5_row 23 = .ok (.iconst 0, 1) := by decide +kernel
theorem dX5_row_24 : decode cX5_row 24 = .ok (.istore_n 3, 1) := by decide +kernel
theorem dX5_row_25 : decode cX5_row 25 = .ok (.iload_n 3, 1) := by decide +kernel
theorem dX5_row_26 : decode cX5_row 26 = .ok (.iconst 3, 1) := by decide +kernel
theorem dX5_row_27 : decode cX5_row 27 = .ok (.if_icmp .ge 36, 3) := by decide +kernel
theorem dX5_row_30 : decode cX5_row 30 = .ok (.aload_n 0, 1) := by decide +kernel
theorem dX5_row_31 : decode cX5_row 31 = .ok (.getfield 19, 3) := by decide +kernel
theorem dX5_row_34 : decode cX5_row 34 = .ok (.bipush 48, 2) := by decide +kernel
theorem dX5_row_36 : decode cX5_row 36 = .ok (.iload_n 1, 1) := by decide +kernel
theorem dX5_row_37 : decode cX5_row 37 = .ok (.imul, 1) := by decide +kernel
theorem dX5_row_38 : decode cX5_row 38 = .ok (.iconst 3, 1) := by decide +kernel
theorem dX5_row_39 : decode cX5_row 39 = .ok (.aload_n 0, 1) := by decide +kernel
theorem dX5_row_40 : decode cX5_row 40 = .ok (.getfield 13, 3) := by decide +kernel
theorem dX5_row_43 : decode cX5_row 43 = .ok (.iload_n 1, 1) := by decide +kernel
theorem dX5_row_44 : decode cX5_row 44 = .ok (.iaload, 1) := by decide +kernel
theorem dX5_row_45 : decode cX5_row 45 = .ok (.imul, 1) := by decide +kernel
theorem dX5_row_46 : decode cX5_row 46 = .ok (.iadd, 1) := by decide +kernel
theorem dX5_row_47 : decode cX5_row 47 = .ok (.iload_n 3, 1) := by decide +kernel
theorem dX5_row_48 : decode cX5_row 48 = .ok (.iadd, 1) := by decide +kernel
theorem dX5_row_49 : decode cX5_row 49 = .ok (.iload_n 2, 1) := by decide +kernel
theorem dX5_row_50 : decode cX5_row 50 = .ok (.iconst 2, 1) := by decide +kernel
theorem dX5_row_51 : decode cX5_row 51 = .ok (.iload_n 3, 1) := by decide +kernel
theorem dX5_row_52 : decode cX5_row 52 = .ok (.imul, 1) := by decide +kernel
theorem dX5_row_53 : decode cX5_row 53 = .ok (.ishr, 1) := by decide +kernel
theorem dX5_row_54 : decode cX5_row 54 = .ok (.iconst 3, 1) := by decide +kernel
theorem dX5_row_55 : decode cX5_row 55 = .ok (.iand, 1) := by decide +kernel
theorem dX5_row_56 : decode cX5_row 56 = .ok (.iastore, 1) := by decide +kernel
theorem dX5_row_57 : decode cX5_row 57 = .ok (.iinc 3 1, 3) := by decide +kernel
theorem dX5_row_60 : decode cX5_row 60 = .ok (.goto (-35), 3) := by decide +kernel
theorem dX5_row_63 : decode cX5_row 63 = .ok (.aload_n 0, 1) := by decide +kernel
theorem dX5_row_64 : decode cX5_row 64 = .ok (.getfield 13, 3) := by decide +kernel
theorem dX5_row_67 : decode cX5_row 67 = .ok (.iload_n 1, 1) := by decide +kernel
theorem dX5_row_68 : decode cX5_row 68 = .ok (.dup2, 1) := by decide +kernel
theorem dX5_row_69 : decode cX5_row 69 = .ok (.iaload, 1) := by decide +kernel
theorem dX5_row_70 : decode cX5_row 70 = .ok (.iconst 1, 1) := by decide +kernel
theorem dX5_row_71 : decode cX5_row 71 = .ok (.iadd, 1) := by decide +kernel
theorem dX5_row_72 : decode cX5_row 72 = .ok (.iastore, 1) := by decide +kernel
theorem dX5_row_73 : decode cX5_row 73 = .ok (.aload_n 0, 1) := by decide +kernel
theorem dX5_row_74 : decode cX5_row 74 = .ok (.getfield 13, 3) := by decide +kernel
theorem dX5_row_77 : decode cX5_row 77 = .ok (.iload_n 1, 1) := by decide +kernel
theorem dX5_row_78 : decode cX5_row 78 = .ok (.iaload, 1) := by decide +kernel
theorem dX5_row_79 : decode cX5_row 79 = .ok (.ireturn, 1) := by decide +kernel
set_option maxRecDepth 20000 in
theorem ggX5_isKnot_X5_isBand : GoodIn wsX5_isKnot wsX5_isBand := goodIn_r _ [7, 8, 9, 10, 11, 12, 6, 13, 17, 18, 19, 20, 21, 22, 23, 24, 25, 26, 27, 28, 29, 30, 31] (by decide +kernel) (by decide +kernel)
set_option maxRecDepth 20000 in
theorem gX5_isKnot_X5_isBand : GoodIn wsX5_isKnot (wsV RX5 59 RX5 yX5_isBand wsX5_isBand) := goodIn_app (goodIn_of _ (by decide +kernel)) ggX5_isKnot_X5_isBand
set_option maxRecDepth 20000 in
theorem ggX5_isKnot_X5_knots : GoodIn wsX5_isKnot wsX5_knots := goodIn_r _ [16] (by decide +kernel) (by decide +kernel)
set_option maxRecDepth 20000 in
theorem gX5_isKnot_X5_knots : GoodIn wsX5_isKnot (va_wsS RX5 63 yX5_knots wsX5_knots) := goodIn_app (goodIn_of _ (by decide +kernel)) ggX5_isKnot_X5_knots
set_option maxRecDepth 20000 in
theorem ggX5_isKnot_X5_right : GoodIn wsX5_isKnot wsX5_right := goodIn_r _ [13, 8, 17, 18, 19, 20, 21, 22, 23, 24, 25, 26, 27, 28, 29, 30, 31] (by decide +kernel) (by decide +kernel)
set_option maxRecDepth 20000 in
theorem gX5_isKnot_X5_right : GoodIn wsX5_isKnot (wsV RX5 55 RX5 yX5_right wsX5_right) := goodIn_app (goodIn_of _ (by decide +kernel)) ggX5_isKnot_X5_right
theorem dX5_isKnot_0 : decode cX5_isKnot 0 = .ok (.aload_n 0, 1) := by decide +kernel
theorem dX5_isKnot_1 : decode cX5_isKnot 1 = .ok (.iload_n 1, 1) := by decide +kernel
theorem dX5_isKnot_2 : decode cX5_isKnot 2 = .ok (.invokevirtual 59, 3) := by decide +kernel
theorem dX5_isKnot_5 : decode cX5_isKnot 5 = .ok (.ifCond .eq 52, 3) := by decide +kernel
theorem dX5_isKnot_8 : decode cX5_isKnot 8 = .ok (.aload_n 0, 1) := by decide +kernel
theorem dX5_isKnot_9 : decode cX5_isKnot 9 = .ok (.iload_n 2, 1) := by decide +kernel
theorem dX5_isKnot_10 : decode cX5_isKnot 10 = .ok (.ifCond .lt 35, 3) := by decide +kernel
theorem dX5_isKnot_13 : decode cX5_isKnot 13 = .ok (.iload_n 2, 1) := by decide +kernel
theorem dX5_isKnot_14 : decode cX5_isKnot 14 = .ok (.aload_n 0, 1) := by decide +kernel
theorem dX5_isKnot_15 : decode cX5_isKnot 15 = .ok (.getfield 13, 3) := by decide +kernel
theorem dX5_isKnot_18 : decode cX5_isKnot 18 = .ok (.iload_n 1, 1) := by decide +kernel
theorem dX5_isKnot_19 : decode cX5_isKnot 19 = .ok (.iaload, 1) := by decide +kernel
theorem dX5_isKnot_20 : decode cX5_isKnot 20 = .ok (.if_icmp .ge 25, 3) := by decide +kernel
theorem dX5_isKnot_23 : decode cX5_isKnot 23 = .ok (.iload_n 3, 1) := by decide +kernel
theorem dX5_isKnot_24 : decode cX5_isKnot 24 = .ok (.ifCond .lt 21, 3) := by decide +kernel
theorem dX5_isKnot_27 : decode cX5_isKnot 27 = .ok (.iload_n 3, 1) := by decide +kernel
theorem dX5_isKnot_28 : decode cX5_isKnot 28 = .ok (.aload_n 0, 1) := by decide +kernel
theorem dX5_isKnot_29 : decode cX5_isKnot 29 = .ok (.getfield 7, 3) := by decide +kernel
theorem dX5_isKnot_32 : decode cX5_isKnot 32 = .ok (.iload_n 1, 1) := by decide +kernel
theorem dX5_isKnot_33 : decode cX5_isKnot 33 = .ok (.iaload, 1) := by decide +kernel
theorem dX5_isKnot_34 : decode cX5_isKnot 34 = .ok (.iload_n 2, 1) := by decide +kernel
theorem dX5_isKnot_35 : decode cX5_isKnot 35 = .ok (.invokestatic 63, 3) := by decide +kernel
theorem dX5_isKnot_38 : decode cX5_isKnot 38 = .ok (.if_icmp .ge 7, 3) := by decide +kernel
theorem dX5_isKnot_41 : decode cX5_isKnot 41 = .ok (.iconst 1, 1) := by decide +kernel
theorem dX5_isKnot_42 : decode cX5_isKnot 42 = .ok (.goto 4, 3) := by decide +kernel
theorem dX5_isKnot_45 : decode cX5_isKnot 45 = .ok (.iconst 0, 1) := by decide +kernel
theorem dX5_isKnot_46 : decode cX5_isKnot 46 = .ok (.iconst 1, 1) := by decide +kernel
theorem dX5_isKnot_47 : decode cX5_isKnot 47 = .ok (.invokevirtual 55, 3) := by decide +kernel
theorem dX5_isKnot_50 : decode cX5_isKnot 50 = .ok (.ifCond .eq 7, 3) := by decide +kernel
theorem dX5_isKnot_53 : decode cX5_isKnot 53 = .ok (.iconst 1, 1) := by decide +kernel
theorem dX5_isKnot_54 : decode cX5_isKnot 54 = .ok (.goto 4, 3) := by decide +kernel
theorem dX5_isKnot_57 : decode cX5_isKnot 57 = .ok (.iconst 0, 1) := by decide +kernel
theorem dX5_isKnot_58 : decode cX5_isKnot 58 = .ok (.ireturn, 1) := by decide +kernel
set_option maxRecDepth 20000 in
theorem ggX5_knot_X5_isKnot : GoodIn wsX5_knot wsX5_isKnot := goodIn_r _ [6, 7, 8, 9, 10, 11, 5, 12, 13, 14, 15, 16, 17, 18, 19, 20, 21, 22, 23, 24, 25, 26, 27, 28, 29, 30, 31, 32, 33, 34, 35, 36] (by decide +kernel) (by decide +kernel)
set_option maxRecDepth 20000 in
theorem gX5_knot_X5_isKnot : GoodIn wsX5_knot (wsV RX5 67 RX5 yX5_isKnot wsX5_isKnot) := goodIn_app (goodIn_of _ (by decide +kernel)) ggX5_knot_X5_isKnot
set_option maxRecDepth 20000 in
theorem ggX5_knot_X5_right : GoodIn wsX5_knot wsX5_right := goodIn_r _ [18, 13, 22, 23, 24, 25, 26, 27, 28, 29, 30, 31, 32, 33, 34, 35, 36] (by decide +kernel) (by decide +kernel)
set_option maxRecDepth 20000 in
theorem gX5_knot_X5_right : GoodIn wsX5_knot (wsV RX5 55 RX5 yX5_right wsX5_right) := goodIn_app (goodIn_of _ (by decide +kernel)) ggX5_knot_X5_right
theorem dX5_knot_0 : decode cX5_knot 0 = .ok (.aload_n 0, 1) := by decide +kernel
theorem dX5_knot_1 : decode cX5_knot 1 = .ok (.iload_n 1, 1) := by decide +kernel
theorem dX5_knot_2 : decode cX5_knot 2 = .ok (.iload_n 2, 1) := by decide +kernel
theorem dX5_knot_3 : decode cX5_knot 3 = .ok (.iload_n 3, 1) := by decide +kernel
theorem dX5_knot_4 : decode cX5_knot 4 = .ok (.invokevirtual 67, 3) := by decide +kernel
theorem dX5_knot_7 : decode cX5_knot 7 = .ok (.ifCond .eq 28, 3) := by decide +kernel
theorem dX5_knot_10 : decode cX5_knot 10 = .ok (.aload_n 0, 1) := by decide +kernel
theorem dX5_knot_11 : decode cX5_knot 11 = .ok (.iload 4, 2) := by decide +kernel
theorem dX5_knot_13 : decode cX5_knot 13 = .ok (.iconst (-1), 1) := by decide +kernel
theorem dX5_knot_14 : decode cX5_knot 14 = .ok (.if_icmp .lt 13, 3) := by decide +kernel
theorem dX5_knot_17 : decode cX5_knot 17 = .ok (.iload 4, 2) := by decide +kernel
theorem dX5_knot_19 : decode cX5_knot 19 = .ok (.iconst 3, 1) := by decide +kernel
theorem dX5_knot_20 : decode cX5_knot 20 = .ok (.if_icmp .gt 7, 3) := by decide +kernel
theorem dX5_knot_23 : decode cX5_knot 23 = .ok (.iconst 1, 1) := by decide +kernel
theorem dX5_knot_24 : decode cX5_knot 24 = .ok (.goto 4, 3) := by decide +kernel
theorem dX5_knot_27 : decode cX5_knot 27 = .ok (.iconst 0, 1) := by decide +kernel
theorem dX5_knot_28 : decode cX5_knot 28 = .ok (.iconst 2, 1) := by decide +kernel
theorem dX5_knot_29 : decode cX5_knot 29 = .ok (.invokevirtual 55, 3) := by decide +kernel
theorem dX5_knot_32 : decode cX5_knot 32 = .ok (.ifCond .ne 5, 3) := by decide +kernel
theorem dX5_knot_35 : decode cX5_knot 35 = .ok (.iconst 0, 1) := by decide +kernel
theorem dX5_knot_36 : decode cX5_knot 36 = .ok (.ireturn, 1) := by decide +kernel
theorem dX5_knot_37 : decode cX5_knot 37 = .ok (.aload_n 0, 1) := by decide +kernel
theorem dX5_knot_38 : decode cX5_knot 38 = .ok (.getfield 19, 3) := by decide +kernel
theorem dX5_knot_41 : decode cX5_knot 41 = .ok (.bipush 48, 2) := by decide +kernel
theorem dX5_knot_43 : decode cX5_knot 43 = .ok (.iload_n 1, 1) := by decide +kernel
theorem dX5_knot_44 : decode cX5_knot 44 = .ok (.imul, 1) := by decide +kernel
theorem dX5_knot_45 : decode cX5_knot 45 = .ok (.iconst 3, 1) := by decide +kernel
theorem dX5_knot_46 : decode cX5_knot 46 = .ok (.iload_n 2, 1) := by decide +kernel
theorem dX5_knot_47 : decode cX5_knot 47 = .ok (.imul, 1) := by decide +kernel
theorem dX5_knot_48 : decode cX5_knot 48 = .ok (.iadd, 1) := by decide +kernel
theorem dX5_knot_49 : decode cX5_knot 49 = .ok (.iload_n 3, 1) := by decide +kernel
theorem dX5_knot_50 : decode cX5_knot 50 = .ok (.iadd, 1) := by decide +kernel
theorem dX5_knot_51 : decode cX5_knot 51 = .ok (.iaload, 1) := by decide +kernel
theorem dX5_knot_52 : decode cX5_knot 52 = .ok (.istore 5, 2) := by decide +kernel
theorem dX5_knot_54 : decode cX5_knot 54 = .ok (.iload 4, 2) := by decide +kernel
theorem dX5_knot_56 : decode cX5_knot 56 = .ok (.iconst (-1), 1) := by decide +kernel
theorem dX5_knot_57 : decode cX5_knot 57 = .ok (.if_icmp .eq 20, 3) := by decide +kernel
theorem dX5_knot_60 : decode cX5_knot 60 = .ok (.aload_n 0, 1) := by decide +kernel
theorem dX5_knot_61 : decode cX5_knot 61 = .ok (.getfield 19, 3) := by decide +kernel
theorem dX5_knot_64 : decode cX5_knot 64 = .ok (.bipush 48, 2) := by decide +kernel
theorem dX5_knot_66 : decode cX5_knot 66 = .ok (.iload_n 1, 1) := by decide +kernel
theorem dX5_knot_67 : decode cX5_knot 67 = .ok (.imul, 1) := by decide +kernel
theorem dX5_knot_68 : decode cX5_knot 68 = .ok (.iconst 3, 1) := by decide +kernel
theorem dX5_knot_69 : decode cX5_knot 69 = .ok (.iload_n 2, 1) := by decide +kernel
theorem dX5_knot_70 : decode cX5_knot 70 = .ok (.imul, 1) := by decide +kernel
theorem dX5_knot_71 : decode cX5_knot 71 = .ok (.iadd, 1) := by decide +kernel
theorem dX5_knot_72 : decode cX5_knot 72 = .ok (.iload_n 3, 1) := by decide +kernel
theorem dX5_knot_73 : decode cX5_knot 73 = .ok (.iadd, 1) := by decide +kernel
theorem dX5_knot_74 : decode cX5_knot 74 = .ok (.iload 4, 2) := by decide +kernel
theorem dX5_knot_76 : decode cX5_knot 76 = .ok (.iastore, 1) := by decide +kernel
theorem dX5_knot_77 : decode cX5_knot 77 = .ok (.iload 5, 2) := by decide +kernel
theorem dX5_knot_79 : decode cX5_knot 79 = .ok (.ireturn, 1) := by decide +kernel
set_option maxRecDepth 20000 in
theorem ggX5_stands_X5_knots : GoodIn wsX5_stands wsX5_knots := goodIn_r _ [7] (by decide +kernel) (by decide +kernel)
set_option maxRecDepth 20000 in
theorem gX5_stands_X5_knots : GoodIn wsX5_stands (va_wsS RX5 63 yX5_knots wsX5_knots) := goodIn_app (goodIn_of _ (by decide +kernel)) ggX5_stands_X5_knots
set_option maxRecDepth 20000 in
theorem ggX5_stands_X5_left : GoodIn wsX5_stands wsX5_left := goodIn_r _ [10] (by decide +kernel) (by decide +kernel)
set_option maxRecDepth 20000 in
theorem gX5_stands_X5_left : GoodIn wsX5_stands (va_wsS RX5 71 yX5_left wsX5_left) := goodIn_app (goodIn_of _ (by decide +kernel)) ggX5_stands_X5_left
theorem dX5_stands_0 : decode cX5_stands 0 = .ok (.iconst 0, 1) := by decide +kernel
theorem dX5_stands_1 : decode cX5_stands 1 = .ok (.istore_n 3, 1) := by decide +kernel
theorem dX5_stands_2 : decode cX5_stands 2 = .ok (.iload_n 3, 1) := by decide +kernel
theorem dX5_stands_3 : decode cX5_stands 3 = .ok (.bipush 6, 2) := by decide +kernel
theorem dX5_stands_5 : decode cX5_stands 5 = .ok (.if_icmp .ge 16, 3) := by decide +kernel
theorem dX5_stands_8 : decode cX5_stands 8 = .ok (.aload_n 0, 1) := by decide +kernel
theorem dX5_stands_9 : decode cX5_stands 9 = .ok (.getfield 34, 3) := by decide +kernel
theorem dX5_stands_12 : decode cX5_stands 12 = .ok (.iload_n 3, 1) := by decide +kernel
theorem dX5_stands_13 : decode cX5_stands 13 = .ok (.iload_n 3, 1) := by decide +kernel
theorem dX5_stands_14 : decode cX5_stands 14 = .ok (.iastore, 1) := by decide +kernel
theorem dX5_stands_15 : decode cX5_stands 15 = .ok (.iinc 3 1, 3) := by decide +kernel
theorem dX5_stands_18 : decode cX5_stands 18 = .ok (.goto (-16), 3) := by decide +kernel
theorem dX5_stands_21 : decode cX5_stands 21 = .ok (.iconst 0, 1) := by decide +kernel
theorem dX5_stands_22 : decode cX5_stands 22 = .ok (.istore_n 3, 1) := by decide +kernel
theorem dX5_stands_23 : decode cX5_stands 23 = .ok (.iload_n 3, 1) := by decide +kernel
theorem dX5_stands_24 : decode cX5_stands 24 = .ok (.iload_n 2, 1) := by decide +kernel
theorem dX5_stands_25 : decode cX5_stands 25 = .ok (.if_icmp .ge 100, 3) := by decide +kernel
theorem dX5_stands_28 : decode cX5_stands 28 = .ok (.iconst 0, 1) := by decide +kernel
theorem dX5_stands_29 : decode cX5_stands 29 = .ok (.istore 4, 2) := by decide +kernel
theorem dX5_stands_31 : decode cX5_stands 31 = .ok (.iload 4, 2) := by decide +kernel
theorem dX5_stands_33 : decode cX5_stands 33 = .ok (.aload_n 0, 1) := by decide +kernel
theorem dX5_stands_34 : decode cX5_stands 34 = .ok (.getfield 7, 3) := by decide +kernel
theorem dX5_stands_37 : decode cX5_stands 37 = .ok (.iload_n 1, 1) := by decide +kernel
theorem dX5_stands_38 : decode cX5_stands 38 = .ok (.iaload, 1) := by decide +kernel
theorem dX5_stands_39 : decode cX5_stands 39 = .ok (.iload_n 3, 1) := by decide +kernel
theorem dX5_stands_40 : decode cX5_stands 40 = .ok (.invokestatic 63, 3) := by decide +kernel
theorem dX5_stands_43 : decode cX5_stands 43 = .ok (.if_icmp .ge 76, 3) := by decide +kernel
theorem dX5_stands_46 : decode cX5_stands 46 = .ok (.aload_n 0, 1) := by decide +kernel
theorem dX5_stands_47 : decode cX5_stands 47 = .ok (.getfield 19, 3) := by decide +kernel
theorem dX5_stands_50 : decode cX5_stands 50 = .ok (.bipush 48, 2) := by decide +kernel
theorem dX5_stands_52 : decode cX5_stands 52 = .ok (.iload_n 1, 1) := by decide +kernel
theorem dX5_stands_53 : decode cX5_stands 53 = .ok (.imul, 1) := by decide +kernel
theorem dX5_stands_54 : decode cX5_stands 54 = .ok (.iconst 3, 1) := by decide +kernel
theorem dX5_stands_55 : decode cX5_stands 55 = .ok (.iload_n 3, 1) := by decide +kernel
theorem dX5_stands_56 : decode cX5_stands 56 = .ok (.imul, 1) := by decide +kernel
theorem dX5_stands_57 : decode cX5_stands 57 = .ok (.iadd, 1) := by decide +kernel
theorem dX5_stands_58 : decode cX5_stands 58 = .ok (.iload 4, 2) := by decide +kernel
theorem dX5_stands_60 : decode cX5_stands 60 = .ok (.iadd, 1) := by decide +kernel
theorem dX5_stands_61 : decode cX5_stands 61 = .ok (.iaload, 1) := by decide +kernel
theorem dX5_stands_62 : decode cX5_stands 62 = .ok (.iconst 1, 1) := by decide +kernel
theorem dX5_stands_63 : decode cX5_stands 63 = .ok (.if_icmp .le 6, 3) := by decide +kernel
theorem dX5_stands_66 : decode cX5_stands 66 = .ok (.goto 47, 3) := by decide +kernel
theorem dX5_stands_69 : decode cX5_stands 69 = .ok (.iload_n 3, 1) := by decide +kernel
theorem dX5_stands_70 : decode cX5_stands 70 = .ok (.iload 4, 2) := by decide +kernel
theorem dX5_stands_72 : decode cX5_stands 72 = .ok (.invokestatic 71, 3) := by decide +kernel
theorem dX5_stands_75 : decode cX5_stands 75 = .ok (.istore 5, 2) := by decide +kernel
theorem dX5_stands_77 : decode cX5_stands 77 = .ok (.aload_n 0, 1) := by decide +kernel
theorem dX5_stands_78 : decode cX5_stands 78 = .ok (.getfield 34, 3) := by decide +kernel
theorem dX5_stands_81 : decode cX5_stands 81 = .ok (.iload 5, 2) := by decide +kernel
theorem dX5_stands_83 : decode cX5_stands 83 = .ok (.iaload, 1) := by decide +kernel
theorem dX5_stands_84 : decode cX5_stands 84 = .ok (.istore 6, 2) := by decide +kernel
theorem dX5_stands_86 : decode cX5_stands 86 = .ok (.aload_n 0, 1) := by decide +kernel
theorem dX5_stands_87 : decode cX5_stands 87 = .ok (.getfield 34, 3) := by decide +kernel
theorem dX5_stands_90 : decode cX5_stands 90 = .ok (.iload 5, 2) := by decide +kernel
theorem dX5_stands_92 : decode cX5_stands 92 = .ok (.aload_n 0, 1) := by decide +kernel
theorem dX5_stands_93 : decode cX5_stands 93 = .ok (.getfield 34, 3) := by decide +kernel
theorem dX5_stands_96 : decode cX5_stands 96 = .ok (.iload 5, 2) := by decide +kernel
theorem dX5_stands_98 : decode cX5_stands 98 = .ok (.iconst 1, 1) := by decide +kernel
theorem dX5_stands_99 : decode cX5_stands 99 = .ok (.iadd, 1) := by decide +kernel
theorem dX5_stands_100 : decode cX5_stands 100 = .ok (.iaload, 1) := by decide +kernel
theorem dX5_stands_101 : decode cX5_stands 101 = .ok (.iastore, 1) := by decide +kernel
theorem dX5_stands_102 : decode cX5_stands 102 = .ok (.aload_n 0, 1) := by decide +kernel
theorem dX5_stands_103 : decode cX5_stands 103 = .ok (.getfield 34, 3) := by decide +kernel
theorem dX5_stands_106 : decode cX5_stands 106 = .ok (.iload 5, 2) := by decide +kernel
theorem dX5_stands_108 : decode cX5_stands 108 = .ok (.iconst 1, 1) := by decide +kernel
theorem dX5_stands_109 : decode cX5_stands 109 = .ok (.iadd, 1) := by decide +kernel
theorem dX5_stands_110 : decode cX5_stands 110 = .ok (.iload 6, 2) := by decide +kernel
theorem dX5_stands_112 : decode cX5_stands 112 = .ok (.iastore, 1) := by decide +kernel
theorem dX5_stands_113 : decode cX5_stands 113 = .ok (.iinc 4 1, 3) := by decide +kernel
theorem dX5_stands_116 : decode cX5_stands 116 = .ok (.goto (-85), 3) := by decide +kernel
theorem dX5_stands_119 : decode cX5_stands 119 = .ok (.iinc 3 1, 3) := by decide +kernel
theorem dX5_stands_122 : decode cX5_stands 122 = .ok (.goto (-99), 3) := by decide +kernel
theorem dX5_stands_125 : decode cX5_stands 125 = .ok (.return_, 1) := by decide +kernel
set_option maxRecDepth 20000 in
theorem ggX5_of_X5_left : GoodIn wsX5_of wsX5_left := goodIn_r _ [6] (by decide +kernel) (by decide +kernel)
set_option maxRecDepth 20000 in
theorem gX5_of_X5_left : GoodIn wsX5_of (va_wsS RX5 71 yX5_left wsX5_left) := goodIn_app (goodIn_of _ (by decide +kernel)) ggX5_of_X5_left
theorem dX5_of_0 : decode cX5_of 0 = .ok (.aload_n 0, 1) := by decide +kernel
theorem dX5_of_1 : decode cX5_of 1 = .ok (.getfield 19, 3) := by decide +kernel
theorem dX5_of_4 : decode cX5_of 4 = .ok (.bipush 48, 2) := by decide +kernel
theorem dX5_of_6 : decode cX5_of 6 = .ok (.iload_n 1, 1) := by decide +kernel
theorem dX5_of_7 : decode cX5_of 7 = .ok (.imul, 1) := by decide +kernel
theorem dX5_of_8 : decode cX5_of 8 = .ok (.iconst 3, 1) := by decide +kernel
theorem dX5_of_9 : decode cX5_of 9 = .ok (.iload_n 2, 1) := by decide +kernel
theorem dX5_of_10 : decode cX5_of 10 = .ok (.imul, 1) := by decide +kernel
theorem dX5_of_11 : decode cX5_of 11 = .ok (.iadd, 1) := by decide +kernel
theorem dX5_of_12 : decode cX5_of 12 = .ok (.iload_n 3, 1) := by decide +kernel
theorem dX5_of_13 : decode cX5_of 13 = .ok (.iadd, 1) := by decide +kernel
theorem dX5_of_14 : decode cX5_of 14 = .ok (.iaload, 1) := by decide +kernel
theorem dX5_of_15 : decode cX5_of 15 = .ok (.iconst 2, 1) := by decide +kernel
theorem dX5_of_16 : decode cX5_of 16 = .ok (.irem, 1) := by decide +kernel
theorem dX5_of_17 : decode cX5_of 17 = .ok (.ifCond .ne 7, 3) := by decide +kernel
theorem dX5_of_20 : decode cX5_of 20 = .ok (.iconst 1, 1) := by decide +kernel
theorem dX5_of_21 : decode cX5_of 21 = .ok (.goto 4, 3) := by decide +kernel
theorem dX5_of_24 : decode cX5_of 24 = .ok (.iconst 0, 1) := by decide +kernel
theorem dX5_of_25 : decode cX5_of 25 = .ok (.istore 5, 2) := by decide +kernel
theorem dX5_of_27 : decode cX5_of 27 = .ok (.aload_n 0, 1) := by decide +kernel
theorem dX5_of_28 : decode cX5_of 28 = .ok (.getfield 34, 3) := by decide +kernel
theorem dX5_of_31 : decode cX5_of 31 = .ok (.iload_n 2, 1) := by decide +kernel
theorem dX5_of_32 : decode cX5_of 32 = .ok (.iload_n 3, 1) := by decide +kernel
theorem dX5_of_33 : decode cX5_of 33 = .ok (.invokestatic 71, 3) := by decide +kernel
theorem dX5_of_36 : decode cX5_of 36 = .ok (.iload 5, 2) := by decide +kernel
theorem dX5_of_38 : decode cX5_of 38 = .ok (.iload 4, 2) := by decide +kernel
theorem dX5_of_40 : decode cX5_of 40 = .ok (.if_icmp .ne 7, 3) := by decide +kernel
theorem dX5_of_43 : decode cX5_of 43 = .ok (.iconst 0, 1) := by decide +kernel
theorem dX5_of_44 : decode cX5_of 44 = .ok (.goto 4, 3) := by decide +kernel
theorem dX5_of_47 : decode cX5_of 47 = .ok (.iconst 1, 1) := by decide +kernel
theorem dX5_of_48 : decode cX5_of 48 = .ok (.iadd, 1) := by decide +kernel
theorem dX5_of_49 : decode cX5_of 49 = .ok (.iaload, 1) := by decide +kernel
theorem dX5_of_50 : decode cX5_of 50 = .ok (.ireturn, 1) := by decide +kernel
set_option maxRecDepth 20000 in
theorem ggX5_showsOf_X5_stands : GoodIn wsX5_showsOf wsX5_stands := goodIn_r _ [6, 7, 8, 9, 10, 11, 5, 12, 13, 14, 15, 20, 21, 22, 23, 24, 25, 26, 27, 28, 29, 30, 31, 32, 33, 34] (by decide +kernel) (by decide +kernel)
set_option maxRecDepth 20000 in
theorem gX5_showsOf_X5_stands : GoodIn wsX5_showsOf (wsV RX5 74 RX5 yX5_stands wsX5_stands) := goodIn_app (goodIn_of _ (by decide +kernel)) ggX5_showsOf_X5_stands
set_option maxRecDepth 20000 in
theorem ggX5_showsOf_X5_of : GoodIn wsX5_showsOf wsX5_of := goodIn_r _ [19, 9, 7, 13, 14, 5, 15, 20, 21, 22, 23, 24, 25, 26, 27, 28, 29, 30, 31, 32, 33, 34] (by decide +kernel) (by decide +kernel)
set_option maxRecDepth 20000 in
theorem gX5_showsOf_X5_of : GoodIn wsX5_showsOf (wsV RX5 78 RX5 yX5_of wsX5_of) := goodIn_app (goodIn_of _ (by decide +kernel)) ggX5_showsOf_X5_of
theorem dX5_showsOf_0 : decode cX5_showsOf 0 = .ok (.aload_n 0, 1) := by decide +kernel
theorem dX5_showsOf_1 : decode cX5_showsOf 1 = .ok (.iload_n 1, 1) := by decide +kernel
theorem dX5_showsOf_2 : decode cX5_showsOf 2 = .ok (.iload_n 2, 1) := by decide +kernel
theorem dX5_showsOf_3 : decode cX5_showsOf 3 = .ok (.invokevirtual 74, 3) := by decide +kernel
theorem dX5_showsOf_6 : decode cX5_showsOf 6 = .ok (.aload_n 0, 1) := by decide +kernel
theorem dX5_showsOf_7 : decode cX5_showsOf 7 = .ok (.getfield 16, 3) := by decide +kernel
theorem dX5_showsOf_10 : decode cX5_showsOf 10 = .ok (.bipush 6, 2) := by decide +kernel
theorem dX5_showsOf_12 : decode cX5_showsOf 12 = .ok (.iload_n 1, 1) := by decide +kernel
theorem dX5_showsOf_13 : decode cX5_showsOf 13 = .ok (.imul, 1) := by decide +kernel
theorem dX5_showsOf_14 : decode cX5_showsOf 14 = .ok (.aload_n 0, 1) := by decide +kernel
theorem dX5_showsOf_15 : decode cX5_showsOf 15 = .ok (.iload_n 1, 1) := by decide +kernel
theorem dX5_showsOf_16 : decode cX5_showsOf 16 = .ok (.iload_n 2, 1) := by decide +kernel
theorem dX5_showsOf_17 : decode cX5_showsOf 17 = .ok (.iload_n 3, 1) := by decide +kernel
theorem dX5_showsOf_18 : decode cX5_showsOf 18 = .ok (.iconst 1, 1) := by decide +kernel
theorem dX5_showsOf_19 : decode cX5_showsOf 19 = .ok (.invokevirtual 78, 3) := by decide +kernel
theorem dX5_showsOf_22 : decode cX5_showsOf 22 = .ok (.iadd, 1) := by decide +kernel
theorem dX5_showsOf_23 : decode cX5_showsOf 23 = .ok (.iaload, 1) := by decide +kernel
theorem dX5_showsOf_24 : decode cX5_showsOf 24 = .ok (.ireturn, 1) := by decide +kernel
set_option maxRecDepth 20000 in
theorem ggX5_shows_X5_isKnot : GoodIn wsX5_shows wsX5_isKnot := goodIn_r _ [5, 6, 7, 8, 9, 10, 4, 11, 12, 13, 14, 15, 16, 17, 18, 19, 20, 39, 40, 41, 42, 43, 44, 45, 46, 47, 48, 49, 50, 51, 52, 53] (by decide +kernel) (by decide +kernel)
set_option maxRecDepth 20000 in
theorem gX5_shows_X5_isKnot : GoodIn wsX5_shows (wsV RX5 67 RX5 yX5_isKnot wsX5_isKnot) := goodIn_app (goodIn_of _ (by decide +kernel)) ggX5_shows_X5_isKnot
set_option maxRecDepth 20000 in
theorem ggX5_shows_X5_showsOf : GoodIn wsX5_shows wsX5_showsOf := goodIn_r _ [24, 25, 26, 27, 28, 4, 29, 30, 7, 31, 18, 19, 20, 32, 33, 34, 35, 36, 37, 38, 39, 40, 41, 42, 43, 44, 45, 46, 47, 48, 49, 50, 51, 52, 53] (by decide +kernel) (by decide +kernel)
set_option maxRecDepth 20000 in
theorem gX5_shows_X5_showsOf : GoodIn wsX5_shows (wsV RX5 82 RX5 yX5_showsOf wsX5_showsOf) := goodIn_app (goodIn_of _ (by decide +kernel)) ggX5_shows_X5_showsOf
theorem dX5_shows_0 : decode cX5_shows 0 = .ok (.aload_n 0, 1) := by decide +kernel
theorem dX5_shows_1 : decode cX5_shows 1 = .ok (.iload_n 1, 1) := by decide +kernel
theorem dX5_shows_2 : decode cX5_shows 2 = .ok (.iload_n 2, 1) := by decide +kernel
theorem dX5_shows_3 : decode cX5_shows 3 = .ok (.iload_n 3, 1) := by decide +kernel
theorem dX5_shows_4 : decode cX5_shows 4 = .ok (.invokevirtual 67, 3) := by decide +kernel
theorem dX5_shows_7 : decode cX5_shows 7 = .ok (.ifCond .eq 13, 3) := by decide +kernel
theorem dX5_shows_10 : decode cX5_shows 10 = .ok (.aload_n 0, 1) := by decide +kernel
theorem dX5_shows_11 : decode cX5_shows 11 = .ok (.iload_n 1, 1) := by decide +kernel
theorem dX5_shows_12 : decode cX5_shows 12 = .ok (.iload_n 2, 1) := by decide +kernel
theorem dX5_shows_13 : decode cX5_shows 13 = .ok (.iload_n 3, 1) := by decide +kernel
theorem dX5_shows_14 : decode cX5_shows 14 = .ok (.invokevirtual 82, 3) := by decide +kernel
theorem dX5_shows_17 : decode cX5_shows 17 = .ok (.goto 4, 3) := by decide +kernel
theorem dX5_shows_20 : decode cX5_shows 20 = .ok (.iconst 0, 1) := by decide +kernel
theorem dX5_shows_21 : decode cX5_shows 21 = .ok (.ireturn, 1) := by decide +kernel
set_option maxRecDepth 20000 in
theorem ggX5_thread_X5_isBand : GoodIn wsX5_thread wsX5_isBand := goodIn_r _ [8, 9, 10, 11, 12, 13, 7, 14, 26, 27, 28, 29, 30, 31, 32, 33, 34, 35, 36, 37, 38, 39, 40] (by decide +kernel) (by decide +kernel)
set_option maxRecDepth 20000 in
theorem gX5_thread_X5_isBand : GoodIn wsX5_thread (wsV RX5 59 RX5 yX5_isBand wsX5_isBand) := goodIn_app (goodIn_of _ (by decide +kernel)) ggX5_thread_X5_isBand
set_option maxRecDepth 20000 in
theorem ggX5_thread_X5_right : GoodIn wsX5_thread wsX5_right := goodIn_r _ [14, 9, 26, 27, 28, 29, 30, 31, 32, 33, 34, 35, 36, 37, 38, 39, 40] (by decide +kernel) (by decide +kernel)
set_option maxRecDepth 20000 in
theorem gX5_thread_X5_right : GoodIn wsX5_thread (wsV RX5 55 RX5 yX5_right wsX5_right) := goodIn_app (goodIn_of _ (by decide +kernel)) ggX5_thread_X5_right
set_option maxRecDepth 20000 in
theorem ggX5_thread_X5_stands : GoodIn wsX5_thread wsX5_stands := goodIn_r _ [18, 3, 2, 19, 20, 21, 7, 22, 23, 24, 25, 26, 27, 28, 29, 30, 31, 32, 33, 34, 35, 36, 37, 38, 39, 40] (by decide +kernel) (by decide +kernel)
set_option maxRecDepth 20000 in
theorem gX5_thread_X5_stands : GoodIn wsX5_thread (wsV RX5 74 RX5 yX5_stands wsX5_stands) := goodIn_app (goodIn_of _ (by decide +kernel)) ggX5_thread_X5_stands
