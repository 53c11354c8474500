theorem dX7_middle_0 : decode cX7_middle 0 = .ok (.aload_n 0, 1) := by decide +kernel
theorem dX7_middle_1 : decode cX7_middle 1 = .ok (.getfield 10, 3) := by decide +kernel
theorem dX7_middle_4 : decode cX7_middle 4 = .ok (.getfield 171, 3) := by decide +kernel
theorem dX7_middle_7 : decode cX7_middle 7 = .ok (.ifCond .ne 10, 3) := by decide +kernel
theorem dX7_middle_10 : decode cX7_middle 10 = .ok (.aload_n 0, 1) := by decide +kernel
theorem dX7_middle_11 : decode cX7_middle 11 = .ok (.bipush (-5), 2) := by decide +kernel
theorem dX7_middle_13 : decode cX7_middle 13 = .ok (.invokevirtual 73, 3) := by decide +kernel
theorem dX7_middle_16 : decode cX7_middle 16 = .ok (.ireturn, 1) := by decide +kernel
theorem dX7_middle_17 : decode cX7_middle 17 = .ok (.aload_n 0, 1) := by decide +kernel
theorem dX7_middle_18 : decode cX7_middle 18 = .ok (.getfield 61, 3) := by decide +kernel
theorem dX7_middle_21 : decode cX7_middle 21 = .ok (.iconst 0, 1) := by decide +kernel
theorem dX7_middle_22 : decode cX7_middle 22 = .ok (.aload_n 0, 1) := by decide +kernel
theorem dX7_middle_23 : decode cX7_middle 23 = .ok (.getfield 10, 3) := by decide +kernel
theorem dX7_middle_26 : decode cX7_middle 26 = .ok (.iconst 0, 1) := by decide +kernel
theorem dX7_middle_27 : decode cX7_middle 27 = .ok (.invokevirtual 309, 3) := by decide +kernel
theorem dX7_middle_30 : decode cX7_middle 30 = .ok (.ineg, 1) := by decide +kernel
theorem dX7_middle_31 : decode cX7_middle 31 = .ok (.invokevirtual 242, 3) := by decide +kernel
theorem dX7_middle_34 : decode cX7_middle 34 = .ok (.iconst 1, 1) := by decide +kernel
theorem dX7_middle_35 : decode cX7_middle 35 = .ok (.istore_n 1, 1) := by decide +kernel
theorem dX7_middle_36 : decode cX7_middle 36 = .ok (.iload_n 1, 1) := by decide +kernel
theorem dX7_middle_37 : decode cX7_middle 37 = .ok (.aload_n 0, 1) := by decide +kernel
theorem dX7_middle_38 : decode cX7_middle 38 = .ok (.getfield 10, 3) := by decide +kernel
theorem dX7_middle_41 : decode cX7_middle 41 = .ok (.getfield 152, 3) := by decide +kernel
theorem dX7_middle_44 : decode cX7_middle 44 = .ok (.if_icmp .ge 26, 3) := by decide +kernel
theorem dX7_middle_47 : decode cX7_middle 47 = .ok (.aload_n 0, 1) := by decide +kernel
theorem dX7_middle_48 : decode cX7_middle 48 = .ok (.getfield 61, 3) := by decide +kernel
theorem dX7_middle_51 : decode cX7_middle 51 = .ok (.iload_n 1, 1) := by decide +kernel
theorem dX7_middle_52 : decode cX7_middle 52 = .ok (.aload_n 0, 1) := by decide +kernel
theorem dX7_middle_53 : decode cX7_middle 53 = .ok (.getfield 10, 3) := by decide +kernel
theorem dX7_middle_56 : decode cX7_middle 56 = .ok (.iload_n 1, 1) := by decide +kernel
theorem dX7_middle_57 : decode cX7_middle 57 = .ok (.invokevirtual 309, 3) := by decide +kernel
theorem dX7_middle_60 : decode cX7_middle 60 = .ok (.ineg, 1) := by decide +kernel
theorem dX7_middle_61 : decode cX7_middle 61 = .ok (.invokevirtual 248, 3) := by decide +kernel
theorem dX7_middle_64 : decode cX7_middle 64 = .ok (.iinc 1 1, 3) := by decide +kernel
theorem dX7_middle_67 : decode cX7_middle 67 = .ok (.goto (-31), 3) := by decide +kernel
theorem dX7_middle_70 : decode cX7_middle 70 = .ok (.aload_n 0, 1) := by decide +kernel
theorem dX7_middle_71 : decode cX7_middle 71 = .ok (.getfield 61, 3) := by decide +kernel
theorem dX7_middle_74 : decode cX7_middle 74 = .ok (.getfield 251, 3) := by decide +kernel
theorem dX7_middle_77 : decode cX7_middle 77 = .ok (.ireturn, 1) := by decide +kernel
set_option maxRecDepth 20000 in
theorem ggX7_parts_X5_isFirstOfPart : GoodIn wsX7_parts wsX5_isFirstOfPart := goodIn_r _ [7, 8, 9, 10, 6, 11, 12, 25, 26, 27, 28, 29, 30, 31, 32, 33, 34, 35, 36] (by decide +kernel) (by decide +kernel)
set_option maxRecDepth 20000 in
theorem gX7_parts_X5_isFirstOfPart : GoodIn wsX7_parts (wsV RX7 312 RX5 yX5_isFirstOfPart wsX5_isFirstOfPart) := goodIn_app (goodIn_of _ (by decide +kernel)) ggX7_parts_X5_isFirstOfPart
theorem dX7_parts_0 : decode cX7_parts 0 = .ok (.iconst 0, 1) := by decide +kernel
theorem dX7_parts_1 : decode cX7_parts 1 = .ok (.istore_n 1, 1) := by decide +kernel
theorem dX7_parts_2 : decode cX7_parts 2 = .ok (.iconst 0, 1) := by decide +kernel
theorem dX7_parts_3 : decode cX7_parts 3 = .ok (.istore_n 2, 1) := by decide +kernel
theorem dX7_parts_4 : decode cX7_parts 4 = .ok (.iload_n 2, 1) := by decide +kernel
theorem dX7_parts_5 : decode cX7_parts 5 = .ok (.aload_n 0, 1) := by decide +kernel
theorem dX7_parts_6 : decode cX7_parts 6 = .ok (.getfield 10, 3) := by decide +kernel
theorem dX7_parts_9 : decode cX7_parts 9 = .ok (.getfield 152, 3) := by decide +kernel
theorem dX7_parts_12 : decode cX7_parts 12 = .ok (.if_icmp .ge 23, 3) := by decide +kernel
theorem dX7_parts_15 : decode cX7_parts 15 = .ok (.aload_n 0, 1) := by decide +kernel
theorem dX7_parts_16 : decode cX7_parts 16 = .ok (.getfield 10, 3) := by decide +kernel
theorem dX7_parts_19 : decode cX7_parts 19 = .ok (.iload_n 2, 1) := by decide +kernel
theorem dX7_parts_20 : decode cX7_parts 20 = .ok (.invokevirtual 312, 3) := by decide +kernel
theorem dX7_parts_23 : decode cX7_parts 23 = .ok (.ifCond .eq 6, 3) := by decide +kernel
theorem dX7_parts_26 : decode cX7_parts 26 = .ok (.iinc 1 1, 3) := by decide +kernel
theorem dX7_parts_29 : decode cX7_parts 29 = .ok (.iinc 2 1, 3) := by decide +kernel
theorem dX7_parts_32 : decode cX7_parts 32 = .ok (.goto (-28), 3) := by decide +kernel
theorem dX7_parts_35 : decode cX7_parts 35 = .ok (.iload_n 1, 1) := by decide +kernel
theorem dX7_parts_36 : decode cX7_parts 36 = .ok (.ireturn, 1) := by decide +kernel
set_option maxRecDepth 20000 in
theorem ggX7_newWay_X5_distance : GoodIn wsX7_newWay wsX5_distance := goodIn_r _ [7, 8, 26, 27, 28, 29, 30, 31, 32, 33, 34, 35, 36, 37] (by decide +kernel) (by decide +kernel)
set_option maxRecDepth 20000 in
theorem gX7_newWay_X5_distance : GoodIn wsX7_newWay (wsV RX7 212 RX5 yX5_distance wsX5_distance) := goodIn_app (goodIn_of _ (by decide +kernel)) ggX7_newWay_X5_distance
set_option maxRecDepth 20000 in
theorem ggX7_newWay_X5_hasWay : GoodIn wsX7_newWay wsX5_hasWay := goodIn_r _ [12, 13, 26, 27, 28, 29, 30, 31, 32, 33, 34, 35, 36, 37] (by decide +kernel) (by decide +kernel)
set_option maxRecDepth 20000 in
theorem gX7_newWay_X5_hasWay : GoodIn wsX7_newWay (wsV RX7 158 RX5 yX5_hasWay wsX5_hasWay) := goodIn_app (goodIn_of _ (by decide +kernel)) ggX7_newWay_X5_hasWay
theorem dX7_newWay_0 : decode cX7_newWay 0 = .ok (.iconst (-1), 1) := by decide +kernel
theorem dX7_newWay_1 : decode cX7_newWay 1 = .ok (.istore_n 1, 1) := by decide +kernel
theorem dX7_newWay_2 : decode cX7_newWay 2 = .ok (.iconst 0, 1) := by decide +kernel
theorem dX7_newWay_3 : decode cX7_newWay 3 = .ok (.istore_n 2, 1) := by decide +kernel
theorem dX7_newWay_4 : decode cX7_newWay 4 = .ok (.iload_n 2, 1) := by decide +kernel
theorem dX7_newWay_5 : decode cX7_newWay 5 = .ok (.aload_n 0, 1) := by decide +kernel
theorem dX7_newWay_6 : decode cX7_newWay 6 = .ok (.getfield 10, 3) := by decide +kernel
theorem dX7_newWay_9 : decode cX7_newWay 9 = .ok (.getfield 152, 3) := by decide +kernel
theorem dX7_newWay_12 : decode cX7_newWay 12 = .ok (.if_icmp .ge 74, 3) := by decide +kernel
theorem dX7_newWay_15 : decode cX7_newWay 15 = .ok (.iload_n 2, 1) := by decide +kernel
theorem dX7_newWay_16 : decode cX7_newWay 16 = .ok (.iconst 1, 1) := by decide +kernel
theorem dX7_newWay_17 : decode cX7_newWay 17 = .ok (.iadd, 1) := by decide +kernel
theorem dX7_newWay_18 : decode cX7_newWay 18 = .ok (.istore_n 3, 1) := by decide +kernel
theorem dX7_newWay_19 : decode cX7_newWay 19 = .ok (.iload_n 3, 1) := by decide +kernel
theorem dX7_newWay_20 : decode cX7_newWay 20 = .ok (.aload_n 0, 1) := by decide +kernel
theorem dX7_newWay_21 : decode cX7_newWay 21 = .ok (.getfield 10, 3) := by decide +kernel
theorem dX7_newWay_24 : decode cX7_newWay 24 = .ok (.getfield 152, 3) := by decide +kernel
theorem dX7_newWay_27 : decode cX7_newWay 27 = .ok (.if_icmp .ge 53, 3) := by decide +kernel
theorem dX7_newWay_30 : decode cX7_newWay 30 = .ok (.aload_n 0, 1) := by decide +kernel
theorem dX7_newWay_31 : decode cX7_newWay 31 = .ok (.getfield 10, 3) := by decide +kernel
theorem dX7_newWay_34 : decode cX7_newWay 34 = .ok (.iload_n 2, 1) := by decide +kernel
theorem dX7_newWay_35 : decode cX7_newWay 35 = .ok (.iload_n 3, 1) := by decide +kernel
theorem dX7_newWay_36 : decode cX7_newWay 36 = .ok (.invokevirtual 212, 3) := by decide +kernel
theorem dX7_newWay_39 : decode cX7_newWay 39 = .ok (.iconst (-1), 1) := by decide +kernel
theorem dX7_newWay_40 : decode cX7_newWay 40 = .ok (.if_icmp .ne 10, 3) := by decide +kernel
theorem dX7_newWay_43 : decode cX7_newWay 43 = .ok (.bipush 100, 2) := by decide +kernel
theorem dX7_newWay_45 : decode cX7_newWay 45 = .ok (.iload_n 2, 1) := by decide +kernel
theorem dX7_newWay_46 : decode cX7_newWay 46 = .ok (.imul, 1) := by decide +kernel
theorem dX7_newWay_47 : decode cX7_newWay 47 = .ok (.iload_n 3, 1) := by decide +kernel
theorem dX7_newWay_48 : decode cX7_newWay 48 = .ok (.iadd, 1) := by decide +kernel
theorem dX7_newWay_49 : decode cX7_newWay 49 = .ok (.ireturn, 1) := by decide +kernel
theorem dX7_newWay_50 : decode cX7_newWay 50 = .ok (.iload_n 1, 1) := by decide +kernel
theorem dX7_newWay_51 : decode cX7_newWay 51 = .ok (.iconst (-1), 1) := by decide +kernel
theorem dX7_newWay_52 : decode cX7_newWay 52 = .ok (.if_icmp .ne 22, 3) := by decide +kernel
theorem dX7_newWay_55 : decode cX7_newWay 55 = .ok (.aload_n 0, 1) := by decide +kernel
theorem dX7_newWay_56 : decode cX7_newWay 56 = .ok (.getfield 10, 3) := by decide +kernel
theorem dX7_newWay_59 : decode cX7_newWay 59 = .ok (.iload_n 2, 1) := by decide +kernel
theorem dX7_newWay_60 : decode cX7_newWay 60 = .ok (.iload_n 3, 1) := by decide +kernel
theorem dX7_newWay_61 : decode cX7_newWay 61 = .ok (.invokevirtual 158, 3) := by decide +kernel
theorem dX7_newWay_64 : decode cX7_newWay 64 = .ok (.ifCond .ne 10, 3) := by decide +kernel
theorem dX7_newWay_67 : decode cX7_newWay 67 = .ok (.bipush 100, 2) := by decide +kernel
theorem dX7_newWay_69 : decode cX7_newWay 69 = .ok (.iload_n 2, 1) := by decide +kernel
theorem dX7_newWay_70 : decode cX7_newWay 70 = .ok (.imul, 1) := by decide +kernel
theorem dX7_newWay_71 : decode cX7_newWay 71 = .ok (.iload_n 3, 1) := by decide +kernel
theorem dX7_newWay_72 : decode cX7_newWay 72 = .ok (.iadd, 1) := by decide +kernel
theorem dX7_newWay_73 : decode cX7_newWay 73 = .ok (.istore_n 1, 1) := by decide +kernel
theorem dX7_newWay_74 : decode cX7_newWay 74 = .ok (.iinc 3 1, 3) := by decide +kernel
theorem dX7_newWay_77 : decode cX7_newWay 77 = .ok (.goto (-58), 3) := by decide +kernel
theorem dX7_newWay_80 : decode cX7_newWay 80 = .ok (.iinc 2 1, 3) := by decide +kernel
theorem dX7_newWay_83 : decode cX7_newWay 83 = .ok (.goto (-79), 3) := by decide +kernel
theorem dX7_newWay_86 : decode cX7_newWay 86 = .ok (.iload_n 1, 1) := by decide +kernel
theorem dX7_newWay_87 : decode cX7_newWay 87 = .ok (.ireturn, 1) := by decide +kernel
set_option maxRecDepth 20000 in
theorem ggX7_together_X7_areTwoPeople : GoodIn wsX7_together wsX7_areTwoPeople := goodIn_r _ [8, 9, 10, 11, 7, 12, 2, 13, 89, 90, 91, 92, 93, 94, 95, 96, 97, 98, 99, 100, 101, 102, 103, 104, 105, 106, 107, 108, 109, 110, 111, 112] (by decide +kernel) (by decide +kernel)
set_option maxRecDepth 20000 in
theorem gX7_together_X7_areTwoPeople : GoodIn wsX7_together (wsV RX7 282 RX7 yX7_areTwoPeople wsX7_areTwoPeople) := goodIn_app (goodIn_of _ (by decide +kernel)) ggX7_together_X7_areTwoPeople
set_option maxRecDepth 20000 in
theorem ggX7_together_X7_isAhead : GoodIn wsX7_together wsX7_isAhead := goodIn_r _ [16] (by decide +kernel) (by decide +kernel)
set_option maxRecDepth 20000 in
theorem gX7_together_X7_isAhead : GoodIn wsX7_together (va_wsS RX7 215 yX7_isAhead wsX7_isAhead) := goodIn_app (goodIn_of _ (by decide +kernel)) ggX7_together_X7_isAhead
set_option maxRecDepth 20000 in
theorem ggX7_together_X7_refuse : GoodIn wsX7_together wsX7_refuse := goodIn_r _ [20, 21, 89, 90, 91, 92, 93, 94, 95, 96, 97, 98, 99, 100] (by decide +kernel) (by decide +kernel)
set_option maxRecDepth 20000 in
theorem gX7_together_X7_refuse : GoodIn wsX7_together (wsV RX7 73 RX7 yX7_refuse wsX7_refuse) := goodIn_app (goodIn_of _ (by decide +kernel)) ggX7_together_X7_refuse
set_option maxRecDepth 20000 in
theorem ggX7_together_X5_become : GoodIn wsX7_together wsX5_become := goodIn_r _ [26, 27, 28, 29, 30, 31, 32, 33, 34, 35, 36, 37, 38, 39, 40, 41, 42, 101, 102, 103, 104, 105, 106, 107, 108, 109, 110, 111, 112] (by decide +kernel) (by decide +kernel)
set_option maxRecDepth 20000 in
theorem gX7_together_X5_become : GoodIn wsX7_together (wsV RX7 198 RX5 yX5_become wsX5_become) := goodIn_app (goodIn_of _ (by decide +kernel)) ggX7_together_X5_become
set_option maxRecDepth 20000 in
theorem ggX7_together_X5_passHour : GoodIn wsX7_together wsX5_passHour := goodIn_r _ [46, 34, 39, 47, 48, 49, 25, 50, 51, 52, 53, 54, 35, 55, 56, 57, 58, 38, 37, 59, 60, 61, 62, 40, 63, 64, 65, 66, 27, 67, 68, 69, 70, 33, 71, 72, 73, 74, 28, 75, 76, 77, 78, 79, 7, 80, 81, 82, 83, 84, 85, 86, 87, 88, 101, 102, 103, 104, 105, 106, 107, 108, 109, 110, 111, 112] (by decide +kernel) (by decide +kernel)
set_option maxRecDepth 20000 in
theorem gX7_together_X5_passHour : GoodIn wsX7_together (wsV RX7 285 RX5 yX5_passHour wsX5_passHour) := goodIn_app (goodIn_of _ (by decide +kernel)) ggX7_together_X5_passHour
theorem dX7_together_0 : decode cX7_together 0 = .ok (.aload_n 0, 1) := by decide +kernel
theorem dX7_together_1 : decode cX7_together 1 = .ok (.iload_n 1, 1) := by decide +kernel
theorem dX7_together_2 : decode cX7_together 2 = .ok (.iload_n 2, 1) := by decide +kernel
theorem dX7_together_3 : decode cX7_together 3 = .ok (.invokevirtual 282, 3) := by decide +kernel
theorem dX7_together_6 : decode cX7_together 6 = .ok (.ifCond .eq 10, 3) := by decide +kernel
theorem dX7_together_9 : decode cX7_together 9 = .ok (.iload_n 3, 1) := by decide +kernel
theorem dX7_together_10 : decode cX7_together 10 = .ok (.invokestatic 215, 3) := by decide +kernel
theorem dX7_together_13 : decode cX7_together 13 = .ok (.ifCond .ne 10, 3) := by decide +kernel
theorem dX7_together_16 : decode cX7_together 16 = .ok (.aload_n 0, 1) := by decide +kernel
theorem dX7_together_17 : decode cX7_together 17 = .ok (.bipush (-2), 2) := by decide +kernel
theorem dX7_together_19 : decode cX7_together 19 = .ok (.invokevirtual 73, 3) := by decide +kernel
theorem dX7_together_22 : decode cX7_together 22 = .ok (.ireturn, 1) := by decide +kernel
theorem dX7_together_23 : decode cX7_together 23 = .ok (.iconst 0, 1) := by decide +kernel
theorem dX7_together_24 : decode cX7_together 24 = .ok (.istore 4, 2) := by decide +kernel
theorem dX7_together_26 : decode cX7_together 26 = .ok (.aload_n 0, 1) := by decide +kernel
theorem dX7_together_27 : decode cX7_together 27 = .ok (.getfield 16, 3) := by decide +kernel
theorem dX7_together_30 : decode cX7_together 30 = .ok (.aload_n 0, 1) := by decide +kernel
theorem dX7_together_31 : decode cX7_together 31 = .ok (.getfield 10, 3) := by decide +kernel
theorem dX7_together_34 : decode cX7_together 34 = .ok (.invokevirtual 198, 3) := by decide +kernel
theorem dX7_together_37 : decode cX7_together 37 = .ok (.iconst 0, 1) := by decide +kernel
theorem dX7_together_38 : decode cX7_together 38 = .ok (.istore 5, 2) := by decide +kernel
theorem dX7_together_40 : decode cX7_together 40 = .ok (.iload 5, 2) := by decide +kernel
theorem dX7_together_42 : decode cX7_together 42 = .ok (.iload_n 3, 1) := by decide +kernel
theorem dX7_together_43 : decode cX7_together 43 = .ok (.if_icmp .gt 41, 3) := by decide +kernel
theorem dX7_together_46 : decode cX7_together 46 = .ok (.aload_n 0, 1) := by decide +kernel
theorem dX7_together_47 : decode cX7_together 47 = .ok (.getfield 16, 3) := by decide +kernel
theorem dX7_together_50 : decode cX7_together 50 = .ok (.getfield 149, 3) := by decide +kernel
theorem dX7_together_53 : decode cX7_together 53 = .ok (.iload_n 1, 1) := by decide +kernel
theorem dX7_together_54 : decode cX7_together 54 = .ok (.iaload, 1) := by decide +kernel
theorem dX7_together_55 : decode cX7_together 55 = .ok (.aload_n 0, 1) := by decide +kernel
theorem dX7_together_56 : decode cX7_together 56 = .ok (.getfield 16, 3) := by decide +kernel
theorem dX7_together_59 : decode cX7_together 59 = .ok (.getfield 149, 3) := by decide +kernel
theorem dX7_together_62 : decode cX7_together 62 = .ok (.iload_n 2, 1) := by decide +kernel
theorem dX7_together_63 : decode cX7_together 63 = .ok (.iaload, 1) := by decide +kernel
theorem dX7_together_64 : decode cX7_together 64 = .ok (.if_icmp .ne 6, 3) := by decide +kernel
theorem dX7_together_67 : decode cX7_together 67 = .ok (.iinc 4 1, 3) := by decide +kernel
theorem dX7_together_70 : decode cX7_together 70 = .ok (.aload_n 0, 1) := by decide +kernel
theorem dX7_together_71 : decode cX7_together 71 = .ok (.getfield 16, 3) := by decide +kernel
theorem dX7_together_74 : decode cX7_together 74 = .ok (.invokevirtual 285, 3) := by decide +kernel
theorem dX7_together_77 : decode cX7_together 77 = .ok (.pop, 1) := by decide +kernel
theorem dX7_together_78 : decode cX7_together 78 = .ok (.iinc 5 1, 3) := by decide +kernel
theorem dX7_together_81 : decode cX7_together 81 = .ok (.goto (-41), 3) := by decide +kernel
theorem dX7_together_84 : decode cX7_together 84 = .ok (.iload 4, 2) := by decide +kernel
theorem dX7_together_86 : decode cX7_together 86 = .ok (.ireturn, 1) := by decide +kernel
set_option maxRecDepth 20000 in
theorem ggX7_alone_X7_isPerson : GoodIn wsX7_alone wsX7_isPerson := goodIn_r _ [7, 2, 8, 89, 90, 91, 92, 93, 94, 95, 96, 97, 98, 99, 100, 101, 102, 103, 104, 105, 106, 107, 108, 109, 110, 111, 112] (by decide +kernel) (by decide +kernel)
set_option maxRecDepth 20000 in
theorem gX7_alone_X7_isPerson : GoodIn wsX7_alone (wsV RX7 113 RX7 yX7_isPerson wsX7_isPerson) := goodIn_app (goodIn_of _ (by decide +kernel)) ggX7_alone_X7_isPerson
set_option maxRecDepth 20000 in
theorem ggX7_alone_X7_isAhead : GoodIn wsX7_alone wsX7_isAhead := goodIn_r _ [11] (by decide +kernel) (by decide +kernel)
set_option maxRecDepth 20000 in
theorem gX7_alone_X7_isAhead : GoodIn wsX7_alone (va_wsS RX7 215 yX7_isAhead wsX7_isAhead) := goodIn_app (goodIn_of _ (by decide +kernel)) ggX7_alone_X7_isAhead
set_option maxRecDepth 20000 in
theorem ggX7_alone_X7_refuse : GoodIn wsX7_alone wsX7_refuse := goodIn_r _ [15, 16, 89, 90, 91, 92, 93, 94, 95, 96, 97, 98, 99, 100] (by decide +kernel) (by decide +kernel)
set_option maxRecDepth 20000 in
theorem gX7_alone_X7_refuse : GoodIn wsX7_alone (wsV RX7 73 RX7 yX7_refuse wsX7_refuse) := goodIn_app (goodIn_of _ (by decide +kernel)) ggX7_alone_X7_refuse
set_option maxRecDepth 20000 in
theorem ggX7_alone_X5_become : GoodIn wsX7_alone wsX5_become := goodIn_r _ [21, 22, 23, 24, 25, 26, 27, 28, 29, 30, 31, 32, 33, 34, 35, 36, 37, 101, 102, 103, 104, 105, 106, 107, 108, 109, 110, 111, 112] (by decide +kernel) (by decide +kernel)
set_option maxRecDepth 20000 in
theorem gX7_alone_X5_become : GoodIn wsX7_alone (wsV RX7 198 RX5 yX5_become wsX5_become) := goodIn_app (goodIn_of _ (by decide +kernel)) ggX7_alone_X5_become
set_option maxRecDepth 20000 in
theorem ggX7_alone_X5_darkens : GoodIn wsX7_alone wsX5_darkens := goodIn_r _ [41, 30, 101, 102, 103, 104, 105, 106, 107, 108, 109, 110, 111, 112] (by decide +kernel) (by decide +kernel)
set_option maxRecDepth 20000 in
theorem gX7_alone_X5_darkens : GoodIn wsX7_alone (wsV RX7 209 RX5 yX5_darkens wsX5_darkens) := goodIn_app (goodIn_of _ (by decide +kernel)) ggX7_alone_X5_darkens
set_option maxRecDepth 20000 in
theorem ggX7_alone_X5_isJoined : GoodIn wsX7_alone wsX5_isJoined := goodIn_r _ [45, 29, 34, 46, 39, 40, 20, 41, 30, 101, 102, 103, 104, 105, 106, 107, 108, 109, 110, 111, 112] (by decide +kernel) (by decide +kernel)
set_option maxRecDepth 20000 in
theorem gX7_alone_X5_isJoined : GoodIn wsX7_alone (wsV RX7 265 RX5 yX5_isJoined wsX5_isJoined) := goodIn_app (goodIn_of _ (by decide +kernel)) ggX7_alone_X5_isJoined
set_option maxRecDepth 20000 in
theorem ggX7_alone_X5_passHour : GoodIn wsX7_alone wsX5_passHour := goodIn_r _ [50, 29, 34, 51, 52, 53, 20, 54, 46, 39, 40, 41, 30, 55, 56, 57, 58, 33, 32, 59, 60, 61, 62, 35, 63, 64, 65, 66, 22, 67, 68, 69, 70, 28, 71, 72, 73, 74, 23, 75, 76, 77, 78, 79, 6, 80, 81, 82, 83, 84, 85, 86, 87, 88, 101, 102, 103, 104, 105, 106, 107, 108, 109, 110, 111, 112] (by decide +kernel) (by decide +kernel)
set_option maxRecDepth 20000 in
theorem gX7_alone_X5_passHour : GoodIn wsX7_alone (wsV RX7 285 RX5 yX5_passHour wsX5_passHour) := goodIn_app (goodIn_of _ (by decide +kernel)) ggX7_alone_X5_passHour
theorem dX7_alone_0 : decode cX7_alone 0 = .ok (.aload_n 0, 1) := by decide +kernel
theorem dX7_alone_1 : decode cX7_alone 1 = .ok (.iload_n 1, 1) := by decide +kernel
theorem dX7_alone_2 : decode cX7_alone 2 = .ok (.invokevirtual 113, 3) := by decide +kernel
theorem dX7_alone_5 : decode cX7_alone 5 = .ok (.ifCond .eq 10, 3) := by decide +kernel
theorem dX7_alone_8 : decode cX7_alone 8 = .ok (.iload_n 2, 1) := by decide +kernel
theorem dX7_alone_9 : decode cX7_alone 9 = .ok (.invokestatic 215, 3) := by decide +kernel
theorem dX7_alone_12 : decode cX7_alone 12 = .ok (.ifCond .ne 10, 3) := by decide +kernel
theorem dX7_alone_15 : decode cX7_alone 15 = .ok (.aload_n 0, 1) := by decide +kernel
theorem dX7_alone_16 : decode cX7_alone 16 = .ok (.bipush (-2), 2) := by decide +kernel
theorem dX7_alone_18 : decode cX7_alone 18 = .ok (.invokevirtual 73, 3) := by decide +kernel
theorem dX7_alone_21 : decode cX7_alone 21 = .ok (.ireturn, 1) := by decide +kernel
theorem dX7_alone_22 : decode cX7_alone 22 = .ok (.iconst 0, 1) := by decide +kernel
theorem dX7_alone_23 : decode cX7_alone 23 = .ok (.istore_n 3, 1) := by decide +kernel
theorem dX7_alone_24 : decode cX7_alone 24 = .ok (.aload_n 0, 1) := by decide +kernel
theorem dX7_alone_25 : decode cX7_alone 25 = .ok (.getfield 16, 3) := by decide +kernel
theorem dX7_alone_28 : decode cX7_alone 28 = .ok (.aload_n 0, 1) := by decide +kernel
theorem dX7_alone_29 : decode cX7_alone 29 = .ok (.getfield 10, 3) := by decide +kernel
theorem dX7_alone_32 : decode cX7_alone 32 = .ok (.invokevirtual 198, 3) := by decide +kernel
theorem dX7_alone_35 : decode cX7_alone 35 = .ok (.iconst 0, 1) := by decide +kernel
theorem dX7_alone_36 : decode cX7_alone 36 = .ok (.istore 4, 2) := by decide +kernel
theorem dX7_alone_38 : decode cX7_alone 38 = .ok (.iload 4, 2) := by decide +kernel
theorem dX7_alone_40 : decode cX7_alone 40 = .ok (.iload_n 2, 1) := by decide +kernel
theorem dX7_alone_41 : decode cX7_alone 41 = .ok (.if_icmp .gt 42, 3) := by decide +kernel
theorem dX7_alone_44 : decode cX7_alone 44 = .ok (.aload_n 0, 1) := by decide +kernel
theorem dX7_alone_45 : decode cX7_alone 45 = .ok (.getfield 16, 3) := by decide +kernel
theorem dX7_alone_48 : decode cX7_alone 48 = .ok (.iload_n 1, 1) := by decide +kernel
theorem dX7_alone_49 : decode cX7_alone 49 = .ok (.invokevirtual 209, 3) := by decide +kernel
theorem dX7_alone_52 : decode cX7_alone 52 = .ok (.ifCond .eq 17, 3) := by decide +kernel
theorem dX7_alone_55 : decode cX7_alone 55 = .ok (.aload_n 0, 1) := by decide +kernel
theorem dX7_alone_56 : decode cX7_alone 56 = .ok (.getfield 16, 3) := by decide +kernel
theorem dX7_alone_59 : decode cX7_alone 59 = .ok (.iload_n 1, 1) := by decide +kernel
theorem dX7_alone_60 : decode cX7_alone 60 = .ok (.invokevirtual 265, 3) := by decide +kernel
theorem dX7_alone_63 : decode cX7_alone 63 = .ok (.ifCond .ne 6, 3) := by decide +kernel
theorem dX7_alone_66 : decode cX7_alone 66 = .ok (.iinc 3 1, 3) := by decide +kernel
theorem dX7_alone_69 : decode cX7_alone 69 = .ok (.aload_n 0, 1) := by decide +kernel
theorem dX7_alone_70 : decode cX7_alone 70 = .ok (.getfield 16, 3) := by decide +kernel
theorem dX7_alone_73 : decode cX7_alone 73 = .ok (.invokevirtual 285, 3) := by decide +kernel
theorem dX7_alone_76 : decode cX7_alone 76 = .ok (.pop, 1) := by decide +kernel
theorem dX7_alone_77 : decode cX7_alone 77 = .ok (.iinc 4 1, 3) := by decide +kernel
theorem dX7_alone_80 : decode cX7_alone 80 = .ok (.goto (-42), 3) := by decide +kernel
theorem dX7_alone_83 : decode cX7_alone 83 = .ok (.iload_n 3, 1) := by decide +kernel
theorem dX7_alone_84 : decode cX7_alone 84 = .ok (.ireturn, 1) := by decide +kernel
set_option maxRecDepth 20000 in
theorem ggX7_covered_X7_isAhead : GoodIn wsX7_covered wsX7_isAhead := goodIn_r _ [6] (by decide +kernel) (by decide +kernel)
set_option maxRecDepth 20000 in
theorem gX7_covered_X7_isAhead : GoodIn wsX7_covered (va_wsS RX7 215 yX7_isAhead wsX7_isAhead) := goodIn_app (goodIn_of _ (by decide +kernel)) ggX7_covered_X7_isAhead
set_option maxRecDepth 20000 in
theorem ggX7_covered_X7_refuse : GoodIn wsX7_covered wsX7_refuse := goodIn_r _ [10, 11, 93, 94, 95, 96, 97, 98, 99, 100, 101, 102, 103, 104] (by decide +kernel) (by decide +kernel)
set_option maxRecDepth 20000 in
theorem gX7_covered_X7_refuse : GoodIn wsX7_covered (wsV RX7 73 RX7 yX7_refuse wsX7_refuse) := goodIn_app (goodIn_of _ (by decide +kernel)) ggX7_covered_X7_refuse
set_option maxRecDepth 20000 in
theorem ggX7_covered_X7_lookAhead : GoodIn wsX7_covered wsX7_lookAhead := goodIn_r _ [15, 1, 16, 17, 18, 19, 20, 21, 22, 23, 24, 25, 26, 27, 28, 29, 30, 31, 32, 33, 34, 35, 36, 37, 38, 39, 40, 41, 42, 43, 44, 45, 46, 47, 48, 49, 50, 51, 52, 53, 54, 55, 56, 57, 58, 59, 60, 61, 62, 63, 64, 65, 66, 67, 68, 69, 70, 71, 72, 73, 74, 75, 76, 77, 78, 5, 79, 80, 81, 82, 83, 84, 85, 86, 87, 93, 94, 95, 96, 97, 98, 99, 100, 101, 102, 103, 104, 105, 106, 107, 108, 109, 110, 111, 112, 113, 114, 115, 116] (by decide +kernel) (by decide +kernel)
set_option maxRecDepth 20000 in
theorem gX7_covered_X7_lookAhead : GoodIn wsX7_covered (wsV RX7 146 RX7 yX7_lookAhead wsX7_lookAhead) := goodIn_app (goodIn_of _ (by decide +kernel)) ggX7_covered_X7_lookAhead
set_option maxRecDepth 20000 in
theorem ggX7_covered_X5_darkens : GoodIn wsX7_covered wsX5_darkens := goodIn_r _ [53, 30, 105, 106, 107, 108, 109, 110, 111, 112, 113, 114, 115, 116] (by decide +kernel) (by decide +kernel)
set_option maxRecDepth 20000 in
theorem gX7_covered_X5_darkens : GoodIn wsX7_covered (wsV RX7 209 RX5 yX5_darkens wsX5_darkens) := goodIn_app (goodIn_of _ (by decide +kernel)) ggX7_covered_X5_darkens
set_option maxRecDepth 20000 in
theorem ggX7_covered_X5_isJoined : GoodIn wsX7_covered wsX5_isJoined := goodIn_r _ [92, 29, 34, 50, 51, 52, 20, 53, 30, 105, 106, 107, 108, 109, 110, 111, 112, 113, 114, 115, 116] (by decide +kernel) (by decide +kernel)
set_option maxRecDepth 20000 in
theorem gX7_covered_X5_isJoined : GoodIn wsX7_covered (wsV RX7 265 RX5 yX5_isJoined wsX5_isJoined) := goodIn_app (goodIn_of _ (by decide +kernel)) ggX7_covered_X5_isJoined
theorem dX7_covered_0 : decode cX7_covered 0 = .ok (.iload_n 1, 1) := by decide +kernel
theorem dX7_covered_1 : decode cX7_covered 1 = .ok (.invokestatic 215, 3) := by decide +kernel
theorem dX7_covered_4 : decode cX7_covered 4 = .ok (.ifCond .ne 10, 3) := by decide +kernel
theorem dX7_covered_7 : decode cX7_covered 7 = .ok (.aload_n 0, 1) := by decide +kernel
theorem dX7_covered_8 : decode cX7_covered 8 = .ok (.bipush (-2), 2) := by decide +kernel
theorem dX7_covered_10 : decode cX7_covered 10 = .ok (.invokevirtual 73, 3) := by decide +kernel
theorem dX7_covered_13 : decode cX7_covered 13 = .ok (.ireturn, 1) := by decide +kernel
theorem dX7_covered_14 : decode cX7_covered 14 = .ok (.iconst 0, 1) := by decide +kernel
theorem dX7_covered_15 : decode cX7_covered 15 = .ok (.istore_n 2, 1) := by decide +kernel
theorem dX7_covered_16 : decode cX7_covered 16 = .ok (.aload_n 0, 1) := by decide +kernel
theorem dX7_covered_17 : decode cX7_covered 17 = .ok (.iload_n 1, 1) := by decide +kernel
theorem dX7_covered_18 : decode cX7_covered 18 = .ok (.invokevirtual 146, 3) := by decide +kernel
theorem dX7_covered_21 : decode cX7_covered 21 = .ok (.iconst 0, 1) := by decide +kernel
theorem dX7_covered_22 : decode cX7_covered 22 = .ok (.istore_n 3, 1) := by decide +kernel
theorem dX7_covered_23 : decode cX7_covered 23 = .ok (.iload_n 3, 1) := by decide +kernel
theorem dX7_covered_24 : decode cX7_covered 24 = .ok (.aload_n 0, 1) := by decide +kernel
theorem dX7_covered_25 : decode cX7_covered 25 = .ok (.getfield 16, 3) := by decide +kernel
theorem dX7_covered_28 : decode cX7_covered 28 = .ok (.getfield 171, 3) := by decide +kernel
theorem dX7_covered_31 : decode cX7_covered 31 = .ok (.if_icmp .ge 37, 3) := by decide +kernel
theorem dX7_covered_34 : decode cX7_covered 34 = .ok (.aload_n 0, 1) := by decide +kernel
theorem dX7_covered_35 : decode cX7_covered 35 = .ok (.getfield 16, 3) := by decide +kernel
theorem dX7_covered_38 : decode cX7_covered 38 = .ok (.iload_n 3, 1) := by decide +kernel
theorem dX7_covered_39 : decode cX7_covered 39 = .ok (.invokevirtual 209, 3) := by decide +kernel
theorem dX7_covered_42 : decode cX7_covered 42 = .ok (.ifCond .eq 20, 3) := by decide +kernel
theorem dX7_covered_45 : decode cX7_covered 45 = .ok (.aload_n 0, 1) := by decide +kernel
theorem dX7_covered_46 : decode cX7_covered 46 = .ok (.getfield 16, 3) := by decide +kernel
theorem dX7_covered_49 : decode cX7_covered 49 = .ok (.iload_n 3, 1) := by decide +kernel
theorem dX7_covered_50 : decode cX7_covered 50 = .ok (.invokevirtual 265, 3) := by decide +kernel
theorem dX7_covered_53 : decode cX7_covered 53 = .ok (.ifCond .eq 9, 3) := by decide +kernel
theorem dX7_covered_56 : decode cX7_covered 56 = .ok (.iload_n 2, 1) := by decide +kernel
theorem dX7_covered_57 : decode cX7_covered 57 = .ok (.iconst 1, 1) := by decide +kernel
theorem dX7_covered_58 : decode cX7_covered 58 = .ok (.iload_n 3, 1) := by decide +kernel
theorem dX7_covered_59 : decode cX7_covered 59 = .ok (.ishl, 1) := by decide +kernel
theorem dX7_covered_60 : decode cX7_covered 60 = .ok (.ior, 1) := by decide +kernel
theorem dX7_covered_61 : decode cX7_covered 61 = .ok (.istore_n 2, 1) := by decide +kernel
theorem dX7_covered_62 : decode cX7_covered 62 = .ok (.iinc 3 1, 3) := by decide +kernel
theorem dX7_covered_65 : decode cX7_covered 65 = .ok (.goto (-42), 3) := by decide +kernel
theorem dX7_covered_68 : decode cX7_covered 68 = .ok (.iload_n 2, 1) := by decide +kernel
theorem dX7_covered_69 : decode cX7_covered 69 = .ok (.ireturn, 1) := by decide +kernel
set_option maxRecDepth 20000 in
theorem ggX7_reach_X7_isPlace : GoodIn wsX7_reach wsX7_isPlace := goodIn_r _ [7, 1, 2, 19, 20, 21, 22, 23, 24, 25, 26, 27, 28, 29, 30, 31, 32, 33, 34, 35, 36, 37, 38, 39, 40, 41, 42] (by decide +kernel) (by decide +kernel)
set_option maxRecDepth 20000 in
theorem gX7_reach_X7_isPlace : GoodIn wsX7_reach (wsV RX7 168 RX7 yX7_isPlace wsX7_isPlace) := goodIn_app (goodIn_of _ (by decide +kernel)) ggX7_reach_X7_isPlace
set_option maxRecDepth 20000 in
theorem ggX7_reach_X7_refuse : GoodIn wsX7_reach wsX7_refuse := goodIn_r _ [11, 12, 19, 20, 21, 22, 23, 24, 25, 26, 27, 28, 29, 30] (by decide +kernel) (by decide +kernel)
set_option maxRecDepth 20000 in
theorem gX7_reach_X7_refuse : GoodIn wsX7_reach (wsV RX7 73 RX7 yX7_refuse wsX7_refuse) := goodIn_app (goodIn_of _ (by decide +kernel)) ggX7_reach_X7_refuse
set_option maxRecDepth 20000 in
theorem ggX7_reach_X5_distance : GoodIn wsX7_reach wsX5_distance := goodIn_r _ [17, 18, 31, 32, 33, 34, 35, 36, 37, 38, 39, 40, 41, 42] (by decide +kernel) (by decide +kernel)
set_option maxRecDepth 20000 in
theorem gX7_reach_X5_distance : GoodIn wsX7_reach (wsV RX7 212 RX5 yX5_distance wsX5_distance) := goodIn_app (goodIn_of _ (by decide +kernel)) ggX7_reach_X5_distance
theorem dX7_reach_0 : decode cX7_reach 0 = .ok (.aload_n 0, 1) := by decide +kernel
theorem dX7_reach_1 : decode cX7_reach 1 = .ok (.iload_n 1, 1) := by decide +kernel
theorem dX7_reach_2 : decode cX7_reach 2 = .ok (.invokevirtual 168, 3) := by decide +kernel
theorem dX7_reach_5 : decode cX7_reach 5 = .ok (.ifCond .eq 13, 3) := by decide +kernel
theorem dX7_reach_8 : decode cX7_reach 8 = .ok (.iload_n 2, 1) := by decide +kernel
theorem dX7_reach_9 : decode cX7_reach 9 = .ok (.ifCond .lt 9, 3) := by decide +kernel
theorem dX7_reach_12 : decode cX7_reach 12 = .ok (.iload_n 2, 1) := by decide +kernel
theorem dX7_reach_13 : decode cX7_reach 13 = .ok (.bipush 12, 2) := by decide +kernel
theorem dX7_reach_15 : decode cX7_reach 15 = .ok (.if_icmp .le 10, 3) := by decide +kernel
theorem dX7_reach_18 : decode cX7_reach 18 = .ok (.aload_n 0, 1) := by decide +kernel
theorem dX7_reach_19 : decode cX7_reach 19 = .ok (.bipush (-2), 2) := by decide +kernel
theorem dX7_reach_21 : decode cX7_reach 21 = .ok (.invokevirtual 73, 3) := by decide +kernel
theorem dX7_reach_24 : decode cX7_reach 24 = .ok (.ireturn, 1) := by decide +kernel
theorem dX7_reach_25 : decode cX7_reach 25 = .ok (.iconst 0, 1) := by decide +kernel
theorem dX7_reach_26 : decode cX7_reach 26 = .ok (.istore_n 3, 1) := by decide +kernel
theorem dX7_reach_27 : decode cX7_reach 27 = .ok (.iconst 0, 1) := by decide +kernel
theorem dX7_reach_28 : decode cX7_reach 28 = .ok (.istore 4, 2) := by decide +kernel
theorem dX7_reach_30 : decode cX7_reach 30 = .ok (.iload 4, 2) := by decide +kernel
theorem dX7_reach_32 : decode cX7_reach 32 = .ok (.aload_n 0, 1) := by decide +kernel
theorem dX7_reach_33 : decode cX7_reach 33 = .ok (.getfield 10, 3) := by decide +kernel
theorem dX7_reach_36 : decode cX7_reach 36 = .ok (.getfield 152, 3) := by decide +kernel
theorem dX7_reach_39 : decode cX7_reach 39 = .ok (.if_icmp .ge 36, 3) := by decide +kernel
theorem dX7_reach_42 : decode cX7_reach 42 = .ok (.aload_n 0, 1) := by decide +kernel
theorem dX7_reach_43 : decode cX7_reach 43 = .ok (.getfield 10, 3) := by decide +kernel
theorem dX7_reach_46 : decode cX7_reach 46 = .ok (.iload_n 1, 1) := by decide +kernel
theorem dX7_reach_47 : decode cX7_reach 47 = .ok (.iload 4, 2) := by decide +kernel
theorem dX7_reach_49 : decode cX7_reach 49 = .ok (.invokevirtual 212, 3) := by decide +kernel
theorem dX7_reach_52 : decode cX7_reach 52 = .ok (.istore 5, 2) := by decide +kernel
theorem dX7_reach_54 : decode cX7_reach 54 = .ok (.iload 5, 2) := by decide +kernel
theorem dX7_reach_56 : decode cX7_reach 56 = .ok (.iconst (-1), 1) := by decide +kernel
theorem dX7_reach_57 : decode cX7_reach 57 = .ok (.if_icmp .eq 12, 3) := by decide +kernel
theorem dX7_reach_60 : decode cX7_reach 60 = .ok (.iload 5, 2) := by decide +kernel
theorem dX7_reach_62 : decode cX7_reach 62 = .ok (.iload_n 2, 1) := by decide +kernel
theorem dX7_reach_63 : decode cX7_reach 63 = .ok (.if_icmp .gt 6, 3) := by decide +kernel
theorem dX7_reach_66 : decode cX7_reach 66 = .ok (.iinc 3 1, 3) := by decide +kernel
theorem dX7_reach_69 : decode cX7_reach 69 = .ok (.iinc 4 1, 3) := by decide +kernel
theorem dX7_reach_72 : decode cX7_reach 72 = .ok (.goto (-42), 3) := by decide +kernel
theorem dX7_reach_75 : decode cX7_reach 75 = .ok (.iload_n 3, 1) := by decide +kernel
theorem dX7_reach_76 : decode cX7_reach 76 = .ok (.ireturn, 1) := by decide +kernel
set_option maxRecDepth 20000 in
theorem ggX7_farthest_X7_isPlace : GoodIn wsX7_farthest wsX7_isPlace := goodIn_r _ [9, 2, 3, 32, 33, 34, 35, 36, 37, 38, 39, 40, 41, 42, 43, 44, 45, 46, 47, 48, 49, 50, 51, 52, 53, 54, 55] (by decide +kernel) (by decide +kernel)
set_option maxRecDepth 20000 in
theorem gX7_farthest_X7_isPlace : GoodIn wsX7_farthest (wsV RX7 168 RX7 yX7_isPlace wsX7_isPlace) := goodIn_app (goodIn_of _ (by decide +kernel)) ggX7_farthest_X7_isPlace
set_option maxRecDepth 20000 in
theorem ggX7_farthest_X7_refuse : GoodIn wsX7_farthest wsX7_refuse := goodIn_r _ [13, 14, 32, 33, 34, 35, 36, 37, 38, 39, 40, 41, 42, 43] (by decide +kernel) (by decide +kernel)
set_option maxRecDepth 20000 in
theorem gX7_farthest_X7_refuse : GoodIn wsX7_farthest (wsV RX7 73 RX7 yX7_refuse wsX7_refuse) := goodIn_app (goodIn_of _ (by decide +kernel)) ggX7_farthest_X7_refuse
set_option maxRecDepth 20000 in
theorem ggX7_farthest_X0_begin : GoodIn wsX7_farthest wsX0_begin := goodIn_r _ [19, 20, 21, 56, 57] (by decide +kernel) (by decide +kernel)
set_option maxRecDepth 20000 in
theorem gX7_farthest_X0_begin : GoodIn wsX7_farthest (wsV RX7 242 RX0 yX0_begin wsX0_begin) := goodIn_app (goodIn_of _ (by decide +kernel)) ggX7_farthest_X0_begin
set_option maxRecDepth 20000 in
theorem ggX7_farthest_X5_distance : GoodIn wsX7_farthest wsX5_distance := goodIn_r _ [26, 27, 44, 45, 46, 47, 48, 49, 50, 51, 52, 53, 54, 55] (by decide +kernel) (by decide +kernel)
set_option maxRecDepth 20000 in
theorem gX7_farthest_X5_distance : GoodIn wsX7_farthest (wsV RX7 212 RX5 yX5_distance wsX5_distance) := goodIn_app (goodIn_of _ (by decide +kernel)) ggX7_farthest_X5_distance
set_option maxRecDepth 20000 in
theorem ggX7_farthest_X0_offer : GoodIn wsX7_farthest wsX0_offer := goodIn_r _ [31, 21, 20, 56, 57] (by decide +kernel) (by decide +kernel)
set_option maxRecDepth 20000 in
theorem gX7_farthest_X0_offer : GoodIn wsX7_farthest (wsV RX7 248 RX0 yX0_offer wsX0_offer) := goodIn_app (goodIn_of _ (by decide +kernel)) ggX7_farthest_X0_offer
theorem dX7_farthest_0 : decode cX7_farthest 0 = .ok (.aload_n 0, 1) := by decide +kernel
theorem dX7_farthest_1 : decode cX7_farthest 1 = .ok (.iload_n 1, 1) := by decide +kernel
theorem dX7_farthest_2 : decode cX7_farthest 2 = .ok (.invokevirtual 168, 3) := by decide +kernel
theorem dX7_farthest_5 : decode cX7_farthest 5 = .ok (.ifCond .ne 10, 3) := by decide +kernel
theorem dX7_farthest_8 : decode cX7_farthest 8 = .ok (.aload_n 0, 1) := by decide +kernel
theorem dX7_farthest_9 : decode cX7_farthest 9 = .ok (.bipush (-2), 2) := by decide +kernel
theorem dX7_farthest_11 : decode cX7_farthest 11 = .ok (.invokevirtual 73, 3) := by decide +kernel
theorem dX7_farthest_14 : decode cX7_farthest 14 = .ok (.ireturn, 1) := by decide +kernel
theorem dX7_farthest_15 : decode cX7_farthest 15 = .ok (.aload_n 0, 1) := by decide +kernel
theorem dX7_farthest_16 : decode cX7_farthest 16 = .ok (.getfield 61, 3) := by decide +kernel
theorem dX7_farthest_19 : decode cX7_farthest 19 = .ok (.iload_n 1, 1) := by decide +kernel
theorem dX7_farthest_20 : decode cX7_farthest 20 = .ok (.iconst 0, 1) := by decide +kernel
theorem dX7_farthest_21 : decode cX7_farthest 21 = .ok (.invokevirtual 242, 3) := by decide +kernel
theorem dX7_farthest_24 : decode cX7_farthest 24 = .ok (.iconst 0, 1) := by decide +kernel
theorem dX7_farthest_25 : decode cX7_farthest 25 = .ok (.istore_n 2, 1) := by decide +kernel
theorem dX7_farthest_26 : decode cX7_farthest 26 = .ok (.iload_n 2, 1) := by decide +kernel
theorem dX7_farthest_27 : decode cX7_farthest 27 = .ok (.aload_n 0, 1) := by decide +kernel
theorem dX7_farthest_28 : decode cX7_farthest 28 = .ok (.getfield 10, 3) := by decide +kernel
theorem dX7_farthest_31 : decode cX7_farthest 31 = .ok (.getfield 152, 3) := by decide +kernel
theorem dX7_farthest_34 : decode cX7_farthest 34 = .ok (.if_icmp .ge 26, 3) := by decide +kernel
theorem dX7_farthest_37 : decode cX7_farthest 37 = .ok (.aload_n 0, 1) := by decide +kernel
theorem dX7_farthest_38 : decode cX7_farthest 38 = .ok (.getfield 61, 3) := by decide +kernel
theorem dX7_farthest_41 : decode cX7_farthest 41 = .ok (.iload_n 2, 1) := by decide +kernel
theorem dX7_farthest_42 : decode cX7_farthest 42 = .ok (.aload_n 0, 1) := by decide +kernel
theorem dX7_farthest_43 : decode cX7_farthest 43 = .ok (.getfield 10, 3) := by decide +kernel
theorem dX7_farthest_46 : decode cX7_farthest 46 = .ok (.iload_n 1, 1) := by decide +kernel
theorem dX7_farthest_47 : decode cX7_farthest 47 = .ok (.iload_n 2, 1) := by decide +kernel
theorem dX7_farthest_48 : decode cX7_farthest 48 = .ok (.invokevirtual 212, 3) := by decide +kernel
theorem dX7_farthest_51 : decode cX7_farthest 51 = .ok (.invokevirtual 248, 3) := by decide +kernel
theorem dX7_farthest_54 : decode cX7_farthest 54 = .ok (.iinc 2 1, 3) := by decide +kernel
theorem dX7_farthest_57 : decode cX7_farthest 57 = .ok (.goto (-31), 3) := by decide +kernel
theorem dX7_farthest_60 : decode cX7_farthest 60 = .ok (.aload_n 0, 1) := by decide +kernel
theorem dX7_farthest_61 : decode cX7_farthest 61 = .ok (.getfield 61, 3) := by decide +kernel
theorem dX7_farthest_64 : decode cX7_farthest 64 = .ok (.getfield 251, 3) := by decide +kernel
theorem dX7_farthest_67 : decode cX7_farthest 67 = .ok (.ireturn, 1) := by decide +kernel
set_option maxRecDepth 20000 in
theorem ggX7_ofKind_X7_isKind : GoodIn wsX7_ofKind wsX7_isKind := goodIn_r _ [7] (by decide +kernel) (by decide +kernel)
set_option maxRecDepth 20000 in
theorem gX7_ofKind_X7_isKind : GoodIn wsX7_ofKind (va_wsS RX7 123 yX7_isKind wsX7_isKind) := goodIn_app (goodIn_of _ (by decide +kernel)) ggX7_ofKind_X7_isKind
set_option maxRecDepth 20000 in
theorem ggX7_ofKind_X7_refuse : GoodIn wsX7_ofKind wsX7_refuse := goodIn_r _ [11, 12, 13, 14, 15, 16, 17, 18, 19, 20, 21, 22, 23, 24] (by decide +kernel) (by decide +kernel)
set_option maxRecDepth 20000 in
theorem gX7_ofKind_X7_refuse : GoodIn wsX7_ofKind (wsV RX7 73 RX7 yX7_refuse wsX7_refuse) := goodIn_app (goodIn_of _ (by decide +kernel)) ggX7_ofKind_X7_refuse
theorem dX7_ofKind_0 : decode cX7_ofKind 0 = .ok (.iload_n 1, 1) := by decide +kernel
theorem dX7_ofKind_1 : decode cX7_ofKind 1 = .ok (.invokestatic 123, 3) := by decide +kernel
theorem dX7_ofKind_4 : decode cX7_ofKind 4 = .ok (.ifCond .ne 10, 3) := by decide +kernel
theorem dX7_ofKind_7 : decode cX7_ofKind 7 = .ok (.aload_n 0, 1) := by decide +kernel
theorem dX7_ofKind_8 : decode cX7_ofKind 8 = .ok (.bipush (-2), 2) := by decide +kernel
theorem dX7_ofKind_10 : decode cX7_ofKind 10 = .ok (.invokevirtual 73, 3) := by decide +kernel
theorem dX7_ofKind_13 : decode cX7_ofKind 13 = .ok (.ireturn, 1) := by decide +kernel
theorem dX7_ofKind_14 : decode cX7_ofKind 14 = .ok (.iconst 0, 1) := by decide +kernel
theorem dX7_ofKind_15 : decode cX7_ofKind 15 = .ok (.istore_n 2, 1) := by decide +kernel
theorem dX7_ofKind_16 : decode cX7_ofKind 16 = .ok (.iconst 0, 1) := by decide +kernel
theorem dX7_ofKind_17 : decode cX7_ofKind 17 = .ok (.istore_n 3, 1) := by decide +kernel
theorem dX7_ofKind_18 : decode cX7_ofKind 18 = .ok (.iload_n 3, 1) := by decide +kernel
theorem dX7_ofKind_19 : decode cX7_ofKind 19 = .ok (.aload_n 0, 1) := by decide +kernel
theorem dX7_ofKind_20 : decode cX7_ofKind 20 = .ok (.getfield 10, 3) := by decide +kernel
theorem dX7_ofKind_23 : decode cX7_ofKind 23 = .ok (.getfield 171, 3) := by decide +kernel
theorem dX7_ofKind_26 : decode cX7_ofKind 26 = .ok (.if_icmp .ge 25, 3) := by decide +kernel
theorem dX7_ofKind_29 : decode cX7_ofKind 29 = .ok (.aload_n 0, 1) := by decide +kernel
theorem dX7_ofKind_30 : decode cX7_ofKind 30 = .ok (.getfield 10, 3) := by decide +kernel
theorem dX7_ofKind_33 : decode cX7_ofKind 33 = .ok (.getfield 137, 3) := by decide +kernel
theorem dX7_ofKind_36 : decode cX7_ofKind 36 = .ok (.iload_n 3, 1) := by decide +kernel
theorem dX7_ofKind_37 : decode cX7_ofKind 37 = .ok (.iaload, 1) := by decide +kernel
theorem dX7_ofKind_38 : decode cX7_ofKind 38 = .ok (.iload_n 1, 1) := by decide +kernel
theorem dX7_ofKind_39 : decode cX7_ofKind 39 = .ok (.if_icmp .ne 6, 3) := by decide +kernel
theorem dX7_ofKind_42 : decode cX7_ofKind 42 = .ok (.iinc 2 1, 3) := by decide +kernel
theorem dX7_ofKind_45 : decode cX7_ofKind 45 = .ok (.iinc 3 1, 3) := by decide +kernel
theorem dX7_ofKind_48 : decode cX7_ofKind 48 = .ok (.goto (-30), 3) := by decide +kernel
theorem dX7_ofKind_51 : decode cX7_ofKind 51 = .ok (.iload_n 2, 1) := by decide +kernel
theorem dX7_ofKind_52 : decode cX7_ofKind 52 = .ok (.ireturn, 1) := by decide +kernel
set_option maxRecDepth 20000 in
theorem ggX7_judge_X7_watchReason : GoodIn wsX7_judge wsX7_watchReason := goodIn_r _ [8, 3, 9, 10, 11, 12, 7, 13, 14, 15, 16, 17, 18, 19, 20, 21, 22, 23, 24, 25, 26, 113, 114, 115, 116, 117, 118, 119, 120, 121, 122, 123, 124, 125, 126, 127] (by decide +kernel) (by decide +kernel)
set_option maxRecDepth 20000 in
theorem gX7_judge_X7_watchReason : GoodIn wsX7_judge (wsV RX7 230 RX7 yX7_watchReason wsX7_watchReason) := goodIn_app (goodIn_of _ (by decide +kernel)) ggX7_judge_X7_watchReason
set_option maxRecDepth 20000 in
theorem ggX7_judge_X7_refuse : GoodIn wsX7_judge wsX7_refuse := goodIn_r _ [30, 31, 113, 114, 115, 116, 117, 118, 119, 120, 121, 122, 123, 124] (by decide +kernel) (by decide +kernel)
set_option maxRecDepth 20000 in
theorem gX7_judge_X7_refuse : GoodIn wsX7_judge (wsV RX7 73 RX7 yX7_refuse wsX7_refuse) := goodIn_app (goodIn_of _ (by decide +kernel)) ggX7_judge_X7_refuse
set_option maxRecDepth 20000 in
theorem ggX7_judge_X5_become : GoodIn wsX7_judge wsX5_become := goodIn_r _ [36, 37, 38, 39, 40, 41, 42, 43, 44, 45, 46, 47, 48, 49, 50, 51, 52, 128, 129, 130, 131, 132, 133, 134, 135, 136, 137, 138, 139] (by decide +kernel) (by decide +kernel)
set_option maxRecDepth 20000 in
theorem gX7_judge_X5_become : GoodIn wsX7_judge (wsV RX7 198 RX5 yX5_become wsX5_become) := goodIn_app (goodIn_of _ (by decide +kernel)) ggX7_judge_X5_become
set_option maxRecDepth 20000 in
theorem ggX7_judge_X7_firstWrong : GoodIn wsX7_judge wsX7_firstWrong := goodIn_r _ [56, 57, 1, 58, 59, 60, 20, 61, 62, 63, 64, 65, 35, 66, 37, 67, 68, 69, 70, 44, 49, 71, 72, 73, 74, 45, 75, 76, 77, 78, 79, 80, 81, 82, 48, 47, 83, 84, 85, 86, 50, 87, 88, 89, 90, 91, 92, 93, 94, 43, 95, 96, 97, 98, 38, 99, 100, 101, 102, 103, 7, 104, 105, 106, 107, 108, 109, 110, 111, 112, 125, 126, 127, 113, 114, 115, 116, 117, 118, 119, 120, 121, 122, 123, 124, 128, 129, 130, 131, 132, 133, 134, 135, 136, 137, 138, 139] (by decide +kernel) (by decide +kernel)
set_option maxRecDepth 20000 in
theorem gX7_judge_X7_firstWrong : GoodIn wsX7_judge (wsV RX7 234 RX7 yX7_firstWrong wsX7_firstWrong) := goodIn_app (goodIn_of _ (by decide +kernel)) ggX7_judge_X7_firstWrong
theorem dX7_judge_0 : decode cX7_judge 0 = .ok (.aload_n 0, 1) := by decide +kernel
theorem dX7_judge_1 : decode cX7_judge 1 = .ok (.iload_n 1, 1) := by decide +kernel
theorem dX7_judge_2 : decode cX7_judge 2 = .ok (.iload_n 2, 1) := by decide +kernel
theorem dX7_judge_3 : decode cX7_judge 3 = .ok (.iconst 1, 1) := by decide +kernel
theorem dX7_judge_4 : decode cX7_judge 4 = .ok (.invokevirtual 230, 3) := by decide +kernel
theorem dX7_judge_7 : decode cX7_judge 7 = .ok (.istore_n 3, 1) := by decide +kernel
theorem dX7_judge_8 : decode cX7_judge 8 = .ok (.iload_n 3, 1) := by decide +kernel
theorem dX7_judge_9 : decode cX7_judge 9 = .ok (.ifCond .eq 9, 3) := by decide +kernel
theorem dX7_judge_12 : decode cX7_judge 12 = .ok (.aload_n 0, 1) := by decide +kernel
theorem dX7_judge_13 : decode cX7_judge 13 = .ok (.iload_n 3, 1) := by decide +kernel
theorem dX7_judge_14 : decode cX7_judge 14 = .ok (.invokevirtual 73, 3) := by decide +kernel
theorem dX7_judge_17 : decode cX7_judge 17 = .ok (.ireturn, 1) := by decide +kernel
theorem dX7_judge_18 : decode cX7_judge 18 = .ok (.aload_n 0, 1) := by decide +kernel
theorem dX7_judge_19 : decode cX7_judge 19 = .ok (.getfield 16, 3) := by decide +kernel
theorem dX7_judge_22 : decode cX7_judge 22 = .ok (.aload_n 0, 1) := by decide +kernel
theorem dX7_judge_23 : decode cX7_judge 23 = .ok (.getfield 10, 3) := by decide +kernel
theorem dX7_judge_26 : decode cX7_judge 26 = .ok (.invokevirtual 198, 3) := by decide +kernel
theorem dX7_judge_29 : decode cX7_judge 29 = .ok (.aload_n 0, 1) := by decide +kernel
theorem dX7_judge_30 : decode cX7_judge 30 = .ok (.aload_n 0, 1) := by decide +kernel
theorem dX7_judge_31 : decode cX7_judge 31 = .ok (.getfield 27, 3) := by decide +kernel
theorem dX7_judge_34 : decode cX7_judge 34 = .ok (.iload_n 1, 1) := by decide +kernel
theorem dX7_judge_35 : decode cX7_judge 35 = .ok (.aaload, 1) := by decide +kernel
theorem dX7_judge_36 : decode cX7_judge 36 = .ok (.iload_n 2, 1) := by decide +kernel
theorem dX7_judge_37 : decode cX7_judge 37 = .ok (.invokevirtual 234, 3) := by decide +kernel
theorem dX7_judge_40 : decode cX7_judge 40 = .ok (.ireturn, 1) := by decide +kernel
set_option maxRecDepth 20000 in
theorem ggX7_hours_X7_isSpan : GoodIn wsX7_hours wsX7_isSpan := goodIn_r _ [5] (by decide +kernel) (by decide +kernel)
set_option maxRecDepth 20000 in
theorem gX7_hours_X7_isSpan : GoodIn wsX7_hours (va_wsS RX7 291 yX7_isSpan wsX7_isSpan) := goodIn_app (goodIn_of _ (by decide +kernel)) ggX7_hours_X7_isSpan
set_option maxRecDepth 20000 in
theorem ggX7_hours_X7_refuse : GoodIn wsX7_hours wsX7_refuse := goodIn_r _ [9, 10, 75, 76, 77, 78, 79, 80, 81, 82, 83, 84, 85, 86] (by decide +kernel) (by decide +kernel)
set_option maxRecDepth 20000 in
theorem gX7_hours_X7_refuse : GoodIn wsX7_hours (wsV RX7 73 RX7 yX7_refuse wsX7_refuse) := goodIn_app (goodIn_of _ (by decide +kernel)) ggX7_hours_X7_refuse
set_option maxRecDepth 20000 in
theorem ggX7_hours_X5_passHours : GoodIn wsX7_hours wsX5_passHours := goodIn_r _ [15, 16, 17, 18, 14, 19, 20, 21, 22, 23, 24, 25, 26, 27, 28, 29, 30, 31, 32, 33, 34, 35, 36, 37, 38, 39, 40, 41, 42, 43, 44, 45, 46, 47, 48, 49, 50, 51, 52, 53, 54, 55, 56, 57, 58, 59, 60, 61, 4, 62, 63, 64, 65, 66, 67, 68, 69, 70, 87, 88, 89, 90, 91, 92, 93, 94, 95, 96, 97, 98] (by decide +kernel) (by decide +kernel)
set_option maxRecDepth 20000 in
theorem gX7_hours_X5_passHours : GoodIn wsX7_hours (wsV RX7 306 RX5 yX5_passHours wsX5_passHours) := goodIn_app (goodIn_of _ (by decide +kernel)) ggX7_hours_X5_passHours
set_option maxRecDepth 20000 in
theorem ggX7_hours_X5_shiningPlaces : GoodIn wsX7_hours wsX5_shiningPlaces := goodIn_r _ [74, 46, 22, 23, 24, 14, 25, 20, 21, 26, 27, 28, 29, 30, 87, 88, 89, 90, 91, 92, 93, 94, 95, 96, 97, 98] (by decide +kernel) (by decide +kernel)
set_option maxRecDepth 20000 in
theorem gX7_hours_X5_shiningPlaces : GoodIn wsX7_hours (wsV RX7 218 RX5 yX5_shiningPlaces wsX5_shiningPlaces) := goodIn_app (goodIn_of _ (by decide +kernel)) ggX7_hours_X5_shiningPlaces
theorem dX7_hours_0 : decode cX7_hours 0 = .ok (.iload_n 1, 1) := by decide +kernel
theorem dX7_hours_1 : decode cX7_hours 1 = .ok (.invokestatic 291, 3) := by decide +kernel
theorem dX7_hours_4 : decode cX7_hours 4 = .ok (.ifCond .ne 10, 3) := by decide +kernel
theorem dX7_hours_7 : decode cX7_hours 7 = .ok (.aload_n 0, 1) := by decide +kernel
theorem dX7_hours_8 : decode cX7_hours 8 = .ok (.bipush (-2), 2) := by decide +kernel
theorem dX7_hours_10 : decode cX7_hours 10 = .ok (.invokevirtual 73, 3) := by decide +kernel
theorem dX7_hours_13 : decode cX7_hours 13 = .ok (.ireturn, 1) := by decide +kernel
theorem dX7_hours_14 : decode cX7_hours 14 = .ok (.aload_n 0, 1) := by decide +kernel
theorem dX7_hours_15 : decode cX7_hours 15 = .ok (.getfield 10, 3) := by decide +kernel
theorem dX7_hours_18 : decode cX7_hours 18 = .ok (.iload_n 1, 1) := by decide +kernel
theorem dX7_hours_19 : decode cX7_hours 19 = .ok (.invokevirtual 306, 3) := by decide +kernel
theorem dX7_hours_22 : decode cX7_hours 22 = .ok (.aload_n 0, 1) := by decide +kernel
theorem dX7_hours_23 : decode cX7_hours 23 = .ok (.getfield 10, 3) := by decide +kernel
theorem dX7_hours_26 : decode cX7_hours 26 = .ok (.invokevirtual 218, 3) := by decide +kernel
theorem dX7_hours_29 : decode cX7_hours 29 = .ok (.ireturn, 1) := by decide +kernel
set_option maxRecDepth 20000 in
theorem ggX7_drawn_X7_isSpan : GoodIn wsX7_drawn wsX7_isSpan := goodIn_r _ [5] (by decide +kernel) (by decide +kernel)
set_option maxRecDepth 20000 in
theorem gX7_drawn_X7_isSpan : GoodIn wsX7_drawn (va_wsS RX7 291 yX7_isSpan wsX7_isSpan) := goodIn_app (goodIn_of _ (by decide +kernel)) ggX7_drawn_X7_isSpan
set_option maxRecDepth 20000 in
theorem ggX7_drawn_X7_refuse : GoodIn wsX7_drawn wsX7_refuse := goodIn_r _ [9, 10, 68, 69, 70, 71, 72, 73, 74, 75, 76, 77, 78, 79] (by decide +kernel) (by decide +kernel)
set_option maxRecDepth 20000 in
theorem gX7_drawn_X7_refuse : GoodIn wsX7_drawn (wsV RX7 73 RX7 yX7_refuse wsX7_refuse) := goodIn_app (goodIn_of _ (by decide +kernel)) ggX7_drawn_X7_refuse
set_option maxRecDepth 20000 in
theorem ggX7_drawn_X5_passDrawnHour : GoodIn wsX7_drawn wsX5_passDrawnHour := goodIn_r _ [15, 16, 17, 18, 19, 20, 14, 21, 22, 23, 24, 25, 26, 27, 28, 29, 30, 31, 32, 33, 34, 35, 36, 37, 38, 39, 40, 41, 42, 43, 44, 45, 46, 47, 48, 49, 50, 51, 80, 81, 82, 83, 84, 85, 86, 87, 88, 89, 90, 91] (by decide +kernel) (by decide +kernel)
set_option maxRecDepth 20000 in
theorem gX7_drawn_X5_passDrawnHour : GoodIn wsX7_drawn (wsV RX7 315 RX5 yX5_passDrawnHour wsX5_passDrawnHour) := goodIn_app (goodIn_of _ (by decide +kernel)) ggX7_drawn_X5_passDrawnHour
set_option maxRecDepth 20000 in
theorem ggX7_drawn_X5_shiningCount : GoodIn wsX7_drawn wsX5_shiningCount := goodIn_r _ [55, 56, 57, 58, 14, 59, 25, 60, 61, 62, 63, 16, 22, 64, 65, 66, 67, 17, 26, 27, 28, 29, 30, 31, 32, 80, 81, 82, 83, 84, 85, 86, 87, 88, 89, 90, 91] (by decide +kernel) (by decide +kernel)
set_option maxRecDepth 20000 in
theorem gX7_drawn_X5_shiningCount : GoodIn wsX7_drawn (wsV RX7 221 RX5 yX5_shiningCount wsX5_shiningCount) := goodIn_app (goodIn_of _ (by decide +kernel)) ggX7_drawn_X5_shiningCount
theorem dX7_drawn_0 : decode cX7_drawn 0 = .ok (.iload_n 1, 1) := by decide +kernel
theorem dX7_drawn_1 : decode cX7_drawn 1 = .ok (.invokestatic 291, 3) := by decide +kernel
theorem dX7_drawn_4 : decode cX7_drawn 4 = .ok (.ifCond .ne 10, 3) := by decide +kernel
theorem dX7_drawn_7 : decode cX7_drawn 7 = .ok (.aload_n 0, 1) := by decide +kernel
theorem dX7_drawn_8 : decode cX7_drawn 8 = .ok (.bipush (-2), 2) := by decide +kernel
theorem dX7_drawn_10 : decode cX7_drawn 10 = .ok (.invokevirtual 73, 3) := by decide +kernel
theorem dX7_drawn_13 : decode cX7_drawn 13 = .ok (.ireturn, 1) := by decide +kernel
theorem dX7_drawn_14 : decode cX7_drawn 14 = .ok (.iconst 0, 1) := by decide +kernel
theorem dX7_drawn_15 : decode cX7_drawn 15 = .ok (.istore_n 2, 1) := by decide +kernel
theorem dX7_drawn_16 : decode cX7_drawn 16 = .ok (.iconst 0, 1) := by decide +kernel
theorem dX7_drawn_17 : decode cX7_drawn 17 = .ok (.istore_n 3, 1) := by decide +kernel
theorem dX7_drawn_18 : decode cX7_drawn 18 = .ok (.iload_n 3, 1) := by decide +kernel
theorem dX7_drawn_19 : decode cX7_drawn 19 = .ok (.iload_n 1, 1) := by decide +kernel
theorem dX7_drawn_20 : decode cX7_drawn 20 = .ok (.if_icmp .ge 26, 3) := by decide +kernel
theorem dX7_drawn_23 : decode cX7_drawn 23 = .ok (.aload_n 0, 1) := by decide +kernel
theorem dX7_drawn_24 : decode cX7_drawn 24 = .ok (.getfield 10, 3) := by decide +kernel
theorem dX7_drawn_27 : decode cX7_drawn 27 = .ok (.invokevirtual 315, 3) := by decide +kernel
theorem dX7_drawn_30 : decode cX7_drawn 30 = .ok (.iload_n 2, 1) := by decide +kernel
theorem dX7_drawn_31 : decode cX7_drawn 31 = .ok (.aload_n 0, 1) := by decide +kernel
theorem dX7_drawn_32 : decode cX7_drawn 32 = .ok (.getfield 10, 3) := by decide +kernel
theorem dX7_drawn_35 : decode cX7_drawn 35 = .ok (.invokevirtual 221, 3) := by decide +kernel
theorem dX7_drawn_38 : decode cX7_drawn 38 = .ok (.iadd, 1) := by decide +kernel
theorem dX7_drawn_39 : decode cX7_drawn 39 = .ok (.istore_n 2, 1) := by decide +kernel
theorem dX7_drawn_40 : decode cX7_drawn 40 = .ok (.iinc 3 1, 3) := by decide +kernel
theorem dX7_drawn_43 : decode cX7_drawn 43 = .ok (.goto (-25), 3) := by decide +kernel
theorem dX7_drawn_46 : decode cX7_drawn 46 = .ok (.iload_n 2, 1) := by decide +kernel
theorem dX7_drawn_47 : decode cX7_drawn 47 = .ok (.ireturn, 1) := by decide +kernel
theorem dX7_seed_0 : decode cX7_seed 0 = .ok (.aload_n 0, 1) := by decide +kernel
theorem dX7_seed_1 : decode cX7_seed 1 = .ok (.getfield 10, 3) := by decide +kernel
theorem dX7_seed_4 : decode cX7_seed 4 = .ok (.getfield 318, 3) := by decide +kernel
theorem dX7_seed_7 : decode cX7_seed 7 = .ok (.istore_n 2, 1) := by decide +kernel
theorem dX7_seed_8 : decode cX7_seed 8 = .ok (.aload_n 0, 1) := by decide +kernel
theorem dX7_seed_9 : decode cX7_seed 9 = .ok (.getfield 10, 3) := by decide +kernel
theorem dX7_seed_12 : decode cX7_seed 12 = .ok (.iload_n 1, 1) := by decide +kernel
theorem dX7_seed_13 : decode cX7_seed 13 = .ok (.putfield 318, 3) := by decide +kernel
theorem dX7_seed_16 : decode cX7_seed 16 = .ok (.iload_n 2, 1) := by decide +kernel
theorem dX7_seed_17 : decode cX7_seed 17 = .ok (.ireturn, 1) := by decide +kernel
set_option maxRecDepth 20000 in
theorem ggX7_image_X5_become : GoodIn wsX7_image wsX5_become := goodIn_r _ [8, 9, 10, 11, 12, 13, 14, 15, 16, 17, 18, 19, 20, 21, 22, 23, 24, 37, 38, 39, 40, 41, 42, 43, 44, 45, 46, 47, 48] (by decide +kernel) (by decide +kernel)
set_option maxRecDepth 20000 in
theorem gX7_image_X5_become : GoodIn wsX7_image (wsV RX7 198 RX5 yX5_become wsX5_become) := goodIn_app (goodIn_of _ (by decide +kernel)) ggX7_image_X5_become
theorem dX7_image_0 : decode cX7_image 0 = .ok (.aload_n 0, 1) := by decide +kernel
theorem dX7_image_1 : decode cX7_image 1 = .ok (.getfield 22, 3) := by decide +kernel
theorem dX7_image_4 : decode cX7_image 4 = .ok (.aload_n 0, 1) := by decide +kernel
theorem dX7_image_5 : decode cX7_image 5 = .ok (.getfield 10, 3) := by decide +kernel
theorem dX7_image_8 : decode cX7_image 8 = .ok (.invokevirtual 198, 3) := by decide +kernel
theorem dX7_image_11 : decode cX7_image 11 = .ok (.aload_n 0, 1) := by decide +kernel
theorem dX7_image_12 : decode cX7_image 12 = .ok (.iconst 1, 1) := by decide +kernel
theorem dX7_image_13 : decode cX7_image 13 = .ok (.putfield 321, 3) := by decide +kernel
theorem dX7_image_16 : decode cX7_image 16 = .ok (.iconst 1, 1) := by decide +kernel
theorem dX7_image_17 : decode cX7_image 17 = .ok (.ireturn, 1) := by decide +kernel
set_option maxRecDepth 20000 in
theorem ggX7_back_X7_refuse : GoodIn wsX7_back wsX7_refuse := goodIn_r _ [9, 10, 52, 53, 54, 55, 56, 57, 58, 59, 60, 61, 62, 63] (by decide +kernel) (by decide +kernel)
set_option maxRecDepth 20000 in
theorem gX7_back_X7_refuse : GoodIn wsX7_back (wsV RX7 73 RX7 yX7_refuse wsX7_refuse) := goodIn_app (goodIn_of _ (by decide +kernel)) ggX7_back_X7_refuse
set_option maxRecDepth 20000 in
theorem ggX7_back_X5_become : GoodIn wsX7_back wsX5_become := goodIn_r _ [15, 16, 17, 18, 19, 20, 21, 22, 23, 24, 25, 26, 27, 28, 29, 30, 31, 64, 65, 66, 67, 68, 69, 70, 71, 72, 73, 74, 75] (by decide +kernel) (by decide +kernel)
set_option maxRecDepth 20000 in
theorem gX7_back_X5_become : GoodIn wsX7_back (wsV RX7 198 RX5 yX5_become wsX5_become) := goodIn_app (goodIn_of _ (by decide +kernel)) ggX7_back_X5_become
set_option maxRecDepth 20000 in
theorem ggX7_back_X2_holdsPerson : GoodIn wsX7_back wsX2_holdsPerson := goodIn_r _ [36, 37, 76, 77, 78] (by decide +kernel) (by decide +kernel)
set_option maxRecDepth 20000 in
theorem gX7_back_X2_holdsPerson : GoodIn wsX7_back (wsV RX7 325 RX2 yX2_holdsPerson wsX2_holdsPerson) := goodIn_app (goodIn_of _ (by decide +kernel)) ggX7_back_X2_holdsPerson
set_option maxRecDepth 20000 in
theorem ggX7_back_X2_personNumber : GoodIn wsX7_back wsX2_personNumber := goodIn_r _ [41, 37, 76, 77, 78] (by decide +kernel) (by decide +kernel)
set_option maxRecDepth 20000 in
theorem gX7_back_X2_personNumber : GoodIn wsX7_back (wsV RX7 133 RX2 yX2_personNumber wsX2_personNumber) := goodIn_app (goodIn_of _ (by decide +kernel)) ggX7_back_X2_personNumber
set_option maxRecDepth 20000 in
theorem ggX7_back_X7_isPerson : GoodIn wsX7_back wsX7_isPerson := goodIn_r _ [45, 2, 46, 52, 53, 54, 55, 56, 57, 58, 59, 60, 61, 62, 63, 64, 65, 66, 67, 68, 69, 70, 71, 72, 73, 74, 75] (by decide +kernel) (by decide +kernel)
set_option maxRecDepth 20000 in
theorem gX7_back_X7_isPerson : GoodIn wsX7_back (wsV RX7 113 RX7 yX7_isPerson wsX7_isPerson) := goodIn_app (goodIn_of _ (by decide +kernel)) ggX7_back_X7_isPerson
set_option maxRecDepth 20000 in
theorem ggX7_back_X2_takeNothing : GoodIn wsX7_back wsX2_takeNothing := goodIn_r _ [50, 37, 51, 76, 77, 78] (by decide +kernel) (by decide +kernel)
set_option maxRecDepth 20000 in
theorem gX7_back_X2_takeNothing : GoodIn wsX7_back (wsV RX7 116 RX2 yX2_takeNothing wsX2_takeNothing) := goodIn_app (goodIn_of _ (by decide +kernel)) ggX7_back_X2_takeNothing
theorem dX7_back_0 : decode cX7_back 0 = .ok (.aload_n 0, 1) := by decide +kernel
theorem dX7_back_1 : decode cX7_back 1 = .ok (.getfield 321, 3) := by decide +kernel
theorem dX7_back_4 : decode cX7_back 4 = .ok (.ifCond .ne 10, 3) := by decide +kernel
theorem dX7_back_7 : decode cX7_back 7 = .ok (.aload_n 0, 1) := by decide +kernel
theorem dX7_back_8 : decode cX7_back 8 = .ok (.bipush (-5), 2) := by decide +kernel
theorem dX7_back_10 : decode cX7_back 10 = .ok (.invokevirtual 73, 3) := by decide +kernel
theorem dX7_back_13 : decode cX7_back 13 = .ok (.ireturn, 1) := by decide +kernel
theorem dX7_back_14 : decode cX7_back 14 = .ok (.aload_n 0, 1) := by decide +kernel
theorem dX7_back_15 : decode cX7_back 15 = .ok (.getfield 10, 3) := by decide +kernel
theorem dX7_back_18 : decode cX7_back 18 = .ok (.aload_n 0, 1) := by decide +kernel
theorem dX7_back_19 : decode cX7_back 19 = .ok (.getfield 22, 3) := by decide +kernel
theorem dX7_back_22 : decode cX7_back 22 = .ok (.invokevirtual 198, 3) := by decide +kernel
theorem dX7_back_25 : decode cX7_back 25 = .ok (.iconst 0, 1) := by decide +kernel
theorem dX7_back_26 : decode cX7_back 26 = .ok (.istore_n 1, 1) := by decide +kernel
theorem dX7_back_27 : decode cX7_back 27 = .ok (.iload_n 1, 1) := by decide +kernel
theorem dX7_back_28 : decode cX7_back 28 = .ok (.bipush 8, 2) := by decide +kernel
theorem dX7_back_30 : decode cX7_back 30 = .ok (.if_icmp .ge 46, 3) := by decide +kernel
theorem dX7_back_33 : decode cX7_back 33 = .ok (.aload_n 0, 1) := by decide +kernel
theorem dX7_back_34 : decode cX7_back 34 = .ok (.getfield 27, 3) := by decide +kernel
theorem dX7_back_37 : decode cX7_back 37 = .ok (.iload_n 1, 1) := by decide +kernel
theorem dX7_back_38 : decode cX7_back 38 = .ok (.aaload, 1) := by decide +kernel
theorem dX7_back_39 : decode cX7_back 39 = .ok (.invokevirtual 325, 3) := by decide +kernel
theorem dX7_back_42 : decode cX7_back 42 = .ok (.ifCond .eq 28, 3) := by decide +kernel
theorem dX7_back_45 : decode cX7_back 45 = .ok (.aload_n 0, 1) := by decide +kernel
theorem dX7_back_46 : decode cX7_back 46 = .ok (.aload_n 0, 1) := by decide +kernel
theorem dX7_back_47 : decode cX7_back 47 = .ok (.getfield 27, 3) := by decide +kernel
theorem dX7_back_50 : decode cX7_back 50 = .ok (.iload_n 1, 1) := by decide +kernel
theorem dX7_back_51 : decode cX7_back 51 = .ok (.aaload, 1) := by decide +kernel
theorem dX7_back_52 : decode cX7_back 52 = .ok (.invokevirtual 133, 3) := by decide +kernel
theorem dX7_back_55 : decode cX7_back 55 = .ok (.invokevirtual 113, 3) := by decide +kernel
theorem dX7_back_58 : decode cX7_back 58 = .ok (.ifCond .ne 12, 3) := by decide +kernel
theorem dX7_back_61 : decode cX7_back 61 = .ok (.aload_n 0, 1) := by decide +kernel
theorem dX7_back_62 : decode cX7_back 62 = .ok (.getfield 27, 3) := by decide +kernel
theorem dX7_back_65 : decode cX7_back 65 = .ok (.iload_n 1, 1) := by decide +kernel
theorem dX7_back_66 : decode cX7_back 66 = .ok (.aaload, 1) := by decide +kernel
theorem dX7_back_67 : decode cX7_back 67 = .ok (.invokevirtual 116, 3) := by decide +kernel
theorem dX7_back_70 : decode cX7_back 70 = .ok (.iinc 1 1, 3) := by decide +kernel
theorem dX7_back_73 : decode cX7_back 73 = .ok (.goto (-46), 3) := by decide +kernel
theorem dX7_back_76 : decode cX7_back 76 = .ok (.iconst 1, 1) := by decide +kernel
theorem dX7_back_77 : decode cX7_back 77 = .ok (.ireturn, 1) := by decide +kernel
set_option maxRecDepth 20000 in
theorem ggX7_status_X5_countWays : GoodIn wsX7_status wsX5_countWays := goodIn_r _ [14, 15, 16, 17, 18, 19, 20, 21, 22, 23, 63, 64, 65, 66, 67, 68, 69, 70, 71, 72, 73, 74] (by decide +kernel) (by decide +kernel)
set_option maxRecDepth 20000 in
theorem gX7_status_X5_countWays : GoodIn wsX7_status (wsV RX7 328 RX5 yX5_countWays wsX5_countWays) := goodIn_app (goodIn_of _ (by decide +kernel)) ggX7_status_X5_countWays
set_option maxRecDepth 20000 in
theorem ggX7_status_X5_shiningPlaces : GoodIn wsX7_status wsX5_shiningPlaces := goodIn_r _ [27, 15, 28, 29, 30, 13, 31, 32, 33, 34, 35, 36, 37, 38, 63, 64, 65, 66, 67, 68, 69, 70, 71, 72, 73, 74] (by decide +kernel) (by decide +kernel)
set_option maxRecDepth 20000 in
theorem gX7_status_X5_shiningPlaces : GoodIn wsX7_status (wsV RX7 218 RX5 yX5_shiningPlaces wsX5_shiningPlaces) := goodIn_app (goodIn_of _ (by decide +kernel)) ggX7_status_X5_shiningPlaces
set_option maxRecDepth 20000 in
theorem ggX7_status_X7_fullShelves : GoodIn wsX7_status wsX7_fullShelves := goodIn_r _ [43, 44, 45, 46, 47, 48, 49, 50, 51, 52, 53, 54, 55, 56, 57, 58, 59, 60, 61, 62, 77, 78, 79] (by decide +kernel) (by decide +kernel)
set_option maxRecDepth 20000 in
theorem gX7_status_X7_fullShelves : GoodIn wsX7_status (wsV RX7 331 RX7 yX7_fullShelves wsX7_fullShelves) := goodIn_app (goodIn_of _ (by decide +kernel)) ggX7_status_X7_fullShelves
theorem dX7_status_0 : decode cX7_status 0 = .ok (.iload_n 1, 1) := by decide +kernel
theorem dX7_status_1 : decode cX7_status 1 = .ok (.bipush 12, 2) := by decide +kernel
theorem dX7_status_3 : decode cX7_status 3 = .ok (.if_icmp .lt 19, 3) := by decide +kernel
theorem dX7_status_6 : decode cX7_status 6 = .ok (.iload_n 1, 1) := by decide +kernel
theorem dX7_status_7 : decode cX7_status 7 = .ok (.bipush 17, 2) := by decide +kernel
theorem dX7_status_9 : decode cX7_status 9 = .ok (.if_icmp .ge 13, 3) := by decide +kernel
theorem dX7_status_12 : decode cX7_status 12 = .ok (.aload_n 0, 1) := by decide +kernel
theorem dX7_status_13 : decode cX7_status 13 = .ok (.getfield 65, 3) := by decide +kernel
theorem dX7_status_16 : decode cX7_status 16 = .ok (.iload_n 1, 1) := by decide +kernel
theorem dX7_status_17 : decode cX7_status 17 = .ok (.bipush 12, 2) := by decide +kernel
theorem dX7_status_19 : decode cX7_status 19 = .ok (.isub, 1) := by decide +kernel
theorem dX7_status_20 : decode cX7_status 20 = .ok (.iaload, 1) := by decide +kernel
theorem dX7_status_21 : decode cX7_status 21 = .ok (.ireturn, 1) := by decide +kernel
theorem dX7_status_22 : decode cX7_status 22 = .ok (.iload_n 1, 1) := by decide +kernel
theorem dX7_status_23 : decode cX7_status 23 = .ok (.tableswitch 118 0 8 #[49, 57, 65, 73, 81, 89, 97, 105, 113], 49) := by decide +kernel
theorem dX7_status_72 : decode cX7_status 72 = .ok (.aload_n 0, 1) := by decide +kernel
theorem dX7_status_73 : decode cX7_status 73 = .ok (.getfield 10, 3) := by decide +kernel
theorem dX7_status_76 : decode cX7_status 76 = .ok (.getfield 152, 3) := by decide +kernel
theorem dX7_status_79 : decode cX7_status 79 = .ok (.ireturn, 1) := by decide +kernel
theorem dX7_status_80 : decode cX7_status 80 = .ok (.aload_n 0, 1) := by decide +kernel
theorem dX7_status_81 : decode cX7_status 81 = .ok (.getfield 10, 3) := by decide +kernel
theorem dX7_status_84 : decode cX7_status 84 = .ok (.invokevirtual 328, 3) := by decide +kernel
theorem dX7_status_87 : decode cX7_status 87 = .ok (.ireturn, 1) := by decide +kernel
theorem dX7_status_88 : decode cX7_status 88 = .ok (.aload_n 0, 1) := by decide +kernel
theorem dX7_status_89 : decode cX7_status 89 = .ok (.getfield 10, 3) := by decide +kernel
theorem dX7_status_92 : decode cX7_status 92 = .ok (.getfield 171, 3) := by decide +kernel
theorem dX7_status_95 : decode cX7_status 95 = .ok (.ireturn, 1) := by decide +kernel
theorem dX7_status_96 : decode cX7_status 96 = .ok (.aload_n 0, 1) := by decide +kernel
theorem dX7_status_97 : decode cX7_status 97 = .ok (.getfield 10, 3) := by decide +kernel
theorem dX7_status_100 : decode cX7_status 100 = .ok (.getfield 184, 3) := by decide +kernel
theorem dX7_status_103 : decode cX7_status 103 = .ok (.ireturn, 1) := by decide +kernel
theorem dX7_status_104 : decode cX7_status 104 = .ok (.aload_n 0, 1) := by decide +kernel
theorem dX7_status_105 : decode cX7_status 105 = .ok (.getfield 10, 3) := by decide +kernel
theorem dX7_status_108 : decode cX7_status 108 = .ok (.getfield 187, 3) := by decide +kernel
theorem dX7_status_111 : decode cX7_status 111 = .ok (.ireturn, 1) := by decide +kernel
theorem dX7_status_112 : decode cX7_status 112 = .ok (.aload_n 0, 1) := by decide +kernel
theorem dX7_status_113 : decode cX7_status 113 = .ok (.getfield 10, 3) := by decide +kernel
theorem dX7_status_116 : decode cX7_status 116 = .ok (.invokevirtual 218, 3) := by decide +kernel
theorem dX7_status_119 : decode cX7_status 119 = .ok (.ireturn, 1) := by decide +kernel
theorem dX7_status_120 : decode cX7_status 120 = .ok (.aload_n 0, 1) := by decide +kernel
theorem dX7_status_121 : decode cX7_status 121 = .ok (.getfield 43, 3) := by decide +kernel
theorem dX7_status_124 : decode cX7_status 124 = .ok (.getfield 190, 3) := by decide +kernel
theorem dX7_status_127 : decode cX7_status 127 = .ok (.ireturn, 1) := by decide +kernel
theorem dX7_status_128 : decode cX7_status 128 = .ok (.aload_n 0, 1) := by decide +kernel
theorem dX7_status_129 : decode cX7_status 129 = .ok (.getfield 10, 3) := by decide +kernel
theorem dX7_status_132 : decode cX7_status 132 = .ok (.getfield 318, 3) := by decide +kernel
theorem dX7_status_135 : decode cX7_status 135 = .ok (.ireturn, 1) := by decide +kernel
theorem dX7_status_136 : decode cX7_status 136 = .ok (.aload_n 0, 1) := by decide +kernel
theorem dX7_status_137 : decode cX7_status 137 = .ok (.invokevirtual 331, 3) := by decide +kernel
theorem dX7_status_140 : decode cX7_status 140 = .ok (.ireturn, 1) := by decide +kernel
theorem dX7_status_141 : decode cX7_status 141 = .ok (.iconst (-1), 1) := by decide +kernel
theorem dX7_status_142 : decode cX7_status 142 = .ok (.ireturn, 1) := by decide +kernel
theorem dX7_refuse_0 : decode cX7_refuse 0 = .ok (.bipush (-2), 2) := by decide +kernel
theorem dX7_refuse_2 : decode cX7_refuse 2 = .ok (.iload_n 1, 1) := by decide +kernel
theorem dX7_refuse_3 : decode cX7_refuse 3 = .ok (.isub, 1) := by decide +kernel
theorem dX7_refuse_4 : decode cX7_refuse 4 = .ok (.istore_n 2, 1) := by decide +kernel
theorem dX7_refuse_5 : decode cX7_refuse 5 = .ok (.iload_n 2, 1) := by decide +kernel
theorem dX7_refuse_6 : decode cX7_refuse 6 = .ok (.ifCond .lt 18, 3) := by decide +kernel
theorem dX7_refuse_9 : decode cX7_refuse 9 = .ok (.iload_n 2, 1) := by decide +kernel
theorem dX7_refuse_10 : decode cX7_refuse 10 = .ok (.iconst 5, 1) := by decide +kernel
theorem dX7_refuse_11 : decode cX7_refuse 11 = .ok (.if_icmp .ge 13, 3) := by decide +kernel
theorem dX7_refuse_14 : decode cX7_refuse 14 = .ok (.aload_n 0, 1) := by decide +kernel
theorem dX7_refuse_15 : decode cX7_refuse 15 = .ok (.getfield 65, 3) := by decide +kernel
theorem dX7_refuse_18 : decode cX7_refuse 18 = .ok (.iload_n 2, 1) := by decide +kernel
theorem dX7_refuse_19 : decode cX7_refuse 19 = .ok (.dup2, 1) := by decide +kernel
theorem dX7_refuse_20 : decode cX7_refuse 20 = .ok (.iaload, 1) := by decide +kernel
theorem dX7_refuse_21 : decode cX7_refuse 21 = .ok (.iconst 1, 1) := by decide +kernel
theorem dX7_refuse_22 : decode cX7_refuse 22 = .ok (.iadd, 1) := by decide +kernel
theorem dX7_refuse_23 : decode cX7_refuse 23 = .ok (.iastore, 1) := by decide +kernel
theorem dX7_refuse_24 : decode cX7_refuse 24 = .ok (.iload_n 1, 1) := by decide +kernel
theorem dX7_refuse_25 : decode cX7_refuse 25 = .ok (.ireturn, 1) := by decide +kernel
theorem dX7_isShelf_0 : decode cX7_isShelf 0 = .ok (.iload_n 0, 1) := by decide +kernel
theorem dX7_isShelf_1 : decode cX7_isShelf 1 = .ok (.ifCond .lt 13, 3) := by decide +kernel
theorem dX7_isShelf_4 : decode cX7_isShelf 4 = .ok (.iload_n 0, 1) := by decide +kernel
theorem dX7_isShelf_5 : decode cX7_isShelf 5 = .ok (.bipush 8, 2) := by decide +kernel
theorem dX7_isShelf_7 : decode cX7_isShelf 7 = .ok (.if_icmp .ge 7, 3) := by decide +kernel
theorem dX7_isShelf_10 : decode cX7_isShelf 10 = .ok (.iconst 1, 1) := by decide +kernel
theorem dX7_isShelf_11 : decode cX7_isShelf 11 = .ok (.goto 4, 3) := by decide +kernel
theorem dX7_isShelf_14 : decode cX7_isShelf 14 = .ok (.iconst 0, 1) := by decide +kernel
theorem dX7_isShelf_15 : decode cX7_isShelf 15 = .ok (.ireturn, 1) := by decide +kernel
theorem dX7_isKind_0 : decode cX7_isKind 0 = .ok (.iload_n 0, 1) := by decide +kernel
theorem dX7_isKind_1 : decode cX7_isKind 1 = .ok (.ifCond .lt 13, 3) := by decide +kernel
theorem dX7_isKind_4 : decode cX7_isKind 4 = .ok (.iload_n 0, 1) := by decide +kernel
theorem dX7_isKind_5 : decode cX7_isKind 5 = .ok (.bipush 6, 2) := by decide +kernel
theorem dX7_isKind_7 : decode cX7_isKind 7 = .ok (.if_icmp .ge 7, 3) := by decide +kernel
theorem dX7_isKind_10 : decode cX7_isKind 10 = .ok (.iconst 1, 1) := by decide +kernel
theorem dX7_isKind_11 : decode cX7_isKind 11 = .ok (.goto 4, 3) := by decide +kernel
theorem dX7_isKind_14 : decode cX7_isKind 14 = .ok (.iconst 0, 1) := by decide +kernel
theorem dX7_isKind_15 : decode cX7_isKind 15 = .ok (.ireturn, 1) := by decide +kernel
theorem dX7_isAhead_0 : decode cX7_isAhead 0 = .ok (.iload_n 0, 1) := by decide +kernel
theorem dX7_isAhead_1 : decode cX7_isAhead 1 = .ok (.ifCond .lt 13, 3) := by decide +kernel
theorem dX7_isAhead_4 : decode cX7_isAhead 4 = .ok (.iload_n 0, 1) := by decide +kernel
theorem dX7_isAhead_5 : decode cX7_isAhead 5 = .ok (.bipush 48, 2) := by decide +kernel
theorem dX7_isAhead_7 : decode cX7_isAhead 7 = .ok (.if_icmp .gt 7, 3) := by decide +kernel
theorem dX7_isAhead_10 : decode cX7_isAhead 10 = .ok (.iconst 1, 1) := by decide +kernel
theorem dX7_isAhead_11 : decode cX7_isAhead 11 = .ok (.goto 4, 3) := by decide +kernel
theorem dX7_isAhead_14 : decode cX7_isAhead 14 = .ok (.iconst 0, 1) := by decide +kernel
theorem dX7_isAhead_15 : decode cX7_isAhead 15 = .ok (.ireturn, 1) := by decide +kernel
theorem dX7_isSpan_0 : decode cX7_isSpan 0 = .ok (.iload_n 0, 1) := by decide +kernel
theorem dX7_isSpan_1 : decode cX7_isSpan 1 = .ok (.iconst 1, 1) := by decide +kernel
theorem dX7_isSpan_2 : decode cX7_isSpan 2 = .ok (.if_icmp .lt 13, 3) := by decide +kernel
theorem dX7_isSpan_5 : decode cX7_isSpan 5 = .ok (.iload_n 0, 1) := by decide +kernel
theorem dX7_isSpan_6 : decode cX7_isSpan 6 = .ok (.bipush 48, 2) := by decide +kernel
theorem dX7_isSpan_8 : decode cX7_isSpan 8 = .ok (.if_icmp .gt 7, 3) := by decide +kernel
theorem dX7_isSpan_11 : decode cX7_isSpan 11 = .ok (.iconst 1, 1) := by decide +kernel
theorem dX7_isSpan_12 : decode cX7_isSpan 12 = .ok (.goto 4, 3) := by decide +kernel
theorem dX7_isSpan_15 : decode cX7_isSpan 15 = .ok (.iconst 0, 1) := by decide +kernel
theorem dX7_isSpan_16 : decode cX7_isSpan 16 = .ok (.ireturn, 1) := by decide +kernel
theorem dX7_hasBit_0 : decode cX7_hasBit 0 = .ok (.iload_n 0, 1) := by decide +kernel
theorem dX7_hasBit_1 : decode cX7_hasBit 1 = .ok (.iload_n 1, 1) := by decide +kernel
theorem dX7_hasBit_2 : decode cX7_hasBit 2 = .ok (.ishr, 1) := by decide +kernel
theorem dX7_hasBit_3 : decode cX7_hasBit 3 = .ok (.iconst 1, 1) := by decide +kernel
theorem dX7_hasBit_4 : decode cX7_hasBit 4 = .ok (.iand, 1) := by decide +kernel
theorem dX7_hasBit_5 : decode cX7_hasBit 5 = .ok (.ifCond .eq 7, 3) := by decide +kernel
theorem dX7_hasBit_8 : decode cX7_hasBit 8 = .ok (.iconst 1, 1) := by decide +kernel
theorem dX7_hasBit_9 : decode cX7_hasBit 9 = .ok (.goto 4, 3) := by decide +kernel
theorem dX7_hasBit_12 : decode cX7_hasBit 12 = .ok (.iconst 0, 1) := by decide +kernel
theorem dX7_hasBit_13 : decode cX7_hasBit 13 = .ok (.ireturn, 1) := by decide +kernel
theorem dX7_isPlace_0 : decode cX7_isPlace 0 = .ok (.iload_n 1, 1) := by decide +kernel
theorem dX7_isPlace_1 : decode cX7_isPlace 1 = .ok (.ifCond .lt 18, 3) := by decide +kernel
theorem dX7_isPlace_4 : decode cX7_isPlace 4 = .ok (.iload_n 1, 1) := by decide +kernel
theorem dX7_isPlace_5 : decode cX7_isPlace 5 = .ok (.aload_n 0, 1) := by decide +kernel
theorem dX7_isPlace_6 : decode cX7_isPlace 6 = .ok (.getfield 10, 3) := by decide +kernel
theorem dX7_isPlace_9 : decode cX7_isPlace 9 = .ok (.getfield 152, 3) := by decide +kernel
theorem dX7_isPlace_12 : decode cX7_isPlace 12 = .ok (.if_icmp .ge 7, 3) := by decide +kernel
theorem dX7_isPlace_15 : decode cX7_isPlace 15 = .ok (.iconst 1, 1) := by decide +kernel
theorem dX7_isPlace_16 : decode cX7_isPlace 16 = .ok (.goto 4, 3) := by decide +kernel
theorem dX7_isPlace_19 : decode cX7_isPlace 19 = .ok (.iconst 0, 1) := by decide +kernel
theorem dX7_isPlace_20 : decode cX7_isPlace 20 = .ok (.ireturn, 1) := by decide +kernel
set_option maxRecDepth 20000 in
theorem ggX7_areTwoPlaces_X7_isPlace : GoodIn wsX7_areTwoPlaces wsX7_isPlace := goodIn_r _ [5, 6, 7, 8, 9, 10, 11, 12, 13, 14, 15, 16, 17, 18, 19, 20, 21, 22, 23, 24, 25, 26, 27, 28, 29, 30, 31] (by decide +kernel) (by decide +kernel)
set_option maxRecDepth 20000 in
theorem gX7_areTwoPlaces_X7_isPlace : GoodIn wsX7_areTwoPlaces (wsV RX7 168 RX7 yX7_isPlace wsX7_isPlace) := goodIn_app (goodIn_of _ (by decide +kernel)) ggX7_areTwoPlaces_X7_isPlace
theorem dX7_areTwoPlaces_0 : decode cX7_areTwoPlaces 0 = .ok (.aload_n 0, 1) := by decide +kernel
theorem dX7_areTwoPlaces_1 : decode cX7_areTwoPlaces 1 = .ok (.iload_n 1, 1) := by decide +kernel
theorem dX7_areTwoPlaces_2 : decode cX7_areTwoPlaces 2 = .ok (.invokevirtual 168, 3) := by decide +kernel
theorem dX7_areTwoPlaces_5 : decode cX7_areTwoPlaces 5 = .ok (.ifCond .eq 20, 3) := by decide +kernel
theorem dX7_areTwoPlaces_8 : decode cX7_areTwoPlaces 8 = .ok (.aload_n 0, 1) := by decide +kernel
theorem dX7_areTwoPlaces_9 : decode cX7_areTwoPlaces 9 = .ok (.iload_n 2, 1) := by decide +kernel
theorem dX7_areTwoPlaces_10 : decode cX7_areTwoPlaces 10 = .ok (.invokevirtual 168, 3) := by decide +kernel
theorem dX7_areTwoPlaces_13 : decode cX7_areTwoPlaces 13 = .ok (.ifCond .eq 12, 3) := by decide +kernel
theorem dX7_areTwoPlaces_16 : decode cX7_areTwoPlaces 16 = .ok (.iload_n 1, 1) := by decide +kernel
theorem dX7_areTwoPlaces_17 : decode cX7_areTwoPlaces 17 = .ok (.iload_n 2, 1) := by decide +kernel
theorem dX7_areTwoPlaces_18 : decode cX7_areTwoPlaces 18 = .ok (.if_icmp .eq 7, 3) := by decide +kernel
theorem dX7_areTwoPlaces_21 : decode cX7_areTwoPlaces 21 = .ok (.iconst 1, 1) := by decide +kernel
theorem dX7_areTwoPlaces_22 : decode cX7_areTwoPlaces 22 = .ok (.goto 4, 3) := by decide +kernel
theorem dX7_areTwoPlaces_25 : decode cX7_areTwoPlaces 25 = .ok (.iconst 0, 1) := by decide +kernel
theorem dX7_areTwoPlaces_26 : decode cX7_areTwoPlaces 26 = .ok (.ireturn, 1) := by decide +kernel
theorem dX7_isPerson_0 : decode cX7_isPerson 0 = .ok (.iload_n 1, 1) := by decide +kernel
theorem dX7_isPerson_1 : decode cX7_isPerson 1 = .ok (.ifCond .lt 18, 3) := by decide +kernel
theorem dX7_isPerson_4 : decode cX7_isPerson 4 = .ok (.iload_n 1, 1) := by decide +kernel
theorem dX7_isPerson_5 : decode cX7_isPerson 5 = .ok (.aload_n 0, 1) := by decide +kernel
theorem dX7_isPerson_6 : decode cX7_isPerson 6 = .ok (.getfield 10, 3) := by decide +kernel
theorem dX7_isPerson_9 : decode cX7_isPerson 9 = .ok (.getfield 171, 3) := by decide +kernel
theorem dX7_isPerson_12 : decode cX7_isPerson 12 = .ok (.if_icmp .ge 7, 3) := by decide +kernel
theorem dX7_isPerson_15 : decode cX7_isPerson 15 = .ok (.iconst 1, 1) := by decide +kernel
theorem dX7_isPerson_16 : decode cX7_isPerson 16 = .ok (.goto 4, 3) := by decide +kernel
theorem dX7_isPerson_19 : decode cX7_isPerson 19 = .ok (.iconst 0, 1) := by decide +kernel
theorem dX7_isPerson_20 : decode cX7_isPerson 20 = .ok (.ireturn, 1) := by decide +kernel
set_option maxRecDepth 20000 in
theorem ggX7_areTwoPeople_X7_isPerson : GoodIn wsX7_areTwoPeople wsX7_isPerson := goodIn_r _ [5, 6, 7, 8, 9, 10, 11, 12, 13, 14, 15, 16, 17, 18, 19, 20, 21, 22, 23, 24, 25, 26, 27, 28, 29, 30, 31] (by decide +kernel) (by decide +kernel)
set_option maxRecDepth 20000 in
theorem gX7_areTwoPeople_X7_isPerson : GoodIn wsX7_areTwoPeople (wsV RX7 113 RX7 yX7_isPerson wsX7_isPerson) := goodIn_app (goodIn_of _ (by decide +kernel)) ggX7_areTwoPeople_X7_isPerson
theorem dX7_areTwoPeople_0 : decode cX7_areTwoPeople 0 = .ok (.aload_n 0, 1) := by decide +kernel
theorem dX7_areTwoPeople_1 : decode cX7_areTwoPeople 1 = .ok (.iload_n 1, 1) := by decide +kernel
theorem dX7_areTwoPeople_2 : decode cX7_areTwoPeople 2 = .ok (.invokevirtual 113, 3) := by decide +kernel
theorem dX7_areTwoPeople_5 : decode cX7_areTwoPeople 5 = .ok (.ifCond .eq 20, 3) := by decide +kernel
theorem dX7_areTwoPeople_8 : decode cX7_areTwoPeople 8 = .ok (.aload_n 0, 1) := by decide +kernel
theorem dX7_areTwoPeople_9 : decode cX7_areTwoPeople 9 = .ok (.iload_n 2, 1) := by decide +kernel
theorem dX7_areTwoPeople_10 : decode cX7_areTwoPeople 10 = .ok (.invokevirtual 113, 3) := by decide +kernel
theorem dX7_areTwoPeople_13 : decode cX7_areTwoPeople 13 = .ok (.ifCond .eq 12, 3) := by decide +kernel
theorem dX7_areTwoPeople_16 : decode cX7_areTwoPeople 16 = .ok (.iload_n 1, 1) := by decide +kernel
theorem dX7_areTwoPeople_17 : decode cX7_areTwoPeople 17 = .ok (.iload_n 2, 1) := by decide +kernel
theorem dX7_areTwoPeople_18 : decode cX7_areTwoPeople 18 = .ok (.if_icmp .eq 7, 3) := by decide +kernel
theorem dX7_areTwoPeople_21 : decode cX7_areTwoPeople 21 = .ok (.iconst 1, 1) := by decide +kernel
theorem dX7_areTwoPeople_22 : decode cX7_areTwoPeople 22 = .ok (.goto 4, 3) := by decide +kernel
theorem dX7_areTwoPeople_25 : decode cX7_areTwoPeople 25 = .ok (.iconst 0, 1) := by decide +kernel
theorem dX7_areTwoPeople_26 : decode cX7_areTwoPeople 26 = .ok (.ireturn, 1) := by decide +kernel
theorem dX7_isUnder_0 : decode cX7_isUnder 0 = .ok (.iload_n 1, 1) := by decide +kernel
theorem dX7_isUnder_1 : decode cX7_isUnder 1 = .ok (.tableswitch 61 0 2 #[27, 29, 45], 27) := by decide +kernel
theorem dX7_isUnder_28 : decode cX7_isUnder 28 = .ok (.iconst 1, 1) := by decide +kernel
theorem dX7_isUnder_29 : decode cX7_isUnder 29 = .ok (.ireturn, 1) := by decide +kernel
theorem dX7_isUnder_30 : decode cX7_isUnder 30 = .ok (.iload_n 0, 1) := by decide +kernel
theorem dX7_isUnder_31 : decode cX7_isUnder 31 = .ok (.iconst 1, 1) := by decide +kernel
theorem dX7_isUnder_32 : decode cX7_isUnder 32 = .ok (.if_icmp .eq 8, 3) := by decide +kernel
theorem dX7_isUnder_35 : decode cX7_isUnder 35 = .ok (.iload_n 0, 1) := by decide +kernel
theorem dX7_isUnder_36 : decode cX7_isUnder 36 = .ok (.iconst 3, 1) := by decide +kernel
theorem dX7_isUnder_37 : decode cX7_isUnder 37 = .ok (.if_icmp .ne 7, 3) := by decide +kernel
theorem dX7_isUnder_40 : decode cX7_isUnder 40 = .ok (.iconst 1, 1) := by decide +kernel
theorem dX7_isUnder_41 : decode cX7_isUnder 41 = .ok (.goto 4, 3) := by decide +kernel
theorem dX7_isUnder_44 : decode cX7_isUnder 44 = .ok (.iconst 0, 1) := by decide +kernel
theorem dX7_isUnder_45 : decode cX7_isUnder 45 = .ok (.ireturn, 1) := by decide +kernel
theorem dX7_isUnder_46 : decode cX7_isUnder 46 = .ok (.iload_n 0, 1) := by decide +kernel
theorem dX7_isUnder_47 : decode cX7_isUnder 47 = .ok (.iconst 2, 1) := by decide +kernel
theorem dX7_isUnder_48 : decode cX7_isUnder 48 = .ok (.if_icmp .eq 8, 3) := by decide +kernel
theorem dX7_isUnder_51 : decode cX7_isUnder 51 = .ok (.iload_n 0, 1) := by decide +kernel
theorem dX7_isUnder_52 : decode cX7_isUnder 52 = .ok (.iconst 4, 1) := by decide +kernel
theorem dX7_isUnder_53 : decode cX7_isUnder 53 = .ok (.if_icmp .ne 7, 3) := by decide +kernel
theorem dX7_isUnder_56 : decode cX7_isUnder 56 = .ok (.iconst 1, 1) := by decide +kernel
theorem dX7_isUnder_57 : decode cX7_isUnder 57 = .ok (.goto 4, 3) := by decide +kernel
theorem dX7_isUnder_60 : decode cX7_isUnder 60 = .ok (.iconst 0, 1) := by decide +kernel
theorem dX7_isUnder_61 : decode cX7_isUnder 61 = .ok (.ireturn, 1) := by decide +kernel
theorem dX7_isUnder_62 : decode cX7_isUnder 62 = .ok (.iload_n 0, 1) := by decide +kernel
theorem dX7_isUnder_63 : decode cX7_isUnder 63 = .ok (.iload_n 1, 1) := by decide +kernel
theorem dX7_isUnder_64 : decode cX7_isUnder 64 = .ok (.if_icmp .ne 7, 3) := by decide +kernel
theorem dX7_isUnder_67 : decode cX7_isUnder 67 = .ok (.iconst 1, 1) := by decide +kernel
theorem dX7_isUnder_68 : decode cX7_isUnder 68 = .ok (.goto 4, 3) := by decide +kernel
theorem dX7_isUnder_71 : decode cX7_isUnder 71 = .ok (.iconst 0, 1) := by decide +kernel
theorem dX7_isUnder_72 : decode cX7_isUnder 72 = .ok (.ireturn, 1) := by decide +kernel
set_option maxRecDepth 20000 in
theorem ggX7_lookAhead_X5_become : GoodIn wsX7_lookAhead wsX5_become := goodIn_r _ [7, 8, 9, 10, 11, 12, 13, 14, 15, 16, 17, 18, 19, 20, 21, 22, 23, 87, 88, 89, 90, 91, 92, 93, 94, 95, 96, 97, 98] (by decide +kernel) (by decide +kernel)
set_option maxRecDepth 20000 in
theorem gX7_lookAhead_X5_become : GoodIn wsX7_lookAhead (wsV RX7 198 RX5 yX5_become wsX5_become) := goodIn_app (goodIn_of _ (by decide +kernel)) ggX7_lookAhead_X5_become
set_option maxRecDepth 20000 in
theorem ggX7_lookAhead_X5_passHours : GoodIn wsX7_lookAhead wsX5_passHours := goodIn_r _ [27, 28, 29, 30, 6, 31, 15, 20, 32, 33, 34, 35, 36, 37, 38, 39, 16, 40, 41, 42, 43, 19, 18, 44, 45, 46, 47, 21, 48, 49, 50, 51, 8, 52, 53, 54, 55, 14, 56, 57, 58, 59, 9, 60, 61, 62, 63, 64, 65, 66, 67, 68, 69, 70, 71, 72, 73, 74, 87, 88, 89, 90, 91, 92, 93, 94, 95, 96, 97, 98] (by decide +kernel) (by decide +kernel)
set_option maxRecDepth 20000 in
theorem gX7_lookAhead_X5_passHours : GoodIn wsX7_lookAhead (wsV RX7 306 RX5 yX5_passHours wsX5_passHours) := goodIn_app (goodIn_of _ (by decide +kernel)) ggX7_lookAhead_X5_passHours
theorem dX7_lookAhead_0 : decode cX7_lookAhead 0 = .ok (.aload_n 0, 1) := by decide +kernel
theorem dX7_lookAhead_1 : decode cX7_lookAhead 1 = .ok (.getfield 16, 3) := by decide +kernel
theorem dX7_lookAhead_4 : decode cX7_lookAhead 4 = .ok (.aload_n 0, 1) := by decide +kernel
theorem dX7_lookAhead_5 : decode cX7_lookAhead 5 = .ok (.getfield 10, 3) := by decide +kernel
theorem dX7_lookAhead_8 : decode cX7_lookAhead 8 = .ok (.invokevirtual 198, 3) := by decide +kernel
theorem dX7_lookAhead_11 : decode cX7_lookAhead 11 = .ok (.aload_n 0, 1) := by decide +kernel
theorem dX7_lookAhead_12 : decode cX7_lookAhead 12 = .ok (.getfield 16, 3) := by decide +kernel
theorem dX7_lookAhead_15 : decode cX7_lookAhead 15 = .ok (.iload_n 1, 1) := by decide +kernel
theorem dX7_lookAhead_16 : decode cX7_lookAhead 16 = .ok (.invokevirtual 306, 3) := by decide +kernel
theorem dX7_lookAhead_19 : decode cX7_lookAhead 19 = .ok (.return_, 1) := by decide +kernel
set_option maxRecDepth 20000 in
theorem ggX7_rowReason_X7_isShelf : GoodIn wsX7_rowReason wsX7_isShelf := goodIn_r _ [5] (by decide +kernel) (by decide +kernel)
set_option maxRecDepth 20000 in
theorem gX7_rowReason_X7_isShelf : GoodIn wsX7_rowReason (va_wsS RX7 69 yX7_isShelf wsX7_isShelf) := goodIn_app (goodIn_of _ (by decide +kernel)) ggX7_rowReason_X7_isShelf
set_option maxRecDepth 20000 in
theorem ggX7_rowReason_X2_holdsPerson : GoodIn wsX7_rowReason wsX2_holdsPerson := goodIn_r _ [10, 11, 28, 29, 30] (by decide +kernel) (by decide +kernel)
set_option maxRecDepth 20000 in
theorem gX7_rowReason_X2_holdsPerson : GoodIn wsX7_rowReason (wsV RX7 325 RX2 yX2_holdsPerson wsX2_holdsPerson) := goodIn_app (goodIn_of _ (by decide +kernel)) ggX7_rowReason_X2_holdsPerson
set_option maxRecDepth 20000 in
theorem ggX7_rowReason_X2_holdsNothing : GoodIn wsX7_rowReason wsX2_holdsNothing := goodIn_r _ [15, 11, 28, 29, 30] (by decide +kernel) (by decide +kernel)
set_option maxRecDepth 20000 in
theorem gX7_rowReason_X2_holdsNothing : GoodIn wsX7_rowReason (wsV RX7 130 RX2 yX2_holdsNothing wsX2_holdsNothing) := goodIn_app (goodIn_of _ (by decide +kernel)) ggX7_rowReason_X2_holdsNothing
theorem dX7_rowReason_0 : decode cX7_rowReason 0 = .ok (.iload_n 1, 1) := by decide +kernel
theorem dX7_rowReason_1 : decode cX7_rowReason 1 = .ok (.invokestatic 69, 3) := by decide +kernel
theorem dX7_rowReason_4 : decode cX7_rowReason 4 = .ok (.ifCond .ne 6, 3) := by decide +kernel
theorem dX7_rowReason_7 : decode cX7_rowReason 7 = .ok (.bipush (-2), 2) := by decide +kernel
theorem dX7_rowReason_9 : decode cX7_rowReason 9 = .ok (.ireturn, 1) := by decide +kernel
theorem dX7_rowReason_10 : decode cX7_rowReason 10 = .ok (.aload_n 0, 1) := by decide +kernel
theorem dX7_rowReason_11 : decode cX7_rowReason 11 = .ok (.getfield 27, 3) := by decide +kernel
theorem dX7_rowReason_14 : decode cX7_rowReason 14 = .ok (.iload_n 1, 1) := by decide +kernel
theorem dX7_rowReason_15 : decode cX7_rowReason 15 = .ok (.aaload, 1) := by decide +kernel
theorem dX7_rowReason_16 : decode cX7_rowReason 16 = .ok (.invokevirtual 325, 3) := by decide +kernel
theorem dX7_rowReason_19 : decode cX7_rowReason 19 = .ok (.ifCond .eq 6, 3) := by decide +kernel
theorem dX7_rowReason_22 : decode cX7_rowReason 22 = .ok (.bipush (-3), 2) := by decide +kernel
theorem dX7_rowReason_24 : decode cX7_rowReason 24 = .ok (.ireturn, 1) := by decide +kernel
theorem dX7_rowReason_25 : decode cX7_rowReason 25 = .ok (.aload_n 0, 1) := by decide +kernel
theorem dX7_rowReason_26 : decode cX7_rowReason 26 = .ok (.getfield 27, 3) := by decide +kernel
theorem dX7_rowReason_29 : decode cX7_rowReason 29 = .ok (.iload_n 1, 1) := by decide +kernel
theorem dX7_rowReason_30 : decode cX7_rowReason 30 = .ok (.aaload, 1) := by decide +kernel
theorem dX7_rowReason_31 : decode cX7_rowReason 31 = .ok (.invokevirtual 130, 3) := by decide +kernel
theorem dX7_rowReason_34 : decode cX7_rowReason 34 = .ok (.ifCond .eq 8, 3) := by decide +kernel
theorem dX7_rowReason_37 : decode cX7_rowReason 37 = .ok (.bipush (-4), 2) := by decide +kernel
theorem dX7_rowReason_39 : decode cX7_rowReason 39 = .ok (.goto 4, 3) := by decide +kernel
theorem dX7_rowReason_42 : decode cX7_rowReason 42 = .ok (.iconst 0, 1) := by decide +kernel
theorem dX7_rowReason_43 : decode cX7_rowReason 43 = .ok (.ireturn, 1) := by decide +kernel
set_option maxRecDepth 20000 in
theorem ggX7_twoRowsReason_X7_rowReason : GoodIn wsX7_twoRowsReason wsX7_rowReason := goodIn_r _ [7, 1, 8, 9, 6, 10, 11, 12, 13, 14, 15, 16, 17, 18, 19, 20, 21, 22, 23, 24, 25, 26, 27, 28, 29, 30, 31, 32, 33, 34, 35] (by decide +kernel) (by decide +kernel)
set_option maxRecDepth 20000 in
theorem gX7_twoRowsReason_X7_rowReason : GoodIn wsX7_twoRowsReason (wsV RX7 81 RX7 yX7_rowReason wsX7_rowReason) := goodIn_app (goodIn_of _ (by decide +kernel)) ggX7_twoRowsReason_X7_rowReason
theorem dX7_twoRowsReason_0 : decode cX7_twoRowsReason 0 = .ok (.aload_n 0, 1) := by decide +kernel
theorem dX7_twoRowsReason_1 : decode cX7_twoRowsReason 1 = .ok (.iload_n 1, 1) := by decide +kernel
theorem dX7_twoRowsReason_2 : decode cX7_twoRowsReason 2 = .ok (.invokevirtual 81, 3) := by decide +kernel
theorem dX7_twoRowsReason_5 : decode cX7_twoRowsReason 5 = .ok (.istore_n 3, 1) := by decide +kernel
theorem dX7_twoRowsReason_6 : decode cX7_twoRowsReason 6 = .ok (.aload_n 0, 1) := by decide +kernel
theorem dX7_twoRowsReason_7 : decode cX7_twoRowsReason 7 = .ok (.iload_n 2, 1) := by decide +kernel
theorem dX7_twoRowsReason_8 : decode cX7_twoRowsReason 8 = .ok (.invokevirtual 81, 3) := by decide +kernel
theorem dX7_twoRowsReason_11 : decode cX7_twoRowsReason 11 = .ok (.istore 4, 2) := by decide +kernel
theorem dX7_twoRowsReason_13 : decode cX7_twoRowsReason 13 = .ok (.iload_n 3, 1) := by decide +kernel
theorem dX7_twoRowsReason_14 : decode cX7_twoRowsReason 14 = .ok (.bipush (-2), 2) := by decide +kernel
theorem dX7_twoRowsReason_16 : decode cX7_twoRowsReason 16 = .ok (.if_icmp .eq 10, 3) := by decide +kernel
theorem dX7_twoRowsReason_19 : decode cX7_twoRowsReason 19 = .ok (.iload 4, 2) := by decide +kernel
theorem dX7_twoRowsReason_21 : decode cX7_twoRowsReason 21 = .ok (.bipush (-2), 2) := by decide +kernel
theorem dX7_twoRowsReason_23 : decode cX7_twoRowsReason 23 = .ok (.if_icmp .ne 6, 3) := by decide +kernel
theorem dX7_twoRowsReason_26 : decode cX7_twoRowsReason 26 = .ok (.bipush (-2), 2) := by decide +kernel
theorem dX7_twoRowsReason_28 : decode cX7_twoRowsReason 28 = .ok (.ireturn, 1) := by decide +kernel
theorem dX7_twoRowsReason_29 : decode cX7_twoRowsReason 29 = .ok (.iload_n 3, 1) := by decide +kernel
theorem dX7_twoRowsReason_30 : decode cX7_twoRowsReason 30 = .ok (.bipush (-3), 2) := by decide +kernel
theorem dX7_twoRowsReason_32 : decode cX7_twoRowsReason 32 = .ok (.if_icmp .eq 10, 3) := by decide +kernel
theorem dX7_twoRowsReason_35 : decode cX7_twoRowsReason 35 = .ok (.iload 4, 2) := by decide +kernel
theorem dX7_twoRowsReason_37 : decode cX7_twoRowsReason 37 = .ok (.bipush (-3), 2) := by decide +kernel
theorem dX7_twoRowsReason_39 : decode cX7_twoRowsReason 39 = .ok (.if_icmp .ne 6, 3) := by decide +kernel
theorem dX7_twoRowsReason_42 : decode cX7_twoRowsReason 42 = .ok (.bipush (-3), 2) := by decide +kernel
theorem dX7_twoRowsReason_44 : decode cX7_twoRowsReason 44 = .ok (.ireturn, 1) := by decide +kernel
theorem dX7_twoRowsReason_45 : decode cX7_twoRowsReason 45 = .ok (.iload_n 3, 1) := by decide +kernel
theorem dX7_twoRowsReason_46 : decode cX7_twoRowsReason 46 = .ok (.bipush (-4), 2) := by decide +kernel
theorem dX7_twoRowsReason_48 : decode cX7_twoRowsReason 48 = .ok (.if_icmp .eq 10, 3) := by decide +kernel
theorem dX7_twoRowsReason_51 : decode cX7_twoRowsReason 51 = .ok (.iload 4, 2) := by decide +kernel
theorem dX7_twoRowsReason_53 : decode cX7_twoRowsReason 53 = .ok (.bipush (-4), 2) := by decide +kernel
theorem dX7_twoRowsReason_55 : decode cX7_twoRowsReason 55 = .ok (.if_icmp .ne 6, 3) := by decide +kernel
theorem dX7_twoRowsReason_58 : decode cX7_twoRowsReason 58 = .ok (.bipush (-4), 2) := by decide +kernel
theorem dX7_twoRowsReason_60 : decode cX7_twoRowsReason 60 = .ok (.ireturn, 1) := by decide +kernel
theorem dX7_twoRowsReason_61 : decode cX7_twoRowsReason 61 = .ok (.aload_n 0, 1) := by decide +kernel
theorem dX7_twoRowsReason_62 : decode cX7_twoRowsReason 62 = .ok (.getfield 27, 3) := by decide +kernel
theorem dX7_twoRowsReason_65 : decode cX7_twoRowsReason 65 = .ok (.iload_n 1, 1) := by decide +kernel
theorem dX7_twoRowsReason_66 : decode cX7_twoRowsReason 66 = .ok (.aaload, 1) := by decide +kernel
theorem dX7_twoRowsReason_67 : decode cX7_twoRowsReason 67 = .ok (.getfield 109, 3) := by decide +kernel
theorem dX7_twoRowsReason_70 : decode cX7_twoRowsReason 70 = .ok (.aload_n 0, 1) := by decide +kernel
theorem dX7_twoRowsReason_71 : decode cX7_twoRowsReason 71 = .ok (.getfield 27, 3) := by decide +kernel
theorem dX7_twoRowsReason_74 : decode cX7_twoRowsReason 74 = .ok (.iload_n 2, 1) := by decide +kernel
theorem dX7_twoRowsReason_75 : decode cX7_twoRowsReason 75 = .ok (.aaload, 1) := by decide +kernel
theorem dX7_twoRowsReason_76 : decode cX7_twoRowsReason 76 = .ok (.getfield 109, 3) := by decide +kernel
theorem dX7_twoRowsReason_79 : decode cX7_twoRowsReason 79 = .ok (.if_icmp .ne 7, 3) := by decide +kernel
theorem dX7_twoRowsReason_82 : decode cX7_twoRowsReason 82 = .ok (.iconst 0, 1) := by decide +kernel
theorem dX7_twoRowsReason_83 : decode cX7_twoRowsReason 83 = .ok (.goto 5, 3) := by decide +kernel
theorem dX7_twoRowsReason_86 : decode cX7_twoRowsReason 86 = .ok (.bipush (-3), 2) := by decide +kernel
theorem dX7_twoRowsReason_88 : decode cX7_twoRowsReason 88 = .ok (.ireturn, 1) := by decide +kernel
set_option maxRecDepth 20000 in
theorem ggX7_watchReason_X7_rowReason : GoodIn wsX7_watchReason wsX7_rowReason := goodIn_r _ [7, 1, 8, 9, 6, 10, 11, 12, 13, 14, 15, 16, 17, 18, 19, 20, 21, 22, 23, 24, 25, 26, 27, 28, 29, 30, 31, 32, 33, 34, 35] (by decide +kernel) (by decide +kernel)
set_option maxRecDepth 20000 in
theorem gX7_watchReason_X7_rowReason : GoodIn wsX7_watchReason (wsV RX7 81 RX7 yX7_rowReason wsX7_rowReason) := goodIn_app (goodIn_of _ (by decide +kernel)) ggX7_watchReason_X7_rowReason
theorem dX7_watchReason_0 : decode cX7_watchReason 0 = .ok (.iload_n 2, 1) := by decide +kernel
theorem dX7_watchReason_1 : decode cX7_watchReason 1 = .ok (.ifCond .lt 13, 3) := by decide +kernel
theorem dX7_watchReason_4 : decode cX7_watchReason 4 = .ok (.iload_n 2, 1) := by decide +kernel
theorem dX7_watchReason_5 : decode cX7_watchReason 5 = .ok (.bipush 40, 2) := by decide +kernel
theorem dX7_watchReason_7 : decode cX7_watchReason 7 = .ok (.if_icmp .gt 7, 3) := by decide +kernel
theorem dX7_watchReason_10 : decode cX7_watchReason 10 = .ok (.iload_n 3, 1) := by decide +kernel
theorem dX7_watchReason_11 : decode cX7_watchReason 11 = .ok (.ifCond .ne 6, 3) := by decide +kernel
theorem dX7_watchReason_14 : decode cX7_watchReason 14 = .ok (.bipush (-2), 2) := by decide +kernel
theorem dX7_watchReason_16 : decode cX7_watchReason 16 = .ok (.ireturn, 1) := by decide +kernel
theorem dX7_watchReason_17 : decode cX7_watchReason 17 = .ok (.aload_n 0, 1) := by decide +kernel
theorem dX7_watchReason_18 : decode cX7_watchReason 18 = .ok (.iload_n 1, 1) := by decide +kernel
theorem dX7_watchReason_19 : decode cX7_watchReason 19 = .ok (.invokevirtual 81, 3) := by decide +kernel
theorem dX7_watchReason_22 : decode cX7_watchReason 22 = .ok (.istore 4, 2) := by decide +kernel
theorem dX7_watchReason_24 : decode cX7_watchReason 24 = .ok (.iload 4, 2) := by decide +kernel
theorem dX7_watchReason_26 : decode cX7_watchReason 26 = .ok (.ifCond .eq 6, 3) := by decide +kernel
theorem dX7_watchReason_29 : decode cX7_watchReason 29 = .ok (.iload 4, 2) := by decide +kernel
theorem dX7_watchReason_31 : decode cX7_watchReason 31 = .ok (.ireturn, 1) := by decide +kernel
theorem dX7_watchReason_32 : decode cX7_watchReason 32 = .ok (.iload_n 2, 1) := by decide +kernel
theorem dX7_watchReason_33 : decode cX7_watchReason 33 = .ok (.aload_n 0, 1) := by decide +kernel
theorem dX7_watchReason_34 : decode cX7_watchReason 34 = .ok (.getfield 27, 3) := by decide +kernel
theorem dX7_watchReason_37 : decode cX7_watchReason 37 = .ok (.iload_n 1, 1) := by decide +kernel
theorem dX7_watchReason_38 : decode cX7_watchReason 38 = .ok (.aaload, 1) := by decide +kernel
theorem dX7_watchReason_39 : decode cX7_watchReason 39 = .ok (.getfield 334, 3) := by decide +kernel
theorem dX7_watchReason_42 : decode cX7_watchReason 42 = .ok (.if_icmp .gt 7, 3) := by decide +kernel
theorem dX7_watchReason_45 : decode cX7_watchReason 45 = .ok (.iconst 0, 1) := by decide +kernel
theorem dX7_watchReason_46 : decode cX7_watchReason 46 = .ok (.goto 5, 3) := by decide +kernel
theorem dX7_watchReason_49 : decode cX7_watchReason 49 = .ok (.bipush (-2), 2) := by decide +kernel
theorem dX7_watchReason_51 : decode cX7_watchReason 51 = .ok (.ireturn, 1) := by decide +kernel
set_option maxRecDepth 20000 in
theorem ggX7_firstWrong_X2_hasElement : GoodIn wsX7_firstWrong wsX2_hasElement := goodIn_r _ [7, 8, 70, 71, 72] (by decide +kernel) (by decide +kernel)
set_option maxRecDepth 20000 in
theorem gX7_firstWrong_X2_hasElement : GoodIn wsX7_firstWrong (wsV RX7 84 RX2 yX2_hasElement wsX2_hasElement) := goodIn_app (goodIn_of _ (by decide +kernel)) ggX7_firstWrong_X2_hasElement
set_option maxRecDepth 20000 in
theorem ggX7_firstWrong_X5_shiningPlaces : GoodIn wsX7_firstWrong wsX5_shiningPlaces := goodIn_r _ [13, 14, 15, 16, 17, 12, 18, 19, 20, 21, 22, 23, 24, 25, 85, 86, 87, 88, 89, 90, 91, 92, 93, 94, 95, 96] (by decide +kernel) (by decide +kernel)
set_option maxRecDepth 20000 in
theorem gX7_firstWrong_X5_shiningPlaces : GoodIn wsX7_firstWrong (wsV RX7 218 RX5 yX5_shiningPlaces wsX5_shiningPlaces) := goodIn_app (goodIn_of _ (by decide +kernel)) ggX7_firstWrong_X5_shiningPlaces
set_option maxRecDepth 20000 in
theorem ggX7_firstWrong_X5_passHour : GoodIn wsX7_firstWrong wsX5_passHour := goodIn_r _ [29, 19, 20, 15, 16, 17, 12, 18, 21, 22, 23, 24, 25, 30, 31, 32, 33, 34, 35, 36, 37, 38, 39, 40, 41, 42, 43, 44, 14, 45, 46, 47, 48, 49, 50, 51, 52, 53, 54, 55, 56, 57, 58, 59, 60, 61, 62, 63, 64, 65, 66, 67, 68, 69, 85, 86, 87, 88, 89, 90, 91, 92, 93, 94, 95, 96] (by decide +kernel) (by decide +kernel)
set_option maxRecDepth 20000 in
theorem gX7_firstWrong_X5_passHour : GoodIn wsX7_firstWrong (wsV RX7 285 RX5 yX5_passHour wsX5_passHour) := goodIn_app (goodIn_of _ (by decide +kernel)) ggX7_firstWrong_X5_passHour
theorem dX7_firstWrong_0 : decode cX7_firstWrong 0 = .ok (.iconst 0, 1) := by decide +kernel
theorem dX7_firstWrong_1 : decode cX7_firstWrong 1 = .ok (.istore_n 3, 1) := by decide +kernel
theorem dX7_firstWrong_2 : decode cX7_firstWrong 2 = .ok (.iload_n 3, 1) := by decide +kernel
theorem dX7_firstWrong_3 : decode cX7_firstWrong 3 = .ok (.iload_n 2, 1) := by decide +kernel
theorem dX7_firstWrong_4 : decode cX7_firstWrong 4 = .ok (.if_icmp .ge 45, 3) := by decide +kernel
theorem dX7_firstWrong_7 : decode cX7_firstWrong 7 = .ok (.aload_n 1, 1) := by decide +kernel
theorem dX7_firstWrong_8 : decode cX7_firstWrong 8 = .ok (.iload_n 3, 1) := by decide +kernel
theorem dX7_firstWrong_9 : decode cX7_firstWrong 9 = .ok (.invokevirtual 84, 3) := by decide +kernel
theorem dX7_firstWrong_12 : decode cX7_firstWrong 12 = .ok (.ifCond .eq 21, 3) := by decide +kernel
theorem dX7_firstWrong_15 : decode cX7_firstWrong 15 = .ok (.aload_n 1, 1) := by decide +kernel
theorem dX7_firstWrong_16 : decode cX7_firstWrong 16 = .ok (.getfield 99, 3) := by decide +kernel
theorem dX7_firstWrong_19 : decode cX7_firstWrong 19 = .ok (.iload_n 3, 1) := by decide +kernel
theorem dX7_firstWrong_20 : decode cX7_firstWrong 20 = .ok (.laload, 1) := by decide +kernel
theorem dX7_firstWrong_21 : decode cX7_firstWrong 21 = .ok (.aload_n 0, 1) := by decide +kernel
theorem dX7_firstWrong_22 : decode cX7_firstWrong 22 = .ok (.getfield 16, 3) := by decide +kernel
theorem dX7_firstWrong_25 : decode cX7_firstWrong 25 = .ok (.invokevirtual 218, 3) := by decide +kernel
theorem dX7_firstWrong_28 : decode cX7_firstWrong 28 = .ok (.i2l, 1) := by decide +kernel
theorem dX7_firstWrong_29 : decode cX7_firstWrong 29 = .ok (.lcmp, 1) := by decide +kernel
theorem dX7_firstWrong_30 : decode cX7_firstWrong 30 = .ok (.ifCond .eq 5, 3) := by decide +kernel
theorem dX7_firstWrong_33 : decode cX7_firstWrong 33 = .ok (.iload_n 3, 1) := by decide +kernel
theorem dX7_firstWrong_34 : decode cX7_firstWrong 34 = .ok (.ireturn, 1) := by decide +kernel
theorem dX7_firstWrong_35 : decode cX7_firstWrong 35 = .ok (.aload_n 0, 1) := by decide +kernel
theorem dX7_firstWrong_36 : decode cX7_firstWrong 36 = .ok (.getfield 16, 3) := by decide +kernel
theorem dX7_firstWrong_39 : decode cX7_firstWrong 39 = .ok (.invokevirtual 285, 3) := by decide +kernel
theorem dX7_firstWrong_42 : decode cX7_firstWrong 42 = .ok (.pop, 1) := by decide +kernel
theorem dX7_firstWrong_43 : decode cX7_firstWrong 43 = .ok (.iinc 3 1, 3) := by decide +kernel
theorem dX7_firstWrong_46 : decode cX7_firstWrong 46 = .ok (.goto (-44), 3) := by decide +kernel
theorem dX7_firstWrong_49 : decode cX7_firstWrong 49 = .ok (.iconst (-1), 1) := by decide +kernel
theorem dX7_firstWrong_50 : decode cX7_firstWrong 50 = .ok (.ireturn, 1) := by decide +kernel
set_option maxRecDepth 20000 in
theorem ggX7_brightestHour_X0_begin : GoodIn wsX7_brightestHour wsX0_begin := goodIn_r _ [9, 10, 11, 111, 112] (by decide +kernel) (by decide +kernel)
set_option maxRecDepth 20000 in
theorem gX7_brightestHour_X0_begin : GoodIn wsX7_brightestHour (wsV RX7 242 RX0 yX0_begin wsX0_begin) := goodIn_app (goodIn_of _ (by decide +kernel)) ggX7_brightestHour_X0_begin
set_option maxRecDepth 20000 in
theorem ggX7_brightestHour_X5_become : GoodIn wsX7_brightestHour wsX5_become := goodIn_r _ [16, 17, 18, 19, 20, 21, 22, 23, 24, 25, 26, 27, 28, 29, 30, 31, 32, 113, 114, 115, 116, 117, 118, 119, 120, 121, 122, 123, 124] (by decide +kernel) (by decide +kernel)
set_option maxRecDepth 20000 in
theorem gX7_brightestHour_X5_become : GoodIn wsX7_brightestHour (wsV RX7 198 RX5 yX5_become wsX5_become) := goodIn_app (goodIn_of _ (by decide +kernel)) ggX7_brightestHour_X5_become
set_option maxRecDepth 20000 in
theorem ggX7_brightestHour_X5_shiningCount : GoodIn wsX7_brightestHour wsX5_shiningCount := goodIn_r _ [36, 37, 38, 39, 15, 40, 17, 41, 42, 43, 44, 24, 29, 45, 46, 47, 48, 25, 49, 50, 51, 52, 53, 54, 55, 113, 114, 115, 116, 117, 118, 119, 120, 121, 122, 123, 124] (by decide +kernel) (by decide +kernel)
set_option maxRecDepth 20000 in
theorem gX7_brightestHour_X5_shiningCount : GoodIn wsX7_brightestHour (wsV RX7 221 RX5 yX5_shiningCount wsX5_shiningCount) := goodIn_app (goodIn_of _ (by decide +kernel)) ggX7_brightestHour_X5_shiningCount
set_option maxRecDepth 20000 in
theorem ggX7_brightestHour_X0_offer : GoodIn wsX7_brightestHour wsX0_offer := goodIn_r _ [59, 11, 10, 111, 112] (by decide +kernel) (by decide +kernel)
set_option maxRecDepth 20000 in
theorem gX7_brightestHour_X0_offer : GoodIn wsX7_brightestHour (wsV RX7 248 RX0 yX0_offer wsX0_offer) := goodIn_app (goodIn_of _ (by decide +kernel)) ggX7_brightestHour_X0_offer
set_option maxRecDepth 20000 in
theorem ggX7_brightestHour_X5_passHour : GoodIn wsX7_brightestHour wsX5_passHour := goodIn_r _ [63, 24, 29, 41, 42, 43, 15, 44, 45, 46, 47, 48, 25, 64, 65, 66, 67, 28, 27, 68, 69, 70, 71, 30, 72, 73, 74, 75, 17, 76, 77, 78, 79, 23, 80, 81, 82, 83, 18, 84, 85, 86, 87, 88, 89, 90, 91, 92, 93, 94, 95, 96, 97, 98, 113, 114, 115, 116, 117, 118, 119, 120, 121, 122, 123, 124] (by decide +kernel) (by decide +kernel)
set_option maxRecDepth 20000 in
theorem gX7_brightestHour_X5_passHour : GoodIn wsX7_brightestHour (wsV RX7 285 RX5 yX5_passHour wsX5_passHour) := goodIn_app (goodIn_of _ (by decide +kernel)) ggX7_brightestHour_X5_passHour
theorem dX7_brightestHour_0 : decode cX7_brightestHour 0 = .ok (.aload_n 0, 1) := by decide +kernel
theorem dX7_brightestHour_1 : decode cX7_brightestHour 1 = .ok (.getfield 61, 3) := by decide +kernel
theorem dX7_brightestHour_4 : decode cX7_brightestHour 4 = .ok (.iconst 0, 1) := by decide +kernel
theorem dX7_brightestHour_5 : decode cX7_brightestHour 5 = .ok (.iconst (-1), 1) := by decide +kernel
theorem dX7_brightestHour_6 : decode cX7_brightestHour 6 = .ok (.invokevirtual 242, 3) := by decide +kernel
theorem dX7_brightestHour_9 : decode cX7_brightestHour 9 = .ok (.aload_n 0, 1) := by decide +kernel
theorem dX7_brightestHour_10 : decode cX7_brightestHour 10 = .ok (.getfield 16, 3) := by decide +kernel
theorem dX7_brightestHour_13 : decode cX7_brightestHour 13 = .ok (.aload_n 0, 1) := by decide +kernel
theorem dX7_brightestHour_14 : decode cX7_brightestHour 14 = .ok (.getfield 10, 3) := by decide +kernel
theorem dX7_brightestHour_17 : decode cX7_brightestHour 17 = .ok (.invokevirtual 198, 3) := by decide +kernel
theorem dX7_brightestHour_20 : decode cX7_brightestHour 20 = .ok (.iconst 0, 1) := by decide +kernel
theorem dX7_brightestHour_21 : decode cX7_brightestHour 21 = .ok (.istore_n 1, 1) := by decide +kernel
theorem dX7_brightestHour_22 : decode cX7_brightestHour 22 = .ok (.iload_n 1, 1) := by decide +kernel
theorem dX7_brightestHour_23 : decode cX7_brightestHour 23 = .ok (.bipush 48, 2) := by decide +kernel
theorem dX7_brightestHour_25 : decode cX7_brightestHour 25 = .ok (.if_icmp .gt 32, 3) := by decide +kernel
theorem dX7_brightestHour_28 : decode cX7_brightestHour 28 = .ok (.aload_n 0, 1) := by decide +kernel
theorem dX7_brightestHour_29 : decode cX7_brightestHour 29 = .ok (.getfield 61, 3) := by decide +kernel
theorem dX7_brightestHour_32 : decode cX7_brightestHour 32 = .ok (.iload_n 1, 1) := by decide +kernel
theorem dX7_brightestHour_33 : decode cX7_brightestHour 33 = .ok (.aload_n 0, 1) := by decide +kernel
theorem dX7_brightestHour_34 : decode cX7_brightestHour 34 = .ok (.getfield 16, 3) := by decide +kernel
theorem dX7_brightestHour_37 : decode cX7_brightestHour 37 = .ok (.invokevirtual 221, 3) := by decide +kernel
theorem dX7_brightestHour_40 : decode cX7_brightestHour 40 = .ok (.invokevirtual 248, 3) := by decide +kernel
theorem dX7_brightestHour_43 : decode cX7_brightestHour 43 = .ok (.aload_n 0, 1) := by decide +kernel
theorem dX7_brightestHour_44 : decode cX7_brightestHour 44 = .ok (.getfield 16, 3) := by decide +kernel
theorem dX7_brightestHour_47 : decode cX7_brightestHour 47 = .ok (.invokevirtual 285, 3) := by decide +kernel
theorem dX7_brightestHour_50 : decode cX7_brightestHour 50 = .ok (.pop, 1) := by decide +kernel
theorem dX7_brightestHour_51 : decode cX7_brightestHour 51 = .ok (.iinc 1 1, 3) := by decide +kernel
theorem dX7_brightestHour_54 : decode cX7_brightestHour 54 = .ok (.goto (-32), 3) := by decide +kernel
theorem dX7_brightestHour_57 : decode cX7_brightestHour 57 = .ok (.aload_n 0, 1) := by decide +kernel
theorem dX7_brightestHour_58 : decode cX7_brightestHour 58 = .ok (.getfield 61, 3) := by decide +kernel
theorem dX7_brightestHour_61 : decode cX7_brightestHour 61 = .ok (.getfield 251, 3) := by decide +kernel
theorem dX7_brightestHour_64 : decode cX7_brightestHour 64 = .ok (.ireturn, 1) := by decide +kernel
set_option maxRecDepth 20000 in
theorem ggX7_stillHour_X5_become : GoodIn wsX7_stillHour wsX5_become := goodIn_r _ [7, 8, 9, 10, 11, 12, 13, 14, 15, 16, 17, 18, 19, 20, 21, 22, 23, 83, 84, 85, 86, 87, 88, 89, 90, 91, 92, 93, 94] (by decide +kernel) (by decide +kernel)
set_option maxRecDepth 20000 in
theorem gX7_stillHour_X5_become : GoodIn wsX7_stillHour (wsV RX7 198 RX5 yX5_become wsX5_become) := goodIn_app (goodIn_of _ (by decide +kernel)) ggX7_stillHour_X5_become
set_option maxRecDepth 20000 in
theorem ggX7_stillHour_X5_passHour : GoodIn wsX7_stillHour wsX5_passHour := goodIn_r _ [27, 15, 20, 28, 29, 30, 6, 31, 32, 33, 34, 35, 16, 36, 37, 38, 39, 19, 18, 40, 41, 42, 43, 21, 44, 45, 46, 47, 8, 48, 49, 50, 51, 14, 52, 53, 54, 55, 9, 56, 57, 58, 59, 60, 61, 62, 63, 64, 65, 66, 67, 68, 69, 70, 83, 84, 85, 86, 87, 88, 89, 90, 91, 92, 93, 94] (by decide +kernel) (by decide +kernel)
set_option maxRecDepth 20000 in
theorem gX7_stillHour_X5_passHour : GoodIn wsX7_stillHour (wsV RX7 285 RX5 yX5_passHour wsX5_passHour) := goodIn_app (goodIn_of _ (by decide +kernel)) ggX7_stillHour_X5_passHour
theorem dX7_stillHour_0 : decode cX7_stillHour 0 = .ok (.aload_n 0, 1) := by decide +kernel
theorem dX7_stillHour_1 : decode cX7_stillHour 1 = .ok (.getfield 16, 3) := by decide +kernel
theorem dX7_stillHour_4 : decode cX7_stillHour 4 = .ok (.aload_n 0, 1) := by decide +kernel
theorem dX7_stillHour_5 : decode cX7_stillHour 5 = .ok (.getfield 10, 3) := by decide +kernel
theorem dX7_stillHour_8 : decode cX7_stillHour 8 = .ok (.invokevirtual 198, 3) := by decide +kernel
theorem dX7_stillHour_11 : decode cX7_stillHour 11 = .ok (.iconst 0, 1) := by decide +kernel
theorem dX7_stillHour_12 : decode cX7_stillHour 12 = .ok (.istore_n 1, 1) := by decide +kernel
theorem dX7_stillHour_13 : decode cX7_stillHour 13 = .ok (.iload_n 1, 1) := by decide +kernel
theorem dX7_stillHour_14 : decode cX7_stillHour 14 = .ok (.bipush 48, 2) := by decide +kernel
theorem dX7_stillHour_16 : decode cX7_stillHour 16 = .ok (.if_icmp .gt 21, 3) := by decide +kernel
theorem dX7_stillHour_19 : decode cX7_stillHour 19 = .ok (.aload_n 0, 1) := by decide +kernel
theorem dX7_stillHour_20 : decode cX7_stillHour 20 = .ok (.getfield 16, 3) := by decide +kernel
theorem dX7_stillHour_23 : decode cX7_stillHour 23 = .ok (.invokevirtual 285, 3) := by decide +kernel
theorem dX7_stillHour_26 : decode cX7_stillHour 26 = .ok (.ifCond .ne 5, 3) := by decide +kernel
theorem dX7_stillHour_29 : decode cX7_stillHour 29 = .ok (.iload_n 1, 1) := by decide +kernel
theorem dX7_stillHour_30 : decode cX7_stillHour 30 = .ok (.ireturn, 1) := by decide +kernel
theorem dX7_stillHour_31 : decode cX7_stillHour 31 = .ok (.iinc 1 1, 3) := by decide +kernel
theorem dX7_stillHour_34 : decode cX7_stillHour 34 = .ok (.goto (-21), 3) := by decide +kernel
theorem dX7_stillHour_37 : decode cX7_stillHour 37 = .ok (.iconst (-1), 1) := by decide +kernel
theorem dX7_stillHour_38 : decode cX7_stillHour 38 = .ok (.ireturn, 1) := by decide +kernel
theorem dX7_movedPeople_0 : decode cX7_movedPeople 0 = .ok (.iconst 0, 1) := by decide +kernel
theorem dX7_movedPeople_1 : decode cX7_movedPeople 1 = .ok (.istore_n 1, 1) := by decide +kernel
theorem dX7_movedPeople_2 : decode cX7_movedPeople 2 = .ok (.iconst 0, 1) := by decide +kernel
theorem dX7_movedPeople_3 : decode cX7_movedPeople 3 = .ok (.istore_n 2, 1) := by decide +kernel
theorem dX7_movedPeople_4 : decode cX7_movedPeople 4 = .ok (.iload_n 2, 1) := by decide +kernel
theorem dX7_movedPeople_5 : decode cX7_movedPeople 5 = .ok (.aload_n 0, 1) := by decide +kernel
theorem dX7_movedPeople_6 : decode cX7_movedPeople 6 = .ok (.getfield 10, 3) := by decide +kernel
theorem dX7_movedPeople_9 : decode cX7_movedPeople 9 = .ok (.getfield 171, 3) := by decide +kernel
theorem dX7_movedPeople_12 : decode cX7_movedPeople 12 = .ok (.if_icmp .ge 36, 3) := by decide +kernel
theorem dX7_movedPeople_15 : decode cX7_movedPeople 15 = .ok (.aload_n 0, 1) := by decide +kernel
theorem dX7_movedPeople_16 : decode cX7_movedPeople 16 = .ok (.getfield 16, 3) := by decide +kernel
theorem dX7_movedPeople_19 : decode cX7_movedPeople 19 = .ok (.getfield 149, 3) := by decide +kernel
theorem dX7_movedPeople_22 : decode cX7_movedPeople 22 = .ok (.iload_n 2, 1) := by decide +kernel
theorem dX7_movedPeople_23 : decode cX7_movedPeople 23 = .ok (.iaload, 1) := by decide +kernel
theorem dX7_movedPeople_24 : decode cX7_movedPeople 24 = .ok (.aload_n 0, 1) := by decide +kernel
theorem dX7_movedPeople_25 : decode cX7_movedPeople 25 = .ok (.getfield 10, 3) := by decide +kernel
theorem dX7_movedPeople_28 : decode cX7_movedPeople 28 = .ok (.getfield 149, 3) := by decide +kernel
theorem dX7_movedPeople_31 : decode cX7_movedPeople 31 = .ok (.iload_n 2, 1) := by decide +kernel
theorem dX7_movedPeople_32 : decode cX7_movedPeople 32 = .ok (.iaload, 1) := by decide +kernel
theorem dX7_movedPeople_33 : decode cX7_movedPeople 33 = .ok (.if_icmp .eq 9, 3) := by decide +kernel
theorem dX7_movedPeople_36 : decode cX7_movedPeople 36 = .ok (.iload_n 1, 1) := by decide +kernel
theorem dX7_movedPeople_37 : decode cX7_movedPeople 37 = .ok (.iconst 1, 1) := by decide +kernel
theorem dX7_movedPeople_38 : decode cX7_movedPeople 38 = .ok (.iload_n 2, 1) := by decide +kernel
theorem dX7_movedPeople_39 : decode cX7_movedPeople 39 = .ok (.ishl, 1) := by decide +kernel
theorem dX7_movedPeople_40 : decode cX7_movedPeople 40 = .ok (.ior, 1) := by decide +kernel
theorem dX7_movedPeople_41 : decode cX7_movedPeople 41 = .ok (.istore_n 1, 1) := by decide +kernel
theorem dX7_movedPeople_42 : decode cX7_movedPeople 42 = .ok (.iinc 2 1, 3) := by decide +kernel
theorem dX7_movedPeople_45 : decode cX7_movedPeople 45 = .ok (.goto (-41), 3) := by decide +kernel
theorem dX7_movedPeople_48 : decode cX7_movedPeople 48 = .ok (.iload_n 1, 1) := by decide +kernel
theorem dX7_movedPeople_49 : decode cX7_movedPeople 49 = .ok (.ireturn, 1) := by decide +kernel
set_option maxRecDepth 20000 in
theorem ggX7_fullShelves_X2_holdsNothing : GoodIn wsX7_fullShelves wsX2_holdsNothing := goodIn_r _ [6, 7, 20, 21, 22] (by decide +kernel) (by decide +kernel)
set_option maxRecDepth 20000 in
theorem gX7_fullShelves_X2_holdsNothing : GoodIn wsX7_fullShelves (wsV RX7 130 RX2 yX2_holdsNothing wsX2_holdsNothing) := goodIn_app (goodIn_of _ (by decide +kernel)) ggX7_fullShelves_X2_holdsNothing
theorem dX7_fullShelves_0 : decode cX7_fullShelves 0 = .ok (.iconst 0, 1) := by decide +kernel
theorem dX7_fullShelves_1 : decode cX7_fullShelves 1 = .ok (.istore_n 1, 1) := by decide +kernel
theorem dX7_fullShelves_2 : decode cX7_fullShelves 2 = .ok (.iconst 0, 1) := by decide +kernel
theorem dX7_fullShelves_3 : decode cX7_fullShelves 3 = .ok (.istore_n 2, 1) := by decide +kernel
theorem dX7_fullShelves_4 : decode cX7_fullShelves 4 = .ok (.iload_n 2, 1) := by decide +kernel
theorem dX7_fullShelves_5 : decode cX7_fullShelves 5 = .ok (.bipush 8, 2) := by decide +kernel
theorem dX7_fullShelves_7 : decode cX7_fullShelves 7 = .ok (.if_icmp .ge 24, 3) := by decide +kernel
theorem dX7_fullShelves_10 : decode cX7_fullShelves 10 = .ok (.aload_n 0, 1) := by decide +kernel
theorem dX7_fullShelves_11 : decode cX7_fullShelves 11 = .ok (.getfield 27, 3) := by decide +kernel
theorem dX7_fullShelves_14 : decode cX7_fullShelves 14 = .ok (.iload_n 2, 1) := by decide +kernel
theorem dX7_fullShelves_15 : decode cX7_fullShelves 15 = .ok (.aaload, 1) := by decide +kernel
theorem dX7_fullShelves_16 : decode cX7_fullShelves 16 = .ok (.invokevirtual 130, 3) := by decide +kernel
theorem dX7_fullShelves_19 : decode cX7_fullShelves 19 = .ok (.ifCond .ne 6, 3) := by decide +kernel
theorem dX7_fullShelves_22 : decode cX7_fullShelves 22 = .ok (.iinc 1 1, 3) := by decide +kernel
theorem dX7_fullShelves_25 : decode cX7_fullShelves 25 = .ok (.iinc 2 1, 3) := by decide +kernel
theorem dX7_fullShelves_28 : decode cX7_fullShelves 28 = .ok (.goto (-24), 3) := by decide +kernel
theorem dX7_fullShelves_31 : decode cX7_fullShelves 31 = .ok (.iload_n 1, 1) := by decide +kernel
theorem dX7_fullShelves_32 : decode cX7_fullShelves 32 = .ok (.ireturn, 1) := by decide +kernel
theorem dX8_init_0 : decode cX8_init 0 = .ok (.aload_n 0, 1) := by decide +kernel
theorem dX8_init_1 : decode cX8_init 1 = .ok (.invokespecial 1, 3) := by decide +kernel
theorem dX8_init_4 : decode cX8_init 4 = .ok (.aload_n 0, 1) := by decide +kernel
theorem dX8_init_5 : decode cX8_init 5 = .ok (.bipush 8, 2) := by decide +kernel
theorem dX8_init_7 : decode cX8_init 7 = .ok (.newarray .int, 2) := by decide +kernel
theorem dX8_init_9 : decode cX8_init 9 = .ok (.putfield 7, 3) := by decide +kernel
theorem dX8_init_12 : decode cX8_init 12 = .ok (.aload_n 0, 1) := by decide +kernel
theorem dX8_init_13 : decode cX8_init 13 = .ok (.bipush 8, 2) := by decide +kernel
theorem dX8_init_15 : decode cX8_init 15 = .ok (.newarray .int, 2) := by decide +kernel
theorem dX8_init_17 : decode cX8_init 17 = .ok (.putfield 13, 3) := by decide +kernel
