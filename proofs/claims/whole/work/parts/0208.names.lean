theorem dX8_nextRound_6 : decode cX8_nextRound 6 = .ok (.iload_n 1, 1) := by decide +kernel
theorem dX8_nextRound_7 : decode cX8_nextRound 7 = .ok (.iconst 1, 1) := by decide +kernel
theorem dX8_nextRound_8 : decode cX8_nextRound 8 = .ok (.iadd, 1) := by decide +kernel
theorem dX8_nextRound_9 : decode cX8_nextRound 9 = .ok (.ishr, 1) := by decide +kernel
theorem dX8_nextRound_10 : decode cX8_nextRound 10 = .ok (.istore_n 2, 1) := by decide +kernel
theorem dX8_nextRound_11 : decode cX8_nextRound 11 = .ok (.iload_n 2, 1) := by decide +kernel
theorem dX8_nextRound_12 : decode cX8_nextRound 12 = .ok (.ifCond .eq 11, 3) := by decide +kernel
theorem dX8_nextRound_15 : decode cX8_nextRound 15 = .ok (.iload_n 2, 1) := by decide +kernel
theorem dX8_nextRound_16 : decode cX8_nextRound 16 = .ok (.iload_n 1, 1) := by decide +kernel
theorem dX8_nextRound_17 : decode cX8_nextRound 17 = .ok (.iconst 1, 1) := by decide +kernel
theorem dX8_nextRound_18 : decode cX8_nextRound 18 = .ok (.iadd, 1) := by decide +kernel
theorem dX8_nextRound_19 : decode cX8_nextRound 19 = .ok (.ishl, 1) := by decide +kernel
theorem dX8_nextRound_20 : decode cX8_nextRound 20 = .ok (.goto 9, 3) := by decide +kernel
theorem dX8_nextRound_23 : decode cX8_nextRound 23 = .ok (.aload_n 0, 1) := by decide +kernel
theorem dX8_nextRound_24 : decode cX8_nextRound 24 = .ok (.getfield 41, 3) := by decide +kernel
theorem dX8_nextRound_27 : decode cX8_nextRound 27 = .ok (.iload_n 1, 1) := by decide +kernel
theorem dX8_nextRound_28 : decode cX8_nextRound 28 = .ok (.iaload, 1) := by decide +kernel
theorem dX8_nextRound_29 : decode cX8_nextRound 29 = .ok (.istore_n 3, 1) := by decide +kernel
theorem dX8_nextRound_30 : decode cX8_nextRound 30 = .ok (.iload_n 3, 1) := by decide +kernel
theorem dX8_nextRound_31 : decode cX8_nextRound 31 = .ok (.ifCond .ne 5, 3) := by decide +kernel
theorem dX8_nextRound_34 : decode cX8_nextRound 34 = .ok (.iload_n 1, 1) := by decide +kernel
theorem dX8_nextRound_35 : decode cX8_nextRound 35 = .ok (.ireturn, 1) := by decide +kernel
theorem dX8_nextRound_36 : decode cX8_nextRound 36 = .ok (.iconst 0, 1) := by decide +kernel
theorem dX8_nextRound_37 : decode cX8_nextRound 37 = .ok (.istore 4, 2) := by decide +kernel
theorem dX8_nextRound_39 : decode cX8_nextRound 39 = .ok (.iload_n 3, 1) := by decide +kernel
theorem dX8_nextRound_40 : decode cX8_nextRound 40 = .ok (.iload 4, 2) := by decide +kernel
theorem dX8_nextRound_42 : decode cX8_nextRound 42 = .ok (.ishr, 1) := by decide +kernel
theorem dX8_nextRound_43 : decode cX8_nextRound 43 = .ok (.iconst 1, 1) := by decide +kernel
theorem dX8_nextRound_44 : decode cX8_nextRound 44 = .ok (.iand, 1) := by decide +kernel
theorem dX8_nextRound_45 : decode cX8_nextRound 45 = .ok (.ifCond .ne 9, 3) := by decide +kernel
theorem dX8_nextRound_48 : decode cX8_nextRound 48 = .ok (.iinc 4 1, 3) := by decide +kernel
theorem dX8_nextRound_51 : decode cX8_nextRound 51 = .ok (.goto (-12), 3) := by decide +kernel
theorem dX8_nextRound_54 : decode cX8_nextRound 54 = .ok (.iload 4, 2) := by decide +kernel
theorem dX8_nextRound_56 : decode cX8_nextRound 56 = .ok (.ireturn, 1) := by decide +kernel
set_option maxRecDepth 20000 in
theorem ggX8_isDarkBut_X8_darkens : GoodIn wsX8_isDarkBut wsX8_darkens := goodIn_r _ [7, 8, 9, 10, 11, 12, 13, 14, 15, 16, 17, 18, 19, 20, 21, 22, 23, 24, 25, 26, 27, 28, 29, 30, 31, 32, 33, 34, 35, 36, 37, 38, 39, 40, 41, 42, 43, 44, 45, 46] (by decide +kernel) (by decide +kernel)
set_option maxRecDepth 20000 in
theorem gX8_isDarkBut_X8_darkens : GoodIn wsX8_isDarkBut (wsV RX8 244 RX8 yX8_darkens wsX8_darkens) := goodIn_app (goodIn_of _ (by decide +kernel)) ggX8_isDarkBut_X8_darkens
theorem dX8_isDarkBut_0 : decode cX8_isDarkBut 0 = .ok (.iconst 0, 1) := by decide +kernel
theorem dX8_isDarkBut_1 : decode cX8_isDarkBut 1 = .ok (.istore_n 3, 1) := by decide +kernel
theorem dX8_isDarkBut_2 : decode cX8_isDarkBut 2 = .ok (.iload_n 3, 1) := by decide +kernel
theorem dX8_isDarkBut_3 : decode cX8_isDarkBut 3 = .ok (.aload_n 0, 1) := by decide +kernel
theorem dX8_isDarkBut_4 : decode cX8_isDarkBut 4 = .ok (.getfield 95, 3) := by decide +kernel
theorem dX8_isDarkBut_7 : decode cX8_isDarkBut 7 = .ok (.if_icmp .ge 34, 3) := by decide +kernel
theorem dX8_isDarkBut_10 : decode cX8_isDarkBut 10 = .ok (.iload_n 3, 1) := by decide +kernel
theorem dX8_isDarkBut_11 : decode cX8_isDarkBut 11 = .ok (.iload_n 2, 1) := by decide +kernel
theorem dX8_isDarkBut_12 : decode cX8_isDarkBut 12 = .ok (.if_icmp .eq 23, 3) := by decide +kernel
theorem dX8_isDarkBut_15 : decode cX8_isDarkBut 15 = .ok (.aload_n 0, 1) := by decide +kernel
theorem dX8_isDarkBut_16 : decode cX8_isDarkBut 16 = .ok (.getfield 71, 3) := by decide +kernel
theorem dX8_isDarkBut_19 : decode cX8_isDarkBut 19 = .ok (.iload_n 3, 1) := by decide +kernel
theorem dX8_isDarkBut_20 : decode cX8_isDarkBut 20 = .ok (.iaload, 1) := by decide +kernel
theorem dX8_isDarkBut_21 : decode cX8_isDarkBut 21 = .ok (.iload_n 1, 1) := by decide +kernel
theorem dX8_isDarkBut_22 : decode cX8_isDarkBut 22 = .ok (.if_icmp .ne 13, 3) := by decide +kernel
theorem dX8_isDarkBut_25 : decode cX8_isDarkBut 25 = .ok (.aload_n 0, 1) := by decide +kernel
theorem dX8_isDarkBut_26 : decode cX8_isDarkBut 26 = .ok (.iload_n 3, 1) := by decide +kernel
theorem dX8_isDarkBut_27 : decode cX8_isDarkBut 27 = .ok (.invokevirtual 244, 3) := by decide +kernel
theorem dX8_isDarkBut_30 : decode cX8_isDarkBut 30 = .ok (.ifCond .eq 5, 3) := by decide +kernel
theorem dX8_isDarkBut_33 : decode cX8_isDarkBut 33 = .ok (.iconst 1, 1) := by decide +kernel
theorem dX8_isDarkBut_34 : decode cX8_isDarkBut 34 = .ok (.ireturn, 1) := by decide +kernel
theorem dX8_isDarkBut_35 : decode cX8_isDarkBut 35 = .ok (.iinc 3 1, 3) := by decide +kernel
theorem dX8_isDarkBut_38 : decode cX8_isDarkBut 38 = .ok (.goto (-36), 3) := by decide +kernel
theorem dX8_isDarkBut_41 : decode cX8_isDarkBut 41 = .ok (.iconst 0, 1) := by decide +kernel
theorem dX8_isDarkBut_42 : decode cX8_isDarkBut 42 = .ok (.ireturn, 1) := by decide +kernel
set_option maxRecDepth 20000 in
theorem ggX8_goesTo_X8_nextRound : GoodIn wsX8_goesTo wsX8_nextRound := goodIn_r _ [12, 13, 37, 38, 39, 40, 41, 42, 43, 44, 45, 46, 47, 48, 49, 50, 51, 52, 53, 54, 55, 56, 57, 58, 59, 60, 61, 62, 63, 64, 65, 66, 67, 68, 69, 70, 71, 72, 73] (by decide +kernel) (by decide +kernel)
set_option maxRecDepth 20000 in
theorem gX8_goesTo_X8_nextRound : GoodIn wsX8_goesTo (wsV RX8 257 RX8 yX8_nextRound wsX8_nextRound) := goodIn_app (goodIn_of _ (by decide +kernel)) ggX8_goesTo_X8_nextRound
set_option maxRecDepth 20000 in
theorem ggX8_goesTo_X8_isDarkBut : GoodIn wsX8_goesTo wsX8_isDarkBut := goodIn_r _ [17, 18, 2, 19, 20, 21, 11, 22, 23, 1, 37, 38, 39, 40, 41, 42, 43, 44, 45, 46, 47, 48, 49, 50, 51, 52, 53, 54, 55, 56, 57, 58, 59, 60, 61, 62, 63, 64, 65, 66, 67, 68, 69, 70, 71, 72, 73] (by decide +kernel) (by decide +kernel)
set_option maxRecDepth 20000 in
theorem gX8_goesTo_X8_isDarkBut : GoodIn wsX8_goesTo (wsV RX8 260 RX8 yX8_isDarkBut wsX8_isDarkBut) := goodIn_app (goodIn_of _ (by decide +kernel)) ggX8_goesTo_X8_isDarkBut
set_option maxRecDepth 20000 in
theorem ggX8_goesTo_X8_in : GoodIn wsX8_goesTo wsX8_in := goodIn_r _ [26] (by decide +kernel) (by decide +kernel)
set_option maxRecDepth 20000 in
theorem gX8_goesTo_X8_in : GoodIn wsX8_goesTo (va_wsS RX8 91 yX8_in wsX8_in) := goodIn_app (goodIn_of _ (by decide +kernel)) ggX8_goesTo_X8_in
set_option maxRecDepth 20000 in
theorem ggX8_goesTo_X8_stepToward : GoodIn wsX8_goesTo wsX8_stepToward := goodIn_r _ [30, 31, 13, 32, 33, 34, 35, 11, 36, 37, 38, 39, 40, 41, 42, 43, 44, 45, 46, 47, 48, 49, 50, 51, 52, 53, 54, 55, 56, 57, 58, 59, 60, 61, 62, 63, 64, 65, 66, 67, 68, 69, 70, 71, 72, 73] (by decide +kernel) (by decide +kernel)
set_option maxRecDepth 20000 in
theorem gX8_goesTo_X8_stepToward : GoodIn wsX8_goesTo (wsV RX8 267 RX8 yX8_stepToward wsX8_stepToward) := goodIn_app (goodIn_of _ (by decide +kernel)) ggX8_goesTo_X8_stepToward
theorem dX8_goesTo_0 : decode cX8_goesTo 0 = .ok (.aload_n 0, 1) := by decide +kernel
theorem dX8_goesTo_1 : decode cX8_goesTo 1 = .ok (.getfield 44, 3) := by decide +kernel
theorem dX8_goesTo_4 : decode cX8_goesTo 4 = .ok (.iload_n 1, 1) := by decide +kernel
theorem dX8_goesTo_5 : decode cX8_goesTo 5 = .ok (.iaload, 1) := by decide +kernel
theorem dX8_goesTo_6 : decode cX8_goesTo 6 = .ok (.tableswitch 79 1 4 #[30, 37, 30, 48], 30) := by decide +kernel
theorem dX8_goesTo_36 : decode cX8_goesTo 36 = .ok (.aload_n 0, 1) := by decide +kernel
theorem dX8_goesTo_37 : decode cX8_goesTo 37 = .ok (.getfield 71, 3) := by decide +kernel
theorem dX8_goesTo_40 : decode cX8_goesTo 40 = .ok (.iload_n 1, 1) := by decide +kernel
theorem dX8_goesTo_41 : decode cX8_goesTo 41 = .ok (.iaload, 1) := by decide +kernel
theorem dX8_goesTo_42 : decode cX8_goesTo 42 = .ok (.ireturn, 1) := by decide +kernel
theorem dX8_goesTo_43 : decode cX8_goesTo 43 = .ok (.aload_n 0, 1) := by decide +kernel
theorem dX8_goesTo_44 : decode cX8_goesTo 44 = .ok (.aload_n 0, 1) := by decide +kernel
theorem dX8_goesTo_45 : decode cX8_goesTo 45 = .ok (.getfield 71, 3) := by decide +kernel
theorem dX8_goesTo_48 : decode cX8_goesTo 48 = .ok (.iload_n 1, 1) := by decide +kernel
theorem dX8_goesTo_49 : decode cX8_goesTo 49 = .ok (.iaload, 1) := by decide +kernel
theorem dX8_goesTo_50 : decode cX8_goesTo 50 = .ok (.invokevirtual 257, 3) := by decide +kernel
theorem dX8_goesTo_53 : decode cX8_goesTo 53 = .ok (.ireturn, 1) := by decide +kernel
theorem dX8_goesTo_54 : decode cX8_goesTo 54 = .ok (.aload_n 0, 1) := by decide +kernel
theorem dX8_goesTo_55 : decode cX8_goesTo 55 = .ok (.aload_n 0, 1) := by decide +kernel
theorem dX8_goesTo_56 : decode cX8_goesTo 56 = .ok (.getfield 71, 3) := by decide +kernel
theorem dX8_goesTo_59 : decode cX8_goesTo 59 = .ok (.iload_n 1, 1) := by decide +kernel
theorem dX8_goesTo_60 : decode cX8_goesTo 60 = .ok (.iaload, 1) := by decide +kernel
theorem dX8_goesTo_61 : decode cX8_goesTo 61 = .ok (.invokevirtual 257, 3) := by decide +kernel
theorem dX8_goesTo_64 : decode cX8_goesTo 64 = .ok (.istore_n 2, 1) := by decide +kernel
theorem dX8_goesTo_65 : decode cX8_goesTo 65 = .ok (.aload_n 0, 1) := by decide +kernel
theorem dX8_goesTo_66 : decode cX8_goesTo 66 = .ok (.iload_n 2, 1) := by decide +kernel
theorem dX8_goesTo_67 : decode cX8_goesTo 67 = .ok (.iload_n 1, 1) := by decide +kernel
theorem dX8_goesTo_68 : decode cX8_goesTo 68 = .ok (.invokevirtual 260, 3) := by decide +kernel
theorem dX8_goesTo_71 : decode cX8_goesTo 71 = .ok (.ifCond .eq 7, 3) := by decide +kernel
theorem dX8_goesTo_74 : decode cX8_goesTo 74 = .ok (.iload_n 2, 1) := by decide +kernel
theorem dX8_goesTo_75 : decode cX8_goesTo 75 = .ok (.goto 9, 3) := by decide +kernel
theorem dX8_goesTo_78 : decode cX8_goesTo 78 = .ok (.aload_n 0, 1) := by decide +kernel
theorem dX8_goesTo_79 : decode cX8_goesTo 79 = .ok (.getfield 71, 3) := by decide +kernel
theorem dX8_goesTo_82 : decode cX8_goesTo 82 = .ok (.iload_n 1, 1) := by decide +kernel
theorem dX8_goesTo_83 : decode cX8_goesTo 83 = .ok (.iaload, 1) := by decide +kernel
theorem dX8_goesTo_84 : decode cX8_goesTo 84 = .ok (.ireturn, 1) := by decide +kernel
theorem dX8_goesTo_85 : decode cX8_goesTo 85 = .ok (.aload_n 0, 1) := by decide +kernel
theorem dX8_goesTo_86 : decode cX8_goesTo 86 = .ok (.aload_n 0, 1) := by decide +kernel
theorem dX8_goesTo_87 : decode cX8_goesTo 87 = .ok (.getfield 71, 3) := by decide +kernel
theorem dX8_goesTo_90 : decode cX8_goesTo 90 = .ok (.iload_n 1, 1) := by decide +kernel
theorem dX8_goesTo_91 : decode cX8_goesTo 91 = .ok (.iaload, 1) := by decide +kernel
theorem dX8_goesTo_92 : decode cX8_goesTo 92 = .ok (.aload_n 0, 1) := by decide +kernel
theorem dX8_goesTo_93 : decode cX8_goesTo 93 = .ok (.getfield 254, 3) := by decide +kernel
theorem dX8_goesTo_96 : decode cX8_goesTo 96 = .ok (.bipush 24, 2) := by decide +kernel
theorem dX8_goesTo_98 : decode cX8_goesTo 98 = .ok (.irem, 1) := by decide +kernel
theorem dX8_goesTo_99 : decode cX8_goesTo 99 = .ok (.i2l, 1) := by decide +kernel
theorem dX8_goesTo_100 : decode cX8_goesTo 100 = .ok (.ldc2_w 263, 3) := by decide +kernel
theorem dX8_goesTo_103 : decode cX8_goesTo 103 = .ok (.ldc2_w 265, 3) := by decide +kernel
theorem dX8_goesTo_106 : decode cX8_goesTo 106 = .ok (.invokestatic 91, 3) := by decide +kernel
theorem dX8_goesTo_109 : decode cX8_goesTo 109 = .ok (.ifCond .eq 12, 3) := by decide +kernel
theorem dX8_goesTo_112 : decode cX8_goesTo 112 = .ok (.aload_n 0, 1) := by decide +kernel
theorem dX8_goesTo_113 : decode cX8_goesTo 113 = .ok (.getfield 53, 3) := by decide +kernel
theorem dX8_goesTo_116 : decode cX8_goesTo 116 = .ok (.iload_n 1, 1) := by decide +kernel
theorem dX8_goesTo_117 : decode cX8_goesTo 117 = .ok (.iaload, 1) := by decide +kernel
theorem dX8_goesTo_118 : decode cX8_goesTo 118 = .ok (.goto 9, 3) := by decide +kernel
theorem dX8_goesTo_121 : decode cX8_goesTo 121 = .ok (.aload_n 0, 1) := by decide +kernel
theorem dX8_goesTo_122 : decode cX8_goesTo 122 = .ok (.getfield 50, 3) := by decide +kernel
theorem dX8_goesTo_125 : decode cX8_goesTo 125 = .ok (.iload_n 1, 1) := by decide +kernel
theorem dX8_goesTo_126 : decode cX8_goesTo 126 = .ok (.iaload, 1) := by decide +kernel
theorem dX8_goesTo_127 : decode cX8_goesTo 127 = .ok (.invokevirtual 267, 3) := by decide +kernel
theorem dX8_goesTo_130 : decode cX8_goesTo 130 = .ok (.ireturn, 1) := by decide +kernel
set_option maxRecDepth 20000 in
theorem ggX8_goes_X8_goesTo : GoodIn wsX8_goes wsX8_goesTo := goodIn_r _ [9, 10, 3, 4, 11, 12, 13, 14, 15, 16, 17, 8, 18, 19, 20, 21, 22, 23, 1, 24, 25, 26, 27, 28, 29, 30, 31, 32, 33, 34, 35, 36, 37, 38, 39, 40, 41, 42, 43, 44, 45, 46, 47, 48, 49, 50, 51, 52, 53, 54, 55, 56, 57, 58, 59, 60, 61, 62, 63, 64, 65, 66, 67, 68, 69, 70, 71, 72, 73, 74, 75, 76, 77, 78] (by decide +kernel) (by decide +kernel)
set_option maxRecDepth 20000 in
theorem gX8_goes_X8_goesTo : GoodIn wsX8_goes (wsV RX8 271 RX8 yX8_goesTo wsX8_goesTo) := goodIn_app (goodIn_of _ (by decide +kernel)) ggX8_goes_X8_goesTo
theorem dX8_goes_0 : decode cX8_goes 0 = .ok (.iconst 0, 1) := by decide +kernel
theorem dX8_goes_1 : decode cX8_goes 1 = .ok (.istore_n 1, 1) := by decide +kernel
theorem dX8_goes_2 : decode cX8_goes 2 = .ok (.iload_n 1, 1) := by decide +kernel
theorem dX8_goes_3 : decode cX8_goes 3 = .ok (.aload_n 0, 1) := by decide +kernel
theorem dX8_goes_4 : decode cX8_goes 4 = .ok (.getfield 95, 3) := by decide +kernel
theorem dX8_goes_7 : decode cX8_goes 7 = .ok (.if_icmp .ge 20, 3) := by decide +kernel
theorem dX8_goes_10 : decode cX8_goes 10 = .ok (.aload_n 0, 1) := by decide +kernel
theorem dX8_goes_11 : decode cX8_goes 11 = .ok (.getfield 74, 3) := by decide +kernel
theorem dX8_goes_14 : decode cX8_goes 14 = .ok (.iload_n 1, 1) := by decide +kernel
theorem dX8_goes_15 : decode cX8_goes 15 = .ok (.aload_n 0, 1) := by decide +kernel
theorem dX8_goes_16 : decode cX8_goes 16 = .ok (.iload_n 1, 1) := by decide +kernel
theorem dX8_goes_17 : decode cX8_goes 17 = .ok (.invokevirtual 271, 3) := by decide +kernel
theorem dX8_goes_20 : decode cX8_goes 20 = .ok (.iastore, 1) := by decide +kernel
theorem dX8_goes_21 : decode cX8_goes 21 = .ok (.iinc 1 1, 3) := by decide +kernel
theorem dX8_goes_24 : decode cX8_goes 24 = .ok (.goto (-22), 3) := by decide +kernel
theorem dX8_goes_27 : decode cX8_goes 27 = .ok (.iconst 0, 1) := by decide +kernel
theorem dX8_goes_28 : decode cX8_goes 28 = .ok (.istore_n 1, 1) := by decide +kernel
theorem dX8_goes_29 : decode cX8_goes 29 = .ok (.iload_n 1, 1) := by decide +kernel
theorem dX8_goes_30 : decode cX8_goes 30 = .ok (.aload_n 0, 1) := by decide +kernel
theorem dX8_goes_31 : decode cX8_goes 31 = .ok (.getfield 95, 3) := by decide +kernel
theorem dX8_goes_34 : decode cX8_goes 34 = .ok (.if_icmp .ge 21, 3) := by decide +kernel
theorem dX8_goes_37 : decode cX8_goes 37 = .ok (.aload_n 0, 1) := by decide +kernel
theorem dX8_goes_38 : decode cX8_goes 38 = .ok (.getfield 71, 3) := by decide +kernel
theorem dX8_goes_41 : decode cX8_goes 41 = .ok (.iload_n 1, 1) := by decide +kernel
theorem dX8_goes_42 : decode cX8_goes 42 = .ok (.aload_n 0, 1) := by decide +kernel
theorem dX8_goes_43 : decode cX8_goes 43 = .ok (.getfield 74, 3) := by decide +kernel
theorem dX8_goes_46 : decode cX8_goes 46 = .ok (.iload_n 1, 1) := by decide +kernel
theorem dX8_goes_47 : decode cX8_goes 47 = .ok (.iaload, 1) := by decide +kernel
theorem dX8_goes_48 : decode cX8_goes 48 = .ok (.iastore, 1) := by decide +kernel
theorem dX8_goes_49 : decode cX8_goes 49 = .ok (.iinc 1 1, 3) := by decide +kernel
theorem dX8_goes_52 : decode cX8_goes 52 = .ok (.goto (-23), 3) := by decide +kernel
theorem dX8_goes_55 : decode cX8_goes 55 = .ok (.aload_n 0, 1) := by decide +kernel
theorem dX8_goes_56 : decode cX8_goes 56 = .ok (.aload_n 0, 1) := by decide +kernel
theorem dX8_goes_57 : decode cX8_goes 57 = .ok (.getfield 254, 3) := by decide +kernel
theorem dX8_goes_60 : decode cX8_goes 60 = .ok (.sipush 9999, 3) := by decide +kernel
theorem dX8_goes_63 : decode cX8_goes 63 = .ok (.if_icmp .ge 12, 3) := by decide +kernel
theorem dX8_goes_66 : decode cX8_goes 66 = .ok (.aload_n 0, 1) := by decide +kernel
theorem dX8_goes_67 : decode cX8_goes 67 = .ok (.getfield 254, 3) := by decide +kernel
theorem dX8_goes_70 : decode cX8_goes 70 = .ok (.iconst 1, 1) := by decide +kernel
theorem dX8_goes_71 : decode cX8_goes 71 = .ok (.iadd, 1) := by decide +kernel
theorem dX8_goes_72 : decode cX8_goes 72 = .ok (.goto 6, 3) := by decide +kernel
theorem dX8_goes_75 : decode cX8_goes 75 = .ok (.sipush 9999, 3) := by decide +kernel
theorem dX8_goes_78 : decode cX8_goes 78 = .ok (.putfield 254, 3) := by decide +kernel
theorem dX8_goes_81 : decode cX8_goes 81 = .ok (.return_, 1) := by decide +kernel
set_option maxRecDepth 20000 in
theorem ggX8_goesOn_X8_begin : GoodIn wsX8_goesOn wsX8_begin := goodIn_r _ [5, 6, 7, 8, 9, 10, 52, 53, 54, 55, 56, 57, 58, 59, 60, 61, 62, 63, 64, 65, 66, 67, 68, 69, 70, 71, 72, 73, 74, 75, 76, 77, 78, 79, 80, 81, 82, 83, 84, 85, 86, 87, 88] (by decide +kernel) (by decide +kernel)
set_option maxRecDepth 20000 in
theorem gX8_goesOn_X8_begin : GoodIn wsX8_goesOn (wsV RX8 125 RX8 yX8_begin wsX8_begin) := goodIn_app (goodIn_of _ (by decide +kernel)) ggX8_goesOn_X8_begin
set_option maxRecDepth 20000 in
theorem ggX8_goesOn_X8_goes : GoodIn wsX8_goesOn wsX8_goes := goodIn_r _ [14, 6, 15, 7, 10, 16, 17, 18, 4, 19, 20, 21, 22, 23, 24, 25, 26, 27, 28, 29, 30, 31, 32, 33, 34, 35, 36, 37, 38, 39, 40, 41, 42, 43, 44, 45, 46, 47, 48, 49, 50, 51, 52, 53, 54, 55, 56, 57, 58, 59, 60, 61, 62, 63, 64, 65, 66, 67, 68, 69, 70, 71, 72, 73, 74, 75, 76, 77, 78, 79, 80, 81, 82, 83, 84, 85, 86, 87, 88] (by decide +kernel) (by decide +kernel)
set_option maxRecDepth 20000 in
theorem gX8_goesOn_X8_goes : GoodIn wsX8_goesOn (wsV RX8 128 RX8 yX8_goes wsX8_goes) := goodIn_app (goodIn_of _ (by decide +kernel)) ggX8_goesOn_X8_goes
theorem dX8_goesOn_0 : decode cX8_goesOn 0 = .ok (.aload_n 0, 1) := by decide +kernel
theorem dX8_goesOn_1 : decode cX8_goesOn 1 = .ok (.invokevirtual 125, 3) := by decide +kernel
theorem dX8_goesOn_4 : decode cX8_goesOn 4 = .ok (.iconst 0, 1) := by decide +kernel
theorem dX8_goesOn_5 : decode cX8_goesOn 5 = .ok (.istore_n 2, 1) := by decide +kernel
theorem dX8_goesOn_6 : decode cX8_goesOn 6 = .ok (.iload_n 2, 1) := by decide +kernel
theorem dX8_goesOn_7 : decode cX8_goesOn 7 = .ok (.iload_n 1, 1) := by decide +kernel
theorem dX8_goesOn_8 : decode cX8_goesOn 8 = .ok (.if_icmp .ge 13, 3) := by decide +kernel
theorem dX8_goesOn_11 : decode cX8_goesOn 11 = .ok (.aload_n 0, 1) := by decide +kernel
theorem dX8_goesOn_12 : decode cX8_goesOn 12 = .ok (.invokevirtual 128, 3) := by decide +kernel
theorem dX8_goesOn_15 : decode cX8_goesOn 15 = .ok (.iinc 2 1, 3) := by decide +kernel
theorem dX8_goesOn_18 : decode cX8_goesOn 18 = .ok (.goto (-12), 3) := by decide +kernel
theorem dX8_goesOn_21 : decode cX8_goesOn 21 = .ok (.return_, 1) := by decide +kernel
set_option maxRecDepth 20000 in
theorem ggX8_light_X8_darkens : GoodIn wsX8_light wsX8_darkens := goodIn_r _ [8, 9, 10, 11, 12, 13, 14, 15, 16, 17, 18, 19, 20, 21, 22, 23, 24, 25, 26, 27, 28, 29, 30, 31, 32, 33, 34, 35, 36, 37, 38, 39, 40, 41, 42, 43, 44, 45, 46, 47] (by decide +kernel) (by decide +kernel)
set_option maxRecDepth 20000 in
theorem gX8_light_X8_darkens : GoodIn wsX8_light (wsV RX8 244 RX8 yX8_darkens wsX8_darkens) := goodIn_app (goodIn_of _ (by decide +kernel)) ggX8_light_X8_darkens
theorem dX8_light_0 : decode cX8_light 0 = .ok (.iconst 1, 1) := by decide +kernel
theorem dX8_light_1 : decode cX8_light 1 = .ok (.aload_n 0, 1) := by decide +kernel
theorem dX8_light_2 : decode cX8_light 2 = .ok (.getfield 37, 3) := by decide +kernel
theorem dX8_light_5 : decode cX8_light 5 = .ok (.ishl, 1) := by decide +kernel
theorem dX8_light_6 : decode cX8_light 6 = .ok (.iconst 1, 1) := by decide +kernel
theorem dX8_light_7 : decode cX8_light 7 = .ok (.isub, 1) := by decide +kernel
theorem dX8_light_8 : decode cX8_light 8 = .ok (.istore_n 1, 1) := by decide +kernel
theorem dX8_light_9 : decode cX8_light 9 = .ok (.iconst 0, 1) := by decide +kernel
theorem dX8_light_10 : decode cX8_light 10 = .ok (.istore_n 2, 1) := by decide +kernel
theorem dX8_light_11 : decode cX8_light 11 = .ok (.iload_n 2, 1) := by decide +kernel
theorem dX8_light_12 : decode cX8_light 12 = .ok (.aload_n 0, 1) := by decide +kernel
theorem dX8_light_13 : decode cX8_light 13 = .ok (.getfield 95, 3) := by decide +kernel
theorem dX8_light_16 : decode cX8_light 16 = .ok (.if_icmp .ge 34, 3) := by decide +kernel
theorem dX8_light_19 : decode cX8_light 19 = .ok (.iload_n 1, 1) := by decide +kernel
theorem dX8_light_20 : decode cX8_light 20 = .ok (.aload_n 0, 1) := by decide +kernel
theorem dX8_light_21 : decode cX8_light 21 = .ok (.iload_n 2, 1) := by decide +kernel
theorem dX8_light_22 : decode cX8_light 22 = .ok (.invokevirtual 244, 3) := by decide +kernel
theorem dX8_light_25 : decode cX8_light 25 = .ok (.ifCond .eq 16, 3) := by decide +kernel
theorem dX8_light_28 : decode cX8_light 28 = .ok (.iconst 1, 1) := by decide +kernel
theorem dX8_light_29 : decode cX8_light 29 = .ok (.aload_n 0, 1) := by decide +kernel
theorem dX8_light_30 : decode cX8_light 30 = .ok (.getfield 71, 3) := by decide +kernel
theorem dX8_light_33 : decode cX8_light 33 = .ok (.iload_n 2, 1) := by decide +kernel
theorem dX8_light_34 : decode cX8_light 34 = .ok (.iaload, 1) := by decide +kernel
theorem dX8_light_35 : decode cX8_light 35 = .ok (.ishl, 1) := by decide +kernel
theorem dX8_light_36 : decode cX8_light 36 = .ok (.iconst (-1), 1) := by decide +kernel
theorem dX8_light_37 : decode cX8_light 37 = .ok (.ixor, 1) := by decide +kernel
theorem dX8_light_38 : decode cX8_light 38 = .ok (.goto 4, 3) := by decide +kernel
theorem dX8_light_41 : decode cX8_light 41 = .ok (.iconst (-1), 1) := by decide +kernel
theorem dX8_light_42 : decode cX8_light 42 = .ok (.iand, 1) := by decide +kernel
theorem dX8_light_43 : decode cX8_light 43 = .ok (.istore_n 1, 1) := by decide +kernel
theorem dX8_light_44 : decode cX8_light 44 = .ok (.iinc 2 1, 3) := by decide +kernel
theorem dX8_light_47 : decode cX8_light 47 = .ok (.goto (-36), 3) := by decide +kernel
theorem dX8_light_50 : decode cX8_light 50 = .ok (.iload_n 1, 1) := by decide +kernel
theorem dX8_light_51 : decode cX8_light 51 = .ok (.ireturn, 1) := by decide +kernel
set_option maxRecDepth 20000 in
theorem ggX8_dark_X8_light : GoodIn wsX8_dark wsX8_light := goodIn_r _ [6, 1, 7, 8, 9, 10, 11, 5, 12, 13, 14, 15, 16, 17, 18, 19, 20, 21, 22, 23, 24, 25, 26, 27, 28, 29, 30, 31, 32, 33, 34, 35, 36, 37, 38, 39, 40, 41, 42, 43, 44, 45, 46, 47, 48, 49, 50, 51] (by decide +kernel) (by decide +kernel)
set_option maxRecDepth 20000 in
theorem gX8_dark_X8_light : GoodIn wsX8_dark (wsV RX8 274 RX8 yX8_light wsX8_light) := goodIn_app (goodIn_of _ (by decide +kernel)) ggX8_dark_X8_light
theorem dX8_dark_0 : decode cX8_dark 0 = .ok (.iconst 1, 1) := by decide +kernel
theorem dX8_dark_1 : decode cX8_dark 1 = .ok (.aload_n 0, 1) := by decide +kernel
theorem dX8_dark_2 : decode cX8_dark 2 = .ok (.getfield 37, 3) := by decide +kernel
theorem dX8_dark_5 : decode cX8_dark 5 = .ok (.ishl, 1) := by decide +kernel
theorem dX8_dark_6 : decode cX8_dark 6 = .ok (.iconst 1, 1) := by decide +kernel
theorem dX8_dark_7 : decode cX8_dark 7 = .ok (.isub, 1) := by decide +kernel
theorem dX8_dark_8 : decode cX8_dark 8 = .ok (.aload_n 0, 1) := by decide +kernel
theorem dX8_dark_9 : decode cX8_dark 9 = .ok (.invokevirtual 274, 3) := by decide +kernel
theorem dX8_dark_12 : decode cX8_dark 12 = .ok (.iconst (-1), 1) := by decide +kernel
theorem dX8_dark_13 : decode cX8_dark 13 = .ok (.ixor, 1) := by decide +kernel
theorem dX8_dark_14 : decode cX8_dark 14 = .ok (.iand, 1) := by decide +kernel
theorem dX8_dark_15 : decode cX8_dark 15 = .ok (.ireturn, 1) := by decide +kernel
set_option maxRecDepth 20000 in
theorem ggX8_isTime_X8_in : GoodIn wsX8_isTime wsX8_in := goodIn_r _ [5] (by decide +kernel) (by decide +kernel)
set_option maxRecDepth 20000 in
theorem gX8_isTime_X8_in : GoodIn wsX8_isTime (va_wsS RX8 91 yX8_in wsX8_in) := goodIn_app (goodIn_of _ (by decide +kernel)) ggX8_isTime_X8_in
theorem dX8_isTime_0 : decode cX8_isTime 0 = .ok (.iload_n 0, 1) := by decide +kernel
theorem dX8_isTime_1 : decode cX8_isTime 1 = .ok (.i2l, 1) := by decide +kernel
theorem dX8_isTime_2 : decode cX8_isTime 2 = .ok (.lconst 0, 1) := by decide +kernel
theorem dX8_isTime_3 : decode cX8_isTime 3 = .ok (.ldc2_w 277, 3) := by decide +kernel
theorem dX8_isTime_6 : decode cX8_isTime 6 = .ok (.invokestatic 91, 3) := by decide +kernel
theorem dX8_isTime_9 : decode cX8_isTime 9 = .ok (.ireturn, 1) := by decide +kernel
set_option maxRecDepth 20000 in
theorem ggX8_where_X8_isPerson : GoodIn wsX8_where wsX8_isPerson := goodIn_r _ [6, 7, 8, 9, 5, 10, 69, 70, 71, 72, 73, 74, 75, 76, 77, 78, 79, 80, 81, 82, 83, 84, 85, 86, 87, 88, 89, 90, 91, 92, 93, 94, 95, 96, 97, 98, 99, 100, 101, 102, 103, 104, 105] (by decide +kernel) (by decide +kernel)
set_option maxRecDepth 20000 in
theorem gX8_where_X8_isPerson : GoodIn wsX8_where (wsV RX8 115 RX8 yX8_isPerson wsX8_isPerson) := goodIn_app (goodIn_of _ (by decide +kernel)) ggX8_where_X8_isPerson
set_option maxRecDepth 20000 in
theorem ggX8_where_X8_isTime : GoodIn wsX8_where wsX8_isTime := goodIn_r _ [13, 14, 8, 9, 5, 10] (by decide +kernel) (by decide +kernel)
set_option maxRecDepth 20000 in
theorem gX8_where_X8_isTime : GoodIn wsX8_where (va_wsS RX8 279 yX8_isTime wsX8_isTime) := goodIn_app (goodIn_of _ (by decide +kernel)) ggX8_where_X8_isTime
set_option maxRecDepth 20000 in
theorem ggX8_where_X8_refuse : GoodIn wsX8_where wsX8_refuse := goodIn_r _ [18, 19, 69, 70, 71, 72, 73, 74, 75, 76, 77, 78, 79, 80, 81, 82, 83, 84, 85, 86, 87, 88, 89, 90, 91, 92, 93, 94, 95, 96, 97, 98, 99, 100, 101, 102, 103, 104, 105] (by decide +kernel) (by decide +kernel)
set_option maxRecDepth 20000 in
theorem gX8_where_X8_refuse : GoodIn wsX8_where (wsV RX8 104 RX8 yX8_refuse wsX8_refuse) := goodIn_app (goodIn_of _ (by decide +kernel)) ggX8_where_X8_refuse
set_option maxRecDepth 20000 in
theorem ggX8_where_X8_goesOn : GoodIn wsX8_where wsX8_goesOn := goodIn_r _ [23, 24, 25, 26, 5, 27, 7, 1, 28, 29, 30, 31, 32, 33, 34, 35, 36, 37, 38, 39, 40, 41, 42, 43, 44, 45, 46, 47, 48, 49, 50, 51, 52, 53, 54, 55, 56, 57, 58, 8, 9, 10, 59, 60, 61, 62, 63, 64, 65, 66, 67, 68, 69, 70, 71, 72, 73, 74, 75, 76, 77, 78, 79, 80, 81, 82, 83, 84, 85, 86, 87, 88, 89, 90, 91, 92, 93, 94, 95, 96, 97, 98, 99, 100, 101, 102, 103, 104, 105] (by decide +kernel) (by decide +kernel)
set_option maxRecDepth 20000 in
theorem gX8_where_X8_goesOn : GoodIn wsX8_where (wsV RX8 282 RX8 yX8_goesOn wsX8_goesOn) := goodIn_app (goodIn_of _ (by decide +kernel)) ggX8_where_X8_goesOn
theorem dX8_where_0 : decode cX8_where 0 = .ok (.aload_n 0, 1) := by decide +kernel
theorem dX8_where_1 : decode cX8_where 1 = .ok (.iload_n 1, 1) := by decide +kernel
theorem dX8_where_2 : decode cX8_where 2 = .ok (.invokevirtual 115, 3) := by decide +kernel
theorem dX8_where_5 : decode cX8_where 5 = .ok (.ifCond .eq 10, 3) := by decide +kernel
theorem dX8_where_8 : decode cX8_where 8 = .ok (.iload_n 2, 1) := by decide +kernel
theorem dX8_where_9 : decode cX8_where 9 = .ok (.invokestatic 279, 3) := by decide +kernel
theorem dX8_where_12 : decode cX8_where 12 = .ok (.ifCond .ne 10, 3) := by decide +kernel
theorem dX8_where_15 : decode cX8_where 15 = .ok (.aload_n 0, 1) := by decide +kernel
theorem dX8_where_16 : decode cX8_where 16 = .ok (.bipush (-2), 2) := by decide +kernel
theorem dX8_where_18 : decode cX8_where 18 = .ok (.invokevirtual 104, 3) := by decide +kernel
theorem dX8_where_21 : decode cX8_where 21 = .ok (.ireturn, 1) := by decide +kernel
theorem dX8_where_22 : decode cX8_where 22 = .ok (.aload_n 0, 1) := by decide +kernel
theorem dX8_where_23 : decode cX8_where 23 = .ok (.iload_n 2, 1) := by decide +kernel
theorem dX8_where_24 : decode cX8_where 24 = .ok (.invokevirtual 282, 3) := by decide +kernel
theorem dX8_where_27 : decode cX8_where 27 = .ok (.aload_n 0, 1) := by decide +kernel
theorem dX8_where_28 : decode cX8_where 28 = .ok (.getfield 71, 3) := by decide +kernel
theorem dX8_where_31 : decode cX8_where 31 = .ok (.iload_n 1, 1) := by decide +kernel
theorem dX8_where_32 : decode cX8_where 32 = .ok (.iaload, 1) := by decide +kernel
theorem dX8_where_33 : decode cX8_where 33 = .ok (.ireturn, 1) := by decide +kernel
set_option maxRecDepth 20000 in
theorem ggX8_shines_X8_isTime : GoodIn wsX8_shines wsX8_isTime := goodIn_r _ [5, 6, 7, 8, 4, 9] (by decide +kernel) (by decide +kernel)
set_option maxRecDepth 20000 in
theorem gX8_shines_X8_isTime : GoodIn wsX8_shines (va_wsS RX8 279 yX8_isTime wsX8_isTime) := goodIn_app (goodIn_of _ (by decide +kernel)) ggX8_shines_X8_isTime
set_option maxRecDepth 20000 in
theorem ggX8_shines_X8_in : GoodIn wsX8_shines wsX8_in := goodIn_r _ [9] (by decide +kernel) (by decide +kernel)
set_option maxRecDepth 20000 in
theorem gX8_shines_X8_in : GoodIn wsX8_shines (va_wsS RX8 91 yX8_in wsX8_in) := goodIn_app (goodIn_of _ (by decide +kernel)) ggX8_shines_X8_in
set_option maxRecDepth 20000 in
theorem ggX8_shines_X8_refuse : GoodIn wsX8_shines wsX8_refuse := goodIn_r _ [13, 14, 77, 78, 79, 80, 81, 82, 83, 84, 85, 86, 87, 88, 89, 90, 91, 92, 93, 94, 95, 96, 97, 98, 99, 100, 101, 102, 103, 104, 105, 106, 107, 108, 109, 110, 111, 112, 113] (by decide +kernel) (by decide +kernel)
set_option maxRecDepth 20000 in
theorem gX8_shines_X8_refuse : GoodIn wsX8_shines (wsV RX8 104 RX8 yX8_refuse wsX8_refuse) := goodIn_app (goodIn_of _ (by decide +kernel)) ggX8_shines_X8_refuse
set_option maxRecDepth 20000 in
theorem ggX8_shines_X8_goesOn : GoodIn wsX8_shines wsX8_goesOn := goodIn_r _ [18, 19, 20, 21, 4, 22, 23, 24, 25, 26, 27, 28, 29, 30, 31, 32, 33, 34, 35, 36, 37, 38, 39, 40, 41, 42, 43, 44, 45, 46, 47, 48, 49, 50, 51, 52, 53, 54, 55, 7, 8, 9, 56, 57, 58, 59, 60, 61, 62, 63, 64, 65, 77, 78, 79, 80, 81, 82, 83, 84, 85, 86, 87, 88, 89, 90, 91, 92, 93, 94, 95, 96, 97, 98, 99, 100, 101, 102, 103, 104, 105, 106, 107, 108, 109, 110, 111, 112, 113] (by decide +kernel) (by decide +kernel)
set_option maxRecDepth 20000 in
theorem gX8_shines_X8_goesOn : GoodIn wsX8_shines (wsV RX8 282 RX8 yX8_goesOn wsX8_goesOn) := goodIn_app (goodIn_of _ (by decide +kernel)) ggX8_shines_X8_goesOn
set_option maxRecDepth 20000 in
theorem ggX8_shines_X8_light : GoodIn wsX8_shines wsX8_light := goodIn_r _ [69, 60, 23, 24, 51, 52, 53, 4, 54, 55, 37, 77, 78, 79, 80, 81, 82, 83, 84, 85, 86, 87, 88, 89, 90, 91, 92, 93, 94, 95, 96, 97, 98, 99, 100, 101, 102, 103, 104, 105, 106, 107, 108, 109, 110, 111, 112, 113] (by decide +kernel) (by decide +kernel)
set_option maxRecDepth 20000 in
theorem gX8_shines_X8_light : GoodIn wsX8_shines (wsV RX8 274 RX8 yX8_light wsX8_light) := goodIn_app (goodIn_of _ (by decide +kernel)) ggX8_shines_X8_light
set_option maxRecDepth 20000 in
theorem ggX8_shines_X8_bits : GoodIn wsX8_shines wsX8_bits := goodIn_r _ [72] (by decide +kernel) (by decide +kernel)
set_option maxRecDepth 20000 in
theorem gX8_shines_X8_bits : GoodIn wsX8_shines (va_wsS RX8 285 yX8_bits wsX8_bits) := goodIn_app (goodIn_of _ (by decide +kernel)) ggX8_shines_X8_bits
set_option maxRecDepth 20000 in
theorem ggX8_shines_X8_dark : GoodIn wsX8_shines wsX8_dark := goodIn_r _ [76, 60, 66, 67, 68, 4, 69, 23, 24, 51, 52, 53, 54, 55, 37, 77, 78, 79, 80, 81, 82, 83, 84, 85, 86, 87, 88, 89, 90, 91, 92, 93, 94, 95, 96, 97, 98, 99, 100, 101, 102, 103, 104, 105, 106, 107, 108, 109, 110, 111, 112, 113] (by decide +kernel) (by decide +kernel)
set_option maxRecDepth 20000 in
theorem gX8_shines_X8_dark : GoodIn wsX8_shines (wsV RX8 288 RX8 yX8_dark wsX8_dark) := goodIn_app (goodIn_of _ (by decide +kernel)) ggX8_shines_X8_dark
theorem dX8_shines_0 : decode cX8_shines 0 = .ok (.iload_n 1, 1) := by decide +kernel
theorem dX8_shines_1 : decode cX8_shines 1 = .ok (.invokestatic 279, 3) := by decide +kernel
theorem dX8_shines_4 : decode cX8_shines 4 = .ok (.ifCond .eq 15, 3) := by decide +kernel
theorem dX8_shines_7 : decode cX8_shines 7 = .ok (.iload_n 2, 1) := by decide +kernel
theorem dX8_shines_8 : decode cX8_shines 8 = .ok (.i2l, 1) := by decide +kernel
theorem dX8_shines_9 : decode cX8_shines 9 = .ok (.lconst 0, 1) := by decide +kernel
theorem dX8_shines_10 : decode cX8_shines 10 = .ok (.ldc2_w 149, 3) := by decide +kernel
theorem dX8_shines_13 : decode cX8_shines 13 = .ok (.invokestatic 91, 3) := by decide +kernel
theorem dX8_shines_16 : decode cX8_shines 16 = .ok (.ifCond .ne 10, 3) := by decide +kernel
theorem dX8_shines_19 : decode cX8_shines 19 = .ok (.aload_n 0, 1) := by decide +kernel
theorem dX8_shines_20 : decode cX8_shines 20 = .ok (.bipush (-2), 2) := by decide +kernel
theorem dX8_shines_22 : decode cX8_shines 22 = .ok (.invokevirtual 104, 3) := by decide +kernel
theorem dX8_shines_25 : decode cX8_shines 25 = .ok (.ireturn, 1) := by decide +kernel
theorem dX8_shines_26 : decode cX8_shines 26 = .ok (.aload_n 0, 1) := by decide +kernel
theorem dX8_shines_27 : decode cX8_shines 27 = .ok (.iload_n 1, 1) := by decide +kernel
theorem dX8_shines_28 : decode cX8_shines 28 = .ok (.invokevirtual 282, 3) := by decide +kernel
theorem dX8_shines_31 : decode cX8_shines 31 = .ok (.iload_n 2, 1) := by decide +kernel
theorem dX8_shines_32 : decode cX8_shines 32 = .ok (.ifCond .ne 10, 3) := by decide +kernel
theorem dX8_shines_35 : decode cX8_shines 35 = .ok (.aload_n 0, 1) := by decide +kernel
theorem dX8_shines_36 : decode cX8_shines 36 = .ok (.invokevirtual 274, 3) := by decide +kernel
theorem dX8_shines_39 : decode cX8_shines 39 = .ok (.goto 25, 3) := by decide +kernel
theorem dX8_shines_42 : decode cX8_shines 42 = .ok (.iload_n 2, 1) := by decide +kernel
theorem dX8_shines_43 : decode cX8_shines 43 = .ok (.iconst 1, 1) := by decide +kernel
theorem dX8_shines_44 : decode cX8_shines 44 = .ok (.if_icmp .ne 13, 3) := by decide +kernel
theorem dX8_shines_47 : decode cX8_shines 47 = .ok (.aload_n 0, 1) := by decide +kernel
theorem dX8_shines_48 : decode cX8_shines 48 = .ok (.invokevirtual 274, 3) := by decide +kernel
theorem dX8_shines_51 : decode cX8_shines 51 = .ok (.invokestatic 285, 3) := by decide +kernel
theorem dX8_shines_54 : decode cX8_shines 54 = .ok (.goto 10, 3) := by decide +kernel
theorem dX8_shines_57 : decode cX8_shines 57 = .ok (.aload_n 0, 1) := by decide +kernel
theorem dX8_shines_58 : decode cX8_shines 58 = .ok (.invokevirtual 288, 3) := by decide +kernel
theorem dX8_shines_61 : decode cX8_shines 61 = .ok (.invokestatic 285, 3) := by decide +kernel
theorem dX8_shines_64 : decode cX8_shines 64 = .ok (.ireturn, 1) := by decide +kernel
set_option maxRecDepth 20000 in
theorem ggX8_crowdAt_X8_darkens : GoodIn wsX8_crowdAt wsX8_darkens := goodIn_r _ [7, 8, 9, 10, 11, 12, 13, 14, 15, 16, 17, 18, 19, 20, 21, 22, 23, 24, 25, 26, 27, 28, 29, 30, 31, 32, 33, 34, 35, 36, 37, 38, 39, 40, 41, 42, 43, 44, 45, 46] (by decide +kernel) (by decide +kernel)
set_option maxRecDepth 20000 in
theorem gX8_crowdAt_X8_darkens : GoodIn wsX8_crowdAt (wsV RX8 244 RX8 yX8_darkens wsX8_darkens) := goodIn_app (goodIn_of _ (by decide +kernel)) ggX8_crowdAt_X8_darkens
theorem dX8_crowdAt_0 : decode cX8_crowdAt 0 = .ok (.iconst 0, 1) := by decide +kernel
theorem dX8_crowdAt_1 : decode cX8_crowdAt 1 = .ok (.istore_n 3, 1) := by decide +kernel
theorem dX8_crowdAt_2 : decode cX8_crowdAt 2 = .ok (.iconst 0, 1) := by decide +kernel
theorem dX8_crowdAt_3 : decode cX8_crowdAt 3 = .ok (.istore 4, 2) := by decide +kernel
theorem dX8_crowdAt_5 : decode cX8_crowdAt 5 = .ok (.iload 4, 2) := by decide +kernel
theorem dX8_crowdAt_7 : decode cX8_crowdAt 7 = .ok (.aload_n 0, 1) := by decide +kernel
theorem dX8_crowdAt_8 : decode cX8_crowdAt 8 = .ok (.getfield 95, 3) := by decide +kernel
theorem dX8_crowdAt_11 : decode cX8_crowdAt 11 = .ok (.if_icmp .ge 44, 3) := by decide +kernel
theorem dX8_crowdAt_14 : decode cX8_crowdAt 14 = .ok (.iload_n 3, 1) := by decide +kernel
theorem dX8_crowdAt_15 : decode cX8_crowdAt 15 = .ok (.aload_n 0, 1) := by decide +kernel
theorem dX8_crowdAt_16 : decode cX8_crowdAt 16 = .ok (.getfield 71, 3) := by decide +kernel
theorem dX8_crowdAt_19 : decode cX8_crowdAt 19 = .ok (.iload 4, 2) := by decide +kernel
theorem dX8_crowdAt_21 : decode cX8_crowdAt 21 = .ok (.iaload, 1) := by decide +kernel
theorem dX8_crowdAt_22 : decode cX8_crowdAt 22 = .ok (.iload_n 1, 1) := by decide +kernel
theorem dX8_crowdAt_23 : decode cX8_crowdAt 23 = .ok (.if_icmp .ne 23, 3) := by decide +kernel
theorem dX8_crowdAt_26 : decode cX8_crowdAt 26 = .ok (.iload_n 2, 1) := by decide +kernel
theorem dX8_crowdAt_27 : decode cX8_crowdAt 27 = .ok (.ifCond .eq 12, 3) := by decide +kernel
theorem dX8_crowdAt_30 : decode cX8_crowdAt 30 = .ok (.aload_n 0, 1) := by decide +kernel
theorem dX8_crowdAt_31 : decode cX8_crowdAt 31 = .ok (.iload 4, 2) := by decide +kernel
theorem dX8_crowdAt_33 : decode cX8_crowdAt 33 = .ok (.invokevirtual 244, 3) := by decide +kernel
theorem dX8_crowdAt_36 : decode cX8_crowdAt 36 = .ok (.ifCond .eq 10, 3) := by decide +kernel
theorem dX8_crowdAt_39 : decode cX8_crowdAt 39 = .ok (.iconst 1, 1) := by decide +kernel
theorem dX8_crowdAt_40 : decode cX8_crowdAt 40 = .ok (.iload 4, 2) := by decide +kernel
theorem dX8_crowdAt_42 : decode cX8_crowdAt 42 = .ok (.ishl, 1) := by decide +kernel
theorem dX8_crowdAt_43 : decode cX8_crowdAt 43 = .ok (.goto 4, 3) := by decide +kernel
theorem dX8_crowdAt_46 : decode cX8_crowdAt 46 = .ok (.iconst 0, 1) := by decide +kernel
theorem dX8_crowdAt_47 : decode cX8_crowdAt 47 = .ok (.ior, 1) := by decide +kernel
theorem dX8_crowdAt_48 : decode cX8_crowdAt 48 = .ok (.istore_n 3, 1) := by decide +kernel
theorem dX8_crowdAt_49 : decode cX8_crowdAt 49 = .ok (.iinc 4 1, 3) := by decide +kernel
theorem dX8_crowdAt_52 : decode cX8_crowdAt 52 = .ok (.goto (-47), 3) := by decide +kernel
theorem dX8_crowdAt_55 : decode cX8_crowdAt 55 = .ok (.iload_n 3, 1) := by decide +kernel
theorem dX8_crowdAt_56 : decode cX8_crowdAt 56 = .ok (.ireturn, 1) := by decide +kernel
set_option maxRecDepth 20000 in
theorem ggX8_crowd_X8_isPlace : GoodIn wsX8_crowd wsX8_isPlace := goodIn_r _ [5, 6, 7, 8, 4, 9, 76, 77, 78, 79, 80, 81, 82, 83, 84, 85, 86, 87, 88, 89, 90, 91, 92, 93, 94, 95, 96, 97, 98, 99, 100, 101, 102, 103, 104, 105, 106, 107, 108, 109, 110, 111, 112] (by decide +kernel) (by decide +kernel)
set_option maxRecDepth 20000 in
theorem gX8_crowd_X8_isPlace : GoodIn wsX8_crowd (wsV RX8 133 RX8 yX8_isPlace wsX8_isPlace) := goodIn_app (goodIn_of _ (by decide +kernel)) ggX8_crowd_X8_isPlace
set_option maxRecDepth 20000 in
theorem ggX8_crowd_X8_isTime : GoodIn wsX8_crowd wsX8_isTime := goodIn_r _ [12, 13, 7, 8, 4, 9] (by decide +kernel) (by decide +kernel)
set_option maxRecDepth 20000 in
theorem gX8_crowd_X8_isTime : GoodIn wsX8_crowd (va_wsS RX8 279 yX8_isTime wsX8_isTime) := goodIn_app (goodIn_of _ (by decide +kernel)) ggX8_crowd_X8_isTime
set_option maxRecDepth 20000 in
theorem ggX8_crowd_X8_in : GoodIn wsX8_crowd wsX8_in := goodIn_r _ [9] (by decide +kernel) (by decide +kernel)
set_option maxRecDepth 20000 in
theorem gX8_crowd_X8_in : GoodIn wsX8_crowd (va_wsS RX8 91 yX8_in wsX8_in) := goodIn_app (goodIn_of _ (by decide +kernel)) ggX8_crowd_X8_in
set_option maxRecDepth 20000 in
theorem ggX8_crowd_X8_refuse : GoodIn wsX8_crowd wsX8_refuse := goodIn_r _ [17, 18, 76, 77, 78, 79, 80, 81, 82, 83, 84, 85, 86, 87, 88, 89, 90, 91, 92, 93, 94, 95, 96, 97, 98, 99, 100, 101, 102, 103, 104, 105, 106, 107, 108, 109, 110, 111, 112] (by decide +kernel) (by decide +kernel)
set_option maxRecDepth 20000 in
theorem gX8_crowd_X8_refuse : GoodIn wsX8_crowd (wsV RX8 104 RX8 yX8_refuse wsX8_refuse) := goodIn_app (goodIn_of _ (by decide +kernel)) ggX8_crowd_X8_refuse
set_option maxRecDepth 20000 in
theorem ggX8_crowd_X8_goesOn : GoodIn wsX8_crowd wsX8_goesOn := goodIn_r _ [22, 23, 24, 25, 4, 26, 27, 28, 29, 30, 31, 32, 33, 34, 35, 36, 37, 38, 39, 40, 41, 42, 43, 44, 45, 46, 47, 48, 49, 50, 51, 52, 53, 54, 55, 56, 57, 58, 59, 7, 8, 9, 60, 61, 62, 63, 6, 64, 65, 66, 67, 68, 76, 77, 78, 79, 80, 81, 82, 83, 84, 85, 86, 87, 88, 89, 90, 91, 92, 93, 94, 95, 96, 97, 98, 99, 100, 101, 102, 103, 104, 105, 106, 107, 108, 109, 110, 111, 112] (by decide +kernel) (by decide +kernel)
set_option maxRecDepth 20000 in
theorem gX8_crowd_X8_goesOn : GoodIn wsX8_crowd (wsV RX8 282 RX8 yX8_goesOn wsX8_goesOn) := goodIn_app (goodIn_of _ (by decide +kernel)) ggX8_crowd_X8_goesOn
set_option maxRecDepth 20000 in
theorem ggX8_crowd_X8_crowdAt : GoodIn wsX8_crowd wsX8_crowdAt := goodIn_r _ [72, 27, 28, 55, 56, 57, 4, 58, 59, 41, 76, 77, 78, 79, 80, 81, 82, 83, 84, 85, 86, 87, 88, 89, 90, 91, 92, 93, 94, 95, 96, 97, 98, 99, 100, 101, 102, 103, 104, 105, 106, 107, 108, 109, 110, 111, 112] (by decide +kernel) (by decide +kernel)
set_option maxRecDepth 20000 in
theorem gX8_crowd_X8_crowdAt : GoodIn wsX8_crowd (wsV RX8 291 RX8 yX8_crowdAt wsX8_crowdAt) := goodIn_app (goodIn_of _ (by decide +kernel)) ggX8_crowd_X8_crowdAt
set_option maxRecDepth 20000 in
theorem ggX8_crowd_X8_bits : GoodIn wsX8_crowd wsX8_bits := goodIn_r _ [75] (by decide +kernel) (by decide +kernel)
set_option maxRecDepth 20000 in
theorem gX8_crowd_X8_bits : GoodIn wsX8_crowd (va_wsS RX8 285 yX8_bits wsX8_bits) := goodIn_app (goodIn_of _ (by decide +kernel)) ggX8_crowd_X8_bits
theorem dX8_crowd_0 : decode cX8_crowd 0 = .ok (.aload_n 0, 1) := by decide +kernel
theorem dX8_crowd_1 : decode cX8_crowd 1 = .ok (.iload_n 1, 1) := by decide +kernel
theorem dX8_crowd_2 : decode cX8_crowd 2 = .ok (.invokevirtual 133, 3) := by decide +kernel
theorem dX8_crowd_5 : decode cX8_crowd 5 = .ok (.ifCond .eq 20, 3) := by decide +kernel
theorem dX8_crowd_8 : decode cX8_crowd 8 = .ok (.iload_n 2, 1) := by decide +kernel
theorem dX8_crowd_9 : decode cX8_crowd 9 = .ok (.invokestatic 279, 3) := by decide +kernel
theorem dX8_crowd_12 : decode cX8_crowd 12 = .ok (.ifCond .eq 13, 3) := by decide +kernel
theorem dX8_crowd_15 : decode cX8_crowd 15 = .ok (.iload_n 3, 1) := by decide +kernel
theorem dX8_crowd_16 : decode cX8_crowd 16 = .ok (.i2l, 1) := by decide +kernel
theorem dX8_crowd_17 : decode cX8_crowd 17 = .ok (.lconst 0, 1) := by decide +kernel
theorem dX8_crowd_18 : decode cX8_crowd 18 = .ok (.lconst 1, 1) := by decide +kernel
theorem dX8_crowd_19 : decode cX8_crowd 19 = .ok (.invokestatic 91, 3) := by decide +kernel
theorem dX8_crowd_22 : decode cX8_crowd 22 = .ok (.ifCond .ne 10, 3) := by decide +kernel
theorem dX8_crowd_25 : decode cX8_crowd 25 = .ok (.aload_n 0, 1) := by decide +kernel
theorem dX8_crowd_26 : decode cX8_crowd 26 = .ok (.bipush (-2), 2) := by decide +kernel
theorem dX8_crowd_28 : decode cX8_crowd 28 = .ok (.invokevirtual 104, 3) := by decide +kernel
theorem dX8_crowd_31 : decode cX8_crowd 31 = .ok (.ireturn, 1) := by decide +kernel
theorem dX8_crowd_32 : decode cX8_crowd 32 = .ok (.aload_n 0, 1) := by decide +kernel
theorem dX8_crowd_33 : decode cX8_crowd 33 = .ok (.iload_n 2, 1) := by decide +kernel
theorem dX8_crowd_34 : decode cX8_crowd 34 = .ok (.invokevirtual 282, 3) := by decide +kernel
theorem dX8_crowd_37 : decode cX8_crowd 37 = .ok (.iload_n 3, 1) := by decide +kernel
theorem dX8_crowd_38 : decode cX8_crowd 38 = .ok (.ifCond .ne 12, 3) := by decide +kernel
theorem dX8_crowd_41 : decode cX8_crowd 41 = .ok (.aload_n 0, 1) := by decide +kernel
theorem dX8_crowd_42 : decode cX8_crowd 42 = .ok (.iload_n 1, 1) := by decide +kernel
theorem dX8_crowd_43 : decode cX8_crowd 43 = .ok (.iconst 0, 1) := by decide +kernel
theorem dX8_crowd_44 : decode cX8_crowd 44 = .ok (.invokevirtual 291, 3) := by decide +kernel
theorem dX8_crowd_47 : decode cX8_crowd 47 = .ok (.goto 12, 3) := by decide +kernel
theorem dX8_crowd_50 : decode cX8_crowd 50 = .ok (.aload_n 0, 1) := by decide +kernel
theorem dX8_crowd_51 : decode cX8_crowd 51 = .ok (.iload_n 1, 1) := by decide +kernel
theorem dX8_crowd_52 : decode cX8_crowd 52 = .ok (.iconst 1, 1) := by decide +kernel
theorem dX8_crowd_53 : decode cX8_crowd 53 = .ok (.invokevirtual 291, 3) := by decide +kernel
theorem dX8_crowd_56 : decode cX8_crowd 56 = .ok (.invokestatic 285, 3) := by decide +kernel
theorem dX8_crowd_59 : decode cX8_crowd 59 = .ok (.ireturn, 1) := by decide +kernel
set_option maxRecDepth 20000 in
theorem ggX8_darkest_X8_isTime : GoodIn wsX8_darkest wsX8_isTime := goodIn_r _ [5, 6, 7, 8, 4, 9] (by decide +kernel) (by decide +kernel)
set_option maxRecDepth 20000 in
theorem gX8_darkest_X8_isTime : GoodIn wsX8_darkest (va_wsS RX8 279 yX8_isTime wsX8_isTime) := goodIn_app (goodIn_of _ (by decide +kernel)) ggX8_darkest_X8_isTime
set_option maxRecDepth 20000 in
theorem ggX8_darkest_X8_in : GoodIn wsX8_darkest wsX8_in := goodIn_r _ [9] (by decide +kernel) (by decide +kernel)
set_option maxRecDepth 20000 in
theorem gX8_darkest_X8_in : GoodIn wsX8_darkest (va_wsS RX8 91 yX8_in wsX8_in) := goodIn_app (goodIn_of _ (by decide +kernel)) ggX8_darkest_X8_in
set_option maxRecDepth 20000 in
theorem ggX8_darkest_X8_refuse : GoodIn wsX8_darkest wsX8_refuse := goodIn_r _ [13, 14, 72, 73, 74, 75, 76, 77, 78, 79, 80, 81, 82, 83, 84, 85, 86, 87, 88, 89, 90, 91, 92, 93, 94, 95, 96, 97, 98, 99, 100, 101, 102, 103, 104, 105, 106, 107, 108] (by decide +kernel) (by decide +kernel)
set_option maxRecDepth 20000 in
theorem gX8_darkest_X8_refuse : GoodIn wsX8_darkest (wsV RX8 104 RX8 yX8_refuse wsX8_refuse) := goodIn_app (goodIn_of _ (by decide +kernel)) ggX8_darkest_X8_refuse
set_option maxRecDepth 20000 in
theorem ggX8_darkest_X8_goesOn : GoodIn wsX8_darkest wsX8_goesOn := goodIn_r _ [18, 19, 20, 21, 4, 22, 23, 24, 25, 26, 27, 28, 29, 30, 31, 32, 33, 34, 35, 36, 37, 38, 39, 40, 41, 42, 43, 44, 45, 46, 47, 48, 49, 50, 51, 52, 53, 54, 55, 7, 8, 9, 56, 57, 58, 59, 1, 60, 61, 62, 63, 64, 72, 73, 74, 75, 76, 77, 78, 79, 80, 81, 82, 83, 84, 85, 86, 87, 88, 89, 90, 91, 92, 93, 94, 95, 96, 97, 98, 99, 100, 101, 102, 103, 104, 105, 106, 107, 108] (by decide +kernel) (by decide +kernel)
set_option maxRecDepth 20000 in
theorem gX8_darkest_X8_goesOn : GoodIn wsX8_darkest (wsV RX8 282 RX8 yX8_goesOn wsX8_goesOn) := goodIn_app (goodIn_of _ (by decide +kernel)) ggX8_darkest_X8_goesOn
set_option maxRecDepth 20000 in
theorem ggX8_darkest_X8_crowdAt : GoodIn wsX8_darkest wsX8_crowdAt := goodIn_r _ [68, 23, 24, 51, 52, 53, 4, 54, 55, 37, 72, 73, 74, 75, 76, 77, 78, 79, 80, 81, 82, 83, 84, 85, 86, 87, 88, 89, 90, 91, 92, 93, 94, 95, 96, 97, 98, 99, 100, 101, 102, 103, 104, 105, 106, 107, 108] (by decide +kernel) (by decide +kernel)
set_option maxRecDepth 20000 in
theorem gX8_darkest_X8_crowdAt : GoodIn wsX8_darkest (wsV RX8 291 RX8 yX8_crowdAt wsX8_crowdAt) := goodIn_app (goodIn_of _ (by decide +kernel)) ggX8_darkest_X8_crowdAt
set_option maxRecDepth 20000 in
theorem ggX8_darkest_X8_bits : GoodIn wsX8_darkest wsX8_bits := goodIn_r _ [71] (by decide +kernel) (by decide +kernel)
set_option maxRecDepth 20000 in
theorem gX8_darkest_X8_bits : GoodIn wsX8_darkest (va_wsS RX8 285 yX8_bits wsX8_bits) := goodIn_app (goodIn_of _ (by decide +kernel)) ggX8_darkest_X8_bits
theorem dX8_darkest_0 : decode cX8_darkest 0 = .ok (.iload_n 1, 1) := by decide +kernel
theorem dX8_darkest_1 : decode cX8_darkest 1 = .ok (.invokestatic 279, 3) := by decide +kernel
theorem dX8_darkest_4 : decode cX8_darkest 4 = .ok (.ifCond .eq 13, 3) := by decide +kernel
theorem dX8_darkest_7 : decode cX8_darkest 7 = .ok (.iload_n 2, 1) := by decide +kernel
theorem dX8_darkest_8 : decode cX8_darkest 8 = .ok (.i2l, 1) := by decide +kernel
theorem dX8_darkest_9 : decode cX8_darkest 9 = .ok (.lconst 0, 1) := by decide +kernel
theorem dX8_darkest_10 : decode cX8_darkest 10 = .ok (.lconst 1, 1) := by decide +kernel
theorem dX8_darkest_11 : decode cX8_darkest 11 = .ok (.invokestatic 91, 3) := by decide +kernel
theorem dX8_darkest_14 : decode cX8_darkest 14 = .ok (.ifCond .ne 10, 3) := by decide +kernel
theorem dX8_darkest_17 : decode cX8_darkest 17 = .ok (.aload_n 0, 1) := by decide +kernel
theorem dX8_darkest_18 : decode cX8_darkest 18 = .ok (.bipush (-2), 2) := by decide +kernel
theorem dX8_darkest_20 : decode cX8_darkest 20 = .ok (.invokevirtual 104, 3) := by decide +kernel
theorem dX8_darkest_23 : decode cX8_darkest 23 = .ok (.ireturn, 1) := by decide +kernel
theorem dX8_darkest_24 : decode cX8_darkest 24 = .ok (.aload_n 0, 1) := by decide +kernel
theorem dX8_darkest_25 : decode cX8_darkest 25 = .ok (.iload_n 1, 1) := by decide +kernel
theorem dX8_darkest_26 : decode cX8_darkest 26 = .ok (.invokevirtual 282, 3) := by decide +kernel
theorem dX8_darkest_29 : decode cX8_darkest 29 = .ok (.iconst 0, 1) := by decide +kernel
theorem dX8_darkest_30 : decode cX8_darkest 30 = .ok (.istore_n 3, 1) := by decide +kernel
theorem dX8_darkest_31 : decode cX8_darkest 31 = .ok (.iconst 1, 1) := by decide +kernel
theorem dX8_darkest_32 : decode cX8_darkest 32 = .ok (.istore 4, 2) := by decide +kernel
theorem dX8_darkest_34 : decode cX8_darkest 34 = .ok (.iload 4, 2) := by decide +kernel
theorem dX8_darkest_36 : decode cX8_darkest 36 = .ok (.aload_n 0, 1) := by decide +kernel
theorem dX8_darkest_37 : decode cX8_darkest 37 = .ok (.getfield 37, 3) := by decide +kernel
theorem dX8_darkest_40 : decode cX8_darkest 40 = .ok (.if_icmp .ge 38, 3) := by decide +kernel
theorem dX8_darkest_43 : decode cX8_darkest 43 = .ok (.aload_n 0, 1) := by decide +kernel
theorem dX8_darkest_44 : decode cX8_darkest 44 = .ok (.iload 4, 2) := by decide +kernel
theorem dX8_darkest_46 : decode cX8_darkest 46 = .ok (.iconst 1, 1) := by decide +kernel
theorem dX8_darkest_47 : decode cX8_darkest 47 = .ok (.invokevirtual 291, 3) := by decide +kernel
theorem dX8_darkest_50 : decode cX8_darkest 50 = .ok (.invokestatic 285, 3) := by decide +kernel
theorem dX8_darkest_53 : decode cX8_darkest 53 = .ok (.aload_n 0, 1) := by decide +kernel
theorem dX8_darkest_54 : decode cX8_darkest 54 = .ok (.iload_n 3, 1) := by decide +kernel
theorem dX8_darkest_55 : decode cX8_darkest 55 = .ok (.iconst 1, 1) := by decide +kernel
theorem dX8_darkest_56 : decode cX8_darkest 56 = .ok (.invokevirtual 291, 3) := by decide +kernel
theorem dX8_darkest_59 : decode cX8_darkest 59 = .ok (.invokestatic 285, 3) := by decide +kernel
theorem dX8_darkest_62 : decode cX8_darkest 62 = .ok (.if_icmp .le 8, 3) := by decide +kernel
theorem dX8_darkest_65 : decode cX8_darkest 65 = .ok (.iload 4, 2) := by decide +kernel
theorem dX8_darkest_67 : decode cX8_darkest 67 = .ok (.goto 4, 3) := by decide +kernel
theorem dX8_darkest_70 : decode cX8_darkest 70 = .ok (.iload_n 3, 1) := by decide +kernel
theorem dX8_darkest_71 : decode cX8_darkest 71 = .ok (.istore_n 3, 1) := by decide +kernel
theorem dX8_darkest_72 : decode cX8_darkest 72 = .ok (.iinc 4 1, 3) := by decide +kernel
theorem dX8_darkest_75 : decode cX8_darkest 75 = .ok (.goto (-41), 3) := by decide +kernel
theorem dX8_darkest_78 : decode cX8_darkest 78 = .ok (.iload_n 2, 1) := by decide +kernel
theorem dX8_darkest_79 : decode cX8_darkest 79 = .ok (.ifCond .ne 7, 3) := by decide +kernel
theorem dX8_darkest_82 : decode cX8_darkest 82 = .ok (.iload_n 3, 1) := by decide +kernel
theorem dX8_darkest_83 : decode cX8_darkest 83 = .ok (.goto 12, 3) := by decide +kernel
theorem dX8_darkest_86 : decode cX8_darkest 86 = .ok (.aload_n 0, 1) := by decide +kernel
theorem dX8_darkest_87 : decode cX8_darkest 87 = .ok (.iload_n 3, 1) := by decide +kernel
theorem dX8_darkest_88 : decode cX8_darkest 88 = .ok (.iconst 1, 1) := by decide +kernel
theorem dX8_darkest_89 : decode cX8_darkest 89 = .ok (.invokevirtual 291, 3) := by decide +kernel
theorem dX8_darkest_92 : decode cX8_darkest 92 = .ok (.invokestatic 285, 3) := by decide +kernel
theorem dX8_darkest_95 : decode cX8_darkest 95 = .ok (.ireturn, 1) := by decide +kernel
set_option maxRecDepth 20000 in
theorem ggX8_covered_X8_isTime : GoodIn wsX8_covered wsX8_isTime := goodIn_r _ [6, 7, 8, 9, 5, 10] (by decide +kernel) (by decide +kernel)
set_option maxRecDepth 20000 in
theorem gX8_covered_X8_isTime : GoodIn wsX8_covered (va_wsS RX8 279 yX8_isTime wsX8_isTime) := goodIn_app (goodIn_of _ (by decide +kernel)) ggX8_covered_X8_isTime
set_option maxRecDepth 20000 in
theorem ggX8_covered_X8_refuse : GoodIn wsX8_covered wsX8_refuse := goodIn_r _ [14, 15, 65, 66, 67, 68, 69, 70, 71, 72, 73, 74, 75, 76, 77, 78, 79, 80, 81, 82, 83, 84, 85, 86, 87, 88, 89, 90, 91, 92, 93, 94, 95, 96, 97, 98, 99, 100, 101] (by decide +kernel) (by decide +kernel)
set_option maxRecDepth 20000 in
theorem gX8_covered_X8_refuse : GoodIn wsX8_covered (wsV RX8 104 RX8 yX8_refuse wsX8_refuse) := goodIn_app (goodIn_of _ (by decide +kernel)) ggX8_covered_X8_refuse
set_option maxRecDepth 20000 in
theorem ggX8_covered_X8_goesOn : GoodIn wsX8_covered wsX8_goesOn := goodIn_r _ [19, 20, 21, 22, 5, 23, 1, 2, 24, 25, 26, 27, 28, 29, 30, 31, 32, 33, 34, 35, 36, 37, 38, 39, 40, 41, 42, 43, 44, 45, 46, 47, 48, 49, 50, 51, 52, 53, 54, 8, 9, 10, 55, 56, 57, 58, 59, 60, 61, 62, 63, 64, 65, 66, 67, 68, 69, 70, 71, 72, 73, 74, 75, 76, 77, 78, 79, 80, 81, 82, 83, 84, 85, 86, 87, 88, 89, 90, 91, 92, 93, 94, 95, 96, 97, 98, 99, 100, 101] (by decide +kernel) (by decide +kernel)
set_option maxRecDepth 20000 in
theorem gX8_covered_X8_goesOn : GoodIn wsX8_covered (wsV RX8 282 RX8 yX8_goesOn wsX8_goesOn) := goodIn_app (goodIn_of _ (by decide +kernel)) ggX8_covered_X8_goesOn
set_option maxRecDepth 20000 in
theorem ggX8_covered_X8_darkens : GoodIn wsX8_covered wsX8_darkens := goodIn_r _ [53, 54, 36, 65, 66, 67, 68, 69, 70, 71, 72, 73, 74, 75, 76, 77, 78, 79, 80, 81, 82, 83, 84, 85, 86, 87, 88, 89, 90, 91, 92, 93, 94, 95, 96, 97, 98, 99, 100, 101] (by decide +kernel) (by decide +kernel)
set_option maxRecDepth 20000 in
theorem gX8_covered_X8_darkens : GoodIn wsX8_covered (wsV RX8 244 RX8 yX8_darkens wsX8_darkens) := goodIn_app (goodIn_of _ (by decide +kernel)) ggX8_covered_X8_darkens
set_option maxRecDepth 20000 in
theorem ggX8_covered_X8_isDarkBut : GoodIn wsX8_covered wsX8_isDarkBut := goodIn_r _ [49, 1, 2, 50, 51, 52, 5, 53, 54, 36, 65, 66, 67, 68, 69, 70, 71, 72, 73, 74, 75, 76, 77, 78, 79, 80, 81, 82, 83, 84, 85, 86, 87, 88, 89, 90, 91, 92, 93, 94, 95, 96, 97, 98, 99, 100, 101] (by decide +kernel) (by decide +kernel)
set_option maxRecDepth 20000 in
theorem gX8_covered_X8_isDarkBut : GoodIn wsX8_covered (wsV RX8 260 RX8 yX8_isDarkBut wsX8_isDarkBut) := goodIn_app (goodIn_of _ (by decide +kernel)) ggX8_covered_X8_isDarkBut
theorem dX8_covered_0 : decode cX8_covered 0 = .ok (.iload_n 1, 1) := by decide +kernel
theorem dX8_covered_1 : decode cX8_covered 1 = .ok (.invokestatic 279, 3) := by decide +kernel
theorem dX8_covered_4 : decode cX8_covered 4 = .ok (.ifCond .ne 10, 3) := by decide +kernel
theorem dX8_covered_7 : decode cX8_covered 7 = .ok (.aload_n 0, 1) := by decide +kernel
theorem dX8_covered_8 : decode cX8_covered 8 = .ok (.bipush (-2), 2) := by decide +kernel
theorem dX8_covered_10 : decode cX8_covered 10 = .ok (.invokevirtual 104, 3) := by decide +kernel
theorem dX8_covered_13 : decode cX8_covered 13 = .ok (.ireturn, 1) := by decide +kernel
theorem dX8_covered_14 : decode cX8_covered 14 = .ok (.aload_n 0, 1) := by decide +kernel
theorem dX8_covered_15 : decode cX8_covered 15 = .ok (.iload_n 1, 1) := by decide +kernel
theorem dX8_covered_16 : decode cX8_covered 16 = .ok (.invokevirtual 282, 3) := by decide +kernel
theorem dX8_covered_19 : decode cX8_covered 19 = .ok (.iconst 0, 1) := by decide +kernel
theorem dX8_covered_20 : decode cX8_covered 20 = .ok (.istore_n 2, 1) := by decide +kernel
theorem dX8_covered_21 : decode cX8_covered 21 = .ok (.iconst 0, 1) := by decide +kernel
theorem dX8_covered_22 : decode cX8_covered 22 = .ok (.istore_n 3, 1) := by decide +kernel
theorem dX8_covered_23 : decode cX8_covered 23 = .ok (.iload_n 3, 1) := by decide +kernel
theorem dX8_covered_24 : decode cX8_covered 24 = .ok (.aload_n 0, 1) := by decide +kernel
theorem dX8_covered_25 : decode cX8_covered 25 = .ok (.getfield 95, 3) := by decide +kernel
theorem dX8_covered_28 : decode cX8_covered 28 = .ok (.if_icmp .ge 41, 3) := by decide +kernel
theorem dX8_covered_31 : decode cX8_covered 31 = .ok (.iload_n 2, 1) := by decide +kernel
theorem dX8_covered_32 : decode cX8_covered 32 = .ok (.aload_n 0, 1) := by decide +kernel
theorem dX8_covered_33 : decode cX8_covered 33 = .ok (.iload_n 3, 1) := by decide +kernel
theorem dX8_covered_34 : decode cX8_covered 34 = .ok (.invokevirtual 244, 3) := by decide +kernel
theorem dX8_covered_37 : decode cX8_covered 37 = .ok (.ifCond .eq 23, 3) := by decide +kernel
theorem dX8_covered_40 : decode cX8_covered 40 = .ok (.aload_n 0, 1) := by decide +kernel
theorem dX8_covered_41 : decode cX8_covered 41 = .ok (.aload_n 0, 1) := by decide +kernel
theorem dX8_covered_42 : decode cX8_covered 42 = .ok (.getfield 71, 3) := by decide +kernel
theorem dX8_covered_45 : decode cX8_covered 45 = .ok (.iload_n 3, 1) := by decide +kernel
theorem dX8_covered_46 : decode cX8_covered 46 = .ok (.iaload, 1) := by decide +kernel
theorem dX8_covered_47 : decode cX8_covered 47 = .ok (.iload_n 3, 1) := by decide +kernel
theorem dX8_covered_48 : decode cX8_covered 48 = .ok (.invokevirtual 260, 3) := by decide +kernel
theorem dX8_covered_51 : decode cX8_covered 51 = .ok (.ifCond .eq 9, 3) := by decide +kernel
theorem dX8_covered_54 : decode cX8_covered 54 = .ok (.iconst 1, 1) := by decide +kernel
theorem dX8_covered_55 : decode cX8_covered 55 = .ok (.iload_n 3, 1) := by decide +kernel
theorem dX8_covered_56 : decode cX8_covered 56 = .ok (.ishl, 1) := by decide +kernel
theorem dX8_covered_57 : decode cX8_covered 57 = .ok (.goto 4, 3) := by decide +kernel
theorem dX8_covered_60 : decode cX8_covered 60 = .ok (.iconst 0, 1) := by decide +kernel
theorem dX8_covered_61 : decode cX8_covered 61 = .ok (.ior, 1) := by decide +kernel
theorem dX8_covered_62 : decode cX8_covered 62 = .ok (.istore_n 2, 1) := by decide +kernel
theorem dX8_covered_63 : decode cX8_covered 63 = .ok (.iinc 3 1, 3) := by decide +kernel
theorem dX8_covered_66 : decode cX8_covered 66 = .ok (.goto (-43), 3) := by decide +kernel
theorem dX8_covered_69 : decode cX8_covered 69 = .ok (.iload_n 2, 1) := by decide +kernel
theorem dX8_covered_70 : decode cX8_covered 70 = .ok (.ireturn, 1) := by decide +kernel
set_option maxRecDepth 20000 in
theorem ggX8_untold_X8_in : GoodIn wsX8_untold wsX8_in := goodIn_r _ [5] (by decide +kernel) (by decide +kernel)
set_option maxRecDepth 20000 in
theorem gX8_untold_X8_in : GoodIn wsX8_untold (va_wsS RX8 91 yX8_in wsX8_in) := goodIn_app (goodIn_of _ (by decide +kernel)) ggX8_untold_X8_in
set_option maxRecDepth 20000 in
theorem ggX8_untold_X8_isTime : GoodIn wsX8_untold wsX8_isTime := goodIn_r _ [8, 9, 2, 3, 4, 5] (by decide +kernel) (by decide +kernel)
set_option maxRecDepth 20000 in
theorem gX8_untold_X8_isTime : GoodIn wsX8_untold (va_wsS RX8 279 yX8_isTime wsX8_isTime) := goodIn_app (goodIn_of _ (by decide +kernel)) ggX8_untold_X8_isTime
set_option maxRecDepth 20000 in
theorem ggX8_untold_X8_refuse : GoodIn wsX8_untold wsX8_refuse := goodIn_r _ [13, 14, 77, 78, 79, 80, 81, 82, 83, 84, 85, 86, 87, 88, 89, 90, 91, 92, 93, 94, 95, 96, 97, 98, 99, 100, 101, 102, 103, 104, 105, 106, 107, 108, 109, 110, 111, 112, 113] (by decide +kernel) (by decide +kernel)
set_option maxRecDepth 20000 in
theorem gX8_untold_X8_refuse : GoodIn wsX8_untold (wsV RX8 104 RX8 yX8_refuse wsX8_refuse) := goodIn_app (goodIn_of _ (by decide +kernel)) ggX8_untold_X8_refuse
set_option maxRecDepth 20000 in
theorem ggX8_untold_X8_goesOn : GoodIn wsX8_untold wsX8_goesOn := goodIn_r _ [18, 19, 20, 21, 4, 22, 1, 23, 24, 25, 26, 27, 28, 29, 30, 31, 32, 33, 34, 35, 36, 37, 38, 39, 40, 41, 42, 43, 44, 45, 46, 47, 48, 49, 50, 51, 52, 53, 54, 2, 3, 5, 55, 56, 57, 58, 59, 60, 61, 62, 63, 64, 77, 78, 79, 80, 81, 82, 83, 84, 85, 86, 87, 88, 89, 90, 91, 92, 93, 94, 95, 96, 97, 98, 99, 100, 101, 102, 103, 104, 105, 106, 107, 108, 109, 110, 111, 112, 113] (by decide +kernel) (by decide +kernel)
set_option maxRecDepth 20000 in
theorem gX8_untold_X8_goesOn : GoodIn wsX8_untold (wsV RX8 282 RX8 yX8_goesOn wsX8_goesOn) := goodIn_app (goodIn_of _ (by decide +kernel)) ggX8_untold_X8_goesOn
set_option maxRecDepth 20000 in
theorem ggX8_untold_X8_untoldBy : GoodIn wsX8_untold wsX8_untoldBy := goodIn_r _ [68, 1, 23, 69, 70, 71, 4, 72, 59, 73, 74, 75, 76, 50, 51, 52, 53, 54, 36, 77, 78, 79, 80, 81, 82, 83, 84, 85, 86, 87, 88, 89, 90, 91, 92, 93, 94, 95, 96, 97, 98, 99, 100, 101, 102, 103, 104, 105, 106, 107, 108, 109, 110, 111, 112, 113] (by decide +kernel) (by decide +kernel)
set_option maxRecDepth 20000 in
theorem gX8_untold_X8_untoldBy : GoodIn wsX8_untold (wsV RX8 295 RX8 yX8_untoldBy wsX8_untoldBy) := goodIn_app (goodIn_of _ (by decide +kernel)) ggX8_untold_X8_untoldBy
theorem dX8_untold_0 : decode cX8_untold 0 = .ok (.iload_n 1, 1) := by decide +kernel
theorem dX8_untold_1 : decode cX8_untold 1 = .ok (.i2l, 1) := by decide +kernel
theorem dX8_untold_2 : decode cX8_untold 2 = .ok (.lconst 0, 1) := by decide +kernel
theorem dX8_untold_3 : decode cX8_untold 3 = .ok (.iconst 1, 1) := by decide +kernel
theorem dX8_untold_4 : decode cX8_untold 4 = .ok (.aload_n 0, 1) := by decide +kernel
theorem dX8_untold_5 : decode cX8_untold 5 = .ok (.getfield 95, 3) := by decide +kernel
theorem dX8_untold_8 : decode cX8_untold 8 = .ok (.ishl, 1) := by decide +kernel
theorem dX8_untold_9 : decode cX8_untold 9 = .ok (.iconst 1, 1) := by decide +kernel
theorem dX8_untold_10 : decode cX8_untold 10 = .ok (.isub, 1) := by decide +kernel
theorem dX8_untold_11 : decode cX8_untold 11 = .ok (.i2l, 1) := by decide +kernel
theorem dX8_untold_12 : decode cX8_untold 12 = .ok (.invokestatic 91, 3) := by decide +kernel
theorem dX8_untold_15 : decode cX8_untold 15 = .ok (.ifCond .eq 10, 3) := by decide +kernel
theorem dX8_untold_18 : decode cX8_untold 18 = .ok (.iload_n 2, 1) := by decide +kernel
theorem dX8_untold_19 : decode cX8_untold 19 = .ok (.invokestatic 279, 3) := by decide +kernel
theorem dX8_untold_22 : decode cX8_untold 22 = .ok (.ifCond .ne 10, 3) := by decide +kernel
theorem dX8_untold_25 : decode cX8_untold 25 = .ok (.aload_n 0, 1) := by decide +kernel
theorem dX8_untold_26 : decode cX8_untold 26 = .ok (.bipush (-2), 2) := by decide +kernel
theorem dX8_untold_28 : decode cX8_untold 28 = .ok (.invokevirtual 104, 3) := by decide +kernel
theorem dX8_untold_31 : decode cX8_untold 31 = .ok (.ireturn, 1) := by decide +kernel
theorem dX8_untold_32 : decode cX8_untold 32 = .ok (.aload_n 0, 1) := by decide +kernel
theorem dX8_untold_33 : decode cX8_untold 33 = .ok (.iload_n 2, 1) := by decide +kernel
theorem dX8_untold_34 : decode cX8_untold 34 = .ok (.invokevirtual 282, 3) := by decide +kernel
theorem dX8_untold_37 : decode cX8_untold 37 = .ok (.aload_n 0, 1) := by decide +kernel
theorem dX8_untold_38 : decode cX8_untold 38 = .ok (.iload_n 1, 1) := by decide +kernel
theorem dX8_untold_39 : decode cX8_untold 39 = .ok (.invokevirtual 295, 3) := by decide +kernel
theorem dX8_untold_42 : decode cX8_untold 42 = .ok (.ireturn, 1) := by decide +kernel
set_option maxRecDepth 20000 in
theorem ggX8_untoldBy_X8_dark : GoodIn wsX8_untoldBy wsX8_dark := goodIn_r _ [7, 8, 9, 10, 11, 6, 12, 1, 2, 13, 14, 15, 16, 17, 18, 19, 20, 21, 22, 23, 24, 25, 26, 27, 28, 29, 30, 31, 32, 33, 34, 35, 36, 37, 38, 39, 40, 41, 42, 43, 44, 45, 46, 47, 48, 49, 50, 51, 52, 53, 54, 55] (by decide +kernel) (by decide +kernel)
set_option maxRecDepth 20000 in
theorem gX8_untoldBy_X8_dark : GoodIn wsX8_untoldBy (wsV RX8 288 RX8 yX8_dark wsX8_dark) := goodIn_app (goodIn_of _ (by decide +kernel)) ggX8_untoldBy_X8_dark
theorem dX8_untoldBy_0 : decode cX8_untoldBy 0 = .ok (.aload_n 0, 1) := by decide +kernel
theorem dX8_untoldBy_1 : decode cX8_untoldBy 1 = .ok (.invokevirtual 288, 3) := by decide +kernel
theorem dX8_untoldBy_4 : decode cX8_untoldBy 4 = .ok (.istore_n 2, 1) := by decide +kernel
theorem dX8_untoldBy_5 : decode cX8_untoldBy 5 = .ok (.iconst 0, 1) := by decide +kernel
theorem dX8_untoldBy_6 : decode cX8_untoldBy 6 = .ok (.istore_n 3, 1) := by decide +kernel
theorem dX8_untoldBy_7 : decode cX8_untoldBy 7 = .ok (.iload_n 3, 1) := by decide +kernel
theorem dX8_untoldBy_8 : decode cX8_untoldBy 8 = .ok (.aload_n 0, 1) := by decide +kernel
theorem dX8_untoldBy_9 : decode cX8_untoldBy 9 = .ok (.getfield 95, 3) := by decide +kernel
theorem dX8_untoldBy_12 : decode cX8_untoldBy 12 = .ok (.if_icmp .ge 35, 3) := by decide +kernel
theorem dX8_untoldBy_15 : decode cX8_untoldBy 15 = .ok (.iload_n 2, 1) := by decide +kernel
theorem dX8_untoldBy_16 : decode cX8_untoldBy 16 = .ok (.iload_n 1, 1) := by decide +kernel
theorem dX8_untoldBy_17 : decode cX8_untoldBy 17 = .ok (.iload_n 3, 1) := by decide +kernel
theorem dX8_untoldBy_18 : decode cX8_untoldBy 18 = .ok (.ishr, 1) := by decide +kernel
theorem dX8_untoldBy_19 : decode cX8_untoldBy 19 = .ok (.iconst 1, 1) := by decide +kernel
theorem dX8_untoldBy_20 : decode cX8_untoldBy 20 = .ok (.iand, 1) := by decide +kernel
theorem dX8_untoldBy_21 : decode cX8_untoldBy 21 = .ok (.iconst 1, 1) := by decide +kernel
theorem dX8_untoldBy_22 : decode cX8_untoldBy 22 = .ok (.if_icmp .ne 16, 3) := by decide +kernel
theorem dX8_untoldBy_25 : decode cX8_untoldBy 25 = .ok (.iconst 1, 1) := by decide +kernel
theorem dX8_untoldBy_26 : decode cX8_untoldBy 26 = .ok (.aload_n 0, 1) := by decide +kernel
theorem dX8_untoldBy_27 : decode cX8_untoldBy 27 = .ok (.getfield 71, 3) := by decide +kernel
theorem dX8_untoldBy_30 : decode cX8_untoldBy 30 = .ok (.iload_n 3, 1) := by decide +kernel
theorem dX8_untoldBy_31 : decode cX8_untoldBy 31 = .ok (.iaload, 1) := by decide +kernel
theorem dX8_untoldBy_32 : decode cX8_untoldBy 32 = .ok (.ishl, 1) := by decide +kernel
theorem dX8_untoldBy_33 : decode cX8_untoldBy 33 = .ok (.iconst (-1), 1) := by decide +kernel
theorem dX8_untoldBy_34 : decode cX8_untoldBy 34 = .ok (.ixor, 1) := by decide +kernel
theorem dX8_untoldBy_35 : decode cX8_untoldBy 35 = .ok (.goto 4, 3) := by decide +kernel
theorem dX8_untoldBy_38 : decode cX8_untoldBy 38 = .ok (.iconst (-1), 1) := by decide +kernel
theorem dX8_untoldBy_39 : decode cX8_untoldBy 39 = .ok (.iand, 1) := by decide +kernel
theorem dX8_untoldBy_40 : decode cX8_untoldBy 40 = .ok (.istore_n 2, 1) := by decide +kernel
theorem dX8_untoldBy_41 : decode cX8_untoldBy 41 = .ok (.iinc 3 1, 3) := by decide +kernel
theorem dX8_untoldBy_44 : decode cX8_untoldBy 44 = .ok (.goto (-37), 3) := by decide +kernel
theorem dX8_untoldBy_47 : decode cX8_untoldBy 47 = .ok (.iload_n 2, 1) := by decide +kernel
theorem dX8_untoldBy_48 : decode cX8_untoldBy 48 = .ok (.ireturn, 1) := by decide +kernel
set_option maxRecDepth 20000 in
theorem ggX8_find_X8_isPerson : GoodIn wsX8_find wsX8_isPerson := goodIn_r _ [7, 2, 8, 9, 6, 10, 84, 85, 86, 87, 88, 89, 90, 91, 92, 93, 94, 95, 96, 97, 98, 99, 100, 101, 102, 103, 104, 105, 106, 107, 108, 109, 110, 111, 112, 113, 114, 115, 116, 117, 118, 119, 120] (by decide +kernel) (by decide +kernel)
set_option maxRecDepth 20000 in
theorem gX8_find_X8_isPerson : GoodIn wsX8_find (wsV RX8 115 RX8 yX8_isPerson wsX8_isPerson) := goodIn_app (goodIn_of _ (by decide +kernel)) ggX8_find_X8_isPerson
set_option maxRecDepth 20000 in
theorem ggX8_find_X8_isTime : GoodIn wsX8_find wsX8_isTime := goodIn_r _ [13, 14, 8, 9, 6, 10] (by decide +kernel) (by decide +kernel)
set_option maxRecDepth 20000 in
theorem gX8_find_X8_isTime : GoodIn wsX8_find (va_wsS RX8 279 yX8_isTime wsX8_isTime) := goodIn_app (goodIn_of _ (by decide +kernel)) ggX8_find_X8_isTime
set_option maxRecDepth 20000 in
theorem ggX8_find_X8_in : GoodIn wsX8_find wsX8_in := goodIn_r _ [10] (by decide +kernel) (by decide +kernel)
set_option maxRecDepth 20000 in
theorem gX8_find_X8_in : GoodIn wsX8_find (va_wsS RX8 91 yX8_in wsX8_in) := goodIn_app (goodIn_of _ (by decide +kernel)) ggX8_find_X8_in
set_option maxRecDepth 20000 in
theorem ggX8_find_X8_refuse : GoodIn wsX8_find wsX8_refuse := goodIn_r _ [18, 19, 84, 85, 86, 87, 88, 89, 90, 91, 92, 93, 94, 95, 96, 97, 98, 99, 100, 101, 102, 103, 104, 105, 106, 107, 108, 109, 110, 111, 112, 113, 114, 115, 116, 117, 118, 119, 120] (by decide +kernel) (by decide +kernel)
set_option maxRecDepth 20000 in
theorem gX8_find_X8_refuse : GoodIn wsX8_find (wsV RX8 104 RX8 yX8_refuse wsX8_refuse) := goodIn_app (goodIn_of _ (by decide +kernel)) ggX8_find_X8_refuse
set_option maxRecDepth 20000 in
theorem ggX8_find_X8_goesOn : GoodIn wsX8_find wsX8_goesOn := goodIn_r _ [23, 24, 25, 26, 6, 27, 2, 1, 28, 29, 30, 31, 32, 33, 34, 35, 36, 37, 38, 39, 40, 41, 42, 43, 44, 45, 46, 47, 48, 49, 50, 51, 52, 53, 54, 55, 56, 57, 58, 8, 9, 10, 59, 60, 61, 62, 63, 64, 65, 66, 67, 68, 84, 85, 86, 87, 88, 89, 90, 91, 92, 93, 94, 95, 96, 97, 98, 99, 100, 101, 102, 103, 104, 105, 106, 107, 108, 109, 110, 111, 112, 113, 114, 115, 116, 117, 118, 119, 120] (by decide +kernel) (by decide +kernel)
set_option maxRecDepth 20000 in
theorem gX8_find_X8_goesOn : GoodIn wsX8_find (wsV RX8 282 RX8 yX8_goesOn wsX8_goesOn) := goodIn_app (goodIn_of _ (by decide +kernel)) ggX8_find_X8_goesOn
set_option maxRecDepth 20000 in
theorem ggX8_find_X8_darkens : GoodIn wsX8_find wsX8_darkens := goodIn_r _ [57, 58, 40, 84, 85, 86, 87, 88, 89, 90, 91, 92, 93, 94, 95, 96, 97, 98, 99, 100, 101, 102, 103, 104, 105, 106, 107, 108, 109, 110, 111, 112, 113, 114, 115, 116, 117, 118, 119, 120] (by decide +kernel) (by decide +kernel)
set_option maxRecDepth 20000 in
theorem gX8_find_X8_darkens : GoodIn wsX8_find (wsV RX8 244 RX8 yX8_darkens wsX8_darkens) := goodIn_app (goodIn_of _ (by decide +kernel)) ggX8_find_X8_darkens
set_option maxRecDepth 20000 in
theorem ggX8_find_X8_isDarkBut : GoodIn wsX8_find wsX8_isDarkBut := goodIn_r _ [53, 2, 1, 54, 55, 56, 6, 57, 58, 40, 84, 85, 86, 87, 88, 89, 90, 91, 92, 93, 94, 95, 96, 97, 98, 99, 100, 101, 102, 103, 104, 105, 106, 107, 108, 109, 110, 111, 112, 113, 114, 115, 116, 117, 118, 119, 120] (by decide +kernel) (by decide +kernel)
set_option maxRecDepth 20000 in
theorem gX8_find_X8_isDarkBut : GoodIn wsX8_find (wsV RX8 260 RX8 yX8_isDarkBut wsX8_isDarkBut) := goodIn_app (goodIn_of _ (by decide +kernel)) ggX8_find_X8_isDarkBut
set_option maxRecDepth 20000 in
theorem ggX8_find_X8_bits : GoodIn wsX8_find wsX8_bits := goodIn_r _ [71] (by decide +kernel) (by decide +kernel)
set_option maxRecDepth 20000 in
theorem gX8_find_X8_bits : GoodIn wsX8_find (va_wsS RX8 285 yX8_bits wsX8_bits) := goodIn_app (goodIn_of _ (by decide +kernel)) ggX8_find_X8_bits
set_option maxRecDepth 20000 in
theorem ggX8_find_X8_untoldBy : GoodIn wsX8_find wsX8_untoldBy := goodIn_r _ [75, 2, 1, 76, 77, 78, 6, 79, 63, 80, 81, 82, 83, 54, 55, 56, 57, 58, 40, 84, 85, 86, 87, 88, 89, 90, 91, 92, 93, 94, 95, 96, 97, 98, 99, 100, 101, 102, 103, 104, 105, 106, 107, 108, 109, 110, 111, 112, 113, 114, 115, 116, 117, 118, 119, 120] (by decide +kernel) (by decide +kernel)
set_option maxRecDepth 20000 in
theorem gX8_find_X8_untoldBy : GoodIn wsX8_find (wsV RX8 295 RX8 yX8_untoldBy wsX8_untoldBy) := goodIn_app (goodIn_of _ (by decide +kernel)) ggX8_find_X8_untoldBy
theorem dX8_find_0 : decode cX8_find 0 = .ok (.aload_n 0, 1) := by decide +kernel
theorem dX8_find_1 : decode cX8_find 1 = .ok (.iload_n 1, 1) := by decide +kernel
theorem dX8_find_2 : decode cX8_find 2 = .ok (.invokevirtual 115, 3) := by decide +kernel
theorem dX8_find_5 : decode cX8_find 5 = .ok (.ifCond .eq 20, 3) := by decide +kernel
theorem dX8_find_8 : decode cX8_find 8 = .ok (.iload_n 2, 1) := by decide +kernel
theorem dX8_find_9 : decode cX8_find 9 = .ok (.invokestatic 279, 3) := by decide +kernel
theorem dX8_find_12 : decode cX8_find 12 = .ok (.ifCond .eq 13, 3) := by decide +kernel
theorem dX8_find_15 : decode cX8_find 15 = .ok (.iload_n 3, 1) := by decide +kernel
theorem dX8_find_16 : decode cX8_find 16 = .ok (.i2l, 1) := by decide +kernel
theorem dX8_find_17 : decode cX8_find 17 = .ok (.lconst 0, 1) := by decide +kernel
theorem dX8_find_18 : decode cX8_find 18 = .ok (.lconst 1, 1) := by decide +kernel
theorem dX8_find_19 : decode cX8_find 19 = .ok (.invokestatic 91, 3) := by decide +kernel
theorem dX8_find_22 : decode cX8_find 22 = .ok (.ifCond .ne 10, 3) := by decide +kernel
theorem dX8_find_25 : decode cX8_find 25 = .ok (.aload_n 0, 1) := by decide +kernel
theorem dX8_find_26 : decode cX8_find 26 = .ok (.bipush (-2), 2) := by decide +kernel
theorem dX8_find_28 : decode cX8_find 28 = .ok (.invokevirtual 104, 3) := by decide +kernel
theorem dX8_find_31 : decode cX8_find 31 = .ok (.ireturn, 1) := by decide +kernel
theorem dX8_find_32 : decode cX8_find 32 = .ok (.aload_n 0, 1) := by decide +kernel
theorem dX8_find_33 : decode cX8_find 33 = .ok (.iload_n 2, 1) := by decide +kernel
theorem dX8_find_34 : decode cX8_find 34 = .ok (.invokevirtual 282, 3) := by decide +kernel
theorem dX8_find_37 : decode cX8_find 37 = .ok (.aload_n 0, 1) := by decide +kernel
theorem dX8_find_38 : decode cX8_find 38 = .ok (.iload_n 1, 1) := by decide +kernel
theorem dX8_find_39 : decode cX8_find 39 = .ok (.invokevirtual 244, 3) := by decide +kernel
theorem dX8_find_42 : decode cX8_find 42 = .ok (.ifCond .eq 17, 3) := by decide +kernel
theorem dX8_find_45 : decode cX8_find 45 = .ok (.aload_n 0, 1) := by decide +kernel
theorem dX8_find_46 : decode cX8_find 46 = .ok (.aload_n 0, 1) := by decide +kernel
theorem dX8_find_47 : decode cX8_find 47 = .ok (.getfield 71, 3) := by decide +kernel
theorem dX8_find_50 : decode cX8_find 50 = .ok (.iload_n 1, 1) := by decide +kernel
theorem dX8_find_51 : decode cX8_find 51 = .ok (.iaload, 1) := by decide +kernel
theorem dX8_find_52 : decode cX8_find 52 = .ok (.iload_n 1, 1) := by decide +kernel
theorem dX8_find_53 : decode cX8_find 53 = .ok (.invokevirtual 260, 3) := by decide +kernel
theorem dX8_find_56 : decode cX8_find 56 = .ok (.ifCond .eq 5, 3) := by decide +kernel
theorem dX8_find_59 : decode cX8_find 59 = .ok (.iconst (-1), 1) := by decide +kernel
theorem dX8_find_60 : decode cX8_find 60 = .ok (.ireturn, 1) := by decide +kernel
theorem dX8_find_61 : decode cX8_find 61 = .ok (.iconst (-1), 1) := by decide +kernel
theorem dX8_find_62 : decode cX8_find 62 = .ok (.istore 4, 2) := by decide +kernel
theorem dX8_find_64 : decode cX8_find 64 = .ok (.iconst 0, 1) := by decide +kernel
theorem dX8_find_65 : decode cX8_find 65 = .ok (.istore 5, 2) := by decide +kernel
theorem dX8_find_67 : decode cX8_find 67 = .ok (.iload 5, 2) := by decide +kernel
theorem dX8_find_69 : decode cX8_find 69 = .ok (.iconst 1, 1) := by decide +kernel
theorem dX8_find_70 : decode cX8_find 70 = .ok (.aload_n 0, 1) := by decide +kernel
theorem dX8_find_71 : decode cX8_find 71 = .ok (.getfield 95, 3) := by decide +kernel
theorem dX8_find_74 : decode cX8_find 74 = .ok (.ishl, 1) := by decide +kernel
theorem dX8_find_75 : decode cX8_find 75 = .ok (.if_icmp .ge 75, 3) := by decide +kernel
theorem dX8_find_78 : decode cX8_find 78 = .ok (.iload 5, 2) := by decide +kernel
theorem dX8_find_80 : decode cX8_find 80 = .ok (.iload_n 1, 1) := by decide +kernel
theorem dX8_find_81 : decode cX8_find 81 = .ok (.ishr, 1) := by decide +kernel
theorem dX8_find_82 : decode cX8_find 82 = .ok (.iconst 1, 1) := by decide +kernel
theorem dX8_find_83 : decode cX8_find 83 = .ok (.iand, 1) := by decide +kernel
theorem dX8_find_84 : decode cX8_find 84 = .ok (.ifCond .ne 26, 3) := by decide +kernel
theorem dX8_find_87 : decode cX8_find 87 = .ok (.iload 4, 2) := by decide +kernel
theorem dX8_find_89 : decode cX8_find 89 = .ok (.iconst (-1), 1) := by decide +kernel
theorem dX8_find_90 : decode cX8_find 90 = .ok (.if_icmp .eq 16, 3) := by decide +kernel
theorem dX8_find_93 : decode cX8_find 93 = .ok (.iload 5, 2) := by decide +kernel
theorem dX8_find_95 : decode cX8_find 95 = .ok (.invokestatic 285, 3) := by decide +kernel
theorem dX8_find_98 : decode cX8_find 98 = .ok (.iload 4, 2) := by decide +kernel
theorem dX8_find_100 : decode cX8_find 100 = .ok (.invokestatic 285, 3) := by decide +kernel
theorem dX8_find_103 : decode cX8_find 103 = .ok (.if_icmp .ge 7, 3) := by decide +kernel
theorem dX8_find_106 : decode cX8_find 106 = .ok (.iconst 1, 1) := by decide +kernel
theorem dX8_find_107 : decode cX8_find 107 = .ok (.goto 4, 3) := by decide +kernel
theorem dX8_find_110 : decode cX8_find 110 = .ok (.iconst 0, 1) := by decide +kernel
theorem dX8_find_111 : decode cX8_find 111 = .ok (.istore 6, 2) := by decide +kernel
theorem dX8_find_113 : decode cX8_find 113 = .ok (.iload 6, 2) := by decide +kernel
theorem dX8_find_115 : decode cX8_find 115 = .ok (.ifCond .eq 25, 3) := by decide +kernel
theorem dX8_find_118 : decode cX8_find 118 = .ok (.aload_n 0, 1) := by decide +kernel
theorem dX8_find_119 : decode cX8_find 119 = .ok (.iload 5, 2) := by decide +kernel
theorem dX8_find_121 : decode cX8_find 121 = .ok (.invokevirtual 295, 3) := by decide +kernel
theorem dX8_find_124 : decode cX8_find 124 = .ok (.iconst 1, 1) := by decide +kernel
theorem dX8_find_125 : decode cX8_find 125 = .ok (.aload_n 0, 1) := by decide +kernel
theorem dX8_find_126 : decode cX8_find 126 = .ok (.getfield 71, 3) := by decide +kernel
theorem dX8_find_129 : decode cX8_find 129 = .ok (.iload_n 1, 1) := by decide +kernel
theorem dX8_find_130 : decode cX8_find 130 = .ok (.iaload, 1) := by decide +kernel
theorem dX8_find_131 : decode cX8_find 131 = .ok (.ishl, 1) := by decide +kernel
theorem dX8_find_132 : decode cX8_find 132 = .ok (.if_icmp .ne 8, 3) := by decide +kernel
theorem dX8_find_135 : decode cX8_find 135 = .ok (.iload 5, 2) := by decide +kernel
theorem dX8_find_137 : decode cX8_find 137 = .ok (.goto 5, 3) := by decide +kernel
theorem dX8_find_140 : decode cX8_find 140 = .ok (.iload 4, 2) := by decide +kernel
theorem dX8_find_142 : decode cX8_find 142 = .ok (.istore 4, 2) := by decide +kernel
theorem dX8_find_144 : decode cX8_find 144 = .ok (.iinc 5 1, 3) := by decide +kernel
theorem dX8_find_147 : decode cX8_find 147 = .ok (.goto (-80), 3) := by decide +kernel
theorem dX8_find_150 : decode cX8_find 150 = .ok (.iload_n 3, 1) := by decide +kernel
theorem dX8_find_151 : decode cX8_find 151 = .ok (.iconst 1, 1) := by decide +kernel
theorem dX8_find_152 : decode cX8_find 152 = .ok (.if_icmp .eq 9, 3) := by decide +kernel
theorem dX8_find_155 : decode cX8_find 155 = .ok (.iload 4, 2) := by decide +kernel
theorem dX8_find_157 : decode cX8_find 157 = .ok (.iconst (-1), 1) := by decide +kernel
theorem dX8_find_158 : decode cX8_find 158 = .ok (.if_icmp .ne 8, 3) := by decide +kernel
theorem dX8_find_161 : decode cX8_find 161 = .ok (.iload 4, 2) := by decide +kernel
theorem dX8_find_163 : decode cX8_find 163 = .ok (.goto 8, 3) := by decide +kernel
theorem dX8_find_166 : decode cX8_find 166 = .ok (.iload 4, 2) := by decide +kernel
theorem dX8_find_168 : decode cX8_find 168 = .ok (.invokestatic 285, 3) := by decide +kernel
theorem dX8_find_171 : decode cX8_find 171 = .ok (.ireturn, 1) := by decide +kernel
set_option maxRecDepth 20000 in
theorem ggX8_light__X8_isPlace : GoodIn wsX8_light_ wsX8_isPlace := goodIn_r _ [6, 7, 8, 9, 5, 10, 66, 67, 68, 69, 70, 71, 72, 73, 74, 75, 76, 77, 78, 79, 80, 81, 82, 83, 84, 85, 86, 87, 88, 89, 90, 91, 92, 93, 94, 95, 96, 97, 98, 99, 100, 101, 102] (by decide +kernel) (by decide +kernel)
set_option maxRecDepth 20000 in
theorem gX8_light__X8_isPlace : GoodIn wsX8_light_ (wsV RX8 133 RX8 yX8_isPlace wsX8_isPlace) := goodIn_app (goodIn_of _ (by decide +kernel)) ggX8_light__X8_isPlace
set_option maxRecDepth 20000 in
theorem ggX8_light__X8_in : GoodIn wsX8_light_ wsX8_in := goodIn_r _ [10] (by decide +kernel) (by decide +kernel)
set_option maxRecDepth 20000 in
theorem gX8_light__X8_in : GoodIn wsX8_light_ (va_wsS RX8 91 yX8_in wsX8_in) := goodIn_app (goodIn_of _ (by decide +kernel)) ggX8_light__X8_in
set_option maxRecDepth 20000 in
theorem ggX8_light__X8_refuse : GoodIn wsX8_light_ wsX8_refuse := goodIn_r _ [14, 15, 66, 67, 68, 69, 70, 71, 72, 73, 74, 75, 76, 77, 78, 79, 80, 81, 82, 83, 84, 85, 86, 87, 88, 89, 90, 91, 92, 93, 94, 95, 96, 97, 98, 99, 100, 101, 102] (by decide +kernel) (by decide +kernel)
set_option maxRecDepth 20000 in
theorem gX8_light__X8_refuse : GoodIn wsX8_light_ (wsV RX8 104 RX8 yX8_refuse wsX8_refuse) := goodIn_app (goodIn_of _ (by decide +kernel)) ggX8_light__X8_refuse
set_option maxRecDepth 20000 in
theorem ggX8_light__X8_begin : GoodIn wsX8_light_ wsX8_begin := goodIn_r _ [19, 20, 21, 22, 23, 24, 66, 67, 68, 69, 70, 71, 72, 73, 74, 75, 76, 77, 78, 79, 80, 81, 82, 83, 84, 85, 86, 87, 88, 89, 90, 91, 92, 93, 94, 95, 96, 97, 98, 99, 100, 101, 102] (by decide +kernel) (by decide +kernel)
set_option maxRecDepth 20000 in
theorem gX8_light__X8_begin : GoodIn wsX8_light_ (wsV RX8 125 RX8 yX8_begin wsX8_begin) := goodIn_app (goodIn_of _ (by decide +kernel)) ggX8_light__X8_begin
set_option maxRecDepth 20000 in
theorem ggX8_light__X8_goes : GoodIn wsX8_light_ wsX8_goes := goodIn_r _ [28, 20, 29, 21, 24, 30, 31, 32, 5, 33, 34, 35, 36, 37, 38, 39, 40, 41, 42, 43, 44, 45, 46, 47, 48, 49, 50, 51, 52, 8, 9, 10, 53, 54, 55, 56, 7, 57, 58, 59, 60, 61, 66, 67, 68, 69, 70, 71, 72, 73, 74, 75, 76, 77, 78, 79, 80, 81, 82, 83, 84, 85, 86, 87, 88, 89, 90, 91, 92, 93, 94, 95, 96, 97, 98, 99, 100, 101, 102] (by decide +kernel) (by decide +kernel)
set_option maxRecDepth 20000 in
theorem gX8_light__X8_goes : GoodIn wsX8_light_ (wsV RX8 128 RX8 yX8_goes wsX8_goes) := goodIn_app (goodIn_of _ (by decide +kernel)) ggX8_light__X8_goes
set_option maxRecDepth 20000 in
theorem ggX8_light__X8_light : GoodIn wsX8_light_ wsX8_light := goodIn_r _ [65, 7, 20, 21, 48, 49, 50, 5, 51, 52, 34, 66, 67, 68, 69, 70, 71, 72, 73, 74, 75, 76, 77, 78, 79, 80, 81, 82, 83, 84, 85, 86, 87, 88, 89, 90, 91, 92, 93, 94, 95, 96, 97, 98, 99, 100, 101, 102] (by decide +kernel) (by decide +kernel)
set_option maxRecDepth 20000 in
theorem gX8_light__X8_light : GoodIn wsX8_light_ (wsV RX8 274 RX8 yX8_light wsX8_light) := goodIn_app (goodIn_of _ (by decide +kernel)) ggX8_light__X8_light
theorem dX8_light__0 : decode cX8_light_ 0 = .ok (.aload_n 0, 1) := by decide +kernel
theorem dX8_light__1 : decode cX8_light_ 1 = .ok (.iload_n 1, 1) := by decide +kernel
theorem dX8_light__2 : decode cX8_light_ 2 = .ok (.invokevirtual 133, 3) := by decide +kernel
theorem dX8_light__5 : decode cX8_light_ 5 = .ok (.ifCond .eq 15, 3) := by decide +kernel
theorem dX8_light__8 : decode cX8_light_ 8 = .ok (.iload_n 2, 1) := by decide +kernel
theorem dX8_light__9 : decode cX8_light_ 9 = .ok (.i2l, 1) := by decide +kernel
theorem dX8_light__10 : decode cX8_light_ 10 = .ok (.lconst 1, 1) := by decide +kernel
theorem dX8_light__11 : decode cX8_light_ 11 = .ok (.ldc2_w 277, 3) := by decide +kernel
theorem dX8_light__14 : decode cX8_light_ 14 = .ok (.invokestatic 91, 3) := by decide +kernel
theorem dX8_light__17 : decode cX8_light_ 17 = .ok (.ifCond .ne 10, 3) := by decide +kernel
theorem dX8_light__20 : decode cX8_light_ 20 = .ok (.aload_n 0, 1) := by decide +kernel
theorem dX8_light__21 : decode cX8_light_ 21 = .ok (.bipush (-2), 2) := by decide +kernel
theorem dX8_light__23 : decode cX8_light_ 23 = .ok (.invokevirtual 104, 3) := by decide +kernel
theorem dX8_light__26 : decode cX8_light_ 26 = .ok (.ireturn, 1) := by decide +kernel
theorem dX8_light__27 : decode cX8_light_ 27 = .ok (.aload_n 0, 1) := by decide +kernel
theorem dX8_light__28 : decode cX8_light_ 28 = .ok (.invokevirtual 125, 3) := by decide +kernel
theorem dX8_light__31 : decode cX8_light_ 31 = .ok (.iconst 0, 1) := by decide +kernel
theorem dX8_light__32 : decode cX8_light_ 32 = .ok (.istore_n 3, 1) := by decide +kernel
theorem dX8_light__33 : decode cX8_light_ 33 = .ok (.iconst 0, 1) := by decide +kernel
theorem dX8_light__34 : decode cX8_light_ 34 = .ok (.istore 4, 2) := by decide +kernel
theorem dX8_light__36 : decode cX8_light_ 36 = .ok (.iload 4, 2) := by decide +kernel
theorem dX8_light__38 : decode cX8_light_ 38 = .ok (.iload_n 2, 1) := by decide +kernel
theorem dX8_light__39 : decode cX8_light_ 39 = .ok (.if_icmp .ge 24, 3) := by decide +kernel
theorem dX8_light__42 : decode cX8_light_ 42 = .ok (.aload_n 0, 1) := by decide +kernel
theorem dX8_light__43 : decode cX8_light_ 43 = .ok (.invokevirtual 128, 3) := by decide +kernel
theorem dX8_light__46 : decode cX8_light_ 46 = .ok (.iload_n 3, 1) := by decide +kernel
theorem dX8_light__47 : decode cX8_light_ 47 = .ok (.aload_n 0, 1) := by decide +kernel
theorem dX8_light__48 : decode cX8_light_ 48 = .ok (.invokevirtual 274, 3) := by decide +kernel
theorem dX8_light__51 : decode cX8_light_ 51 = .ok (.iload_n 1, 1) := by decide +kernel
theorem dX8_light__52 : decode cX8_light_ 52 = .ok (.ishr, 1) := by decide +kernel
theorem dX8_light__53 : decode cX8_light_ 53 = .ok (.iconst 1, 1) := by decide +kernel
theorem dX8_light__54 : decode cX8_light_ 54 = .ok (.iand, 1) := by decide +kernel
theorem dX8_light__55 : decode cX8_light_ 55 = .ok (.iadd, 1) := by decide +kernel
theorem dX8_light__56 : decode cX8_light_ 56 = .ok (.istore_n 3, 1) := by decide +kernel
theorem dX8_light__57 : decode cX8_light_ 57 = .ok (.iinc 4 1, 3) := by decide +kernel
theorem dX8_light__60 : decode cX8_light_ 60 = .ok (.goto (-24), 3) := by decide +kernel
theorem dX8_light__63 : decode cX8_light_ 63 = .ok (.iload_n 3, 1) := by decide +kernel
theorem dX8_light__64 : decode cX8_light_ 64 = .ok (.ireturn, 1) := by decide +kernel
set_option maxRecDepth 20000 in
theorem ggX8_always_X8_isTime : GoodIn wsX8_always wsX8_isTime := goodIn_r _ [4, 5, 6, 7, 3, 8] (by decide +kernel) (by decide +kernel)
set_option maxRecDepth 20000 in
theorem gX8_always_X8_isTime : GoodIn wsX8_always (va_wsS RX8 279 yX8_isTime wsX8_isTime) := goodIn_app (goodIn_of _ (by decide +kernel)) ggX8_always_X8_isTime
set_option maxRecDepth 20000 in
theorem ggX8_always_X8_refuse : GoodIn wsX8_always wsX8_refuse := goodIn_r _ [12, 13, 65, 66, 67, 68, 69, 70, 71, 72, 73, 74, 75, 76, 77, 78, 79, 80, 81, 82, 83, 84, 85, 86, 87, 88, 89, 90, 91, 92, 93, 94, 95, 96, 97, 98, 99, 100, 101] (by decide +kernel) (by decide +kernel)
set_option maxRecDepth 20000 in
theorem gX8_always_X8_refuse : GoodIn wsX8_always (wsV RX8 104 RX8 yX8_refuse wsX8_refuse) := goodIn_app (goodIn_of _ (by decide +kernel)) ggX8_always_X8_refuse
set_option maxRecDepth 20000 in
theorem ggX8_always_X8_begin : GoodIn wsX8_always wsX8_begin := goodIn_r _ [17, 18, 19, 20, 21, 22, 65, 66, 67, 68, 69, 70, 71, 72, 73, 74, 75, 76, 77, 78, 79, 80, 81, 82, 83, 84, 85, 86, 87, 88, 89, 90, 91, 92, 93, 94, 95, 96, 97, 98, 99, 100, 101] (by decide +kernel) (by decide +kernel)
set_option maxRecDepth 20000 in
theorem gX8_always_X8_begin : GoodIn wsX8_always (wsV RX8 125 RX8 yX8_begin wsX8_begin) := goodIn_app (goodIn_of _ (by decide +kernel)) ggX8_always_X8_begin
set_option maxRecDepth 20000 in
theorem ggX8_always_X8_light : GoodIn wsX8_always wsX8_light := goodIn_r _ [26, 27, 18, 19, 28, 29, 30, 3, 31, 32, 33, 65, 66, 67, 68, 69, 70, 71, 72, 73, 74, 75, 76, 77, 78, 79, 80, 81, 82, 83, 84, 85, 86, 87, 88, 89, 90, 91, 92, 93, 94, 95, 96, 97, 98, 99, 100, 101] (by decide +kernel) (by decide +kernel)
set_option maxRecDepth 20000 in
theorem gX8_always_X8_light : GoodIn wsX8_always (wsV RX8 274 RX8 yX8_light wsX8_light) := goodIn_app (goodIn_of _ (by decide +kernel)) ggX8_always_X8_light
set_option maxRecDepth 20000 in
theorem ggX8_always_X8_goes : GoodIn wsX8_always wsX8_goes := goodIn_r _ [37, 18, 38, 19, 22, 39, 40, 41, 3, 42, 33, 43, 44, 45, 46, 47, 48, 49, 50, 51, 52, 53, 54, 55, 28, 29, 30, 31, 32, 6, 7, 8, 56, 57, 58, 59, 27, 60, 61, 62, 63, 64, 65, 66, 67, 68, 69, 70, 71, 72, 73, 74, 75, 76, 77, 78, 79, 80, 81, 82, 83, 84, 85, 86, 87, 88, 89, 90, 91, 92, 93, 94, 95, 96, 97, 98, 99, 100, 101] (by decide +kernel) (by decide +kernel)
set_option maxRecDepth 20000 in
theorem gX8_always_X8_goes : GoodIn wsX8_always (wsV RX8 128 RX8 yX8_goes wsX8_goes) := goodIn_app (goodIn_of _ (by decide +kernel)) ggX8_always_X8_goes
theorem dX8_always_0 : decode cX8_always 0 = .ok (.iload_n 1, 1) := by decide +kernel
theorem dX8_always_1 : decode cX8_always 1 = .ok (.invokestatic 279, 3) := by decide +kernel
theorem dX8_always_4 : decode cX8_always 4 = .ok (.ifCond .ne 10, 3) := by decide +kernel
theorem dX8_always_7 : decode cX8_always 7 = .ok (.aload_n 0, 1) := by decide +kernel
theorem dX8_always_8 : decode cX8_always 8 = .ok (.bipush (-2), 2) := by decide +kernel
theorem dX8_always_10 : decode cX8_always 10 = .ok (.invokevirtual 104, 3) := by decide +kernel
theorem dX8_always_13 : decode cX8_always 13 = .ok (.ireturn, 1) := by decide +kernel
theorem dX8_always_14 : decode cX8_always 14 = .ok (.aload_n 0, 1) := by decide +kernel
theorem dX8_always_15 : decode cX8_always 15 = .ok (.invokevirtual 125, 3) := by decide +kernel
theorem dX8_always_18 : decode cX8_always 18 = .ok (.aload_n 0, 1) := by decide +kernel
theorem dX8_always_19 : decode cX8_always 19 = .ok (.invokevirtual 274, 3) := by decide +kernel
theorem dX8_always_22 : decode cX8_always 22 = .ok (.istore_n 2, 1) := by decide +kernel
theorem dX8_always_23 : decode cX8_always 23 = .ok (.iconst 0, 1) := by decide +kernel
theorem dX8_always_24 : decode cX8_always 24 = .ok (.istore_n 3, 1) := by decide +kernel
theorem dX8_always_25 : decode cX8_always 25 = .ok (.iload_n 3, 1) := by decide +kernel
theorem dX8_always_26 : decode cX8_always 26 = .ok (.iload_n 1, 1) := by decide +kernel
theorem dX8_always_27 : decode cX8_always 27 = .ok (.if_icmp .ge 20, 3) := by decide +kernel
theorem dX8_always_30 : decode cX8_always 30 = .ok (.aload_n 0, 1) := by decide +kernel
theorem dX8_always_31 : decode cX8_always 31 = .ok (.invokevirtual 128, 3) := by decide +kernel
theorem dX8_always_34 : decode cX8_always 34 = .ok (.iload_n 2, 1) := by decide +kernel
theorem dX8_always_35 : decode cX8_always 35 = .ok (.aload_n 0, 1) := by decide +kernel
theorem dX8_always_36 : decode cX8_always 36 = .ok (.invokevirtual 274, 3) := by decide +kernel
theorem dX8_always_39 : decode cX8_always 39 = .ok (.iand, 1) := by decide +kernel
theorem dX8_always_40 : decode cX8_always 40 = .ok (.istore_n 2, 1) := by decide +kernel
theorem dX8_always_41 : decode cX8_always 41 = .ok (.iinc 3 1, 3) := by decide +kernel
theorem dX8_always_44 : decode cX8_always 44 = .ok (.goto (-19), 3) := by decide +kernel
theorem dX8_always_47 : decode cX8_always 47 = .ok (.iload_n 2, 1) := by decide +kernel
theorem dX8_always_48 : decode cX8_always 48 = .ok (.ireturn, 1) := by decide +kernel
set_option maxRecDepth 20000 in
theorem ggX8_never_X8_isTime : GoodIn wsX8_never wsX8_isTime := goodIn_r _ [4, 5, 6, 7, 3, 8] (by decide +kernel) (by decide +kernel)
set_option maxRecDepth 20000 in
theorem gX8_never_X8_isTime : GoodIn wsX8_never (va_wsS RX8 279 yX8_isTime wsX8_isTime) := goodIn_app (goodIn_of _ (by decide +kernel)) ggX8_never_X8_isTime
set_option maxRecDepth 20000 in
theorem ggX8_never_X8_refuse : GoodIn wsX8_never wsX8_refuse := goodIn_r _ [12, 13, 69, 70, 71, 72, 73, 74, 75, 76, 77, 78, 79, 80, 81, 82, 83, 84, 85, 86, 87, 88, 89, 90, 91, 92, 93, 94, 95, 96, 97, 98, 99, 100, 101, 102, 103, 104, 105] (by decide +kernel) (by decide +kernel)
set_option maxRecDepth 20000 in
theorem gX8_never_X8_refuse : GoodIn wsX8_never (wsV RX8 104 RX8 yX8_refuse wsX8_refuse) := goodIn_app (goodIn_of _ (by decide +kernel)) ggX8_never_X8_refuse
set_option maxRecDepth 20000 in
theorem ggX8_never_X8_begin : GoodIn wsX8_never wsX8_begin := goodIn_r _ [17, 18, 19, 20, 21, 22, 69, 70, 71, 72, 73, 74, 75, 76, 77, 78, 79, 80, 81, 82, 83, 84, 85, 86, 87, 88, 89, 90, 91, 92, 93, 94, 95, 96, 97, 98, 99, 100, 101, 102, 103, 104, 105] (by decide +kernel) (by decide +kernel)
set_option maxRecDepth 20000 in
theorem gX8_never_X8_begin : GoodIn wsX8_never (wsV RX8 125 RX8 yX8_begin wsX8_begin) := goodIn_app (goodIn_of _ (by decide +kernel)) ggX8_never_X8_begin
set_option maxRecDepth 20000 in
theorem ggX8_never_X8_dark : GoodIn wsX8_never wsX8_dark := goodIn_r _ [26, 27, 28, 29, 30, 3, 31, 18, 19, 32, 33, 34, 35, 36, 37, 69, 70, 71, 72, 73, 74, 75, 76, 77, 78, 79, 80, 81, 82, 83, 84, 85, 86, 87, 88, 89, 90, 91, 92, 93, 94, 95, 96, 97, 98, 99, 100, 101, 102, 103, 104, 105] (by decide +kernel) (by decide +kernel)
set_option maxRecDepth 20000 in
theorem gX8_never_X8_dark : GoodIn wsX8_never (wsV RX8 288 RX8 yX8_dark wsX8_dark) := goodIn_app (goodIn_of _ (by decide +kernel)) ggX8_never_X8_dark
set_option maxRecDepth 20000 in
theorem ggX8_never_X8_goes : GoodIn wsX8_never wsX8_goes := goodIn_r _ [41, 18, 42, 19, 22, 43, 44, 45, 3, 46, 37, 47, 48, 49, 50, 51, 52, 53, 54, 55, 56, 57, 58, 59, 32, 33, 34, 35, 36, 6, 7, 8, 60, 61, 62, 63, 27, 64, 65, 66, 67, 68, 69, 70, 71, 72, 73, 74, 75, 76, 77, 78, 79, 80, 81, 82, 83, 84, 85, 86, 87, 88, 89, 90, 91, 92, 93, 94, 95, 96, 97, 98, 99, 100, 101, 102, 103, 104, 105] (by decide +kernel) (by decide +kernel)
set_option maxRecDepth 20000 in
theorem gX8_never_X8_goes : GoodIn wsX8_never (wsV RX8 128 RX8 yX8_goes wsX8_goes) := goodIn_app (goodIn_of _ (by decide +kernel)) ggX8_never_X8_goes
theorem dX8_never_0 : decode cX8_never 0 = .ok (.iload_n 1, 1) := by decide +kernel
theorem dX8_never_1 : decode cX8_never 1 = .ok (.invokestatic 279, 3) := by decide +kernel
theorem dX8_never_4 : decode cX8_never 4 = .ok (.ifCond .ne 10, 3) := by decide +kernel
theorem dX8_never_7 : decode cX8_never 7 = .ok (.aload_n 0, 1) := by decide +kernel
theorem dX8_never_8 : decode cX8_never 8 = .ok (.bipush (-2), 2) := by decide +kernel
theorem dX8_never_10 : decode cX8_never 10 = .ok (.invokevirtual 104, 3) := by decide +kernel
theorem dX8_never_13 : decode cX8_never 13 = .ok (.ireturn, 1) := by decide +kernel
theorem dX8_never_14 : decode cX8_never 14 = .ok (.aload_n 0, 1) := by decide +kernel
theorem dX8_never_15 : decode cX8_never 15 = .ok (.invokevirtual 125, 3) := by decide +kernel
theorem dX8_never_18 : decode cX8_never 18 = .ok (.aload_n 0, 1) := by decide +kernel
theorem dX8_never_19 : decode cX8_never 19 = .ok (.invokevirtual 288, 3) := by decide +kernel
theorem dX8_never_22 : decode cX8_never 22 = .ok (.istore_n 2, 1) := by decide +kernel
theorem dX8_never_23 : decode cX8_never 23 = .ok (.iconst 0, 1) := by decide +kernel
theorem dX8_never_24 : decode cX8_never 24 = .ok (.istore_n 3, 1) := by decide +kernel
theorem dX8_never_25 : decode cX8_never 25 = .ok (.iload_n 3, 1) := by decide +kernel
theorem dX8_never_26 : decode cX8_never 26 = .ok (.iload_n 1, 1) := by decide +kernel
theorem dX8_never_27 : decode cX8_never 27 = .ok (.if_icmp .ge 20, 3) := by decide +kernel
theorem dX8_never_30 : decode cX8_never 30 = .ok (.aload_n 0, 1) := by decide +kernel
theorem dX8_never_31 : decode cX8_never 31 = .ok (.invokevirtual 128, 3) := by decide +kernel
theorem dX8_never_34 : decode cX8_never 34 = .ok (.iload_n 2, 1) := by decide +kernel
theorem dX8_never_35 : decode cX8_never 35 = .ok (.aload_n 0, 1) := by decide +kernel
theorem dX8_never_36 : decode cX8_never 36 = .ok (.invokevirtual 288, 3) := by decide +kernel
theorem dX8_never_39 : decode cX8_never 39 = .ok (.iand, 1) := by decide +kernel
theorem dX8_never_40 : decode cX8_never 40 = .ok (.istore_n 2, 1) := by decide +kernel
theorem dX8_never_41 : decode cX8_never 41 = .ok (.iinc 3 1, 3) := by decide +kernel
theorem dX8_never_44 : decode cX8_never 44 = .ok (.goto (-19), 3) := by decide +kernel
theorem dX8_never_47 : decode cX8_never 47 = .ok (.iload_n 2, 1) := by decide +kernel
theorem dX8_never_48 : decode cX8_never 48 = .ok (.ireturn, 1) := by decide +kernel
set_option maxRecDepth 20000 in
theorem ggX8_flickers_X8_in : GoodIn wsX8_flickers wsX8_in := goodIn_r _ [5] (by decide +kernel) (by decide +kernel)
set_option maxRecDepth 20000 in
theorem gX8_flickers_X8_in : GoodIn wsX8_flickers (va_wsS RX8 91 yX8_in wsX8_in) := goodIn_app (goodIn_of _ (by decide +kernel)) ggX8_flickers_X8_in
set_option maxRecDepth 20000 in
theorem ggX8_flickers_X8_refuse : GoodIn wsX8_flickers wsX8_refuse := goodIn_r _ [9, 10, 62, 63, 64, 65, 66, 67, 68, 69, 70, 71, 72, 73, 74, 75, 76, 77, 78, 79, 80, 81, 82, 83, 84, 85, 86, 87, 88, 89, 90, 91, 92, 93, 94, 95, 96, 97, 98] (by decide +kernel) (by decide +kernel)
set_option maxRecDepth 20000 in
theorem gX8_flickers_X8_refuse : GoodIn wsX8_flickers (wsV RX8 104 RX8 yX8_refuse wsX8_refuse) := goodIn_app (goodIn_of _ (by decide +kernel)) ggX8_flickers_X8_refuse
set_option maxRecDepth 20000 in
theorem ggX8_flickers_X8_begin : GoodIn wsX8_flickers wsX8_begin := goodIn_r _ [14, 15, 16, 17, 18, 19, 62, 63, 64, 65, 66, 67, 68, 69, 70, 71, 72, 73, 74, 75, 76, 77, 78, 79, 80, 81, 82, 83, 84, 85, 86, 87, 88, 89, 90, 91, 92, 93, 94, 95, 96, 97, 98] (by decide +kernel) (by decide +kernel)
set_option maxRecDepth 20000 in
theorem gX8_flickers_X8_begin : GoodIn wsX8_flickers (wsV RX8 125 RX8 yX8_begin wsX8_begin) := goodIn_app (goodIn_of _ (by decide +kernel)) ggX8_flickers_X8_begin
set_option maxRecDepth 20000 in
theorem ggX8_flickers_X8_light : GoodIn wsX8_flickers wsX8_light := goodIn_r _ [23, 24, 15, 16, 25, 26, 27, 4, 28, 29, 30, 62, 63, 64, 65, 66, 67, 68, 69, 70, 71, 72, 73, 74, 75, 76, 77, 78, 79, 80, 81, 82, 83, 84, 85, 86, 87, 88, 89, 90, 91, 92, 93, 94, 95, 96, 97, 98] (by decide +kernel) (by decide +kernel)
set_option maxRecDepth 20000 in
theorem gX8_flickers_X8_light : GoodIn wsX8_flickers (wsV RX8 274 RX8 yX8_light wsX8_light) := goodIn_app (goodIn_of _ (by decide +kernel)) ggX8_flickers_X8_light
set_option maxRecDepth 20000 in
theorem ggX8_flickers_X8_goes : GoodIn wsX8_flickers wsX8_goes := goodIn_r _ [34, 15, 35, 16, 19, 36, 37, 38, 4, 39, 30, 40, 41, 42, 43, 44, 45, 46, 47, 48, 49, 50, 51, 52, 25, 26, 27, 28, 29, 2, 3, 5, 53, 54, 55, 56, 24, 57, 58, 59, 60, 61, 62, 63, 64, 65, 66, 67, 68, 69, 70, 71, 72, 73, 74, 75, 76, 77, 78, 79, 80, 81, 82, 83, 84, 85, 86, 87, 88, 89, 90, 91, 92, 93, 94, 95, 96, 97, 98] (by decide +kernel) (by decide +kernel)
set_option maxRecDepth 20000 in
theorem gX8_flickers_X8_goes : GoodIn wsX8_flickers (wsV RX8 128 RX8 yX8_goes wsX8_goes) := goodIn_app (goodIn_of _ (by decide +kernel)) ggX8_flickers_X8_goes
theorem dX8_flickers_0 : decode cX8_flickers 0 = .ok (.iload_n 1, 1) := by decide +kernel
theorem dX8_flickers_1 : decode cX8_flickers 1 = .ok (.i2l, 1) := by decide +kernel
theorem dX8_flickers_2 : decode cX8_flickers 2 = .ok (.lconst 1, 1) := by decide +kernel
theorem dX8_flickers_3 : decode cX8_flickers 3 = .ok (.ldc2_w 277, 3) := by decide +kernel
theorem dX8_flickers_6 : decode cX8_flickers 6 = .ok (.invokestatic 91, 3) := by decide +kernel
theorem dX8_flickers_9 : decode cX8_flickers 9 = .ok (.ifCond .ne 10, 3) := by decide +kernel
theorem dX8_flickers_12 : decode cX8_flickers 12 = .ok (.aload_n 0, 1) := by decide +kernel
theorem dX8_flickers_13 : decode cX8_flickers 13 = .ok (.bipush (-2), 2) := by decide +kernel
theorem dX8_flickers_15 : decode cX8_flickers 15 = .ok (.invokevirtual 104, 3) := by decide +kernel
theorem dX8_flickers_18 : decode cX8_flickers 18 = .ok (.ireturn, 1) := by decide +kernel
theorem dX8_flickers_19 : decode cX8_flickers 19 = .ok (.aload_n 0, 1) := by decide +kernel
theorem dX8_flickers_20 : decode cX8_flickers 20 = .ok (.invokevirtual 125, 3) := by decide +kernel
theorem dX8_flickers_23 : decode cX8_flickers 23 = .ok (.iconst 0, 1) := by decide +kernel
theorem dX8_flickers_24 : decode cX8_flickers 24 = .ok (.istore_n 2, 1) := by decide +kernel
theorem dX8_flickers_25 : decode cX8_flickers 25 = .ok (.iconst 0, 1) := by decide +kernel
theorem dX8_flickers_26 : decode cX8_flickers 26 = .ok (.istore_n 3, 1) := by decide +kernel
theorem dX8_flickers_27 : decode cX8_flickers 27 = .ok (.iload_n 3, 1) := by decide +kernel
theorem dX8_flickers_28 : decode cX8_flickers 28 = .ok (.iload_n 1, 1) := by decide +kernel
theorem dX8_flickers_29 : decode cX8_flickers 29 = .ok (.if_icmp .ge 36, 3) := by decide +kernel
theorem dX8_flickers_32 : decode cX8_flickers 32 = .ok (.aload_n 0, 1) := by decide +kernel
theorem dX8_flickers_33 : decode cX8_flickers 33 = .ok (.invokevirtual 274, 3) := by decide +kernel
theorem dX8_flickers_36 : decode cX8_flickers 36 = .ok (.istore 4, 2) := by decide +kernel
theorem dX8_flickers_38 : decode cX8_flickers 38 = .ok (.aload_n 0, 1) := by decide +kernel
theorem dX8_flickers_39 : decode cX8_flickers 39 = .ok (.invokevirtual 128, 3) := by decide +kernel
theorem dX8_flickers_42 : decode cX8_flickers 42 = .ok (.iload_n 2, 1) := by decide +kernel
theorem dX8_flickers_43 : decode cX8_flickers 43 = .ok (.aload_n 0, 1) := by decide +kernel
theorem dX8_flickers_44 : decode cX8_flickers 44 = .ok (.invokevirtual 274, 3) := by decide +kernel
theorem dX8_flickers_47 : decode cX8_flickers 47 = .ok (.iload 4, 2) := by decide +kernel
theorem dX8_flickers_49 : decode cX8_flickers 49 = .ok (.if_icmp .eq 7, 3) := by decide +kernel
theorem dX8_flickers_52 : decode cX8_flickers 52 = .ok (.iconst 1, 1) := by decide +kernel
theorem dX8_flickers_53 : decode cX8_flickers 53 = .ok (.goto 4, 3) := by decide +kernel
theorem dX8_flickers_56 : decode cX8_flickers 56 = .ok (.iconst 0, 1) := by decide +kernel
theorem dX8_flickers_57 : decode cX8_flickers 57 = .ok (.iadd, 1) := by decide +kernel
theorem dX8_flickers_58 : decode cX8_flickers 58 = .ok (.istore_n 2, 1) := by decide +kernel
theorem dX8_flickers_59 : decode cX8_flickers 59 = .ok (.iinc 3 1, 3) := by decide +kernel
theorem dX8_flickers_62 : decode cX8_flickers 62 = .ok (.goto (-35), 3) := by decide +kernel
theorem dX8_flickers_65 : decode cX8_flickers 65 = .ok (.iload_n 2, 1) := by decide +kernel
theorem dX8_flickers_66 : decode cX8_flickers 66 = .ok (.ireturn, 1) := by decide +kernel
set_option maxRecDepth 20000 in
theorem ggX8_round_X8_begin : GoodIn wsX8_round wsX8_begin := goodIn_r _ [8, 1, 2, 3, 9, 10, 52, 53, 54, 55, 56, 57, 58, 59, 60, 61, 62, 63, 64, 65, 66, 67, 68, 69, 70, 71, 72, 73, 74, 75, 76, 77, 78, 79, 80, 81, 82, 83, 84, 85, 86, 87, 88] (by decide +kernel) (by decide +kernel)
set_option maxRecDepth 20000 in
theorem gX8_round_X8_begin : GoodIn wsX8_round (wsV RX8 125 RX8 yX8_begin wsX8_begin) := goodIn_app (goodIn_of _ (by decide +kernel)) ggX8_round_X8_begin
set_option maxRecDepth 20000 in
theorem ggX8_round_X8_goes : GoodIn wsX8_round wsX8_goes := goodIn_r _ [14, 1, 15, 2, 10, 16, 17, 18, 7, 19, 20, 21, 22, 23, 24, 25, 26, 27, 28, 29, 30, 31, 32, 33, 34, 35, 36, 37, 38, 39, 40, 41, 42, 43, 44, 45, 46, 47, 48, 49, 50, 51, 52, 53, 54, 55, 56, 57, 58, 59, 60, 61, 62, 63, 64, 65, 66, 67, 68, 69, 70, 71, 72, 73, 74, 75, 76, 77, 78, 79, 80, 81, 82, 83, 84, 85, 86, 87, 88] (by decide +kernel) (by decide +kernel)
set_option maxRecDepth 20000 in
theorem gX8_round_X8_goes : GoodIn wsX8_round (wsV RX8 128 RX8 yX8_goes wsX8_goes) := goodIn_app (goodIn_of _ (by decide +kernel)) ggX8_round_X8_goes
theorem dX8_round_0 : decode cX8_round 0 = .ok (.aload_n 0, 1) := by decide +kernel
theorem dX8_round_1 : decode cX8_round 1 = .ok (.invokevirtual 125, 3) := by decide +kernel
theorem dX8_round_4 : decode cX8_round 4 = .ok (.iconst 1, 1) := by decide +kernel
theorem dX8_round_5 : decode cX8_round 5 = .ok (.istore_n 1, 1) := by decide +kernel
theorem dX8_round_6 : decode cX8_round 6 = .ok (.iload_n 1, 1) := by decide +kernel
theorem dX8_round_7 : decode cX8_round 7 = .ok (.bipush 48, 2) := by decide +kernel
theorem dX8_round_9 : decode cX8_round 9 = .ok (.if_icmp .gt 60, 3) := by decide +kernel
theorem dX8_round_12 : decode cX8_round 12 = .ok (.aload_n 0, 1) := by decide +kernel
theorem dX8_round_13 : decode cX8_round 13 = .ok (.invokevirtual 128, 3) := by decide +kernel
theorem dX8_round_16 : decode cX8_round 16 = .ok (.iconst 1, 1) := by decide +kernel
theorem dX8_round_17 : decode cX8_round 17 = .ok (.istore_n 2, 1) := by decide +kernel
theorem dX8_round_18 : decode cX8_round 18 = .ok (.iconst 0, 1) := by decide +kernel
theorem dX8_round_19 : decode cX8_round 19 = .ok (.istore_n 3, 1) := by decide +kernel
theorem dX8_round_20 : decode cX8_round 20 = .ok (.iload_n 3, 1) := by decide +kernel
theorem dX8_round_21 : decode cX8_round 21 = .ok (.aload_n 0, 1) := by decide +kernel
theorem dX8_round_22 : decode cX8_round 22 = .ok (.getfield 95, 3) := by decide +kernel
theorem dX8_round_25 : decode cX8_round 25 = .ok (.if_icmp .ge 32, 3) := by decide +kernel
theorem dX8_round_28 : decode cX8_round 28 = .ok (.iload_n 2, 1) := by decide +kernel
theorem dX8_round_29 : decode cX8_round 29 = .ok (.aload_n 0, 1) := by decide +kernel
theorem dX8_round_30 : decode cX8_round 30 = .ok (.getfield 71, 3) := by decide +kernel
theorem dX8_round_33 : decode cX8_round 33 = .ok (.iload_n 3, 1) := by decide +kernel
theorem dX8_round_34 : decode cX8_round 34 = .ok (.iaload, 1) := by decide +kernel
theorem dX8_round_35 : decode cX8_round 35 = .ok (.aload_n 0, 1) := by decide +kernel
theorem dX8_round_36 : decode cX8_round 36 = .ok (.getfield 56, 3) := by decide +kernel
theorem dX8_round_39 : decode cX8_round 39 = .ok (.iload_n 3, 1) := by decide +kernel
theorem dX8_round_40 : decode cX8_round 40 = .ok (.iaload, 1) := by decide +kernel
theorem dX8_round_41 : decode cX8_round 41 = .ok (.if_icmp .ne 7, 3) := by decide +kernel
theorem dX8_round_44 : decode cX8_round 44 = .ok (.iconst 1, 1) := by decide +kernel
theorem dX8_round_45 : decode cX8_round 45 = .ok (.goto 4, 3) := by decide +kernel
theorem dX8_round_48 : decode cX8_round 48 = .ok (.iconst 0, 1) := by decide +kernel
theorem dX8_round_49 : decode cX8_round 49 = .ok (.iand, 1) := by decide +kernel
theorem dX8_round_50 : decode cX8_round 50 = .ok (.istore_n 2, 1) := by decide +kernel
theorem dX8_round_51 : decode cX8_round 51 = .ok (.iinc 3 1, 3) := by decide +kernel
theorem dX8_round_54 : decode cX8_round 54 = .ok (.goto (-34), 3) := by decide +kernel
theorem dX8_round_57 : decode cX8_round 57 = .ok (.iload_n 2, 1) := by decide +kernel
theorem dX8_round_58 : decode cX8_round 58 = .ok (.ifCond .eq 5, 3) := by decide +kernel
theorem dX8_round_61 : decode cX8_round 61 = .ok (.iload_n 1, 1) := by decide +kernel
theorem dX8_round_62 : decode cX8_round 62 = .ok (.ireturn, 1) := by decide +kernel
theorem dX8_round_63 : decode cX8_round 63 = .ok (.iinc 1 1, 3) := by decide +kernel
theorem dX8_round_66 : decode cX8_round 66 = .ok (.goto (-60), 3) := by decide +kernel
theorem dX8_round_69 : decode cX8_round 69 = .ok (.iconst (-1), 1) := by decide +kernel
theorem dX8_round_70 : decode cX8_round 70 = .ok (.ireturn, 1) := by decide +kernel
set_option maxRecDepth 20000 in
theorem ggX8_goers_X8_goesTo : GoodIn wsX8_goers wsX8_goesTo := goodIn_r _ [7, 8, 2, 9, 10, 11, 12, 13, 14, 15, 16, 6, 17, 18, 19, 20, 21, 22, 1, 23, 24, 25, 26, 27, 28, 29, 30, 31, 32, 33, 34, 35, 36, 37, 38, 39, 40, 41, 42, 43, 44, 45, 46, 47, 48, 49, 50, 51, 52, 53, 54, 55, 56, 57, 58, 59, 60, 61, 62, 63, 64, 65, 66, 67, 68, 69, 70, 71, 72, 73, 74, 75, 76, 77] (by decide +kernel) (by decide +kernel)
set_option maxRecDepth 20000 in
theorem gX8_goers_X8_goesTo : GoodIn wsX8_goers (wsV RX8 271 RX8 yX8_goesTo wsX8_goesTo) := goodIn_app (goodIn_of _ (by decide +kernel)) ggX8_goers_X8_goesTo
theorem dX8_goers_0 : decode cX8_goers 0 = .ok (.iconst 0, 1) := by decide +kernel
theorem dX8_goers_1 : decode cX8_goers 1 = .ok (.istore_n 1, 1) := by decide +kernel
theorem dX8_goers_2 : decode cX8_goers 2 = .ok (.iconst 0, 1) := by decide +kernel
theorem dX8_goers_3 : decode cX8_goers 3 = .ok (.istore_n 2, 1) := by decide +kernel
theorem dX8_goers_4 : decode cX8_goers 4 = .ok (.iload_n 2, 1) := by decide +kernel
theorem dX8_goers_5 : decode cX8_goers 5 = .ok (.aload_n 0, 1) := by decide +kernel
theorem dX8_goers_6 : decode cX8_goers 6 = .ok (.getfield 95, 3) := by decide +kernel
theorem dX8_goers_9 : decode cX8_goers 9 = .ok (.if_icmp .ge 33, 3) := by decide +kernel
theorem dX8_goers_12 : decode cX8_goers 12 = .ok (.iload_n 1, 1) := by decide +kernel
theorem dX8_goers_13 : decode cX8_goers 13 = .ok (.aload_n 0, 1) := by decide +kernel
theorem dX8_goers_14 : decode cX8_goers 14 = .ok (.iload_n 2, 1) := by decide +kernel
theorem dX8_goers_15 : decode cX8_goers 15 = .ok (.invokevirtual 271, 3) := by decide +kernel
theorem dX8_goers_18 : decode cX8_goers 18 = .ok (.aload_n 0, 1) := by decide +kernel
theorem dX8_goers_19 : decode cX8_goers 19 = .ok (.getfield 71, 3) := by decide +kernel
theorem dX8_goers_22 : decode cX8_goers 22 = .ok (.iload_n 2, 1) := by decide +kernel
theorem dX8_goers_23 : decode cX8_goers 23 = .ok (.iaload, 1) := by decide +kernel
theorem dX8_goers_24 : decode cX8_goers 24 = .ok (.if_icmp .eq 9, 3) := by decide +kernel
theorem dX8_goers_27 : decode cX8_goers 27 = .ok (.iconst 1, 1) := by decide +kernel
theorem dX8_goers_28 : decode cX8_goers 28 = .ok (.iload_n 2, 1) := by decide +kernel
theorem dX8_goers_29 : decode cX8_goers 29 = .ok (.ishl, 1) := by decide +kernel
theorem dX8_goers_30 : decode cX8_goers 30 = .ok (.goto 4, 3) := by decide +kernel
theorem dX8_goers_33 : decode cX8_goers 33 = .ok (.iconst 0, 1) := by decide +kernel
theorem dX8_goers_34 : decode cX8_goers 34 = .ok (.ior, 1) := by decide +kernel
theorem dX8_goers_35 : decode cX8_goers 35 = .ok (.istore_n 1, 1) := by decide +kernel
theorem dX8_goers_36 : decode cX8_goers 36 = .ok (.iinc 2 1, 3) := by decide +kernel
theorem dX8_goers_39 : decode cX8_goers 39 = .ok (.goto (-35), 3) := by decide +kernel
theorem dX8_goers_42 : decode cX8_goers 42 = .ok (.iload_n 1, 1) := by decide +kernel
theorem dX8_goers_43 : decode cX8_goers 43 = .ok (.ireturn, 1) := by decide +kernel
set_option maxRecDepth 20000 in
theorem ggX8_going_X8_begin : GoodIn wsX8_going wsX8_begin := goodIn_r _ [5, 6, 7, 8, 9, 10, 51, 52, 53, 54, 55, 56, 57, 58, 59, 60, 61, 62, 63, 64, 65, 66, 67, 68, 69, 70, 71, 72, 73, 74, 75, 76, 77, 78, 79, 80, 81, 82, 83, 84, 85, 86, 87] (by decide +kernel) (by decide +kernel)
set_option maxRecDepth 20000 in
theorem gX8_going_X8_begin : GoodIn wsX8_going (wsV RX8 125 RX8 yX8_begin wsX8_begin) := goodIn_app (goodIn_of _ (by decide +kernel)) ggX8_going_X8_begin
set_option maxRecDepth 20000 in
theorem ggX8_going_X8_goers : GoodIn wsX8_going wsX8_goers := goodIn_r _ [14, 6, 7, 15, 16, 17, 4, 18, 19, 10, 20, 21, 22, 23, 24, 25, 26, 27, 28, 29, 30, 31, 32, 33, 34, 35, 36, 37, 38, 39, 40, 41, 42, 43, 44, 45, 46, 47, 48, 49, 50, 51, 52, 53, 54, 55, 56, 57, 58, 59, 60, 61, 62, 63, 64, 65, 66, 67, 68, 69, 70, 71, 72, 73, 74, 75, 76, 77, 78, 79, 80, 81, 82, 83, 84, 85, 86, 87] (by decide +kernel) (by decide +kernel)
set_option maxRecDepth 20000 in
theorem gX8_going_X8_goers : GoodIn wsX8_going (wsV RX8 298 RX8 yX8_goers wsX8_goers) := goodIn_app (goodIn_of _ (by decide +kernel)) ggX8_going_X8_goers
theorem dX8_going_0 : decode cX8_going 0 = .ok (.aload_n 0, 1) := by decide +kernel
theorem dX8_going_1 : decode cX8_going 1 = .ok (.invokevirtual 125, 3) := by decide +kernel
theorem dX8_going_4 : decode cX8_going 4 = .ok (.aload_n 0, 1) := by decide +kernel
theorem dX8_going_5 : decode cX8_going 5 = .ok (.invokevirtual 298, 3) := by decide +kernel
theorem dX8_going_8 : decode cX8_going 8 = .ok (.ireturn, 1) := by decide +kernel
set_option maxRecDepth 20000 in
theorem ggX8_when_X8_in : GoodIn wsX8_when wsX8_in := goodIn_r _ [4] (by decide +kernel) (by decide +kernel)
set_option maxRecDepth 20000 in
theorem gX8_when_X8_in : GoodIn wsX8_when (va_wsS RX8 91 yX8_in wsX8_in) := goodIn_app (goodIn_of _ (by decide +kernel)) ggX8_when_X8_in
set_option maxRecDepth 20000 in
theorem ggX8_when_X8_refuse : GoodIn wsX8_when wsX8_refuse := goodIn_r _ [8, 9, 68, 69, 70, 71, 72, 73, 74, 75, 76, 77, 78, 79, 80, 81, 82, 83, 84, 85, 86, 87, 88, 89, 90, 91, 92, 93, 94, 95, 96, 97, 98, 99, 100, 101, 102, 103, 104] (by decide +kernel) (by decide +kernel)
set_option maxRecDepth 20000 in
theorem gX8_when_X8_refuse : GoodIn wsX8_when (wsV RX8 104 RX8 yX8_refuse wsX8_refuse) := goodIn_app (goodIn_of _ (by decide +kernel)) ggX8_when_X8_refuse
set_option maxRecDepth 20000 in
theorem ggX8_when_X8_begin : GoodIn wsX8_when wsX8_begin := goodIn_r _ [13, 14, 15, 16, 17, 18, 68, 69, 70, 71, 72, 73, 74, 75, 76, 77, 78, 79, 80, 81, 82, 83, 84, 85, 86, 87, 88, 89, 90, 91, 92, 93, 94, 95, 96, 97, 98, 99, 100, 101, 102, 103, 104] (by decide +kernel) (by decide +kernel)
set_option maxRecDepth 20000 in
theorem gX8_when_X8_begin : GoodIn wsX8_when (wsV RX8 125 RX8 yX8_begin wsX8_begin) := goodIn_app (goodIn_of _ (by decide +kernel)) ggX8_when_X8_begin
set_option maxRecDepth 20000 in
theorem ggX8_when_X8_light : GoodIn wsX8_when wsX8_light := goodIn_r _ [22, 23, 14, 15, 24, 25, 26, 3, 27, 28, 29, 68, 69, 70, 71, 72, 73, 74, 75, 76, 77, 78, 79, 80, 81, 82, 83, 84, 85, 86, 87, 88, 89, 90, 91, 92, 93, 94, 95, 96, 97, 98, 99, 100, 101, 102, 103, 104] (by decide +kernel) (by decide +kernel)
set_option maxRecDepth 20000 in
theorem gX8_when_X8_light : GoodIn wsX8_when (wsV RX8 274 RX8 yX8_light wsX8_light) := goodIn_app (goodIn_of _ (by decide +kernel)) ggX8_when_X8_light
set_option maxRecDepth 20000 in
theorem ggX8_when_X8_bits : GoodIn wsX8_when wsX8_bits := goodIn_r _ [32] (by decide +kernel) (by decide +kernel)
set_option maxRecDepth 20000 in
theorem gX8_when_X8_bits : GoodIn wsX8_when (va_wsS RX8 285 yX8_bits wsX8_bits) := goodIn_app (goodIn_of _ (by decide +kernel)) ggX8_when_X8_bits
set_option maxRecDepth 20000 in
theorem ggX8_when_X8_goers : GoodIn wsX8_when wsX8_goers := goodIn_r _ [36, 14, 15, 37, 38, 39, 3, 40, 29, 18, 41, 42, 43, 44, 45, 46, 47, 48, 49, 50, 51, 52, 53, 24, 25, 26, 27, 28, 1, 2, 4, 54, 55, 56, 57, 23, 58, 59, 60, 61, 62, 68, 69, 70, 71, 72, 73, 74, 75, 76, 77, 78, 79, 80, 81, 82, 83, 84, 85, 86, 87, 88, 89, 90, 91, 92, 93, 94, 95, 96, 97, 98, 99, 100, 101, 102, 103, 104] (by decide +kernel) (by decide +kernel)
set_option maxRecDepth 20000 in
theorem gX8_when_X8_goers : GoodIn wsX8_when (wsV RX8 298 RX8 yX8_goers wsX8_goers) := goodIn_app (goodIn_of _ (by decide +kernel)) ggX8_when_X8_goers
set_option maxRecDepth 20000 in
theorem ggX8_when_X8_goes : GoodIn wsX8_when wsX8_goes := goodIn_r _ [66, 14, 67, 15, 18, 37, 38, 39, 3, 40, 29, 41, 42, 43, 44, 45, 46, 47, 48, 49, 50, 51, 52, 53, 24, 25, 26, 27, 28, 1, 2, 4, 54, 55, 56, 57, 23, 58, 59, 60, 61, 62, 68, 69, 70, 71, 72, 73, 74, 75, 76, 77, 78, 79, 80, 81, 82, 83, 84, 85, 86, 87, 88, 89, 90, 91, 92, 93, 94, 95, 96, 97, 98, 99, 100, 101, 102, 103, 104] (by decide +kernel) (by decide +kernel)
set_option maxRecDepth 20000 in
theorem gX8_when_X8_goes : GoodIn wsX8_when (wsV RX8 128 RX8 yX8_goes wsX8_goes) := goodIn_app (goodIn_of _ (by decide +kernel)) ggX8_when_X8_goes
theorem dX8_when_0 : decode cX8_when 0 = .ok (.iload_n 1, 1) := by decide +kernel
theorem dX8_when_1 : decode cX8_when 1 = .ok (.i2l, 1) := by decide +kernel
theorem dX8_when_2 : decode cX8_when 2 = .ok (.lconst 0, 1) := by decide +kernel
theorem dX8_when_3 : decode cX8_when 3 = .ok (.lconst 1, 1) := by decide +kernel
theorem dX8_when_4 : decode cX8_when 4 = .ok (.invokestatic 91, 3) := by decide +kernel
theorem dX8_when_7 : decode cX8_when 7 = .ok (.ifCond .ne 10, 3) := by decide +kernel
theorem dX8_when_10 : decode cX8_when 10 = .ok (.aload_n 0, 1) := by decide +kernel
theorem dX8_when_11 : decode cX8_when 11 = .ok (.bipush (-2), 2) := by decide +kernel
theorem dX8_when_13 : decode cX8_when 13 = .ok (.invokevirtual 104, 3) := by decide +kernel
theorem dX8_when_16 : decode cX8_when 16 = .ok (.ireturn, 1) := by decide +kernel
theorem dX8_when_17 : decode cX8_when 17 = .ok (.aload_n 0, 1) := by decide +kernel
theorem dX8_when_18 : decode cX8_when 18 = .ok (.invokevirtual 125, 3) := by decide +kernel
theorem dX8_when_21 : decode cX8_when 21 = .ok (.iconst 0, 1) := by decide +kernel
theorem dX8_when_22 : decode cX8_when 22 = .ok (.istore_n 2, 1) := by decide +kernel
theorem dX8_when_23 : decode cX8_when 23 = .ok (.iconst (-1), 1) := by decide +kernel
theorem dX8_when_24 : decode cX8_when 24 = .ok (.istore_n 3, 1) := by decide +kernel
theorem dX8_when_25 : decode cX8_when 25 = .ok (.iconst (-1), 1) := by decide +kernel
theorem dX8_when_26 : decode cX8_when 26 = .ok (.istore 4, 2) := by decide +kernel
theorem dX8_when_28 : decode cX8_when 28 = .ok (.iconst 0, 1) := by decide +kernel
theorem dX8_when_29 : decode cX8_when 29 = .ok (.istore 5, 2) := by decide +kernel
theorem dX8_when_31 : decode cX8_when 31 = .ok (.iload 5, 2) := by decide +kernel
theorem dX8_when_33 : decode cX8_when 33 = .ok (.bipush 48, 2) := by decide +kernel
theorem dX8_when_35 : decode cX8_when 35 = .ok (.if_icmp .gt 70, 3) := by decide +kernel
theorem dX8_when_38 : decode cX8_when 38 = .ok (.aload_n 0, 1) := by decide +kernel
theorem dX8_when_39 : decode cX8_when 39 = .ok (.invokevirtual 274, 3) := by decide +kernel
theorem dX8_when_42 : decode cX8_when 42 = .ok (.invokestatic 285, 3) := by decide +kernel
theorem dX8_when_45 : decode cX8_when 45 = .ok (.istore 6, 2) := by decide +kernel
theorem dX8_when_47 : decode cX8_when 47 = .ok (.iload 6, 2) := by decide +kernel
theorem dX8_when_49 : decode cX8_when 49 = .ok (.iload_n 3, 1) := by decide +kernel
theorem dX8_when_50 : decode cX8_when 50 = .ok (.if_icmp .le 8, 3) := by decide +kernel
theorem dX8_when_53 : decode cX8_when 53 = .ok (.iload 5, 2) := by decide +kernel
theorem dX8_when_55 : decode cX8_when 55 = .ok (.goto 4, 3) := by decide +kernel
theorem dX8_when_58 : decode cX8_when 58 = .ok (.iload_n 2, 1) := by decide +kernel
theorem dX8_when_59 : decode cX8_when 59 = .ok (.istore_n 2, 1) := by decide +kernel
theorem dX8_when_60 : decode cX8_when 60 = .ok (.iload 6, 2) := by decide +kernel
theorem dX8_when_62 : decode cX8_when 62 = .ok (.iload_n 3, 1) := by decide +kernel
theorem dX8_when_63 : decode cX8_when 63 = .ok (.if_icmp .le 8, 3) := by decide +kernel
theorem dX8_when_66 : decode cX8_when 66 = .ok (.iload 6, 2) := by decide +kernel
theorem dX8_when_68 : decode cX8_when 68 = .ok (.goto 4, 3) := by decide +kernel
theorem dX8_when_71 : decode cX8_when 71 = .ok (.iload_n 3, 1) := by decide +kernel
theorem dX8_when_72 : decode cX8_when 72 = .ok (.istore_n 3, 1) := by decide +kernel
theorem dX8_when_73 : decode cX8_when 73 = .ok (.iload 4, 2) := by decide +kernel
theorem dX8_when_75 : decode cX8_when 75 = .ok (.iconst (-1), 1) := by decide +kernel
theorem dX8_when_76 : decode cX8_when 76 = .ok (.if_icmp .ne 15, 3) := by decide +kernel
theorem dX8_when_79 : decode cX8_when 79 = .ok (.aload_n 0, 1) := by decide +kernel
theorem dX8_when_80 : decode cX8_when 80 = .ok (.invokevirtual 298, 3) := by decide +kernel
theorem dX8_when_83 : decode cX8_when 83 = .ok (.ifCond .ne 8, 3) := by decide +kernel
theorem dX8_when_86 : decode cX8_when 86 = .ok (.iload 5, 2) := by decide +kernel
theorem dX8_when_88 : decode cX8_when 88 = .ok (.goto 5, 3) := by decide +kernel
theorem dX8_when_91 : decode cX8_when 91 = .ok (.iload 4, 2) := by decide +kernel
