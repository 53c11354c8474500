theorem dX8_hidden_106 : decode cX8_hidden 106 = .ok (.iinc 6 1, 3) := by decide +kernel
theorem dX8_hidden_109 : decode cX8_hidden 109 = .ok (.goto (-46), 3) := by decide +kernel
theorem dX8_hidden_112 : decode cX8_hidden 112 = .ok (.iload 5, 2) := by decide +kernel
theorem dX8_hidden_114 : decode cX8_hidden 114 = .ok (.ireturn, 1) := by decide +kernel
theorem dX8_below_0 : decode cX8_below 0 = .ok (.aload_n 0, 1) := by decide +kernel
theorem dX8_below_1 : decode cX8_below 1 = .ok (.aload_n 0, 1) := by decide +kernel
theorem dX8_below_2 : decode cX8_below 2 = .ok (.getfield 62, 3) := by decide +kernel
theorem dX8_below_5 : decode cX8_below 5 = .ok (.ldc_w 317, 3) := by decide +kernel
theorem dX8_below_8 : decode cX8_below 8 = .ok (.imul, 1) := by decide +kernel
theorem dX8_below_9 : decode cX8_below 9 = .ok (.sipush 12345, 3) := by decide +kernel
theorem dX8_below_12 : decode cX8_below 12 = .ok (.iadd, 1) := by decide +kernel
theorem dX8_below_13 : decode cX8_below 13 = .ok (.putfield 62, 3) := by decide +kernel
theorem dX8_below_16 : decode cX8_below 16 = .ok (.aload_n 0, 1) := by decide +kernel
theorem dX8_below_17 : decode cX8_below 17 = .ok (.getfield 62, 3) := by decide +kernel
theorem dX8_below_20 : decode cX8_below 20 = .ok (.bipush 16, 2) := by decide +kernel
theorem dX8_below_22 : decode cX8_below 22 = .ok (.iushr, 1) := by decide +kernel
theorem dX8_below_23 : decode cX8_below 23 = .ok (.iload_n 1, 1) := by decide +kernel
theorem dX8_below_24 : decode cX8_below 24 = .ok (.irem, 1) := by decide +kernel
theorem dX8_below_25 : decode cX8_below 25 = .ok (.ireturn, 1) := by decide +kernel
theorem dX8_stays_0 : decode cX8_stays 0 = .ok (.iconst 0, 1) := by decide +kernel
theorem dX8_stays_1 : decode cX8_stays 1 = .ok (.istore_n 1, 1) := by decide +kernel
theorem dX8_stays_2 : decode cX8_stays 2 = .ok (.iload_n 1, 1) := by decide +kernel
theorem dX8_stays_3 : decode cX8_stays 3 = .ok (.aload_n 0, 1) := by decide +kernel
theorem dX8_stays_4 : decode cX8_stays 4 = .ok (.getfield 95, 3) := by decide +kernel
theorem dX8_stays_7 : decode cX8_stays 7 = .ok (.if_icmp .ge 21, 3) := by decide +kernel
theorem dX8_stays_10 : decode cX8_stays 10 = .ok (.aload_n 0, 1) := by decide +kernel
theorem dX8_stays_11 : decode cX8_stays 11 = .ok (.getfield 56, 3) := by decide +kernel
theorem dX8_stays_14 : decode cX8_stays 14 = .ok (.iload_n 1, 1) := by decide +kernel
theorem dX8_stays_15 : decode cX8_stays 15 = .ok (.aload_n 0, 1) := by decide +kernel
theorem dX8_stays_16 : decode cX8_stays 16 = .ok (.getfield 71, 3) := by decide +kernel
theorem dX8_stays_19 : decode cX8_stays 19 = .ok (.iload_n 1, 1) := by decide +kernel
theorem dX8_stays_20 : decode cX8_stays 20 = .ok (.iaload, 1) := by decide +kernel
theorem dX8_stays_21 : decode cX8_stays 21 = .ok (.iastore, 1) := by decide +kernel
theorem dX8_stays_22 : decode cX8_stays 22 = .ok (.iinc 1 1, 3) := by decide +kernel
theorem dX8_stays_25 : decode cX8_stays 25 = .ok (.goto (-23), 3) := by decide +kernel
theorem dX8_stays_28 : decode cX8_stays 28 = .ok (.aload_n 0, 1) := by decide +kernel
theorem dX8_stays_29 : decode cX8_stays 29 = .ok (.aload_n 0, 1) := by decide +kernel
theorem dX8_stays_30 : decode cX8_stays 30 = .ok (.getfield 254, 3) := by decide +kernel
theorem dX8_stays_33 : decode cX8_stays 33 = .ok (.putfield 153, 3) := by decide +kernel
theorem dX8_stays_36 : decode cX8_stays 36 = .ok (.return_, 1) := by decide +kernel
set_option maxRecDepth 20000 in
theorem ggX8_hours_X8_in : GoodIn wsX8_hours wsX8_in := goodIn_r _ [5] (by decide +kernel) (by decide +kernel)
set_option maxRecDepth 20000 in
theorem gX8_hours_X8_in : GoodIn wsX8_hours (va_wsS RX8 91 yX8_in wsX8_in) := goodIn_app (goodIn_of _ (by decide +kernel)) ggX8_hours_X8_in
set_option maxRecDepth 20000 in
theorem ggX8_hours_X8_refuse : GoodIn wsX8_hours wsX8_refuse := goodIn_r _ [9, 10, 70, 71, 72, 73, 74, 75, 76, 77, 78, 79, 80, 81, 82, 83, 84, 85, 86, 87, 88, 89, 90, 91, 92, 93, 94, 95, 96, 97, 98, 99, 100, 101, 102, 103, 104, 105, 106] (by decide +kernel) (by decide +kernel)
set_option maxRecDepth 20000 in
theorem gX8_hours_X8_refuse : GoodIn wsX8_hours (wsV RX8 104 RX8 yX8_refuse wsX8_refuse) := goodIn_app (goodIn_of _ (by decide +kernel)) ggX8_hours_X8_refuse
set_option maxRecDepth 20000 in
theorem ggX8_hours_X8_goesOn : GoodIn wsX8_hours wsX8_goesOn := goodIn_r _ [14, 15, 16, 17, 4, 18, 19, 20, 21, 22, 23, 24, 25, 26, 27, 28, 29, 30, 31, 32, 33, 34, 35, 36, 37, 38, 39, 40, 41, 42, 43, 44, 45, 46, 47, 48, 49, 50, 51, 2, 3, 5, 52, 53, 54, 55, 56, 57, 58, 59, 60, 61, 70, 71, 72, 73, 74, 75, 76, 77, 78, 79, 80, 81, 82, 83, 84, 85, 86, 87, 88, 89, 90, 91, 92, 93, 94, 95, 96, 97, 98, 99, 100, 101, 102, 103, 104, 105, 106] (by decide +kernel) (by decide +kernel)
set_option maxRecDepth 20000 in
theorem gX8_hours_X8_goesOn : GoodIn wsX8_hours (wsV RX8 282 RX8 yX8_goesOn wsX8_goesOn) := goodIn_app (goodIn_of _ (by decide +kernel)) ggX8_hours_X8_goesOn
set_option maxRecDepth 20000 in
theorem ggX8_hours_X8_stays : GoodIn wsX8_hours wsX8_stays := goodIn_r _ [65, 19, 21, 20, 23, 22, 70, 71, 72, 73, 74, 75, 76, 77, 78, 79, 80, 81, 82, 83, 84, 85, 86, 87, 88, 89, 90, 91, 92, 93, 94, 95, 96, 97, 98, 99, 100, 101, 102, 103, 104, 105, 106] (by decide +kernel) (by decide +kernel)
set_option maxRecDepth 20000 in
theorem gX8_hours_X8_stays : GoodIn wsX8_hours (wsV RX8 318 RX8 yX8_stays wsX8_stays) := goodIn_app (goodIn_of _ (by decide +kernel)) ggX8_hours_X8_stays
set_option maxRecDepth 20000 in
theorem ggX8_hours_X8_light : GoodIn wsX8_hours wsX8_light := goodIn_r _ [69, 56, 19, 20, 47, 48, 49, 4, 50, 51, 33, 70, 71, 72, 73, 74, 75, 76, 77, 78, 79, 80, 81, 82, 83, 84, 85, 86, 87, 88, 89, 90, 91, 92, 93, 94, 95, 96, 97, 98, 99, 100, 101, 102, 103, 104, 105, 106] (by decide +kernel) (by decide +kernel)
set_option maxRecDepth 20000 in
theorem gX8_hours_X8_light : GoodIn wsX8_hours (wsV RX8 274 RX8 yX8_light wsX8_light) := goodIn_app (goodIn_of _ (by decide +kernel)) ggX8_hours_X8_light
theorem dX8_hours_0 : decode cX8_hours 0 = .ok (.iload_n 1, 1) := by decide +kernel
theorem dX8_hours_1 : decode cX8_hours 1 = .ok (.i2l, 1) := by decide +kernel
theorem dX8_hours_2 : decode cX8_hours 2 = .ok (.lconst 1, 1) := by decide +kernel
theorem dX8_hours_3 : decode cX8_hours 3 = .ok (.ldc2_w 277, 3) := by decide +kernel
theorem dX8_hours_6 : decode cX8_hours 6 = .ok (.invokestatic 91, 3) := by decide +kernel
theorem dX8_hours_9 : decode cX8_hours 9 = .ok (.ifCond .ne 10, 3) := by decide +kernel
theorem dX8_hours_12 : decode cX8_hours 12 = .ok (.aload_n 0, 1) := by decide +kernel
theorem dX8_hours_13 : decode cX8_hours 13 = .ok (.bipush (-2), 2) := by decide +kernel
theorem dX8_hours_15 : decode cX8_hours 15 = .ok (.invokevirtual 104, 3) := by decide +kernel
theorem dX8_hours_18 : decode cX8_hours 18 = .ok (.ireturn, 1) := by decide +kernel
theorem dX8_hours_19 : decode cX8_hours 19 = .ok (.aload_n 0, 1) := by decide +kernel
theorem dX8_hours_20 : decode cX8_hours 20 = .ok (.iload_n 1, 1) := by decide +kernel
theorem dX8_hours_21 : decode cX8_hours 21 = .ok (.invokevirtual 282, 3) := by decide +kernel
theorem dX8_hours_24 : decode cX8_hours 24 = .ok (.aload_n 0, 1) := by decide +kernel
theorem dX8_hours_25 : decode cX8_hours 25 = .ok (.invokevirtual 318, 3) := by decide +kernel
theorem dX8_hours_28 : decode cX8_hours 28 = .ok (.aload_n 0, 1) := by decide +kernel
theorem dX8_hours_29 : decode cX8_hours 29 = .ok (.invokevirtual 274, 3) := by decide +kernel
theorem dX8_hours_32 : decode cX8_hours 32 = .ok (.ireturn, 1) := by decide +kernel
set_option maxRecDepth 20000 in
theorem ggX8_strays_X8_below : GoodIn wsX8_strays wsX8_below := goodIn_r _ [9, 10, 11, 15, 16, 17, 18, 19, 20, 21, 22, 23, 24, 25, 26, 27, 28, 29, 30, 31, 32, 33, 34, 35, 36, 37, 38, 39, 40, 41, 42, 43, 44, 45, 46, 47, 48, 49, 50, 51] (by decide +kernel) (by decide +kernel)
set_option maxRecDepth 20000 in
theorem gX8_strays_X8_below : GoodIn wsX8_strays (wsV RX8 321 RX8 yX8_below wsX8_below) := goodIn_app (goodIn_of _ (by decide +kernel)) ggX8_strays_X8_below
set_option maxRecDepth 20000 in
theorem ggX8_strays_X8_bits : GoodIn wsX8_strays wsX8_bits := goodIn_r _ [14] (by decide +kernel) (by decide +kernel)
set_option maxRecDepth 20000 in
theorem gX8_strays_X8_bits : GoodIn wsX8_strays (va_wsS RX8 285 yX8_bits wsX8_bits) := goodIn_app (goodIn_of _ (by decide +kernel)) ggX8_strays_X8_bits
theorem dX8_strays_0 : decode cX8_strays 0 = .ok (.aload_n 0, 1) := by decide +kernel
theorem dX8_strays_1 : decode cX8_strays 1 = .ok (.getfield 44, 3) := by decide +kernel
theorem dX8_strays_4 : decode cX8_strays 4 = .ok (.iload_n 1, 1) := by decide +kernel
theorem dX8_strays_5 : decode cX8_strays 5 = .ok (.iaload, 1) := by decide +kernel
theorem dX8_strays_6 : decode cX8_strays 6 = .ok (.iconst 1, 1) := by decide +kernel
theorem dX8_strays_7 : decode cX8_strays 7 = .ok (.if_icmp .eq 17, 3) := by decide +kernel
theorem dX8_strays_10 : decode cX8_strays 10 = .ok (.aload_n 0, 1) := by decide +kernel
theorem dX8_strays_11 : decode cX8_strays 11 = .ok (.getfield 44, 3) := by decide +kernel
theorem dX8_strays_14 : decode cX8_strays 14 = .ok (.iload_n 1, 1) := by decide +kernel
theorem dX8_strays_15 : decode cX8_strays 15 = .ok (.iaload, 1) := by decide +kernel
theorem dX8_strays_16 : decode cX8_strays 16 = .ok (.iconst 3, 1) := by decide +kernel
theorem dX8_strays_17 : decode cX8_strays 17 = .ok (.if_icmp .eq 7, 3) := by decide +kernel
theorem dX8_strays_20 : decode cX8_strays 20 = .ok (.iconst 1, 1) := by decide +kernel
theorem dX8_strays_21 : decode cX8_strays 21 = .ok (.goto 4, 3) := by decide +kernel
theorem dX8_strays_24 : decode cX8_strays 24 = .ok (.iconst 0, 1) := by decide +kernel
theorem dX8_strays_25 : decode cX8_strays 25 = .ok (.istore_n 2, 1) := by decide +kernel
theorem dX8_strays_26 : decode cX8_strays 26 = .ok (.iload_n 2, 1) := by decide +kernel
theorem dX8_strays_27 : decode cX8_strays 27 = .ok (.ifCond .eq 30, 3) := by decide +kernel
theorem dX8_strays_30 : decode cX8_strays 30 = .ok (.aload_n 0, 1) := by decide +kernel
theorem dX8_strays_31 : decode cX8_strays 31 = .ok (.bipush 12, 2) := by decide +kernel
theorem dX8_strays_33 : decode cX8_strays 33 = .ok (.invokevirtual 321, 3) := by decide +kernel
theorem dX8_strays_36 : decode cX8_strays 36 = .ok (.aload_n 0, 1) := by decide +kernel
theorem dX8_strays_37 : decode cX8_strays 37 = .ok (.getfield 59, 3) := by decide +kernel
theorem dX8_strays_40 : decode cX8_strays 40 = .ok (.if_icmp .ge 17, 3) := by decide +kernel
theorem dX8_strays_43 : decode cX8_strays 43 = .ok (.aload_n 0, 1) := by decide +kernel
theorem dX8_strays_44 : decode cX8_strays 44 = .ok (.getfield 41, 3) := by decide +kernel
theorem dX8_strays_47 : decode cX8_strays 47 = .ok (.aload_n 0, 1) := by decide +kernel
theorem dX8_strays_48 : decode cX8_strays 48 = .ok (.getfield 71, 3) := by decide +kernel
theorem dX8_strays_51 : decode cX8_strays 51 = .ok (.iload_n 1, 1) := by decide +kernel
theorem dX8_strays_52 : decode cX8_strays 52 = .ok (.iaload, 1) := by decide +kernel
theorem dX8_strays_53 : decode cX8_strays 53 = .ok (.iaload, 1) := by decide +kernel
theorem dX8_strays_54 : decode cX8_strays 54 = .ok (.ifCond .ne 4, 3) := by decide +kernel
theorem dX8_strays_57 : decode cX8_strays 57 = .ok (.return_, 1) := by decide +kernel
theorem dX8_strays_58 : decode cX8_strays 58 = .ok (.aload_n 0, 1) := by decide +kernel
theorem dX8_strays_59 : decode cX8_strays 59 = .ok (.aload_n 0, 1) := by decide +kernel
theorem dX8_strays_60 : decode cX8_strays 60 = .ok (.getfield 41, 3) := by decide +kernel
theorem dX8_strays_63 : decode cX8_strays 63 = .ok (.aload_n 0, 1) := by decide +kernel
theorem dX8_strays_64 : decode cX8_strays 64 = .ok (.getfield 71, 3) := by decide +kernel
theorem dX8_strays_67 : decode cX8_strays 67 = .ok (.iload_n 1, 1) := by decide +kernel
theorem dX8_strays_68 : decode cX8_strays 68 = .ok (.iaload, 1) := by decide +kernel
theorem dX8_strays_69 : decode cX8_strays 69 = .ok (.iaload, 1) := by decide +kernel
theorem dX8_strays_70 : decode cX8_strays 70 = .ok (.invokestatic 285, 3) := by decide +kernel
theorem dX8_strays_73 : decode cX8_strays 73 = .ok (.invokevirtual 321, 3) := by decide +kernel
theorem dX8_strays_76 : decode cX8_strays 76 = .ok (.istore_n 3, 1) := by decide +kernel
theorem dX8_strays_77 : decode cX8_strays 77 = .ok (.aload_n 0, 1) := by decide +kernel
theorem dX8_strays_78 : decode cX8_strays 78 = .ok (.getfield 41, 3) := by decide +kernel
theorem dX8_strays_81 : decode cX8_strays 81 = .ok (.aload_n 0, 1) := by decide +kernel
theorem dX8_strays_82 : decode cX8_strays 82 = .ok (.getfield 71, 3) := by decide +kernel
theorem dX8_strays_85 : decode cX8_strays 85 = .ok (.iload_n 1, 1) := by decide +kernel
theorem dX8_strays_86 : decode cX8_strays 86 = .ok (.iaload, 1) := by decide +kernel
theorem dX8_strays_87 : decode cX8_strays 87 = .ok (.iaload, 1) := by decide +kernel
theorem dX8_strays_88 : decode cX8_strays 88 = .ok (.istore 4, 2) := by decide +kernel
theorem dX8_strays_90 : decode cX8_strays 90 = .ok (.iconst 0, 1) := by decide +kernel
theorem dX8_strays_91 : decode cX8_strays 91 = .ok (.istore 5, 2) := by decide +kernel
theorem dX8_strays_93 : decode cX8_strays 93 = .ok (.iload 5, 2) := by decide +kernel
theorem dX8_strays_95 : decode cX8_strays 95 = .ok (.iload_n 3, 1) := by decide +kernel
theorem dX8_strays_96 : decode cX8_strays 96 = .ok (.if_icmp .ge 18, 3) := by decide +kernel
theorem dX8_strays_99 : decode cX8_strays 99 = .ok (.iload 4, 2) := by decide +kernel
theorem dX8_strays_101 : decode cX8_strays 101 = .ok (.iload 4, 2) := by decide +kernel
theorem dX8_strays_103 : decode cX8_strays 103 = .ok (.iconst 1, 1) := by decide +kernel
theorem dX8_strays_104 : decode cX8_strays 104 = .ok (.isub, 1) := by decide +kernel
theorem dX8_strays_105 : decode cX8_strays 105 = .ok (.iand, 1) := by decide +kernel
theorem dX8_strays_106 : decode cX8_strays 106 = .ok (.istore 4, 2) := by decide +kernel
theorem dX8_strays_108 : decode cX8_strays 108 = .ok (.iinc 5 1, 3) := by decide +kernel
theorem dX8_strays_111 : decode cX8_strays 111 = .ok (.goto (-18), 3) := by decide +kernel
theorem dX8_strays_114 : decode cX8_strays 114 = .ok (.iconst 0, 1) := by decide +kernel
theorem dX8_strays_115 : decode cX8_strays 115 = .ok (.istore 5, 2) := by decide +kernel
theorem dX8_strays_117 : decode cX8_strays 117 = .ok (.iload 4, 2) := by decide +kernel
theorem dX8_strays_119 : decode cX8_strays 119 = .ok (.iload 5, 2) := by decide +kernel
theorem dX8_strays_121 : decode cX8_strays 121 = .ok (.ishr, 1) := by decide +kernel
theorem dX8_strays_122 : decode cX8_strays 122 = .ok (.iconst 1, 1) := by decide +kernel
theorem dX8_strays_123 : decode cX8_strays 123 = .ok (.iand, 1) := by decide +kernel
theorem dX8_strays_124 : decode cX8_strays 124 = .ok (.ifCond .ne 9, 3) := by decide +kernel
theorem dX8_strays_127 : decode cX8_strays 127 = .ok (.iinc 5 1, 3) := by decide +kernel
theorem dX8_strays_130 : decode cX8_strays 130 = .ok (.goto (-13), 3) := by decide +kernel
theorem dX8_strays_133 : decode cX8_strays 133 = .ok (.aload_n 0, 1) := by decide +kernel
theorem dX8_strays_134 : decode cX8_strays 134 = .ok (.getfield 71, 3) := by decide +kernel
theorem dX8_strays_137 : decode cX8_strays 137 = .ok (.iload_n 1, 1) := by decide +kernel
theorem dX8_strays_138 : decode cX8_strays 138 = .ok (.iload 5, 2) := by decide +kernel
theorem dX8_strays_140 : decode cX8_strays 140 = .ok (.iastore, 1) := by decide +kernel
theorem dX8_strays_141 : decode cX8_strays 141 = .ok (.return_, 1) := by decide +kernel
set_option maxRecDepth 20000 in
theorem ggX8_drawn_X8_in : GoodIn wsX8_drawn wsX8_in := goodIn_r _ [7] (by decide +kernel) (by decide +kernel)
set_option maxRecDepth 20000 in
theorem gX8_drawn_X8_in : GoodIn wsX8_drawn (va_wsS RX8 91 yX8_in wsX8_in) := goodIn_app (goodIn_of _ (by decide +kernel)) ggX8_drawn_X8_in
set_option maxRecDepth 20000 in
theorem ggX8_drawn_X8_refuse : GoodIn wsX8_drawn wsX8_refuse := goodIn_r _ [11, 12, 50, 51, 52, 53, 54, 55, 56, 57, 58, 59, 60, 61, 62, 63, 64, 65, 66, 67, 68, 69, 70, 71, 72, 73, 74, 75, 76, 77, 78, 79, 80, 81, 82, 83, 84, 85, 86] (by decide +kernel) (by decide +kernel)
set_option maxRecDepth 20000 in
theorem gX8_drawn_X8_refuse : GoodIn wsX8_drawn (wsV RX8 104 RX8 yX8_refuse wsX8_refuse) := goodIn_app (goodIn_of _ (by decide +kernel)) ggX8_drawn_X8_refuse
set_option maxRecDepth 20000 in
theorem ggX8_drawn_X8_begin : GoodIn wsX8_drawn wsX8_begin := goodIn_r _ [16, 2, 17, 18, 19, 3, 50, 51, 52, 53, 54, 55, 56, 57, 58, 59, 60, 61, 62, 63, 64, 65, 66, 67, 68, 69, 70, 71, 72, 73, 74, 75, 76, 77, 78, 79, 80, 81, 82, 83, 84, 85, 86] (by decide +kernel) (by decide +kernel)
set_option maxRecDepth 20000 in
theorem gX8_drawn_X8_begin : GoodIn wsX8_drawn (wsV RX8 125 RX8 yX8_begin wsX8_begin) := goodIn_app (goodIn_of _ (by decide +kernel)) ggX8_drawn_X8_begin
set_option maxRecDepth 20000 in
theorem ggX8_drawn_X8_strays : GoodIn wsX8_drawn wsX8_strays := goodIn_r _ [23, 24, 25, 26, 17, 27, 28, 29, 6, 30, 31, 32, 33, 34, 35, 50, 51, 52, 53, 54, 55, 56, 57, 58, 59, 60, 61, 62, 63, 64, 65, 66, 67, 68, 69, 70, 71, 72, 73, 74, 75, 76, 77, 78, 79, 80, 81, 82, 83, 84, 85, 86] (by decide +kernel) (by decide +kernel)
set_option maxRecDepth 20000 in
theorem gX8_drawn_X8_strays : GoodIn wsX8_drawn (wsV RX8 324 RX8 yX8_strays wsX8_strays) := goodIn_app (goodIn_of _ (by decide +kernel)) ggX8_drawn_X8_strays
set_option maxRecDepth 20000 in
theorem ggX8_drawn_X8_light : GoodIn wsX8_drawn wsX8_light := goodIn_r _ [39, 40, 2, 17, 41, 42, 43, 6, 44, 45, 24, 50, 51, 52, 53, 54, 55, 56, 57, 58, 59, 60, 61, 62, 63, 64, 65, 66, 67, 68, 69, 70, 71, 72, 73, 74, 75, 76, 77, 78, 79, 80, 81, 82, 83, 84, 85, 86] (by decide +kernel) (by decide +kernel)
set_option maxRecDepth 20000 in
theorem gX8_drawn_X8_light : GoodIn wsX8_drawn (wsV RX8 274 RX8 yX8_light wsX8_light) := goodIn_app (goodIn_of _ (by decide +kernel)) ggX8_drawn_X8_light
set_option maxRecDepth 20000 in
theorem ggX8_drawn_X8_bits : GoodIn wsX8_drawn wsX8_bits := goodIn_r _ [35] (by decide +kernel) (by decide +kernel)
set_option maxRecDepth 20000 in
theorem gX8_drawn_X8_bits : GoodIn wsX8_drawn (va_wsS RX8 285 yX8_bits wsX8_bits) := goodIn_app (goodIn_of _ (by decide +kernel)) ggX8_drawn_X8_bits
set_option maxRecDepth 20000 in
theorem ggX8_drawn_X8_stays : GoodIn wsX8_drawn wsX8_stays := goodIn_r _ [49, 2, 18, 17, 3, 19, 50, 51, 52, 53, 54, 55, 56, 57, 58, 59, 60, 61, 62, 63, 64, 65, 66, 67, 68, 69, 70, 71, 72, 73, 74, 75, 76, 77, 78, 79, 80, 81, 82, 83, 84, 85, 86] (by decide +kernel) (by decide +kernel)
set_option maxRecDepth 20000 in
theorem gX8_drawn_X8_stays : GoodIn wsX8_drawn (wsV RX8 318 RX8 yX8_stays wsX8_stays) := goodIn_app (goodIn_of _ (by decide +kernel)) ggX8_drawn_X8_stays
theorem dX8_drawn_0 : decode cX8_drawn 0 = .ok (.iload_n 1, 1) := by decide +kernel
theorem dX8_drawn_1 : decode cX8_drawn 1 = .ok (.i2l, 1) := by decide +kernel
theorem dX8_drawn_2 : decode cX8_drawn 2 = .ok (.lconst 1, 1) := by decide +kernel
theorem dX8_drawn_3 : decode cX8_drawn 3 = .ok (.ldc2_w 277, 3) := by decide +kernel
theorem dX8_drawn_6 : decode cX8_drawn 6 = .ok (.invokestatic 91, 3) := by decide +kernel
theorem dX8_drawn_9 : decode cX8_drawn 9 = .ok (.ifCond .ne 10, 3) := by decide +kernel
theorem dX8_drawn_12 : decode cX8_drawn 12 = .ok (.aload_n 0, 1) := by decide +kernel
theorem dX8_drawn_13 : decode cX8_drawn 13 = .ok (.bipush (-2), 2) := by decide +kernel
theorem dX8_drawn_15 : decode cX8_drawn 15 = .ok (.invokevirtual 104, 3) := by decide +kernel
theorem dX8_drawn_18 : decode cX8_drawn 18 = .ok (.ireturn, 1) := by decide +kernel
theorem dX8_drawn_19 : decode cX8_drawn 19 = .ok (.aload_n 0, 1) := by decide +kernel
theorem dX8_drawn_20 : decode cX8_drawn 20 = .ok (.invokevirtual 125, 3) := by decide +kernel
theorem dX8_drawn_23 : decode cX8_drawn 23 = .ok (.iconst 0, 1) := by decide +kernel
theorem dX8_drawn_24 : decode cX8_drawn 24 = .ok (.istore_n 2, 1) := by decide +kernel
theorem dX8_drawn_25 : decode cX8_drawn 25 = .ok (.iconst 0, 1) := by decide +kernel
theorem dX8_drawn_26 : decode cX8_drawn 26 = .ok (.istore_n 3, 1) := by decide +kernel
theorem dX8_drawn_27 : decode cX8_drawn 27 = .ok (.iload_n 3, 1) := by decide +kernel
theorem dX8_drawn_28 : decode cX8_drawn 28 = .ok (.iload_n 1, 1) := by decide +kernel
theorem dX8_drawn_29 : decode cX8_drawn 29 = .ok (.if_icmp .ge 69, 3) := by decide +kernel
theorem dX8_drawn_32 : decode cX8_drawn 32 = .ok (.iconst 0, 1) := by decide +kernel
theorem dX8_drawn_33 : decode cX8_drawn 33 = .ok (.istore 4, 2) := by decide +kernel
theorem dX8_drawn_35 : decode cX8_drawn 35 = .ok (.iload 4, 2) := by decide +kernel
theorem dX8_drawn_37 : decode cX8_drawn 37 = .ok (.aload_n 0, 1) := by decide +kernel
theorem dX8_drawn_38 : decode cX8_drawn 38 = .ok (.getfield 95, 3) := by decide +kernel
theorem dX8_drawn_41 : decode cX8_drawn 41 = .ok (.if_icmp .ge 15, 3) := by decide +kernel
theorem dX8_drawn_44 : decode cX8_drawn 44 = .ok (.aload_n 0, 1) := by decide +kernel
theorem dX8_drawn_45 : decode cX8_drawn 45 = .ok (.iload 4, 2) := by decide +kernel
theorem dX8_drawn_47 : decode cX8_drawn 47 = .ok (.invokevirtual 324, 3) := by decide +kernel
theorem dX8_drawn_50 : decode cX8_drawn 50 = .ok (.iinc 4 1, 3) := by decide +kernel
theorem dX8_drawn_53 : decode cX8_drawn 53 = .ok (.goto (-18), 3) := by decide +kernel
theorem dX8_drawn_56 : decode cX8_drawn 56 = .ok (.aload_n 0, 1) := by decide +kernel
theorem dX8_drawn_57 : decode cX8_drawn 57 = .ok (.aload_n 0, 1) := by decide +kernel
theorem dX8_drawn_58 : decode cX8_drawn 58 = .ok (.getfield 254, 3) := by decide +kernel
theorem dX8_drawn_61 : decode cX8_drawn 61 = .ok (.sipush 9999, 3) := by decide +kernel
theorem dX8_drawn_64 : decode cX8_drawn 64 = .ok (.if_icmp .ge 12, 3) := by decide +kernel
theorem dX8_drawn_67 : decode cX8_drawn 67 = .ok (.aload_n 0, 1) := by decide +kernel
theorem dX8_drawn_68 : decode cX8_drawn 68 = .ok (.getfield 254, 3) := by decide +kernel
theorem dX8_drawn_71 : decode cX8_drawn 71 = .ok (.iconst 1, 1) := by decide +kernel
theorem dX8_drawn_72 : decode cX8_drawn 72 = .ok (.iadd, 1) := by decide +kernel
theorem dX8_drawn_73 : decode cX8_drawn 73 = .ok (.goto 6, 3) := by decide +kernel
theorem dX8_drawn_76 : decode cX8_drawn 76 = .ok (.sipush 9999, 3) := by decide +kernel
theorem dX8_drawn_79 : decode cX8_drawn 79 = .ok (.putfield 254, 3) := by decide +kernel
theorem dX8_drawn_82 : decode cX8_drawn 82 = .ok (.iload_n 2, 1) := by decide +kernel
theorem dX8_drawn_83 : decode cX8_drawn 83 = .ok (.aload_n 0, 1) := by decide +kernel
theorem dX8_drawn_84 : decode cX8_drawn 84 = .ok (.invokevirtual 274, 3) := by decide +kernel
theorem dX8_drawn_87 : decode cX8_drawn 87 = .ok (.invokestatic 285, 3) := by decide +kernel
theorem dX8_drawn_90 : decode cX8_drawn 90 = .ok (.iadd, 1) := by decide +kernel
theorem dX8_drawn_91 : decode cX8_drawn 91 = .ok (.istore_n 2, 1) := by decide +kernel
theorem dX8_drawn_92 : decode cX8_drawn 92 = .ok (.iinc 3 1, 3) := by decide +kernel
theorem dX8_drawn_95 : decode cX8_drawn 95 = .ok (.goto (-68), 3) := by decide +kernel
theorem dX8_drawn_98 : decode cX8_drawn 98 = .ok (.aload_n 0, 1) := by decide +kernel
theorem dX8_drawn_99 : decode cX8_drawn 99 = .ok (.invokevirtual 318, 3) := by decide +kernel
theorem dX8_drawn_102 : decode cX8_drawn 102 = .ok (.iload_n 2, 1) := by decide +kernel
theorem dX8_drawn_103 : decode cX8_drawn 103 = .ok (.ireturn, 1) := by decide +kernel
theorem dX8_seed_0 : decode cX8_seed 0 = .ok (.aload_n 0, 1) := by decide +kernel
theorem dX8_seed_1 : decode cX8_seed 1 = .ok (.getfield 62, 3) := by decide +kernel
theorem dX8_seed_4 : decode cX8_seed 4 = .ok (.istore_n 2, 1) := by decide +kernel
theorem dX8_seed_5 : decode cX8_seed 5 = .ok (.aload_n 0, 1) := by decide +kernel
theorem dX8_seed_6 : decode cX8_seed 6 = .ok (.iload_n 1, 1) := by decide +kernel
theorem dX8_seed_7 : decode cX8_seed 7 = .ok (.putfield 62, 3) := by decide +kernel
theorem dX8_seed_10 : decode cX8_seed 10 = .ok (.iload_n 2, 1) := by decide +kernel
theorem dX8_seed_11 : decode cX8_seed 11 = .ok (.ireturn, 1) := by decide +kernel
theorem dX8_copied_0 : decode cX8_copied 0 = .ok (.iconst 0, 1) := by decide +kernel
theorem dX8_copied_1 : decode cX8_copied 1 = .ok (.istore_n 2, 1) := by decide +kernel
theorem dX8_copied_2 : decode cX8_copied 2 = .ok (.iload_n 2, 1) := by decide +kernel
theorem dX8_copied_3 : decode cX8_copied 3 = .ok (.aload_n 0, 1) := by decide +kernel
theorem dX8_copied_4 : decode cX8_copied 4 = .ok (.arraylength, 1) := by decide +kernel
theorem dX8_copied_5 : decode cX8_copied 5 = .ok (.if_icmp .ge 15, 3) := by decide +kernel
theorem dX8_copied_8 : decode cX8_copied 8 = .ok (.aload_n 1, 1) := by decide +kernel
theorem dX8_copied_9 : decode cX8_copied 9 = .ok (.iload_n 2, 1) := by decide +kernel
theorem dX8_copied_10 : decode cX8_copied 10 = .ok (.aload_n 0, 1) := by decide +kernel
theorem dX8_copied_11 : decode cX8_copied 11 = .ok (.iload_n 2, 1) := by decide +kernel
theorem dX8_copied_12 : decode cX8_copied 12 = .ok (.iaload, 1) := by decide +kernel
theorem dX8_copied_13 : decode cX8_copied 13 = .ok (.iastore, 1) := by decide +kernel
theorem dX8_copied_14 : decode cX8_copied 14 = .ok (.iinc 2 1, 3) := by decide +kernel
theorem dX8_copied_17 : decode cX8_copied 17 = .ok (.goto (-15), 3) := by decide +kernel
theorem dX8_copied_20 : decode cX8_copied 20 = .ok (.return_, 1) := by decide +kernel
set_option maxRecDepth 20000 in
theorem ggX8_takeFrom_X8_copied : GoodIn wsX8_takeFrom wsX8_copied := goodIn_r _ [15] (by decide +kernel) (by decide +kernel)
set_option maxRecDepth 20000 in
theorem gX8_takeFrom_X8_copied : GoodIn wsX8_takeFrom (va_wsS RX8 327 yX8_copied wsX8_copied) := goodIn_app (goodIn_of _ (by decide +kernel)) ggX8_takeFrom_X8_copied
theorem dX8_takeFrom_0 : decode cX8_takeFrom 0 = .ok (.aload_n 0, 1) := by decide +kernel
theorem dX8_takeFrom_1 : decode cX8_takeFrom 1 = .ok (.aload_n 1, 1) := by decide +kernel
theorem dX8_takeFrom_2 : decode cX8_takeFrom 2 = .ok (.getfield 37, 3) := by decide +kernel
theorem dX8_takeFrom_5 : decode cX8_takeFrom 5 = .ok (.putfield 37, 3) := by decide +kernel
theorem dX8_takeFrom_8 : decode cX8_takeFrom 8 = .ok (.aload_n 1, 1) := by decide +kernel
theorem dX8_takeFrom_9 : decode cX8_takeFrom 9 = .ok (.getfield 41, 3) := by decide +kernel
theorem dX8_takeFrom_12 : decode cX8_takeFrom 12 = .ok (.aload_n 0, 1) := by decide +kernel
theorem dX8_takeFrom_13 : decode cX8_takeFrom 13 = .ok (.getfield 41, 3) := by decide +kernel
theorem dX8_takeFrom_16 : decode cX8_takeFrom 16 = .ok (.invokestatic 327, 3) := by decide +kernel
theorem dX8_takeFrom_19 : decode cX8_takeFrom 19 = .ok (.aload_n 0, 1) := by decide +kernel
theorem dX8_takeFrom_20 : decode cX8_takeFrom 20 = .ok (.aload_n 1, 1) := by decide +kernel
theorem dX8_takeFrom_21 : decode cX8_takeFrom 21 = .ok (.getfield 95, 3) := by decide +kernel
theorem dX8_takeFrom_24 : decode cX8_takeFrom 24 = .ok (.putfield 95, 3) := by decide +kernel
theorem dX8_takeFrom_27 : decode cX8_takeFrom 27 = .ok (.aload_n 1, 1) := by decide +kernel
theorem dX8_takeFrom_28 : decode cX8_takeFrom 28 = .ok (.getfield 44, 3) := by decide +kernel
theorem dX8_takeFrom_31 : decode cX8_takeFrom 31 = .ok (.aload_n 0, 1) := by decide +kernel
theorem dX8_takeFrom_32 : decode cX8_takeFrom 32 = .ok (.getfield 44, 3) := by decide +kernel
theorem dX8_takeFrom_35 : decode cX8_takeFrom 35 = .ok (.invokestatic 327, 3) := by decide +kernel
theorem dX8_takeFrom_38 : decode cX8_takeFrom 38 = .ok (.aload_n 1, 1) := by decide +kernel
theorem dX8_takeFrom_39 : decode cX8_takeFrom 39 = .ok (.getfield 47, 3) := by decide +kernel
theorem dX8_takeFrom_42 : decode cX8_takeFrom 42 = .ok (.aload_n 0, 1) := by decide +kernel
theorem dX8_takeFrom_43 : decode cX8_takeFrom 43 = .ok (.getfield 47, 3) := by decide +kernel
theorem dX8_takeFrom_46 : decode cX8_takeFrom 46 = .ok (.invokestatic 327, 3) := by decide +kernel
theorem dX8_takeFrom_49 : decode cX8_takeFrom 49 = .ok (.aload_n 1, 1) := by decide +kernel
theorem dX8_takeFrom_50 : decode cX8_takeFrom 50 = .ok (.getfield 50, 3) := by decide +kernel
theorem dX8_takeFrom_53 : decode cX8_takeFrom 53 = .ok (.aload_n 0, 1) := by decide +kernel
theorem dX8_takeFrom_54 : decode cX8_takeFrom 54 = .ok (.getfield 50, 3) := by decide +kernel
theorem dX8_takeFrom_57 : decode cX8_takeFrom 57 = .ok (.invokestatic 327, 3) := by decide +kernel
theorem dX8_takeFrom_60 : decode cX8_takeFrom 60 = .ok (.aload_n 1, 1) := by decide +kernel
theorem dX8_takeFrom_61 : decode cX8_takeFrom 61 = .ok (.getfield 53, 3) := by decide +kernel
theorem dX8_takeFrom_64 : decode cX8_takeFrom 64 = .ok (.aload_n 0, 1) := by decide +kernel
theorem dX8_takeFrom_65 : decode cX8_takeFrom 65 = .ok (.getfield 53, 3) := by decide +kernel
theorem dX8_takeFrom_68 : decode cX8_takeFrom 68 = .ok (.invokestatic 327, 3) := by decide +kernel
theorem dX8_takeFrom_71 : decode cX8_takeFrom 71 = .ok (.aload_n 1, 1) := by decide +kernel
theorem dX8_takeFrom_72 : decode cX8_takeFrom 72 = .ok (.getfield 56, 3) := by decide +kernel
theorem dX8_takeFrom_75 : decode cX8_takeFrom 75 = .ok (.aload_n 0, 1) := by decide +kernel
theorem dX8_takeFrom_76 : decode cX8_takeFrom 76 = .ok (.getfield 56, 3) := by decide +kernel
theorem dX8_takeFrom_79 : decode cX8_takeFrom 79 = .ok (.invokestatic 327, 3) := by decide +kernel
theorem dX8_takeFrom_82 : decode cX8_takeFrom 82 = .ok (.aload_n 0, 1) := by decide +kernel
theorem dX8_takeFrom_83 : decode cX8_takeFrom 83 = .ok (.aload_n 1, 1) := by decide +kernel
theorem dX8_takeFrom_84 : decode cX8_takeFrom 84 = .ok (.getfield 153, 3) := by decide +kernel
theorem dX8_takeFrom_87 : decode cX8_takeFrom 87 = .ok (.putfield 153, 3) := by decide +kernel
theorem dX8_takeFrom_90 : decode cX8_takeFrom 90 = .ok (.aload_n 0, 1) := by decide +kernel
theorem dX8_takeFrom_91 : decode cX8_takeFrom 91 = .ok (.aload_n 1, 1) := by decide +kernel
theorem dX8_takeFrom_92 : decode cX8_takeFrom 92 = .ok (.getfield 59, 3) := by decide +kernel
theorem dX8_takeFrom_95 : decode cX8_takeFrom 95 = .ok (.putfield 59, 3) := by decide +kernel
theorem dX8_takeFrom_98 : decode cX8_takeFrom 98 = .ok (.aload_n 0, 1) := by decide +kernel
theorem dX8_takeFrom_99 : decode cX8_takeFrom 99 = .ok (.aload_n 1, 1) := by decide +kernel
theorem dX8_takeFrom_100 : decode cX8_takeFrom 100 = .ok (.getfield 62, 3) := by decide +kernel
theorem dX8_takeFrom_103 : decode cX8_takeFrom 103 = .ok (.putfield 62, 3) := by decide +kernel
theorem dX8_takeFrom_106 : decode cX8_takeFrom 106 = .ok (.return_, 1) := by decide +kernel
set_option maxRecDepth 20000 in
theorem ggX8_image_X8_init : GoodIn wsX8_image wsX8_init := goodIn_r _ [7, 8, 9, 10, 11, 12, 13, 14, 15, 16, 17, 18, 19, 20, 21, 22, 23, 24, 25, 26, 27, 28, 29, 30, 31, 32, 33, 34, 35, 36, 37, 38, 39, 49, 50, 51, 52, 53, 54, 55, 56, 57, 58, 59, 60, 61, 62, 63, 64, 65, 66, 67, 68, 69, 70, 71, 72, 73, 74, 75, 76, 77, 78, 79, 80, 81, 82, 83, 84, 85] (by decide +kernel) (by decide +kernel)
set_option maxRecDepth 20000 in
theorem gX8_image_X8_init : GoodIn wsX8_image (wsX8_init) := ggX8_image_X8_init
set_option maxRecDepth 20000 in
theorem ggX8_image_X8_takeFrom : GoodIn wsX8_image wsX8_takeFrom := goodIn_r _ [43, 22, 23, 44, 24, 25, 26, 27, 28, 45, 29, 30, 46, 47, 4, 48, 49, 50, 51, 52, 53, 54, 55, 56, 57, 58, 59, 60, 61, 62, 63, 64, 65, 66, 67, 68, 69, 70, 71, 72, 73, 74, 75, 76, 77, 78, 79, 80, 81, 82, 83, 84, 85] (by decide +kernel) (by decide +kernel)
set_option maxRecDepth 20000 in
theorem gX8_image_X8_takeFrom : GoodIn wsX8_image (wsV RX8 237 RX8 yX8_takeFrom wsX8_takeFrom) := goodIn_app (goodIn_of _ (by decide +kernel)) ggX8_image_X8_takeFrom
theorem dX8_image_0 : decode cX8_image 0 = .ok (.aload_n 0, 1) := by decide +kernel
theorem dX8_image_1 : decode cX8_image 1 = .ok (.getfield 331, 3) := by decide +kernel
theorem dX8_image_4 : decode cX8_image 4 = .ok (.ifnonnull 14, 3) := by decide +kernel
theorem dX8_image_7 : decode cX8_image 7 = .ok (.aload_n 0, 1) := by decide +kernel
theorem dX8_image_8 : decode cX8_image 8 = .ok (.new 8, 3) := by decide +kernel
theorem dX8_image_11 : decode cX8_image 11 = .ok (.dup, 1) := by decide +kernel
theorem dX8_image_12 : decode cX8_image 12 = .ok (.invokespecial 236, 3) := by decide +kernel
theorem dX8_image_15 : decode cX8_image 15 = .ok (.putfield 331, 3) := by decide +kernel
theorem dX8_image_18 : decode cX8_image 18 = .ok (.aload_n 0, 1) := by decide +kernel
theorem dX8_image_19 : decode cX8_image 19 = .ok (.getfield 331, 3) := by decide +kernel
theorem dX8_image_22 : decode cX8_image 22 = .ok (.aload_n 0, 1) := by decide +kernel
theorem dX8_image_23 : decode cX8_image 23 = .ok (.invokevirtual 237, 3) := by decide +kernel
theorem dX8_image_26 : decode cX8_image 26 = .ok (.iconst 1, 1) := by decide +kernel
theorem dX8_image_27 : decode cX8_image 27 = .ok (.ireturn, 1) := by decide +kernel
set_option maxRecDepth 20000 in
theorem ggX8_back_X8_refuse : GoodIn wsX8_back wsX8_refuse := goodIn_r _ [9, 10, 28, 29, 30, 31, 32, 33, 34, 35, 36, 37, 38, 39, 40, 41, 42, 43, 44, 45, 46, 47, 48, 49, 50, 51, 52, 53, 54, 55, 56, 57, 58, 59, 60, 61, 62, 63, 64] (by decide +kernel) (by decide +kernel)
set_option maxRecDepth 20000 in
theorem gX8_back_X8_refuse : GoodIn wsX8_back (wsV RX8 104 RX8 yX8_refuse wsX8_refuse) := goodIn_app (goodIn_of _ (by decide +kernel)) ggX8_back_X8_refuse
set_option maxRecDepth 20000 in
theorem ggX8_back_X8_takeFrom : GoodIn wsX8_back wsX8_takeFrom := goodIn_r _ [14, 15, 16, 4, 17, 18, 19, 20, 21, 22, 23, 24, 25, 26, 8, 27, 28, 29, 30, 31, 32, 33, 34, 35, 36, 37, 38, 39, 40, 41, 42, 43, 44, 45, 46, 47, 48, 49, 50, 51, 52, 53, 54, 55, 56, 57, 58, 59, 60, 61, 62, 63, 64] (by decide +kernel) (by decide +kernel)
set_option maxRecDepth 20000 in
theorem gX8_back_X8_takeFrom : GoodIn wsX8_back (wsV RX8 237 RX8 yX8_takeFrom wsX8_takeFrom) := goodIn_app (goodIn_of _ (by decide +kernel)) ggX8_back_X8_takeFrom
theorem dX8_back_0 : decode cX8_back 0 = .ok (.aload_n 0, 1) := by decide +kernel
theorem dX8_back_1 : decode cX8_back 1 = .ok (.getfield 331, 3) := by decide +kernel
theorem dX8_back_4 : decode cX8_back 4 = .ok (.ifnonnull 10, 3) := by decide +kernel
theorem dX8_back_7 : decode cX8_back 7 = .ok (.aload_n 0, 1) := by decide +kernel
theorem dX8_back_8 : decode cX8_back 8 = .ok (.bipush (-5), 2) := by decide +kernel
theorem dX8_back_10 : decode cX8_back 10 = .ok (.invokevirtual 104, 3) := by decide +kernel
theorem dX8_back_13 : decode cX8_back 13 = .ok (.ireturn, 1) := by decide +kernel
theorem dX8_back_14 : decode cX8_back 14 = .ok (.aload_n 0, 1) := by decide +kernel
theorem dX8_back_15 : decode cX8_back 15 = .ok (.aload_n 0, 1) := by decide +kernel
theorem dX8_back_16 : decode cX8_back 16 = .ok (.getfield 331, 3) := by decide +kernel
theorem dX8_back_19 : decode cX8_back 19 = .ok (.invokevirtual 237, 3) := by decide +kernel
theorem dX8_back_22 : decode cX8_back 22 = .ok (.iconst 0, 1) := by decide +kernel
theorem dX8_back_23 : decode cX8_back 23 = .ok (.istore_n 1, 1) := by decide +kernel
theorem dX8_back_24 : decode cX8_back 24 = .ok (.iload_n 1, 1) := by decide +kernel
theorem dX8_back_25 : decode cX8_back 25 = .ok (.bipush 8, 2) := by decide +kernel
theorem dX8_back_27 : decode cX8_back 27 = .ok (.if_icmp .ge 39, 3) := by decide +kernel
theorem dX8_back_30 : decode cX8_back 30 = .ok (.aload_n 0, 1) := by decide +kernel
theorem dX8_back_31 : decode cX8_back 31 = .ok (.getfield 7, 3) := by decide +kernel
theorem dX8_back_34 : decode cX8_back 34 = .ok (.iload_n 1, 1) := by decide +kernel
theorem dX8_back_35 : decode cX8_back 35 = .ok (.iaload, 1) := by decide +kernel
theorem dX8_back_36 : decode cX8_back 36 = .ok (.iconst 2, 1) := by decide +kernel
theorem dX8_back_37 : decode cX8_back 37 = .ok (.if_icmp .ne 23, 3) := by decide +kernel
theorem dX8_back_40 : decode cX8_back 40 = .ok (.aload_n 0, 1) := by decide +kernel
theorem dX8_back_41 : decode cX8_back 41 = .ok (.getfield 28, 3) := by decide +kernel
theorem dX8_back_44 : decode cX8_back 44 = .ok (.iload_n 1, 1) := by decide +kernel
theorem dX8_back_45 : decode cX8_back 45 = .ok (.iaload, 1) := by decide +kernel
theorem dX8_back_46 : decode cX8_back 46 = .ok (.aload_n 0, 1) := by decide +kernel
theorem dX8_back_47 : decode cX8_back 47 = .ok (.getfield 95, 3) := by decide +kernel
theorem dX8_back_50 : decode cX8_back 50 = .ok (.if_icmp .lt 10, 3) := by decide +kernel
theorem dX8_back_53 : decode cX8_back 53 = .ok (.aload_n 0, 1) := by decide +kernel
theorem dX8_back_54 : decode cX8_back 54 = .ok (.getfield 7, 3) := by decide +kernel
theorem dX8_back_57 : decode cX8_back 57 = .ok (.iload_n 1, 1) := by decide +kernel
theorem dX8_back_58 : decode cX8_back 58 = .ok (.iconst 0, 1) := by decide +kernel
theorem dX8_back_59 : decode cX8_back 59 = .ok (.iastore, 1) := by decide +kernel
theorem dX8_back_60 : decode cX8_back 60 = .ok (.iinc 1 1, 3) := by decide +kernel
theorem dX8_back_63 : decode cX8_back 63 = .ok (.goto (-39), 3) := by decide +kernel
theorem dX8_back_66 : decode cX8_back 66 = .ok (.iconst 1, 1) := by decide +kernel
theorem dX8_back_67 : decode cX8_back 67 = .ok (.ireturn, 1) := by decide +kernel
set_option maxRecDepth 20000 in
theorem ggX8_status_X8_bits : GoodIn wsX8_status wsX8_bits := goodIn_r _ [15] (by decide +kernel) (by decide +kernel)
set_option maxRecDepth 20000 in
theorem gX8_status_X8_bits : GoodIn wsX8_status (va_wsS RX8 285 yX8_bits wsX8_bits) := goodIn_app (goodIn_of _ (by decide +kernel)) ggX8_status_X8_bits
set_option maxRecDepth 20000 in
theorem ggX8_status_X8_begin : GoodIn wsX8_status wsX8_begin := goodIn_r _ [19, 3, 20, 21, 4, 22, 36, 37, 38, 39, 40, 41, 42, 43, 44, 45, 46, 47, 48, 49, 50, 51, 52, 53, 54, 55, 56, 57, 58, 59, 60, 61, 62, 63, 64, 65, 66, 67, 68, 69, 70, 71, 72] (by decide +kernel) (by decide +kernel)
set_option maxRecDepth 20000 in
theorem gX8_status_X8_begin : GoodIn wsX8_status (wsV RX8 125 RX8 yX8_begin wsX8_begin) := goodIn_app (goodIn_of _ (by decide +kernel)) ggX8_status_X8_begin
set_option maxRecDepth 20000 in
theorem ggX8_status_X8_light : GoodIn wsX8_status wsX8_light := goodIn_r _ [26, 1, 3, 20, 27, 28, 29, 14, 30, 31, 32, 36, 37, 38, 39, 40, 41, 42, 43, 44, 45, 46, 47, 48, 49, 50, 51, 52, 53, 54, 55, 56, 57, 58, 59, 60, 61, 62, 63, 64, 65, 66, 67, 68, 69, 70, 71, 72] (by decide +kernel) (by decide +kernel)
set_option maxRecDepth 20000 in
theorem gX8_status_X8_light : GoodIn wsX8_status (wsV RX8 274 RX8 yX8_light wsX8_light) := goodIn_app (goodIn_of _ (by decide +kernel)) ggX8_status_X8_light
set_option maxRecDepth 20000 in
theorem ggX8_status_X8_in : GoodIn wsX8_status wsX8_in := goodIn_r _ [35] (by decide +kernel) (by decide +kernel)
set_option maxRecDepth 20000 in
theorem gX8_status_X8_in : GoodIn wsX8_status (va_wsS RX8 91 yX8_in wsX8_in) := goodIn_app (goodIn_of _ (by decide +kernel)) ggX8_status_X8_in
theorem dX8_status_0 : decode cX8_status 0 = .ok (.iconst 0, 1) := by decide +kernel
theorem dX8_status_1 : decode cX8_status 1 = .ok (.istore_n 2, 1) := by decide +kernel
theorem dX8_status_2 : decode cX8_status 2 = .ok (.iload_n 1, 1) := by decide +kernel
theorem dX8_status_3 : decode cX8_status 3 = .ok (.tableswitch 153 0 8 #[49, 54, 86, 91, 96, 101, 110, 115, 120], 49) := by decide +kernel
theorem dX8_status_52 : decode cX8_status 52 = .ok (.aload_n 0, 1) := by decide +kernel
theorem dX8_status_53 : decode cX8_status 53 = .ok (.getfield 37, 3) := by decide +kernel
theorem dX8_status_56 : decode cX8_status 56 = .ok (.ireturn, 1) := by decide +kernel
theorem dX8_status_57 : decode cX8_status 57 = .ok (.iconst 0, 1) := by decide +kernel
theorem dX8_status_58 : decode cX8_status 58 = .ok (.istore_n 3, 1) := by decide +kernel
theorem dX8_status_59 : decode cX8_status 59 = .ok (.iload_n 3, 1) := by decide +kernel
theorem dX8_status_60 : decode cX8_status 60 = .ok (.aload_n 0, 1) := by decide +kernel
theorem dX8_status_61 : decode cX8_status 61 = .ok (.getfield 37, 3) := by decide +kernel
theorem dX8_status_64 : decode cX8_status 64 = .ok (.if_icmp .ge 21, 3) := by decide +kernel
theorem dX8_status_67 : decode cX8_status 67 = .ok (.iload_n 2, 1) := by decide +kernel
theorem dX8_status_68 : decode cX8_status 68 = .ok (.aload_n 0, 1) := by decide +kernel
theorem dX8_status_69 : decode cX8_status 69 = .ok (.getfield 41, 3) := by decide +kernel
theorem dX8_status_72 : decode cX8_status 72 = .ok (.iload_n 3, 1) := by decide +kernel
theorem dX8_status_73 : decode cX8_status 73 = .ok (.iaload, 1) := by decide +kernel
theorem dX8_status_74 : decode cX8_status 74 = .ok (.invokestatic 285, 3) := by decide +kernel
theorem dX8_status_77 : decode cX8_status 77 = .ok (.iadd, 1) := by decide +kernel
theorem dX8_status_78 : decode cX8_status 78 = .ok (.istore_n 2, 1) := by decide +kernel
theorem dX8_status_79 : decode cX8_status 79 = .ok (.iinc 3 1, 3) := by decide +kernel
theorem dX8_status_82 : decode cX8_status 82 = .ok (.goto (-23), 3) := by decide +kernel
theorem dX8_status_85 : decode cX8_status 85 = .ok (.iload_n 2, 1) := by decide +kernel
theorem dX8_status_86 : decode cX8_status 86 = .ok (.iconst 2, 1) := by decide +kernel
theorem dX8_status_87 : decode cX8_status 87 = .ok (.idiv, 1) := by decide +kernel
theorem dX8_status_88 : decode cX8_status 88 = .ok (.ireturn, 1) := by decide +kernel
theorem dX8_status_89 : decode cX8_status 89 = .ok (.aload_n 0, 1) := by decide +kernel
theorem dX8_status_90 : decode cX8_status 90 = .ok (.getfield 95, 3) := by decide +kernel
theorem dX8_status_93 : decode cX8_status 93 = .ok (.ireturn, 1) := by decide +kernel
theorem dX8_status_94 : decode cX8_status 94 = .ok (.aload_n 0, 1) := by decide +kernel
theorem dX8_status_95 : decode cX8_status 95 = .ok (.getfield 153, 3) := by decide +kernel
theorem dX8_status_98 : decode cX8_status 98 = .ok (.ireturn, 1) := by decide +kernel
theorem dX8_status_99 : decode cX8_status 99 = .ok (.aload_n 0, 1) := by decide +kernel
theorem dX8_status_100 : decode cX8_status 100 = .ok (.getfield 59, 3) := by decide +kernel
theorem dX8_status_103 : decode cX8_status 103 = .ok (.ireturn, 1) := by decide +kernel
theorem dX8_status_104 : decode cX8_status 104 = .ok (.aload_n 0, 1) := by decide +kernel
theorem dX8_status_105 : decode cX8_status 105 = .ok (.invokevirtual 125, 3) := by decide +kernel
theorem dX8_status_108 : decode cX8_status 108 = .ok (.aload_n 0, 1) := by decide +kernel
theorem dX8_status_109 : decode cX8_status 109 = .ok (.invokevirtual 274, 3) := by decide +kernel
theorem dX8_status_112 : decode cX8_status 112 = .ok (.ireturn, 1) := by decide +kernel
theorem dX8_status_113 : decode cX8_status 113 = .ok (.aload_n 0, 1) := by decide +kernel
theorem dX8_status_114 : decode cX8_status 114 = .ok (.getfield 158, 3) := by decide +kernel
theorem dX8_status_117 : decode cX8_status 117 = .ok (.ireturn, 1) := by decide +kernel
theorem dX8_status_118 : decode cX8_status 118 = .ok (.aload_n 0, 1) := by decide +kernel
theorem dX8_status_119 : decode cX8_status 119 = .ok (.getfield 62, 3) := by decide +kernel
theorem dX8_status_122 : decode cX8_status 122 = .ok (.ireturn, 1) := by decide +kernel
theorem dX8_status_123 : decode cX8_status 123 = .ok (.iconst 0, 1) := by decide +kernel
theorem dX8_status_124 : decode cX8_status 124 = .ok (.istore_n 3, 1) := by decide +kernel
theorem dX8_status_125 : decode cX8_status 125 = .ok (.iload_n 3, 1) := by decide +kernel
theorem dX8_status_126 : decode cX8_status 126 = .ok (.bipush 8, 2) := by decide +kernel
theorem dX8_status_128 : decode cX8_status 128 = .ok (.if_icmp .ge 26, 3) := by decide +kernel
theorem dX8_status_131 : decode cX8_status 131 = .ok (.iload_n 2, 1) := by decide +kernel
theorem dX8_status_132 : decode cX8_status 132 = .ok (.aload_n 0, 1) := by decide +kernel
theorem dX8_status_133 : decode cX8_status 133 = .ok (.getfield 7, 3) := by decide +kernel
theorem dX8_status_136 : decode cX8_status 136 = .ok (.iload_n 3, 1) := by decide +kernel
theorem dX8_status_137 : decode cX8_status 137 = .ok (.iaload, 1) := by decide +kernel
theorem dX8_status_138 : decode cX8_status 138 = .ok (.ifCond .eq 7, 3) := by decide +kernel
theorem dX8_status_141 : decode cX8_status 141 = .ok (.iconst 1, 1) := by decide +kernel
theorem dX8_status_142 : decode cX8_status 142 = .ok (.goto 4, 3) := by decide +kernel
theorem dX8_status_145 : decode cX8_status 145 = .ok (.iconst 0, 1) := by decide +kernel
theorem dX8_status_146 : decode cX8_status 146 = .ok (.iadd, 1) := by decide +kernel
theorem dX8_status_147 : decode cX8_status 147 = .ok (.istore_n 2, 1) := by decide +kernel
theorem dX8_status_148 : decode cX8_status 148 = .ok (.iinc 3 1, 3) := by decide +kernel
theorem dX8_status_151 : decode cX8_status 151 = .ok (.goto (-26), 3) := by decide +kernel
theorem dX8_status_154 : decode cX8_status 154 = .ok (.iload_n 2, 1) := by decide +kernel
theorem dX8_status_155 : decode cX8_status 155 = .ok (.ireturn, 1) := by decide +kernel
theorem dX8_status_156 : decode cX8_status 156 = .ok (.iload_n 1, 1) := by decide +kernel
theorem dX8_status_157 : decode cX8_status 157 = .ok (.i2l, 1) := by decide +kernel
theorem dX8_status_158 : decode cX8_status 158 = .ok (.ldc2_w 131, 3) := by decide +kernel
theorem dX8_status_161 : decode cX8_status 161 = .ok (.ldc2_w 334, 3) := by decide +kernel
theorem dX8_status_164 : decode cX8_status 164 = .ok (.invokestatic 91, 3) := by decide +kernel
theorem dX8_status_167 : decode cX8_status 167 = .ok (.ifCond .eq 15, 3) := by decide +kernel
theorem dX8_status_170 : decode cX8_status 170 = .ok (.aload_n 0, 1) := by decide +kernel
theorem dX8_status_171 : decode cX8_status 171 = .ok (.getfield 34, 3) := by decide +kernel
theorem dX8_status_174 : decode cX8_status 174 = .ok (.iload_n 1, 1) := by decide +kernel
theorem dX8_status_175 : decode cX8_status 175 = .ok (.bipush 10, 2) := by decide +kernel
theorem dX8_status_177 : decode cX8_status 177 = .ok (.isub, 1) := by decide +kernel
theorem dX8_status_178 : decode cX8_status 178 = .ok (.iaload, 1) := by decide +kernel
theorem dX8_status_179 : decode cX8_status 179 = .ok (.goto 4, 3) := by decide +kernel
theorem dX8_status_182 : decode cX8_status 182 = .ok (.iconst (-1), 1) := by decide +kernel
theorem dX8_status_183 : decode cX8_status 183 = .ok (.ireturn, 1) := by decide +kernel
theorem dJ6_bitCount_0f7a4_0 : decode cJ6_bitCount_0f7a4 0 = .ok (.iload_n 0, 1) := by decide +kernel
theorem dJ6_bitCount_0f7a4_1 : decode cJ6_bitCount_0f7a4 1 = .ok (.iload_n 0, 1) := by decide +kernel
theorem dJ6_bitCount_0f7a4_2 : decode cJ6_bitCount_0f7a4 2 = .ok (.iconst 1, 1) := by decide +kernel
theorem dJ6_bitCount_0f7a4_3 : decode cJ6_bitCount_0f7a4 3 = .ok (.iushr, 1) := by decide +kernel
theorem dJ6_bitCount_0f7a4_4 : decode cJ6_bitCount_0f7a4 4 = .ok (.ldc_w 265, 3) := by decide +kernel
theorem dJ6_bitCount_0f7a4_7 : decode cJ6_bitCount_0f7a4 7 = .ok (.iand, 1) := by decide +kernel
theorem dJ6_bitCount_0f7a4_8 : decode cJ6_bitCount_0f7a4 8 = .ok (.isub, 1) := by decide +kernel
theorem dJ6_bitCount_0f7a4_9 : decode cJ6_bitCount_0f7a4 9 = .ok (.istore_n 0, 1) := by decide +kernel
theorem dJ6_bitCount_0f7a4_10 : decode cJ6_bitCount_0f7a4 10 = .ok (.iload_n 0, 1) := by decide +kernel
theorem dJ6_bitCount_0f7a4_11 : decode cJ6_bitCount_0f7a4 11 = .ok (.ldc_w 266, 3) := by decide +kernel
theorem dJ6_bitCount_0f7a4_14 : decode cJ6_bitCount_0f7a4 14 = .ok (.iand, 1) := by decide +kernel
theorem dJ6_bitCount_0f7a4_15 : decode cJ6_bitCount_0f7a4 15 = .ok (.iload_n 0, 1) := by decide +kernel
theorem dJ6_bitCount_0f7a4_16 : decode cJ6_bitCount_0f7a4 16 = .ok (.iconst 2, 1) := by decide +kernel
theorem dJ6_bitCount_0f7a4_17 : decode cJ6_bitCount_0f7a4 17 = .ok (.iushr, 1) := by decide +kernel
theorem dJ6_bitCount_0f7a4_18 : decode cJ6_bitCount_0f7a4 18 = .ok (.ldc_w 266, 3) := by decide +kernel
theorem dJ6_bitCount_0f7a4_21 : decode cJ6_bitCount_0f7a4 21 = .ok (.iand, 1) := by decide +kernel
theorem dJ6_bitCount_0f7a4_22 : decode cJ6_bitCount_0f7a4 22 = .ok (.iadd, 1) := by decide +kernel
theorem dJ6_bitCount_0f7a4_23 : decode cJ6_bitCount_0f7a4 23 = .ok (.istore_n 0, 1) := by decide +kernel
theorem dJ6_bitCount_0f7a4_24 : decode cJ6_bitCount_0f7a4 24 = .ok (.iload_n 0, 1) := by decide +kernel
theorem dJ6_bitCount_0f7a4_25 : decode cJ6_bitCount_0f7a4 25 = .ok (.iload_n 0, 1) := by decide +kernel
theorem dJ6_bitCount_0f7a4_26 : decode cJ6_bitCount_0f7a4 26 = .ok (.iconst 4, 1) := by decide +kernel
theorem dJ6_bitCount_0f7a4_27 : decode cJ6_bitCount_0f7a4 27 = .ok (.iushr, 1) := by decide +kernel
theorem dJ6_bitCount_0f7a4_28 : decode cJ6_bitCount_0f7a4 28 = .ok (.iadd, 1) := by decide +kernel
theorem dJ6_bitCount_0f7a4_29 : decode cJ6_bitCount_0f7a4 29 = .ok (.ldc_w 267, 3) := by decide +kernel
theorem dJ6_bitCount_0f7a4_32 : decode cJ6_bitCount_0f7a4 32 = .ok (.iand, 1) := by decide +kernel
theorem dJ6_bitCount_0f7a4_33 : decode cJ6_bitCount_0f7a4 33 = .ok (.istore_n 0, 1) := by decide +kernel
theorem dJ6_bitCount_0f7a4_34 : decode cJ6_bitCount_0f7a4 34 = .ok (.iload_n 0, 1) := by decide +kernel
theorem dJ6_bitCount_0f7a4_35 : decode cJ6_bitCount_0f7a4 35 = .ok (.iload_n 0, 1) := by decide +kernel
theorem dJ6_bitCount_0f7a4_36 : decode cJ6_bitCount_0f7a4 36 = .ok (.bipush 8, 2) := by decide +kernel
theorem dJ6_bitCount_0f7a4_38 : decode cJ6_bitCount_0f7a4 38 = .ok (.iushr, 1) := by decide +kernel
theorem dJ6_bitCount_0f7a4_39 : decode cJ6_bitCount_0f7a4 39 = .ok (.iadd, 1) := by decide +kernel
theorem dJ6_bitCount_0f7a4_40 : decode cJ6_bitCount_0f7a4 40 = .ok (.istore_n 0, 1) := by decide +kernel
theorem dJ6_bitCount_0f7a4_41 : decode cJ6_bitCount_0f7a4 41 = .ok (.iload_n 0, 1) := by decide +kernel
theorem dJ6_bitCount_0f7a4_42 : decode cJ6_bitCount_0f7a4 42 = .ok (.iload_n 0, 1) := by decide +kernel
theorem dJ6_bitCount_0f7a4_43 : decode cJ6_bitCount_0f7a4 43 = .ok (.bipush 16, 2) := by decide +kernel
theorem dJ6_bitCount_0f7a4_45 : decode cJ6_bitCount_0f7a4 45 = .ok (.iushr, 1) := by decide +kernel
theorem dJ6_bitCount_0f7a4_46 : decode cJ6_bitCount_0f7a4 46 = .ok (.iadd, 1) := by decide +kernel
theorem dJ6_bitCount_0f7a4_47 : decode cJ6_bitCount_0f7a4 47 = .ok (.istore_n 0, 1) := by decide +kernel
theorem dJ6_bitCount_0f7a4_48 : decode cJ6_bitCount_0f7a4 48 = .ok (.iload_n 0, 1) := by decide +kernel
theorem dJ6_bitCount_0f7a4_49 : decode cJ6_bitCount_0f7a4 49 = .ok (.bipush 63, 2) := by decide +kernel
theorem dJ6_bitCount_0f7a4_51 : decode cJ6_bitCount_0f7a4 51 = .ok (.iand, 1) := by decide +kernel
theorem dJ6_bitCount_0f7a4_52 : decode cJ6_bitCount_0f7a4 52 = .ok (.ireturn, 1) := by decide +kernel
theorem dJ9_max_7cf53_0 : decode cJ9_max_7cf53 0 = .ok (.iload_n 0, 1) := by decide +kernel
theorem dJ9_max_7cf53_1 : decode cJ9_max_7cf53 1 = .ok (.iload_n 1, 1) := by decide +kernel
theorem dJ9_max_7cf53_2 : decode cJ9_max_7cf53 2 = .ok (.if_icmp .lt 7, 3) := by decide +kernel
theorem dJ9_max_7cf53_5 : decode cJ9_max_7cf53 5 = .ok (.iload_n 0, 1) := by decide +kernel
theorem dJ9_max_7cf53_6 : decode cJ9_max_7cf53 6 = .ok (.goto 4, 3) := by decide +kernel
theorem dJ9_max_7cf53_9 : decode cJ9_max_7cf53 9 = .ok (.iload_n 1, 1) := by decide +kernel
theorem dJ9_max_7cf53_10 : decode cJ9_max_7cf53 10 = .ok (.ireturn, 1) := by decide +kernel
theorem dJ9_min_7cf53_0 : decode cJ9_min_7cf53 0 = .ok (.iload_n 0, 1) := by decide +kernel
theorem dJ9_min_7cf53_1 : decode cJ9_min_7cf53 1 = .ok (.iload_n 1, 1) := by decide +kernel
theorem dJ9_min_7cf53_2 : decode cJ9_min_7cf53 2 = .ok (.if_icmp .gt 7, 3) := by decide +kernel
theorem dJ9_min_7cf53_5 : decode cJ9_min_7cf53 5 = .ok (.iload_n 0, 1) := by decide +kernel
theorem dJ9_min_7cf53_6 : decode cJ9_min_7cf53 6 = .ok (.goto 4, 3) := by decide +kernel
theorem dJ9_min_7cf53_9 : decode cJ9_min_7cf53 9 = .ok (.iload_n 1, 1) := by decide +kernel
theorem dJ9_min_7cf53_10 : decode cJ9_min_7cf53 10 = .ok (.ireturn, 1) := by decide +kernel
set_option maxRecDepth 20000 in
theorem ggJ0_length_8abf5_J0_coder_7d493 : GoodIn wsJ0_length_8abf5 wsJ0_coder_7d493 := goodIn_r _ [6, 7, 8] (by decide +kernel) (by decide +kernel)
set_option maxRecDepth 20000 in
theorem gJ0_length_8abf5_J0_coder_7d493 : GoodIn wsJ0_length_8abf5 (wsV RJ0 335 RJ0 yJ0_coder_7d493 wsJ0_coder_7d493) := goodIn_app (goodIn_of _ (by decide +kernel)) ggJ0_length_8abf5_J0_coder_7d493
theorem dJ0_length_8abf5_0 : decode cJ0_length_8abf5 0 = .ok (.aload_n 0, 1) := by decide +kernel
theorem dJ0_length_8abf5_1 : decode cJ0_length_8abf5 1 = .ok (.getfield 9, 3) := by decide +kernel
theorem dJ0_length_8abf5_4 : decode cJ0_length_8abf5 4 = .ok (.arraylength, 1) := by decide +kernel
theorem dJ0_length_8abf5_5 : decode cJ0_length_8abf5 5 = .ok (.aload_n 0, 1) := by decide +kernel
theorem dJ0_length_8abf5_6 : decode cJ0_length_8abf5 6 = .ok (.invokevirtual 335, 3) := by decide +kernel
theorem dJ0_length_8abf5_9 : decode cJ0_length_8abf5 9 = .ok (.ishr, 1) := by decide +kernel
theorem dJ0_length_8abf5_10 : decode cJ0_length_8abf5 10 = .ok (.ireturn, 1) := by decide +kernel
set_option maxRecDepth 20000 in
theorem ggJ0_charAt_5068e_J0_isLatin1_aae02 : GoodIn wsJ0_charAt_5068e wsJ0_isLatin1_aae02 := goodIn_r _ [6, 7, 8] (by decide +kernel) (by decide +kernel)
set_option maxRecDepth 20000 in
theorem gJ0_charAt_5068e_J0_isLatin1_aae02 : GoodIn wsJ0_charAt_5068e (wsV RJ0 492 RJ0 yJ0_isLatin1_aae02 wsJ0_isLatin1_aae02) := goodIn_app (goodIn_of _ (by decide +kernel)) ggJ0_charAt_5068e_J0_isLatin1_aae02
set_option maxRecDepth 20000 in
theorem ggJ0_charAt_5068e_J1_charAt_3b067 : GoodIn wsJ0_charAt_5068e wsJ1_charAt_3b067 := goodIn_r _ [12, 13, 14, 5, 15, 16, 17, 18, 19, 20] (by decide +kernel) (by decide +kernel)
set_option maxRecDepth 20000 in
theorem gJ0_charAt_5068e_J1_charAt_3b067 : GoodIn wsJ0_charAt_5068e (va_wsS RJ0 495 yJ1_charAt_3b067 wsJ1_charAt_3b067) := goodIn_app (goodIn_of _ (by decide +kernel)) ggJ0_charAt_5068e_J1_charAt_3b067
set_option maxRecDepth 20000 in
theorem ggJ0_charAt_5068e_J2_charAt_3b067 : GoodIn wsJ0_charAt_5068e wsJ2_charAt_3b067 := goodIn_r _ [24, 25, 26, 23, 27, 28, 29, 30, 31, 14, 5, 15, 16, 17, 18, 19, 20, 32, 33, 34, 35, 36, 37] (by decide +kernel) (by decide +kernel)
set_option maxRecDepth 20000 in
theorem gJ0_charAt_5068e_J2_charAt_3b067 : GoodIn wsJ0_charAt_5068e (va_wsS RJ0 498 yJ2_charAt_3b067 wsJ2_charAt_3b067) := goodIn_app (goodIn_of _ (by decide +kernel)) ggJ0_charAt_5068e_J2_charAt_3b067
theorem dJ0_charAt_5068e_0 : decode cJ0_charAt_5068e 0 = .ok (.aload_n 0, 1) := by decide +kernel
theorem dJ0_charAt_5068e_1 : decode cJ0_charAt_5068e 1 = .ok (.invokevirtual 492, 3) := by decide +kernel
theorem dJ0_charAt_5068e_4 : decode cJ0_charAt_5068e 4 = .ok (.ifCond .eq 12, 3) := by decide +kernel
theorem dJ0_charAt_5068e_7 : decode cJ0_charAt_5068e 7 = .ok (.aload_n 0, 1) := by decide +kernel
theorem dJ0_charAt_5068e_8 : decode cJ0_charAt_5068e 8 = .ok (.getfield 9, 3) := by decide +kernel
theorem dJ0_charAt_5068e_11 : decode cJ0_charAt_5068e 11 = .ok (.iload_n 1, 1) := by decide +kernel
theorem dJ0_charAt_5068e_12 : decode cJ0_charAt_5068e 12 = .ok (.invokestatic 495, 3) := by decide +kernel
theorem dJ0_charAt_5068e_15 : decode cJ0_charAt_5068e 15 = .ok (.ireturn, 1) := by decide +kernel
theorem dJ0_charAt_5068e_16 : decode cJ0_charAt_5068e 16 = .ok (.aload_n 0, 1) := by decide +kernel
theorem dJ0_charAt_5068e_17 : decode cJ0_charAt_5068e 17 = .ok (.getfield 9, 3) := by decide +kernel
theorem dJ0_charAt_5068e_20 : decode cJ0_charAt_5068e 20 = .ok (.iload_n 1, 1) := by decide +kernel
theorem dJ0_charAt_5068e_21 : decode cJ0_charAt_5068e 21 = .ok (.invokestatic 498, 3) := by decide +kernel
theorem dJ0_charAt_5068e_24 : decode cJ0_charAt_5068e 24 = .ok (.ireturn, 1) := by decide +kernel
theorem dJ0_coder_7d493_0 : decode cJ0_coder_7d493 0 = .ok (.getstatic 38, 3) := by decide +kernel
theorem dJ0_coder_7d493_3 : decode cJ0_coder_7d493 3 = .ok (.ifCond .eq 10, 3) := by decide +kernel
theorem dJ0_coder_7d493_6 : decode cJ0_coder_7d493 6 = .ok (.aload_n 0, 1) := by decide +kernel
theorem dJ0_coder_7d493_7 : decode cJ0_coder_7d493 7 = .ok (.getfield 15, 3) := by decide +kernel
theorem dJ0_coder_7d493_10 : decode cJ0_coder_7d493 10 = .ok (.goto 4, 3) := by decide +kernel
theorem dJ0_coder_7d493_13 : decode cJ0_coder_7d493 13 = .ok (.iconst 1, 1) := by decide +kernel
theorem dJ0_coder_7d493_14 : decode cJ0_coder_7d493 14 = .ok (.ireturn, 1) := by decide +kernel
theorem dJ0_isLatin1_aae02_0 : decode cJ0_isLatin1_aae02 0 = .ok (.getstatic 38, 3) := by decide +kernel
theorem dJ0_isLatin1_aae02_3 : decode cJ0_isLatin1_aae02 3 = .ok (.ifCond .eq 14, 3) := by decide +kernel
theorem dJ0_isLatin1_aae02_6 : decode cJ0_isLatin1_aae02 6 = .ok (.aload_n 0, 1) := by decide +kernel
theorem dJ0_isLatin1_aae02_7 : decode cJ0_isLatin1_aae02 7 = .ok (.getfield 15, 3) := by decide +kernel
theorem dJ0_isLatin1_aae02_10 : decode cJ0_isLatin1_aae02 10 = .ok (.ifCond .ne 7, 3) := by decide +kernel
theorem dJ0_isLatin1_aae02_13 : decode cJ0_isLatin1_aae02 13 = .ok (.iconst 1, 1) := by decide +kernel
theorem dJ0_isLatin1_aae02_14 : decode cJ0_isLatin1_aae02 14 = .ok (.goto 4, 3) := by decide +kernel
theorem dJ0_isLatin1_aae02_17 : decode cJ0_isLatin1_aae02 17 = .ok (.iconst 0, 1) := by decide +kernel
theorem dJ0_isLatin1_aae02_18 : decode cJ0_isLatin1_aae02 18 = .ok (.ireturn, 1) := by decide +kernel
set_option maxRecDepth 20000 in
theorem ggJ0_checkIndex_df160_J3_checkIndex_8e157 : GoodIn wsJ0_checkIndex_df160 wsJ3_checkIndex_8e157 := goodIn_r _ [5] (by decide +kernel) (by decide +kernel)
set_option maxRecDepth 20000 in
theorem gJ0_checkIndex_df160_J3_checkIndex_8e157 : GoodIn wsJ0_checkIndex_df160 (va_wsS RJ0 1059 yJ3_checkIndex_8e157 wsJ3_checkIndex_8e157) := goodIn_app (goodIn_of _ (by decide +kernel)) ggJ0_checkIndex_df160_J3_checkIndex_8e157
theorem dJ0_checkIndex_df160_0 : decode cJ0_checkIndex_df160 0 = .ok (.iload_n 0, 1) := by decide +kernel
theorem dJ0_checkIndex_df160_1 : decode cJ0_checkIndex_df160 1 = .ok (.iload_n 1, 1) := by decide +kernel
theorem dJ0_checkIndex_df160_2 : decode cJ0_checkIndex_df160 2 = .ok (.getstatic 1053, 3) := by decide +kernel
theorem dJ0_checkIndex_df160_5 : decode cJ0_checkIndex_df160 5 = .ok (.invokestatic 1059, 3) := by decide +kernel
theorem dJ0_checkIndex_df160_8 : decode cJ0_checkIndex_df160 8 = .ok (.pop, 1) := by decide +kernel
theorem dJ0_checkIndex_df160_9 : decode cJ0_checkIndex_df160 9 = .ok (.return_, 1) := by decide +kernel
set_option maxRecDepth 20000 in
theorem ggJ1_charAt_3b067_J0_checkIndex_df160 : GoodIn wsJ1_charAt_3b067 wsJ0_checkIndex_df160 := goodIn_r _ [4, 5, 6, 7, 8, 9] (by decide +kernel) (by decide +kernel)
set_option maxRecDepth 20000 in
theorem gJ1_charAt_3b067_J0_checkIndex_df160 : GoodIn wsJ1_charAt_3b067 (va_wsS RJ1 9 yJ0_checkIndex_df160 wsJ0_checkIndex_df160) := goodIn_app (goodIn_of _ (by decide +kernel)) ggJ1_charAt_3b067_J0_checkIndex_df160
theorem dJ1_charAt_3b067_0 : decode cJ1_charAt_3b067 0 = .ok (.iload_n 1, 1) := by decide +kernel
theorem dJ1_charAt_3b067_1 : decode cJ1_charAt_3b067 1 = .ok (.aload_n 0, 1) := by decide +kernel
theorem dJ1_charAt_3b067_2 : decode cJ1_charAt_3b067 2 = .ok (.arraylength, 1) := by decide +kernel
theorem dJ1_charAt_3b067_3 : decode cJ1_charAt_3b067 3 = .ok (.invokestatic 9, 3) := by decide +kernel
theorem dJ1_charAt_3b067_6 : decode cJ1_charAt_3b067 6 = .ok (.aload_n 0, 1) := by decide +kernel
theorem dJ1_charAt_3b067_7 : decode cJ1_charAt_3b067 7 = .ok (.iload_n 1, 1) := by decide +kernel
theorem dJ1_charAt_3b067_8 : decode cJ1_charAt_3b067 8 = .ok (.baload, 1) := by decide +kernel
theorem dJ1_charAt_3b067_9 : decode cJ1_charAt_3b067 9 = .ok (.sipush 255, 3) := by decide +kernel
theorem dJ1_charAt_3b067_12 : decode cJ1_charAt_3b067 12 = .ok (.iand, 1) := by decide +kernel
theorem dJ1_charAt_3b067_13 : decode cJ1_charAt_3b067 13 = .ok (.i2c, 1) := by decide +kernel
theorem dJ1_charAt_3b067_14 : decode cJ1_charAt_3b067 14 = .ok (.ireturn, 1) := by decide +kernel
set_option maxRecDepth 20000 in
theorem ggJ2_getChar_3b067_J2_length_9d52b : GoodIn wsJ2_getChar_3b067 wsJ2_length_9d52b := goodIn_r _ [7] (by decide +kernel) (by decide +kernel)
set_option maxRecDepth 20000 in
theorem gJ2_getChar_3b067_J2_length_9d52b : GoodIn wsJ2_getChar_3b067 (va_wsS RJ2 48 yJ2_length_9d52b wsJ2_length_9d52b) := goodIn_app (goodIn_of _ (by decide +kernel)) ggJ2_getChar_3b067_J2_length_9d52b
theorem dJ2_getChar_3b067_0 : decode cJ2_getChar_3b067 0 = .ok (.getstatic 44, 3) := by decide +kernel
theorem dJ2_getChar_3b067_3 : decode cJ2_getChar_3b067 3 = .ok (.ifCond .ne 25, 3) := by decide +kernel
theorem dJ2_getChar_3b067_6 : decode cJ2_getChar_3b067 6 = .ok (.iload_n 1, 1) := by decide +kernel
theorem dJ2_getChar_3b067_7 : decode cJ2_getChar_3b067 7 = .ok (.ifCond .lt 11, 3) := by decide +kernel
theorem dJ2_getChar_3b067_10 : decode cJ2_getChar_3b067 10 = .ok (.iload_n 1, 1) := by decide +kernel
theorem dJ2_getChar_3b067_11 : decode cJ2_getChar_3b067 11 = .ok (.aload_n 0, 1) := by decide +kernel
theorem dJ2_getChar_3b067_12 : decode cJ2_getChar_3b067 12 = .ok (.invokestatic 48, 3) := by decide +kernel
theorem dJ2_getChar_3b067_15 : decode cJ2_getChar_3b067 15 = .ok (.if_icmp .lt 13, 3) := by decide +kernel
theorem dJ2_getChar_3b067_18 : decode cJ2_getChar_3b067 18 = .ok (.new 52, 3) := by decide +kernel
theorem dJ2_getChar_3b067_21 : decode cJ2_getChar_3b067 21 = .ok (.dup, 1) := by decide +kernel
theorem dJ2_getChar_3b067_22 : decode cJ2_getChar_3b067 22 = .ok (.ldc 54, 2) := by decide +kernel
theorem dJ2_getChar_3b067_24 : decode cJ2_getChar_3b067 24 = .ok (.invokespecial 56, 3) := by decide +kernel
theorem dJ2_getChar_3b067_27 : decode cJ2_getChar_3b067 27 = .ok (.athrow, 1) := by decide +kernel
theorem dJ2_getChar_3b067_28 : decode cJ2_getChar_3b067 28 = .ok (.iload_n 1, 1) := by decide +kernel
theorem dJ2_getChar_3b067_29 : decode cJ2_getChar_3b067 29 = .ok (.iconst 1, 1) := by decide +kernel
theorem dJ2_getChar_3b067_30 : decode cJ2_getChar_3b067 30 = .ok (.ishl, 1) := by decide +kernel
theorem dJ2_getChar_3b067_31 : decode cJ2_getChar_3b067 31 = .ok (.istore_n 1, 1) := by decide +kernel
theorem dJ2_getChar_3b067_32 : decode cJ2_getChar_3b067 32 = .ok (.aload_n 0, 1) := by decide +kernel
theorem dJ2_getChar_3b067_33 : decode cJ2_getChar_3b067 33 = .ok (.iload_n 1, 1) := by decide +kernel
theorem dJ2_getChar_3b067_34 : decode cJ2_getChar_3b067 34 = .ok (.iinc 1 1, 3) := by decide +kernel
theorem dJ2_getChar_3b067_37 : decode cJ2_getChar_3b067 37 = .ok (.baload, 1) := by decide +kernel
theorem dJ2_getChar_3b067_38 : decode cJ2_getChar_3b067 38 = .ok (.sipush 255, 3) := by decide +kernel
theorem dJ2_getChar_3b067_41 : decode cJ2_getChar_3b067 41 = .ok (.iand, 1) := by decide +kernel
theorem dJ2_getChar_3b067_42 : decode cJ2_getChar_3b067 42 = .ok (.getstatic 59, 3) := by decide +kernel
theorem dJ2_getChar_3b067_45 : decode cJ2_getChar_3b067 45 = .ok (.ishl, 1) := by decide +kernel
theorem dJ2_getChar_3b067_46 : decode cJ2_getChar_3b067 46 = .ok (.aload_n 0, 1) := by decide +kernel
theorem dJ2_getChar_3b067_47 : decode cJ2_getChar_3b067 47 = .ok (.iload_n 1, 1) := by decide +kernel
theorem dJ2_getChar_3b067_48 : decode cJ2_getChar_3b067 48 = .ok (.baload, 1) := by decide +kernel
theorem dJ2_getChar_3b067_49 : decode cJ2_getChar_3b067 49 = .ok (.sipush 255, 3) := by decide +kernel
theorem dJ2_getChar_3b067_52 : decode cJ2_getChar_3b067 52 = .ok (.iand, 1) := by decide +kernel
theorem dJ2_getChar_3b067_53 : decode cJ2_getChar_3b067 53 = .ok (.getstatic 63, 3) := by decide +kernel
theorem dJ2_getChar_3b067_56 : decode cJ2_getChar_3b067 56 = .ok (.ishl, 1) := by decide +kernel
theorem dJ2_getChar_3b067_57 : decode cJ2_getChar_3b067 57 = .ok (.ior, 1) := by decide +kernel
theorem dJ2_getChar_3b067_58 : decode cJ2_getChar_3b067 58 = .ok (.i2c, 1) := by decide +kernel
theorem dJ2_getChar_3b067_59 : decode cJ2_getChar_3b067 59 = .ok (.ireturn, 1) := by decide +kernel
theorem dJ2_length_9d52b_0 : decode cJ2_length_9d52b 0 = .ok (.aload_n 0, 1) := by decide +kernel
theorem dJ2_length_9d52b_1 : decode cJ2_length_9d52b 1 = .ok (.arraylength, 1) := by decide +kernel
theorem dJ2_length_9d52b_2 : decode cJ2_length_9d52b 2 = .ok (.iconst 1, 1) := by decide +kernel
theorem dJ2_length_9d52b_3 : decode cJ2_length_9d52b 3 = .ok (.ishr, 1) := by decide +kernel
theorem dJ2_length_9d52b_4 : decode cJ2_length_9d52b 4 = .ok (.ireturn, 1) := by decide +kernel
set_option maxRecDepth 20000 in
theorem ggJ2_charAt_3b067_J2_checkIndex_2214a : GoodIn wsJ2_charAt_3b067 wsJ2_checkIndex_2214a := goodIn_r _ [4, 5, 6, 3, 7, 8, 9, 10, 11, 12, 13, 14, 15, 16] (by decide +kernel) (by decide +kernel)
set_option maxRecDepth 20000 in
theorem gJ2_charAt_3b067_J2_checkIndex_2214a : GoodIn wsJ2_charAt_3b067 (va_wsS RJ2 67 yJ2_checkIndex_2214a wsJ2_checkIndex_2214a) := goodIn_app (goodIn_of _ (by decide +kernel)) ggJ2_charAt_3b067_J2_checkIndex_2214a
set_option maxRecDepth 20000 in
theorem ggJ2_charAt_3b067_J2_getChar_3b067 : GoodIn wsJ2_charAt_3b067 wsJ2_getChar_3b067 := goodIn_r _ [19, 20, 21, 22, 5, 6, 3, 7] (by decide +kernel) (by decide +kernel)
set_option maxRecDepth 20000 in
theorem gJ2_charAt_3b067_J2_getChar_3b067 : GoodIn wsJ2_charAt_3b067 (va_wsS RJ2 71 yJ2_getChar_3b067 wsJ2_getChar_3b067) := goodIn_app (goodIn_of _ (by decide +kernel)) ggJ2_charAt_3b067_J2_getChar_3b067
theorem dJ2_charAt_3b067_0 : decode cJ2_charAt_3b067 0 = .ok (.iload_n 1, 1) := by decide +kernel
theorem dJ2_charAt_3b067_1 : decode cJ2_charAt_3b067 1 = .ok (.aload_n 0, 1) := by decide +kernel
theorem dJ2_charAt_3b067_2 : decode cJ2_charAt_3b067 2 = .ok (.invokestatic 67, 3) := by decide +kernel
theorem dJ2_charAt_3b067_5 : decode cJ2_charAt_3b067 5 = .ok (.aload_n 0, 1) := by decide +kernel
theorem dJ2_charAt_3b067_6 : decode cJ2_charAt_3b067 6 = .ok (.iload_n 1, 1) := by decide +kernel
theorem dJ2_charAt_3b067_7 : decode cJ2_charAt_3b067 7 = .ok (.invokestatic 71, 3) := by decide +kernel
theorem dJ2_charAt_3b067_10 : decode cJ2_charAt_3b067 10 = .ok (.ireturn, 1) := by decide +kernel
set_option maxRecDepth 20000 in
theorem ggJ2_checkIndex_2214a_J2_length_9d52b : GoodIn wsJ2_checkIndex_2214a wsJ2_length_9d52b := goodIn_r _ [4] (by decide +kernel) (by decide +kernel)
set_option maxRecDepth 20000 in
theorem gJ2_checkIndex_2214a_J2_length_9d52b : GoodIn wsJ2_checkIndex_2214a (va_wsS RJ2 48 yJ2_length_9d52b wsJ2_length_9d52b) := goodIn_app (goodIn_of _ (by decide +kernel)) ggJ2_checkIndex_2214a_J2_length_9d52b
set_option maxRecDepth 20000 in
theorem ggJ2_checkIndex_2214a_J0_checkIndex_df160 : GoodIn wsJ2_checkIndex_2214a wsJ0_checkIndex_df160 := goodIn_r _ [8, 9, 10, 11, 12, 13] (by decide +kernel) (by decide +kernel)
set_option maxRecDepth 20000 in
theorem gJ2_checkIndex_2214a_J0_checkIndex_df160 : GoodIn wsJ2_checkIndex_2214a (va_wsS RJ2 414 yJ0_checkIndex_df160 wsJ0_checkIndex_df160) := goodIn_app (goodIn_of _ (by decide +kernel)) ggJ2_checkIndex_2214a_J0_checkIndex_df160
theorem dJ2_checkIndex_2214a_0 : decode cJ2_checkIndex_2214a 0 = .ok (.iload_n 0, 1) := by decide +kernel
theorem dJ2_checkIndex_2214a_1 : decode cJ2_checkIndex_2214a 1 = .ok (.aload_n 1, 1) := by decide +kernel
theorem dJ2_checkIndex_2214a_2 : decode cJ2_checkIndex_2214a 2 = .ok (.invokestatic 48, 3) := by decide +kernel
theorem dJ2_checkIndex_2214a_5 : decode cJ2_checkIndex_2214a 5 = .ok (.invokestatic 414, 3) := by decide +kernel
theorem dJ2_checkIndex_2214a_8 : decode cJ2_checkIndex_2214a 8 = .ok (.return_, 1) := by decide +kernel
theorem dJ3_checkIndex_8e157_0 : decode cJ3_checkIndex_8e157 0 = .ok (.iload_n 0, 1) := by decide +kernel
theorem dJ3_checkIndex_8e157_1 : decode cJ3_checkIndex_8e157 1 = .ok (.ifCond .lt 8, 3) := by decide +kernel
theorem dJ3_checkIndex_8e157_4 : decode cJ3_checkIndex_8e157 4 = .ok (.iload_n 0, 1) := by decide +kernel
theorem dJ3_checkIndex_8e157_5 : decode cJ3_checkIndex_8e157 5 = .ok (.iload_n 1, 1) := by decide +kernel
theorem dJ3_checkIndex_8e157_6 : decode cJ3_checkIndex_8e157 6 = .ok (.if_icmp .lt 10, 3) := by decide +kernel
theorem dJ3_checkIndex_8e157_9 : decode cJ3_checkIndex_8e157 9 = .ok (.aload_n 2, 1) := by decide +kernel
theorem dJ3_checkIndex_8e157_10 : decode cJ3_checkIndex_8e157 10 = .ok (.iload_n 0, 1) := by decide +kernel
theorem dJ3_checkIndex_8e157_11 : decode cJ3_checkIndex_8e157 11 = .ok (.iload_n 1, 1) := by decide +kernel
theorem dJ3_checkIndex_8e157_12 : decode cJ3_checkIndex_8e157 12 = .ok (.invokestatic 95, 3) := by decide +kernel
theorem dJ3_checkIndex_8e157_15 : decode cJ3_checkIndex_8e157 15 = .ok (.athrow, 1) := by decide +kernel
theorem dJ3_checkIndex_8e157_16 : decode cJ3_checkIndex_8e157 16 = .ok (.iload_n 0, 1) := by decide +kernel
theorem dJ3_checkIndex_8e157_17 : decode cJ3_checkIndex_8e157 17 = .ok (.ireturn, 1) := by decide +kernel
set_option maxRecDepth 20000 in
theorem ggL_law_X7_init : GoodIn wsL_law wsX7_init := goodIn_r _ [9, 10, 11, 12, 13, 14, 15, 16, 17, 18, 19, 20, 21, 22, 23, 24, 25, 26, 27, 28, 29, 30, 31, 32, 33, 34, 35, 36, 37, 38, 39, 40, 41, 42, 43, 44, 45, 46, 47, 48, 49, 50, 51, 52, 53, 54, 55, 56, 57, 58, 59, 60, 61, 62, 63, 64, 65, 66, 67, 68, 2, 69, 70, 71, 72, 73, 74, 75, 76, 77, 78, 79, 80, 81, 82, 83, 84, 85, 86, 87, 88, 89, 90, 91, 92, 93, 94, 95, 96, 97, 98, 99, 100, 101, 1289, 1290, 1291, 1292, 1293, 1294, 1295, 1296, 1297, 1298, 1299, 1300, 1240, 1241, 1242, 1243, 1244, 1245, 1246, 1247, 1248, 1249, 1250, 1251, 1301, 1302, 1303, 1304, 1305, 1306, 1307, 1308, 1309, 1310, 1311, 1312, 1313, 1314, 1315, 1316] (by decide +kernel) (by decide +kernel)
set_option maxRecDepth 20000 in
theorem gL_law_X7_init : GoodIn wsL_law (wsX7_init) := ggL_law_X7_init
set_option maxRecDepth 20000 in
theorem ggL_law_X8_init : GoodIn wsL_law wsX8_init := goodIn_r _ [104, 105, 11, 12, 44, 106, 107, 108, 109, 78, 110, 111, 112, 113, 114, 115, 116, 117, 118, 119, 120, 121, 122, 123, 124, 125, 126, 127, 128, 129, 130, 131, 132, 1252, 1253, 1254, 1255, 1256, 1257, 1258, 1259, 1260, 1261, 1262, 1263, 1264, 1265, 1266, 1267, 1268, 1269, 1270, 1271, 1272, 1273, 1274, 1275, 1276, 1277, 1278, 1279, 1280, 1281, 1282, 1283, 1284, 1285, 1286, 1287, 1288] (by decide +kernel) (by decide +kernel)
set_option maxRecDepth 20000 in
theorem gL_law_X8_init : GoodIn wsL_law (wsX8_init) := ggL_law_X8_init
set_option maxRecDepth 20000 in
theorem ggL_law_X7_row : GoodIn wsL_law wsX7_row := goodIn_r _ [136, 21, 137, 138, 2, 139, 140, 141, 142, 143, 45, 144, 145, 146, 23, 147, 77, 148, 79, 1240, 1241, 1242, 1243, 1244, 1245, 1246, 1247, 1248, 1249, 1250, 1251, 1301, 1302, 1303] (by decide +kernel) (by decide +kernel)
set_option maxRecDepth 20000 in
theorem gL_law_X7_row : GoodIn wsL_law (wsV RL 13 RX7 yX7_row wsX7_row) := goodIn_app (goodIn_of _ (by decide +kernel)) ggL_law_X7_row
set_option maxRecDepth 20000 in
theorem ggL_law_X8_row : GoodIn wsL_law wsX8_row := goodIn_r _ [152, 153, 154, 155, 106, 107, 108, 110, 156, 157, 5, 158, 159, 160, 161, 162, 114, 1252, 1253, 1254, 1255, 1256, 1257, 1258, 1259, 1260, 1261, 1262, 1263, 1264, 1265, 1266, 1267, 1268, 1269, 1270, 1271, 1272, 1273, 1274, 1275, 1276, 1277, 1278, 1279, 1280, 1281, 1282, 1283, 1284, 1285, 1286, 1287, 1288] (by decide +kernel) (by decide +kernel)
set_option maxRecDepth 20000 in
theorem gL_law_X8_row : GoodIn wsL_law (wsV RL 17 RX8 yX8_row wsX8_row) := goodIn_app (goodIn_of _ (by decide +kernel)) ggL_law_X8_row
set_option maxRecDepth 20000 in
theorem ggL_law_X7_set : GoodIn wsL_law wsX7_set := goodIn_r _ [166, 21, 167, 168, 169, 2, 170, 137, 138, 139, 171, 172, 173, 23, 174, 77, 175, 176, 177, 178, 179, 180, 181, 182, 148, 140, 141, 142, 143, 45, 183, 184, 185, 186, 79, 1240, 1241, 1242, 1243, 1244, 1245, 1246, 1247, 1248, 1249, 1250, 1251, 1301, 1302, 1303] (by decide +kernel) (by decide +kernel)
set_option maxRecDepth 20000 in
theorem gL_law_X7_set : GoodIn wsL_law (wsV RL 20 RX7 yX7_set wsX7_set) := goodIn_app (goodIn_of _ (by decide +kernel)) ggL_law_X7_set
set_option maxRecDepth 20000 in
theorem ggL_law_X8_set : GoodIn wsL_law wsX8_set := goodIn_r _ [190, 108, 110, 107, 191, 192, 193, 5, 194, 153, 106, 156, 157, 158, 159, 160, 161, 162, 114, 195, 196, 197, 1252, 1253, 1254, 1255, 1256, 1257, 1258, 1259, 1260, 1261, 1262, 1263, 1264, 1265, 1266, 1267, 1268, 1269, 1270, 1271, 1272, 1273, 1274, 1275, 1276, 1277, 1278, 1279, 1280, 1281, 1282, 1283, 1284, 1285, 1286, 1287, 1288] (by decide +kernel) (by decide +kernel)
set_option maxRecDepth 20000 in
theorem gL_law_X8_set : GoodIn wsL_law (wsV RL 24 RX8 yX8_set wsX8_set) := goodIn_app (goodIn_of _ (by decide +kernel)) ggL_law_X8_set
set_option maxRecDepth 20000 in
theorem ggL_law_X7_copy : GoodIn wsL_law wsX7_copy := goodIn_r _ [201, 21, 202, 203, 204, 205, 206, 207, 208, 209, 2, 210, 211, 167, 168, 169, 170, 137, 138, 139, 171, 172, 173, 23, 174, 77, 175, 176, 177, 178, 212, 213, 214, 215, 148, 140, 141, 142, 143, 45, 1240, 1241, 1242, 1243, 1244, 1245, 1246, 1247, 1248, 1249, 1250, 1251, 1301, 1302, 1303] (by decide +kernel) (by decide +kernel)
set_option maxRecDepth 20000 in
theorem gL_law_X7_copy : GoodIn wsL_law (wsV RL 25 RX7 yX7_copy wsX7_copy) := goodIn_app (goodIn_of _ (by decide +kernel)) ggL_law_X7_copy
set_option maxRecDepth 20000 in
theorem ggL_law_X8_copy : GoodIn wsL_law wsX8_copy := goodIn_r _ [219, 153, 106, 107, 108, 111, 110, 156, 157, 5, 158, 159, 160, 161, 162, 114, 1252, 1253, 1254, 1255, 1256, 1257, 1258, 1259, 1260, 1261, 1262, 1263, 1264, 1265, 1266, 1267, 1268, 1269, 1270, 1271, 1272, 1273, 1274, 1275, 1276, 1277, 1278, 1279, 1280, 1281, 1282, 1283, 1284, 1285, 1286, 1287, 1288] (by decide +kernel) (by decide +kernel)
set_option maxRecDepth 20000 in
theorem gL_law_X8_copy : GoodIn wsL_law (wsV RL 29 RX8 yX8_copy wsX8_copy) := goodIn_app (goodIn_of _ (by decide +kernel)) ggL_law_X8_copy
set_option maxRecDepth 20000 in
theorem ggL_law_X7_element : GoodIn wsL_law wsX7_element := goodIn_r _ [223, 21, 202, 137, 138, 2, 139, 179, 180, 181, 23, 182, 148, 1240, 1241, 1242, 1243, 1244, 1245, 1246, 1247, 1248, 1249, 1250, 1251, 1301, 1302, 1303] (by decide +kernel) (by decide +kernel)
set_option maxRecDepth 20000 in
theorem gL_law_X7_element : GoodIn wsL_law (wsV RL 30 RX7 yX7_element wsX7_element) := goodIn_app (goodIn_of _ (by decide +kernel)) ggL_law_X7_element
set_option maxRecDepth 20000 in
theorem ggL_law_X8_element : GoodIn wsL_law wsX8_element := goodIn_r _ [227, 153, 106, 108, 110, 156, 157, 5, 158, 1252, 1253, 1254, 1255, 1256, 1257, 1258, 1259, 1260, 1261, 1262, 1263, 1264, 1265, 1266, 1267, 1268, 1269, 1270, 1271, 1272, 1273, 1274, 1275, 1276, 1277, 1278, 1279, 1280, 1281, 1282, 1283, 1284, 1285, 1286, 1287, 1288] (by decide +kernel) (by decide +kernel)
set_option maxRecDepth 20000 in
theorem gL_law_X8_element : GoodIn wsL_law (wsV RL 34 RX8 yX8_element wsX8_element) := goodIn_app (goodIn_of _ (by decide +kernel)) ggL_law_X8_element
set_option maxRecDepth 20000 in
theorem ggL_law_X7_holds : GoodIn wsL_law wsX7_holds := goodIn_r _ [231, 21, 211, 137, 138, 2, 139, 1240, 1241, 1242, 1243, 1244, 1245, 1246, 1247, 1248, 1249, 1250, 1251, 1301, 1302, 1303] (by decide +kernel) (by decide +kernel)
set_option maxRecDepth 20000 in
theorem gL_law_X7_holds : GoodIn wsL_law (wsV RL 35 RX7 yX7_holds wsX7_holds) := goodIn_app (goodIn_of _ (by decide +kernel)) ggL_law_X7_holds
set_option maxRecDepth 20000 in
theorem ggL_law_X8_holds : GoodIn wsL_law wsX8_holds := goodIn_r _ [235, 153, 106, 107, 112, 156, 157, 5, 158, 1252, 1253, 1254, 1255, 1256, 1257, 1258, 1259, 1260, 1261, 1262, 1263, 1264, 1265, 1266, 1267, 1268, 1269, 1270, 1271, 1272, 1273, 1274, 1275, 1276, 1277, 1278, 1279, 1280, 1281, 1282, 1283, 1284, 1285, 1286, 1287, 1288] (by decide +kernel) (by decide +kernel)
set_option maxRecDepth 20000 in
theorem gL_law_X8_holds : GoodIn wsL_law (wsV RL 39 RX8 yX8_holds wsX8_holds) := goodIn_app (goodIn_of _ (by decide +kernel)) ggL_law_X8_holds
set_option maxRecDepth 20000 in
theorem ggL_law_X7_show : GoodIn wsL_law wsX7_show := goodIn_r _ [239, 21, 137, 138, 2, 139, 240, 241, 242, 243, 16, 244, 140, 141, 142, 143, 45, 245, 246, 247, 23, 248, 77, 148, 249, 250, 251, 252, 1240, 1241, 1242, 1243, 1244, 1245, 1246, 1247, 1248, 1249, 1250, 1251, 1289, 1290, 1291, 1292, 1293, 1294, 1295, 1296, 1297, 1298, 1299, 1300, 1301, 1302, 1303] (by decide +kernel) (by decide +kernel)
set_option maxRecDepth 20000 in
theorem gL_law_X7_show : GoodIn wsL_law (wsV RL 40 RX7 yX7_show wsX7_show) := goodIn_app (goodIn_of _ (by decide +kernel)) ggL_law_X7_show
set_option maxRecDepth 20000 in
theorem ggL_law_X8_show : GoodIn wsL_law wsX8_show := goodIn_r _ [256, 153, 106, 112, 156, 157, 5, 158, 257, 258, 259, 260, 261, 159, 160, 161, 162, 114, 1252, 1253, 1254, 1255, 1256, 1257, 1258, 1259, 1260, 1261, 1262, 1263, 1264, 1265, 1266, 1267, 1268, 1269, 1270, 1271, 1272, 1273, 1274, 1275, 1276, 1277, 1278, 1279, 1280, 1281, 1282, 1283, 1284, 1285, 1286, 1287, 1288] (by decide +kernel) (by decide +kernel)
set_option maxRecDepth 20000 in
theorem gL_law_X8_show : GoodIn wsL_law (wsV RL 44 RX8 yX8_show wsX8_show) := goodIn_app (goodIn_of _ (by decide +kernel)) ggL_law_X8_show
set_option maxRecDepth 20000 in
theorem ggL_law_X7_says : GoodIn wsL_law wsX7_says := goodIn_r _ [265, 21, 16, 266, 267, 17, 268, 137, 138, 2, 139, 269, 270, 271, 140, 141, 142, 143, 45, 272, 273, 274, 23, 275, 77, 175, 176, 177, 178, 276, 277, 278, 279, 240, 241, 242, 243, 244, 280, 281, 282, 283, 284, 285, 286, 287, 288, 289, 15, 290, 50, 51, 291, 204, 205, 206, 52, 292, 53, 54, 55, 56, 57, 293, 58, 59, 294, 295, 296, 297, 298, 299, 300, 301, 302, 303, 304, 305, 306, 307, 308, 309, 310, 311, 312, 313, 314, 315, 316, 317, 318, 319, 320, 321, 322, 323, 324, 325, 326, 327, 328, 329, 330, 331, 332, 333, 68, 69, 334, 335, 336, 337, 338, 339, 340, 341, 1240, 1241, 1242, 1243, 1244, 1245, 1246, 1247, 1248, 1249, 1250, 1251, 1289, 1290, 1291, 1292, 1293, 1294, 1295, 1296, 1297, 1298, 1299, 1300, 1301, 1302, 1303] (by decide +kernel) (by decide +kernel)
set_option maxRecDepth 20000 in
theorem gL_law_X7_says : GoodIn wsL_law (wsV RL 45 RX7 yX7_says wsX7_says) := goodIn_app (goodIn_of _ (by decide +kernel)) ggL_law_X7_says
set_option maxRecDepth 20000 in
theorem ggL_law_X8_says : GoodIn wsL_law wsX8_says := goodIn_r _ [345, 153, 346, 106, 117, 112, 118, 126, 156, 157, 5, 158, 159, 160, 161, 162, 114, 347, 348, 349, 350, 351, 352, 353, 261, 121, 354, 355, 356, 357, 358, 359, 127, 360, 361, 362, 363, 364, 365, 120, 119, 366, 367, 368, 369, 116, 370, 371, 372, 373, 374, 375, 376, 377, 128, 378, 379, 380, 381, 115, 125, 382, 383, 384, 385, 1252, 1253, 1254, 1255, 1256, 1257, 1258, 1259, 1260, 1261, 1262, 1263, 1264, 1265, 1266, 1267, 1268, 1269, 1270, 1271, 1272, 1273, 1274, 1275, 1276, 1277, 1278, 1279, 1280, 1281, 1282, 1283, 1284, 1285, 1286, 1287, 1288] (by decide +kernel) (by decide +kernel)
set_option maxRecDepth 20000 in
theorem gL_law_X8_says : GoodIn wsL_law (wsV RL 48 RX8 yX8_says wsX8_says) := goodIn_app (goodIn_of _ (by decide +kernel)) ggL_law_X8_says
set_option maxRecDepth 20000 in
theorem ggL_law_X7_places : GoodIn wsL_law wsX7_places := goodIn_r _ [389, 16, 390, 140, 141, 142, 2, 143, 45, 1240, 1241, 1242, 1243, 1244, 1245, 1246, 1247, 1248, 1249, 1250, 1251, 1289, 1290, 1291, 1292, 1293, 1294, 1295, 1296, 1297, 1298, 1299, 1300] (by decide +kernel) (by decide +kernel)
set_option maxRecDepth 20000 in
theorem gL_law_X7_places : GoodIn wsL_law (wsV RL 49 RX7 yX7_places wsX7_places) := goodIn_app (goodIn_of _ (by decide +kernel)) ggL_law_X7_places
set_option maxRecDepth 20000 in
theorem ggL_law_X8_places : GoodIn wsL_law wsX8_places := goodIn_r _ [394, 115, 395, 156, 157, 5, 158, 159, 160, 161, 162, 114, 1252, 1253, 1254, 1255, 1256, 1257, 1258, 1259, 1260, 1261, 1262, 1263, 1264, 1265, 1266, 1267, 1268, 1269, 1270, 1271, 1272, 1273, 1274, 1275, 1276, 1277, 1278, 1279, 1280, 1281, 1282, 1283, 1284, 1285, 1286, 1287, 1288] (by decide +kernel) (by decide +kernel)
set_option maxRecDepth 20000 in
theorem gL_law_X8_places : GoodIn wsL_law (wsV RL 52 RX8 yX8_places wsX8_places) := goodIn_app (goodIn_of _ (by decide +kernel)) ggL_law_X8_places
set_option maxRecDepth 20000 in
theorem ggL_law_X7_way : GoodIn wsL_law wsX7_way := goodIn_r _ [399, 16, 400, 401, 402, 2, 403, 404, 405, 406, 407, 390, 140, 141, 142, 143, 45, 408, 327, 328, 15, 329, 51, 409, 410, 411, 412, 413, 61, 62, 63, 64, 65, 66, 67, 52, 68, 69, 70, 71, 72, 73, 1240, 1241, 1242, 1243, 1244, 1245, 1246, 1247, 1248, 1249, 1250, 1251, 1289, 1290, 1291, 1292, 1293, 1294, 1295, 1296, 1297, 1298, 1299, 1300] (by decide +kernel) (by decide +kernel)
set_option maxRecDepth 20000 in
theorem gL_law_X7_way : GoodIn wsL_law (wsV RL 53 RX7 yX7_way wsX7_way) := goodIn_app (goodIn_of _ (by decide +kernel)) ggL_law_X7_way
set_option maxRecDepth 20000 in
theorem ggL_law_X8_way : GoodIn wsL_law wsX8_way := goodIn_r _ [417, 116, 418, 419, 420, 5, 421, 422, 423, 424, 425, 115, 156, 157, 158, 159, 160, 161, 162, 114, 426, 427, 428, 429, 1252, 1253, 1254, 1255, 1256, 1257, 1258, 1259, 1260, 1261, 1262, 1263, 1264, 1265, 1266, 1267, 1268, 1269, 1270, 1271, 1272, 1273, 1274, 1275, 1276, 1277, 1278, 1279, 1280, 1281, 1282, 1283, 1284, 1285, 1286, 1287, 1288] (by decide +kernel) (by decide +kernel)
set_option maxRecDepth 20000 in
theorem gL_law_X8_way : GoodIn wsL_law (wsV RL 57 RX8 yX8_way wsX8_way) := goodIn_app (goodIn_of _ (by decide +kernel)) ggL_law_X8_way
set_option maxRecDepth 20000 in
theorem ggL_law_X7_person : GoodIn wsL_law wsX7_person := goodIn_r _ [433, 16, 244, 269, 270, 2, 271, 404, 405, 406, 407, 390, 140, 141, 142, 143, 45, 434, 435, 436, 15, 437, 292, 53, 54, 55, 56, 57, 1240, 1241, 1242, 1243, 1244, 1245, 1246, 1247, 1248, 1249, 1250, 1251, 1289, 1290, 1291, 1292, 1293, 1294, 1295, 1296, 1297, 1298, 1299, 1300] (by decide +kernel) (by decide +kernel)
set_option maxRecDepth 20000 in
theorem gL_law_X7_person : GoodIn wsL_law (wsV RL 58 RX7 yX7_person wsX7_person) := goodIn_app (goodIn_of _ (by decide +kernel)) ggL_law_X7_person
set_option maxRecDepth 20000 in
theorem ggL_law_X8_person : GoodIn wsL_law wsX8_person := goodIn_r _ [441, 346, 442, 261, 156, 157, 5, 158, 422, 423, 424, 425, 115, 159, 160, 161, 162, 114, 443, 444, 445, 446, 117, 118, 119, 120, 121, 1252, 1253, 1254, 1255, 1256, 1257, 1258, 1259, 1260, 1261, 1262, 1263, 1264, 1265, 1266, 1267, 1268, 1269, 1270, 1271, 1272, 1273, 1274, 1275, 1276, 1277, 1278, 1279, 1280, 1281, 1282, 1283, 1284, 1285, 1286, 1287, 1288] (by decide +kernel) (by decide +kernel)
set_option maxRecDepth 20000 in
theorem gL_law_X8_person : GoodIn wsL_law (wsV RL 62 RX8 yX8_person wsX8_person) := goodIn_app (goodIn_of _ (by decide +kernel)) ggL_law_X8_person
set_option maxRecDepth 20000 in
theorem ggL_law_X7_put : GoodIn wsL_law wsX7_put := goodIn_r _ [450, 16, 268, 451, 452, 240, 241, 242, 2, 243, 244, 404, 405, 406, 407, 390, 140, 141, 142, 143, 45, 1240, 1241, 1242, 1243, 1244, 1245, 1246, 1247, 1248, 1249, 1250, 1251, 1289, 1290, 1291, 1292, 1293, 1294, 1295, 1296, 1297, 1298, 1299, 1300] (by decide +kernel) (by decide +kernel)
set_option maxRecDepth 20000 in
theorem gL_law_X7_put : GoodIn wsL_law (wsV RL 63 RX7 yX7_put wsX7_put) := goodIn_app (goodIn_of _ (by decide +kernel)) ggL_law_X7_put
set_option maxRecDepth 20000 in
theorem ggL_law_X8_put : GoodIn wsL_law wsX8_put := goodIn_r _ [456, 457, 121, 119, 120, 257, 258, 259, 5, 260, 261, 156, 157, 158, 422, 423, 424, 425, 115, 159, 160, 161, 162, 114, 1252, 1253, 1254, 1255, 1256, 1257, 1258, 1259, 1260, 1261, 1262, 1263, 1264, 1265, 1266, 1267, 1268, 1269, 1270, 1271, 1272, 1273, 1274, 1275, 1276, 1277, 1278, 1279, 1280, 1281, 1282, 1283, 1284, 1285, 1286, 1287, 1288] (by decide +kernel) (by decide +kernel)
set_option maxRecDepth 20000 in
theorem gL_law_X8_put : GoodIn wsL_law (wsV RL 66 RX8 yX8_put wsX8_put) := goodIn_app (goodIn_of _ (by decide +kernel)) ggL_law_X8_put
set_option maxRecDepth 20000 in
theorem ggL_law_X7_tell : GoodIn wsL_law wsX7_tell := goodIn_r _ [461, 16, 462, 463, 140, 141, 142, 2, 143, 45, 1240, 1241, 1242, 1243, 1244, 1245, 1246, 1247, 1248, 1249, 1250, 1251, 1289, 1290, 1291, 1292, 1293, 1294, 1295, 1296, 1297, 1298, 1299, 1300] (by decide +kernel) (by decide +kernel)
set_option maxRecDepth 20000 in
theorem gL_law_X7_tell : GoodIn wsL_law (wsV RL 67 RX7 yX7_tell wsX7_tell) := goodIn_app (goodIn_of _ (by decide +kernel)) ggL_law_X7_tell
set_option maxRecDepth 20000 in
theorem ggL_law_X8_tell : GoodIn wsL_law wsX8_tell := goodIn_r _ [467, 468, 395, 354, 122, 156, 157, 5, 158, 159, 160, 161, 162, 114, 1252, 1253, 1254, 1255, 1256, 1257, 1258, 1259, 1260, 1261, 1262, 1263, 1264, 1265, 1266, 1267, 1268, 1269, 1270, 1271, 1272, 1273, 1274, 1275, 1276, 1277, 1278, 1279, 1280, 1281, 1282, 1283, 1284, 1285, 1286, 1287, 1288] (by decide +kernel) (by decide +kernel)
set_option maxRecDepth 20000 in
theorem gL_law_X8_tell : GoodIn wsL_law (wsV RL 70 RX8 yX8_tell wsX8_tell) := goodIn_app (goodIn_of _ (by decide +kernel)) ggL_law_X8_tell
set_option maxRecDepth 20000 in
theorem ggL_law_X7_feed : GoodIn wsL_law wsX7_feed := goodIn_r _ [472, 27, 473, 140, 141, 142, 2, 143, 45, 474, 475, 476, 26, 477, 478, 83, 1240, 1241, 1242, 1243, 1244, 1245, 1246, 1247, 1248, 1249, 1250, 1251, 1304, 1305] (by decide +kernel) (by decide +kernel)
set_option maxRecDepth 20000 in
theorem gL_law_X7_feed : GoodIn wsL_law (wsV RL 71 RX7 yX7_feed wsX7_feed) := goodIn_app (goodIn_of _ (by decide +kernel)) ggL_law_X7_feed
set_option maxRecDepth 20000 in
theorem ggL_law_X8_feed : GoodIn wsL_law wsX8_feed := goodIn_r _ [482, 483, 484, 113, 156, 157, 5, 158, 159, 160, 161, 162, 114, 1252, 1253, 1254, 1255, 1256, 1257, 1258, 1259, 1260, 1261, 1262, 1263, 1264, 1265, 1266, 1267, 1268, 1269, 1270, 1271, 1272, 1273, 1274, 1275, 1276, 1277, 1278, 1279, 1280, 1281, 1282, 1283, 1284, 1285, 1286, 1287, 1288] (by decide +kernel) (by decide +kernel)
set_option maxRecDepth 20000 in
theorem gL_law_X8_feed : GoodIn wsL_law (wsV RL 74 RX8 yX8_feed wsX8_feed) := goodIn_app (goodIn_of _ (by decide +kernel)) ggL_law_X8_feed
set_option maxRecDepth 20000 in
theorem ggL_law_X7_wipe : GoodIn wsL_law wsX7_wipe := goodIn_r _ [488, 27, 473, 1240, 1241, 1242, 1243, 1244, 1245, 1246, 1247, 1248, 1249, 1250, 1251, 1304, 1305] (by decide +kernel) (by decide +kernel)
set_option maxRecDepth 20000 in
theorem gL_law_X7_wipe : GoodIn wsL_law (wsV RL 75 RX7 yX7_wipe wsX7_wipe) := goodIn_app (goodIn_of _ (by decide +kernel)) ggL_law_X7_wipe
set_option maxRecDepth 20000 in
theorem ggL_law_X8_wipe : GoodIn wsL_law wsX8_wipe := goodIn_r _ [492, 484, 1252, 1253, 1254, 1255, 1256, 1257, 1258, 1259, 1260, 1261, 1262, 1263, 1264, 1265, 1266, 1267, 1268, 1269, 1270, 1271, 1272, 1273, 1274, 1275, 1276, 1277, 1278, 1279, 1280, 1281, 1282, 1283, 1284, 1285, 1286, 1287, 1288] (by decide +kernel) (by decide +kernel)
set_option maxRecDepth 20000 in
theorem gL_law_X8_wipe : GoodIn wsL_law (wsV RL 79 RX8 yX8_wipe wsX8_wipe) := goodIn_app (goodIn_of _ (by decide +kernel)) ggL_law_X8_wipe
set_option maxRecDepth 20000 in
theorem ggL_law_X7_town : GoodIn wsL_law wsX7_town := goodIn_r _ [496, 18, 16, 31, 27, 473, 497, 287, 288, 289, 15, 290, 50, 51, 291, 204, 205, 206, 52, 292, 53, 54, 55, 56, 57, 293, 58, 59, 498, 499, 500, 30, 501, 502, 88, 503, 504, 505, 506, 507, 508, 509, 510, 511, 512, 513, 514, 515, 516, 517, 89, 518, 519, 520, 521, 522, 523, 524, 525, 526, 527, 528, 529, 530, 531, 532, 533, 534, 535, 536, 537, 538, 539, 540, 541, 542, 543, 544, 545, 546, 547, 548, 549, 550, 551, 552, 553, 554, 555, 556, 557, 558, 559, 560, 561, 562, 563, 564, 565, 566, 567, 568, 569, 570, 571, 572, 573, 574, 575, 576, 577, 578, 579, 580, 581, 582, 583, 584, 585, 586, 587, 588, 589, 590, 591, 592, 593, 594, 595, 596, 597, 598, 599, 600, 601, 602, 603, 604, 605, 410, 411, 412, 606, 607, 608, 609, 610, 435, 436, 437, 611, 612, 613, 614, 615, 616, 617, 618, 619, 620, 621, 622, 623, 624, 625, 140, 141, 142, 2, 143, 45, 413, 61, 62, 63, 64, 65, 66, 67, 68, 69, 70, 71, 72, 73, 1240, 1241, 1242, 1243, 1244, 1245, 1246, 1247, 1248, 1249, 1250, 1251, 1304, 1305, 1306, 1307, 1308, 1309, 1310, 1311, 1289, 1290, 1291, 1292, 1293, 1294, 1295, 1296, 1297, 1298, 1299, 1300] (by decide +kernel) (by decide +kernel)
set_option maxRecDepth 20000 in
theorem gL_law_X7_town : GoodIn wsL_law (wsV RL 80 RX7 yX7_town wsX7_town) := goodIn_app (goodIn_of _ (by decide +kernel)) ggL_law_X7_town
set_option maxRecDepth 20000 in
theorem ggL_law_X8_town : GoodIn wsL_law wsX8_town := goodIn_r _ [629, 630, 631, 4, 5, 484, 632, 633, 634, 103, 104, 105, 11, 12, 44, 106, 107, 108, 109, 78, 110, 111, 112, 113, 114, 115, 116, 117, 118, 119, 120, 121, 122, 123, 124, 125, 126, 127, 128, 129, 130, 131, 132, 635, 636, 637, 638, 261, 354, 639, 640, 641, 642, 643, 644, 645, 646, 647, 648, 649, 650, 651, 652, 653, 654, 655, 656, 657, 658, 659, 660, 661, 662, 663, 664, 665, 666, 667, 668, 544, 545, 546, 547, 548, 549, 550, 551, 552, 553, 554, 669, 556, 557, 558, 559, 560, 561, 562, 563, 564, 565, 566, 567, 568, 569, 570, 571, 572, 573, 574, 575, 576, 577, 578, 579, 580, 581, 582, 583, 584, 585, 586, 587, 588, 589, 590, 591, 670, 671, 672, 673, 674, 675, 676, 677, 156, 157, 158, 678, 679, 680, 681, 682, 683, 684, 685, 426, 427, 428, 429, 686, 687, 688, 689, 443, 444, 445, 446, 159, 160, 161, 162, 1252, 1253, 1254, 1255, 1256, 1257, 1258, 1259, 1260, 1261, 1262, 1263, 1264, 1265, 1266, 1267, 1268, 1269, 1270, 1271, 1272, 1273, 1274, 1275, 1276, 1277, 1278, 1279, 1280, 1281, 1282, 1283, 1284, 1285, 1286, 1287, 1288] (by decide +kernel) (by decide +kernel)
set_option maxRecDepth 20000 in
theorem gL_law_X8_town : GoodIn wsL_law (wsV RL 83 RX8 yX8_town wsX8_town) := goodIn_app (goodIn_of _ (by decide +kernel)) ggL_law_X8_town
set_option maxRecDepth 20000 in
theorem ggL_law_X7_personOf : GoodIn wsL_law wsX7_personOf := goodIn_r _ [693, 16, 266, 267, 451, 452, 268, 240, 241, 242, 2, 243, 244, 140, 141, 142, 143, 45, 694, 307, 308, 15, 309, 53, 1240, 1241, 1242, 1243, 1244, 1245, 1246, 1247, 1248, 1249, 1250, 1251, 1289, 1290, 1291, 1292, 1293, 1294, 1295, 1296, 1297, 1298, 1299, 1300] (by decide +kernel) (by decide +kernel)
set_option maxRecDepth 20000 in
theorem gL_law_X7_personOf : GoodIn wsL_law (wsV RL 84 RX7 yX7_personOf wsX7_personOf) := goodIn_app (goodIn_of _ (by decide +kernel)) ggL_law_X7_personOf
set_option maxRecDepth 20000 in
theorem ggL_law_X8_personOf : GoodIn wsL_law wsX8_personOf := goodIn_r _ [698, 346, 117, 118, 119, 120, 121, 257, 258, 259, 5, 260, 261, 156, 157, 158, 159, 160, 161, 162, 114, 374, 375, 376, 377, 128, 1252, 1253, 1254, 1255, 1256, 1257, 1258, 1259, 1260, 1261, 1262, 1263, 1264, 1265, 1266, 1267, 1268, 1269, 1270, 1271, 1272, 1273, 1274, 1275, 1276, 1277, 1278, 1279, 1280, 1281, 1282, 1283, 1284, 1285, 1286, 1287, 1288] (by decide +kernel) (by decide +kernel)
set_option maxRecDepth 20000 in
theorem gL_law_X8_personOf : GoodIn wsL_law (wsV RL 87 RX8 yX8_personOf wsX8_personOf) := goodIn_app (goodIn_of _ (by decide +kernel)) ggL_law_X8_personOf
set_option maxRecDepth 20000 in
theorem ggL_law_X7_isWay : GoodIn wsL_law wsX7_isWay := goodIn_r _ [702, 16, 400, 401, 402, 2, 403, 404, 405, 406, 407, 390, 140, 141, 142, 143, 45, 408, 327, 328, 15, 329, 51, 1240, 1241, 1242, 1243, 1244, 1245, 1246, 1247, 1248, 1249, 1250, 1251, 1289, 1290, 1291, 1292, 1293, 1294, 1295, 1296, 1297, 1298, 1299, 1300] (by decide +kernel) (by decide +kernel)
set_option maxRecDepth 20000 in
theorem gL_law_X7_isWay : GoodIn wsL_law (wsV RL 88 RX7 yX7_isWay wsX7_isWay) := goodIn_app (goodIn_of _ (by decide +kernel)) ggL_law_X7_isWay
set_option maxRecDepth 20000 in
theorem ggL_law_X8_isWay : GoodIn wsL_law wsX8_isWay := goodIn_r _ [706, 116, 418, 419, 420, 5, 421, 422, 423, 424, 425, 115, 156, 157, 158, 159, 160, 161, 162, 114, 1252, 1253, 1254, 1255, 1256, 1257, 1258, 1259, 1260, 1261, 1262, 1263, 1264, 1265, 1266, 1267, 1268, 1269, 1270, 1271, 1272, 1273, 1274, 1275, 1276, 1277, 1278, 1279, 1280, 1281, 1282, 1283, 1284, 1285, 1286, 1287, 1288] (by decide +kernel) (by decide +kernel)
set_option maxRecDepth 20000 in
theorem gL_law_X8_isWay : GoodIn wsL_law (wsV RL 91 RX8 yX8_isWay wsX8_isWay) := goodIn_app (goodIn_of _ (by decide +kernel)) ggL_law_X8_isWay
set_option maxRecDepth 20000 in
theorem ggL_law_X7_far : GoodIn wsL_law wsX7_far := goodIn_r _ [710, 16, 404, 405, 406, 2, 407, 390, 140, 141, 142, 143, 45, 711, 323, 324, 15, 325, 52, 1240, 1241, 1242, 1243, 1244, 1245, 1246, 1247, 1248, 1249, 1250, 1251, 1289, 1290, 1291, 1292, 1293, 1294, 1295, 1296, 1297, 1298, 1299, 1300] (by decide +kernel) (by decide +kernel)
set_option maxRecDepth 20000 in
theorem gL_law_X7_far : GoodIn wsL_law (wsV RL 92 RX7 yX7_far wsX7_far) := goodIn_app (goodIn_of _ (by decide +kernel)) ggL_law_X7_far
set_option maxRecDepth 20000 in
theorem ggL_law_X8_far : GoodIn wsL_law wsX8_far := goodIn_r _ [715, 125, 422, 423, 424, 5, 425, 115, 156, 157, 158, 159, 160, 161, 162, 114, 382, 383, 384, 385, 116, 1252, 1253, 1254, 1255, 1256, 1257, 1258, 1259, 1260, 1261, 1262, 1263, 1264, 1265, 1266, 1267, 1268, 1269, 1270, 1271, 1272, 1273, 1274, 1275, 1276, 1277, 1278, 1279, 1280, 1281, 1282, 1283, 1284, 1285, 1286, 1287, 1288] (by decide +kernel) (by decide +kernel)
set_option maxRecDepth 20000 in
theorem gL_law_X8_far : GoodIn wsL_law (wsV RL 95 RX8 yX8_far wsX8_far) := goodIn_app (goodIn_of _ (by decide +kernel)) ggL_law_X8_far
set_option maxRecDepth 20000 in
theorem ggL_law_X7_where : GoodIn wsL_law wsX7_where := goodIn_r _ [719, 17, 268, 240, 241, 242, 2, 243, 16, 244, 720, 721, 722, 140, 141, 142, 143, 45, 283, 284, 285, 286, 287, 288, 289, 15, 290, 50, 51, 291, 204, 205, 206, 52, 292, 53, 54, 55, 56, 57, 293, 58, 59, 294, 295, 296, 297, 298, 299, 300, 301, 302, 303, 304, 305, 306, 307, 308, 309, 310, 311, 312, 313, 314, 315, 316, 317, 318, 319, 320, 321, 322, 323, 324, 325, 326, 327, 328, 329, 330, 331, 332, 333, 68, 69, 334, 335, 336, 337, 338, 339, 340, 341, 1240, 1241, 1242, 1243, 1244, 1245, 1246, 1247, 1248, 1249, 1250, 1251, 1289, 1290, 1291, 1292, 1293, 1294, 1295, 1296, 1297, 1298, 1299, 1300] (by decide +kernel) (by decide +kernel)
set_option maxRecDepth 20000 in
theorem gL_law_X7_where : GoodIn wsL_law (wsV RL 96 RX7 yX7_where wsX7_where) := goodIn_app (goodIn_of _ (by decide +kernel)) ggL_law_X7_where
set_option maxRecDepth 20000 in
theorem ggL_law_X8_where : GoodIn wsL_law wsX8_where := goodIn_r _ [726, 126, 257, 258, 259, 5, 260, 261, 156, 157, 158, 727, 728, 729, 730, 159, 160, 161, 162, 114, 731, 732, 733, 734, 350, 351, 352, 353, 121, 354, 355, 356, 357, 358, 359, 127, 360, 361, 362, 363, 117, 364, 365, 120, 119, 366, 367, 368, 369, 116, 370, 371, 372, 373, 374, 375, 376, 377, 128, 378, 379, 380, 381, 115, 125, 382, 383, 384, 385, 1252, 1253, 1254, 1255, 1256, 1257, 1258, 1259, 1260, 1261, 1262, 1263, 1264, 1265, 1266, 1267, 1268, 1269, 1270, 1271, 1272, 1273, 1274, 1275, 1276, 1277, 1278, 1279, 1280, 1281, 1282, 1283, 1284, 1285, 1286, 1287, 1288] (by decide +kernel) (by decide +kernel)
set_option maxRecDepth 20000 in
theorem gL_law_X8_where : GoodIn wsL_law (wsV RL 99 RX8 yX8_where wsX8_where) := goodIn_app (goodIn_of _ (by decide +kernel)) ggL_law_X8_where
set_option maxRecDepth 20000 in
theorem ggL_law_X7_shines : GoodIn wsL_law wsX7_shines := goodIn_r _ [738, 17, 390, 720, 721, 2, 722, 140, 141, 142, 143, 45, 283, 284, 285, 286, 16, 287, 288, 289, 15, 290, 50, 51, 291, 204, 205, 206, 52, 292, 53, 54, 55, 56, 57, 293, 58, 59, 294, 295, 296, 297, 298, 299, 300, 301, 302, 303, 304, 305, 306, 307, 308, 309, 310, 311, 312, 313, 314, 315, 316, 317, 318, 319, 320, 321, 322, 323, 324, 325, 326, 327, 328, 329, 330, 331, 332, 333, 68, 69, 334, 335, 336, 337, 338, 339, 340, 341, 739, 740, 741, 742, 743, 744, 745, 746, 747, 748, 749, 750, 751, 752, 753, 754, 1240, 1241, 1242, 1243, 1244, 1245, 1246, 1247, 1248, 1249, 1250, 1251, 1289, 1290, 1291, 1292, 1293, 1294, 1295, 1296, 1297, 1298, 1299, 1300] (by decide +kernel) (by decide +kernel)
set_option maxRecDepth 20000 in
theorem gL_law_X7_shines : GoodIn wsL_law (wsV RL 100 RX7 yX7_shines wsX7_shines) := goodIn_app (goodIn_of _ (by decide +kernel)) ggL_law_X7_shines
set_option maxRecDepth 20000 in
theorem ggL_law_X8_shines : GoodIn wsL_law wsX8_shines := goodIn_r _ [758, 457, 727, 728, 5, 729, 730, 156, 157, 158, 159, 160, 161, 162, 114, 731, 732, 733, 734, 350, 351, 352, 353, 261, 126, 121, 354, 355, 356, 357, 358, 359, 127, 360, 361, 362, 363, 117, 364, 365, 120, 119, 366, 367, 368, 369, 116, 370, 371, 372, 373, 374, 375, 376, 377, 128, 378, 379, 380, 381, 115, 125, 382, 383, 384, 385, 759, 760, 761, 762, 763, 764, 765, 766, 767, 768, 769, 1252, 1253, 1254, 1255, 1256, 1257, 1258, 1259, 1260, 1261, 1262, 1263, 1264, 1265, 1266, 1267, 1268, 1269, 1270, 1271, 1272, 1273, 1274, 1275, 1276, 1277, 1278, 1279, 1280, 1281, 1282, 1283, 1284, 1285, 1286, 1287, 1288] (by decide +kernel) (by decide +kernel)
set_option maxRecDepth 20000 in
theorem gL_law_X8_shines : GoodIn wsL_law (wsV RL 103 RX8 yX8_shines wsX8_shines) := goodIn_app (goodIn_of _ (by decide +kernel)) ggL_law_X8_shines
set_option maxRecDepth 20000 in
theorem ggL_law_X7_crowd : GoodIn wsL_law wsX7_crowd := goodIn_r _ [773, 17, 404, 405, 406, 2, 407, 16, 390, 720, 721, 722, 140, 141, 142, 143, 45, 283, 284, 285, 286, 287, 288, 289, 15, 290, 50, 51, 291, 204, 205, 206, 52, 292, 53, 54, 55, 56, 57, 293, 58, 59, 294, 295, 296, 297, 298, 299, 300, 301, 302, 303, 304, 305, 306, 307, 308, 309, 310, 311, 312, 313, 314, 315, 316, 317, 318, 319, 320, 321, 322, 323, 324, 325, 326, 327, 328, 329, 330, 331, 332, 333, 68, 69, 334, 335, 336, 337, 338, 339, 340, 341, 774, 775, 776, 777, 778, 779, 780, 781, 1240, 1241, 1242, 1243, 1244, 1245, 1246, 1247, 1248, 1249, 1250, 1251, 1289, 1290, 1291, 1292, 1293, 1294, 1295, 1296, 1297, 1298, 1299, 1300] (by decide +kernel) (by decide +kernel)
set_option maxRecDepth 20000 in
theorem gL_law_X7_crowd : GoodIn wsL_law (wsV RL 104 RX7 yX7_crowd wsX7_crowd) := goodIn_app (goodIn_of _ (by decide +kernel)) ggL_law_X7_crowd
set_option maxRecDepth 20000 in
theorem ggL_law_X8_crowd : GoodIn wsL_law wsX8_crowd := goodIn_r _ [785, 422, 423, 424, 5, 425, 115, 156, 157, 158, 727, 728, 729, 730, 159, 160, 161, 162, 114, 731, 732, 733, 734, 350, 351, 352, 353, 261, 126, 121, 354, 355, 356, 357, 358, 359, 127, 360, 361, 362, 363, 117, 364, 365, 120, 119, 366, 367, 368, 369, 116, 370, 371, 372, 373, 374, 375, 376, 377, 128, 378, 379, 380, 381, 125, 382, 383, 384, 385, 786, 787, 788, 789, 763, 764, 765, 1252, 1253, 1254, 1255, 1256, 1257, 1258, 1259, 1260, 1261, 1262, 1263, 1264, 1265, 1266, 1267, 1268, 1269, 1270, 1271, 1272, 1273, 1274, 1275, 1276, 1277, 1278, 1279, 1280, 1281, 1282, 1283, 1284, 1285, 1286, 1287, 1288] (by decide +kernel) (by decide +kernel)
set_option maxRecDepth 20000 in
theorem gL_law_X8_crowd : GoodIn wsL_law (wsV RL 107 RX8 yX8_crowd wsX8_crowd) := goodIn_app (goodIn_of _ (by decide +kernel)) ggL_law_X8_crowd
set_option maxRecDepth 20000 in
theorem ggL_law_X7_starts : GoodIn wsL_law wsX7_starts := goodIn_r _ [793, 16, 390, 17, 268, 21, 240, 241, 242, 2, 243, 244, 794, 795, 796, 797, 798, 167, 168, 169, 170, 137, 138, 139, 171, 172, 173, 23, 174, 77, 175, 176, 177, 178, 140, 141, 142, 143, 45, 287, 288, 289, 15, 290, 50, 51, 291, 204, 205, 206, 52, 292, 53, 54, 55, 56, 57, 293, 58, 59, 799, 800, 801, 802, 202, 179, 180, 181, 182, 148, 739, 740, 741, 742, 302, 303, 304, 305, 306, 307, 308, 309, 803, 299, 300, 301, 310, 311, 312, 313, 314, 315, 316, 317, 318, 319, 320, 321, 322, 323, 324, 325, 326, 327, 328, 329, 330, 331, 332, 333, 68, 69, 334, 335, 336, 337, 338, 339, 340, 341, 1240, 1241, 1242, 1243, 1244, 1245, 1246, 1247, 1248, 1249, 1250, 1251, 1289, 1290, 1291, 1292, 1293, 1294, 1295, 1296, 1297, 1298, 1299, 1300, 1301, 1302, 1303] (by decide +kernel) (by decide +kernel)
set_option maxRecDepth 20000 in
theorem gL_law_X7_starts : GoodIn wsL_law (wsV RL 108 RX7 yX7_starts wsX7_starts) := goodIn_app (goodIn_of _ (by decide +kernel)) ggL_law_X7_starts
set_option maxRecDepth 20000 in
theorem ggL_law_X8_starts : GoodIn wsL_law wsX8_starts := goodIn_r _ [807, 121, 115, 257, 258, 259, 5, 260, 261, 156, 157, 158, 808, 809, 810, 811, 153, 155, 108, 159, 160, 161, 162, 114, 191, 192, 193, 194, 106, 812, 813, 814, 815, 110, 350, 351, 352, 353, 126, 354, 355, 759, 760, 761, 762, 374, 375, 376, 377, 128, 117, 356, 357, 358, 359, 127, 360, 361, 362, 363, 364, 365, 120, 119, 366, 367, 368, 369, 116, 370, 371, 372, 373, 378, 379, 380, 381, 125, 382, 383, 384, 385, 1252, 1253, 1254, 1255, 1256, 1257, 1258, 1259, 1260, 1261, 1262, 1263, 1264, 1265, 1266, 1267, 1268, 1269, 1270, 1271, 1272, 1273, 1274, 1275, 1276, 1277, 1278, 1279, 1280, 1281, 1282, 1283, 1284, 1285, 1286, 1287, 1288] (by decide +kernel) (by decide +kernel)
set_option maxRecDepth 20000 in
theorem gL_law_X8_starts : GoodIn wsL_law (wsV RL 111 RX8 yX8_starts wsX8_starts) := goodIn_app (goodIn_of _ (by decide +kernel)) ggL_law_X8_starts
set_option maxRecDepth 20000 in
theorem ggL_law_X7_kinds : GoodIn wsL_law wsX7_kinds := goodIn_r _ [819, 17, 16, 266, 21, 240, 241, 242, 2, 243, 244, 794, 795, 796, 797, 798, 167, 168, 169, 170, 137, 138, 139, 171, 172, 173, 23, 174, 77, 175, 176, 177, 178, 140, 141, 142, 143, 45, 287, 288, 289, 15, 290, 50, 51, 291, 204, 205, 206, 52, 292, 53, 54, 55, 56, 57, 293, 58, 59, 799, 800, 801, 802, 202, 179, 180, 181, 182, 148, 739, 740, 741, 742, 302, 303, 304, 305, 306, 307, 308, 309, 803, 299, 300, 301, 310, 311, 312, 313, 314, 315, 316, 317, 318, 319, 320, 321, 322, 323, 324, 325, 326, 327, 328, 329, 330, 331, 332, 333, 68, 69, 334, 335, 336, 337, 338, 339, 340, 341, 1240, 1241, 1242, 1243, 1244, 1245, 1246, 1247, 1248, 1249, 1250, 1251, 1289, 1290, 1291, 1292, 1293, 1294, 1295, 1296, 1297, 1298, 1299, 1300, 1301, 1302, 1303] (by decide +kernel) (by decide +kernel)
set_option maxRecDepth 20000 in
theorem gL_law_X7_kinds : GoodIn wsL_law (wsV RL 112 RX7 yX7_kinds wsX7_kinds) := goodIn_app (goodIn_of _ (by decide +kernel)) ggL_law_X7_kinds
set_option maxRecDepth 20000 in
theorem ggL_law_X8_kinds : GoodIn wsL_law wsX8_kinds := goodIn_r _ [823, 117, 257, 258, 259, 5, 260, 261, 156, 157, 158, 808, 809, 810, 811, 153, 155, 108, 159, 160, 161, 162, 114, 191, 192, 193, 194, 106, 812, 813, 814, 815, 110, 350, 351, 352, 353, 126, 121, 354, 355, 759, 760, 761, 762, 115, 374, 375, 376, 377, 128, 356, 357, 358, 359, 127, 360, 361, 362, 363, 364, 365, 120, 119, 366, 367, 368, 369, 116, 370, 371, 372, 373, 378, 379, 380, 381, 125, 382, 383, 384, 385, 1252, 1253, 1254, 1255, 1256, 1257, 1258, 1259, 1260, 1261, 1262, 1263, 1264, 1265, 1266, 1267, 1268, 1269, 1270, 1271, 1272, 1273, 1274, 1275, 1276, 1277, 1278, 1279, 1280, 1281, 1282, 1283, 1284, 1285, 1286, 1287, 1288] (by decide +kernel) (by decide +kernel)
set_option maxRecDepth 20000 in
theorem gL_law_X8_kinds : GoodIn wsL_law (wsV RL 115 RX8 yX8_kinds wsX8_kinds) := goodIn_app (goodIn_of _ (by decide +kernel)) ggL_law_X8_kinds
set_option maxRecDepth 20000 in
theorem ggL_law_X7_next : GoodIn wsL_law wsX7_next := goodIn_r _ [827, 16, 390, 17, 268, 39, 43, 828, 240, 241, 242, 2, 243, 244, 140, 141, 142, 143, 45, 287, 288, 289, 15, 290, 50, 51, 291, 204, 205, 206, 52, 292, 53, 54, 55, 56, 57, 293, 58, 59, 829, 830, 831, 38, 832, 98, 833, 740, 741, 742, 302, 303, 304, 305, 306, 307, 308, 309, 834, 299, 300, 301, 310, 311, 312, 313, 314, 315, 316, 317, 318, 319, 320, 321, 322, 323, 324, 325, 326, 327, 328, 329, 330, 331, 332, 333, 68, 69, 334, 335, 336, 337, 338, 339, 340, 341, 835, 836, 837, 42, 838, 839, 840, 841, 842, 843, 844, 845, 846, 847, 848, 849, 850, 851, 852, 853, 854, 855, 1240, 1241, 1242, 1243, 1244, 1245, 1246, 1247, 1248, 1249, 1250, 1251, 1289, 1290, 1291, 1292, 1293, 1294, 1295, 1296, 1297, 1298, 1299, 1300, 1315, 1316, 1314] (by decide +kernel) (by decide +kernel)
set_option maxRecDepth 20000 in
theorem gL_law_X7_next : GoodIn wsL_law (wsV RL 116 RX7 yX7_next wsX7_next) := goodIn_app (goodIn_of _ (by decide +kernel)) ggL_law_X7_next
set_option maxRecDepth 20000 in
theorem ggL_law_X8_next : GoodIn wsL_law wsX8_next := goodIn_r _ [859, 121, 115, 130, 257, 258, 259, 5, 260, 261, 156, 157, 158, 159, 160, 161, 162, 114, 350, 351, 352, 353, 126, 354, 355, 759, 760, 761, 762, 374, 375, 376, 377, 128, 117, 356, 357, 358, 359, 127, 360, 361, 362, 363, 364, 365, 120, 119, 366, 367, 368, 369, 116, 370, 371, 372, 373, 378, 379, 380, 381, 125, 382, 383, 384, 385, 860, 861, 862, 863, 1252, 1253, 1254, 1255, 1256, 1257, 1258, 1259, 1260, 1261, 1262, 1263, 1264, 1265, 1266, 1267, 1268, 1269, 1270, 1271, 1272, 1273, 1274, 1275, 1276, 1277, 1278, 1279, 1280, 1281, 1282, 1283, 1284, 1285, 1286, 1287, 1288] (by decide +kernel) (by decide +kernel)
set_option maxRecDepth 20000 in
theorem gL_law_X8_next : GoodIn wsL_law (wsV RL 119 RX8 yX8_next wsX8_next) := goodIn_app (goodIn_of _ (by decide +kernel)) ggL_law_X8_next
set_option maxRecDepth 20000 in
theorem ggL_law_X7_hidden : GoodIn wsL_law wsX7_hidden := goodIn_r _ [867, 17, 16, 35, 868, 404, 405, 406, 2, 407, 390, 140, 141, 142, 143, 45, 287, 288, 289, 15, 290, 50, 51, 291, 204, 205, 206, 52, 292, 53, 54, 55, 56, 57, 293, 58, 59, 869, 870, 871, 34, 872, 93, 94, 873, 303, 304, 305, 306, 307, 308, 309, 68, 69, 874, 875, 876, 877, 878, 71, 72, 73, 879, 299, 300, 301, 302, 310, 311, 312, 313, 314, 315, 316, 317, 318, 319, 320, 321, 322, 323, 324, 325, 326, 327, 328, 329, 330, 331, 332, 333, 334, 335, 336, 337, 338, 339, 340, 341, 880, 881, 882, 883, 884, 885, 886, 1240, 1241, 1242, 1243, 1244, 1245, 1246, 1247, 1248, 1249, 1250, 1251, 1312, 1313, 1289, 1290, 1291, 1292, 1293, 1294, 1295, 1296, 1297, 1298, 1299, 1300] (by decide +kernel) (by decide +kernel)
set_option maxRecDepth 20000 in
theorem gL_law_X7_hidden : GoodIn wsL_law (wsV RL 120 RX7 yX7_hidden wsX7_hidden) := goodIn_app (goodIn_of _ (by decide +kernel)) ggL_law_X7_hidden
set_option maxRecDepth 20000 in
theorem ggL_law_X8_hidden : GoodIn wsL_law wsX8_hidden := goodIn_r _ [890, 132, 422, 423, 424, 5, 425, 115, 156, 157, 158, 159, 160, 161, 162, 114, 891, 892, 893, 894, 131, 350, 351, 352, 353, 261, 126, 121, 354, 355, 766, 767, 768, 769, 759, 760, 761, 762, 374, 375, 376, 377, 128, 117, 356, 357, 358, 359, 127, 360, 361, 362, 363, 364, 365, 120, 119, 366, 367, 368, 369, 116, 370, 371, 372, 373, 378, 379, 380, 381, 125, 382, 383, 384, 385, 895, 896, 897, 898, 1252, 1253, 1254, 1255, 1256, 1257, 1258, 1259, 1260, 1261, 1262, 1263, 1264, 1265, 1266, 1267, 1268, 1269, 1270, 1271, 1272, 1273, 1274, 1275, 1276, 1277, 1278, 1279, 1280, 1281, 1282, 1283, 1284, 1285, 1286, 1287, 1288] (by decide +kernel) (by decide +kernel)
set_option maxRecDepth 20000 in
theorem gL_law_X8_hidden : GoodIn wsL_law (wsV RL 123 RX8 yX8_hidden wsX8_hidden) := goodIn_app (goodIn_of _ (by decide +kernel)) ggL_law_X8_hidden
set_option maxRecDepth 20000 in
theorem ggL_law_X7_find : GoodIn wsL_law wsX7_find := goodIn_r _ [902, 17, 240, 241, 242, 2, 243, 16, 244, 720, 721, 722, 140, 141, 142, 143, 45, 283, 284, 285, 286, 287, 288, 289, 15, 290, 50, 51, 291, 204, 205, 206, 52, 292, 53, 54, 55, 56, 57, 293, 58, 59, 294, 295, 296, 297, 298, 299, 300, 301, 302, 303, 304, 305, 306, 307, 308, 309, 310, 311, 312, 313, 314, 315, 316, 317, 318, 319, 320, 321, 322, 323, 324, 325, 326, 327, 328, 329, 330, 331, 332, 333, 68, 69, 334, 335, 336, 337, 338, 339, 340, 341, 694, 903, 904, 905, 906, 907, 908, 909, 910, 911, 749, 750, 751, 752, 753, 754, 1240, 1241, 1242, 1243, 1244, 1245, 1246, 1247, 1248, 1249, 1250, 1251, 1289, 1290, 1291, 1292, 1293, 1294, 1295, 1296, 1297, 1298, 1299, 1300] (by decide +kernel) (by decide +kernel)
set_option maxRecDepth 20000 in
theorem gL_law_X7_find : GoodIn wsL_law (wsV RL 124 RX7 yX7_find wsX7_find) := goodIn_app (goodIn_of _ (by decide +kernel)) ggL_law_X7_find
set_option maxRecDepth 20000 in
theorem ggL_law_X8_find : GoodIn wsL_law wsX8_find := goodIn_r _ [915, 126, 261, 257, 258, 259, 5, 260, 156, 157, 158, 727, 728, 729, 730, 159, 160, 161, 162, 114, 731, 732, 733, 734, 350, 351, 352, 353, 121, 354, 355, 356, 357, 358, 359, 127, 360, 361, 362, 363, 117, 364, 365, 120, 119, 366, 367, 368, 369, 116, 370, 371, 372, 373, 374, 375, 376, 377, 128, 378, 379, 380, 381, 115, 125, 382, 383, 384, 385, 763, 764, 765, 916, 917, 918, 919, 766, 767, 768, 769, 759, 760, 761, 762, 1252, 1253, 1254, 1255, 1256, 1257, 1258, 1259, 1260, 1261, 1262, 1263, 1264, 1265, 1266, 1267, 1268, 1269, 1270, 1271, 1272, 1273, 1274, 1275, 1276, 1277, 1278, 1279, 1280, 1281, 1282, 1283, 1284, 1285, 1286, 1287, 1288] (by decide +kernel) (by decide +kernel)
set_option maxRecDepth 20000 in
theorem gL_law_X8_find : GoodIn wsL_law (wsV RL 127 RX8 yX8_find wsX8_find) := goodIn_app (goodIn_of _ (by decide +kernel)) ggL_law_X8_find
set_option maxRecDepth 20000 in
theorem ggL_law_X7_untold : GoodIn wsL_law wsX7_untold := goodIn_r _ [923, 16, 244, 17, 268, 720, 721, 2, 722, 140, 141, 142, 143, 45, 283, 284, 285, 286, 287, 288, 289, 15, 290, 50, 51, 291, 204, 205, 206, 52, 292, 53, 54, 55, 56, 57, 293, 58, 59, 294, 295, 296, 297, 298, 299, 300, 301, 302, 303, 304, 305, 306, 307, 308, 309, 310, 311, 312, 313, 314, 315, 316, 317, 318, 319, 320, 321, 322, 323, 324, 325, 326, 327, 328, 329, 330, 331, 332, 333, 68, 69, 334, 335, 336, 337, 338, 339, 340, 341, 924, 925, 1240, 1241, 1242, 1243, 1244, 1245, 1246, 1247, 1248, 1249, 1250, 1251, 1289, 1290, 1291, 1292, 1293, 1294, 1295, 1296, 1297, 1298, 1299, 1300] (by decide +kernel) (by decide +kernel)
set_option maxRecDepth 20000 in
theorem gL_law_X7_untold : GoodIn wsL_law (wsV RL 128 RX7 yX7_untold wsX7_untold) := goodIn_app (goodIn_of _ (by decide +kernel)) ggL_law_X7_untold
set_option maxRecDepth 20000 in
theorem ggL_law_X8_untold : GoodIn wsL_law wsX8_untold := goodIn_r _ [929, 261, 156, 157, 5, 158, 727, 728, 729, 730, 159, 160, 161, 162, 114, 731, 732, 733, 734, 350, 351, 352, 353, 126, 121, 354, 355, 356, 357, 358, 359, 127, 360, 361, 362, 363, 117, 364, 365, 120, 119, 366, 367, 368, 369, 116, 370, 371, 372, 373, 374, 375, 376, 377, 128, 378, 379, 380, 381, 115, 125, 382, 383, 384, 385, 916, 917, 918, 919, 766, 767, 768, 769, 759, 760, 761, 762, 1252, 1253, 1254, 1255, 1256, 1257, 1258, 1259, 1260, 1261, 1262, 1263, 1264, 1265, 1266, 1267, 1268, 1269, 1270, 1271, 1272, 1273, 1274, 1275, 1276, 1277, 1278, 1279, 1280, 1281, 1282, 1283, 1284, 1285, 1286, 1287, 1288] (by decide +kernel) (by decide +kernel)
set_option maxRecDepth 20000 in
theorem gL_law_X8_untold : GoodIn wsL_law (wsV RL 131 RX8 yX8_untold wsX8_untold) := goodIn_app (goodIn_of _ (by decide +kernel)) ggL_law_X8_untold
set_option maxRecDepth 20000 in
theorem ggL_law_X7_meet : GoodIn wsL_law wsX7_meet := goodIn_r _ [933, 17, 16, 268, 934, 935, 936, 2, 937, 240, 241, 242, 243, 244, 140, 141, 142, 143, 45, 287, 288, 289, 15, 290, 50, 51, 291, 204, 205, 206, 52, 292, 53, 54, 55, 56, 57, 293, 58, 59, 803, 299, 300, 301, 302, 303, 304, 305, 306, 307, 308, 309, 310, 311, 312, 313, 314, 315, 316, 317, 318, 319, 320, 321, 322, 323, 324, 325, 326, 327, 328, 329, 330, 331, 332, 333, 68, 69, 334, 335, 336, 337, 338, 339, 340, 341, 1240, 1241, 1242, 1243, 1244, 1245, 1246, 1247, 1248, 1249, 1250, 1251, 1289, 1290, 1291, 1292, 1293, 1294, 1295, 1296, 1297, 1298, 1299, 1300] (by decide +kernel) (by decide +kernel)
set_option maxRecDepth 20000 in
theorem gL_law_X7_meet : GoodIn wsL_law (wsV RL 132 RX7 yX7_meet wsX7_meet) := goodIn_app (goodIn_of _ (by decide +kernel)) ggL_law_X7_meet
set_option maxRecDepth 20000 in
theorem ggL_law_X8_meet : GoodIn wsL_law wsX8_meet := goodIn_r _ [941, 126, 257, 258, 259, 5, 260, 261, 156, 157, 158, 159, 160, 161, 162, 114, 350, 351, 352, 353, 121, 354, 355, 356, 357, 358, 359, 127, 360, 361, 362, 363, 117, 364, 365, 120, 119, 366, 367, 368, 369, 116, 370, 371, 372, 373, 374, 375, 376, 377, 128, 378, 379, 380, 381, 115, 125, 382, 383, 384, 385, 1252, 1253, 1254, 1255, 1256, 1257, 1258, 1259, 1260, 1261, 1262, 1263, 1264, 1265, 1266, 1267, 1268, 1269, 1270, 1271, 1272, 1273, 1274, 1275, 1276, 1277, 1278, 1279, 1280, 1281, 1282, 1283, 1284, 1285, 1286, 1287, 1288] (by decide +kernel) (by decide +kernel)
set_option maxRecDepth 20000 in
theorem gL_law_X8_meet : GoodIn wsL_law (wsV RL 135 RX8 yX8_meet wsX8_meet) := goodIn_app (goodIn_of _ (by decide +kernel)) ggL_law_X8_meet
set_option maxRecDepth 20000 in
theorem ggL_law_X7_darkest : GoodIn wsL_law wsX7_darkest := goodIn_r _ [945, 43, 17, 390, 828, 946, 720, 721, 2, 722, 140, 141, 142, 143, 45, 283, 284, 285, 286, 16, 287, 288, 289, 15, 290, 50, 51, 291, 204, 205, 206, 52, 292, 53, 54, 55, 56, 57, 293, 58, 59, 294, 295, 296, 297, 298, 299, 300, 301, 302, 303, 304, 305, 306, 307, 308, 309, 310, 311, 312, 313, 314, 315, 316, 317, 318, 319, 320, 321, 322, 323, 324, 325, 326, 327, 328, 329, 330, 331, 332, 333, 68, 69, 334, 335, 336, 337, 338, 339, 340, 341, 835, 836, 837, 42, 838, 839, 840, 778, 779, 780, 781, 852, 853, 854, 855, 1240, 1241, 1242, 1243, 1244, 1245, 1246, 1247, 1248, 1249, 1250, 1251, 1289, 1290, 1291, 1292, 1293, 1294, 1295, 1296, 1297, 1298, 1299, 1300, 1315, 1316] (by decide +kernel) (by decide +kernel)
set_option maxRecDepth 20000 in
theorem gL_law_X7_darkest : GoodIn wsL_law (wsV RL 136 RX7 yX7_darkest wsX7_darkest) := goodIn_app (goodIn_of _ (by decide +kernel)) ggL_law_X7_darkest
set_option maxRecDepth 20000 in
theorem ggL_law_X8_darkest : GoodIn wsL_law wsX8_darkest := goodIn_r _ [950, 115, 727, 728, 5, 729, 730, 156, 157, 158, 159, 160, 161, 162, 114, 731, 732, 733, 734, 350, 351, 352, 353, 261, 126, 121, 354, 355, 356, 357, 358, 359, 127, 360, 361, 362, 363, 117, 364, 365, 120, 119, 366, 367, 368, 369, 116, 370, 371, 372, 373, 374, 375, 376, 377, 128, 378, 379, 380, 381, 125, 382, 383, 384, 385, 786, 787, 788, 789, 763, 764, 765, 1252, 1253, 1254, 1255, 1256, 1257, 1258, 1259, 1260, 1261, 1262, 1263, 1264, 1265, 1266, 1267, 1268, 1269, 1270, 1271, 1272, 1273, 1274, 1275, 1276, 1277, 1278, 1279, 1280, 1281, 1282, 1283, 1284, 1285, 1286, 1287, 1288] (by decide +kernel) (by decide +kernel)
set_option maxRecDepth 20000 in
theorem gL_law_X8_darkest : GoodIn wsL_law (wsV RL 139 RX8 yX8_darkest wsX8_darkest) := goodIn_app (goodIn_of _ (by decide +kernel)) ggL_law_X8_darkest
set_option maxRecDepth 20000 in
theorem ggL_law_X7_light : GoodIn wsL_law wsX7_light := goodIn_r _ [954, 17, 16, 404, 405, 406, 2, 407, 390, 955, 956, 957, 140, 141, 142, 143, 45, 287, 288, 289, 15, 290, 50, 51, 291, 204, 205, 206, 52, 292, 53, 54, 55, 56, 57, 293, 58, 59, 803, 299, 300, 301, 302, 303, 304, 305, 306, 307, 308, 309, 310, 311, 312, 313, 314, 315, 316, 317, 318, 319, 320, 321, 322, 323, 324, 325, 326, 327, 328, 329, 330, 331, 332, 333, 68, 69, 334, 335, 336, 337, 338, 339, 340, 341, 739, 740, 741, 742, 925, 1240, 1241, 1242, 1243, 1244, 1245, 1246, 1247, 1248, 1249, 1250, 1251, 1289, 1290, 1291, 1292, 1293, 1294, 1295, 1296, 1297, 1298, 1299, 1300] (by decide +kernel) (by decide +kernel)
set_option maxRecDepth 20000 in
theorem gL_law_X7_light : GoodIn wsL_law (wsV RL 140 RX7 yX7_light wsX7_light) := goodIn_app (goodIn_of _ (by decide +kernel)) ggL_law_X7_light
set_option maxRecDepth 20000 in
theorem ggL_law_X8_light_ : GoodIn wsL_law wsX8_light_ := goodIn_r _ [961, 730, 422, 423, 424, 5, 425, 115, 156, 157, 158, 159, 160, 161, 162, 114, 350, 351, 352, 353, 261, 126, 121, 354, 355, 356, 357, 358, 359, 127, 360, 361, 362, 363, 117, 364, 365, 120, 119, 366, 367, 368, 369, 116, 370, 371, 372, 373, 374, 375, 376, 377, 128, 378, 379, 380, 381, 125, 382, 383, 384, 385, 759, 760, 761, 762, 1252, 1253, 1254, 1255, 1256, 1257, 1258, 1259, 1260, 1261, 1262, 1263, 1264, 1265, 1266, 1267, 1268, 1269, 1270, 1271, 1272, 1273, 1274, 1275, 1276, 1277, 1278, 1279, 1280, 1281, 1282, 1283, 1284, 1285, 1286, 1287, 1288] (by decide +kernel) (by decide +kernel)
set_option maxRecDepth 20000 in
theorem gL_law_X8_light_ : GoodIn wsL_law (wsV RL 143 RX8 yX8_light_ wsX8_light_) := goodIn_app (goodIn_of _ (by decide +kernel)) ggL_law_X8_light_
set_option maxRecDepth 20000 in
theorem ggL_law_X7_when : GoodIn wsL_law wsX7_when := goodIn_r _ [965, 966, 967, 968, 2, 969, 43, 17, 16, 828, 835, 836, 837, 42, 838, 839, 840, 287, 288, 289, 15, 290, 50, 51, 291, 204, 205, 206, 52, 292, 53, 54, 55, 56, 57, 293, 58, 59, 743, 744, 745, 746, 747, 740, 741, 742, 302, 303, 304, 305, 306, 307, 308, 309, 748, 749, 750, 751, 752, 753, 754, 852, 853, 854, 855, 803, 299, 300, 301, 310, 311, 312, 313, 314, 315, 316, 317, 318, 319, 320, 321, 322, 323, 324, 325, 326, 327, 328, 329, 330, 331, 332, 333, 68, 69, 334, 335, 336, 337, 338, 339, 340, 341, 970, 971, 972, 973, 140, 141, 142, 143, 45, 1240, 1241, 1242, 1243, 1244, 1245, 1246, 1247, 1248, 1249, 1250, 1251, 1315, 1316, 1289, 1290, 1291, 1292, 1293, 1294, 1295, 1296, 1297, 1298, 1299, 1300] (by decide +kernel) (by decide +kernel)
set_option maxRecDepth 20000 in
theorem gL_law_X7_when : GoodIn wsL_law (wsV RL 144 RX7 yX7_when wsX7_when) := goodIn_app (goodIn_of _ (by decide +kernel)) ggL_law_X7_when
set_option maxRecDepth 20000 in
theorem ggL_law_X8_when : GoodIn wsL_law wsX8_when := goodIn_r _ [977, 156, 157, 5, 158, 159, 160, 161, 162, 114, 350, 351, 352, 353, 261, 126, 121, 354, 355, 759, 760, 761, 762, 115, 374, 375, 376, 377, 128, 117, 763, 764, 765, 978, 979, 980, 981, 360, 361, 362, 363, 364, 365, 120, 119, 366, 367, 368, 369, 116, 370, 371, 372, 373, 378, 379, 380, 381, 125, 382, 383, 384, 385, 356, 357, 358, 359, 127, 1252, 1253, 1254, 1255, 1256, 1257, 1258, 1259, 1260, 1261, 1262, 1263, 1264, 1265, 1266, 1267, 1268, 1269, 1270, 1271, 1272, 1273, 1274, 1275, 1276, 1277, 1278, 1279, 1280, 1281, 1282, 1283, 1284, 1285, 1286, 1287, 1288] (by decide +kernel) (by decide +kernel)
set_option maxRecDepth 20000 in
theorem gL_law_X8_when : GoodIn wsL_law (wsV RL 147 RX8 yX8_when wsX8_when) := goodIn_app (goodIn_of _ (by decide +kernel)) ggL_law_X8_when
set_option maxRecDepth 20000 in
theorem ggL_law_X7_always : GoodIn wsL_law wsX7_always := goodIn_r _ [985, 17, 16, 720, 721, 2, 722, 140, 141, 142, 143, 45, 287, 288, 289, 15, 290, 50, 51, 291, 204, 205, 206, 52, 292, 53, 54, 55, 56, 57, 293, 58, 59, 739, 740, 741, 742, 302, 303, 304, 305, 306, 307, 308, 309, 803, 299, 300, 301, 310, 311, 312, 313, 314, 315, 316, 317, 318, 319, 320, 321, 322, 323, 324, 325, 326, 327, 328, 329, 330, 331, 332, 333, 68, 69, 334, 335, 336, 337, 338, 339, 340, 341, 1240, 1241, 1242, 1243, 1244, 1245, 1246, 1247, 1248, 1249, 1250, 1251, 1289, 1290, 1291, 1292, 1293, 1294, 1295, 1296, 1297, 1298, 1299, 1300] (by decide +kernel) (by decide +kernel)
set_option maxRecDepth 20000 in
theorem gL_law_X7_always : GoodIn wsL_law (wsV RL 148 RX7 yX7_always wsX7_always) := goodIn_app (goodIn_of _ (by decide +kernel)) ggL_law_X7_always
set_option maxRecDepth 20000 in
theorem ggL_law_X8_always : GoodIn wsL_law wsX8_always := goodIn_r _ [989, 727, 728, 5, 729, 730, 156, 157, 158, 159, 160, 161, 162, 114, 350, 351, 352, 353, 261, 126, 121, 354, 355, 759, 760, 761, 762, 115, 374, 375, 376, 377, 128, 117, 356, 357, 358, 359, 127, 360, 361, 362, 363, 364, 365, 120, 119, 366, 367, 368, 369, 116, 370, 371, 372, 373, 378, 379, 380, 381, 125, 382, 383, 384, 385, 1252, 1253, 1254, 1255, 1256, 1257, 1258, 1259, 1260, 1261, 1262, 1263, 1264, 1265, 1266, 1267, 1268, 1269, 1270, 1271, 1272, 1273, 1274, 1275, 1276, 1277, 1278, 1279, 1280, 1281, 1282, 1283, 1284, 1285, 1286, 1287, 1288] (by decide +kernel) (by decide +kernel)
set_option maxRecDepth 20000 in
theorem gL_law_X8_always : GoodIn wsL_law (wsV RL 151 RX8 yX8_always wsX8_always) := goodIn_app (goodIn_of _ (by decide +kernel)) ggL_law_X8_always
set_option maxRecDepth 20000 in
theorem ggL_law_X7_never : GoodIn wsL_law wsX7_never := goodIn_r _ [993, 17, 16, 720, 721, 2, 722, 140, 141, 142, 143, 45, 287, 288, 289, 15, 290, 50, 51, 291, 204, 205, 206, 52, 292, 53, 54, 55, 56, 57, 293, 58, 59, 924, 303, 304, 305, 306, 307, 308, 309, 803, 299, 300, 301, 302, 310, 311, 312, 313, 314, 315, 316, 317, 318, 319, 320, 321, 322, 323, 324, 325, 326, 327, 328, 329, 330, 331, 332, 333, 68, 69, 334, 335, 336, 337, 338, 339, 340, 341, 1240, 1241, 1242, 1243, 1244, 1245, 1246, 1247, 1248, 1249, 1250, 1251, 1289, 1290, 1291, 1292, 1293, 1294, 1295, 1296, 1297, 1298, 1299, 1300] (by decide +kernel) (by decide +kernel)
set_option maxRecDepth 20000 in
theorem gL_law_X7_never : GoodIn wsL_law (wsV RL 152 RX7 yX7_never wsX7_never) := goodIn_app (goodIn_of _ (by decide +kernel)) ggL_law_X7_never
set_option maxRecDepth 20000 in
theorem ggL_law_X8_never : GoodIn wsL_law wsX8_never := goodIn_r _ [997, 727, 728, 5, 729, 730, 156, 157, 158, 159, 160, 161, 162, 114, 350, 351, 352, 353, 261, 126, 121, 354, 355, 766, 767, 768, 769, 115, 759, 760, 761, 762, 374, 375, 376, 377, 128, 117, 356, 357, 358, 359, 127, 360, 361, 362, 363, 364, 365, 120, 119, 366, 367, 368, 369, 116, 370, 371, 372, 373, 378, 379, 380, 381, 125, 382, 383, 384, 385, 1252, 1253, 1254, 1255, 1256, 1257, 1258, 1259, 1260, 1261, 1262, 1263, 1264, 1265, 1266, 1267, 1268, 1269, 1270, 1271, 1272, 1273, 1274, 1275, 1276, 1277, 1278, 1279, 1280, 1281, 1282, 1283, 1284, 1285, 1286, 1287, 1288] (by decide +kernel) (by decide +kernel)
set_option maxRecDepth 20000 in
theorem gL_law_X8_never : GoodIn wsL_law (wsV RL 155 RX8 yX8_never wsX8_never) := goodIn_app (goodIn_of _ (by decide +kernel)) ggL_law_X8_never
set_option maxRecDepth 20000 in
theorem ggL_law_X7_flickers : GoodIn wsL_law wsX7_flickers := goodIn_r _ [1001, 17, 16, 955, 956, 2, 957, 140, 141, 142, 143, 45, 287, 288, 289, 15, 290, 50, 51, 291, 204, 205, 206, 52, 292, 53, 54, 55, 56, 57, 293, 58, 59, 924, 303, 304, 305, 306, 307, 308, 309, 803, 299, 300, 301, 302, 310, 311, 312, 313, 314, 315, 316, 317, 318, 319, 320, 321, 322, 323, 324, 325, 326, 327, 328, 329, 330, 331, 332, 333, 68, 69, 334, 335, 336, 337, 338, 339, 340, 341, 1240, 1241, 1242, 1243, 1244, 1245, 1246, 1247, 1248, 1249, 1250, 1251, 1289, 1290, 1291, 1292, 1293, 1294, 1295, 1296, 1297, 1298, 1299, 1300] (by decide +kernel) (by decide +kernel)
set_option maxRecDepth 20000 in
theorem gL_law_X7_flickers : GoodIn wsL_law (wsV RL 156 RX7 yX7_flickers wsX7_flickers) := goodIn_app (goodIn_of _ (by decide +kernel)) ggL_law_X7_flickers
set_option maxRecDepth 20000 in
theorem ggL_law_X8_flickers : GoodIn wsL_law wsX8_flickers := goodIn_r _ [1005, 730, 156, 157, 5, 158, 159, 160, 161, 162, 114, 350, 351, 352, 353, 261, 126, 121, 354, 355, 759, 760, 761, 762, 115, 374, 375, 376, 377, 128, 117, 356, 357, 358, 359, 127, 360, 361, 362, 363, 364, 365, 120, 119, 366, 367, 368, 369, 116, 370, 371, 372, 373, 378, 379, 380, 381, 125, 382, 383, 384, 385, 1252, 1253, 1254, 1255, 1256, 1257, 1258, 1259, 1260, 1261, 1262, 1263, 1264, 1265, 1266, 1267, 1268, 1269, 1270, 1271, 1272, 1273, 1274, 1275, 1276, 1277, 1278, 1279, 1280, 1281, 1282, 1283, 1284, 1285, 1286, 1287, 1288] (by decide +kernel) (by decide +kernel)
set_option maxRecDepth 20000 in
theorem gL_law_X8_flickers : GoodIn wsL_law (wsV RL 159 RX8 yX8_flickers wsX8_flickers) := goodIn_app (goodIn_of _ (by decide +kernel)) ggL_law_X8_flickers
set_option maxRecDepth 20000 in
theorem ggL_law_X7_round : GoodIn wsL_law wsX7_round := goodIn_r _ [1009, 17, 16, 287, 288, 289, 15, 290, 50, 51, 291, 204, 205, 206, 52, 292, 53, 54, 55, 56, 57, 293, 58, 59, 803, 299, 300, 301, 302, 303, 304, 305, 306, 307, 308, 309, 310, 311, 312, 313, 314, 315, 316, 317, 318, 319, 320, 321, 322, 323, 324, 325, 326, 327, 328, 329, 330, 331, 332, 333, 68, 2, 69, 334, 335, 336, 337, 338, 339, 340, 341, 1010, 1011, 1012, 1013, 244, 268, 1240, 1241, 1242, 1243, 1244, 1245, 1246, 1247, 1248, 1249, 1250, 1251, 1289, 1290, 1291, 1292, 1293, 1294, 1295, 1296, 1297, 1298, 1299, 1300] (by decide +kernel) (by decide +kernel)
set_option maxRecDepth 20000 in
theorem gL_law_X7_round : GoodIn wsL_law (wsV RL 160 RX7 yX7_round wsX7_round) := goodIn_app (goodIn_of _ (by decide +kernel)) ggL_law_X7_round
set_option maxRecDepth 20000 in
theorem ggL_law_X8_round : GoodIn wsL_law wsX8_round := goodIn_r _ [1017, 261, 126, 121, 350, 351, 352, 5, 353, 354, 355, 356, 357, 358, 359, 127, 360, 361, 362, 363, 117, 364, 365, 120, 119, 366, 367, 368, 369, 116, 370, 371, 372, 373, 374, 375, 376, 377, 128, 156, 157, 158, 378, 379, 380, 381, 115, 125, 382, 383, 384, 385, 1252, 1253, 1254, 1255, 1256, 1257, 1258, 1259, 1260, 1261, 1262, 1263, 1264, 1265, 1266, 1267, 1268, 1269, 1270, 1271, 1272, 1273, 1274, 1275, 1276, 1277, 1278, 1279, 1280, 1281, 1282, 1283, 1284, 1285, 1286, 1287, 1288] (by decide +kernel) (by decide +kernel)
set_option maxRecDepth 20000 in
theorem gL_law_X8_round : GoodIn wsL_law (wsV RL 163 RX8 yX8_round wsX8_round) := goodIn_app (goodIn_of _ (by decide +kernel)) ggL_law_X8_round
set_option maxRecDepth 20000 in
theorem ggL_law_X7_going : GoodIn wsL_law wsX7_going := goodIn_r _ [1021, 283, 284, 285, 2, 286, 17, 16, 287, 288, 289, 15, 290, 50, 51, 291, 204, 205, 206, 52, 292, 53, 54, 55, 56, 57, 293, 58, 59, 294, 295, 296, 297, 298, 299, 300, 301, 302, 303, 304, 305, 306, 307, 308, 309, 310, 311, 312, 313, 314, 315, 316, 317, 318, 319, 320, 321, 322, 323, 324, 325, 326, 327, 328, 329, 330, 331, 332, 333, 68, 69, 334, 335, 336, 337, 338, 339, 340, 341, 1010, 1011, 1012, 1013, 244, 268, 1240, 1241, 1242, 1243, 1244, 1245, 1246, 1247, 1248, 1249, 1250, 1251, 1289, 1290, 1291, 1292, 1293, 1294, 1295, 1296, 1297, 1298, 1299, 1300] (by decide +kernel) (by decide +kernel)
set_option maxRecDepth 20000 in
theorem gL_law_X7_going : GoodIn wsL_law (wsV RL 164 RX7 yX7_going wsX7_going) := goodIn_app (goodIn_of _ (by decide +kernel)) ggL_law_X7_going
set_option maxRecDepth 20000 in
theorem ggL_law_X8_going : GoodIn wsL_law wsX8_going := goodIn_r _ [1025, 350, 351, 352, 5, 353, 261, 126, 121, 354, 355, 978, 979, 980, 981, 360, 361, 362, 363, 117, 364, 365, 120, 119, 366, 367, 368, 369, 116, 370, 371, 372, 373, 374, 375, 376, 377, 128, 156, 157, 158, 378, 379, 380, 381, 115, 125, 382, 383, 384, 385, 1252, 1253, 1254, 1255, 1256, 1257, 1258, 1259, 1260, 1261, 1262, 1263, 1264, 1265, 1266, 1267, 1268, 1269, 1270, 1271, 1272, 1273, 1274, 1275, 1276, 1277, 1278, 1279, 1280, 1281, 1282, 1283, 1284, 1285, 1286, 1287, 1288] (by decide +kernel) (by decide +kernel)
set_option maxRecDepth 20000 in
theorem gL_law_X8_going : GoodIn wsL_law (wsV RL 167 RX8 yX8_going wsX8_going) := goodIn_app (goodIn_of _ (by decide +kernel)) ggL_law_X8_going
set_option maxRecDepth 20000 in
theorem ggL_law_X7_arrives : GoodIn wsL_law wsX7_arrives := goodIn_r _ [1029, 17, 16, 268, 240, 241, 242, 2, 243, 244, 404, 405, 406, 407, 390, 140, 141, 142, 143, 45, 287, 288, 289, 15, 290, 50, 51, 291, 204, 205, 206, 52, 292, 53, 54, 55, 56, 57, 293, 58, 59, 803, 299, 300, 301, 302, 303, 304, 305, 306, 307, 308, 309, 310, 311, 312, 313, 314, 315, 316, 317, 318, 319, 320, 321, 322, 323, 324, 325, 326, 327, 328, 329, 330, 331, 332, 333, 68, 69, 334, 335, 336, 337, 338, 339, 340, 341, 1240, 1241, 1242, 1243, 1244, 1245, 1246, 1247, 1248, 1249, 1250, 1251, 1289, 1290, 1291, 1292, 1293, 1294, 1295, 1296, 1297, 1298, 1299, 1300] (by decide +kernel) (by decide +kernel)
set_option maxRecDepth 20000 in
theorem gL_law_X7_arrives : GoodIn wsL_law (wsV RL 168 RX7 yX7_arrives wsX7_arrives) := goodIn_app (goodIn_of _ (by decide +kernel)) ggL_law_X7_arrives
set_option maxRecDepth 20000 in
theorem ggL_law_X8_arrives : GoodIn wsL_law wsX8_arrives := goodIn_r _ [1033, 126, 257, 258, 259, 5, 260, 261, 156, 157, 158, 422, 423, 424, 425, 115, 159, 160, 161, 162, 114, 350, 351, 352, 353, 121, 354, 355, 356, 357, 358, 359, 127, 360, 361, 362, 363, 117, 364, 365, 120, 119, 366, 367, 368, 369, 116, 370, 371, 372, 373, 374, 375, 376, 377, 128, 378, 379, 380, 381, 125, 382, 383, 384, 385, 1252, 1253, 1254, 1255, 1256, 1257, 1258, 1259, 1260, 1261, 1262, 1263, 1264, 1265, 1266, 1267, 1268, 1269, 1270, 1271, 1272, 1273, 1274, 1275, 1276, 1277, 1278, 1279, 1280, 1281, 1282, 1283, 1284, 1285, 1286, 1287, 1288] (by decide +kernel) (by decide +kernel)
set_option maxRecDepth 20000 in
theorem gL_law_X8_arrives : GoodIn wsL_law (wsV RL 171 RX8 yX8_arrives wsX8_arrives) := goodIn_app (goodIn_of _ (by decide +kernel)) ggL_law_X8_arrives
set_option maxRecDepth 20000 in
theorem ggL_law_X7_seen : GoodIn wsL_law wsX7_seen := goodIn_r _ [1037, 17, 16, 268, 240, 241, 242, 2, 243, 244, 720, 721, 722, 140, 141, 142, 143, 45, 287, 288, 289, 15, 290, 50, 51, 291, 204, 205, 206, 52, 292, 53, 54, 55, 56, 57, 293, 58, 59, 803, 299, 300, 301, 302, 303, 304, 305, 306, 307, 308, 309, 310, 311, 312, 313, 314, 315, 316, 317, 318, 319, 320, 321, 322, 323, 324, 325, 326, 327, 328, 329, 330, 331, 332, 333, 68, 69, 334, 335, 336, 337, 338, 339, 340, 341, 1240, 1241, 1242, 1243, 1244, 1245, 1246, 1247, 1248, 1249, 1250, 1251, 1289, 1290, 1291, 1292, 1293, 1294, 1295, 1296, 1297, 1298, 1299, 1300] (by decide +kernel) (by decide +kernel)
set_option maxRecDepth 20000 in
theorem gL_law_X7_seen : GoodIn wsL_law (wsV RL 172 RX7 yX7_seen wsX7_seen) := goodIn_app (goodIn_of _ (by decide +kernel)) ggL_law_X7_seen
set_option maxRecDepth 20000 in
theorem ggL_law_X8_seen : GoodIn wsL_law wsX8_seen := goodIn_r _ [1041, 126, 257, 258, 259, 5, 260, 261, 156, 157, 158, 727, 728, 729, 730, 159, 160, 161, 162, 114, 350, 351, 352, 353, 121, 354, 355, 356, 357, 358, 359, 127, 360, 361, 362, 363, 117, 364, 365, 120, 119, 366, 367, 368, 369, 116, 370, 371, 372, 373, 374, 375, 376, 377, 128, 378, 379, 380, 381, 115, 125, 382, 383, 384, 385, 1252, 1253, 1254, 1255, 1256, 1257, 1258, 1259, 1260, 1261, 1262, 1263, 1264, 1265, 1266, 1267, 1268, 1269, 1270, 1271, 1272, 1273, 1274, 1275, 1276, 1277, 1278, 1279, 1280, 1281, 1282, 1283, 1284, 1285, 1286, 1287, 1288] (by decide +kernel) (by decide +kernel)
set_option maxRecDepth 20000 in
theorem gL_law_X8_seen : GoodIn wsL_law (wsV RL 175 RX8 yX8_seen wsX8_seen) := goodIn_app (goodIn_of _ (by decide +kernel)) ggL_law_X8_seen
set_option maxRecDepth 20000 in
theorem ggL_law_X7_without : GoodIn wsL_law wsX7_without := goodIn_r _ [1045, 16, 244, 43, 17, 828, 720, 721, 2, 722, 140, 141, 142, 143, 45, 835, 836, 837, 42, 838, 839, 840, 287, 288, 289, 15, 290, 50, 51, 291, 204, 205, 206, 52, 292, 53, 54, 55, 56, 57, 293, 58, 59, 1046, 1047, 1048, 1049, 294, 295, 296, 297, 298, 299, 300, 301, 302, 303, 304, 305, 306, 307, 308, 309, 310, 311, 312, 313, 314, 315, 316, 317, 318, 319, 320, 321, 322, 323, 324, 325, 326, 327, 328, 329, 330, 331, 332, 333, 68, 69, 334, 335, 336, 337, 338, 339, 340, 341, 743, 744, 745, 746, 747, 740, 741, 742, 748, 749, 750, 751, 752, 753, 754, 852, 853, 854, 855, 1240, 1241, 1242, 1243, 1244, 1245, 1246, 1247, 1248, 1249, 1250, 1251, 1289, 1290, 1291, 1292, 1293, 1294, 1295, 1296, 1297, 1298, 1299, 1300, 1315, 1316] (by decide +kernel) (by decide +kernel)
set_option maxRecDepth 20000 in
theorem gL_law_X7_without : GoodIn wsL_law (wsV RL 176 RX7 yX7_without wsX7_without) := goodIn_app (goodIn_of _ (by decide +kernel)) ggL_law_X7_without
set_option maxRecDepth 20000 in
theorem ggL_law_X8_without : GoodIn wsL_law wsX8_without := goodIn_r _ [1053, 261, 128, 727, 728, 5, 729, 730, 156, 157, 158, 159, 160, 161, 162, 114, 731, 732, 733, 734, 350, 351, 352, 353, 126, 121, 354, 355, 356, 357, 358, 359, 127, 360, 361, 362, 363, 117, 364, 365, 120, 119, 366, 367, 368, 369, 116, 370, 371, 372, 373, 374, 375, 376, 377, 378, 379, 380, 381, 115, 125, 382, 383, 384, 385, 759, 760, 761, 762, 763, 764, 765, 1252, 1253, 1254, 1255, 1256, 1257, 1258, 1259, 1260, 1261, 1262, 1263, 1264, 1265, 1266, 1267, 1268, 1269, 1270, 1271, 1272, 1273, 1274, 1275, 1276, 1277, 1278, 1279, 1280, 1281, 1282, 1283, 1284, 1285, 1286, 1287, 1288] (by decide +kernel) (by decide +kernel)
set_option maxRecDepth 20000 in
theorem gL_law_X8_without : GoodIn wsL_law (wsV RL 179 RX8 yX8_without wsX8_without) := goodIn_app (goodIn_of _ (by decide +kernel)) ggL_law_X8_without
set_option maxRecDepth 20000 in
theorem ggL_law_X7_best : GoodIn wsL_law wsX7_best := goodIn_r _ [1057, 43, 16, 390, 17, 268, 828, 240, 241, 242, 2, 243, 244, 720, 721, 722, 140, 141, 142, 143, 45, 835, 836, 837, 42, 838, 839, 840, 287, 288, 289, 15, 290, 50, 51, 291, 204, 205, 206, 52, 292, 53, 54, 55, 56, 57, 293, 58, 59, 294, 295, 296, 297, 298, 299, 300, 301, 302, 303, 304, 305, 306, 307, 308, 309, 310, 311, 312, 313, 314, 315, 316, 317, 318, 319, 320, 321, 322, 323, 324, 325, 326, 327, 328, 329, 330, 331, 332, 333, 68, 69, 334, 335, 336, 337, 338, 339, 340, 341, 743, 744, 745, 746, 747, 740, 741, 742, 748, 749, 750, 751, 752, 753, 754, 852, 853, 854, 855, 1240, 1241, 1242, 1243, 1244, 1245, 1246, 1247, 1248, 1249, 1250, 1251, 1289, 1290, 1291, 1292, 1293, 1294, 1295, 1296, 1297, 1298, 1299, 1300, 1315, 1316] (by decide +kernel) (by decide +kernel)
set_option maxRecDepth 20000 in
theorem gL_law_X7_best : GoodIn wsL_law (wsV RL 180 RX7 yX7_best wsX7_best) := goodIn_app (goodIn_of _ (by decide +kernel)) ggL_law_X7_best
set_option maxRecDepth 20000 in
theorem ggL_law_X8_best : GoodIn wsL_law wsX8_best := goodIn_r _ [1061, 121, 115, 257, 258, 259, 5, 260, 261, 156, 157, 158, 727, 728, 729, 730, 159, 160, 161, 162, 114, 731, 732, 733, 734, 350, 351, 352, 353, 126, 354, 355, 356, 357, 358, 359, 127, 360, 361, 362, 363, 117, 364, 365, 120, 119, 366, 367, 368, 369, 116, 370, 371, 372, 373, 374, 375, 376, 377, 128, 378, 379, 380, 381, 125, 382, 383, 384, 385, 759, 760, 761, 762, 763, 764, 765, 1252, 1253, 1254, 1255, 1256, 1257, 1258, 1259, 1260, 1261, 1262, 1263, 1264, 1265, 1266, 1267, 1268, 1269, 1270, 1271, 1272, 1273, 1274, 1275, 1276, 1277, 1278, 1279, 1280, 1281, 1282, 1283, 1284, 1285, 1286, 1287, 1288] (by decide +kernel) (by decide +kernel)
set_option maxRecDepth 20000 in
theorem gL_law_X8_best : GoodIn wsL_law (wsV RL 183 RX8 yX8_best wsX8_best) := goodIn_app (goodIn_of _ (by decide +kernel)) ggL_law_X8_best
set_option maxRecDepth 20000 in
theorem ggL_law_X7_middle : GoodIn wsL_law wsX7_middle := goodIn_r _ [1065, 16, 244, 43, 390, 828, 140, 141, 142, 2, 143, 45, 1066, 1067, 1068, 15, 1069, 292, 57, 322, 323, 324, 325, 52, 835, 836, 837, 42, 838, 839, 840, 852, 853, 854, 855, 1240, 1241, 1242, 1243, 1244, 1245, 1246, 1247, 1248, 1249, 1250, 1251, 1289, 1290, 1291, 1292, 1293, 1294, 1295, 1296, 1297, 1298, 1299, 1300, 1315, 1316] (by decide +kernel) (by decide +kernel)
set_option maxRecDepth 20000 in
theorem gL_law_X7_middle : GoodIn wsL_law (wsV RL 184 RX7 yX7_middle wsX7_middle) := goodIn_app (goodIn_of _ (by decide +kernel)) ggL_law_X7_middle
set_option maxRecDepth 20000 in
theorem ggL_law_X8_middle : GoodIn wsL_law wsX8_middle := goodIn_r _ [1073, 261, 115, 125, 121, 159, 160, 161, 5, 162, 114, 382, 383, 384, 385, 116, 1252, 1253, 1254, 1255, 1256, 1257, 1258, 1259, 1260, 1261, 1262, 1263, 1264, 1265, 1266, 1267, 1268, 1269, 1270, 1271, 1272, 1273, 1274, 1275, 1276, 1277, 1278, 1279, 1280, 1281, 1282, 1283, 1284, 1285, 1286, 1287, 1288] (by decide +kernel) (by decide +kernel)
set_option maxRecDepth 20000 in
theorem gL_law_X8_middle : GoodIn wsL_law (wsV RL 187 RX8 yX8_middle wsX8_middle) := goodIn_app (goodIn_of _ (by decide +kernel)) ggL_law_X8_middle
set_option maxRecDepth 20000 in
theorem ggL_law_X7_parts : GoodIn wsL_law wsX7_parts := goodIn_r _ [1077, 16, 390, 1078, 1079, 1080, 15, 1081, 322, 323, 324, 325, 52, 1240, 1241, 1242, 1243, 1244, 1245, 1246, 1247, 1248, 1249, 1250, 1251, 1289, 1290, 1291, 1292, 1293, 1294, 1295, 1296, 1297, 1298, 1299, 1300] (by decide +kernel) (by decide +kernel)
set_option maxRecDepth 20000 in
theorem gL_law_X7_parts : GoodIn wsL_law (wsV RL 188 RX7 yX7_parts wsX7_parts) := goodIn_app (goodIn_of _ (by decide +kernel)) ggL_law_X7_parts
set_option maxRecDepth 20000 in
theorem ggL_law_X8_parts : GoodIn wsL_law wsX8_parts := goodIn_r _ [1085, 1086, 1087, 1088, 5, 1089, 115, 125, 382, 383, 384, 385, 116, 1252, 1253, 1254, 1255, 1256, 1257, 1258, 1259, 1260, 1261, 1262, 1263, 1264, 1265, 1266, 1267, 1268, 1269, 1270, 1271, 1272, 1273, 1274, 1275, 1276, 1277, 1278, 1279, 1280, 1281, 1282, 1283, 1284, 1285, 1286, 1287, 1288] (by decide +kernel) (by decide +kernel)
set_option maxRecDepth 20000 in
theorem gL_law_X8_parts : GoodIn wsL_law (wsV RL 191 RX8 yX8_parts wsX8_parts) := goodIn_app (goodIn_of _ (by decide +kernel)) ggL_law_X8_parts
set_option maxRecDepth 20000 in
theorem ggL_law_X7_newWay : GoodIn wsL_law wsX7_newWay := goodIn_r _ [1093, 16, 390, 711, 323, 324, 15, 325, 52, 408, 327, 328, 329, 51, 1240, 1241, 1242, 1243, 1244, 1245, 1246, 1247, 1248, 1249, 1250, 1251, 1289, 1290, 1291, 1292, 1293, 1294, 1295, 1296, 1297, 1298, 1299, 1300] (by decide +kernel) (by decide +kernel)
set_option maxRecDepth 20000 in
theorem gL_law_X7_newWay : GoodIn wsL_law (wsV RL 192 RX7 yX7_newWay wsX7_newWay) := goodIn_app (goodIn_of _ (by decide +kernel)) ggL_law_X7_newWay
set_option maxRecDepth 20000 in
theorem ggL_law_X8_newWay : GoodIn wsL_law wsX8_newWay := goodIn_r _ [1097, 115, 116, 426, 427, 428, 5, 429, 1086, 1087, 1088, 1089, 125, 382, 383, 384, 385, 1252, 1253, 1254, 1255, 1256, 1257, 1258, 1259, 1260, 1261, 1262, 1263, 1264, 1265, 1266, 1267, 1268, 1269, 1270, 1271, 1272, 1273, 1274, 1275, 1276, 1277, 1278, 1279, 1280, 1281, 1282, 1283, 1284, 1285, 1286, 1287, 1288] (by decide +kernel) (by decide +kernel)
set_option maxRecDepth 20000 in
theorem gL_law_X8_newWay : GoodIn wsL_law (wsV RL 195 RX8 yX8_newWay wsX8_newWay) := goodIn_app (goodIn_of _ (by decide +kernel)) ggL_law_X8_newWay
set_option maxRecDepth 20000 in
theorem ggL_law_X7_together : GoodIn wsL_law wsX7_together := goodIn_r _ [1101, 17, 16, 268, 934, 935, 936, 2, 937, 240, 241, 242, 243, 244, 720, 721, 722, 140, 141, 142, 143, 45, 287, 288, 289, 15, 290, 50, 51, 291, 204, 205, 206, 52, 292, 53, 54, 55, 56, 57, 293, 58, 59, 803, 299, 300, 301, 302, 303, 304, 305, 306, 307, 308, 309, 310, 311, 312, 313, 314, 315, 316, 317, 318, 319, 320, 321, 322, 323, 324, 325, 326, 327, 328, 329, 330, 331, 332, 333, 68, 69, 334, 335, 336, 337, 338, 339, 340, 341, 1240, 1241, 1242, 1243, 1244, 1245, 1246, 1247, 1248, 1249, 1250, 1251, 1289, 1290, 1291, 1292, 1293, 1294, 1295, 1296, 1297, 1298, 1299, 1300] (by decide +kernel) (by decide +kernel)
set_option maxRecDepth 20000 in
theorem gL_law_X7_together : GoodIn wsL_law (wsV RL 196 RX7 yX7_together wsX7_together) := goodIn_app (goodIn_of _ (by decide +kernel)) ggL_law_X7_together
set_option maxRecDepth 20000 in
theorem ggL_law_X8_together : GoodIn wsL_law wsX8_together := goodIn_r _ [1105, 126, 257, 258, 259, 5, 260, 261, 156, 157, 158, 727, 728, 729, 730, 159, 160, 161, 162, 114, 350, 351, 352, 353, 121, 354, 355, 356, 357, 358, 359, 127, 360, 361, 362, 363, 117, 364, 365, 120, 119, 366, 367, 368, 369, 116, 370, 371, 372, 373, 374, 375, 376, 377, 128, 378, 379, 380, 381, 115, 125, 382, 383, 384, 385, 1252, 1253, 1254, 1255, 1256, 1257, 1258, 1259, 1260, 1261, 1262, 1263, 1264, 1265, 1266, 1267, 1268, 1269, 1270, 1271, 1272, 1273, 1274, 1275, 1276, 1277, 1278, 1279, 1280, 1281, 1282, 1283, 1284, 1285, 1286, 1287, 1288] (by decide +kernel) (by decide +kernel)
set_option maxRecDepth 20000 in
theorem gL_law_X8_together : GoodIn wsL_law (wsV RL 199 RX8 yX8_together wsX8_together) := goodIn_app (goodIn_of _ (by decide +kernel)) ggL_law_X8_together
set_option maxRecDepth 20000 in
theorem ggL_law_X7_alone : GoodIn wsL_law wsX7_alone := goodIn_r _ [1109, 17, 16, 240, 241, 242, 2, 243, 244, 720, 721, 722, 140, 141, 142, 143, 45, 287, 288, 289, 15, 290, 50, 51, 291, 204, 205, 206, 52, 292, 53, 54, 55, 56, 57, 293, 58, 59, 694, 307, 308, 309, 903, 904, 905, 906, 306, 803, 299, 300, 301, 302, 303, 304, 305, 310, 311, 312, 313, 314, 315, 316, 317, 318, 319, 320, 321, 322, 323, 324, 325, 326, 327, 328, 329, 330, 331, 332, 333, 68, 69, 334, 335, 336, 337, 338, 339, 340, 341, 1240, 1241, 1242, 1243, 1244, 1245, 1246, 1247, 1248, 1249, 1250, 1251, 1289, 1290, 1291, 1292, 1293, 1294, 1295, 1296, 1297, 1298, 1299, 1300] (by decide +kernel) (by decide +kernel)
set_option maxRecDepth 20000 in
theorem gL_law_X7_alone : GoodIn wsL_law (wsV RL 200 RX7 yX7_alone wsX7_alone) := goodIn_app (goodIn_of _ (by decide +kernel)) ggL_law_X7_alone
set_option maxRecDepth 20000 in
theorem ggL_law_X8_alone : GoodIn wsL_law wsX8_alone := goodIn_r _ [1113, 126, 257, 258, 259, 5, 260, 261, 156, 157, 158, 727, 728, 729, 730, 159, 160, 161, 162, 114, 350, 351, 352, 353, 121, 354, 355, 374, 375, 376, 377, 128, 117, 370, 371, 372, 373, 356, 357, 358, 359, 127, 360, 361, 362, 363, 364, 365, 120, 119, 366, 367, 368, 369, 116, 378, 379, 380, 381, 115, 125, 382, 383, 384, 385, 1252, 1253, 1254, 1255, 1256, 1257, 1258, 1259, 1260, 1261, 1262, 1263, 1264, 1265, 1266, 1267, 1268, 1269, 1270, 1271, 1272, 1273, 1274, 1275, 1276, 1277, 1278, 1279, 1280, 1281, 1282, 1283, 1284, 1285, 1286, 1287, 1288] (by decide +kernel) (by decide +kernel)
set_option maxRecDepth 20000 in
theorem gL_law_X8_alone : GoodIn wsL_law (wsV RL 203 RX8 yX8_alone wsX8_alone) := goodIn_app (goodIn_of _ (by decide +kernel)) ggL_law_X8_alone
set_option maxRecDepth 20000 in
theorem ggL_law_X7_covered : GoodIn wsL_law wsX7_covered := goodIn_r _ [1117, 17, 244, 720, 721, 2, 722, 140, 141, 142, 143, 45, 283, 284, 285, 286, 16, 287, 288, 289, 15, 290, 50, 51, 291, 204, 205, 206, 52, 292, 53, 54, 55, 56, 57, 293, 58, 59, 294, 295, 296, 297, 298, 299, 300, 301, 302, 303, 304, 305, 306, 307, 308, 309, 310, 311, 312, 313, 314, 315, 316, 317, 318, 319, 320, 321, 322, 323, 324, 325, 326, 327, 328, 329, 330, 331, 332, 333, 68, 69, 334, 335, 336, 337, 338, 339, 340, 341, 694, 903, 904, 905, 906, 1240, 1241, 1242, 1243, 1244, 1245, 1246, 1247, 1248, 1249, 1250, 1251, 1289, 1290, 1291, 1292, 1293, 1294, 1295, 1296, 1297, 1298, 1299, 1300] (by decide +kernel) (by decide +kernel)
set_option maxRecDepth 20000 in
theorem gL_law_X7_covered : GoodIn wsL_law (wsV RL 204 RX7 yX7_covered wsX7_covered) := goodIn_app (goodIn_of _ (by decide +kernel)) ggL_law_X7_covered
set_option maxRecDepth 20000 in
theorem ggL_law_X8_covered : GoodIn wsL_law wsX8_covered := goodIn_r _ [1121, 261, 126, 727, 728, 5, 729, 730, 156, 157, 158, 159, 160, 161, 162, 114, 731, 732, 733, 734, 350, 351, 352, 353, 121, 354, 355, 356, 357, 358, 359, 127, 360, 361, 362, 363, 117, 364, 365, 120, 119, 366, 367, 368, 369, 116, 370, 371, 372, 373, 374, 375, 376, 377, 128, 378, 379, 380, 381, 115, 125, 382, 383, 384, 385, 1252, 1253, 1254, 1255, 1256, 1257, 1258, 1259, 1260, 1261, 1262, 1263, 1264, 1265, 1266, 1267, 1268, 1269, 1270, 1271, 1272, 1273, 1274, 1275, 1276, 1277, 1278, 1279, 1280, 1281, 1282, 1283, 1284, 1285, 1286, 1287, 1288] (by decide +kernel) (by decide +kernel)
set_option maxRecDepth 20000 in
theorem gL_law_X8_covered : GoodIn wsL_law (wsV RL 207 RX8 yX8_covered wsX8_covered) := goodIn_app (goodIn_of _ (by decide +kernel)) ggL_law_X8_covered
set_option maxRecDepth 20000 in
theorem ggL_law_X7_reach : GoodIn wsL_law wsX7_reach := goodIn_r _ [1125, 16, 390, 404, 405, 406, 2, 407, 140, 141, 142, 143, 45, 711, 323, 324, 15, 325, 52, 1240, 1241, 1242, 1243, 1244, 1245, 1246, 1247, 1248, 1249, 1250, 1251, 1289, 1290, 1291, 1292, 1293, 1294, 1295, 1296, 1297, 1298, 1299, 1300] (by decide +kernel) (by decide +kernel)
set_option maxRecDepth 20000 in
theorem gL_law_X7_reach : GoodIn wsL_law (wsV RL 208 RX7 yX7_reach wsX7_reach) := goodIn_app (goodIn_of _ (by decide +kernel)) ggL_law_X7_reach
set_option maxRecDepth 20000 in
theorem ggL_law_X8_reach : GoodIn wsL_law wsX8_reach := goodIn_r _ [1129, 395, 115, 125, 422, 423, 424, 5, 425, 156, 157, 158, 159, 160, 161, 162, 114, 382, 383, 384, 385, 116, 1252, 1253, 1254, 1255, 1256, 1257, 1258, 1259, 1260, 1261, 1262, 1263, 1264, 1265, 1266, 1267, 1268, 1269, 1270, 1271, 1272, 1273, 1274, 1275, 1276, 1277, 1278, 1279, 1280, 1281, 1282, 1283, 1284, 1285, 1286, 1287, 1288] (by decide +kernel) (by decide +kernel)
set_option maxRecDepth 20000 in
theorem gL_law_X8_reach : GoodIn wsL_law (wsV RL 211 RX8 yX8_reach wsX8_reach) := goodIn_app (goodIn_of _ (by decide +kernel)) ggL_law_X8_reach
set_option maxRecDepth 20000 in
theorem ggL_law_X7_farthest : GoodIn wsL_law wsX7_farthest := goodIn_r _ [1133, 43, 16, 390, 828, 404, 405, 406, 2, 407, 140, 141, 142, 143, 45, 835, 836, 837, 42, 838, 839, 840, 711, 323, 324, 15, 325, 52, 852, 853, 854, 855, 1240, 1241, 1242, 1243, 1244, 1245, 1246, 1247, 1248, 1249, 1250, 1251, 1289, 1290, 1291, 1292, 1293, 1294, 1295, 1296, 1297, 1298, 1299, 1300, 1315, 1316] (by decide +kernel) (by decide +kernel)
set_option maxRecDepth 20000 in
theorem gL_law_X7_farthest : GoodIn wsL_law (wsV RL 212 RX7 yX7_farthest wsX7_farthest) := goodIn_app (goodIn_of _ (by decide +kernel)) ggL_law_X7_farthest
set_option maxRecDepth 20000 in
theorem ggL_law_X8_farthest : GoodIn wsL_law wsX8_farthest := goodIn_r _ [1137, 115, 125, 422, 423, 424, 5, 425, 156, 157, 158, 159, 160, 161, 162, 114, 382, 383, 384, 385, 116, 1252, 1253, 1254, 1255, 1256, 1257, 1258, 1259, 1260, 1261, 1262, 1263, 1264, 1265, 1266, 1267, 1268, 1269, 1270, 1271, 1272, 1273, 1274, 1275, 1276, 1277, 1278, 1279, 1280, 1281, 1282, 1283, 1284, 1285, 1286, 1287, 1288] (by decide +kernel) (by decide +kernel)
set_option maxRecDepth 20000 in
theorem gL_law_X8_farthest : GoodIn wsL_law (wsV RL 215 RX8 yX8_farthest wsX8_farthest) := goodIn_app (goodIn_of _ (by decide +kernel)) ggL_law_X8_farthest
set_option maxRecDepth 20000 in
theorem ggL_law_X7_ofKind : GoodIn wsL_law wsX7_ofKind := goodIn_r _ [1141, 16, 244, 266, 269, 270, 2, 271, 140, 141, 142, 143, 45, 1240, 1241, 1242, 1243, 1244, 1245, 1246, 1247, 1248, 1249, 1250, 1251, 1289, 1290, 1291, 1292, 1293, 1294, 1295, 1296, 1297, 1298, 1299, 1300] (by decide +kernel) (by decide +kernel)
set_option maxRecDepth 20000 in
theorem gL_law_X7_ofKind : GoodIn wsL_law (wsV RL 216 RX7 yX7_ofKind wsX7_ofKind) := goodIn_app (goodIn_of _ (by decide +kernel)) ggL_law_X7_ofKind
set_option maxRecDepth 20000 in
theorem ggL_law_X8_ofKind : GoodIn wsL_law wsX8_ofKind := goodIn_r _ [1145, 346, 261, 117, 156, 157, 5, 158, 159, 160, 161, 162, 114, 1252, 1253, 1254, 1255, 1256, 1257, 1258, 1259, 1260, 1261, 1262, 1263, 1264, 1265, 1266, 1267, 1268, 1269, 1270, 1271, 1272, 1273, 1274, 1275, 1276, 1277, 1278, 1279, 1280, 1281, 1282, 1283, 1284, 1285, 1286, 1287, 1288] (by decide +kernel) (by decide +kernel)
set_option maxRecDepth 20000 in
theorem gL_law_X8_ofKind : GoodIn wsL_law (wsV RL 219 RX8 yX8_ofKind wsX8_ofKind) := goodIn_app (goodIn_of _ (by decide +kernel)) ggL_law_X8_ofKind
set_option maxRecDepth 20000 in
theorem ggL_law_X7_judge : GoodIn wsL_law wsX7_judge := goodIn_r _ [1149, 17, 16, 21, 794, 795, 796, 2, 797, 798, 167, 168, 169, 170, 137, 138, 139, 171, 172, 173, 23, 174, 77, 175, 176, 177, 178, 140, 141, 142, 143, 45, 287, 288, 289, 15, 290, 50, 51, 291, 204, 205, 206, 52, 292, 53, 54, 55, 56, 57, 293, 58, 59, 799, 800, 801, 802, 202, 179, 180, 181, 182, 148, 739, 740, 741, 742, 302, 303, 304, 305, 306, 307, 308, 309, 803, 299, 300, 301, 310, 311, 312, 313, 314, 315, 316, 317, 318, 319, 320, 321, 322, 323, 324, 325, 326, 327, 328, 329, 330, 331, 332, 333, 68, 69, 334, 335, 336, 337, 338, 339, 340, 341, 1240, 1241, 1242, 1243, 1244, 1245, 1246, 1247, 1248, 1249, 1250, 1251, 1301, 1302, 1303, 1289, 1290, 1291, 1292, 1293, 1294, 1295, 1296, 1297, 1298, 1299, 1300] (by decide +kernel) (by decide +kernel)
set_option maxRecDepth 20000 in
theorem gL_law_X7_judge : GoodIn wsL_law (wsV RL 220 RX7 yX7_judge wsX7_judge) := goodIn_app (goodIn_of _ (by decide +kernel)) ggL_law_X7_judge
set_option maxRecDepth 20000 in
theorem ggL_law_X8_judge : GoodIn wsL_law wsX8_judge := goodIn_r _ [1153, 808, 809, 810, 5, 811, 153, 155, 108, 156, 157, 158, 159, 160, 161, 162, 114, 191, 192, 193, 194, 106, 812, 813, 814, 815, 110, 350, 351, 352, 353, 261, 126, 121, 354, 355, 759, 760, 761, 762, 115, 374, 375, 376, 377, 128, 117, 356, 357, 358, 359, 127, 360, 361, 362, 363, 364, 365, 120, 119, 366, 367, 368, 369, 116, 370, 371, 372, 373, 378, 379, 380, 381, 125, 382, 383, 384, 385, 1252, 1253, 1254, 1255, 1256, 1257, 1258, 1259, 1260, 1261, 1262, 1263, 1264, 1265, 1266, 1267, 1268, 1269, 1270, 1271, 1272, 1273, 1274, 1275, 1276, 1277, 1278, 1279, 1280, 1281, 1282, 1283, 1284, 1285, 1286, 1287, 1288] (by decide +kernel) (by decide +kernel)
set_option maxRecDepth 20000 in
theorem gL_law_X8_judge : GoodIn wsL_law (wsV RL 223 RX8 yX8_judge wsX8_judge) := goodIn_app (goodIn_of _ (by decide +kernel)) ggL_law_X8_judge
set_option maxRecDepth 20000 in
theorem ggL_law_X7_hours : GoodIn wsL_law wsX7_hours := goodIn_r _ [1157, 16, 955, 956, 2, 957, 140, 141, 142, 143, 45, 294, 295, 296, 15, 297, 298, 299, 300, 301, 292, 57, 302, 303, 304, 305, 306, 307, 308, 309, 53, 310, 311, 312, 313, 56, 55, 314, 315, 316, 317, 293, 318, 319, 320, 321, 50, 322, 323, 324, 325, 52, 326, 327, 328, 329, 51, 330, 331, 332, 333, 68, 69, 334, 335, 336, 337, 338, 339, 340, 341, 739, 740, 741, 742, 1240, 1241, 1242, 1243, 1244, 1245, 1246, 1247, 1248, 1249, 1250, 1251, 1289, 1290, 1291, 1292, 1293, 1294, 1295, 1296, 1297, 1298, 1299, 1300] (by decide +kernel) (by decide +kernel)
set_option maxRecDepth 20000 in
theorem gL_law_X7_hours : GoodIn wsL_law (wsV RL 224 RX7 yX7_hours wsX7_hours) := goodIn_app (goodIn_of _ (by decide +kernel)) ggL_law_X7_hours
set_option maxRecDepth 20000 in
theorem ggL_law_X8_hours : GoodIn wsL_law wsX8_hours := goodIn_r _ [1161, 730, 156, 157, 5, 158, 159, 160, 161, 162, 114, 731, 732, 733, 734, 350, 351, 352, 353, 261, 126, 121, 354, 355, 356, 357, 358, 359, 127, 360, 361, 362, 363, 117, 364, 365, 120, 119, 366, 367, 368, 369, 116, 370, 371, 372, 373, 374, 375, 376, 377, 128, 378, 379, 380, 381, 115, 125, 382, 383, 384, 385, 1162, 1163, 1164, 1165, 759, 760, 761, 762, 1252, 1253, 1254, 1255, 1256, 1257, 1258, 1259, 1260, 1261, 1262, 1263, 1264, 1265, 1266, 1267, 1268, 1269, 1270, 1271, 1272, 1273, 1274, 1275, 1276, 1277, 1278, 1279, 1280, 1281, 1282, 1283, 1284, 1285, 1286, 1287, 1288] (by decide +kernel) (by decide +kernel)
set_option maxRecDepth 20000 in
theorem gL_law_X8_hours : GoodIn wsL_law (wsV RL 227 RX8 yX8_hours wsX8_hours) := goodIn_app (goodIn_of _ (by decide +kernel)) ggL_law_X8_hours
set_option maxRecDepth 20000 in
theorem ggL_law_X7_drawn : GoodIn wsL_law wsX7_drawn := goodIn_r _ [1169, 16, 955, 956, 2, 957, 140, 141, 142, 143, 45, 1170, 1171, 1172, 15, 1173, 292, 53, 1174, 1175, 1176, 1177, 57, 51, 58, 50, 748, 749, 750, 751, 752, 753, 754, 1178, 1179, 1180, 1181, 59, 1182, 326, 327, 328, 329, 334, 335, 336, 337, 293, 338, 339, 340, 341, 743, 744, 745, 746, 747, 740, 741, 742, 302, 303, 304, 305, 306, 307, 308, 309, 1240, 1241, 1242, 1243, 1244, 1245, 1246, 1247, 1248, 1249, 1250, 1251, 1289, 1290, 1291, 1292, 1293, 1294, 1295, 1296, 1297, 1298, 1299, 1300] (by decide +kernel) (by decide +kernel)
set_option maxRecDepth 20000 in
theorem gL_law_X7_drawn : GoodIn wsL_law (wsV RL 228 RX7 yX7_drawn wsX7_drawn) := goodIn_app (goodIn_of _ (by decide +kernel)) ggL_law_X7_drawn
set_option maxRecDepth 20000 in
theorem ggL_law_X8_drawn : GoodIn wsL_law wsX8_drawn := goodIn_r _ [1186, 730, 261, 355, 156, 157, 5, 158, 159, 160, 161, 162, 114, 350, 351, 352, 353, 126, 121, 354, 1187, 1188, 1189, 1190, 117, 122, 116, 1191, 1192, 1193, 1194, 123, 1195, 763, 764, 765, 759, 760, 761, 762, 115, 374, 375, 376, 377, 128, 1162, 1163, 1164, 1165, 1252, 1253, 1254, 1255, 1256, 1257, 1258, 1259, 1260, 1261, 1262, 1263, 1264, 1265, 1266, 1267, 1268, 1269, 1270, 1271, 1272, 1273, 1274, 1275, 1276, 1277, 1278, 1279, 1280, 1281, 1282, 1283, 1284, 1285, 1286, 1287, 1288] (by decide +kernel) (by decide +kernel)
set_option maxRecDepth 20000 in
theorem gL_law_X8_drawn : GoodIn wsL_law (wsV RL 231 RX8 yX8_drawn wsX8_drawn) := goodIn_app (goodIn_of _ (by decide +kernel)) ggL_law_X8_drawn
set_option maxRecDepth 20000 in
theorem ggL_law_X7_seed : GoodIn wsL_law wsX7_seed := goodIn_r _ [1199, 16, 1200, 1240, 1241, 1242, 1243, 1244, 1245, 1246, 1247, 1248, 1249, 1250, 1251, 1289, 1290, 1291, 1292, 1293, 1294, 1295, 1296, 1297, 1298, 1299, 1300] (by decide +kernel) (by decide +kernel)
set_option maxRecDepth 20000 in
theorem gL_law_X7_seed : GoodIn wsL_law (wsV RL 232 RX7 yX7_seed wsX7_seed) := goodIn_app (goodIn_of _ (by decide +kernel)) ggL_law_X7_seed
set_option maxRecDepth 20000 in
theorem ggL_law_X8_seed : GoodIn wsL_law wsX8_seed := goodIn_r _ [1204, 123, 1252, 1253, 1254, 1255, 1256, 1257, 1258, 1259, 1260, 1261, 1262, 1263, 1264, 1265, 1266, 1267, 1268, 1269, 1270, 1271, 1272, 1273, 1274, 1275, 1276, 1277, 1278, 1279, 1280, 1281, 1282, 1283, 1284, 1285, 1286, 1287, 1288] (by decide +kernel) (by decide +kernel)
set_option maxRecDepth 20000 in
theorem gL_law_X8_seed : GoodIn wsL_law (wsV RL 235 RX8 yX8_seed wsX8_seed) := goodIn_app (goodIn_of _ (by decide +kernel)) ggL_law_X8_seed
set_option maxRecDepth 20000 in
theorem ggL_law_X7_image : GoodIn wsL_law wsX7_image := goodIn_r _ [1208, 19, 16, 1209, 287, 288, 289, 15, 290, 50, 51, 291, 204, 205, 206, 52, 292, 53, 54, 55, 56, 57, 293, 58, 59, 1240, 1241, 1242, 1243, 1244, 1245, 1246, 1247, 1248, 1249, 1250, 1251, 1289, 1290, 1291, 1292, 1293, 1294, 1295, 1296, 1297, 1298, 1299, 1300] (by decide +kernel) (by decide +kernel)
set_option maxRecDepth 20000 in
theorem gL_law_X7_image : GoodIn wsL_law (wsV RL 236 RX7 yX7_image wsX7_image) := goodIn_app (goodIn_of _ (by decide +kernel)) ggL_law_X7_image
set_option maxRecDepth 20000 in
theorem ggL_law_X8_image : GoodIn wsL_law wsX8_image := goodIn_r _ [1213, 1214, 631, 4, 5, 634, 103, 104, 105, 11, 12, 44, 106, 107, 108, 109, 78, 110, 111, 112, 113, 114, 115, 116, 117, 118, 119, 120, 121, 122, 123, 124, 125, 126, 127, 128, 129, 130, 131, 132, 635, 636, 637, 638, 261, 354, 639, 640, 641, 1252, 1253, 1254, 1255, 1256, 1257, 1258, 1259, 1260, 1261, 1262, 1263, 1264, 1265, 1266, 1267, 1268, 1269, 1270, 1271, 1272, 1273, 1274, 1275, 1276, 1277, 1278, 1279, 1280, 1281, 1282, 1283, 1284, 1285, 1286, 1287, 1288] (by decide +kernel) (by decide +kernel)
set_option maxRecDepth 20000 in
theorem gL_law_X8_image : GoodIn wsL_law (wsV RL 239 RX8 yX8_image wsX8_image) := goodIn_app (goodIn_of _ (by decide +kernel)) ggL_law_X8_image
set_option maxRecDepth 20000 in
theorem ggL_law_X7_back : GoodIn wsL_law wsX7_back := goodIn_r _ [1218, 1209, 16, 19, 21, 140, 141, 142, 2, 143, 45, 287, 288, 289, 15, 290, 50, 51, 291, 204, 205, 206, 52, 292, 53, 54, 55, 56, 57, 293, 58, 59, 171, 172, 173, 23, 174, 77, 276, 277, 278, 279, 240, 241, 242, 243, 244, 245, 246, 247, 248, 148, 1240, 1241, 1242, 1243, 1244, 1245, 1246, 1247, 1248, 1249, 1250, 1251, 1289, 1290, 1291, 1292, 1293, 1294, 1295, 1296, 1297, 1298, 1299, 1300, 1301, 1302, 1303] (by decide +kernel) (by decide +kernel)
set_option maxRecDepth 20000 in
theorem gL_law_X7_back : GoodIn wsL_law (wsV RL 240 RX7 yX7_back wsX7_back) := goodIn_app (goodIn_of _ (by decide +kernel)) ggL_law_X7_back
set_option maxRecDepth 20000 in
theorem ggL_law_X8_back : GoodIn wsL_law wsX8_back := goodIn_r _ [1222, 1214, 106, 112, 261, 159, 160, 161, 5, 162, 114, 635, 636, 637, 638, 115, 116, 117, 118, 119, 120, 121, 354, 122, 123, 639, 640, 641, 1252, 1253, 1254, 1255, 1256, 1257, 1258, 1259, 1260, 1261, 1262, 1263, 1264, 1265, 1266, 1267, 1268, 1269, 1270, 1271, 1272, 1273, 1274, 1275, 1276, 1277, 1278, 1279, 1280, 1281, 1282, 1283, 1284, 1285, 1286, 1287, 1288] (by decide +kernel) (by decide +kernel)
set_option maxRecDepth 20000 in
theorem gL_law_X8_back : GoodIn wsL_law (wsV RL 243 RX8 yX8_back wsX8_back) := goodIn_app (goodIn_of _ (by decide +kernel)) ggL_law_X8_back
set_option maxRecDepth 20000 in
theorem ggL_law_X7_status : GoodIn wsL_law wsX7_status := goodIn_r _ [1226, 45, 16, 390, 244, 462, 463, 27, 473, 1200, 1227, 1228, 1229, 15, 1230, 50, 51, 748, 749, 750, 751, 752, 753, 754, 739, 740, 741, 742, 302, 303, 304, 305, 292, 57, 306, 307, 308, 309, 53, 1231, 1232, 1233, 2, 1234, 21, 175, 176, 177, 23, 178, 77, 1240, 1241, 1242, 1243, 1244, 1245, 1246, 1247, 1248, 1249, 1250, 1251, 1289, 1290, 1291, 1292, 1293, 1294, 1295, 1296, 1297, 1298, 1299, 1300, 1304, 1305, 1301, 1302, 1303] (by decide +kernel) (by decide +kernel)
set_option maxRecDepth 20000 in
theorem gL_law_X7_status : GoodIn wsL_law (wsV RL 244 RX7 yX7_status wsX7_status) := goodIn_app (goodIn_of _ (by decide +kernel)) ggL_law_X7_status
set_option maxRecDepth 20000 in
theorem ggL_law_X8_status : GoodIn wsL_law wsX8_status := goodIn_r _ [1238, 115, 116, 261, 354, 122, 484, 123, 106, 395, 1239, 114, 763, 764, 5, 765, 350, 351, 352, 353, 126, 121, 355, 759, 760, 761, 762, 374, 375, 376, 377, 128, 117, 156, 157, 158, 1252, 1253, 1254, 1255, 1256, 1257, 1258, 1259, 1260, 1261, 1262, 1263, 1264, 1265, 1266, 1267, 1268, 1269, 1270, 1271, 1272, 1273, 1274, 1275, 1276, 1277, 1278, 1279, 1280, 1281, 1282, 1283, 1284, 1285, 1286, 1287, 1288] (by decide +kernel) (by decide +kernel)
set_option maxRecDepth 20000 in
theorem gL_law_X8_status : GoodIn wsL_law (wsV RL 247 RX8 yX8_status wsX8_status) := goodIn_app (goodIn_of _ (by decide +kernel)) ggL_law_X8_status
theorem dL_law_0 : decode cL_law 0 = .ok (.new 7, 3) := by decide +kernel
theorem dL_law_3 : decode cL_law 3 = .ok (.dup, 1) := by decide +kernel
theorem dL_law_4 : decode cL_law 4 = .ok (.invokespecial 9, 3) := by decide +kernel
theorem dL_law_7 : decode cL_law 7 = .ok (.astore_n 1, 1) := by decide +kernel
theorem dL_law_8 : decode cL_law 8 = .ok (.new 10, 3) := by decide +kernel
theorem dL_law_11 : decode cL_law 11 = .ok (.dup, 1) := by decide +kernel
theorem dL_law_12 : decode cL_law 12 = .ok (.invokespecial 12, 3) := by decide +kernel
theorem dL_law_15 : decode cL_law 15 = .ok (.astore_n 2, 1) := by decide +kernel
theorem dL_law_16 : decode cL_law 16 = .ok (.iconst 0, 1) := by decide +kernel
theorem dL_law_17 : decode cL_law 17 = .ok (.istore_n 3, 1) := by decide +kernel
theorem dL_law_18 : decode cL_law 18 = .ok (.iload_n 3, 1) := by decide +kernel
theorem dL_law_19 : decode cL_law 19 = .ok (.aload_n 0, 1) := by decide +kernel
theorem dL_law_20 : decode cL_law 20 = .ok (.arraylength, 1) := by decide +kernel
theorem dL_law_21 : decode cL_law 21 = .ok (.bipush 6, 2) := by decide +kernel
theorem dL_law_23 : decode cL_law 23 = .ok (.isub, 1) := by decide +kernel
theorem dL_law_24 : decode cL_law 24 = .ok (.if_icmp .gt 1959, 3) := by decide +kernel
theorem dL_law_27 : decode cL_law 27 = .ok (.aload_n 0, 1) := by decide +kernel
theorem dL_law_28 : decode cL_law 28 = .ok (.iload_n 3, 1) := by decide +kernel
theorem dL_law_29 : decode cL_law 29 = .ok (.iaload, 1) := by decide +kernel
theorem dL_law_30 : decode cL_law 30 = .ok (.bipush 63, 2) := by decide +kernel
theorem dL_law_32 : decode cL_law 32 = .ok (.iand, 1) := by decide +kernel
theorem dL_law_33 : decode cL_law 33 = .ok (.tableswitch 1944 0 55 #[239, 282, 355, 418, 452, 475, 508, 541, 564, 623, 676, 719, 752, 775, 788, 801, 834, 867, 900, 933, 966, 1009, 1052, 1095, 1118, 1161, 1204, 1237, 1270, 1303, 1336, 1359, 1382, 1405, 1428, 1441, 1454, 1487, 1520, 1543, 1576, 1589, 1602, 1615, 1658, 1691, 1714, 1747, 1770, 1793, 1826, 1849, 1872, 1895, 1908, 1921], 239) := by decide +kernel
theorem dL_law_272 : decode cL_law 272 = .ok (.aload_n 1, 1) := by decide +kernel
theorem dL_law_273 : decode cL_law 273 = .ok (.aload_n 0, 1) := by decide +kernel
theorem dL_law_274 : decode cL_law 274 = .ok (.iload_n 3, 1) := by decide +kernel
theorem dL_law_275 : decode cL_law 275 = .ok (.iconst 1, 1) := by decide +kernel
theorem dL_law_276 : decode cL_law 276 = .ok (.iadd, 1) := by decide +kernel
theorem dL_law_277 : decode cL_law 277 = .ok (.iaload, 1) := by decide +kernel
theorem dL_law_278 : decode cL_law 278 = .ok (.aload_n 0, 1) := by decide +kernel
theorem dL_law_279 : decode cL_law 279 = .ok (.iload_n 3, 1) := by decide +kernel
theorem dL_law_280 : decode cL_law 280 = .ok (.iconst 2, 1) := by decide +kernel
theorem dL_law_281 : decode cL_law 281 = .ok (.iadd, 1) := by decide +kernel
theorem dL_law_282 : decode cL_law 282 = .ok (.iaload, 1) := by decide +kernel
theorem dL_law_283 : decode cL_law 283 = .ok (.aload_n 0, 1) := by decide +kernel
