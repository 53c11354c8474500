theorem dX8_hours_0 : decode cX8_hours 0 = .ok (.iload_n 1, 1) := by decide +kernel
theorem dX8_hours_1 : decode cX8_hours 1 = .ok (.i2l, 1) := by decide +kernel
theorem dX8_hours_2 : decode cX8_hours 2 = .ok (.lconst 1, 1) := by decide +kernel
theorem dX8_hours_3 : decode cX8_hours 3 = .ok (.ldc2_w 277, 3) := by decide +kernel
theorem dX8_hours_6 : decode cX8_hours 6 = .ok (.invokestatic 91, 3) := by decide +kernel
theorem dX8_hours_9 : decode cX8_hours 9 = .ok (.ifCond .ne 10, 3) := by decide +kernel
theorem dX8_hours_12 : decode cX8_hours 12 = .ok (.aload_n 0, 1) := by decide +kernel
theorem dX8_hours_13 : decode cX8_hours 13 = .ok (.bipush (-2), 2) := by decide +kernel
theorem dX8_hours_15 : decode cX8_hours 15 = .ok (.invokevirtual 104, 3) := by decide +kernel
theorem dX8_hours_18 : decode cX8_hours 18 = .ok (.ireturn, 1) := by decide +kernel
theorem dX8_hours_19 : decode cX8_hours 19 = .ok (.aload_n 0, 1) := by decide +kernel
theorem dX8_hours_20 : decode cX8_hours 20 = .ok (.iload_n 1, 1) := by decide +kernel
theorem dX8_hours_21 : decode cX8_hours 21 = .ok (.invokevirtual 282, 3) := by decide +kernel
theorem dX8_hours_24 : decode cX8_hours 24 = .ok (.aload_n 0, 1) := by decide +kernel
theorem dX8_hours_25 : decode cX8_hours 25 = .ok (.invokevirtual 318, 3) := by decide +kernel
theorem dX8_hours_28 : decode cX8_hours 28 = .ok (.aload_n 0, 1) := by decide +kernel
theorem dX8_hours_29 : decode cX8_hours 29 = .ok (.invokevirtual 274, 3) := by decide +kernel
theorem dX8_hours_32 : decode cX8_hours 32 = .ok (.ireturn, 1) := by decide +kernel
set_option maxRecDepth 20000 in
theorem ggX8_strays_X8_below : GoodIn wsX8_strays wsX8_below := goodIn_r _ [9, 10, 11, 15, 16, 17, 18, 19, 20, 21, 22, 23, 24, 25, 26, 27, 28, 29, 30, 31, 32, 33, 34, 35, 36, 37, 38, 39, 40, 41, 42, 43, 44, 45, 46, 47, 48, 49, 50, 51] (by decide +kernel) (by decide +kernel)
set_option maxRecDepth 20000 in
theorem gX8_strays_X8_below : GoodIn wsX8_strays (wsV RX8 321 RX8 yX8_below wsX8_below) := goodIn_app (goodIn_of _ (by decide +kernel)) ggX8_strays_X8_below
set_option maxRecDepth 20000 in
theorem ggX8_strays_X8_bits : GoodIn wsX8_strays wsX8_bits := goodIn_r _ [14] (by decide +kernel) (by decide +kernel)
set_option maxRecDepth 20000 in
theorem gX8_strays_X8_bits : GoodIn wsX8_strays (va_wsS RX8 285 yX8_bits wsX8_bits) := goodIn_app (goodIn_of _ (by decide +kernel)) ggX8_strays_X8_bits
theorem dX8_strays_0 : decode cX8_strays 0 = .ok (.aload_n 0, 1) := by decide +kernel
theorem dX8_strays_1 : decode cX8_strays 1 = .ok (.getfield 44, 3) := by decide +kernel
theorem dX8_strays_4 : decode cX8_strays 4 = .ok (.iload_n 1, 1) := by decide +kernel
theorem dX8_strays_5 : decode cX8_strays 5 = .ok (.iaload, 1) := by decide +kernel
theorem dX8_strays_6 : decode cX8_strays 6 = .ok (.iconst 1, 1) := by decide +kernel
theorem dX8_strays_7 : decode cX8_strays 7 = .ok (.if_icmp .eq 17, 3) := by decide +kernel
theorem dX8_strays_10 : decode cX8_strays 10 = .ok (.aload_n 0, 1) := by decide +kernel
theorem dX8_strays_11 : decode cX8_strays 11 = .ok (.getfield 44, 3) := by decide +kernel
theorem dX8_strays_14 : decode cX8_strays 14 = .ok (.iload_n 1, 1) := by decide +kernel
theorem dX8_strays_15 : decode cX8_strays 15 = .ok (.iaload, 1) := by decide +kernel
theorem dX8_strays_16 : decode cX8_strays 16 = .ok (.iconst 3, 1) := by decide +kernel
theorem dX8_strays_17 : decode cX8_strays 17 = .ok (.if_icmp .eq 7, 3) := by decide +kernel
theorem dX8_strays_20 : decode cX8_strays 20 = .ok (.iconst 1, 1) := by decide +kernel
theorem dX8_strays_21 : decode cX8_strays 21 = .ok (.goto 4, 3) := by decide +kernel
theorem dX8_strays_24 : decode cX8_strays 24 = .ok (.iconst 0, 1) := by decide +kernel
theorem dX8_strays_25 : decode cX8_strays 25 = .ok (.istore_n 2, 1) := by decide +kernel
theorem dX8_strays_26 : decode cX8_strays 26 = .ok (.iload_n 2, 1) := by decide +kernel
theorem dX8_strays_27 : decode cX8_strays 27 = .ok (.ifCond .eq 30, 3) := by decide +kernel
theorem dX8_strays_30 : decode cX8_strays 30 = .ok (.aload_n 0, 1) := by decide +kernel
theorem dX8_strays_31 : decode cX8_strays 31 = .ok (.bipush 12, 2) := by decide +kernel
theorem dX8_strays_33 : decode cX8_strays 33 = .ok (.invokevirtual 321, 3) := by decide +kernel
theorem dX8_strays_36 : decode cX8_strays 36 = .ok (.aload_n 0, 1) := by decide +kernel
theorem dX8_strays_37 : decode cX8_strays 37 = .ok (.getfield 59, 3) := by decide +kernel
theorem dX8_strays_40 : decode cX8_strays 40 = .ok (.if_icmp .ge 17, 3) := by decide +kernel
theorem dX8_strays_43 : decode cX8_strays 43 = .ok (.aload_n 0, 1) := by decide +kernel
theorem dX8_strays_44 : decode cX8_strays 44 = .ok (.getfield 41, 3) := by decide +kernel
theorem dX8_strays_47 : decode cX8_strays 47 = .ok (.aload_n 0, 1) := by decide +kernel
theorem dX8_strays_48 : decode cX8_strays 48 = .ok (.getfield 71, 3) := by decide +kernel
theorem dX8_strays_51 : decode cX8_strays 51 = .ok (.iload_n 1, 1) := by decide +kernel
theorem dX8_strays_52 : decode cX8_strays 52 = .ok (.iaload, 1) := by decide +kernel
theorem dX8_strays_53 : decode cX8_strays 53 = .ok (.iaload, 1) := by decide +kernel
theorem dX8_strays_54 : decode cX8_strays 54 = .ok (.ifCond .ne 4, 3) := by decide +kernel
theorem dX8_strays_57 : decode cX8_strays 57 = .ok (.return_, 1) := by decide +kernel
theorem dX8_strays_58 : decode cX8_strays 58 = .ok (.aload_n 0, 1) := by decide +kernel
theorem dX8_strays_59 : decode cX8_strays 59 = .ok (.aload_n 0, 1) := by decide +kernel
theorem dX8_strays_60 : decode cX8_strays 60 = .ok (.getfield 41, 3) := by decide +kernel
theorem dX8_strays_63 : decode cX8_strays 63 = .ok (.aload_n 0, 1) := by decide +kernel
theorem dX8_strays_64 : decode cX8_strays 64 = .ok (.getfield 71, 3) := by decide +kernel
theorem dX8_strays_67 : decode cX8_strays 67 = .ok (.iload_n 1, 1) := by decide +kernel
theorem dX8_strays_68 : decode cX8_strays 68 = .ok (.iaload, 1) := by decide +kernel
theorem dX8_strays_69 : decode cX8_strays 69 = .ok (.iaload, 1) := by decide +kernel
theorem dX8_strays_70 : decode cX8_strays 70 = .ok (.invokestatic 285, 3) := by decide +kernel
theorem dX8_strays_73 : decode cX8_strays 73 = .ok (.invokevirtual 321, 3) := by decide +kernel
theorem dX8_strays_76 : decode cX8_strays 76 = .ok (.istore_n 3, 1) := by decide +kernel
theorem dX8_strays_77 : decode cX8_strays 77 = .ok (.aload_n 0, 1) := by decide +kernel
theorem dX8_strays_78 : decode cX8_strays 78 = .ok (.getfield 41, 3) := by decide +kernel
theorem dX8_strays_81 : decode cX8_strays 81 = .ok (.aload_n 0, 1) := by decide +kernel
theorem dX8_strays_82 : decode cX8_strays 82 = .ok (.getfield 71, 3) := by decide +kernel
theorem dX8_strays_85 : decode cX8_strays 85 = .ok (.iload_n 1, 1) := by decide +kernel
theorem dX8_strays_86 : decode cX8_strays 86 = .ok (.iaload, 1) := by decide +kernel
theorem dX8_strays_87 : decode cX8_strays 87 = .ok (.iaload, 1) := by decide +kernel
theorem dX8_strays_88 : decode cX8_strays 88 = .ok (.istore 4, 2) := by decide +kernel
theorem dX8_strays_90 : decode cX8_strays 90 = .ok (.iconst 0, 1) := by decide +kernel
theorem dX8_strays_91 : decode cX8_strays 91 = .ok (.istore 5, 2) := by decide +kernel
theorem dX8_strays_93 : decode cX8_strays 93 = .ok (.iload 5, 2) := by decide +kernel
theorem dX8_strays_95 : decode cX8_strays 95 = .ok (.iload_n 3, 1) := by decide +kernel
theorem dX8_strays_96 : decode cX8_strays 96 = .ok (.if_icmp .ge 18, 3) := by decide +kernel
theorem dX8_strays_99 : decode cX8_strays 99 = .ok (.iload 4, 2) := by decide +kernel
theorem dX8_strays_101 : decode cX8_strays 101 = .ok (.iload 4, 2) := by decide +kernel
theorem dX8_strays_103 : decode cX8_strays 103 = .ok (.iconst 1, 1) := by decide +kernel
theorem dX8_strays_104 : decode cX8_strays 104 = .ok (.isub, 1) := by decide +kernel
theorem dX8_strays_105 : decode cX8_strays 105 = .ok (.iand, 1) := by decide +kernel
theorem dX8_strays_106 : decode cX8_strays 106 = .ok (.istore 4, 2) := by decide +kernel
theorem dX8_strays_108 : decode cX8_strays 108 = .ok (.iinc 5 1, 3) := by decide +kernel
theorem dX8_strays_111 : decode cX8_strays 111 = .ok (.goto (-18), 3) := by decide +kernel
theorem dX8_strays_114 : decode cX8_strays 114 = .ok (.iconst 0, 1) := by decide +kernel
theorem dX8_strays_115 : decode cX8_strays 115 = .ok (.istore 5, 2) := by decide +kernel
theorem dX8_strays_117 : decode cX8_strays 117 = .ok (.iload 4, 2) := by decide +kernel
theorem dX8_strays_119 : decode cX8_strays 119 = .ok (.iload 5, 2) := by decide +kernel
theorem dX8_strays_121 : decode cX8_strays 121 = .ok (.ishr, 1) := by decide +kernel
theorem dX8_strays_122 : decode cX8_strays 122 = .ok (.iconst 1, 1) := by decide +kernel
theorem dX8_strays_123 : decode cX8_strays 123 = .ok (.iand, 1) := by decide +kernel
theorem dX8_strays_124 : decode cX8_strays 124 = .ok (.ifCond .ne 9, 3) := by decide +kernel
theorem dX8_strays_127 : decode cX8_strays 127 = .ok (.iinc 5 1, 3) := by decide +kernel
theorem dX8_strays_130 : decode cX8_strays 130 = .ok (.goto (-13), 3) := by decide +kernel
theorem dX8_strays_133 : decode cX8_strays 133 = .ok (.aload_n 0, 1) := by decide +kernel
theorem dX8_strays_134 : decode cX8_strays 134 = .ok (.getfield 71, 3) := by decide +kernel
theorem dX8_strays_137 : decode cX8_strays 137 = .ok (.iload_n 1, 1) := by decide +kernel
theorem dX8_strays_138 : decode cX8_strays 138 = .ok (.iload 5, 2) := by decide +kernel
theorem dX8_strays_140 : decode cX8_strays 140 = .ok (.iastore, 1) := by decide +kernel
theorem dX8_strays_141 : decode cX8_strays 141 = .ok (.return_, 1) := by decide +kernel
set_option maxRecDepth 20000 in
theorem ggX8_drawn_X8_in : GoodIn wsX8_drawn wsX8_in := goodIn_r _ [7] (by decide +kernel) (by decide +kernel)
set_option maxRecDepth 20000 in
theorem gX8_drawn_X8_in : GoodIn wsX8_drawn (va_wsS RX8 91 yX8_in wsX8_in) := goodIn_app (goodIn_of _ (by decide +kernel)) ggX8_drawn_X8_in
set_option maxRecDepth 20000 in
theorem ggX8_drawn_X8_refuse : GoodIn wsX8_drawn wsX8_refuse := goodIn_r _ [11, 12, 50, 51, 52, 53, 54, 55, 56, 57, 58, 59, 60, 61, 62, 63, 64, 65, 66, 67, 68, 69, 70, 71, 72, 73, 74, 75, 76, 77, 78, 79, 80, 81, 82, 83, 84, 85, 86] (by decide +kernel) (by decide +kernel)
set_option maxRecDepth 20000 in
theorem gX8_drawn_X8_refuse : GoodIn wsX8_drawn (wsV RX8 104 RX8 yX8_refuse wsX8_refuse) := goodIn_app (goodIn_of _ (by decide +kernel)) ggX8_drawn_X8_refuse
set_option maxRecDepth 20000 in
theorem ggX8_drawn_X8_begin : GoodIn wsX8_drawn wsX8_begin := goodIn_r _ [16, 2, 17, 18, 19, 3, 50, 51, 52, 53, 54, 55, 56, 57, 58, 59, 60, 61, 62, 63, 64, 65, 66, 67, 68, 69, 70, 71, 72, 73, 74, 75, 76, 77, 78, 79, 80, 81, 82, 83, 84, 85, 86] (by decide +kernel) (by decide +kernel)
set_option maxRecDepth 20000 in
theorem gX8_drawn_X8_begin : GoodIn wsX8_drawn (wsV RX8 125 RX8 yX8_begin wsX8_begin) := goodIn_app (goodIn_of _ (by decide +kernel)) ggX8_drawn_X8_begin
set_option maxRecDepth 20000 in
theorem ggX8_drawn_X8_strays : GoodIn wsX8_drawn wsX8_strays := goodIn_r _ [23, 24, 25, 26, 17, 27, 28, 29, 6, 30, 31, 32, 33, 34, 35, 50, 51, 52, 53, 54, 55, 56, 57, 58, 59, 60, 61, 62, 63, 64, 65, 66, 67, 68, 69, 70, 71, 72, 73, 74, 75, 76, 77, 78, 79, 80, 81, 82, 83, 84, 85, 86] (by decide +kernel) (by decide +kernel)
set_option maxRecDepth 20000 in
theorem gX8_drawn_X8_strays : GoodIn wsX8_drawn (wsV RX8 324 RX8 yX8_strays wsX8_strays) := goodIn_app (goodIn_of _ (by decide +kernel)) ggX8_drawn_X8_strays
set_option maxRecDepth 20000 in
theorem ggX8_drawn_X8_light : GoodIn wsX8_drawn wsX8_light := goodIn_r _ [39, 40, 2, 17, 41, 42, 43, 6, 44, 45, 24, 50, 51, 52, 53, 54, 55, 56, 57, 58, 59, 60, 61, 62, 63, 64, 65, 66, 67, 68, 69, 70, 71, 72, 73, 74, 75, 76, 77, 78, 79, 80, 81, 82, 83, 84, 85, 86] (by decide +kernel) (by decide +kernel)
set_option maxRecDepth 20000 in
theorem gX8_drawn_X8_light : GoodIn wsX8_drawn (wsV RX8 274 RX8 yX8_light wsX8_light) := goodIn_app (goodIn_of _ (by decide +kernel)) ggX8_drawn_X8_light
set_option maxRecDepth 20000 in
theorem ggX8_drawn_X8_bits : GoodIn wsX8_drawn wsX8_bits := goodIn_r _ [35] (by decide +kernel) (by decide +kernel)
set_option maxRecDepth 20000 in
theorem gX8_drawn_X8_bits : GoodIn wsX8_drawn (va_wsS RX8 285 yX8_bits wsX8_bits) := goodIn_app (goodIn_of _ (by decide +kernel)) ggX8_drawn_X8_bits
set_option maxRecDepth 20000 in
theorem ggX8_drawn_X8_stays : GoodIn wsX8_drawn wsX8_stays := goodIn_r _ [49, 2, 18, 17, 3, 19, 50, 51, 52, 53, 54, 55, 56, 57, 58, 59, 60, 61, 62, 63, 64, 65, 66, 67, 68, 69, 70, 71, 72, 73, 74, 75, 76, 77, 78, 79, 80, 81, 82, 83, 84, 85, 86] (by decide +kernel) (by decide +kernel)
set_option maxRecDepth 20000 in
theorem gX8_drawn_X8_stays : GoodIn wsX8_drawn (wsV RX8 318 RX8 yX8_stays wsX8_stays) := goodIn_app (goodIn_of _ (by decide +kernel)) ggX8_drawn_X8_stays
theorem dX8_drawn_0 : decode cX8_drawn 0 = .ok (.iload_n 1, 1) := by decide +kernel
theorem dX8_drawn_1 : decode cX8_drawn 1 = .ok (.i2l, 1) := by decide +kernel
theorem dX8_drawn_2 : decode cX8_drawn 2 = .ok (.lconst 1, 1) := by decide +kernel
theorem dX8_drawn_3 : decode cX8_drawn 3 = .ok (.ldc2_w 277, 3) := by decide +kernel
theorem dX8_drawn_6 : decode cX8_drawn 6 = .ok (.invokestatic 91, 3) := by decide +kernel
theorem dX8_drawn_9 : decode cX8_drawn 9 = .ok (.ifCond .ne 10, 3) := by decide +kernel
theorem dX8_drawn_12 : decode cX8_drawn 12 = .ok (.aload_n 0, 1) := by decide +kernel
theorem dX8_drawn_13 : decode cX8_drawn 13 = .ok (.bipush (-2), 2) := by decide +kernel
theorem dX8_drawn_15 : decode cX8_drawn 15 = .ok (.invokevirtual 104, 3) := by decide +kernel
theorem dX8_drawn_18 : decode cX8_drawn 18 = .ok (.ireturn, 1) := by decide +kernel
theorem dX8_drawn_19 : decode cX8_drawn 19 = .ok (.aload_n 0, 1) := by decide +kernel
theorem dX8_drawn_20 : decode cX8_drawn 20 = .ok (.invokevirtual 125, 3) := by decide +kernel
theorem dX8_drawn_23 : decode cX8_drawn 23 = .ok (.iconst 0, 1) := by decide +kernel
theorem dX8_drawn_24 : decode cX8_drawn 24 = .ok (.istore_n 2, 1) := by decide +kernel
theorem dX8_drawn_25 : decode cX8_drawn 25 = .ok (.iconst 0, 1) := by decide +kernel
theorem dX8_drawn_26 : decode cX8_drawn 26 = .ok (.istore_n 3, 1) := by decide +kernel
theorem dX8_drawn_27 : decode cX8_drawn 27 = .ok (.iload_n 3, 1) := by decide +kernel
theorem dX8_drawn_28 : decode cX8_drawn 28 = .ok (.iload_n 1, 1) := by decide +kernel
theorem dX8_drawn_29 : decode cX8_drawn 29 = .ok (.if_icmp .ge 69, 3) := by decide +kernel
theorem dX8_drawn_32 : decode cX8_drawn 32 = .ok (.iconst 0, 1) := by decide +kernel
theorem dX8_drawn_33 : decode cX8_drawn 33 = .ok (.istore 4, 2) := by decide +kernel
theorem dX8_drawn_35 : decode cX8_drawn 35 = .ok (.iload 4, 2) := by decide +kernel
theorem dX8_drawn_37 : decode cX8_drawn 37 = .ok (.aload_n 0, 1) := by decide +kernel
theorem dX8_drawn_38 : decode cX8_drawn 38 = .ok (.getfield 95, 3) := by decide +kernel
theorem dX8_drawn_41 : decode cX8_drawn 41 = .ok (.if_icmp .ge 15, 3) := by decide +kernel
theorem dX8_drawn_44 : decode cX8_drawn 44 = .ok (.aload_n 0, 1) := by decide +kernel
theorem dX8_drawn_45 : decode cX8_drawn 45 = .ok (.iload 4, 2) := by decide +kernel
theorem dX8_drawn_47 : decode cX8_drawn 47 = .ok (.invokevirtual 324, 3) := by decide +kernel
theorem dX8_drawn_50 : decode cX8_drawn 50 = .ok (.iinc 4 1, 3) := by decide +kernel
theorem dX8_drawn_53 : decode cX8_drawn 53 = .ok (.goto (-18), 3) := by decide +kernel
theorem dX8_drawn_56 : decode cX8_drawn 56 = .ok (.aload_n 0, 1) := by decide +kernel
theorem dX8_drawn_57 : decode cX8_drawn 57 = .ok (.aload_n 0, 1) := by decide +kernel
theorem dX8_drawn_58 : decode cX8_drawn 58 = .ok (.getfield 254, 3) := by decide +kernel
theorem dX8_drawn_61 : decode cX8_drawn 61 = .ok (.sipush 9999, 3) := by decide +kernel
theorem dX8_drawn_64 : decode cX8_drawn 64 = .ok (.if_icmp .ge 12, 3) := by decide +kernel
theorem dX8_drawn_67 : decode cX8_drawn 67 = .ok (.aload_n 0, 1) := by decide +kernel
theorem dX8_drawn_68 : decode cX8_drawn 68 = .ok (.getfield 254, 3) := by decide +kernel
theorem dX8_drawn_71 : decode cX8_drawn 71 = .ok (.iconst 1, 1) := by decide +kernel
theorem dX8_drawn_72 : decode cX8_drawn 72 = .ok (.iadd, 1) := by decide +kernel
theorem dX8_drawn_73 : decode cX8_drawn 73 = .ok (.goto 6, 3) := by decide +kernel
theorem dX8_drawn_76 : decode cX8_drawn 76 = .ok (.sipush 9999, 3) := by decide +kernel
theorem dX8_drawn_79 : decode cX8_drawn 79 = .ok (.putfield 254, 3) := by decide +kernel
theorem dX8_drawn_82 : decode cX8_drawn 82 = .ok (.iload_n 2, 1) := by decide +kernel
theorem dX8_drawn_83 : decode cX8_drawn 83 = .ok (.aload_n 0, 1) := by decide +kernel
theorem dX8_drawn_84 : decode cX8_drawn 84 = .ok (.invokevirtual 274, 3) := by decide +kernel
theorem dX8_drawn_87 : decode cX8_drawn 87 = .ok (.invokestatic 285, 3) := by decide +kernel
theorem dX8_drawn_90 : decode cX8_drawn 90 = .ok (.iadd, 1) := by decide +kernel
theorem dX8_drawn_91 : decode cX8_drawn 91 = .ok (.istore_n 2, 1) := by decide +kernel
theorem dX8_drawn_92 : decode cX8_drawn 92 = .ok (.iinc 3 1, 3) := by decide +kernel
theorem dX8_drawn_95 : decode cX8_drawn 95 = .ok (.goto (-68), 3) := by decide +kernel
theorem dX8_drawn_98 : decode cX8_drawn 98 = .ok (.aload_n 0, 1) := by decide +kernel
theorem dX8_drawn_99 : decode cX8_drawn 99 = .ok (.invokevirtual 318, 3) := by decide +kernel
theorem dX8_drawn_102 : decode cX8_drawn 102 = .ok (.iload_n 2, 1) := by decide +kernel
theorem dX8_drawn_103 : decode cX8_drawn 103 = .ok (.ireturn, 1) := by decide +kernel
theorem dX8_seed_0 : decode cX8_seed 0 = .ok (.aload_n 0, 1) := by decide +kernel
theorem dX8_seed_1 : decode cX8_seed 1 = .ok (.getfield 62, 3) := by decide +kernel
theorem dX8_seed_4 : decode cX8_seed 4 = .ok (.istore_n 2, 1) := by decide +kernel
theorem dX8_seed_5 : decode cX8_seed 5 = .ok (.aload_n 0, 1) := by decide +kernel
theorem dX8_seed_6 : decode cX8_seed 6 = .ok (.iload_n 1, 1) := by decide +kernel
theorem dX8_seed_7 : decode cX8_seed 7 = .ok (.putfield 62, 3) := by decide +kernel
theorem dX8_seed_10 : decode cX8_seed 10 = .ok (.iload_n 2, 1) := by decide +kernel
theorem dX8_seed_11 : decode cX8_seed 11 = .ok (.ireturn, 1) := by decide +kernel
theorem dX8_copied_0 : decode cX8_copied 0 = .ok (.iconst 0, 1) := by decide +kernel
theorem dX8_copied_1 : decode cX8_copied 1 = .ok (.istore_n 2, 1) := by decide +kernel
theorem dX8_copied_2 : decode cX8_copied 2 = .ok (.iload_n 2, 1) := by decide +kernel
theorem dX8_copied_3 : decode cX8_copied 3 = .ok (.aload_n 0, 1) := by decide +kernel
theorem dX8_copied_4 : decode cX8_copied 4 = .ok (.arraylength, 1) := by decide +kernel
theorem dX8_copied_5 : decode cX8_copied 5 = .ok (.if_icmp .ge 15, 3) := by decide +kernel
theorem dX8_copied_8 : decode cX8_copied 8 = .ok (.aload_n 1, 1) := by decide +kernel
theorem dX8_copied_9 : decode cX8_copied 9 = .ok (.iload_n 2, 1) := by decide +kernel
theorem dX8_copied_10 : decode cX8_copied 10 = .ok (.aload_n 0, 1) := by decide +kernel
theorem dX8_copied_11 : decode cX8_copied 11 = .ok (.iload_n 2, 1) := by decide +kernel
theorem dX8_copied_12 : decode cX8_copied 12 = .ok (.iaload, 1) := by decide +kernel
theorem dX8_copied_13 : decode cX8_copied 13 = .ok (.iastore, 1) := by decide +kernel
theorem dX8_copied_14 : decode cX8_copied 14 = .ok (.iinc 2 1, 3) := by decide +kernel
theorem dX8_copied_17 : decode cX8_copied 17 = .ok (.goto (-15), 3) := by decide +kernel
theorem dX8_copied_20 : decode cX8_copied 20 = .ok (.return_, 1) := by decide +kernel
set_option maxRecDepth 20000 in
theorem ggX8_takeFrom_X8_copied : GoodIn wsX8_takeFrom wsX8_copied := goodIn_r _ [15] (by decide +kernel) (by decide +kernel)
set_option maxRecDepth 20000 in
theorem gX8_takeFrom_X8_copied : GoodIn wsX8_takeFrom (va_wsS RX8 327 yX8_copied wsX8_copied) := goodIn_app (goodIn_of _ (by decide +kernel)) ggX8_takeFrom_X8_copied
theorem dX8_takeFrom_0 : decode cX8_takeFrom 0 = .ok (.aload_n 0, 1) := by decide +kernel
theorem dX8_takeFrom_1 : decode cX8_takeFrom 1 = .ok (.aload_n 1, 1) := by decide +kernel
theorem dX8_takeFrom_2 : decode cX8_takeFrom 2 = .ok (.getfield 37, 3) := by decide +kernel
theorem dX8_takeFrom_5 : decode cX8_takeFrom 5 = .ok (.putfield 37, 3) := by decide +kernel
theorem dX8_takeFrom_8 : decode cX8_takeFrom 8 = .ok (.aload_n 1, 1) := by decide +kernel
theorem dX8_takeFrom_9 : decode cX8_takeFrom 9 = .ok (.getfield 41, 3) := by decide +kernel
theorem dX8_takeFrom_12 : decode cX8_takeFrom 12 = .ok (.aload_n 0, 1) := by decide +kernel
theorem dX8_takeFrom_13 : decode cX8_takeFrom 13 = .ok (.getfield 41, 3) := by decide +kernel
theorem dX8_takeFrom_16 : decode cX8_takeFrom 16 = .ok (.invokestatic 327, 3) := by decide +kernel
theorem dX8_takeFrom_19 : decode cX8_takeFrom 19 = .ok (.aload_n 0, 1) := by decide +kernel
theorem dX8_takeFrom_20 : decode cX8_takeFrom 20 = .ok (.aload_n 1, 1) := by decide +kernel
theorem dX8_takeFrom_21 : decode cX8_takeFrom 21 = .ok (.getfield 95, 3) := by decide +kernel
theorem dX8_takeFrom_24 : decode cX8_takeFrom 24 = .ok (.putfield 95, 3) := by decide +kernel
theorem dX8_takeFrom_27 : decode cX8_takeFrom 27 = .ok (.aload_n 1, 1) := by decide +kernel
theorem dX8_takeFrom_28 : decode cX8_takeFrom 28 = .ok (.getfield 44, 3) := by decide +kernel
theorem dX8_takeFrom_31 : decode cX8_takeFrom 31 = .ok (.aload_n 0, 1) := by decide +kernel
theorem dX8_takeFrom_32 : decode cX8_takeFrom 32 = .ok (.getfield 44, 3) := by decide +kernel
theorem dX8_takeFrom_35 : decode cX8_takeFrom 35 = .ok (.invokestatic 327, 3) := by decide +kernel
theorem dX8_takeFrom_38 : decode cX8_takeFrom 38 = .ok (.aload_n 1, 1) := by decide +kernel
theorem dX8_takeFrom_39 : decode cX8_takeFrom 39 = .ok (.getfield 47, 3) := by decide +kernel
theorem dX8_takeFrom_42 : decode cX8_takeFrom 42 = .ok (.aload_n 0, 1) := by decide +kernel
theorem dX8_takeFrom_43 : decode cX8_takeFrom 43 = .ok (.getfield 47, 3) := by decide +kernel
theorem dX8_takeFrom_46 : decode cX8_takeFrom 46 = .ok (.invokestatic 327, 3) := by decide +kernel
theorem dX8_takeFrom_49 : decode cX8_takeFrom 49 = .ok (.aload_n 1, 1) := by decide +kernel
theorem dX8_takeFrom_50 : decode cX8_takeFrom 50 = .ok (.getfield 50, 3) := by decide +kernel
theorem dX8_takeFrom_53 : decode cX8_takeFrom 53 = .ok (.aload_n 0, 1) := by decide +kernel
theorem dX8_takeFrom_54 : decode cX8_takeFrom 54 = .ok (.getfield 50, 3) := by decide +kernel
theorem dX8_takeFrom_57 : decode cX8_takeFrom 57 = .ok (.invokestatic 327, 3) := by decide +kernel
theorem dX8_takeFrom_60 : decode cX8_takeFrom 60 = .ok (.aload_n 1, 1) := by decide +kernel
theorem dX8_takeFrom_61 : decode cX8_takeFrom 61 = .ok (.getfield 53, 3) := by decide +kernel
theorem dX8_takeFrom_64 : decode cX8_takeFrom 64 = .ok (.aload_n 0, 1) := by decide +kernel
theorem dX8_takeFrom_65 : decode cX8_takeFrom 65 = .ok (.getfield 53, 3) := by decide +kernel
theorem dX8_takeFrom_68 : decode cX8_takeFrom 68 = .ok (.invokestatic 327, 3) := by decide +kernel
theorem dX8_takeFrom_71 : decode cX8_takeFrom 71 = .ok (.aload_n 1, 1) := by decide +kernel
theorem dX8_takeFrom_72 : decode cX8_takeFrom 72 = .ok (.getfield 56, 3) := by decide +kernel
theorem dX8_takeFrom_75 : decode cX8_takeFrom 75 = .ok (.aload_n 0, 1) := by decide +kernel
theorem dX8_takeFrom_76 : decode cX8_takeFrom 76 = .ok (.getfield 56, 3) := by decide +kernel
theorem dX8_takeFrom_79 : decode cX8_takeFrom 79 = .ok (.invokestatic 327, 3) := by decide +kernel
theorem dX8_takeFrom_82 : decode cX8_takeFrom 82 = .ok (.aload_n 0, 1) := by decide +kernel
theorem dX8_takeFrom_83 : decode cX8_takeFrom 83 = .ok (.aload_n 1, 1) := by decide +kernel
theorem dX8_takeFrom_84 : decode cX8_takeFrom 84 = .ok (.getfield 153, 3) := by decide +kernel
theorem dX8_takeFrom_87 : decode cX8_takeFrom 87 = .ok (.putfield 153, 3) := by decide +kernel
theorem dX8_takeFrom_90 : decode cX8_takeFrom 90 = .ok (.aload_n 0, 1) := by decide +kernel
theorem dX8_takeFrom_91 : decode cX8_takeFrom 91 = .ok (.aload_n 1, 1) := by decide +kernel
theorem dX8_takeFrom_92 : decode cX8_takeFrom 92 = .ok (.getfield 59, 3) := by decide +kernel
theorem dX8_takeFrom_95 : decode cX8_takeFrom 95 = .ok (.putfield 59, 3) := by decide +kernel
theorem dX8_takeFrom_98 : decode cX8_takeFrom 98 = .ok (.aload_n 0, 1) := by decide +kernel
theorem dX8_takeFrom_99 : decode cX8_takeFrom 99 = .ok (.aload_n 1, 1) := by decide +kernel
theorem dX8_takeFrom_100 : decode cX8_takeFrom 100 = .ok (.getfield 62, 3) := by decide +kernel
theorem dX8_takeFrom_103 : decode cX8_takeFrom 103 = .ok (.putfield 62, 3) := by decide +kernel
theorem dX8_takeFrom_106 : decode cX8_takeFrom 106 = .ok (.return_, 1) := by decide +kernel
set_option maxRecDepth 20000 in
theorem ggX8_image_X8_init : GoodIn wsX8_image wsX8_init := goodIn_r _ [7, 8, 9, 10, 11, 12, 13, 14, 15, 16, 17, 18, 19, 20, 21, 22, 23, 24, 25, 26, 27, 28, 29, 30, 31, 32, 33, 34, 35, 36, 37, 38, 39, 49, 50, 51, 52, 53, 54, 55, 56, 57, 58, 59, 60, 61, 62, 63, 64, 65, 66, 67, 68, 69, 70, 71, 72, 73, 74, 75, 76, 77, 78, 79, 80, 81, 82, 83, 84, 85] (by decide +kernel) (by decide +kernel)
set_option maxRecDepth 20000 in
theorem gX8_image_X8_init : GoodIn wsX8_image (wsX8_init) := ggX8_image_X8_init
set_option maxRecDepth 20000 in
theorem ggX8_image_X8_takeFrom : GoodIn wsX8_image wsX8_takeFrom := goodIn_r _ [43, 22, 23, 44, 24, 25, 26, 27, 28, 45, 29, 30, 46, 47, 4, 48, 49, 50, 51, 52, 53, 54, 55, 56, 57, 58, 59, 60, 61, 62, 63, 64, 65, 66, 67, 68, 69, 70, 71, 72, 73, 74, 75, 76, 77, 78, 79, 80, 81, 82, 83, 84, 85] (by decide +kernel) (by decide +kernel)
set_option maxRecDepth 20000 in
theorem gX8_image_X8_takeFrom : GoodIn wsX8_image (wsV RX8 237 RX8 yX8_takeFrom wsX8_takeFrom) := goodIn_app (goodIn_of _ (by decide +kernel)) ggX8_image_X8_takeFrom
theorem dX8_image_0 : decode cX8_image 0 = .ok (.aload_n 0, 1) := by decide +kernel
theorem dX8_image_1 : decode cX8_image 1 = .ok (.getfield 331, 3) := by decide +kernel
theorem dX8_image_4 : decode cX8_image 4 = .ok (.ifnonnull 14, 3) := by decide +kernel
theorem dX8_image_7 : decode cX8_image 7 = .ok (.aload_n 0, 1) := by decide +kernel
theorem dX8_image_8 : decode cX8_image 8 = .ok (.new 8, 3) := by decide +kernel
theorem dX8_image_11 : decode cX8_image 11 = .ok (.dup, 1) := by decide +kernel
theorem dX8_image_12 : decode cX8_image 12 = .ok (.invokespecial 236, 3) := by decide +kernel
theorem dX8_image_15 : decode cX8_image 15 = .ok (.putfield 331, 3) := by decide +kernel
theorem dX8_image_18 : decode cX8_image 18 = .ok (.aload_n 0, 1) := by decide +kernel
theorem dX8_image_19 : decode cX8_image 19 = .ok (.getfield 331, 3) := by decide +kernel
theorem dX8_image_22 : decode cX8_image 22 = .ok (.aload_n 0, 1) := by decide +kernel
theorem dX8_image_23 : decode cX8_image 23 = .ok (.invokevirtual 237, 3) := by decide +kernel
theorem dX8_image_26 : decode cX8_image 26 = .ok (.iconst 1, 1) := by decide +kernel
theorem dX8_image_27 : decode cX8_image 27 = .ok (.ireturn, 1) := by decide +kernel
set_option maxRecDepth 20000 in
theorem ggX8_back_X8_refuse : GoodIn wsX8_back wsX8_refuse := goodIn_r _ [9, 10, 28, 29, 30, 31, 32, 33, 34, 35, 36, 37, 38, 39, 40, 41, 42, 43, 44, 45, 46, 47, 48, 49, 50, 51, 52, 53, 54, 55, 56, 57, 58, 59, 60, 61, 62, 63, 64] (by decide +kernel) (by decide +kernel)
set_option maxRecDepth 20000 in
theorem gX8_back_X8_refuse : GoodIn wsX8_back (wsV RX8 104 RX8 yX8_refuse wsX8_refuse) := goodIn_app (goodIn_of _ (by decide +kernel)) ggX8_back_X8_refuse
set_option maxRecDepth 20000 in
theorem ggX8_back_X8_takeFrom : GoodIn wsX8_back wsX8_takeFrom := goodIn_r _ [14, 15, 16, 4, 17, 18, 19, 20, 21, 22, 23, 24, 25, 26, 8, 27, 28, 29, 30, 31, 32, 33, 34, 35, 36, 37, 38, 39, 40, 41, 42, 43, 44, 45, 46, 47, 48, 49, 50, 51, 52, 53, 54, 55, 56, 57, 58, 59, 60, 61, 62, 63, 64] (by decide +kernel) (by decide +kernel)
set_option maxRecDepth 20000 in
theorem gX8_back_X8_takeFrom : GoodIn wsX8_back (wsV RX8 237 RX8 yX8_takeFrom wsX8_takeFrom) := goodIn_app (goodIn_of _ (by decide +kernel)) ggX8_back_X8_takeFrom
theorem dX8_back_0 : decode cX8_back 0 = .ok (.aload_n 0, 1) := by decide +kernel
theorem dX8_back_1 : decode cX8_back 1 = .ok (.getfield 331, 3) := by decide +kernel
theorem dX8_back_4 : decode cX8_back 4 = .ok (.ifnonnull 10, 3) := by decide +kernel
theorem dX8_back_7 : decode cX8_back 7 = .ok (.aload_n 0, 1) := by decide +kernel
theorem dX8_back_8 : decode cX8_back 8 = .ok (.bipush (-5), 2) := by decide +kernel
theorem dX8_back_10 : decode cX8_back 10 = .ok (.invokevirtual 104, 3) := by decide +kernel
theorem dX8_back_13 : decode cX8_back 13 = .ok (.ireturn, 1) := by decide +kernel
theorem dX8_back_14 : decode cX8_back 14 = .ok (.aload_n 0, 1) := by decide +kernel
theorem dX8_back_15 : decode cX8_back 15 = .ok (.aload_n 0, 1) := by decide +kernel
theorem dX8_back_16 : decode cX8_back 16 = .ok (.getfield 331, 3) := by decide +kernel
theorem dX8_back_19 : decode cX8_back 19 = .ok (.invokevirtual 237, 3) := by decide +kernel
theorem dX8_back_22 : decode cX8_back 22 = .ok (.iconst 0, 1) := by decide +kernel
theorem dX8_back_23 : decode cX8_back 23 = .ok (.istore_n 1, 1) := by decide +kernel
theorem dX8_back_24 : decode cX8_back 24 = .ok (.iload_n 1, 1) := by decide +kernel
theorem dX8_back_25 : decode cX8_back 25 = .ok (.bipush 8, 2) := by decide +kernel
theorem dX8_back_27 : decode cX8_back 27 = .ok (.if_icmp .ge 39, 3) := by decide +kernel
theorem dX8_back_30 : decode cX8_back 30 = .ok (.aload_n 0, 1) := by decide +kernel
theorem dX8_back_31 : decode cX8_back 31 = .ok (.getfield 7, 3) := by decide +kernel
theorem dX8_back_34 : decode cX8_back 34 = .ok (.iload_n 1, 1) := by decide +kernel
theorem dX8_back_35 : decode cX8_back 35 = .ok (.iaload, 1) := by decide +kernel
theorem dX8_back_36 : decode cX8_back 36 = .ok (.iconst 2, 1) := by decide +kernel
theorem dX8_back_37 : decode cX8_back 37 = .ok (.if_icmp .ne 23, 3) := by decide +kernel
theorem dX8_back_40 : decode cX8_back 40 = .ok (.aload_n 0, 1) := by decide +kernel
theorem dX8_back_41 : decode cX8_back 41 = .ok (.getfield 28, 3) := by decide +kernel
theorem dX8_back_44 : decode cX8_back 44 = .ok (.iload_n 1, 1) := by decide +kernel
theorem dX8_back_45 : decode cX8_back 45 = .ok (.iaload, 1) := by decide +kernel
theorem dX8_back_46 : decode cX8_back 46 = .ok (.aload_n 0, 1) := by decide +kernel
theorem dX8_back_47 : decode cX8_back 47 = .ok (.getfield 95, 3) := by decide +kernel
theorem dX8_back_50 : decode cX8_back 50 = .ok (.if_icmp .lt 10, 3) := by decide +kernel
theorem dX8_back_53 : decode cX8_back 53 = .ok (.aload_n 0, 1) := by decide +kernel
theorem dX8_back_54 : decode cX8_back 54 = .ok (.getfield 7, 3) := by decide +kernel
theorem dX8_back_57 : decode cX8_back 57 = .ok (.iload_n 1, 1) := by decide +kernel
theorem dX8_back_58 : decode cX8_back 58 = .ok (.iconst 0, 1) := by decide +kernel
theorem dX8_back_59 : decode cX8_back 59 = .ok (.iastore, 1) := by decide +kernel
theorem dX8_back_60 : decode cX8_back 60 = .ok (.iinc 1 1, 3) := by decide +kernel
theorem dX8_back_63 : decode cX8_back 63 = .ok (.goto (-39), 3) := by decide +kernel
theorem dX8_back_66 : decode cX8_back 66 = .ok (.iconst 1, 1) := by decide +kernel
theorem dX8_back_67 : decode cX8_back 67 = .ok (.ireturn, 1) := by decide +kernel
set_option maxRecDepth 20000 in
theorem ggX8_status_X8_bits : GoodIn wsX8_status wsX8_bits := goodIn_r _ [15] (by decide +kernel) (by decide +kernel)
set_option maxRecDepth 20000 in
theorem gX8_status_X8_bits : GoodIn wsX8_status (va_wsS RX8 285 yX8_bits wsX8_bits) := goodIn_app (goodIn_of _ (by decide +kernel)) ggX8_status_X8_bits
set_option maxRecDepth 20000 in
theorem ggX8_status_X8_begin : GoodIn wsX8_status wsX8_begin := goodIn_r _ [19, 3, 20, 21, 4, 22, 36, 37, 38, 39, 40, 41, 42, 43, 44, 45, 46, 47, 48, 49, 50, 51, 52, 53, 54, 55, 56, 57, 58, 59, 60, 61, 62, 63, 64, 65, 66, 67, 68, 69, 70, 71, 72] (by decide +kernel) (by decide +kernel)
set_option maxRecDepth 20000 in
theorem gX8_status_X8_begin : GoodIn wsX8_status (wsV RX8 125 RX8 yX8_begin wsX8_begin) := goodIn_app (goodIn_of _ (by decide +kernel)) ggX8_status_X8_begin
set_option maxRecDepth 20000 in
theorem ggX8_status_X8_light : GoodIn wsX8_status wsX8_light := goodIn_r _ [26, 1, 3, 20, 27, 28, 29, 14, 30, 31, 32, 36, 37, 38, 39, 40, 41, 42, 43, 44, 45, 46, 47, 48, 49, 50, 51, 52, 53, 54, 55, 56, 57, 58, 59, 60, 61, 62, 63, 64, 65, 66, 67, 68, 69, 70, 71, 72] (by decide +kernel) (by decide +kernel)
set_option maxRecDepth 20000 in
theorem gX8_status_X8_light : GoodIn wsX8_status (wsV RX8 274 RX8 yX8_light wsX8_light) := goodIn_app (goodIn_of _ (by decide +kernel)) ggX8_status_X8_light
set_option maxRecDepth 20000 in
theorem ggX8_status_X8_in : GoodIn wsX8_status wsX8_in := goodIn_r _ [35] (by decide +kernel) (by decide +kernel)
set_option maxRecDepth 20000 in
theorem gX8_status_X8_in : GoodIn wsX8_status (va_wsS RX8 91 yX8_in wsX8_in) := goodIn_app (goodIn_of _ (by decide +kernel)) ggX8_status_X8_in
theorem dX8_status_0 : decode cX8_status 0 = .ok (.iconst 0, 1) := by decide +kernel
theorem dX8_status_1 : decode cX8_status 1 = .ok (.istore_n 2, 1) := by decide +kernel
theorem dX8_status_2 : decode cX8_status 2 = .ok (.iload_n 1, 1) := by decide +kernel
theorem dX8_status_3 : decode cX8_status 3 = .ok (.tableswitch 153 0 8 #[49, 54, 86, 91, 96, 101, 110, 115, 120], 49) := by decide +kernel
theorem dX8_status_52 : decode cX8_status 52 = .ok (.aload_n 0, 1) := by decide +kernel
theorem dX8_status_53 : decode cX8_status 53 = .ok (.getfield 37, 3) := by decide +kernel
theorem dX8_status_56 : decode cX8_status 56 = .ok (.ireturn, 1) := by decide +kernel
theorem dX8_status_57 : decode cX8_status 57 = .ok (.iconst 0, 1) := by decide +kernel
theorem dX8_status_58 : decode cX8_status 58 = .ok (.istore_n 3, 1) := by decide +kernel
theorem dX8_status_59 : decode cX8_status 59 = .ok (.iload_n 3, 1) := by decide +kernel
theorem dX8_status_60 : decode cX8_status 60 = .ok (.aload_n 0, 1) := by decide +kernel
theorem dX8_status_61 : decode cX8_status 61 = .ok (.getfield 37, 3) := by decide +kernel
theorem dX8_status_64 : decode cX8_status 64 = .ok (.if_icmp .ge 21, 3) := by decide +kernel
theorem dX8_status_67 : decode cX8_status 67 = .ok (.iload_n 2, 1) := by decide +kernel
theorem dX8_status_68 : decode cX8_status 68 = .ok (.aload_n 0, 1) := by decide +kernel
theorem dX8_status_69 : decode cX8_status 69 = .ok (.getfield 41, 3) := by decide +kernel
theorem dX8_status_72 : decode cX8_status 72 = .ok (.iload_n 3, 1) := by decide +kernel
theorem dX8_status_73 : decode cX8_status 73 = .ok (.iaload, 1) := by decide +kernel
theorem dX8_status_74 : decode cX8_status 74 = .ok (.invokestatic 285, 3) := by decide +kernel
theorem dX8_status_77 : decode cX8_status 77 = .ok (.iadd, 1) := by decide +kernel
theorem dX8_status_78 : decode cX8_status 78 = .ok (.istore_n 2, 1) := by decide +kernel
theorem dX8_status_79 : decode cX8_status 79 = .ok (.iinc 3 1, 3) := by decide +kernel
theorem dX8_status_82 : decode cX8_status 82 = .ok (.goto (-23), 3) := by decide +kernel
theorem dX8_status_85 : decode cX8_status 85 = .ok (.iload_n 2, 1) := by decide +kernel
theorem dX8_status_86 : decode cX8_status 86 = .ok (.iconst 2, 1) := by decide +kernel
theorem dX8_status_87 : decode cX8_status 87 = .ok (.idiv, 1) := by decide +kernel
theorem dX8_status_88 : decode cX8_status 88 = .ok (.ireturn, 1) := by decide +kernel
theorem dX8_status_89 : decode cX8_status 89 = .ok (.aload_n 0, 1) := by decide +kernel
theorem dX8_status_90 : decode cX8_status 90 = .ok (.getfield 95, 3) := by decide +kernel
theorem dX8_status_93 : decode cX8_status 93 = .ok (.ireturn, 1) := by decide +kernel
theorem dX8_status_94 : decode cX8_status 94 = .ok (.aload_n 0, 1) := by decide +kernel
theorem dX8_status_95 : decode cX8_status 95 = .ok (.getfield 153, 3) := by decide +kernel
theorem dX8_status_98 : decode cX8_status 98 = .ok (.ireturn, 1) := by decide +kernel
theorem dX8_status_99 : decode cX8_status 99 = .ok (.aload_n 0, 1) := by decide +kernel
theorem dX8_status_100 : decode cX8_status 100 = .ok (.getfield 59, 3) := by decide +kernel
theorem dX8_status_103 : decode cX8_status 103 = .ok (.ireturn, 1) := by decide +kernel
theorem dX8_status_104 : decode cX8_status 104 = .ok (.aload_n 0, 1) := by decide +kernel
theorem dX8_status_105 : decode cX8_status 105 = .ok (.invokevirtual 125, 3) := by decide +kernel
theorem dX8_status_108 : decode cX8_status 108 = .ok (.aload_n 0, 1) := by decide +kernel
theorem dX8_status_109 : decode cX8_status 109 = .ok (.invokevirtual 274, 3) := by decide +kernel
theorem dX8_status_112 : decode cX8_status 112 = .ok (.ireturn, 1) := by decide +kernel
theorem dX8_status_113 : decode cX8_status 113 = .ok (.aload_n 0, 1) := by decide +kernel
theorem dX8_status_114 : decode cX8_status 114 = .ok (.getfield 158, 3) := by decide +kernel
theorem dX8_status_117 : decode cX8_status 117 = .ok (.ireturn, 1) := by decide +kernel
theorem dX8_status_118 : decode cX8_status 118 = .ok (.aload_n 0, 1) := by decide +kernel
theorem dX8_status_119 : decode cX8_status 119 = .ok (.getfield 62, 3) := by decide +kernel
theorem dX8_status_122 : decode cX8_status 122 = .ok (.ireturn, 1) := by decide +kernel
theorem dX8_status_123 : decode cX8_status 123 = .ok (.iconst 0, 1) := by decide +kernel
theorem dX8_status_124 : decode cX8_status 124 = .ok (.istore_n 3, 1) := by decide +kernel
theorem dX8_status_125 : decode cX8_status 125 = .ok (.iload_n 3, 1) := by decide +kernel
theorem dX8_status_126 : decode cX8_status 126 = .ok (.bipush 8, 2) := by decide +kernel
theorem dX8_status_128 : decode cX8_status 128 = .ok (.if_icmp .ge 26, 3) := by decide +kernel
theorem dX8_status_131 : decode cX8_status 131 = .ok (.iload_n 2, 1) := by decide +kernel
theorem dX8_status_132 : decode cX8_status 132 = .ok (.aload_n 0, 1) := by decide +kernel
theorem dX8_status_133 : decode cX8_status 133 = .ok (.getfield 7, 3) := by decide +kernel
theorem dX8_status_136 : decode cX8_status 136 = .ok (.iload_n 3, 1) := by decide +kernel
theorem dX8_status_137 : decode cX8_status 137 = .ok (.iaload, 1) := by decide +kernel
theorem dX8_status_138 : decode cX8_status 138 = .ok (.ifCond .eq 7, 3) := by decide +kernel
theorem dX8_status_141 : decode cX8_status 141 = .ok (.iconst 1, 1) := by decide +kernel
theorem dX8_status_142 : decode cX8_status 142 = .ok (.goto 4, 3) := by decide +kernel
theorem dX8_status_145 : decode cX8_status 145 = .ok (.iconst 0, 1) := by decide +kernel
theorem dX8_status_146 : decode cX8_status 146 = .ok (.iadd, 1) := by decide +kernel
theorem dX8_status_147 : decode cX8_status 147 = .ok (.istore_n 2, 1) := by decide +kernel
theorem dX8_status_148 : decode cX8_status 148 = .ok (.iinc 3 1, 3) := by decide +kernel
theorem dX8_status_151 : decode cX8_status 151 = .ok (.goto (-26), 3) := by decide +kernel
theorem dX8_status_154 : decode cX8_status 154 = .ok (.iload_n 2, 1) := by decide +kernel
theorem dX8_status_155 : decode cX8_status 155 = .ok (.ireturn, 1) := by decide +kernel
theorem dX8_status_156 : decode cX8_status 156 = .ok (.iload_n 1, 1) := by decide +kernel
theorem dX8_status_157 : decode cX8_status 157 = .ok (.i2l, 1) := by decide +kernel
theorem dX8_status_158 : decode cX8_status 158 = .ok (.ldc2_w 131, 3) := by decide +kernel
theorem dX8_status_161 : decode cX8_status 161 = .ok (.ldc2_w 334, 3) := by decide +kernel
theorem dX8_status_164 : decode cX8_status 164 = .ok (.invokestatic 91, 3) := by decide +kernel
theorem dX8_status_167 : decode cX8_status 167 = .ok (.ifCond .eq 15, 3) := by decide +kernel
theorem dX8_status_170 : decode cX8_status 170 = .ok (.aload_n 0, 1) := by decide +kernel
theorem dX8_status_171 : decode cX8_status 171 = .ok (.getfield 34, 3) := by decide +kernel
theorem dX8_status_174 : decode cX8_status 174 = .ok (.iload_n 1, 1) := by decide +kernel
theorem dX8_status_175 : decode cX8_status 175 = .ok (.bipush 10, 2) := by decide +kernel
theorem dX8_status_177 : decode cX8_status 177 = .ok (.isub, 1) := by decide +kernel
theorem dX8_status_178 : decode cX8_status 178 = .ok (.iaload, 1) := by decide +kernel
theorem dX8_status_179 : decode cX8_status 179 = .ok (.goto 4, 3) := by decide +kernel
theorem dX8_status_182 : decode cX8_status 182 = .ok (.iconst (-1), 1) := by decide +kernel
theorem dX8_status_183 : decode cX8_status 183 = .ok (.ireturn, 1) := by decide +kernel
theorem dJ6_bitCount_0f7a4_0 : decode cJ6_bitCount_0f7a4 0 = .ok (.iload_n 0, 1) := by decide +kernel
theorem dJ6_bitCount_0f7a4_1 : decode cJ6_bitCount_0f7a4 1 = .ok (.iload_n 0, 1) := by decide +kernel
theorem dJ6_bitCount_0f7a4_2 : decode cJ6_bitCount_0f7a4 2 = .ok (.iconst 1, 1) := by decide +kernel
theorem dJ6_bitCount_0f7a4_3 : decode cJ6_bitCount_0f7a4 3 = .ok (.iushr, 1) := by decide +kernel
theorem dJ6_bitCount_0f7a4_4 : decode cJ6_bitCount_0f7a4 4 = .ok (.ldc_w 265, 3) := by decide +kernel
theorem dJ6_bitCount_0f7a4_7 : decode cJ6_bitCount_0f7a4 7 = .ok (.iand, 1) := by decide +kernel
theorem dJ6_bitCount_0f7a4_8 : decode cJ6_bitCount_0f7a4 8 = .ok (.isub, 1) := by decide +kernel
theorem dJ6_bitCount_0f7a4_9 : decode cJ6_bitCount_0f7a4 9 = .ok (.istore_n 0, 1) := by decide +kernel
theorem dJ6_bitCount_0f7a4_10 : decode cJ6_bitCount_0f7a4 10 = .ok (.iload_n 0, 1) := by decide +kernel
theorem dJ6_bitCount_0f7a4_11 : decode cJ6_bitCount_0f7a4 11 = .ok (.ldc_w 266, 3) := by decide +kernel
theorem dJ6_bitCount_0f7a4_14 : decode cJ6_bitCount_0f7a4 14 = .ok (.iand, 1) := by decide +kernel
theorem dJ6_bitCount_0f7a4_15 : decode cJ6_bitCount_0f7a4 15 = .ok (.iload_n 0, 1) := by decide +kernel
theorem dJ6_bitCount_0f7a4_16 : decode cJ6_bitCount_0f7a4 16 = .ok (.iconst 2, 1) := by decide +kernel
theorem dJ6_bitCount_0f7a4_17 : decode cJ6_bitCount_0f7a4 17 = .ok (.iushr, 1) := by decide +kernel
theorem dJ6_bitCount_0f7a4_18 : decode cJ6_bitCount_0f7a4 18 = .ok (.ldc_w 266, 3) := by decide +kernel
theorem dJ6_bitCount_0f7a4_21 : decode cJ6_bitCount_0f7a4 21 = .ok (.iand, 1) := by decide +kernel
theorem dJ6_bitCount_0f7a4_22 : decode cJ6_bitCount_0f7a4 22 = .ok (.iadd, 1) := by decide +kernel
theorem dJ6_bitCount_0f7a4_23 : decode cJ6_bitCount_0f7a4 23 = .ok (.istore_n 0, 1) := by decide +kernel
theorem dJ6_bitCount_0f7a4_24 : decode cJ6_bitCount_0f7a4 24 = .ok (.iload_n 0, 1) := by decide +kernel
theorem dJ6_bitCount_0f7a4_25 : decode cJ6_bitCount_0f7a4 25 = .ok (.iload_n 0, 1) := by decide +kernel
theorem dJ6_bitCount_0f7a4_26 : decode cJ6_bitCount_0f7a4 26 = .ok (.iconst 4, 1) := by decide +kernel
theorem dJ6_bitCount_0f7a4_27 : decode cJ6_bitCount_0f7a4 27 = .ok (.iushr, 1) := by decide +kernel
theorem dJ6_bitCount_0f7a4_28 : decode cJ6_bitCount_0f7a4 28 = .ok (.iadd, 1) := by decide +kernel
theorem dJ6_bitCount_0f7a4_29 : decode cJ6_bitCount_0f7a4 29 = .ok (.ldc_w 267, 3) := by decide +kernel
theorem dJ6_bitCount_0f7a4_32 : decode cJ6_bitCount_0f7a4 32 = .ok (.iand, 1) := by decide +kernel
theorem dJ6_bitCount_0f7a4_33 : decode cJ6_bitCount_0f7a4 33 = .ok (.istore_n 0, 1) := by decide +kernel
theorem dJ6_bitCount_0f7a4_34 : decode cJ6_bitCount_0f7a4 34 = .ok (.iload_n 0, 1) := by decide +kernel
theorem dJ6_bitCount_0f7a4_35 : decode cJ6_bitCount_0f7a4 35 = .ok (.iload_n 0, 1) := by decide +kernel
theorem dJ6_bitCount_0f7a4_36 : decode cJ6_bitCount_0f7a4 36 = .ok (.bipush 8, 2) := by decide +kernel
theorem dJ6_bitCount_0f7a4_38 : decode cJ6_bitCount_0f7a4 38 = .ok (.iushr, 1) := by decide +kernel
theorem dJ6_bitCount_0f7a4_39 : decode cJ6_bitCount_0f7a4 39 = .ok (.iadd, 1) := by decide +kernel
theorem dJ6_bitCount_0f7a4_40 : decode cJ6_bitCount_0f7a4 40 = .ok (.istore_n 0, 1) := by decide +kernel
theorem dJ6_bitCount_0f7a4_41 : decode cJ6_bitCount_0f7a4 41 = .ok (.iload_n 0, 1) := by decide +kernel
theorem dJ6_bitCount_0f7a4_42 : decode cJ6_bitCount_0f7a4 42 = .ok (.iload_n 0, 1) := by decide +kernel
theorem dJ6_bitCount_0f7a4_43 : decode cJ6_bitCount_0f7a4 43 = .ok (.bipush 16, 2) := by decide +kernel
theorem dJ6_bitCount_0f7a4_45 : decode cJ6_bitCount_0f7a4 45 = .ok (.iushr, 1) := by decide +kernel
theorem dJ6_bitCount_0f7a4_46 : decode cJ6_bitCount_0f7a4 46 = .ok (.iadd, 1) := by decide +kernel
theorem dJ6_bitCount_0f7a4_47 : decode cJ6_bitCount_0f7a4 47 = .ok (.istore_n 0, 1) := by decide +kernel
theorem dJ6_bitCount_0f7a4_48 : decode cJ6_bitCount_0f7a4 48 = .ok (.iload_n 0, 1) := by decide +kernel
theorem dJ6_bitCount_0f7a4_49 : decode cJ6_bitCount_0f7a4 49 = .ok (.bipush 63, 2) := by decide +kernel
theorem dJ6_bitCount_0f7a4_51 : decode cJ6_bitCount_0f7a4 51 = .ok (.iand, 1) := by decide +kernel
theorem dJ6_bitCount_0f7a4_52 : decode cJ6_bitCount_0f7a4 52 = .ok (.ireturn, 1) := by decide +kernel
theorem dJ9_max_7cf53_0 : decode cJ9_max_7cf53 0 = .ok (.iload_n 0, 1) := by decide +kernel
theorem dJ9_max_7cf53_1 : decode cJ9_max_7cf53 1 = .ok (.iload_n 1, 1) := by decide +kernel
theorem dJ9_max_7cf53_2 : decode cJ9_max_7cf53 2 = .ok (.if_icmp .lt 7, 3) := by decide +kernel
theorem dJ9_max_7cf53_5 : decode cJ9_max_7cf53 5 = .ok (.iload_n 0, 1) := by decide +kernel
theorem dJ9_max_7cf53_6 : decode cJ9_max_7cf53 6 = .ok (.goto 4, 3) := by decide +kernel
theorem dJ9_max_7cf53_9 : decode cJ9_max_7cf53 9 = .ok (.iload_n 1, 1) := by decide +kernel
theorem dJ9_max_7cf53_10 : decode cJ9_max_7cf53 10 = .ok (.ireturn, 1) := by decide +kernel
theorem dJ9_min_7cf53_0 : decode cJ9_min_7cf53 0 = .ok (.iload_n 0, 1) := by decide +kernel
theorem dJ9_min_7cf53_1 : decode cJ9_min_7cf53 1 = .ok (.iload_n 1, 1) := by decide +kernel
theorem dJ9_min_7cf53_2 : decode cJ9_min_7cf53 2 = .ok (.if_icmp .gt 7, 3) := by decide +kernel
theorem dJ9_min_7cf53_5 : decode cJ9_min_7cf53 5 = .ok (.iload_n 0, 1) := by decide +kernel
theorem dJ9_min_7cf53_6 : decode cJ9_min_7cf53 6 = .ok (.goto 4, 3) := by decide +kernel
theorem dJ9_min_7cf53_9 : decode cJ9_min_7cf53 9 = .ok (.iload_n 1, 1) := by decide +kernel
theorem dJ9_min_7cf53_10 : decode cJ9_min_7cf53 10 = .ok (.ireturn, 1) := by decide +kernel
set_option maxRecDepth 20000 in
theorem ggJ0_length_8abf5_J0_coder_7d493 : GoodIn wsJ0_length_8abf5 wsJ0_coder_7d493 := goodIn_r _ [6, 7, 8] (by decide +kernel) (by decide +kernel)
set_option maxRecDepth 20000 in
theorem gJ0_length_8abf5_J0_coder_7d493 : GoodIn wsJ0_length_8abf5 (wsV RJ0 335 RJ0 yJ0_coder_7d493 wsJ0_coder_7d493) := goodIn_app (goodIn_of _ (by decide +kernel)) ggJ0_length_8abf5_J0_coder_7d493
theorem dJ0_length_8abf5_0 : decode cJ0_length_8abf5 0 = .ok (.aload_n 0, 1) := by decide +kernel
theorem dJ0_length_8abf5_1 : decode cJ0_length_8abf5 1 = .ok (.getfield 9, 3) := by decide +kernel
theorem dJ0_length_8abf5_4 : decode cJ0_length_8abf5 4 = .ok (.arraylength, 1) := by decide +kernel
theorem dJ0_length_8abf5_5 : decode cJ0_length_8abf5 5 = .ok (.aload_n 0, 1) := by decide +kernel
theorem dJ0_length_8abf5_6 : decode cJ0_length_8abf5 6 = .ok (.invokevirtual 335, 3) := by decide +kernel
theorem dJ0_length_8abf5_9 : decode cJ0_length_8abf5 9 = .ok (.ishr, 1) := by decide +kernel
theorem dJ0_length_8abf5_10 : decode cJ0_length_8abf5 10 = .ok (.ireturn, 1) := by decide +kernel
set_option maxRecDepth 20000 in
theorem ggJ0_charAt_5068e_J0_isLatin1_aae02 : GoodIn wsJ0_charAt_5068e wsJ0_isLatin1_aae02 := goodIn_r _ [6, 7, 8] (by decide +kernel) (by decide +kernel)
set_option maxRecDepth 20000 in
theorem gJ0_charAt_5068e_J0_isLatin1_aae02 : GoodIn wsJ0_charAt_5068e (wsV RJ0 492 RJ0 yJ0_isLatin1_aae02 wsJ0_isLatin1_aae02) := goodIn_app (goodIn_of _ (by decide +kernel)) ggJ0_charAt_5068e_J0_isLatin1_aae02
set_option maxRecDepth 20000 in
theorem ggJ0_charAt_5068e_J1_charAt_3b067 : GoodIn wsJ0_charAt_5068e wsJ1_charAt_3b067 := goodIn_r _ [12, 13, 14, 5, 15, 16, 17, 18, 19, 20] (by decide +kernel) (by decide +kernel)
set_option maxRecDepth 20000 in
theorem gJ0_charAt_5068e_J1_charAt_3b067 : GoodIn wsJ0_charAt_5068e (va_wsS RJ0 495 yJ1_charAt_3b067 wsJ1_charAt_3b067) := goodIn_app (goodIn_of _ (by decide +kernel)) ggJ0_charAt_5068e_J1_charAt_3b067
set_option maxRecDepth 20000 in
theorem ggJ0_charAt_5068e_J2_charAt_3b067 : GoodIn wsJ0_charAt_5068e wsJ2_charAt_3b067 := goodIn_r _ [24, 25, 26, 23, 27, 28, 29, 30, 31, 14, 5, 15, 16, 17, 18, 19, 20, 32, 33, 34, 35, 36, 37] (by decide +kernel) (by decide +kernel)
set_option maxRecDepth 20000 in
theorem gJ0_charAt_5068e_J2_charAt_3b067 : GoodIn wsJ0_charAt_5068e (va_wsS RJ0 498 yJ2_charAt_3b067 wsJ2_charAt_3b067) := goodIn_app (goodIn_of _ (by decide +kernel)) ggJ0_charAt_5068e_J2_charAt_3b067
theorem dJ0_charAt_5068e_0 : decode cJ0_charAt_5068e 0 = .ok (.aload_n 0, 1) := by decide +kernel
theorem dJ0_charAt_5068e_1 : decode cJ0_charAt_5068e 1 = .ok (.invokevirtual 492, 3) := by decide +kernel
theorem dJ0_charAt_5068e_4 : decode cJ0_charAt_5068e 4 = .ok (.ifCond .eq 12, 3) := by decide +kernel
theorem dJ0_charAt_5068e_7 : decode cJ0_charAt_5068e 7 = .ok (.aload_n 0, 1) := by decide +kernel
theorem dJ0_charAt_5068e_8 : decode cJ0_charAt_5068e 8 = .ok (.getfield 9, 3) := by decide +kernel
theorem dJ0_charAt_5068e_11 : decode cJ0_charAt_5068e 11 = .ok (.iload_n 1, 1) := by decide +kernel
theorem dJ0_charAt_5068e_12 : decode cJ0_charAt_5068e 12 = .ok (.invokestatic 495, 3) := by decide +kernel
theorem dJ0_charAt_5068e_15 : decode cJ0_charAt_5068e 15 = .ok (.ireturn, 1) := by decide +kernel
theorem dJ0_charAt_5068e_16 : decode cJ0_charAt_5068e 16 = .ok (.aload_n 0, 1) := by decide +kernel
theorem dJ0_charAt_5068e_17 : decode cJ0_charAt_5068e 17 = .ok (.getfield 9, 3) := by decide +kernel
theorem dJ0_charAt_5068e_20 : decode cJ0_charAt_5068e 20 = .ok (.iload_n 1, 1) := by decide +kernel
theorem dJ0_charAt_5068e_21 : decode cJ0_charAt_5068e 21 = .ok (.invokestatic 498, 3) := by decide +kernel
theorem dJ0_charAt_5068e_24 : decode cJ0_charAt_5068e 24 = .ok (.ireturn, 1) := by decide +kernel
theorem dJ0_coder_7d493_0 : decode cJ0_coder_7d493 0 = .ok (.getstatic 38, 3) := by decide +kernel
theorem dJ0_coder_7d493_3 : decode cJ0_coder_7d493 3 = .ok (.ifCond .eq 10, 3) := by decide +kernel
theorem dJ0_coder_7d493_6 : decode cJ0_coder_7d493 6 = .ok (.aload_n 0, 1) := by decide +kernel
theorem dJ0_coder_7d493_7 : decode cJ0_coder_7d493 7 = .ok (.getfield 15, 3) := by decide +kernel
theorem dJ0_coder_7d493_10 : decode cJ0_coder_7d493 10 = .ok (.goto 4, 3) := by decide +kernel
theorem dJ0_coder_7d493_13 : decode cJ0_coder_7d493 13 = .ok (.iconst 1, 1) := by decide +kernel
theorem dJ0_coder_7d493_14 : decode cJ0_coder_7d493 14 = .ok (.ireturn, 1) := by decide +kernel
theorem dJ0_isLatin1_aae02_0 : decode cJ0_isLatin1_aae02 0 = .ok (.getstatic 38, 3) := by decide +kernel
theorem dJ0_isLatin1_aae02_3 : decode cJ0_isLatin1_aae02 3 = .ok (.ifCond .eq 14, 3) := by decide +kernel
theorem dJ0_isLatin1_aae02_6 : decode cJ0_isLatin1_aae02 6 = .ok (.aload_n 0, 1) := by decide +kernel
theorem dJ0_isLatin1_aae02_7 : decode cJ0_isLatin1_aae02 7 = .ok (.getfield 15, 3) := by decide +kernel
theorem dJ0_isLatin1_aae02_10 : decode cJ0_isLatin1_aae02 10 = .ok (.ifCond .ne 7, 3) := by decide +kernel
theorem dJ0_isLatin1_aae02_13 : decode cJ0_isLatin1_aae02 13 = .ok (.iconst 1, 1) := by decide +kernel
theorem dJ0_isLatin1_aae02_14 : decode cJ0_isLatin1_aae02 14 = .ok (.goto 4, 3) := by decide +kernel
theorem dJ0_isLatin1_aae02_17 : decode cJ0_isLatin1_aae02 17 = .ok (.iconst 0, 1) := by decide +kernel
theorem dJ0_isLatin1_aae02_18 : decode cJ0_isLatin1_aae02 18 = .ok (.ireturn, 1) := by decide +kernel
set_option maxRecDepth 20000 in
theorem ggJ0_checkIndex_df160_J3_checkIndex_8e157 : GoodIn wsJ0_checkIndex_df160 wsJ3_checkIndex_8e157 := goodIn_r _ [5] (by decide +kernel) (by decide +kernel)
set_option maxRecDepth 20000 in
theorem gJ0_checkIndex_df160_J3_checkIndex_8e157 : GoodIn wsJ0_checkIndex_df160 (va_wsS RJ0 1059 yJ3_checkIndex_8e157 wsJ3_checkIndex_8e157) := goodIn_app (goodIn_of _ (by decide +kernel)) ggJ0_checkIndex_df160_J3_checkIndex_8e157
theorem dJ0_checkIndex_df160_0 : decode cJ0_checkIndex_df160 0 = .ok (.iload_n 0, 1) := by decide +kernel
theorem dJ0_checkIndex_df160_1 : decode cJ0_checkIndex_df160 1 = .ok (.iload_n 1, 1) := by decide +kernel
theorem dJ0_checkIndex_df160_2 : decode cJ0_checkIndex_df160 2 = .ok (.getstatic 1053, 3) := by decide +kernel
theorem dJ0_checkIndex_df160_5 : decode cJ0_checkIndex_df160 5 = .ok (.invokestatic 1059, 3) := by decide +kernel
theorem dJ0_checkIndex_df160_8 : decode cJ0_checkIndex_df160 8 = .ok (.pop, 1) := by decide +kernel
theorem dJ0_checkIndex_df160_9 : decode cJ0_checkIndex_df160 9 = .ok (.return_, 1) := by decide +kernel
set_option maxRecDepth 20000 in
theorem ggJ1_charAt_3b067_J0_checkIndex_df160 : GoodIn wsJ1_charAt_3b067 wsJ0_checkIndex_df160 := goodIn_r _ [4, 5, 6, 7, 8, 9] (by decide +kernel) (by decide +kernel)
set_option maxRecDepth 20000 in
theorem gJ1_charAt_3b067_J0_checkIndex_df160 : GoodIn wsJ1_charAt_3b067 (va_wsS RJ1 9 yJ0_checkIndex_df160 wsJ0_checkIndex_df160) := goodIn_app (goodIn_of _ (by decide +kernel)) ggJ1_charAt_3b067_J0_checkIndex_df160
theorem dJ1_charAt_3b067_0 : decode cJ1_charAt_3b067 0 = .ok (.iload_n 1, 1) := by decide +kernel
theorem dJ1_charAt_3b067_1 : decode cJ1_charAt_3b067 1 = .ok (.aload_n 0, 1) := by decide +kernel
theorem dJ1_charAt_3b067_2 : decode cJ1_charAt_3b067 2 = .ok (.arraylength, 1) := by decide +kernel
theorem dJ1_charAt_3b067_3 : decode cJ1_charAt_3b067 3 = .ok (.invokestatic 9, 3) := by decide +kernel
theorem dJ1_charAt_3b067_6 : decode cJ1_charAt_3b067 6 = .ok (.aload_n 0, 1) := by decide +kernel
theorem dJ1_charAt_3b067_7 : decode cJ1_charAt_3b067 7 = .ok (.iload_n 1, 1) := by decide +kernel
theorem dJ1_charAt_3b067_8 : decode cJ1_charAt_3b067 8 = .ok (.baload, 1) := by decide +kernel
theorem dJ1_charAt_3b067_9 : decode cJ1_charAt_3b067 9 = .ok (.sipush 255, 3) := by decide +kernel
theorem dJ1_charAt_3b067_12 : decode cJ1_charAt_3b067 12 = .ok (.iand, 1) := by decide +kernel
theorem dJ1_charAt_3b067_13 : decode cJ1_charAt_3b067 13 = .ok (.i2c, 1) := by decide +kernel
theorem dJ1_charAt_3b067_14 : decode cJ1_charAt_3b067 14 = .ok (.ireturn, 1) := by decide +kernel
set_option maxRecDepth 20000 in
theorem ggJ2_getChar_3b067_J2_length_9d52b : GoodIn wsJ2_getChar_3b067 wsJ2_length_9d52b := goodIn_r _ [7] (by decide +kernel) (by decide +kernel)
set_option maxRecDepth 20000 in
theorem gJ2_getChar_3b067_J2_length_9d52b : GoodIn wsJ2_getChar_3b067 (va_wsS RJ2 48 yJ2_length_9d52b wsJ2_length_9d52b) := goodIn_app (goodIn_of _ (by decide +kernel)) ggJ2_getChar_3b067_J2_length_9d52b
theorem dJ2_getChar_3b067_0 : decode cJ2_getChar_3b067 0 = .ok (.getstatic 44, 3) := by decide +kernel
theorem dJ2_getChar_3b067_3 : decode cJ2_getChar_3b067 3 = .ok (.ifCond .ne 25, 3) := by decide +kernel
theorem dJ2_getChar_3b067_6 : decode cJ2_getChar_3b067 6 = .ok (.iload_n 1, 1) := by decide +kernel
theorem dJ2_getChar_3b067_7 : decode cJ2_getChar_3b067 7 = .ok (.ifCond .lt 11, 3) := by decide +kernel
theorem dJ2_getChar_3b067_10 : decode cJ2_getChar_3b067 10 = .ok (.iload_n 1, 1) := by decide +kernel
theorem dJ2_getChar_3b067_11 : decode cJ2_getChar_3b067 11 = .ok (.aload_n 0, 1) := by decide +kernel
theorem dJ2_getChar_3b067_12 : decode cJ2_getChar_3b067 12 = .ok (.invokestatic 48, 3) := by decide +kernel
theorem dJ2_getChar_3b067_15 : decode cJ2_getChar_3b067 15 = .ok (.if_icmp .lt 13, 3) := by decide +kernel
theorem dJ2_getChar_3b067_18 : decode cJ2_getChar_3b067 18 = .ok (.new 52, 3) := by decide +kernel
theorem dJ2_getChar_3b067_21 : decode cJ2_getChar_3b067 21 = .ok (.dup, 1) := by decide +kernel
theorem dJ2_getChar_3b067_22 : decode cJ2_getChar_3b067 22 = .ok (.ldc 54, 2) := by decide +kernel
theorem dJ2_getChar_3b067_24 : decode cJ2_getChar_3b067 24 = .ok (.invokespecial 56, 3) := by decide +kernel
theorem dJ2_getChar_3b067_27 : decode cJ2_getChar_3b067 27 = .ok (.athrow, 1) := by decide +kernel
theorem dJ2_getChar_3b067_28 : decode cJ2_getChar_3b067 28 = .ok (.iload_n 1, 1) := by decide +kernel
theorem dJ2_getChar_3b067_29 : decode cJ2_getChar_3b067 29 = .ok (.iconst 1, 1) := by decide +kernel
theorem dJ2_getChar_3b067_30 : decode cJ2_getChar_3b067 30 = .ok (.ishl, 1) := by decide +kernel
theorem dJ2_getChar_3b067_31 : decode cJ2_getChar_3b067 31 = .ok (.istore_n 1, 1) := by decide +kernel
theorem dJ2_getChar_3b067_32 : decode cJ2_getChar_3b067 32 = .ok (.aload_n 0, 1) := by decide +kernel
theorem dJ2_getChar_3b067_33 : decode cJ2_getChar_3b067 33 = .ok (.iload_n 1, 1) := by decide +kernel
theorem dJ2_getChar_3b067_34 : decode cJ2_getChar_3b067 34 = .ok (.iinc 1 1, 3) := by decide +kernel
theorem dJ2_getChar_3b067_37 : decode cJ2_getChar_3b067 37 = .ok (.baload, 1) := by decide +kernel
theorem dJ2_getChar_3b067_38 : decode cJ2_getChar_3b067 38 = .ok (.sipush 255, 3) := by decide +kernel
theorem dJ2_getChar_3b067_41 : decode cJ2_getChar_3b067 41 = .ok (.iand, 1) := by decide +kernel
theorem dJ2_getChar_3b067_42 : decode cJ2_getChar_3b067 42 = .ok (.getstatic 59, 3) := by decide +kernel
theorem dJ2_getChar_3b067_45 : decode cJ2_getChar_3b067 45 = .ok (.ishl, 1) := by decide +kernel
theorem dJ2_getChar_3b067_46 : decode cJ2_getChar_3b067 46 = .ok (.aload_n 0, 1) := by decide +kernel
theorem dJ2_getChar_3b067_47 : decode cJ2_getChar_3b067 47 = .ok (.iload_n 1, 1) := by decide +kernel
theorem dJ2_getChar_3b067_48 : decode cJ2_getChar_3b067 48 = .ok (.baload, 1) := by decide +kernel
theorem dJ2_getChar_3b067_49 : decode cJ2_getChar_3b067 49 = .ok (.sipush 255, 3) := by decide +kernel
theorem dJ2_getChar_3b067_52 : decode cJ2_getChar_3b067 52 = .ok (.iand, 1) := by decide +kernel
theorem dJ2_getChar_3b067_53 : decode cJ2_getChar_3b067 53 = .ok (.getstatic 63, 3) := by decide +kernel
theorem dJ2_getChar_3b067_56 : decode cJ2_getChar_3b067 56 = .ok (.ishl, 1) := by decide +kernel
theorem dJ2_getChar_3b067_57 : decode cJ2_getChar_3b067 57 = .ok (.ior, 1) := by decide +kernel
theorem dJ2_getChar_3b067_58 : decode cJ2_getChar_3b067 58 = .ok (.i2c, 1) := by decide +kernel
theorem dJ2_getChar_3b067_59 : decode cJ2_getChar_3b067 59 = .ok (.ireturn, 1) := by decide +kernel
theorem dJ2_length_9d52b_0 : decode cJ2_length_9d52b 0 = .ok (.aload_n 0, 1) := by decide +kernel
theorem dJ2_length_9d52b_1 : decode cJ2_length_9d52b 1 = .ok (.arraylength, 1) := by decide +kernel
theorem dJ2_length_9d52b_2 : decode cJ2_length_9d52b 2 = .ok (.iconst 1, 1) := by decide +kernel
theorem dJ2_length_9d52b_3 : decode cJ2_length_9d52b 3 = .ok (.ishr, 1) := by decide +kernel
theorem dJ2_length_9d52b_4 : decode cJ2_length_9d52b 4 = .ok (.ireturn, 1) := by decide +kernel
set_option maxRecDepth 20000 in
theorem ggJ2_charAt_3b067_J2_checkIndex_2214a : GoodIn wsJ2_charAt_3b067 wsJ2_checkIndex_2214a := goodIn_r _ [4, 5, 6, 3, 7, 8, 9, 10, 11, 12, 13, 14, 15, 16] (by decide +kernel) (by decide +kernel)
set_option maxRecDepth 20000 in
theorem gJ2_charAt_3b067_J2_checkIndex_2214a : GoodIn wsJ2_charAt_3b067 (va_wsS RJ2 67 yJ2_checkIndex_2214a wsJ2_checkIndex_2214a) := goodIn_app (goodIn_of _ (by decide +kernel)) ggJ2_charAt_3b067_J2_checkIndex_2214a
set_option maxRecDepth 20000 in
theorem ggJ2_charAt_3b067_J2_getChar_3b067 : GoodIn wsJ2_charAt_3b067 wsJ2_getChar_3b067 := goodIn_r _ [19, 20, 21, 22, 5, 6, 3, 7] (by decide +kernel) (by decide +kernel)
set_option maxRecDepth 20000 in
theorem gJ2_charAt_3b067_J2_getChar_3b067 : GoodIn wsJ2_charAt_3b067 (va_wsS RJ2 71 yJ2_getChar_3b067 wsJ2_getChar_3b067) := goodIn_app (goodIn_of _ (by decide +kernel)) ggJ2_charAt_3b067_J2_getChar_3b067
theorem dJ2_charAt_3b067_0 : decode cJ2_charAt_3b067 0 = .ok (.iload_n 1, 1) := by decide +kernel
theorem dJ2_charAt_3b067_1 : decode cJ2_charAt_3b067 1 = .ok (.aload_n 0, 1) := by decide +kernel
theorem dJ2_charAt_3b067_2 : decode cJ2_charAt_3b067 2 = .ok (.invokestatic 67, 3) := by decide +kernel
theorem dJ2_charAt_3b067_5 : decode cJ2_charAt_3b067 5 = .ok (.aload_n 0, 1) := by decide +kernel
theorem dJ2_charAt_3b067_6 : decode cJ2_charAt_3b067 6 = .ok (.iload_n 1, 1) := by decide +kernel
theorem dJ2_charAt_3b067_7 : decode cJ2_charAt_3b067 7 = .ok (.invokestatic 71, 3) := by decide +kernel
theorem dJ2_charAt_3b067_10 : decode cJ2_charAt_3b067 10 = .ok (.ireturn, 1) := by decide +kernel
set_option maxRecDepth 20000 in
theorem ggJ2_checkIndex_2214a_J2_length_9d52b : GoodIn wsJ2_checkIndex_2214a wsJ2_length_9d52b := goodIn_r _ [4] (by decide +kernel) (by decide +kernel)
set_option maxRecDepth 20000 in
theorem gJ2_checkIndex_2214a_J2_length_9d52b : GoodIn wsJ2_checkIndex_2214a (va_wsS RJ2 48 yJ2_length_9d52b wsJ2_length_9d52b) := goodIn_app (goodIn_of _ (by decide +kernel)) ggJ2_checkIndex_2214a_J2_length_9d52b
set_option maxRecDepth 20000 in
theorem ggJ2_checkIndex_2214a_J0_checkIndex_df160 : GoodIn wsJ2_checkIndex_2214a wsJ0_checkIndex_df160 := goodIn_r _ [8, 9, 10, 11, 12, 13] (by decide +kernel) (by decide +kernel)
set_option maxRecDepth 20000 in
theorem gJ2_checkIndex_2214a_J0_checkIndex_df160 : GoodIn wsJ2_checkIndex_2214a (va_wsS RJ2 414 yJ0_checkIndex_df160 wsJ0_checkIndex_df160) := goodIn_app (goodIn_of _ (by decide +kernel)) ggJ2_checkIndex_2214a_J0_checkIndex_df160
theorem dJ2_checkIndex_2214a_0 : decode cJ2_checkIndex_2214a 0 = .ok (.iload_n 0, 1) := by decide +kernel
theorem dJ2_checkIndex_2214a_1 : decode cJ2_checkIndex_2214a 1 = .ok (.aload_n 1, 1) := by decide +kernel
theorem dJ2_checkIndex_2214a_2 : decode cJ2_checkIndex_2214a 2 = .ok (.invokestatic 48, 3) := by decide +kernel
theorem dJ2_checkIndex_2214a_5 : decode cJ2_checkIndex_2214a 5 = .ok (.invokestatic 414, 3) := by decide +kernel
theorem dJ2_checkIndex_2214a_8 : decode cJ2_checkIndex_2214a 8 = .ok (.return_, 1) := by decide +kernel
theorem dJ3_checkIndex_8e157_0 : decode cJ3_checkIndex_8e157 0 = .ok (.iload_n 0, 1) := by decide +kernel
theorem dJ3_checkIndex_8e157_1 : decode cJ3_checkIndex_8e157 1 = .ok (.ifCond .lt 8, 3) := by decide +kernel
theorem dJ3_checkIndex_8e157_4 : decode cJ3_checkIndex_8e157 4 = .ok (.iload_n 0, 1) := by decide +kernel
theorem dJ3_checkIndex_8e157_5 : decode cJ3_checkIndex_8e157 5 = .ok (.iload_n 1, 1) := by decide +kernel
theorem dJ3_checkIndex_8e157_6 : decode cJ3_checkIndex_8e157 6 = .ok (.if_icmp .lt 10, 3) := by decide +kernel
theorem dJ3_checkIndex_8e157_9 : decode cJ3_checkIndex_8e157 9 = .ok (.aload_n 2, 1) := by decide +kernel
theorem dJ3_checkIndex_8e157_10 : decode cJ3_checkIndex_8e157 10 = .ok (.iload_n 0, 1) := by decide +kernel
theorem dJ3_checkIndex_8e157_11 : decode cJ3_checkIndex_8e157 11 = .ok (.iload_n 1, 1) := by decide +kernel
theorem dJ3_checkIndex_8e157_12 : decode cJ3_checkIndex_8e157 12 = .ok (.invokestatic 95, 3) := by decide +kernel
theorem dJ3_checkIndex_8e157_15 : decode cJ3_checkIndex_8e157 15 = .ok (.athrow, 1) := by decide +kernel
theorem dJ3_checkIndex_8e157_16 : decode cJ3_checkIndex_8e157 16 = .ok (.iload_n 0, 1) := by decide +kernel
theorem dJ3_checkIndex_8e157_17 : decode cJ3_checkIndex_8e157 17 = .ok (.ireturn, 1) := by decide +kernel
abbrev vwCl : List vw_C := [(RX0, TX0, 2), (RX1, TX1, 2), (RX2, TX2, 3), (RX3, TX3, 1), (RX4, TX4, 2), (RX5, TX5, 12), (RX6, TX6, 6), (RX7, TX7, 12), (RX8, TX8, 37)]
