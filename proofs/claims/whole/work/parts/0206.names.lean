theorem dX8_init_20 : decode cX8_init 20 = .ok (.aload_n 0, 1) := by decide +kernel
theorem dX8_init_21 : decode cX8_init 21 = .ok (.bipush 8, 2) := by decide +kernel
theorem dX8_init_23 : decode cX8_init 23 = .ok (.newarray .int, 2) := by decide +kernel
theorem dX8_init_25 : decode cX8_init 25 = .ok (.putfield 16, 3) := by decide +kernel
theorem dX8_init_28 : decode cX8_init 28 = .ok (.aload_n 0, 1) := by decide +kernel
theorem dX8_init_29 : decode cX8_init 29 = .ok (.bipush 8, 2) := by decide +kernel
theorem dX8_init_31 : decode cX8_init 31 = .ok (.bipush 40, 2) := by decide +kernel
theorem dX8_init_33 : decode cX8_init 33 = .ok (.multianewarray 19 2, 4) := by decide +kernel
theorem dX8_init_37 : decode cX8_init 37 = .ok (.putfield 21, 3) := by decide +kernel
theorem dX8_init_40 : decode cX8_init 40 = .ok (.aload_n 0, 1) := by decide +kernel
theorem dX8_init_41 : decode cX8_init 41 = .ok (.bipush 40, 2) := by decide +kernel
theorem dX8_init_43 : decode cX8_init 43 = .ok (.newarray .long, 2) := by decide +kernel
theorem dX8_init_45 : decode cX8_init 45 = .ok (.putfield 24, 3) := by decide +kernel
theorem dX8_init_48 : decode cX8_init 48 = .ok (.aload_n 0, 1) := by decide +kernel
theorem dX8_init_49 : decode cX8_init 49 = .ok (.bipush 8, 2) := by decide +kernel
theorem dX8_init_51 : decode cX8_init 51 = .ok (.newarray .int, 2) := by decide +kernel
theorem dX8_init_53 : decode cX8_init 53 = .ok (.putfield 28, 3) := by decide +kernel
theorem dX8_init_56 : decode cX8_init 56 = .ok (.aload_n 0, 1) := by decide +kernel
theorem dX8_init_57 : decode cX8_init 57 = .ok (.sipush 250, 3) := by decide +kernel
theorem dX8_init_60 : decode cX8_init 60 = .ok (.newarray .int, 2) := by decide +kernel
theorem dX8_init_62 : decode cX8_init 62 = .ok (.putfield 31, 3) := by decide +kernel
theorem dX8_init_65 : decode cX8_init 65 = .ok (.aload_n 0, 1) := by decide +kernel
theorem dX8_init_66 : decode cX8_init 66 = .ok (.bipush 8, 2) := by decide +kernel
theorem dX8_init_68 : decode cX8_init 68 = .ok (.newarray .int, 2) := by decide +kernel
theorem dX8_init_70 : decode cX8_init 70 = .ok (.putfield 34, 3) := by decide +kernel
theorem dX8_init_73 : decode cX8_init 73 = .ok (.aload_n 0, 1) := by decide +kernel
theorem dX8_init_74 : decode cX8_init 74 = .ok (.bipush 6, 2) := by decide +kernel
theorem dX8_init_76 : decode cX8_init 76 = .ok (.putfield 37, 3) := by decide +kernel
theorem dX8_init_79 : decode cX8_init 79 = .ok (.aload_n 0, 1) := by decide +kernel
theorem dX8_init_80 : decode cX8_init 80 = .ok (.bipush 12, 2) := by decide +kernel
theorem dX8_init_82 : decode cX8_init 82 = .ok (.newarray .int, 2) := by decide +kernel
theorem dX8_init_84 : decode cX8_init 84 = .ok (.putfield 41, 3) := by decide +kernel
theorem dX8_init_87 : decode cX8_init 87 = .ok (.aload_n 0, 1) := by decide +kernel
theorem dX8_init_88 : decode cX8_init 88 = .ok (.bipush 8, 2) := by decide +kernel
theorem dX8_init_90 : decode cX8_init 90 = .ok (.newarray .int, 2) := by decide +kernel
theorem dX8_init_92 : decode cX8_init 92 = .ok (.putfield 44, 3) := by decide +kernel
theorem dX8_init_95 : decode cX8_init 95 = .ok (.aload_n 0, 1) := by decide +kernel
theorem dX8_init_96 : decode cX8_init 96 = .ok (.bipush 8, 2) := by decide +kernel
theorem dX8_init_98 : decode cX8_init 98 = .ok (.newarray .int, 2) := by decide +kernel
theorem dX8_init_100 : decode cX8_init 100 = .ok (.putfield 47, 3) := by decide +kernel
theorem dX8_init_103 : decode cX8_init 103 = .ok (.aload_n 0, 1) := by decide +kernel
theorem dX8_init_104 : decode cX8_init 104 = .ok (.bipush 8, 2) := by decide +kernel
theorem dX8_init_106 : decode cX8_init 106 = .ok (.newarray .int, 2) := by decide +kernel
theorem dX8_init_108 : decode cX8_init 108 = .ok (.putfield 50, 3) := by decide +kernel
theorem dX8_init_111 : decode cX8_init 111 = .ok (.aload_n 0, 1) := by decide +kernel
theorem dX8_init_112 : decode cX8_init 112 = .ok (.bipush 8, 2) := by decide +kernel
theorem dX8_init_114 : decode cX8_init 114 = .ok (.newarray .int, 2) := by decide +kernel
theorem dX8_init_116 : decode cX8_init 116 = .ok (.putfield 53, 3) := by decide +kernel
theorem dX8_init_119 : decode cX8_init 119 = .ok (.aload_n 0, 1) := by decide +kernel
theorem dX8_init_120 : decode cX8_init 120 = .ok (.bipush 8, 2) := by decide +kernel
theorem dX8_init_122 : decode cX8_init 122 = .ok (.newarray .int, 2) := by decide +kernel
theorem dX8_init_124 : decode cX8_init 124 = .ok (.putfield 56, 3) := by decide +kernel
theorem dX8_init_127 : decode cX8_init 127 = .ok (.aload_n 0, 1) := by decide +kernel
theorem dX8_init_128 : decode cX8_init 128 = .ok (.iconst 3, 1) := by decide +kernel
theorem dX8_init_129 : decode cX8_init 129 = .ok (.putfield 59, 3) := by decide +kernel
theorem dX8_init_132 : decode cX8_init 132 = .ok (.aload_n 0, 1) := by decide +kernel
theorem dX8_init_133 : decode cX8_init 133 = .ok (.iconst 1, 1) := by decide +kernel
theorem dX8_init_134 : decode cX8_init 134 = .ok (.putfield 62, 3) := by decide +kernel
theorem dX8_init_137 : decode cX8_init 137 = .ok (.aload_n 0, 1) := by decide +kernel
theorem dX8_init_138 : decode cX8_init 138 = .ok (.iconst 4, 1) := by decide +kernel
theorem dX8_init_139 : decode cX8_init 139 = .ok (.newarray .int, 2) := by decide +kernel
theorem dX8_init_141 : decode cX8_init 141 = .ok (.putfield 65, 3) := by decide +kernel
theorem dX8_init_144 : decode cX8_init 144 = .ok (.aload_n 0, 1) := by decide +kernel
theorem dX8_init_145 : decode cX8_init 145 = .ok (.bipush 12, 2) := by decide +kernel
theorem dX8_init_147 : decode cX8_init 147 = .ok (.newarray .int, 2) := by decide +kernel
theorem dX8_init_149 : decode cX8_init 149 = .ok (.putfield 68, 3) := by decide +kernel
theorem dX8_init_152 : decode cX8_init 152 = .ok (.aload_n 0, 1) := by decide +kernel
theorem dX8_init_153 : decode cX8_init 153 = .ok (.bipush 8, 2) := by decide +kernel
theorem dX8_init_155 : decode cX8_init 155 = .ok (.newarray .int, 2) := by decide +kernel
theorem dX8_init_157 : decode cX8_init 157 = .ok (.putfield 71, 3) := by decide +kernel
theorem dX8_init_160 : decode cX8_init 160 = .ok (.aload_n 0, 1) := by decide +kernel
theorem dX8_init_161 : decode cX8_init 161 = .ok (.bipush 8, 2) := by decide +kernel
theorem dX8_init_163 : decode cX8_init 163 = .ok (.newarray .int, 2) := by decide +kernel
theorem dX8_init_165 : decode cX8_init 165 = .ok (.putfield 74, 3) := by decide +kernel
theorem dX8_init_168 : decode cX8_init 168 = .ok (.aload_n 0, 1) := by decide +kernel
theorem dX8_init_169 : decode cX8_init 169 = .ok (.iconst (-1), 1) := by decide +kernel
theorem dX8_init_170 : decode cX8_init 170 = .ok (.putfield 77, 3) := by decide +kernel
theorem dX8_init_173 : decode cX8_init 173 = .ok (.aload_n 0, 1) := by decide +kernel
theorem dX8_init_174 : decode cX8_init 174 = .ok (.bipush 12, 2) := by decide +kernel
theorem dX8_init_176 : decode cX8_init 176 = .ok (.bipush 25, 2) := by decide +kernel
theorem dX8_init_178 : decode cX8_init 178 = .ok (.multianewarray 80 2, 4) := by decide +kernel
theorem dX8_init_182 : decode cX8_init 182 = .ok (.putfield 82, 3) := by decide +kernel
theorem dX8_init_185 : decode cX8_init 185 = .ok (.aload_n 0, 1) := by decide +kernel
theorem dX8_init_186 : decode cX8_init 186 = .ok (.bipush 25, 2) := by decide +kernel
theorem dX8_init_188 : decode cX8_init 188 = .ok (.newarray .int, 2) := by decide +kernel
theorem dX8_init_190 : decode cX8_init 190 = .ok (.putfield 85, 3) := by decide +kernel
theorem dX8_init_193 : decode cX8_init 193 = .ok (.aload_n 0, 1) := by decide +kernel
theorem dX8_init_194 : decode cX8_init 194 = .ok (.bipush 25, 2) := by decide +kernel
theorem dX8_init_196 : decode cX8_init 196 = .ok (.newarray .int, 2) := by decide +kernel
theorem dX8_init_198 : decode cX8_init 198 = .ok (.putfield 88, 3) := by decide +kernel
theorem dX8_init_201 : decode cX8_init 201 = .ok (.return_, 1) := by decide +kernel
theorem dX8_refuse_0 : decode cX8_refuse 0 = .ok (.aload_n 0, 1) := by decide +kernel
theorem dX8_refuse_1 : decode cX8_refuse 1 = .ok (.getfield 34, 3) := by decide +kernel
theorem dX8_refuse_4 : decode cX8_refuse 4 = .ok (.iload_n 1, 1) := by decide +kernel
theorem dX8_refuse_5 : decode cX8_refuse 5 = .ok (.ineg, 1) := by decide +kernel
theorem dX8_refuse_6 : decode cX8_refuse 6 = .ok (.dup2, 1) := by decide +kernel
theorem dX8_refuse_7 : decode cX8_refuse 7 = .ok (.iaload, 1) := by decide +kernel
theorem dX8_refuse_8 : decode cX8_refuse 8 = .ok (.iconst 1, 1) := by decide +kernel
theorem dX8_refuse_9 : decode cX8_refuse 9 = .ok (.iadd, 1) := by decide +kernel
theorem dX8_refuse_10 : decode cX8_refuse 10 = .ok (.iastore, 1) := by decide +kernel
theorem dX8_refuse_11 : decode cX8_refuse 11 = .ok (.iload_n 1, 1) := by decide +kernel
theorem dX8_refuse_12 : decode cX8_refuse 12 = .ok (.ireturn, 1) := by decide +kernel
theorem dX8_in_0 : decode cX8_in 0 = .ok (.lload_n 0, 1) := by decide +kernel
theorem dX8_in_1 : decode cX8_in 1 = .ok (.lload_n 2, 1) := by decide +kernel
theorem dX8_in_2 : decode cX8_in 2 = .ok (.lcmp, 1) := by decide +kernel
theorem dX8_in_3 : decode cX8_in 3 = .ok (.ifCond .lt 14, 3) := by decide +kernel
theorem dX8_in_6 : decode cX8_in 6 = .ok (.lload_n 0, 1) := by decide +kernel
theorem dX8_in_7 : decode cX8_in 7 = .ok (.lload 4, 2) := by decide +kernel
theorem dX8_in_9 : decode cX8_in 9 = .ok (.lcmp, 1) := by decide +kernel
theorem dX8_in_10 : decode cX8_in 10 = .ok (.ifCond .gt 7, 3) := by decide +kernel
theorem dX8_in_13 : decode cX8_in 13 = .ok (.iconst 1, 1) := by decide +kernel
theorem dX8_in_14 : decode cX8_in 14 = .ok (.goto 4, 3) := by decide +kernel
theorem dX8_in_17 : decode cX8_in 17 = .ok (.iconst 0, 1) := by decide +kernel
theorem dX8_in_18 : decode cX8_in 18 = .ok (.ireturn, 1) := by decide +kernel
set_option maxRecDepth 20000 in
theorem ggX8_isPlace_X8_in : GoodIn wsX8_isPlace wsX8_in := goodIn_r _ [5] (by decide +kernel) (by decide +kernel)
set_option maxRecDepth 20000 in
theorem gX8_isPlace_X8_in : GoodIn wsX8_isPlace (va_wsS RX8 91 yX8_in wsX8_in) := goodIn_app (goodIn_of _ (by decide +kernel)) ggX8_isPlace_X8_in
theorem dX8_isPlace_0 : decode cX8_isPlace 0 = .ok (.iload_n 1, 1) := by decide +kernel
theorem dX8_isPlace_1 : decode cX8_isPlace 1 = .ok (.i2l, 1) := by decide +kernel
theorem dX8_isPlace_2 : decode cX8_isPlace 2 = .ok (.lconst 0, 1) := by decide +kernel
theorem dX8_isPlace_3 : decode cX8_isPlace 3 = .ok (.aload_n 0, 1) := by decide +kernel
theorem dX8_isPlace_4 : decode cX8_isPlace 4 = .ok (.getfield 37, 3) := by decide +kernel
theorem dX8_isPlace_7 : decode cX8_isPlace 7 = .ok (.iconst 1, 1) := by decide +kernel
theorem dX8_isPlace_8 : decode cX8_isPlace 8 = .ok (.isub, 1) := by decide +kernel
theorem dX8_isPlace_9 : decode cX8_isPlace 9 = .ok (.i2l, 1) := by decide +kernel
theorem dX8_isPlace_10 : decode cX8_isPlace 10 = .ok (.invokestatic 91, 3) := by decide +kernel
theorem dX8_isPlace_13 : decode cX8_isPlace 13 = .ok (.ireturn, 1) := by decide +kernel
set_option maxRecDepth 20000 in
theorem ggX8_isPerson_X8_in : GoodIn wsX8_isPerson wsX8_in := goodIn_r _ [5] (by decide +kernel) (by decide +kernel)
set_option maxRecDepth 20000 in
theorem gX8_isPerson_X8_in : GoodIn wsX8_isPerson (va_wsS RX8 91 yX8_in wsX8_in) := goodIn_app (goodIn_of _ (by decide +kernel)) ggX8_isPerson_X8_in
theorem dX8_isPerson_0 : decode cX8_isPerson 0 = .ok (.iload_n 1, 1) := by decide +kernel
theorem dX8_isPerson_1 : decode cX8_isPerson 1 = .ok (.i2l, 1) := by decide +kernel
theorem dX8_isPerson_2 : decode cX8_isPerson 2 = .ok (.lconst 0, 1) := by decide +kernel
theorem dX8_isPerson_3 : decode cX8_isPerson 3 = .ok (.aload_n 0, 1) := by decide +kernel
theorem dX8_isPerson_4 : decode cX8_isPerson 4 = .ok (.getfield 95, 3) := by decide +kernel
theorem dX8_isPerson_7 : decode cX8_isPerson 7 = .ok (.iconst 1, 1) := by decide +kernel
theorem dX8_isPerson_8 : decode cX8_isPerson 8 = .ok (.isub, 1) := by decide +kernel
theorem dX8_isPerson_9 : decode cX8_isPerson 9 = .ok (.i2l, 1) := by decide +kernel
theorem dX8_isPerson_10 : decode cX8_isPerson 10 = .ok (.invokestatic 91, 3) := by decide +kernel
theorem dX8_isPerson_13 : decode cX8_isPerson 13 = .ok (.ireturn, 1) := by decide +kernel
theorem dX8_bits_0 : decode cX8_bits 0 = .ok (.iconst 0, 1) := by decide +kernel
theorem dX8_bits_1 : decode cX8_bits 1 = .ok (.istore_n 1, 1) := by decide +kernel
theorem dX8_bits_2 : decode cX8_bits 2 = .ok (.iload_n 0, 1) := by decide +kernel
theorem dX8_bits_3 : decode cX8_bits 3 = .ok (.istore_n 2, 1) := by decide +kernel
theorem dX8_bits_4 : decode cX8_bits 4 = .ok (.iload_n 2, 1) := by decide +kernel
theorem dX8_bits_5 : decode cX8_bits 5 = .ok (.ifCond .eq 15, 3) := by decide +kernel
theorem dX8_bits_8 : decode cX8_bits 8 = .ok (.iinc 1 1, 3) := by decide +kernel
theorem dX8_bits_11 : decode cX8_bits 11 = .ok (.iload_n 2, 1) := by decide +kernel
theorem dX8_bits_12 : decode cX8_bits 12 = .ok (.iload_n 2, 1) := by decide +kernel
theorem dX8_bits_13 : decode cX8_bits 13 = .ok (.iconst 1, 1) := by decide +kernel
theorem dX8_bits_14 : decode cX8_bits 14 = .ok (.isub, 1) := by decide +kernel
theorem dX8_bits_15 : decode cX8_bits 15 = .ok (.iand, 1) := by decide +kernel
theorem dX8_bits_16 : decode cX8_bits 16 = .ok (.istore_n 2, 1) := by decide +kernel
theorem dX8_bits_17 : decode cX8_bits 17 = .ok (.goto (-13), 3) := by decide +kernel
theorem dX8_bits_20 : decode cX8_bits 20 = .ok (.iload_n 1, 1) := by decide +kernel
theorem dX8_bits_21 : decode cX8_bits 21 = .ok (.ireturn, 1) := by decide +kernel
set_option maxRecDepth 20000 in
theorem ggX8_row_X8_in : GoodIn wsX8_row wsX8_in := goodIn_r _ [11] (by decide +kernel) (by decide +kernel)
set_option maxRecDepth 20000 in
theorem gX8_row_X8_in : GoodIn wsX8_row (va_wsS RX8 91 yX8_in wsX8_in) := goodIn_app (goodIn_of _ (by decide +kernel)) ggX8_row_X8_in
set_option maxRecDepth 20000 in
theorem ggX8_row_X8_refuse : GoodIn wsX8_row wsX8_refuse := goodIn_r _ [15, 16, 17, 18, 19, 20, 21, 22, 23, 24, 25, 26, 27, 28, 29, 30, 31, 32, 33, 34, 35, 36, 37, 38, 39, 40, 41, 42, 43, 44, 45, 46, 47, 48, 49, 50, 51, 52, 53] (by decide +kernel) (by decide +kernel)
set_option maxRecDepth 20000 in
theorem gX8_row_X8_refuse : GoodIn wsX8_row (wsV RX8 104 RX8 yX8_refuse wsX8_refuse) := goodIn_app (goodIn_of _ (by decide +kernel)) ggX8_row_X8_refuse
theorem dX8_row_0 : decode cX8_row 0 = .ok (.iload_n 1, 1) := by decide +kernel
theorem dX8_row_1 : decode cX8_row 1 = .ok (.i2l, 1) := by decide +kernel
theorem dX8_row_2 : decode cX8_row 2 = .ok (.lconst 0, 1) := by decide +kernel
theorem dX8_row_3 : decode cX8_row 3 = .ok (.ldc2_w 98, 3) := by decide +kernel
theorem dX8_row_6 : decode cX8_row 6 = .ok (.invokestatic 91, 3) := by decide +kernel
theorem dX8_row_9 : decode cX8_row 9 = .ok (.ifCond .eq 27, 3) := by decide +kernel
theorem dX8_row_12 : decode cX8_row 12 = .ok (.iload_n 2, 1) := by decide +kernel
theorem dX8_row_13 : decode cX8_row 13 = .ok (.i2l, 1) := by decide +kernel
theorem dX8_row_14 : decode cX8_row 14 = .ok (.lconst 0, 1) := by decide +kernel
theorem dX8_row_15 : decode cX8_row 15 = .ok (.ldc2_w 100, 3) := by decide +kernel
theorem dX8_row_18 : decode cX8_row 18 = .ok (.invokestatic 91, 3) := by decide +kernel
theorem dX8_row_21 : decode cX8_row 21 = .ok (.ifCond .eq 15, 3) := by decide +kernel
theorem dX8_row_24 : decode cX8_row 24 = .ok (.iload_n 3, 1) := by decide +kernel
theorem dX8_row_25 : decode cX8_row 25 = .ok (.i2l, 1) := by decide +kernel
theorem dX8_row_26 : decode cX8_row 26 = .ok (.lconst 0, 1) := by decide +kernel
theorem dX8_row_27 : decode cX8_row 27 = .ok (.ldc2_w 102, 3) := by decide +kernel
theorem dX8_row_30 : decode cX8_row 30 = .ok (.invokestatic 91, 3) := by decide +kernel
theorem dX8_row_33 : decode cX8_row 33 = .ok (.ifCond .ne 10, 3) := by decide +kernel
theorem dX8_row_36 : decode cX8_row 36 = .ok (.aload_n 0, 1) := by decide +kernel
theorem dX8_row_37 : decode cX8_row 37 = .ok (.bipush (-2), 2) := by decide +kernel
theorem dX8_row_39 : decode cX8_row 39 = .ok (.invokevirtual 104, 3) := by decide +kernel
theorem dX8_row_42 : decode cX8_row 42 = .ok (.ireturn, 1) := by decide +kernel
theorem dX8_row_43 : decode cX8_row 43 = .ok (.aload_n 0, 1) := by decide +kernel
theorem dX8_row_44 : decode cX8_row 44 = .ok (.getfield 7, 3) := by decide +kernel
theorem dX8_row_47 : decode cX8_row 47 = .ok (.iload_n 1, 1) := by decide +kernel
theorem dX8_row_48 : decode cX8_row 48 = .ok (.iconst 1, 1) := by decide +kernel
theorem dX8_row_49 : decode cX8_row 49 = .ok (.iastore, 1) := by decide +kernel
theorem dX8_row_50 : decode cX8_row 50 = .ok (.aload_n 0, 1) := by decide +kernel
theorem dX8_row_51 : decode cX8_row 51 = .ok (.getfield 13, 3) := by decide +kernel
theorem dX8_row_54 : decode cX8_row 54 = .ok (.iload_n 1, 1) := by decide +kernel
theorem dX8_row_55 : decode cX8_row 55 = .ok (.iload_n 2, 1) := by decide +kernel
theorem dX8_row_56 : decode cX8_row 56 = .ok (.iastore, 1) := by decide +kernel
theorem dX8_row_57 : decode cX8_row 57 = .ok (.aload_n 0, 1) := by decide +kernel
theorem dX8_row_58 : decode cX8_row 58 = .ok (.getfield 16, 3) := by decide +kernel
theorem dX8_row_61 : decode cX8_row 61 = .ok (.iload_n 1, 1) := by decide +kernel
theorem dX8_row_62 : decode cX8_row 62 = .ok (.iload_n 3, 1) := by decide +kernel
theorem dX8_row_63 : decode cX8_row 63 = .ok (.iastore, 1) := by decide +kernel
theorem dX8_row_64 : decode cX8_row 64 = .ok (.iconst 0, 1) := by decide +kernel
theorem dX8_row_65 : decode cX8_row 65 = .ok (.istore 4, 2) := by decide +kernel
theorem dX8_row_67 : decode cX8_row 67 = .ok (.iload 4, 2) := by decide +kernel
theorem dX8_row_69 : decode cX8_row 69 = .ok (.bipush 40, 2) := by decide +kernel
theorem dX8_row_71 : decode cX8_row 71 = .ok (.if_icmp .ge 19, 3) := by decide +kernel
theorem dX8_row_74 : decode cX8_row 74 = .ok (.aload_n 0, 1) := by decide +kernel
theorem dX8_row_75 : decode cX8_row 75 = .ok (.getfield 21, 3) := by decide +kernel
theorem dX8_row_78 : decode cX8_row 78 = .ok (.iload_n 1, 1) := by decide +kernel
theorem dX8_row_79 : decode cX8_row 79 = .ok (.aaload, 1) := by decide +kernel
theorem dX8_row_80 : decode cX8_row 80 = .ok (.iload 4, 2) := by decide +kernel
theorem dX8_row_82 : decode cX8_row 82 = .ok (.lconst 0, 1) := by decide +kernel
theorem dX8_row_83 : decode cX8_row 83 = .ok (.lastore, 1) := by decide +kernel
theorem dX8_row_84 : decode cX8_row 84 = .ok (.iinc 4 1, 3) := by decide +kernel
theorem dX8_row_87 : decode cX8_row 87 = .ok (.goto (-20), 3) := by decide +kernel
theorem dX8_row_90 : decode cX8_row 90 = .ok (.iconst 1, 1) := by decide +kernel
theorem dX8_row_91 : decode cX8_row 91 = .ok (.ireturn, 1) := by decide +kernel
theorem dX8_fit_0 : decode cX8_fit 0 = .ok (.iload_n 0, 1) := by decide +kernel
theorem dX8_fit_1 : decode cX8_fit 1 = .ok (.tableswitch 47 0 3 #[31, 36, 41, 45], 31) := by decide +kernel
theorem dX8_fit_32 : decode cX8_fit 32 = .ok (.lload_n 1, 1) := by decide +kernel
theorem dX8_fit_33 : decode cX8_fit 33 = .ok (.l2i, 1) := by decide +kernel
theorem dX8_fit_34 : decode cX8_fit 34 = .ok (.i2b, 1) := by decide +kernel
theorem dX8_fit_35 : decode cX8_fit 35 = .ok (.i2l, 1) := by decide +kernel
theorem dX8_fit_36 : decode cX8_fit 36 = .ok (.lreturn, 1) := by decide +kernel
theorem dX8_fit_37 : decode cX8_fit 37 = .ok (.lload_n 1, 1) := by decide +kernel
theorem dX8_fit_38 : decode cX8_fit 38 = .ok (.l2i, 1) := by decide +kernel
theorem dX8_fit_39 : decode cX8_fit 39 = .ok (.i2s, 1) := by decide +kernel
theorem dX8_fit_40 : decode cX8_fit 40 = .ok (.i2l, 1) := by decide +kernel
theorem dX8_fit_41 : decode cX8_fit 41 = .ok (.lreturn, 1) := by decide +kernel
theorem dX8_fit_42 : decode cX8_fit 42 = .ok (.lload_n 1, 1) := by decide +kernel
theorem dX8_fit_43 : decode cX8_fit 43 = .ok (.l2i, 1) := by decide +kernel
theorem dX8_fit_44 : decode cX8_fit 44 = .ok (.i2l, 1) := by decide +kernel
theorem dX8_fit_45 : decode cX8_fit 45 = .ok (.lreturn, 1) := by decide +kernel
theorem dX8_fit_46 : decode cX8_fit 46 = .ok (.lload_n 1, 1) := by decide +kernel
theorem dX8_fit_47 : decode cX8_fit 47 = .ok (.lreturn, 1) := by decide +kernel
theorem dX8_fit_48 : decode cX8_fit 48 = .ok (.lload_n 1, 1) := by decide +kernel
theorem dX8_fit_49 : decode cX8_fit 49 = .ok (.lconst 0, 1) := by decide +kernel
theorem dX8_fit_50 : decode cX8_fit 50 = .ok (.lcmp, 1) := by decide +kernel
theorem dX8_fit_51 : decode cX8_fit 51 = .ok (.ifCond .eq 7, 3) := by decide +kernel
theorem dX8_fit_54 : decode cX8_fit 54 = .ok (.lconst 1, 1) := by decide +kernel
theorem dX8_fit_55 : decode cX8_fit 55 = .ok (.goto 4, 3) := by decide +kernel
theorem dX8_fit_58 : decode cX8_fit 58 = .ok (.lconst 0, 1) := by decide +kernel
theorem dX8_fit_59 : decode cX8_fit 59 = .ok (.lreturn, 1) := by decide +kernel
set_option maxRecDepth 20000 in
theorem ggX8_noRow_X8_in : GoodIn wsX8_noRow wsX8_in := goodIn_r _ [6] (by decide +kernel) (by decide +kernel)
set_option maxRecDepth 20000 in
theorem gX8_noRow_X8_in : GoodIn wsX8_noRow (va_wsS RX8 91 yX8_in wsX8_in) := goodIn_app (goodIn_of _ (by decide +kernel)) ggX8_noRow_X8_in
set_option maxRecDepth 20000 in
theorem ggX8_noRow_X8_refuse : GoodIn wsX8_noRow wsX8_refuse := goodIn_r _ [10, 11, 12, 13, 14, 15, 16, 17, 18, 19, 20, 21, 22, 23, 24, 25, 26, 27, 28, 29, 30, 31, 32, 33, 34, 35, 36, 37, 38, 39, 40, 41, 42, 43, 44, 45, 46, 47, 48] (by decide +kernel) (by decide +kernel)
set_option maxRecDepth 20000 in
theorem gX8_noRow_X8_refuse : GoodIn wsX8_noRow (wsV RX8 104 RX8 yX8_refuse wsX8_refuse) := goodIn_app (goodIn_of _ (by decide +kernel)) ggX8_noRow_X8_refuse
theorem dX8_noRow_0 : decode cX8_noRow 0 = .ok (.iload_n 1, 1) := by decide +kernel
theorem dX8_noRow_1 : decode cX8_noRow 1 = .ok (.i2l, 1) := by decide +kernel
theorem dX8_noRow_2 : decode cX8_noRow 2 = .ok (.lconst 0, 1) := by decide +kernel
theorem dX8_noRow_3 : decode cX8_noRow 3 = .ok (.ldc2_w 98, 3) := by decide +kernel
theorem dX8_noRow_6 : decode cX8_noRow 6 = .ok (.invokestatic 91, 3) := by decide +kernel
theorem dX8_noRow_9 : decode cX8_noRow 9 = .ok (.ifCond .ne 10, 3) := by decide +kernel
theorem dX8_noRow_12 : decode cX8_noRow 12 = .ok (.aload_n 0, 1) := by decide +kernel
theorem dX8_noRow_13 : decode cX8_noRow 13 = .ok (.bipush (-2), 2) := by decide +kernel
theorem dX8_noRow_15 : decode cX8_noRow 15 = .ok (.invokevirtual 104, 3) := by decide +kernel
theorem dX8_noRow_18 : decode cX8_noRow 18 = .ok (.ireturn, 1) := by decide +kernel
theorem dX8_noRow_19 : decode cX8_noRow 19 = .ok (.aload_n 0, 1) := by decide +kernel
theorem dX8_noRow_20 : decode cX8_noRow 20 = .ok (.getfield 7, 3) := by decide +kernel
theorem dX8_noRow_23 : decode cX8_noRow 23 = .ok (.iload_n 1, 1) := by decide +kernel
theorem dX8_noRow_24 : decode cX8_noRow 24 = .ok (.iaload, 1) := by decide +kernel
theorem dX8_noRow_25 : decode cX8_noRow 25 = .ok (.iconst 2, 1) := by decide +kernel
theorem dX8_noRow_26 : decode cX8_noRow 26 = .ok (.if_icmp .ne 10, 3) := by decide +kernel
theorem dX8_noRow_29 : decode cX8_noRow 29 = .ok (.aload_n 0, 1) := by decide +kernel
theorem dX8_noRow_30 : decode cX8_noRow 30 = .ok (.bipush (-3), 2) := by decide +kernel
theorem dX8_noRow_32 : decode cX8_noRow 32 = .ok (.invokevirtual 104, 3) := by decide +kernel
theorem dX8_noRow_35 : decode cX8_noRow 35 = .ok (.ireturn, 1) := by decide +kernel
theorem dX8_noRow_36 : decode cX8_noRow 36 = .ok (.aload_n 0, 1) := by decide +kernel
theorem dX8_noRow_37 : decode cX8_noRow 37 = .ok (.getfield 7, 3) := by decide +kernel
theorem dX8_noRow_40 : decode cX8_noRow 40 = .ok (.iload_n 1, 1) := by decide +kernel
theorem dX8_noRow_41 : decode cX8_noRow 41 = .ok (.iaload, 1) := by decide +kernel
theorem dX8_noRow_42 : decode cX8_noRow 42 = .ok (.ifCond .ne 12, 3) := by decide +kernel
theorem dX8_noRow_45 : decode cX8_noRow 45 = .ok (.aload_n 0, 1) := by decide +kernel
theorem dX8_noRow_46 : decode cX8_noRow 46 = .ok (.bipush (-4), 2) := by decide +kernel
theorem dX8_noRow_48 : decode cX8_noRow 48 = .ok (.invokevirtual 104, 3) := by decide +kernel
theorem dX8_noRow_51 : decode cX8_noRow 51 = .ok (.goto 4, 3) := by decide +kernel
theorem dX8_noRow_54 : decode cX8_noRow 54 = .ok (.iconst 0, 1) := by decide +kernel
theorem dX8_noRow_55 : decode cX8_noRow 55 = .ok (.ireturn, 1) := by decide +kernel
set_option maxRecDepth 20000 in
theorem ggX8_set_X8_noRow : GoodIn wsX8_set wsX8_noRow := goodIn_r _ [8, 9, 10, 11, 12, 7, 13, 14, 15, 16, 17, 18, 22, 23, 24, 25, 26, 27, 28, 29, 30, 31, 32, 33, 34, 35, 36, 37, 38, 39, 40, 41, 42, 43, 44, 45, 46, 47, 48, 49, 50, 51, 52, 53, 54, 55, 56, 57, 58] (by decide +kernel) (by decide +kernel)
set_option maxRecDepth 20000 in
theorem gX8_set_X8_noRow : GoodIn wsX8_set (wsV RX8 108 RX8 yX8_noRow wsX8_noRow) := goodIn_app (goodIn_of _ (by decide +kernel)) ggX8_set_X8_noRow
set_option maxRecDepth 20000 in
theorem ggX8_set_X8_in : GoodIn wsX8_set wsX8_in := goodIn_r _ [13] (by decide +kernel) (by decide +kernel)
set_option maxRecDepth 20000 in
theorem gX8_set_X8_in : GoodIn wsX8_set (va_wsS RX8 91 yX8_in wsX8_in) := goodIn_app (goodIn_of _ (by decide +kernel)) ggX8_set_X8_in
set_option maxRecDepth 20000 in
theorem ggX8_set_X8_refuse : GoodIn wsX8_set wsX8_refuse := goodIn_r _ [17, 18, 22, 23, 24, 25, 26, 27, 28, 29, 30, 31, 32, 33, 34, 35, 36, 37, 38, 39, 40, 41, 42, 43, 44, 45, 46, 47, 48, 49, 50, 51, 52, 53, 54, 55, 56, 57, 58] (by decide +kernel) (by decide +kernel)
set_option maxRecDepth 20000 in
theorem gX8_set_X8_refuse : GoodIn wsX8_set (wsV RX8 104 RX8 yX8_refuse wsX8_refuse) := goodIn_app (goodIn_of _ (by decide +kernel)) ggX8_set_X8_refuse
set_option maxRecDepth 20000 in
theorem ggX8_set_X8_fit : GoodIn wsX8_set wsX8_fit := goodIn_r _ [21] (by decide +kernel) (by decide +kernel)
set_option maxRecDepth 20000 in
theorem gX8_set_X8_fit : GoodIn wsX8_set (va_wsS RX8 111 yX8_fit wsX8_fit) := goodIn_app (goodIn_of _ (by decide +kernel)) ggX8_set_X8_fit
theorem dX8_set_0 : decode cX8_set 0 = .ok (.aload_n 0, 1) := by decide +kernel
theorem dX8_set_1 : decode cX8_set 1 = .ok (.iload_n 1, 1) := by decide +kernel
theorem dX8_set_2 : decode cX8_set 2 = .ok (.invokevirtual 108, 3) := by decide +kernel
theorem dX8_set_5 : decode cX8_set 5 = .ok (.istore 5, 2) := by decide +kernel
theorem dX8_set_7 : decode cX8_set 7 = .ok (.iload 5, 2) := by decide +kernel
theorem dX8_set_9 : decode cX8_set 9 = .ok (.ifCond .eq 6, 3) := by decide +kernel
theorem dX8_set_12 : decode cX8_set 12 = .ok (.iload 5, 2) := by decide +kernel
theorem dX8_set_14 : decode cX8_set 14 = .ok (.ireturn, 1) := by decide +kernel
theorem dX8_set_15 : decode cX8_set 15 = .ok (.iload_n 2, 1) := by decide +kernel
theorem dX8_set_16 : decode cX8_set 16 = .ok (.i2l, 1) := by decide +kernel
theorem dX8_set_17 : decode cX8_set 17 = .ok (.lconst 0, 1) := by decide +kernel
theorem dX8_set_18 : decode cX8_set 18 = .ok (.aload_n 0, 1) := by decide +kernel
theorem dX8_set_19 : decode cX8_set 19 = .ok (.getfield 16, 3) := by decide +kernel
theorem dX8_set_22 : decode cX8_set 22 = .ok (.iload_n 1, 1) := by decide +kernel
theorem dX8_set_23 : decode cX8_set 23 = .ok (.iaload, 1) := by decide +kernel
theorem dX8_set_24 : decode cX8_set 24 = .ok (.iconst 1, 1) := by decide +kernel
theorem dX8_set_25 : decode cX8_set 25 = .ok (.isub, 1) := by decide +kernel
theorem dX8_set_26 : decode cX8_set 26 = .ok (.i2l, 1) := by decide +kernel
theorem dX8_set_27 : decode cX8_set 27 = .ok (.invokestatic 91, 3) := by decide +kernel
theorem dX8_set_30 : decode cX8_set 30 = .ok (.ifCond .ne 10, 3) := by decide +kernel
theorem dX8_set_33 : decode cX8_set 33 = .ok (.aload_n 0, 1) := by decide +kernel
theorem dX8_set_34 : decode cX8_set 34 = .ok (.bipush (-2), 2) := by decide +kernel
theorem dX8_set_36 : decode cX8_set 36 = .ok (.invokevirtual 104, 3) := by decide +kernel
theorem dX8_set_39 : decode cX8_set 39 = .ok (.ireturn, 1) := by decide +kernel
theorem dX8_set_40 : decode cX8_set 40 = .ok (.aload_n 0, 1) := by decide +kernel
theorem dX8_set_41 : decode cX8_set 41 = .ok (.getfield 21, 3) := by decide +kernel
theorem dX8_set_44 : decode cX8_set 44 = .ok (.iload_n 1, 1) := by decide +kernel
theorem dX8_set_45 : decode cX8_set 45 = .ok (.aaload, 1) := by decide +kernel
theorem dX8_set_46 : decode cX8_set 46 = .ok (.iload_n 2, 1) := by decide +kernel
theorem dX8_set_47 : decode cX8_set 47 = .ok (.aload_n 0, 1) := by decide +kernel
theorem dX8_set_48 : decode cX8_set 48 = .ok (.getfield 13, 3) := by decide +kernel
theorem dX8_set_51 : decode cX8_set 51 = .ok (.iload_n 1, 1) := by decide +kernel
theorem dX8_set_52 : decode cX8_set 52 = .ok (.iaload, 1) := by decide +kernel
theorem dX8_set_53 : decode cX8_set 53 = .ok (.lload_n 3, 1) := by decide +kernel
theorem dX8_set_54 : decode cX8_set 54 = .ok (.invokestatic 111, 3) := by decide +kernel
theorem dX8_set_57 : decode cX8_set 57 = .ok (.lastore, 1) := by decide +kernel
theorem dX8_set_58 : decode cX8_set 58 = .ok (.iconst 1, 1) := by decide +kernel
theorem dX8_set_59 : decode cX8_set 59 = .ok (.ireturn, 1) := by decide +kernel
set_option maxRecDepth 20000 in
theorem ggX8_copy_X8_in : GoodIn wsX8_copy wsX8_in := goodIn_r _ [10] (by decide +kernel) (by decide +kernel)
set_option maxRecDepth 20000 in
theorem gX8_copy_X8_in : GoodIn wsX8_copy (va_wsS RX8 91 yX8_in wsX8_in) := goodIn_app (goodIn_of _ (by decide +kernel)) ggX8_copy_X8_in
set_option maxRecDepth 20000 in
theorem ggX8_copy_X8_refuse : GoodIn wsX8_copy wsX8_refuse := goodIn_r _ [14, 15, 16, 17, 18, 19, 20, 21, 22, 23, 24, 25, 26, 27, 28, 29, 30, 31, 32, 33, 34, 35, 36, 37, 38, 39, 40, 41, 42, 43, 44, 45, 46, 47, 48, 49, 50, 51, 52] (by decide +kernel) (by decide +kernel)
set_option maxRecDepth 20000 in
theorem gX8_copy_X8_refuse : GoodIn wsX8_copy (wsV RX8 104 RX8 yX8_refuse wsX8_refuse) := goodIn_app (goodIn_of _ (by decide +kernel)) ggX8_copy_X8_refuse
theorem dX8_copy_0 : decode cX8_copy 0 = .ok (.iload_n 1, 1) := by decide +kernel
theorem dX8_copy_1 : decode cX8_copy 1 = .ok (.i2l, 1) := by decide +kernel
theorem dX8_copy_2 : decode cX8_copy 2 = .ok (.lconst 0, 1) := by decide +kernel
theorem dX8_copy_3 : decode cX8_copy 3 = .ok (.ldc2_w 98, 3) := by decide +kernel
theorem dX8_copy_6 : decode cX8_copy 6 = .ok (.invokestatic 91, 3) := by decide +kernel
theorem dX8_copy_9 : decode cX8_copy 9 = .ok (.ifCond .eq 15, 3) := by decide +kernel
theorem dX8_copy_12 : decode cX8_copy 12 = .ok (.iload_n 2, 1) := by decide +kernel
theorem dX8_copy_13 : decode cX8_copy 13 = .ok (.i2l, 1) := by decide +kernel
theorem dX8_copy_14 : decode cX8_copy 14 = .ok (.lconst 0, 1) := by decide +kernel
theorem dX8_copy_15 : decode cX8_copy 15 = .ok (.ldc2_w 98, 3) := by decide +kernel
theorem dX8_copy_18 : decode cX8_copy 18 = .ok (.invokestatic 91, 3) := by decide +kernel
theorem dX8_copy_21 : decode cX8_copy 21 = .ok (.ifCond .ne 10, 3) := by decide +kernel
theorem dX8_copy_24 : decode cX8_copy 24 = .ok (.aload_n 0, 1) := by decide +kernel
theorem dX8_copy_25 : decode cX8_copy 25 = .ok (.bipush (-2), 2) := by decide +kernel
theorem dX8_copy_27 : decode cX8_copy 27 = .ok (.invokevirtual 104, 3) := by decide +kernel
theorem dX8_copy_30 : decode cX8_copy 30 = .ok (.ireturn, 1) := by decide +kernel
theorem dX8_copy_31 : decode cX8_copy 31 = .ok (.aload_n 0, 1) := by decide +kernel
theorem dX8_copy_32 : decode cX8_copy 32 = .ok (.getfield 7, 3) := by decide +kernel
theorem dX8_copy_35 : decode cX8_copy 35 = .ok (.iload_n 1, 1) := by decide +kernel
theorem dX8_copy_36 : decode cX8_copy 36 = .ok (.iaload, 1) := by decide +kernel
theorem dX8_copy_37 : decode cX8_copy 37 = .ok (.iconst 2, 1) := by decide +kernel
theorem dX8_copy_38 : decode cX8_copy 38 = .ok (.if_icmp .eq 48, 3) := by decide +kernel
theorem dX8_copy_41 : decode cX8_copy 41 = .ok (.aload_n 0, 1) := by decide +kernel
theorem dX8_copy_42 : decode cX8_copy 42 = .ok (.getfield 7, 3) := by decide +kernel
theorem dX8_copy_45 : decode cX8_copy 45 = .ok (.iload_n 2, 1) := by decide +kernel
theorem dX8_copy_46 : decode cX8_copy 46 = .ok (.iaload, 1) := by decide +kernel
theorem dX8_copy_47 : decode cX8_copy 47 = .ok (.iconst 2, 1) := by decide +kernel
theorem dX8_copy_48 : decode cX8_copy 48 = .ok (.if_icmp .eq 38, 3) := by decide +kernel
theorem dX8_copy_51 : decode cX8_copy 51 = .ok (.aload_n 0, 1) := by decide +kernel
theorem dX8_copy_52 : decode cX8_copy 52 = .ok (.getfield 7, 3) := by decide +kernel
theorem dX8_copy_55 : decode cX8_copy 55 = .ok (.iload_n 1, 1) := by decide +kernel
theorem dX8_copy_56 : decode cX8_copy 56 = .ok (.iaload, 1) := by decide +kernel
theorem dX8_copy_57 : decode cX8_copy 57 = .ok (.iconst 1, 1) := by decide +kernel
theorem dX8_copy_58 : decode cX8_copy 58 = .ok (.if_icmp .ne 35, 3) := by decide +kernel
theorem dX8_copy_61 : decode cX8_copy 61 = .ok (.aload_n 0, 1) := by decide +kernel
theorem dX8_copy_62 : decode cX8_copy 62 = .ok (.getfield 7, 3) := by decide +kernel
theorem dX8_copy_65 : decode cX8_copy 65 = .ok (.iload_n 2, 1) := by decide +kernel
theorem dX8_copy_66 : decode cX8_copy 66 = .ok (.iaload, 1) := by decide +kernel
theorem dX8_copy_67 : decode cX8_copy 67 = .ok (.iconst 1, 1) := by decide +kernel
theorem dX8_copy_68 : decode cX8_copy 68 = .ok (.if_icmp .ne 25, 3) := by decide +kernel
theorem dX8_copy_71 : decode cX8_copy 71 = .ok (.aload_n 0, 1) := by decide +kernel
theorem dX8_copy_72 : decode cX8_copy 72 = .ok (.getfield 13, 3) := by decide +kernel
theorem dX8_copy_75 : decode cX8_copy 75 = .ok (.iload_n 1, 1) := by decide +kernel
theorem dX8_copy_76 : decode cX8_copy 76 = .ok (.iaload, 1) := by decide +kernel
theorem dX8_copy_77 : decode cX8_copy 77 = .ok (.aload_n 0, 1) := by decide +kernel
theorem dX8_copy_78 : decode cX8_copy 78 = .ok (.getfield 13, 3) := by decide +kernel
theorem dX8_copy_81 : decode cX8_copy 81 = .ok (.iload_n 2, 1) := by decide +kernel
theorem dX8_copy_82 : decode cX8_copy 82 = .ok (.iaload, 1) := by decide +kernel
theorem dX8_copy_83 : decode cX8_copy 83 = .ok (.if_icmp .eq 10, 3) := by decide +kernel
theorem dX8_copy_86 : decode cX8_copy 86 = .ok (.aload_n 0, 1) := by decide +kernel
theorem dX8_copy_87 : decode cX8_copy 87 = .ok (.bipush (-3), 2) := by decide +kernel
theorem dX8_copy_89 : decode cX8_copy 89 = .ok (.invokevirtual 104, 3) := by decide +kernel
theorem dX8_copy_92 : decode cX8_copy 92 = .ok (.ireturn, 1) := by decide +kernel
theorem dX8_copy_93 : decode cX8_copy 93 = .ok (.aload_n 0, 1) := by decide +kernel
theorem dX8_copy_94 : decode cX8_copy 94 = .ok (.getfield 7, 3) := by decide +kernel
theorem dX8_copy_97 : decode cX8_copy 97 = .ok (.iload_n 1, 1) := by decide +kernel
theorem dX8_copy_98 : decode cX8_copy 98 = .ok (.iaload, 1) := by decide +kernel
theorem dX8_copy_99 : decode cX8_copy 99 = .ok (.ifCond .eq 12, 3) := by decide +kernel
theorem dX8_copy_102 : decode cX8_copy 102 = .ok (.aload_n 0, 1) := by decide +kernel
theorem dX8_copy_103 : decode cX8_copy 103 = .ok (.getfield 7, 3) := by decide +kernel
theorem dX8_copy_106 : decode cX8_copy 106 = .ok (.iload_n 2, 1) := by decide +kernel
theorem dX8_copy_107 : decode cX8_copy 107 = .ok (.iaload, 1) := by decide +kernel
theorem dX8_copy_108 : decode cX8_copy 108 = .ok (.ifCond .ne 10, 3) := by decide +kernel
theorem dX8_copy_111 : decode cX8_copy 111 = .ok (.aload_n 0, 1) := by decide +kernel
theorem dX8_copy_112 : decode cX8_copy 112 = .ok (.bipush (-4), 2) := by decide +kernel
theorem dX8_copy_114 : decode cX8_copy 114 = .ok (.invokevirtual 104, 3) := by decide +kernel
theorem dX8_copy_117 : decode cX8_copy 117 = .ok (.ireturn, 1) := by decide +kernel
theorem dX8_copy_118 : decode cX8_copy 118 = .ok (.iload 5, 2) := by decide +kernel
theorem dX8_copy_120 : decode cX8_copy 120 = .ok (.ifCond .lt 61, 3) := by decide +kernel
theorem dX8_copy_123 : decode cX8_copy 123 = .ok (.iload_n 3, 1) := by decide +kernel
theorem dX8_copy_124 : decode cX8_copy 124 = .ok (.ifCond .lt 57, 3) := by decide +kernel
theorem dX8_copy_127 : decode cX8_copy 127 = .ok (.iload 4, 2) := by decide +kernel
theorem dX8_copy_129 : decode cX8_copy 129 = .ok (.ifCond .lt 52, 3) := by decide +kernel
theorem dX8_copy_132 : decode cX8_copy 132 = .ok (.iload 5, 2) := by decide +kernel
theorem dX8_copy_134 : decode cX8_copy 134 = .ok (.aload_n 0, 1) := by decide +kernel
theorem dX8_copy_135 : decode cX8_copy 135 = .ok (.getfield 16, 3) := by decide +kernel
theorem dX8_copy_138 : decode cX8_copy 138 = .ok (.iload_n 1, 1) := by decide +kernel
theorem dX8_copy_139 : decode cX8_copy 139 = .ok (.iaload, 1) := by decide +kernel
theorem dX8_copy_140 : decode cX8_copy 140 = .ok (.if_icmp .gt 41, 3) := by decide +kernel
theorem dX8_copy_143 : decode cX8_copy 143 = .ok (.iload 5, 2) := by decide +kernel
theorem dX8_copy_145 : decode cX8_copy 145 = .ok (.aload_n 0, 1) := by decide +kernel
theorem dX8_copy_146 : decode cX8_copy 146 = .ok (.getfield 16, 3) := by decide +kernel
theorem dX8_copy_149 : decode cX8_copy 149 = .ok (.iload_n 2, 1) := by decide +kernel
theorem dX8_copy_150 : decode cX8_copy 150 = .ok (.iaload, 1) := by decide +kernel
theorem dX8_copy_151 : decode cX8_copy 151 = .ok (.if_icmp .gt 30, 3) := by decide +kernel
theorem dX8_copy_154 : decode cX8_copy 154 = .ok (.iload_n 3, 1) := by decide +kernel
theorem dX8_copy_155 : decode cX8_copy 155 = .ok (.aload_n 0, 1) := by decide +kernel
theorem dX8_copy_156 : decode cX8_copy 156 = .ok (.getfield 16, 3) := by decide +kernel
theorem dX8_copy_159 : decode cX8_copy 159 = .ok (.iload_n 1, 1) := by decide +kernel
theorem dX8_copy_160 : decode cX8_copy 160 = .ok (.iaload, 1) := by decide +kernel
theorem dX8_copy_161 : decode cX8_copy 161 = .ok (.iload 5, 2) := by decide +kernel
theorem dX8_copy_163 : decode cX8_copy 163 = .ok (.isub, 1) := by decide +kernel
theorem dX8_copy_164 : decode cX8_copy 164 = .ok (.if_icmp .gt 17, 3) := by decide +kernel
theorem dX8_copy_167 : decode cX8_copy 167 = .ok (.iload 4, 2) := by decide +kernel
theorem dX8_copy_169 : decode cX8_copy 169 = .ok (.aload_n 0, 1) := by decide +kernel
theorem dX8_copy_170 : decode cX8_copy 170 = .ok (.getfield 16, 3) := by decide +kernel
theorem dX8_copy_173 : decode cX8_copy 173 = .ok (.iload_n 2, 1) := by decide +kernel
theorem dX8_copy_174 : decode cX8_copy 174 = .ok (.iaload, 1) := by decide +kernel
theorem dX8_copy_175 : decode cX8_copy 175 = .ok (.iload 5, 2) := by decide +kernel
theorem dX8_copy_177 : decode cX8_copy 177 = .ok (.isub, 1) := by decide +kernel
theorem dX8_copy_178 : decode cX8_copy 178 = .ok (.if_icmp .le 10, 3) := by decide +kernel
theorem dX8_copy_181 : decode cX8_copy 181 = .ok (.aload_n 0, 1) := by decide +kernel
theorem dX8_copy_182 : decode cX8_copy 182 = .ok (.bipush (-2), 2) := by decide +kernel
theorem dX8_copy_184 : decode cX8_copy 184 = .ok (.invokevirtual 104, 3) := by decide +kernel
theorem dX8_copy_187 : decode cX8_copy 187 = .ok (.ireturn, 1) := by decide +kernel
theorem dX8_copy_188 : decode cX8_copy 188 = .ok (.iconst 0, 1) := by decide +kernel
theorem dX8_copy_189 : decode cX8_copy 189 = .ok (.istore 6, 2) := by decide +kernel
theorem dX8_copy_191 : decode cX8_copy 191 = .ok (.iload 6, 2) := by decide +kernel
theorem dX8_copy_193 : decode cX8_copy 193 = .ok (.iload 5, 2) := by decide +kernel
theorem dX8_copy_195 : decode cX8_copy 195 = .ok (.if_icmp .ge 27, 3) := by decide +kernel
theorem dX8_copy_198 : decode cX8_copy 198 = .ok (.aload_n 0, 1) := by decide +kernel
theorem dX8_copy_199 : decode cX8_copy 199 = .ok (.getfield 24, 3) := by decide +kernel
theorem dX8_copy_202 : decode cX8_copy 202 = .ok (.iload 6, 2) := by decide +kernel
theorem dX8_copy_204 : decode cX8_copy 204 = .ok (.aload_n 0, 1) := by decide +kernel
theorem dX8_copy_205 : decode cX8_copy 205 = .ok (.getfield 21, 3) := by decide +kernel
theorem dX8_copy_208 : decode cX8_copy 208 = .ok (.iload_n 1, 1) := by decide +kernel
theorem dX8_copy_209 : decode cX8_copy 209 = .ok (.aaload, 1) := by decide +kernel
theorem dX8_copy_210 : decode cX8_copy 210 = .ok (.iload_n 3, 1) := by decide +kernel
theorem dX8_copy_211 : decode cX8_copy 211 = .ok (.iload 6, 2) := by decide +kernel
theorem dX8_copy_213 : decode cX8_copy 213 = .ok (.iadd, 1) := by decide +kernel
theorem dX8_copy_214 : decode cX8_copy 214 = .ok (.laload, 1) := by decide +kernel
theorem dX8_copy_215 : decode cX8_copy 215 = .ok (.lastore, 1) := by decide +kernel
theorem dX8_copy_216 : decode cX8_copy 216 = .ok (.iinc 6 1, 3) := by decide +kernel
theorem dX8_copy_219 : decode cX8_copy 219 = .ok (.goto (-28), 3) := by decide +kernel
theorem dX8_copy_222 : decode cX8_copy 222 = .ok (.iconst 0, 1) := by decide +kernel
theorem dX8_copy_223 : decode cX8_copy 223 = .ok (.istore 6, 2) := by decide +kernel
theorem dX8_copy_225 : decode cX8_copy 225 = .ok (.iload 6, 2) := by decide +kernel
theorem dX8_copy_227 : decode cX8_copy 227 = .ok (.iload 5, 2) := by decide +kernel
theorem dX8_copy_229 : decode cX8_copy 229 = .ok (.if_icmp .ge 28, 3) := by decide +kernel
theorem dX8_copy_232 : decode cX8_copy 232 = .ok (.aload_n 0, 1) := by decide +kernel
theorem dX8_copy_233 : decode cX8_copy 233 = .ok (.getfield 21, 3) := by decide +kernel
theorem dX8_copy_236 : decode cX8_copy 236 = .ok (.iload_n 2, 1) := by decide +kernel
theorem dX8_copy_237 : decode cX8_copy 237 = .ok (.aaload, 1) := by decide +kernel
theorem dX8_copy_238 : decode cX8_copy 238 = .ok (.iload 4, 2) := by decide +kernel
theorem dX8_copy_240 : decode cX8_copy 240 = .ok (.iload 6, 2) := by decide +kernel
theorem dX8_copy_242 : decode cX8_copy 242 = .ok (.iadd, 1) := by decide +kernel
theorem dX8_copy_243 : decode cX8_copy 243 = .ok (.aload_n 0, 1) := by decide +kernel
theorem dX8_copy_244 : decode cX8_copy 244 = .ok (.getfield 24, 3) := by decide +kernel
theorem dX8_copy_247 : decode cX8_copy 247 = .ok (.iload 6, 2) := by decide +kernel
theorem dX8_copy_249 : decode cX8_copy 249 = .ok (.laload, 1) := by decide +kernel
theorem dX8_copy_250 : decode cX8_copy 250 = .ok (.lastore, 1) := by decide +kernel
theorem dX8_copy_251 : decode cX8_copy 251 = .ok (.iinc 6 1, 3) := by decide +kernel
theorem dX8_copy_254 : decode cX8_copy 254 = .ok (.goto (-29), 3) := by decide +kernel
theorem dX8_copy_257 : decode cX8_copy 257 = .ok (.iload 5, 2) := by decide +kernel
theorem dX8_copy_259 : decode cX8_copy 259 = .ok (.ireturn, 1) := by decide +kernel
set_option maxRecDepth 20000 in
theorem ggX8_element_X8_in : GoodIn wsX8_element wsX8_in := goodIn_r _ [8] (by decide +kernel) (by decide +kernel)
set_option maxRecDepth 20000 in
theorem gX8_element_X8_in : GoodIn wsX8_element (va_wsS RX8 91 yX8_in wsX8_in) := goodIn_app (goodIn_of _ (by decide +kernel)) ggX8_element_X8_in
theorem dX8_element_0 : decode cX8_element 0 = .ok (.iload_n 1, 1) := by decide +kernel
theorem dX8_element_1 : decode cX8_element 1 = .ok (.i2l, 1) := by decide +kernel
theorem dX8_element_2 : decode cX8_element 2 = .ok (.lconst 0, 1) := by decide +kernel
theorem dX8_element_3 : decode cX8_element 3 = .ok (.ldc2_w 98, 3) := by decide +kernel
theorem dX8_element_6 : decode cX8_element 6 = .ok (.invokestatic 91, 3) := by decide +kernel
theorem dX8_element_9 : decode cX8_element 9 = .ok (.ifCond .eq 42, 3) := by decide +kernel
theorem dX8_element_12 : decode cX8_element 12 = .ok (.aload_n 0, 1) := by decide +kernel
theorem dX8_element_13 : decode cX8_element 13 = .ok (.getfield 7, 3) := by decide +kernel
theorem dX8_element_16 : decode cX8_element 16 = .ok (.iload_n 1, 1) := by decide +kernel
theorem dX8_element_17 : decode cX8_element 17 = .ok (.iaload, 1) := by decide +kernel
theorem dX8_element_18 : decode cX8_element 18 = .ok (.iconst 1, 1) := by decide +kernel
theorem dX8_element_19 : decode cX8_element 19 = .ok (.if_icmp .ne 32, 3) := by decide +kernel
theorem dX8_element_22 : decode cX8_element 22 = .ok (.iload_n 2, 1) := by decide +kernel
theorem dX8_element_23 : decode cX8_element 23 = .ok (.i2l, 1) := by decide +kernel
theorem dX8_element_24 : decode cX8_element 24 = .ok (.lconst 0, 1) := by decide +kernel
theorem dX8_element_25 : decode cX8_element 25 = .ok (.aload_n 0, 1) := by decide +kernel
theorem dX8_element_26 : decode cX8_element 26 = .ok (.getfield 16, 3) := by decide +kernel
theorem dX8_element_29 : decode cX8_element 29 = .ok (.iload_n 1, 1) := by decide +kernel
theorem dX8_element_30 : decode cX8_element 30 = .ok (.iaload, 1) := by decide +kernel
theorem dX8_element_31 : decode cX8_element 31 = .ok (.iconst 1, 1) := by decide +kernel
theorem dX8_element_32 : decode cX8_element 32 = .ok (.isub, 1) := by decide +kernel
theorem dX8_element_33 : decode cX8_element 33 = .ok (.i2l, 1) := by decide +kernel
theorem dX8_element_34 : decode cX8_element 34 = .ok (.invokestatic 91, 3) := by decide +kernel
theorem dX8_element_37 : decode cX8_element 37 = .ok (.ifCond .eq 14, 3) := by decide +kernel
theorem dX8_element_40 : decode cX8_element 40 = .ok (.aload_n 0, 1) := by decide +kernel
theorem dX8_element_41 : decode cX8_element 41 = .ok (.getfield 21, 3) := by decide +kernel
theorem dX8_element_44 : decode cX8_element 44 = .ok (.iload_n 1, 1) := by decide +kernel
theorem dX8_element_45 : decode cX8_element 45 = .ok (.aaload, 1) := by decide +kernel
theorem dX8_element_46 : decode cX8_element 46 = .ok (.iload_n 2, 1) := by decide +kernel
theorem dX8_element_47 : decode cX8_element 47 = .ok (.laload, 1) := by decide +kernel
theorem dX8_element_48 : decode cX8_element 48 = .ok (.goto 4, 3) := by decide +kernel
theorem dX8_element_51 : decode cX8_element 51 = .ok (.lconst 0, 1) := by decide +kernel
theorem dX8_element_52 : decode cX8_element 52 = .ok (.lreturn, 1) := by decide +kernel
set_option maxRecDepth 20000 in
theorem ggX8_holds_X8_in : GoodIn wsX8_holds wsX8_in := goodIn_r _ [8] (by decide +kernel) (by decide +kernel)
set_option maxRecDepth 20000 in
theorem gX8_holds_X8_in : GoodIn wsX8_holds (va_wsS RX8 91 yX8_in wsX8_in) := goodIn_app (goodIn_of _ (by decide +kernel)) ggX8_holds_X8_in
theorem dX8_holds_0 : decode cX8_holds 0 = .ok (.iload_n 1, 1) := by decide +kernel
theorem dX8_holds_1 : decode cX8_holds 1 = .ok (.i2l, 1) := by decide +kernel
theorem dX8_holds_2 : decode cX8_holds 2 = .ok (.lconst 0, 1) := by decide +kernel
theorem dX8_holds_3 : decode cX8_holds 3 = .ok (.ldc2_w 98, 3) := by decide +kernel
theorem dX8_holds_6 : decode cX8_holds 6 = .ok (.invokestatic 91, 3) := by decide +kernel
theorem dX8_holds_9 : decode cX8_holds 9 = .ok (.ifCond .eq 12, 3) := by decide +kernel
theorem dX8_holds_12 : decode cX8_holds 12 = .ok (.aload_n 0, 1) := by decide +kernel
theorem dX8_holds_13 : decode cX8_holds 13 = .ok (.getfield 7, 3) := by decide +kernel
theorem dX8_holds_16 : decode cX8_holds 16 = .ok (.iload_n 1, 1) := by decide +kernel
theorem dX8_holds_17 : decode cX8_holds 17 = .ok (.iaload, 1) := by decide +kernel
theorem dX8_holds_18 : decode cX8_holds 18 = .ok (.ifCond .ne 5, 3) := by decide +kernel
theorem dX8_holds_21 : decode cX8_holds 21 = .ok (.iconst (-1), 1) := by decide +kernel
theorem dX8_holds_22 : decode cX8_holds 22 = .ok (.ireturn, 1) := by decide +kernel
theorem dX8_holds_23 : decode cX8_holds 23 = .ok (.aload_n 0, 1) := by decide +kernel
theorem dX8_holds_24 : decode cX8_holds 24 = .ok (.getfield 7, 3) := by decide +kernel
theorem dX8_holds_27 : decode cX8_holds 27 = .ok (.iload_n 1, 1) := by decide +kernel
theorem dX8_holds_28 : decode cX8_holds 28 = .ok (.iaload, 1) := by decide +kernel
theorem dX8_holds_29 : decode cX8_holds 29 = .ok (.iconst 1, 1) := by decide +kernel
theorem dX8_holds_30 : decode cX8_holds 30 = .ok (.if_icmp .ne 12, 3) := by decide +kernel
theorem dX8_holds_33 : decode cX8_holds 33 = .ok (.aload_n 0, 1) := by decide +kernel
theorem dX8_holds_34 : decode cX8_holds 34 = .ok (.getfield 13, 3) := by decide +kernel
theorem dX8_holds_37 : decode cX8_holds 37 = .ok (.iload_n 1, 1) := by decide +kernel
theorem dX8_holds_38 : decode cX8_holds 38 = .ok (.iaload, 1) := by decide +kernel
theorem dX8_holds_39 : decode cX8_holds 39 = .ok (.goto 12, 3) := by decide +kernel
theorem dX8_holds_42 : decode cX8_holds 42 = .ok (.bipush 10, 2) := by decide +kernel
theorem dX8_holds_44 : decode cX8_holds 44 = .ok (.aload_n 0, 1) := by decide +kernel
theorem dX8_holds_45 : decode cX8_holds 45 = .ok (.getfield 28, 3) := by decide +kernel
theorem dX8_holds_48 : decode cX8_holds 48 = .ok (.iload_n 1, 1) := by decide +kernel
theorem dX8_holds_49 : decode cX8_holds 49 = .ok (.iaload, 1) := by decide +kernel
theorem dX8_holds_50 : decode cX8_holds 50 = .ok (.iadd, 1) := by decide +kernel
theorem dX8_holds_51 : decode cX8_holds 51 = .ok (.ireturn, 1) := by decide +kernel
set_option maxRecDepth 20000 in
theorem ggX8_show_X8_in : GoodIn wsX8_show wsX8_in := goodIn_r _ [7] (by decide +kernel) (by decide +kernel)
set_option maxRecDepth 20000 in
theorem gX8_show_X8_in : GoodIn wsX8_show (va_wsS RX8 91 yX8_in wsX8_in) := goodIn_app (goodIn_of _ (by decide +kernel)) ggX8_show_X8_in
set_option maxRecDepth 20000 in
theorem ggX8_show_X8_isPerson : GoodIn wsX8_show wsX8_isPerson := goodIn_r _ [11, 12, 4, 5, 6, 7, 18, 19, 20, 21, 22, 23, 24, 25, 26, 27, 28, 29, 30, 31, 32, 33, 34, 35, 36, 37, 38, 39, 40, 41, 42, 43, 44, 45, 46, 47, 48, 49, 50, 51, 52, 53, 54] (by decide +kernel) (by decide +kernel)
set_option maxRecDepth 20000 in
theorem gX8_show_X8_isPerson : GoodIn wsX8_show (wsV RX8 115 RX8 yX8_isPerson wsX8_isPerson) := goodIn_app (goodIn_of _ (by decide +kernel)) ggX8_show_X8_isPerson
set_option maxRecDepth 20000 in
theorem ggX8_show_X8_refuse : GoodIn wsX8_show wsX8_refuse := goodIn_r _ [16, 17, 18, 19, 20, 21, 22, 23, 24, 25, 26, 27, 28, 29, 30, 31, 32, 33, 34, 35, 36, 37, 38, 39, 40, 41, 42, 43, 44, 45, 46, 47, 48, 49, 50, 51, 52, 53, 54] (by decide +kernel) (by decide +kernel)
set_option maxRecDepth 20000 in
theorem gX8_show_X8_refuse : GoodIn wsX8_show (wsV RX8 104 RX8 yX8_refuse wsX8_refuse) := goodIn_app (goodIn_of _ (by decide +kernel)) ggX8_show_X8_refuse
theorem dX8_show_0 : decode cX8_show 0 = .ok (.iload_n 1, 1) := by decide +kernel
theorem dX8_show_1 : decode cX8_show 1 = .ok (.i2l, 1) := by decide +kernel
theorem dX8_show_2 : decode cX8_show 2 = .ok (.lconst 0, 1) := by decide +kernel
theorem dX8_show_3 : decode cX8_show 3 = .ok (.ldc2_w 98, 3) := by decide +kernel
theorem dX8_show_6 : decode cX8_show 6 = .ok (.invokestatic 91, 3) := by decide +kernel
theorem dX8_show_9 : decode cX8_show 9 = .ok (.ifCond .eq 16, 3) := by decide +kernel
theorem dX8_show_12 : decode cX8_show 12 = .ok (.iload_n 2, 1) := by decide +kernel
theorem dX8_show_13 : decode cX8_show 13 = .ok (.iconst (-1), 1) := by decide +kernel
theorem dX8_show_14 : decode cX8_show 14 = .ok (.if_icmp .eq 18, 3) := by decide +kernel
theorem dX8_show_17 : decode cX8_show 17 = .ok (.aload_n 0, 1) := by decide +kernel
theorem dX8_show_18 : decode cX8_show 18 = .ok (.iload_n 2, 1) := by decide +kernel
theorem dX8_show_19 : decode cX8_show 19 = .ok (.invokevirtual 115, 3) := by decide +kernel
theorem dX8_show_22 : decode cX8_show 22 = .ok (.ifCond .ne 10, 3) := by decide +kernel
theorem dX8_show_25 : decode cX8_show 25 = .ok (.aload_n 0, 1) := by decide +kernel
theorem dX8_show_26 : decode cX8_show 26 = .ok (.bipush (-2), 2) := by decide +kernel
theorem dX8_show_28 : decode cX8_show 28 = .ok (.invokevirtual 104, 3) := by decide +kernel
theorem dX8_show_31 : decode cX8_show 31 = .ok (.ireturn, 1) := by decide +kernel
theorem dX8_show_32 : decode cX8_show 32 = .ok (.aload_n 0, 1) := by decide +kernel
theorem dX8_show_33 : decode cX8_show 33 = .ok (.getfield 7, 3) := by decide +kernel
theorem dX8_show_36 : decode cX8_show 36 = .ok (.iload_n 1, 1) := by decide +kernel
theorem dX8_show_37 : decode cX8_show 37 = .ok (.iload_n 2, 1) := by decide +kernel
theorem dX8_show_38 : decode cX8_show 38 = .ok (.iconst (-1), 1) := by decide +kernel
theorem dX8_show_39 : decode cX8_show 39 = .ok (.if_icmp .ne 7, 3) := by decide +kernel
theorem dX8_show_42 : decode cX8_show 42 = .ok (.iconst 0, 1) := by decide +kernel
theorem dX8_show_43 : decode cX8_show 43 = .ok (.goto 4, 3) := by decide +kernel
theorem dX8_show_46 : decode cX8_show 46 = .ok (.iconst 2, 1) := by decide +kernel
theorem dX8_show_47 : decode cX8_show 47 = .ok (.iastore, 1) := by decide +kernel
theorem dX8_show_48 : decode cX8_show 48 = .ok (.aload_n 0, 1) := by decide +kernel
theorem dX8_show_49 : decode cX8_show 49 = .ok (.getfield 28, 3) := by decide +kernel
theorem dX8_show_52 : decode cX8_show 52 = .ok (.iload_n 1, 1) := by decide +kernel
theorem dX8_show_53 : decode cX8_show 53 = .ok (.iload_n 2, 1) := by decide +kernel
theorem dX8_show_54 : decode cX8_show 54 = .ok (.iastore, 1) := by decide +kernel
theorem dX8_show_55 : decode cX8_show 55 = .ok (.iconst 1, 1) := by decide +kernel
theorem dX8_show_56 : decode cX8_show 56 = .ok (.ireturn, 1) := by decide +kernel
theorem dX8_isUnder_0 : decode cX8_isUnder 0 = .ok (.iload_n 1, 1) := by decide +kernel
theorem dX8_isUnder_1 : decode cX8_isUnder 1 = .ok (.ifCond .eq 28, 3) := by decide +kernel
theorem dX8_isUnder_4 : decode cX8_isUnder 4 = .ok (.iload_n 0, 1) := by decide +kernel
theorem dX8_isUnder_5 : decode cX8_isUnder 5 = .ok (.iload_n 1, 1) := by decide +kernel
theorem dX8_isUnder_6 : decode cX8_isUnder 6 = .ok (.if_icmp .eq 23, 3) := by decide +kernel
theorem dX8_isUnder_9 : decode cX8_isUnder 9 = .ok (.iload_n 1, 1) := by decide +kernel
theorem dX8_isUnder_10 : decode cX8_isUnder 10 = .ok (.iconst 1, 1) := by decide +kernel
theorem dX8_isUnder_11 : decode cX8_isUnder 11 = .ok (.if_icmp .ne 8, 3) := by decide +kernel
theorem dX8_isUnder_14 : decode cX8_isUnder 14 = .ok (.iload_n 0, 1) := by decide +kernel
theorem dX8_isUnder_15 : decode cX8_isUnder 15 = .ok (.iconst 3, 1) := by decide +kernel
theorem dX8_isUnder_16 : decode cX8_isUnder 16 = .ok (.if_icmp .eq 13, 3) := by decide +kernel
theorem dX8_isUnder_19 : decode cX8_isUnder 19 = .ok (.iload_n 1, 1) := by decide +kernel
theorem dX8_isUnder_20 : decode cX8_isUnder 20 = .ok (.iconst 2, 1) := by decide +kernel
theorem dX8_isUnder_21 : decode cX8_isUnder 21 = .ok (.if_icmp .ne 12, 3) := by decide +kernel
theorem dX8_isUnder_24 : decode cX8_isUnder 24 = .ok (.iload_n 0, 1) := by decide +kernel
theorem dX8_isUnder_25 : decode cX8_isUnder 25 = .ok (.iconst 4, 1) := by decide +kernel
theorem dX8_isUnder_26 : decode cX8_isUnder 26 = .ok (.if_icmp .ne 7, 3) := by decide +kernel
theorem dX8_isUnder_29 : decode cX8_isUnder 29 = .ok (.iconst 1, 1) := by decide +kernel
theorem dX8_isUnder_30 : decode cX8_isUnder 30 = .ok (.goto 4, 3) := by decide +kernel
theorem dX8_isUnder_33 : decode cX8_isUnder 33 = .ok (.iconst 0, 1) := by decide +kernel
theorem dX8_isUnder_34 : decode cX8_isUnder 34 = .ok (.ireturn, 1) := by decide +kernel
set_option maxRecDepth 20000 in
theorem ggX8_says_X8_in : GoodIn wsX8_says wsX8_in := goodIn_r _ [11] (by decide +kernel) (by decide +kernel)
set_option maxRecDepth 20000 in
theorem gX8_says_X8_in : GoodIn wsX8_says (va_wsS RX8 91 yX8_in wsX8_in) := goodIn_app (goodIn_of _ (by decide +kernel)) ggX8_says_X8_in
set_option maxRecDepth 20000 in
theorem ggX8_says_X8_refuse : GoodIn wsX8_says wsX8_refuse := goodIn_r _ [15, 16, 65, 66, 67, 68, 69, 70, 71, 72, 73, 74, 75, 76, 77, 78, 79, 80, 81, 82, 83, 84, 85, 86, 87, 88, 89, 90, 91, 92, 93, 94, 95, 96, 97, 98, 99, 100, 101] (by decide +kernel) (by decide +kernel)
set_option maxRecDepth 20000 in
theorem gX8_says_X8_refuse : GoodIn wsX8_says (wsV RX8 104 RX8 yX8_refuse wsX8_refuse) := goodIn_app (goodIn_of _ (by decide +kernel)) ggX8_says_X8_refuse
set_option maxRecDepth 20000 in
theorem ggX8_says_X8_isUnder : GoodIn wsX8_says wsX8_isUnder := goodIn_r _ [19] (by decide +kernel) (by decide +kernel)
set_option maxRecDepth 20000 in
theorem gX8_says_X8_isUnder : GoodIn wsX8_says (va_wsS RX8 121 yX8_isUnder wsX8_isUnder) := goodIn_app (goodIn_of _ (by decide +kernel)) ggX8_says_X8_isUnder
set_option maxRecDepth 20000 in
theorem ggX8_says_X8_begin : GoodIn wsX8_says wsX8_begin := goodIn_r _ [23, 24, 7, 25, 26, 27, 65, 66, 67, 68, 69, 70, 71, 72, 73, 74, 75, 76, 77, 78, 79, 80, 81, 82, 83, 84, 85, 86, 87, 88, 89, 90, 91, 92, 93, 94, 95, 96, 97, 98, 99, 100, 101] (by decide +kernel) (by decide +kernel)
set_option maxRecDepth 20000 in
theorem gX8_says_X8_begin : GoodIn wsX8_says (wsV RX8 125 RX8 yX8_begin wsX8_begin) := goodIn_app (goodIn_of _ (by decide +kernel)) ggX8_says_X8_begin
set_option maxRecDepth 20000 in
theorem ggX8_says_X8_goes : GoodIn wsX8_says wsX8_goes := goodIn_r _ [31, 24, 32, 7, 27, 33, 34, 35, 10, 36, 4, 37, 38, 39, 40, 41, 42, 43, 44, 45, 46, 47, 48, 49, 50, 51, 52, 53, 54, 8, 9, 11, 55, 56, 57, 58, 59, 60, 61, 62, 63, 64, 65, 66, 67, 68, 69, 70, 71, 72, 73, 74, 75, 76, 77, 78, 79, 80, 81, 82, 83, 84, 85, 86, 87, 88, 89, 90, 91, 92, 93, 94, 95, 96, 97, 98, 99, 100, 101] (by decide +kernel) (by decide +kernel)
set_option maxRecDepth 20000 in
theorem gX8_says_X8_goes : GoodIn wsX8_says (wsV RX8 128 RX8 yX8_goes wsX8_goes) := goodIn_app (goodIn_of _ (by decide +kernel)) ggX8_says_X8_goes
theorem dX8_says_0 : decode cX8_says 0 = .ok (.iload_n 1, 1) := by decide +kernel
theorem dX8_says_1 : decode cX8_says 1 = .ok (.i2l, 1) := by decide +kernel
theorem dX8_says_2 : decode cX8_says 2 = .ok (.lconst 0, 1) := by decide +kernel
theorem dX8_says_3 : decode cX8_says 3 = .ok (.ldc2_w 98, 3) := by decide +kernel
theorem dX8_says_6 : decode cX8_says 6 = .ok (.invokestatic 91, 3) := by decide +kernel
theorem dX8_says_9 : decode cX8_says 9 = .ok (.ifCond .eq 15, 3) := by decide +kernel
theorem dX8_says_12 : decode cX8_says 12 = .ok (.iload_n 2, 1) := by decide +kernel
theorem dX8_says_13 : decode cX8_says 13 = .ok (.i2l, 1) := by decide +kernel
theorem dX8_says_14 : decode cX8_says 14 = .ok (.lconst 0, 1) := by decide +kernel
theorem dX8_says_15 : decode cX8_says 15 = .ok (.ldc2_w 119, 3) := by decide +kernel
theorem dX8_says_18 : decode cX8_says 18 = .ok (.invokestatic 91, 3) := by decide +kernel
theorem dX8_says_21 : decode cX8_says 21 = .ok (.ifCond .ne 10, 3) := by decide +kernel
theorem dX8_says_24 : decode cX8_says 24 = .ok (.aload_n 0, 1) := by decide +kernel
theorem dX8_says_25 : decode cX8_says 25 = .ok (.bipush (-2), 2) := by decide +kernel
theorem dX8_says_27 : decode cX8_says 27 = .ok (.invokevirtual 104, 3) := by decide +kernel
theorem dX8_says_30 : decode cX8_says 30 = .ok (.ireturn, 1) := by decide +kernel
theorem dX8_says_31 : decode cX8_says 31 = .ok (.aload_n 0, 1) := by decide +kernel
theorem dX8_says_32 : decode cX8_says 32 = .ok (.getfield 7, 3) := by decide +kernel
theorem dX8_says_35 : decode cX8_says 35 = .ok (.iload_n 1, 1) := by decide +kernel
theorem dX8_says_36 : decode cX8_says 36 = .ok (.iaload, 1) := by decide +kernel
theorem dX8_says_37 : decode cX8_says 37 = .ok (.iconst 1, 1) := by decide +kernel
theorem dX8_says_38 : decode cX8_says 38 = .ok (.if_icmp .eq 31, 3) := by decide +kernel
theorem dX8_says_41 : decode cX8_says 41 = .ok (.aload_n 0, 1) := by decide +kernel
theorem dX8_says_42 : decode cX8_says 42 = .ok (.getfield 7, 3) := by decide +kernel
theorem dX8_says_45 : decode cX8_says 45 = .ok (.iload_n 1, 1) := by decide +kernel
theorem dX8_says_46 : decode cX8_says 46 = .ok (.iaload, 1) := by decide +kernel
theorem dX8_says_47 : decode cX8_says 47 = .ok (.iconst 2, 1) := by decide +kernel
theorem dX8_says_48 : decode cX8_says 48 = .ok (.if_icmp .ne 28, 3) := by decide +kernel
theorem dX8_says_51 : decode cX8_says 51 = .ok (.aload_n 0, 1) := by decide +kernel
theorem dX8_says_52 : decode cX8_says 52 = .ok (.getfield 44, 3) := by decide +kernel
theorem dX8_says_55 : decode cX8_says 55 = .ok (.aload_n 0, 1) := by decide +kernel
theorem dX8_says_56 : decode cX8_says 56 = .ok (.getfield 28, 3) := by decide +kernel
theorem dX8_says_59 : decode cX8_says 59 = .ok (.iload_n 1, 1) := by decide +kernel
theorem dX8_says_60 : decode cX8_says 60 = .ok (.iaload, 1) := by decide +kernel
theorem dX8_says_61 : decode cX8_says 61 = .ok (.iaload, 1) := by decide +kernel
theorem dX8_says_62 : decode cX8_says 62 = .ok (.iload_n 2, 1) := by decide +kernel
theorem dX8_says_63 : decode cX8_says 63 = .ok (.invokestatic 121, 3) := by decide +kernel
theorem dX8_says_66 : decode cX8_says 66 = .ok (.ifCond .ne 10, 3) := by decide +kernel
theorem dX8_says_69 : decode cX8_says 69 = .ok (.aload_n 0, 1) := by decide +kernel
theorem dX8_says_70 : decode cX8_says 70 = .ok (.bipush (-3), 2) := by decide +kernel
theorem dX8_says_72 : decode cX8_says 72 = .ok (.invokevirtual 104, 3) := by decide +kernel
theorem dX8_says_75 : decode cX8_says 75 = .ok (.ireturn, 1) := by decide +kernel
theorem dX8_says_76 : decode cX8_says 76 = .ok (.aload_n 0, 1) := by decide +kernel
theorem dX8_says_77 : decode cX8_says 77 = .ok (.getfield 7, 3) := by decide +kernel
theorem dX8_says_80 : decode cX8_says 80 = .ok (.iload_n 1, 1) := by decide +kernel
theorem dX8_says_81 : decode cX8_says 81 = .ok (.iaload, 1) := by decide +kernel
theorem dX8_says_82 : decode cX8_says 82 = .ok (.ifCond .ne 10, 3) := by decide +kernel
theorem dX8_says_85 : decode cX8_says 85 = .ok (.aload_n 0, 1) := by decide +kernel
theorem dX8_says_86 : decode cX8_says 86 = .ok (.bipush (-4), 2) := by decide +kernel
theorem dX8_says_88 : decode cX8_says 88 = .ok (.invokevirtual 104, 3) := by decide +kernel
theorem dX8_says_91 : decode cX8_says 91 = .ok (.ireturn, 1) := by decide +kernel
theorem dX8_says_92 : decode cX8_says 92 = .ok (.iload_n 2, 1) := by decide +kernel
theorem dX8_says_93 : decode cX8_says 93 = .ok (.ifCond .ne 15, 3) := by decide +kernel
theorem dX8_says_96 : decode cX8_says 96 = .ok (.aload_n 0, 1) := by decide +kernel
theorem dX8_says_97 : decode cX8_says 97 = .ok (.getfield 47, 3) := by decide +kernel
theorem dX8_says_100 : decode cX8_says 100 = .ok (.aload_n 0, 1) := by decide +kernel
theorem dX8_says_101 : decode cX8_says 101 = .ok (.getfield 28, 3) := by decide +kernel
theorem dX8_says_104 : decode cX8_says 104 = .ok (.iload_n 1, 1) := by decide +kernel
theorem dX8_says_105 : decode cX8_says 105 = .ok (.iaload, 1) := by decide +kernel
theorem dX8_says_106 : decode cX8_says 106 = .ok (.iaload, 1) := by decide +kernel
theorem dX8_says_107 : decode cX8_says 107 = .ok (.ireturn, 1) := by decide +kernel
theorem dX8_says_108 : decode cX8_says 108 = .ok (.aload_n 0, 1) := by decide +kernel
theorem dX8_says_109 : decode cX8_says 109 = .ok (.invokevirtual 125, 3) := by decide +kernel
theorem dX8_says_112 : decode cX8_says 112 = .ok (.aload_n 0, 1) := by decide +kernel
theorem dX8_says_113 : decode cX8_says 113 = .ok (.invokevirtual 128, 3) := by decide +kernel
theorem dX8_says_116 : decode cX8_says 116 = .ok (.aload_n 0, 1) := by decide +kernel
theorem dX8_says_117 : decode cX8_says 117 = .ok (.getfield 71, 3) := by decide +kernel
theorem dX8_says_120 : decode cX8_says 120 = .ok (.aload_n 0, 1) := by decide +kernel
theorem dX8_says_121 : decode cX8_says 121 = .ok (.getfield 28, 3) := by decide +kernel
theorem dX8_says_124 : decode cX8_says 124 = .ok (.iload_n 1, 1) := by decide +kernel
theorem dX8_says_125 : decode cX8_says 125 = .ok (.iaload, 1) := by decide +kernel
theorem dX8_says_126 : decode cX8_says 126 = .ok (.iaload, 1) := by decide +kernel
theorem dX8_says_127 : decode cX8_says 127 = .ok (.ireturn, 1) := by decide +kernel
theorem dX8_setWay_0 : decode cX8_setWay 0 = .ok (.aload_n 0, 1) := by decide +kernel
theorem dX8_setWay_1 : decode cX8_setWay 1 = .ok (.getfield 41, 3) := by decide +kernel
theorem dX8_setWay_4 : decode cX8_setWay 4 = .ok (.iload_n 1, 1) := by decide +kernel
theorem dX8_setWay_5 : decode cX8_setWay 5 = .ok (.iload_n 3, 1) := by decide +kernel
theorem dX8_setWay_6 : decode cX8_setWay 6 = .ok (.ifCond .eq 16, 3) := by decide +kernel
theorem dX8_setWay_9 : decode cX8_setWay 9 = .ok (.aload_n 0, 1) := by decide +kernel
theorem dX8_setWay_10 : decode cX8_setWay 10 = .ok (.getfield 41, 3) := by decide +kernel
theorem dX8_setWay_13 : decode cX8_setWay 13 = .ok (.iload_n 1, 1) := by decide +kernel
theorem dX8_setWay_14 : decode cX8_setWay 14 = .ok (.iaload, 1) := by decide +kernel
theorem dX8_setWay_15 : decode cX8_setWay 15 = .ok (.iconst 1, 1) := by decide +kernel
theorem dX8_setWay_16 : decode cX8_setWay 16 = .ok (.iload_n 2, 1) := by decide +kernel
theorem dX8_setWay_17 : decode cX8_setWay 17 = .ok (.ishl, 1) := by decide +kernel
theorem dX8_setWay_18 : decode cX8_setWay 18 = .ok (.ior, 1) := by decide +kernel
theorem dX8_setWay_19 : decode cX8_setWay 19 = .ok (.goto 15, 3) := by decide +kernel
theorem dX8_setWay_22 : decode cX8_setWay 22 = .ok (.aload_n 0, 1) := by decide +kernel
theorem dX8_setWay_23 : decode cX8_setWay 23 = .ok (.getfield 41, 3) := by decide +kernel
theorem dX8_setWay_26 : decode cX8_setWay 26 = .ok (.iload_n 1, 1) := by decide +kernel
theorem dX8_setWay_27 : decode cX8_setWay 27 = .ok (.iaload, 1) := by decide +kernel
theorem dX8_setWay_28 : decode cX8_setWay 28 = .ok (.iconst 1, 1) := by decide +kernel
theorem dX8_setWay_29 : decode cX8_setWay 29 = .ok (.iload_n 2, 1) := by decide +kernel
theorem dX8_setWay_30 : decode cX8_setWay 30 = .ok (.ishl, 1) := by decide +kernel
theorem dX8_setWay_31 : decode cX8_setWay 31 = .ok (.iconst (-1), 1) := by decide +kernel
theorem dX8_setWay_32 : decode cX8_setWay 32 = .ok (.ixor, 1) := by decide +kernel
theorem dX8_setWay_33 : decode cX8_setWay 33 = .ok (.iand, 1) := by decide +kernel
theorem dX8_setWay_34 : decode cX8_setWay 34 = .ok (.iastore, 1) := by decide +kernel
theorem dX8_setWay_35 : decode cX8_setWay 35 = .ok (.aload_n 0, 1) := by decide +kernel
theorem dX8_setWay_36 : decode cX8_setWay 36 = .ok (.getfield 41, 3) := by decide +kernel
theorem dX8_setWay_39 : decode cX8_setWay 39 = .ok (.iload_n 2, 1) := by decide +kernel
theorem dX8_setWay_40 : decode cX8_setWay 40 = .ok (.iload_n 3, 1) := by decide +kernel
theorem dX8_setWay_41 : decode cX8_setWay 41 = .ok (.ifCond .eq 16, 3) := by decide +kernel
theorem dX8_setWay_44 : decode cX8_setWay 44 = .ok (.aload_n 0, 1) := by decide +kernel
theorem dX8_setWay_45 : decode cX8_setWay 45 = .ok (.getfield 41, 3) := by decide +kernel
theorem dX8_setWay_48 : decode cX8_setWay 48 = .ok (.iload_n 2, 1) := by decide +kernel
theorem dX8_setWay_49 : decode cX8_setWay 49 = .ok (.iaload, 1) := by decide +kernel
theorem dX8_setWay_50 : decode cX8_setWay 50 = .ok (.iconst 1, 1) := by decide +kernel
theorem dX8_setWay_51 : decode cX8_setWay 51 = .ok (.iload_n 1, 1) := by decide +kernel
theorem dX8_setWay_52 : decode cX8_setWay 52 = .ok (.ishl, 1) := by decide +kernel
theorem dX8_setWay_53 : decode cX8_setWay 53 = .ok (.ior, 1) := by decide +kernel
theorem dX8_setWay_54 : decode cX8_setWay 54 = .ok (.goto 15, 3) := by decide +kernel
theorem dX8_setWay_57 : decode cX8_setWay 57 = .ok (.aload_n 0, 1) := by decide +kernel
theorem dX8_setWay_58 : decode cX8_setWay 58 = .ok (.getfield 41, 3) := by decide +kernel
theorem dX8_setWay_61 : decode cX8_setWay 61 = .ok (.iload_n 2, 1) := by decide +kernel
theorem dX8_setWay_62 : decode cX8_setWay 62 = .ok (.iaload, 1) := by decide +kernel
theorem dX8_setWay_63 : decode cX8_setWay 63 = .ok (.iconst 1, 1) := by decide +kernel
theorem dX8_setWay_64 : decode cX8_setWay 64 = .ok (.iload_n 1, 1) := by decide +kernel
theorem dX8_setWay_65 : decode cX8_setWay 65 = .ok (.ishl, 1) := by decide +kernel
theorem dX8_setWay_66 : decode cX8_setWay 66 = .ok (.iconst (-1), 1) := by decide +kernel
theorem dX8_setWay_67 : decode cX8_setWay 67 = .ok (.ixor, 1) := by decide +kernel
theorem dX8_setWay_68 : decode cX8_setWay 68 = .ok (.iand, 1) := by decide +kernel
theorem dX8_setWay_69 : decode cX8_setWay 69 = .ok (.iastore, 1) := by decide +kernel
theorem dX8_setWay_70 : decode cX8_setWay 70 = .ok (.return_, 1) := by decide +kernel
theorem dX8_addPerson_0 : decode cX8_addPerson 0 = .ok (.aload_n 0, 1) := by decide +kernel
theorem dX8_addPerson_1 : decode cX8_addPerson 1 = .ok (.getfield 44, 3) := by decide +kernel
theorem dX8_addPerson_4 : decode cX8_addPerson 4 = .ok (.aload_n 0, 1) := by decide +kernel
theorem dX8_addPerson_5 : decode cX8_addPerson 5 = .ok (.getfield 95, 3) := by decide +kernel
theorem dX8_addPerson_8 : decode cX8_addPerson 8 = .ok (.iload_n 1, 1) := by decide +kernel
theorem dX8_addPerson_9 : decode cX8_addPerson 9 = .ok (.iastore, 1) := by decide +kernel
theorem dX8_addPerson_10 : decode cX8_addPerson 10 = .ok (.aload_n 0, 1) := by decide +kernel
theorem dX8_addPerson_11 : decode cX8_addPerson 11 = .ok (.getfield 47, 3) := by decide +kernel
theorem dX8_addPerson_14 : decode cX8_addPerson 14 = .ok (.aload_n 0, 1) := by decide +kernel
theorem dX8_addPerson_15 : decode cX8_addPerson 15 = .ok (.getfield 95, 3) := by decide +kernel
theorem dX8_addPerson_18 : decode cX8_addPerson 18 = .ok (.iload_n 2, 1) := by decide +kernel
theorem dX8_addPerson_19 : decode cX8_addPerson 19 = .ok (.iastore, 1) := by decide +kernel
theorem dX8_addPerson_20 : decode cX8_addPerson 20 = .ok (.aload_n 0, 1) := by decide +kernel
theorem dX8_addPerson_21 : decode cX8_addPerson 21 = .ok (.getfield 50, 3) := by decide +kernel
theorem dX8_addPerson_24 : decode cX8_addPerson 24 = .ok (.aload_n 0, 1) := by decide +kernel
theorem dX8_addPerson_25 : decode cX8_addPerson 25 = .ok (.getfield 95, 3) := by decide +kernel
theorem dX8_addPerson_28 : decode cX8_addPerson 28 = .ok (.iload_n 3, 1) := by decide +kernel
theorem dX8_addPerson_29 : decode cX8_addPerson 29 = .ok (.iastore, 1) := by decide +kernel
theorem dX8_addPerson_30 : decode cX8_addPerson 30 = .ok (.aload_n 0, 1) := by decide +kernel
theorem dX8_addPerson_31 : decode cX8_addPerson 31 = .ok (.getfield 53, 3) := by decide +kernel
theorem dX8_addPerson_34 : decode cX8_addPerson 34 = .ok (.aload_n 0, 1) := by decide +kernel
theorem dX8_addPerson_35 : decode cX8_addPerson 35 = .ok (.getfield 95, 3) := by decide +kernel
theorem dX8_addPerson_38 : decode cX8_addPerson 38 = .ok (.iload 4, 2) := by decide +kernel
theorem dX8_addPerson_40 : decode cX8_addPerson 40 = .ok (.iastore, 1) := by decide +kernel
theorem dX8_addPerson_41 : decode cX8_addPerson 41 = .ok (.aload_n 0, 1) := by decide +kernel
theorem dX8_addPerson_42 : decode cX8_addPerson 42 = .ok (.getfield 56, 3) := by decide +kernel
theorem dX8_addPerson_45 : decode cX8_addPerson 45 = .ok (.aload_n 0, 1) := by decide +kernel
theorem dX8_addPerson_46 : decode cX8_addPerson 46 = .ok (.getfield 95, 3) := by decide +kernel
theorem dX8_addPerson_49 : decode cX8_addPerson 49 = .ok (.iload_n 3, 1) := by decide +kernel
theorem dX8_addPerson_50 : decode cX8_addPerson 50 = .ok (.iastore, 1) := by decide +kernel
theorem dX8_addPerson_51 : decode cX8_addPerson 51 = .ok (.aload_n 0, 1) := by decide +kernel
theorem dX8_addPerson_52 : decode cX8_addPerson 52 = .ok (.dup, 1) := by decide +kernel
theorem dX8_addPerson_53 : decode cX8_addPerson 53 = .ok (.getfield 95, 3) := by decide +kernel
theorem dX8_addPerson_56 : decode cX8_addPerson 56 = .ok (.iconst 1, 1) := by decide +kernel
theorem dX8_addPerson_57 : decode cX8_addPerson 57 = .ok (.iadd, 1) := by decide +kernel
theorem dX8_addPerson_58 : decode cX8_addPerson 58 = .ok (.putfield 95, 3) := by decide +kernel
theorem dX8_addPerson_61 : decode cX8_addPerson 61 = .ok (.return_, 1) := by decide +kernel
set_option maxRecDepth 20000 in
theorem ggX8_places_X8_in : GoodIn wsX8_places wsX8_in := goodIn_r _ [6] (by decide +kernel) (by decide +kernel)
set_option maxRecDepth 20000 in
theorem gX8_places_X8_in : GoodIn wsX8_places (va_wsS RX8 91 yX8_in wsX8_in) := goodIn_app (goodIn_of _ (by decide +kernel)) ggX8_places_X8_in
set_option maxRecDepth 20000 in
theorem ggX8_places_X8_refuse : GoodIn wsX8_places wsX8_refuse := goodIn_r _ [10, 11, 12, 13, 14, 15, 16, 17, 18, 19, 20, 21, 22, 23, 24, 25, 26, 27, 28, 29, 30, 31, 32, 33, 34, 35, 36, 37, 38, 39, 40, 41, 42, 43, 44, 45, 46, 47, 48] (by decide +kernel) (by decide +kernel)
set_option maxRecDepth 20000 in
theorem gX8_places_X8_refuse : GoodIn wsX8_places (wsV RX8 104 RX8 yX8_refuse wsX8_refuse) := goodIn_app (goodIn_of _ (by decide +kernel)) ggX8_places_X8_refuse
theorem dX8_places_0 : decode cX8_places 0 = .ok (.iload_n 1, 1) := by decide +kernel
theorem dX8_places_1 : decode cX8_places 1 = .ok (.i2l, 1) := by decide +kernel
theorem dX8_places_2 : decode cX8_places 2 = .ok (.aload_n 0, 1) := by decide +kernel
theorem dX8_places_3 : decode cX8_places 3 = .ok (.getfield 37, 3) := by decide +kernel
theorem dX8_places_6 : decode cX8_places 6 = .ok (.i2l, 1) := by decide +kernel
theorem dX8_places_7 : decode cX8_places 7 = .ok (.ldc2_w 131, 3) := by decide +kernel
theorem dX8_places_10 : decode cX8_places 10 = .ok (.invokestatic 91, 3) := by decide +kernel
theorem dX8_places_13 : decode cX8_places 13 = .ok (.ifCond .ne 10, 3) := by decide +kernel
theorem dX8_places_16 : decode cX8_places 16 = .ok (.aload_n 0, 1) := by decide +kernel
theorem dX8_places_17 : decode cX8_places 17 = .ok (.bipush (-2), 2) := by decide +kernel
theorem dX8_places_19 : decode cX8_places 19 = .ok (.invokevirtual 104, 3) := by decide +kernel
theorem dX8_places_22 : decode cX8_places 22 = .ok (.ireturn, 1) := by decide +kernel
theorem dX8_places_23 : decode cX8_places 23 = .ok (.aload_n 0, 1) := by decide +kernel
theorem dX8_places_24 : decode cX8_places 24 = .ok (.getfield 37, 3) := by decide +kernel
theorem dX8_places_27 : decode cX8_places 27 = .ok (.istore_n 2, 1) := by decide +kernel
theorem dX8_places_28 : decode cX8_places 28 = .ok (.aload_n 0, 1) := by decide +kernel
theorem dX8_places_29 : decode cX8_places 29 = .ok (.iload_n 1, 1) := by decide +kernel
theorem dX8_places_30 : decode cX8_places 30 = .ok (.putfield 37, 3) := by decide +kernel
theorem dX8_places_33 : decode cX8_places 33 = .ok (.iload_n 2, 1) := by decide +kernel
theorem dX8_places_34 : decode cX8_places 34 = .ok (.ireturn, 1) := by decide +kernel
set_option maxRecDepth 20000 in
theorem ggX8_areTwo_X8_isPlace : GoodIn wsX8_areTwo wsX8_isPlace := goodIn_r _ [5, 6, 7, 8, 4, 9, 10, 11, 12, 13, 14, 15, 16, 17, 18, 19, 20, 21, 22, 23, 24, 25, 26, 27, 28, 29, 30, 31, 32, 33, 34, 35, 36, 37, 38, 39, 40, 41, 42, 43, 44, 45, 46] (by decide +kernel) (by decide +kernel)
set_option maxRecDepth 20000 in
theorem gX8_areTwo_X8_isPlace : GoodIn wsX8_areTwo (wsV RX8 133 RX8 yX8_isPlace wsX8_isPlace) := goodIn_app (goodIn_of _ (by decide +kernel)) ggX8_areTwo_X8_isPlace
theorem dX8_areTwo_0 : decode cX8_areTwo 0 = .ok (.aload_n 0, 1) := by decide +kernel
theorem dX8_areTwo_1 : decode cX8_areTwo 1 = .ok (.iload_n 1, 1) := by decide +kernel
theorem dX8_areTwo_2 : decode cX8_areTwo 2 = .ok (.invokevirtual 133, 3) := by decide +kernel
theorem dX8_areTwo_5 : decode cX8_areTwo 5 = .ok (.ifCond .eq 20, 3) := by decide +kernel
theorem dX8_areTwo_8 : decode cX8_areTwo 8 = .ok (.aload_n 0, 1) := by decide +kernel
theorem dX8_areTwo_9 : decode cX8_areTwo 9 = .ok (.iload_n 2, 1) := by decide +kernel
theorem dX8_areTwo_10 : decode cX8_areTwo 10 = .ok (.invokevirtual 133, 3) := by decide +kernel
theorem dX8_areTwo_13 : decode cX8_areTwo 13 = .ok (.ifCond .eq 12, 3) := by decide +kernel
theorem dX8_areTwo_16 : decode cX8_areTwo 16 = .ok (.iload_n 1, 1) := by decide +kernel
theorem dX8_areTwo_17 : decode cX8_areTwo 17 = .ok (.iload_n 2, 1) := by decide +kernel
theorem dX8_areTwo_18 : decode cX8_areTwo 18 = .ok (.if_icmp .eq 7, 3) := by decide +kernel
theorem dX8_areTwo_21 : decode cX8_areTwo 21 = .ok (.iconst 1, 1) := by decide +kernel
theorem dX8_areTwo_22 : decode cX8_areTwo 22 = .ok (.goto 4, 3) := by decide +kernel
theorem dX8_areTwo_25 : decode cX8_areTwo 25 = .ok (.iconst 0, 1) := by decide +kernel
theorem dX8_areTwo_26 : decode cX8_areTwo 26 = .ok (.ireturn, 1) := by decide +kernel
set_option maxRecDepth 20000 in
theorem ggX8_way_X8_areTwo : GoodIn wsX8_way wsX8_areTwo := goodIn_r _ [6, 7, 8, 9, 5, 10, 11, 12, 13, 14, 24, 25, 26, 27, 28, 29, 30, 31, 32, 33, 34, 35, 36, 37, 38, 39, 40, 41, 42, 43, 44, 45, 46, 47, 48, 49, 50, 51, 52, 53, 54, 55, 56, 57, 58, 59, 60] (by decide +kernel) (by decide +kernel)
set_option maxRecDepth 20000 in
theorem gX8_way_X8_areTwo : GoodIn wsX8_way (wsV RX8 136 RX8 yX8_areTwo wsX8_areTwo) := goodIn_app (goodIn_of _ (by decide +kernel)) ggX8_way_X8_areTwo
set_option maxRecDepth 20000 in
theorem ggX8_way_X8_refuse : GoodIn wsX8_way wsX8_refuse := goodIn_r _ [18, 19, 24, 25, 26, 27, 28, 29, 30, 31, 32, 33, 34, 35, 36, 37, 38, 39, 40, 41, 42, 43, 44, 45, 46, 47, 48, 49, 50, 51, 52, 53, 54, 55, 56, 57, 58, 59, 60] (by decide +kernel) (by decide +kernel)
set_option maxRecDepth 20000 in
theorem gX8_way_X8_refuse : GoodIn wsX8_way (wsV RX8 104 RX8 yX8_refuse wsX8_refuse) := goodIn_app (goodIn_of _ (by decide +kernel)) ggX8_way_X8_refuse
set_option maxRecDepth 20000 in
theorem ggX8_way_X8_setWay : GoodIn wsX8_way wsX8_setWay := goodIn_r _ [23, 1, 24, 25, 26, 27, 28, 29, 30, 31, 32, 33, 34, 35, 36, 37, 38, 39, 40, 41, 42, 43, 44, 45, 46, 47, 48, 49, 50, 51, 52, 53, 54, 55, 56, 57, 58, 59, 60] (by decide +kernel) (by decide +kernel)
set_option maxRecDepth 20000 in
theorem gX8_way_X8_setWay : GoodIn wsX8_way (wsV RX8 139 RX8 yX8_setWay wsX8_setWay) := goodIn_app (goodIn_of _ (by decide +kernel)) ggX8_way_X8_setWay
theorem dX8_way_0 : decode cX8_way 0 = .ok (.aload_n 0, 1) := by decide +kernel
theorem dX8_way_1 : decode cX8_way 1 = .ok (.iload_n 1, 1) := by decide +kernel
theorem dX8_way_2 : decode cX8_way 2 = .ok (.iload_n 2, 1) := by decide +kernel
theorem dX8_way_3 : decode cX8_way 3 = .ok (.invokevirtual 136, 3) := by decide +kernel
theorem dX8_way_6 : decode cX8_way 6 = .ok (.ifCond .ne 10, 3) := by decide +kernel
theorem dX8_way_9 : decode cX8_way 9 = .ok (.aload_n 0, 1) := by decide +kernel
theorem dX8_way_10 : decode cX8_way 10 = .ok (.bipush (-2), 2) := by decide +kernel
theorem dX8_way_12 : decode cX8_way 12 = .ok (.invokevirtual 104, 3) := by decide +kernel
theorem dX8_way_15 : decode cX8_way 15 = .ok (.ireturn, 1) := by decide +kernel
theorem dX8_way_16 : decode cX8_way 16 = .ok (.aload_n 0, 1) := by decide +kernel
theorem dX8_way_17 : decode cX8_way 17 = .ok (.getfield 41, 3) := by decide +kernel
theorem dX8_way_20 : decode cX8_way 20 = .ok (.iload_n 1, 1) := by decide +kernel
theorem dX8_way_21 : decode cX8_way 21 = .ok (.iaload, 1) := by decide +kernel
theorem dX8_way_22 : decode cX8_way 22 = .ok (.iload_n 2, 1) := by decide +kernel
theorem dX8_way_23 : decode cX8_way 23 = .ok (.ishr, 1) := by decide +kernel
theorem dX8_way_24 : decode cX8_way 24 = .ok (.iconst 1, 1) := by decide +kernel
theorem dX8_way_25 : decode cX8_way 25 = .ok (.iand, 1) := by decide +kernel
theorem dX8_way_26 : decode cX8_way 26 = .ok (.istore 4, 2) := by decide +kernel
theorem dX8_way_28 : decode cX8_way 28 = .ok (.aload_n 0, 1) := by decide +kernel
theorem dX8_way_29 : decode cX8_way 29 = .ok (.iload_n 1, 1) := by decide +kernel
theorem dX8_way_30 : decode cX8_way 30 = .ok (.iload_n 2, 1) := by decide +kernel
theorem dX8_way_31 : decode cX8_way 31 = .ok (.iload_n 3, 1) := by decide +kernel
theorem dX8_way_32 : decode cX8_way 32 = .ok (.invokevirtual 139, 3) := by decide +kernel
theorem dX8_way_35 : decode cX8_way 35 = .ok (.iload 4, 2) := by decide +kernel
theorem dX8_way_37 : decode cX8_way 37 = .ok (.ireturn, 1) := by decide +kernel
set_option maxRecDepth 20000 in
theorem ggX8_isWay_X8_areTwo : GoodIn wsX8_isWay wsX8_areTwo := goodIn_r _ [6, 7, 8, 9, 5, 10, 11, 12, 13, 14, 20, 21, 22, 23, 24, 25, 26, 27, 28, 29, 30, 31, 32, 33, 34, 35, 36, 37, 38, 39, 40, 41, 42, 43, 44, 45, 46, 47, 48, 49, 50, 51, 52, 53, 54, 55, 56] (by decide +kernel) (by decide +kernel)
set_option maxRecDepth 20000 in
theorem gX8_isWay_X8_areTwo : GoodIn wsX8_isWay (wsV RX8 136 RX8 yX8_areTwo wsX8_areTwo) := goodIn_app (goodIn_of _ (by decide +kernel)) ggX8_isWay_X8_areTwo
set_option maxRecDepth 20000 in
theorem ggX8_isWay_X8_refuse : GoodIn wsX8_isWay wsX8_refuse := goodIn_r _ [18, 19, 20, 21, 22, 23, 24, 25, 26, 27, 28, 29, 30, 31, 32, 33, 34, 35, 36, 37, 38, 39, 40, 41, 42, 43, 44, 45, 46, 47, 48, 49, 50, 51, 52, 53, 54, 55, 56] (by decide +kernel) (by decide +kernel)
set_option maxRecDepth 20000 in
theorem gX8_isWay_X8_refuse : GoodIn wsX8_isWay (wsV RX8 104 RX8 yX8_refuse wsX8_refuse) := goodIn_app (goodIn_of _ (by decide +kernel)) ggX8_isWay_X8_refuse
theorem dX8_isWay_0 : decode cX8_isWay 0 = .ok (.aload_n 0, 1) := by decide +kernel
theorem dX8_isWay_1 : decode cX8_isWay 1 = .ok (.iload_n 1, 1) := by decide +kernel
theorem dX8_isWay_2 : decode cX8_isWay 2 = .ok (.iload_n 2, 1) := by decide +kernel
theorem dX8_isWay_3 : decode cX8_isWay 3 = .ok (.invokevirtual 136, 3) := by decide +kernel
theorem dX8_isWay_6 : decode cX8_isWay 6 = .ok (.ifCond .eq 16, 3) := by decide +kernel
theorem dX8_isWay_9 : decode cX8_isWay 9 = .ok (.aload_n 0, 1) := by decide +kernel
theorem dX8_isWay_10 : decode cX8_isWay 10 = .ok (.getfield 41, 3) := by decide +kernel
theorem dX8_isWay_13 : decode cX8_isWay 13 = .ok (.iload_n 1, 1) := by decide +kernel
theorem dX8_isWay_14 : decode cX8_isWay 14 = .ok (.iaload, 1) := by decide +kernel
theorem dX8_isWay_15 : decode cX8_isWay 15 = .ok (.iload_n 2, 1) := by decide +kernel
theorem dX8_isWay_16 : decode cX8_isWay 16 = .ok (.ishr, 1) := by decide +kernel
theorem dX8_isWay_17 : decode cX8_isWay 17 = .ok (.iconst 1, 1) := by decide +kernel
theorem dX8_isWay_18 : decode cX8_isWay 18 = .ok (.iand, 1) := by decide +kernel
theorem dX8_isWay_19 : decode cX8_isWay 19 = .ok (.goto 9, 3) := by decide +kernel
theorem dX8_isWay_22 : decode cX8_isWay 22 = .ok (.aload_n 0, 1) := by decide +kernel
theorem dX8_isWay_23 : decode cX8_isWay 23 = .ok (.bipush (-2), 2) := by decide +kernel
theorem dX8_isWay_25 : decode cX8_isWay 25 = .ok (.invokevirtual 104, 3) := by decide +kernel
theorem dX8_isWay_28 : decode cX8_isWay 28 = .ok (.ireturn, 1) := by decide +kernel
set_option maxRecDepth 20000 in
theorem ggX8_person_X8_in : GoodIn wsX8_person wsX8_in := goodIn_r _ [7] (by decide +kernel) (by decide +kernel)
set_option maxRecDepth 20000 in
theorem gX8_person_X8_in : GoodIn wsX8_person (va_wsS RX8 91 yX8_in wsX8_in) := goodIn_app (goodIn_of _ (by decide +kernel)) ggX8_person_X8_in
set_option maxRecDepth 20000 in
theorem ggX8_person_X8_isPlace : GoodIn wsX8_person wsX8_isPlace := goodIn_r _ [11, 12, 4, 5, 6, 7, 27, 28, 29, 30, 31, 32, 33, 34, 35, 36, 37, 38, 39, 40, 41, 42, 43, 44, 45, 46, 47, 48, 49, 50, 51, 52, 53, 54, 55, 56, 57, 58, 59, 60, 61, 62, 63] (by decide +kernel) (by decide +kernel)
set_option maxRecDepth 20000 in
theorem gX8_person_X8_isPlace : GoodIn wsX8_person (wsV RX8 133 RX8 yX8_isPlace wsX8_isPlace) := goodIn_app (goodIn_of _ (by decide +kernel)) ggX8_person_X8_isPlace
set_option maxRecDepth 20000 in
theorem ggX8_person_X8_refuse : GoodIn wsX8_person wsX8_refuse := goodIn_r _ [16, 17, 27, 28, 29, 30, 31, 32, 33, 34, 35, 36, 37, 38, 39, 40, 41, 42, 43, 44, 45, 46, 47, 48, 49, 50, 51, 52, 53, 54, 55, 56, 57, 58, 59, 60, 61, 62, 63] (by decide +kernel) (by decide +kernel)
set_option maxRecDepth 20000 in
theorem gX8_person_X8_refuse : GoodIn wsX8_person (wsV RX8 104 RX8 yX8_refuse wsX8_refuse) := goodIn_app (goodIn_of _ (by decide +kernel)) ggX8_person_X8_refuse
set_option maxRecDepth 20000 in
theorem ggX8_person_X8_addPerson : GoodIn wsX8_person wsX8_addPerson := goodIn_r _ [21, 22, 3, 23, 24, 25, 26, 27, 28, 29, 30, 31, 32, 33, 34, 35, 36, 37, 38, 39, 40, 41, 42, 43, 44, 45, 46, 47, 48, 49, 50, 51, 52, 53, 54, 55, 56, 57, 58, 59, 60, 61, 62, 63] (by decide +kernel) (by decide +kernel)
set_option maxRecDepth 20000 in
theorem gX8_person_X8_addPerson : GoodIn wsX8_person (wsV RX8 145 RX8 yX8_addPerson wsX8_addPerson) := goodIn_app (goodIn_of _ (by decide +kernel)) ggX8_person_X8_addPerson
theorem dX8_person_0 : decode cX8_person 0 = .ok (.iload_n 1, 1) := by decide +kernel
theorem dX8_person_1 : decode cX8_person 1 = .ok (.i2l, 1) := by decide +kernel
theorem dX8_person_2 : decode cX8_person 2 = .ok (.lconst 0, 1) := by decide +kernel
theorem dX8_person_3 : decode cX8_person 3 = .ok (.ldc2_w 119, 3) := by decide +kernel
theorem dX8_person_6 : decode cX8_person 6 = .ok (.invokestatic 91, 3) := by decide +kernel
theorem dX8_person_9 : decode cX8_person 9 = .ok (.ifCond .eq 32, 3) := by decide +kernel
theorem dX8_person_12 : decode cX8_person 12 = .ok (.iload_n 2, 1) := by decide +kernel
theorem dX8_person_13 : decode cX8_person 13 = .ok (.i2l, 1) := by decide +kernel
theorem dX8_person_14 : decode cX8_person 14 = .ok (.lconst 0, 1) := by decide +kernel
theorem dX8_person_15 : decode cX8_person 15 = .ok (.ldc2_w 143, 3) := by decide +kernel
theorem dX8_person_18 : decode cX8_person 18 = .ok (.invokestatic 91, 3) := by decide +kernel
theorem dX8_person_21 : decode cX8_person 21 = .ok (.ifCond .eq 20, 3) := by decide +kernel
theorem dX8_person_24 : decode cX8_person 24 = .ok (.aload_n 0, 1) := by decide +kernel
theorem dX8_person_25 : decode cX8_person 25 = .ok (.iload_n 3, 1) := by decide +kernel
theorem dX8_person_26 : decode cX8_person 26 = .ok (.invokevirtual 133, 3) := by decide +kernel
theorem dX8_person_29 : decode cX8_person 29 = .ok (.ifCond .eq 12, 3) := by decide +kernel
theorem dX8_person_32 : decode cX8_person 32 = .ok (.aload_n 0, 1) := by decide +kernel
theorem dX8_person_33 : decode cX8_person 33 = .ok (.iload 4, 2) := by decide +kernel
theorem dX8_person_35 : decode cX8_person 35 = .ok (.invokevirtual 133, 3) := by decide +kernel
theorem dX8_person_38 : decode cX8_person 38 = .ok (.ifCond .ne 10, 3) := by decide +kernel
theorem dX8_person_41 : decode cX8_person 41 = .ok (.aload_n 0, 1) := by decide +kernel
theorem dX8_person_42 : decode cX8_person 42 = .ok (.bipush (-2), 2) := by decide +kernel
theorem dX8_person_44 : decode cX8_person 44 = .ok (.invokevirtual 104, 3) := by decide +kernel
theorem dX8_person_47 : decode cX8_person 47 = .ok (.ireturn, 1) := by decide +kernel
theorem dX8_person_48 : decode cX8_person 48 = .ok (.aload_n 0, 1) := by decide +kernel
theorem dX8_person_49 : decode cX8_person 49 = .ok (.getfield 95, 3) := by decide +kernel
theorem dX8_person_52 : decode cX8_person 52 = .ok (.bipush 8, 2) := by decide +kernel
theorem dX8_person_54 : decode cX8_person 54 = .ok (.if_icmp .ne 10, 3) := by decide +kernel
theorem dX8_person_57 : decode cX8_person 57 = .ok (.aload_n 0, 1) := by decide +kernel
theorem dX8_person_58 : decode cX8_person 58 = .ok (.bipush (-6), 2) := by decide +kernel
theorem dX8_person_60 : decode cX8_person 60 = .ok (.invokevirtual 104, 3) := by decide +kernel
theorem dX8_person_63 : decode cX8_person 63 = .ok (.ireturn, 1) := by decide +kernel
theorem dX8_person_64 : decode cX8_person 64 = .ok (.aload_n 0, 1) := by decide +kernel
theorem dX8_person_65 : decode cX8_person 65 = .ok (.iload_n 1, 1) := by decide +kernel
theorem dX8_person_66 : decode cX8_person 66 = .ok (.iload_n 2, 1) := by decide +kernel
theorem dX8_person_67 : decode cX8_person 67 = .ok (.iload_n 3, 1) := by decide +kernel
theorem dX8_person_68 : decode cX8_person 68 = .ok (.iload 4, 2) := by decide +kernel
theorem dX8_person_70 : decode cX8_person 70 = .ok (.invokevirtual 145, 3) := by decide +kernel
theorem dX8_person_73 : decode cX8_person 73 = .ok (.aload_n 0, 1) := by decide +kernel
theorem dX8_person_74 : decode cX8_person 74 = .ok (.getfield 95, 3) := by decide +kernel
theorem dX8_person_77 : decode cX8_person 77 = .ok (.iconst 1, 1) := by decide +kernel
theorem dX8_person_78 : decode cX8_person 78 = .ok (.isub, 1) := by decide +kernel
theorem dX8_person_79 : decode cX8_person 79 = .ok (.ireturn, 1) := by decide +kernel
set_option maxRecDepth 20000 in
theorem ggX8_put_X8_isPerson : GoodIn wsX8_put wsX8_isPerson := goodIn_r _ [9, 10, 11, 12, 8, 13, 24, 25, 26, 27, 28, 29, 30, 31, 32, 33, 34, 35, 36, 37, 38, 39, 40, 41, 42, 43, 44, 45, 46, 47, 48, 49, 50, 51, 52, 53, 54, 55, 56, 57, 58, 59, 60] (by decide +kernel) (by decide +kernel)
set_option maxRecDepth 20000 in
theorem gX8_put_X8_isPerson : GoodIn wsX8_put (wsV RX8 115 RX8 yX8_isPerson wsX8_isPerson) := goodIn_app (goodIn_of _ (by decide +kernel)) ggX8_put_X8_isPerson
set_option maxRecDepth 20000 in
theorem ggX8_put_X8_in : GoodIn wsX8_put wsX8_in := goodIn_r _ [13] (by decide +kernel) (by decide +kernel)
set_option maxRecDepth 20000 in
theorem gX8_put_X8_in : GoodIn wsX8_put (va_wsS RX8 91 yX8_in wsX8_in) := goodIn_app (goodIn_of _ (by decide +kernel)) ggX8_put_X8_in
set_option maxRecDepth 20000 in
theorem ggX8_put_X8_isPlace : GoodIn wsX8_put wsX8_isPlace := goodIn_r _ [17, 18, 11, 12, 8, 13, 24, 25, 26, 27, 28, 29, 30, 31, 32, 33, 34, 35, 36, 37, 38, 39, 40, 41, 42, 43, 44, 45, 46, 47, 48, 49, 50, 51, 52, 53, 54, 55, 56, 57, 58, 59, 60] (by decide +kernel) (by decide +kernel)
set_option maxRecDepth 20000 in
theorem gX8_put_X8_isPlace : GoodIn wsX8_put (wsV RX8 133 RX8 yX8_isPlace wsX8_isPlace) := goodIn_app (goodIn_of _ (by decide +kernel)) ggX8_put_X8_isPlace
set_option maxRecDepth 20000 in
theorem ggX8_put_X8_refuse : GoodIn wsX8_put wsX8_refuse := goodIn_r _ [22, 23, 24, 25, 26, 27, 28, 29, 30, 31, 32, 33, 34, 35, 36, 37, 38, 39, 40, 41, 42, 43, 44, 45, 46, 47, 48, 49, 50, 51, 52, 53, 54, 55, 56, 57, 58, 59, 60] (by decide +kernel) (by decide +kernel)
set_option maxRecDepth 20000 in
theorem gX8_put_X8_refuse : GoodIn wsX8_put (wsV RX8 104 RX8 yX8_refuse wsX8_refuse) := goodIn_app (goodIn_of _ (by decide +kernel)) ggX8_put_X8_refuse
theorem dX8_put_0 : decode cX8_put 0 = .ok (.aload_n 0, 1) := by decide +kernel
theorem dX8_put_1 : decode cX8_put 1 = .ok (.iload_n 1, 1) := by decide +kernel
theorem dX8_put_2 : decode cX8_put 2 = .ok (.invokevirtual 115, 3) := by decide +kernel
theorem dX8_put_5 : decode cX8_put 5 = .ok (.ifCond .eq 23, 3) := by decide +kernel
theorem dX8_put_8 : decode cX8_put 8 = .ok (.iload_n 2, 1) := by decide +kernel
theorem dX8_put_9 : decode cX8_put 9 = .ok (.i2l, 1) := by decide +kernel
theorem dX8_put_10 : decode cX8_put 10 = .ok (.lconst 0, 1) := by decide +kernel
theorem dX8_put_11 : decode cX8_put 11 = .ok (.ldc2_w 149, 3) := by decide +kernel
theorem dX8_put_14 : decode cX8_put 14 = .ok (.invokestatic 91, 3) := by decide +kernel
theorem dX8_put_17 : decode cX8_put 17 = .ok (.ifCond .eq 11, 3) := by decide +kernel
theorem dX8_put_20 : decode cX8_put 20 = .ok (.aload_n 0, 1) := by decide +kernel
theorem dX8_put_21 : decode cX8_put 21 = .ok (.iload_n 3, 1) := by decide +kernel
theorem dX8_put_22 : decode cX8_put 22 = .ok (.invokevirtual 133, 3) := by decide +kernel
theorem dX8_put_25 : decode cX8_put 25 = .ok (.ifCond .ne 10, 3) := by decide +kernel
theorem dX8_put_28 : decode cX8_put 28 = .ok (.aload_n 0, 1) := by decide +kernel
theorem dX8_put_29 : decode cX8_put 29 = .ok (.bipush (-2), 2) := by decide +kernel
theorem dX8_put_31 : decode cX8_put 31 = .ok (.invokevirtual 104, 3) := by decide +kernel
theorem dX8_put_34 : decode cX8_put 34 = .ok (.ireturn, 1) := by decide +kernel
theorem dX8_put_35 : decode cX8_put 35 = .ok (.iload_n 2, 1) := by decide +kernel
theorem dX8_put_36 : decode cX8_put 36 = .ok (.ifCond .ne 12, 3) := by decide +kernel
theorem dX8_put_39 : decode cX8_put 39 = .ok (.aload_n 0, 1) := by decide +kernel
theorem dX8_put_40 : decode cX8_put 40 = .ok (.getfield 56, 3) := by decide +kernel
theorem dX8_put_43 : decode cX8_put 43 = .ok (.iload_n 1, 1) := by decide +kernel
theorem dX8_put_44 : decode cX8_put 44 = .ok (.iaload, 1) := by decide +kernel
theorem dX8_put_45 : decode cX8_put 45 = .ok (.goto 23, 3) := by decide +kernel
theorem dX8_put_48 : decode cX8_put 48 = .ok (.iload_n 2, 1) := by decide +kernel
theorem dX8_put_49 : decode cX8_put 49 = .ok (.iconst 1, 1) := by decide +kernel
theorem dX8_put_50 : decode cX8_put 50 = .ok (.if_icmp .ne 12, 3) := by decide +kernel
theorem dX8_put_53 : decode cX8_put 53 = .ok (.aload_n 0, 1) := by decide +kernel
theorem dX8_put_54 : decode cX8_put 54 = .ok (.getfield 50, 3) := by decide +kernel
theorem dX8_put_57 : decode cX8_put 57 = .ok (.iload_n 1, 1) := by decide +kernel
theorem dX8_put_58 : decode cX8_put 58 = .ok (.iaload, 1) := by decide +kernel
theorem dX8_put_59 : decode cX8_put 59 = .ok (.goto 9, 3) := by decide +kernel
theorem dX8_put_62 : decode cX8_put 62 = .ok (.aload_n 0, 1) := by decide +kernel
theorem dX8_put_63 : decode cX8_put 63 = .ok (.getfield 53, 3) := by decide +kernel
theorem dX8_put_66 : decode cX8_put 66 = .ok (.iload_n 1, 1) := by decide +kernel
theorem dX8_put_67 : decode cX8_put 67 = .ok (.iaload, 1) := by decide +kernel
theorem dX8_put_68 : decode cX8_put 68 = .ok (.istore 4, 2) := by decide +kernel
theorem dX8_put_70 : decode cX8_put 70 = .ok (.aload_n 0, 1) := by decide +kernel
theorem dX8_put_71 : decode cX8_put 71 = .ok (.getfield 56, 3) := by decide +kernel
theorem dX8_put_74 : decode cX8_put 74 = .ok (.iload_n 1, 1) := by decide +kernel
theorem dX8_put_75 : decode cX8_put 75 = .ok (.iload_n 2, 1) := by decide +kernel
theorem dX8_put_76 : decode cX8_put 76 = .ok (.ifCond .ne 7, 3) := by decide +kernel
theorem dX8_put_79 : decode cX8_put 79 = .ok (.iload_n 3, 1) := by decide +kernel
theorem dX8_put_80 : decode cX8_put 80 = .ok (.goto 9, 3) := by decide +kernel
theorem dX8_put_83 : decode cX8_put 83 = .ok (.aload_n 0, 1) := by decide +kernel
theorem dX8_put_84 : decode cX8_put 84 = .ok (.getfield 56, 3) := by decide +kernel
theorem dX8_put_87 : decode cX8_put 87 = .ok (.iload_n 1, 1) := by decide +kernel
theorem dX8_put_88 : decode cX8_put 88 = .ok (.iaload, 1) := by decide +kernel
theorem dX8_put_89 : decode cX8_put 89 = .ok (.iastore, 1) := by decide +kernel
theorem dX8_put_90 : decode cX8_put 90 = .ok (.aload_n 0, 1) := by decide +kernel
theorem dX8_put_91 : decode cX8_put 91 = .ok (.getfield 50, 3) := by decide +kernel
theorem dX8_put_94 : decode cX8_put 94 = .ok (.iload_n 1, 1) := by decide +kernel
theorem dX8_put_95 : decode cX8_put 95 = .ok (.iload_n 2, 1) := by decide +kernel
theorem dX8_put_96 : decode cX8_put 96 = .ok (.iconst 1, 1) := by decide +kernel
theorem dX8_put_97 : decode cX8_put 97 = .ok (.if_icmp .ne 7, 3) := by decide +kernel
theorem dX8_put_100 : decode cX8_put 100 = .ok (.iload_n 3, 1) := by decide +kernel
theorem dX8_put_101 : decode cX8_put 101 = .ok (.goto 9, 3) := by decide +kernel
theorem dX8_put_104 : decode cX8_put 104 = .ok (.aload_n 0, 1) := by decide +kernel
theorem dX8_put_105 : decode cX8_put 105 = .ok (.getfield 50, 3) := by decide +kernel
theorem dX8_put_108 : decode cX8_put 108 = .ok (.iload_n 1, 1) := by decide +kernel
theorem dX8_put_109 : decode cX8_put 109 = .ok (.iaload, 1) := by decide +kernel
theorem dX8_put_110 : decode cX8_put 110 = .ok (.iastore, 1) := by decide +kernel
theorem dX8_put_111 : decode cX8_put 111 = .ok (.aload_n 0, 1) := by decide +kernel
theorem dX8_put_112 : decode cX8_put 112 = .ok (.getfield 53, 3) := by decide +kernel
theorem dX8_put_115 : decode cX8_put 115 = .ok (.iload_n 1, 1) := by decide +kernel
theorem dX8_put_116 : decode cX8_put 116 = .ok (.iload_n 2, 1) := by decide +kernel
theorem dX8_put_117 : decode cX8_put 117 = .ok (.iconst 2, 1) := by decide +kernel
theorem dX8_put_118 : decode cX8_put 118 = .ok (.if_icmp .ne 7, 3) := by decide +kernel
theorem dX8_put_121 : decode cX8_put 121 = .ok (.iload_n 3, 1) := by decide +kernel
theorem dX8_put_122 : decode cX8_put 122 = .ok (.goto 9, 3) := by decide +kernel
theorem dX8_put_125 : decode cX8_put 125 = .ok (.aload_n 0, 1) := by decide +kernel
theorem dX8_put_126 : decode cX8_put 126 = .ok (.getfield 53, 3) := by decide +kernel
theorem dX8_put_129 : decode cX8_put 129 = .ok (.iload_n 1, 1) := by decide +kernel
theorem dX8_put_130 : decode cX8_put 130 = .ok (.iaload, 1) := by decide +kernel
theorem dX8_put_131 : decode cX8_put 131 = .ok (.iastore, 1) := by decide +kernel
theorem dX8_put_132 : decode cX8_put 132 = .ok (.iload 4, 2) := by decide +kernel
theorem dX8_put_134 : decode cX8_put 134 = .ok (.ireturn, 1) := by decide +kernel
set_option maxRecDepth 20000 in
theorem ggX8_tell_X8_in : GoodIn wsX8_tell wsX8_in := goodIn_r _ [8] (by decide +kernel) (by decide +kernel)
set_option maxRecDepth 20000 in
theorem gX8_tell_X8_in : GoodIn wsX8_tell (va_wsS RX8 91 yX8_in wsX8_in) := goodIn_app (goodIn_of _ (by decide +kernel)) ggX8_tell_X8_in
set_option maxRecDepth 20000 in
theorem ggX8_tell_X8_refuse : GoodIn wsX8_tell wsX8_refuse := goodIn_r _ [12, 13, 14, 15, 16, 17, 18, 19, 20, 21, 22, 23, 24, 25, 26, 27, 28, 29, 30, 31, 32, 33, 34, 35, 36, 37, 38, 39, 40, 41, 42, 43, 44, 45, 46, 47, 48, 49, 50] (by decide +kernel) (by decide +kernel)
set_option maxRecDepth 20000 in
theorem gX8_tell_X8_refuse : GoodIn wsX8_tell (wsV RX8 104 RX8 yX8_refuse wsX8_refuse) := goodIn_app (goodIn_of _ (by decide +kernel)) ggX8_tell_X8_refuse
theorem dX8_tell_0 : decode cX8_tell 0 = .ok (.iload_n 1, 1) := by decide +kernel
theorem dX8_tell_1 : decode cX8_tell 1 = .ok (.i2l, 1) := by decide +kernel
theorem dX8_tell_2 : decode cX8_tell 2 = .ok (.lconst 0, 1) := by decide +kernel
theorem dX8_tell_3 : decode cX8_tell 3 = .ok (.lconst 1, 1) := by decide +kernel
theorem dX8_tell_4 : decode cX8_tell 4 = .ok (.invokestatic 91, 3) := by decide +kernel
theorem dX8_tell_7 : decode cX8_tell 7 = .ok (.ifCond .eq 25, 3) := by decide +kernel
theorem dX8_tell_10 : decode cX8_tell 10 = .ok (.iload_n 2, 1) := by decide +kernel
theorem dX8_tell_11 : decode cX8_tell 11 = .ok (.i2l, 1) := by decide +kernel
theorem dX8_tell_12 : decode cX8_tell 12 = .ok (.lconst 0, 1) := by decide +kernel
theorem dX8_tell_13 : decode cX8_tell 13 = .ok (.iload_n 1, 1) := by decide +kernel
theorem dX8_tell_14 : decode cX8_tell 14 = .ok (.ifCond .ne 9, 3) := by decide +kernel
theorem dX8_tell_17 : decode cX8_tell 17 = .ok (.ldc2_w 151, 3) := by decide +kernel
theorem dX8_tell_20 : decode cX8_tell 20 = .ok (.goto 6, 3) := by decide +kernel
theorem dX8_tell_23 : decode cX8_tell 23 = .ok (.ldc2_w 131, 3) := by decide +kernel
theorem dX8_tell_26 : decode cX8_tell 26 = .ok (.invokestatic 91, 3) := by decide +kernel
theorem dX8_tell_29 : decode cX8_tell 29 = .ok (.ifCond .ne 10, 3) := by decide +kernel
theorem dX8_tell_32 : decode cX8_tell 32 = .ok (.aload_n 0, 1) := by decide +kernel
theorem dX8_tell_33 : decode cX8_tell 33 = .ok (.bipush (-2), 2) := by decide +kernel
theorem dX8_tell_35 : decode cX8_tell 35 = .ok (.invokevirtual 104, 3) := by decide +kernel
theorem dX8_tell_38 : decode cX8_tell 38 = .ok (.ireturn, 1) := by decide +kernel
theorem dX8_tell_39 : decode cX8_tell 39 = .ok (.iload_n 1, 1) := by decide +kernel
theorem dX8_tell_40 : decode cX8_tell 40 = .ok (.ifCond .ne 10, 3) := by decide +kernel
theorem dX8_tell_43 : decode cX8_tell 43 = .ok (.aload_n 0, 1) := by decide +kernel
theorem dX8_tell_44 : decode cX8_tell 44 = .ok (.getfield 153, 3) := by decide +kernel
theorem dX8_tell_47 : decode cX8_tell 47 = .ok (.goto 7, 3) := by decide +kernel
theorem dX8_tell_50 : decode cX8_tell 50 = .ok (.aload_n 0, 1) := by decide +kernel
theorem dX8_tell_51 : decode cX8_tell 51 = .ok (.getfield 59, 3) := by decide +kernel
theorem dX8_tell_54 : decode cX8_tell 54 = .ok (.istore_n 3, 1) := by decide +kernel
theorem dX8_tell_55 : decode cX8_tell 55 = .ok (.aload_n 0, 1) := by decide +kernel
theorem dX8_tell_56 : decode cX8_tell 56 = .ok (.iload_n 1, 1) := by decide +kernel
theorem dX8_tell_57 : decode cX8_tell 57 = .ok (.ifCond .ne 7, 3) := by decide +kernel
theorem dX8_tell_60 : decode cX8_tell 60 = .ok (.iload_n 2, 1) := by decide +kernel
theorem dX8_tell_61 : decode cX8_tell 61 = .ok (.goto 7, 3) := by decide +kernel
theorem dX8_tell_64 : decode cX8_tell 64 = .ok (.aload_n 0, 1) := by decide +kernel
theorem dX8_tell_65 : decode cX8_tell 65 = .ok (.getfield 153, 3) := by decide +kernel
theorem dX8_tell_68 : decode cX8_tell 68 = .ok (.putfield 153, 3) := by decide +kernel
theorem dX8_tell_71 : decode cX8_tell 71 = .ok (.aload_n 0, 1) := by decide +kernel
theorem dX8_tell_72 : decode cX8_tell 72 = .ok (.iload_n 1, 1) := by decide +kernel
theorem dX8_tell_73 : decode cX8_tell 73 = .ok (.iconst 1, 1) := by decide +kernel
theorem dX8_tell_74 : decode cX8_tell 74 = .ok (.if_icmp .ne 7, 3) := by decide +kernel
theorem dX8_tell_77 : decode cX8_tell 77 = .ok (.iload_n 2, 1) := by decide +kernel
theorem dX8_tell_78 : decode cX8_tell 78 = .ok (.goto 7, 3) := by decide +kernel
theorem dX8_tell_81 : decode cX8_tell 81 = .ok (.aload_n 0, 1) := by decide +kernel
theorem dX8_tell_82 : decode cX8_tell 82 = .ok (.getfield 59, 3) := by decide +kernel
theorem dX8_tell_85 : decode cX8_tell 85 = .ok (.putfield 59, 3) := by decide +kernel
theorem dX8_tell_88 : decode cX8_tell 88 = .ok (.iload_n 3, 1) := by decide +kernel
theorem dX8_tell_89 : decode cX8_tell 89 = .ok (.ireturn, 1) := by decide +kernel
set_option maxRecDepth 20000 in
theorem ggX8_feed_X8_in : GoodIn wsX8_feed wsX8_in := goodIn_r _ [7] (by decide +kernel) (by decide +kernel)
set_option maxRecDepth 20000 in
theorem gX8_feed_X8_in : GoodIn wsX8_feed (va_wsS RX8 91 yX8_in wsX8_in) := goodIn_app (goodIn_of _ (by decide +kernel)) ggX8_feed_X8_in
set_option maxRecDepth 20000 in
theorem ggX8_feed_X8_refuse : GoodIn wsX8_feed wsX8_refuse := goodIn_r _ [11, 12, 13, 14, 15, 16, 17, 18, 19, 20, 21, 22, 23, 24, 25, 26, 27, 28, 29, 30, 31, 32, 33, 34, 35, 36, 37, 38, 39, 40, 41, 42, 43, 44, 45, 46, 47, 48, 49] (by decide +kernel) (by decide +kernel)
set_option maxRecDepth 20000 in
theorem gX8_feed_X8_refuse : GoodIn wsX8_feed (wsV RX8 104 RX8 yX8_refuse wsX8_refuse) := goodIn_app (goodIn_of _ (by decide +kernel)) ggX8_feed_X8_refuse
theorem dX8_feed_0 : decode cX8_feed 0 = .ok (.iload_n 1, 1) := by decide +kernel
theorem dX8_feed_1 : decode cX8_feed 1 = .ok (.i2l, 1) := by decide +kernel
theorem dX8_feed_2 : decode cX8_feed 2 = .ok (.lconst 0, 1) := by decide +kernel
theorem dX8_feed_3 : decode cX8_feed 3 = .ok (.ldc2_w 156, 3) := by decide +kernel
theorem dX8_feed_6 : decode cX8_feed 6 = .ok (.invokestatic 91, 3) := by decide +kernel
theorem dX8_feed_9 : decode cX8_feed 9 = .ok (.ifCond .ne 10, 3) := by decide +kernel
theorem dX8_feed_12 : decode cX8_feed 12 = .ok (.aload_n 0, 1) := by decide +kernel
theorem dX8_feed_13 : decode cX8_feed 13 = .ok (.bipush (-2), 2) := by decide +kernel
theorem dX8_feed_15 : decode cX8_feed 15 = .ok (.invokevirtual 104, 3) := by decide +kernel
theorem dX8_feed_18 : decode cX8_feed 18 = .ok (.ireturn, 1) := by decide +kernel
theorem dX8_feed_19 : decode cX8_feed 19 = .ok (.aload_n 0, 1) := by decide +kernel
theorem dX8_feed_20 : decode cX8_feed 20 = .ok (.getfield 158, 3) := by decide +kernel
theorem dX8_feed_23 : decode cX8_feed 23 = .ok (.sipush 250, 3) := by decide +kernel
theorem dX8_feed_26 : decode cX8_feed 26 = .ok (.if_icmp .ne 10, 3) := by decide +kernel
theorem dX8_feed_29 : decode cX8_feed 29 = .ok (.aload_n 0, 1) := by decide +kernel
theorem dX8_feed_30 : decode cX8_feed 30 = .ok (.bipush (-6), 2) := by decide +kernel
theorem dX8_feed_32 : decode cX8_feed 32 = .ok (.invokevirtual 104, 3) := by decide +kernel
theorem dX8_feed_35 : decode cX8_feed 35 = .ok (.ireturn, 1) := by decide +kernel
theorem dX8_feed_36 : decode cX8_feed 36 = .ok (.aload_n 0, 1) := by decide +kernel
theorem dX8_feed_37 : decode cX8_feed 37 = .ok (.getfield 31, 3) := by decide +kernel
theorem dX8_feed_40 : decode cX8_feed 40 = .ok (.aload_n 0, 1) := by decide +kernel
theorem dX8_feed_41 : decode cX8_feed 41 = .ok (.dup, 1) := by decide +kernel
theorem dX8_feed_42 : decode cX8_feed 42 = .ok (.getfield 158, 3) := by decide +kernel
theorem dX8_feed_45 : decode cX8_feed 45 = .ok (.dup_x1, 1) := by decide +kernel
theorem dX8_feed_46 : decode cX8_feed 46 = .ok (.iconst 1, 1) := by decide +kernel
theorem dX8_feed_47 : decode cX8_feed 47 = .ok (.iadd, 1) := by decide +kernel
theorem dX8_feed_48 : decode cX8_feed 48 = .ok (.putfield 158, 3) := by decide +kernel
theorem dX8_feed_51 : decode cX8_feed 51 = .ok (.iload_n 1, 1) := by decide +kernel
theorem dX8_feed_52 : decode cX8_feed 52 = .ok (.iastore, 1) := by decide +kernel
theorem dX8_feed_53 : decode cX8_feed 53 = .ok (.aload_n 0, 1) := by decide +kernel
theorem dX8_feed_54 : decode cX8_feed 54 = .ok (.getfield 158, 3) := by decide +kernel
theorem dX8_feed_57 : decode cX8_feed 57 = .ok (.ireturn, 1) := by decide +kernel
theorem dX8_wipe_0 : decode cX8_wipe 0 = .ok (.aload_n 0, 1) := by decide +kernel
theorem dX8_wipe_1 : decode cX8_wipe 1 = .ok (.getfield 158, 3) := by decide +kernel
theorem dX8_wipe_4 : decode cX8_wipe 4 = .ok (.istore_n 1, 1) := by decide +kernel
theorem dX8_wipe_5 : decode cX8_wipe 5 = .ok (.aload_n 0, 1) := by decide +kernel
theorem dX8_wipe_6 : decode cX8_wipe 6 = .ok (.iconst 0, 1) := by decide +kernel
theorem dX8_wipe_7 : decode cX8_wipe 7 = .ok (.putfield 158, 3) := by decide +kernel
theorem dX8_wipe_10 : decode cX8_wipe 10 = .ok (.iload_n 1, 1) := by decide +kernel
theorem dX8_wipe_11 : decode cX8_wipe 11 = .ok (.ireturn, 1) := by decide +kernel
theorem dX8_isLetter_0 : decode cX8_isLetter 0 = .ok (.iload_n 0, 1) := by decide +kernel
theorem dX8_isLetter_1 : decode cX8_isLetter 1 = .ok (.bipush 97, 2) := by decide +kernel
theorem dX8_isLetter_3 : decode cX8_isLetter 3 = .ok (.if_icmp .lt 13, 3) := by decide +kernel
theorem dX8_isLetter_6 : decode cX8_isLetter 6 = .ok (.iload_n 0, 1) := by decide +kernel
theorem dX8_isLetter_7 : decode cX8_isLetter 7 = .ok (.bipush 122, 2) := by decide +kernel
theorem dX8_isLetter_9 : decode cX8_isLetter 9 = .ok (.if_icmp .gt 7, 3) := by decide +kernel
theorem dX8_isLetter_12 : decode cX8_isLetter 12 = .ok (.iconst 1, 1) := by decide +kernel
theorem dX8_isLetter_13 : decode cX8_isLetter 13 = .ok (.goto 4, 3) := by decide +kernel
theorem dX8_isLetter_16 : decode cX8_isLetter 16 = .ok (.iconst 0, 1) := by decide +kernel
theorem dX8_isLetter_17 : decode cX8_isLetter 17 = .ok (.ireturn, 1) := by decide +kernel
theorem dX8_isDigit_0 : decode cX8_isDigit 0 = .ok (.iload_n 0, 1) := by decide +kernel
theorem dX8_isDigit_1 : decode cX8_isDigit 1 = .ok (.bipush 48, 2) := by decide +kernel
theorem dX8_isDigit_3 : decode cX8_isDigit 3 = .ok (.if_icmp .lt 13, 3) := by decide +kernel
theorem dX8_isDigit_6 : decode cX8_isDigit 6 = .ok (.iload_n 0, 1) := by decide +kernel
theorem dX8_isDigit_7 : decode cX8_isDigit 7 = .ok (.bipush 57, 2) := by decide +kernel
theorem dX8_isDigit_9 : decode cX8_isDigit 9 = .ok (.if_icmp .gt 7, 3) := by decide +kernel
theorem dX8_isDigit_12 : decode cX8_isDigit 12 = .ok (.iconst 1, 1) := by decide +kernel
theorem dX8_isDigit_13 : decode cX8_isDigit 13 = .ok (.goto 4, 3) := by decide +kernel
theorem dX8_isDigit_16 : decode cX8_isDigit 16 = .ok (.iconst 0, 1) := by decide +kernel
theorem dX8_isDigit_17 : decode cX8_isDigit 17 = .ok (.ireturn, 1) := by decide +kernel
set_option maxRecDepth 20000 in
theorem ggX8_look_X8_isLetter : GoodIn wsX8_look wsX8_isLetter := goodIn_r _ [10] (by decide +kernel) (by decide +kernel)
set_option maxRecDepth 20000 in
theorem gX8_look_X8_isLetter : GoodIn wsX8_look (va_wsS RX8 173 yX8_isLetter wsX8_isLetter) := goodIn_app (goodIn_of _ (by decide +kernel)) ggX8_look_X8_isLetter
set_option maxRecDepth 20000 in
theorem ggX8_look_X8_isDigit : GoodIn wsX8_look wsX8_isDigit := goodIn_r _ [13] (by decide +kernel) (by decide +kernel)
set_option maxRecDepth 20000 in
theorem gX8_look_X8_isDigit : GoodIn wsX8_look (va_wsS RX8 176 yX8_isDigit wsX8_isDigit) := goodIn_app (goodIn_of _ (by decide +kernel)) ggX8_look_X8_isDigit
