theorem dX8_look_0 : decode cX8_look 0 = .ok (.aload_n 0, 1) := by decide +kernel
theorem dX8_look_1 : decode cX8_look 1 = .ok (.getfield 161, 3) := by decide +kernel
theorem dX8_look_4 : decode cX8_look 4 = .ok (.aload_n 0, 1) := by decide +kernel
theorem dX8_look_5 : decode cX8_look 5 = .ok (.getfield 158, 3) := by decide +kernel
theorem dX8_look_8 : decode cX8_look 8 = .ok (.if_icmp .ge 30, 3) := by decide +kernel
theorem dX8_look_11 : decode cX8_look 11 = .ok (.aload_n 0, 1) := by decide +kernel
theorem dX8_look_12 : decode cX8_look 12 = .ok (.getfield 31, 3) := by decide +kernel
theorem dX8_look_15 : decode cX8_look 15 = .ok (.aload_n 0, 1) := by decide +kernel
theorem dX8_look_16 : decode cX8_look 16 = .ok (.getfield 161, 3) := by decide +kernel
theorem dX8_look_19 : decode cX8_look 19 = .ok (.iaload, 1) := by decide +kernel
theorem dX8_look_20 : decode cX8_look 20 = .ok (.bipush 32, 2) := by decide +kernel
theorem dX8_look_22 : decode cX8_look 22 = .ok (.if_icmp .ne 16, 3) := by decide +kernel
theorem dX8_look_25 : decode cX8_look 25 = .ok (.aload_n 0, 1) := by decide +kernel
theorem dX8_look_26 : decode cX8_look 26 = .ok (.dup, 1) := by decide +kernel
theorem dX8_look_27 : decode cX8_look 27 = .ok (.getfield 161, 3) := by decide +kernel
theorem dX8_look_30 : decode cX8_look 30 = .ok (.iconst 1, 1) := by decide +kernel
theorem dX8_look_31 : decode cX8_look 31 = .ok (.iadd, 1) := by decide +kernel
theorem dX8_look_32 : decode cX8_look 32 = .ok (.putfield 161, 3) := by decide +kernel
theorem dX8_look_35 : decode cX8_look 35 = .ok (.goto (-35), 3) := by decide +kernel
theorem dX8_look_38 : decode cX8_look 38 = .ok (.aload_n 0, 1) := by decide +kernel
theorem dX8_look_39 : decode cX8_look 39 = .ok (.aload_n 0, 1) := by decide +kernel
theorem dX8_look_40 : decode cX8_look 40 = .ok (.getfield 161, 3) := by decide +kernel
theorem dX8_look_43 : decode cX8_look 43 = .ok (.putfield 164, 3) := by decide +kernel
theorem dX8_look_46 : decode cX8_look 46 = .ok (.aload_n 0, 1) := by decide +kernel
theorem dX8_look_47 : decode cX8_look 47 = .ok (.iconst 0, 1) := by decide +kernel
theorem dX8_look_48 : decode cX8_look 48 = .ok (.putfield 167, 3) := by decide +kernel
theorem dX8_look_51 : decode cX8_look 51 = .ok (.aload_n 0, 1) := by decide +kernel
theorem dX8_look_52 : decode cX8_look 52 = .ok (.getfield 161, 3) := by decide +kernel
theorem dX8_look_55 : decode cX8_look 55 = .ok (.aload_n 0, 1) := by decide +kernel
theorem dX8_look_56 : decode cX8_look 56 = .ok (.getfield 158, 3) := by decide +kernel
theorem dX8_look_59 : decode cX8_look 59 = .ok (.if_icmp .ne 11, 3) := by decide +kernel
theorem dX8_look_62 : decode cX8_look 62 = .ok (.aload_n 0, 1) := by decide +kernel
theorem dX8_look_63 : decode cX8_look 63 = .ok (.iconst 0, 1) := by decide +kernel
theorem dX8_look_64 : decode cX8_look 64 = .ok (.putfield 170, 3) := by decide +kernel
theorem dX8_look_67 : decode cX8_look 67 = .ok (.goto 197, 3) := by decide +kernel
theorem dX8_look_70 : decode cX8_look 70 = .ok (.aload_n 0, 1) := by decide +kernel
theorem dX8_look_71 : decode cX8_look 71 = .ok (.getfield 31, 3) := by decide +kernel
theorem dX8_look_74 : decode cX8_look 74 = .ok (.aload_n 0, 1) := by decide +kernel
theorem dX8_look_75 : decode cX8_look 75 = .ok (.getfield 161, 3) := by decide +kernel
theorem dX8_look_78 : decode cX8_look 78 = .ok (.iaload, 1) := by decide +kernel
theorem dX8_look_79 : decode cX8_look 79 = .ok (.invokestatic 173, 3) := by decide +kernel
theorem dX8_look_82 : decode cX8_look 82 = .ok (.ifCond .eq 47, 3) := by decide +kernel
theorem dX8_look_85 : decode cX8_look 85 = .ok (.aload_n 0, 1) := by decide +kernel
theorem dX8_look_86 : decode cX8_look 86 = .ok (.iconst 1, 1) := by decide +kernel
theorem dX8_look_87 : decode cX8_look 87 = .ok (.putfield 170, 3) := by decide +kernel
theorem dX8_look_90 : decode cX8_look 90 = .ok (.aload_n 0, 1) := by decide +kernel
theorem dX8_look_91 : decode cX8_look 91 = .ok (.getfield 161, 3) := by decide +kernel
theorem dX8_look_94 : decode cX8_look 94 = .ok (.aload_n 0, 1) := by decide +kernel
theorem dX8_look_95 : decode cX8_look 95 = .ok (.getfield 158, 3) := by decide +kernel
theorem dX8_look_98 : decode cX8_look 98 = .ok (.if_icmp .ge 166, 3) := by decide +kernel
theorem dX8_look_101 : decode cX8_look 101 = .ok (.aload_n 0, 1) := by decide +kernel
theorem dX8_look_102 : decode cX8_look 102 = .ok (.getfield 31, 3) := by decide +kernel
theorem dX8_look_105 : decode cX8_look 105 = .ok (.aload_n 0, 1) := by decide +kernel
theorem dX8_look_106 : decode cX8_look 106 = .ok (.getfield 161, 3) := by decide +kernel
theorem dX8_look_109 : decode cX8_look 109 = .ok (.iaload, 1) := by decide +kernel
theorem dX8_look_110 : decode cX8_look 110 = .ok (.invokestatic 173, 3) := by decide +kernel
theorem dX8_look_113 : decode cX8_look 113 = .ok (.ifCond .eq 151, 3) := by decide +kernel
theorem dX8_look_116 : decode cX8_look 116 = .ok (.aload_n 0, 1) := by decide +kernel
theorem dX8_look_117 : decode cX8_look 117 = .ok (.dup, 1) := by decide +kernel
theorem dX8_look_118 : decode cX8_look 118 = .ok (.getfield 161, 3) := by decide +kernel
theorem dX8_look_121 : decode cX8_look 121 = .ok (.iconst 1, 1) := by decide +kernel
theorem dX8_look_122 : decode cX8_look 122 = .ok (.iadd, 1) := by decide +kernel
theorem dX8_look_123 : decode cX8_look 123 = .ok (.putfield 161, 3) := by decide +kernel
theorem dX8_look_126 : decode cX8_look 126 = .ok (.goto (-36), 3) := by decide +kernel
theorem dX8_look_129 : decode cX8_look 129 = .ok (.aload_n 0, 1) := by decide +kernel
theorem dX8_look_130 : decode cX8_look 130 = .ok (.getfield 31, 3) := by decide +kernel
theorem dX8_look_133 : decode cX8_look 133 = .ok (.aload_n 0, 1) := by decide +kernel
theorem dX8_look_134 : decode cX8_look 134 = .ok (.getfield 161, 3) := by decide +kernel
theorem dX8_look_137 : decode cX8_look 137 = .ok (.iaload, 1) := by decide +kernel
theorem dX8_look_138 : decode cX8_look 138 = .ok (.invokestatic 176, 3) := by decide +kernel
theorem dX8_look_141 : decode cX8_look 141 = .ok (.ifCond .eq 90, 3) := by decide +kernel
theorem dX8_look_144 : decode cX8_look 144 = .ok (.aload_n 0, 1) := by decide +kernel
theorem dX8_look_145 : decode cX8_look 145 = .ok (.iconst 2, 1) := by decide +kernel
theorem dX8_look_146 : decode cX8_look 146 = .ok (.putfield 170, 3) := by decide +kernel
theorem dX8_look_149 : decode cX8_look 149 = .ok (.aload_n 0, 1) := by decide +kernel
theorem dX8_look_150 : decode cX8_look 150 = .ok (.getfield 161, 3) := by decide +kernel
theorem dX8_look_153 : decode cX8_look 153 = .ok (.aload_n 0, 1) := by decide +kernel
theorem dX8_look_154 : decode cX8_look 154 = .ok (.getfield 158, 3) := by decide +kernel
theorem dX8_look_157 : decode cX8_look 157 = .ok (.if_icmp .ge 107, 3) := by decide +kernel
theorem dX8_look_160 : decode cX8_look 160 = .ok (.aload_n 0, 1) := by decide +kernel
theorem dX8_look_161 : decode cX8_look 161 = .ok (.getfield 31, 3) := by decide +kernel
theorem dX8_look_164 : decode cX8_look 164 = .ok (.aload_n 0, 1) := by decide +kernel
theorem dX8_look_165 : decode cX8_look 165 = .ok (.getfield 161, 3) := by decide +kernel
theorem dX8_look_168 : decode cX8_look 168 = .ok (.iaload, 1) := by decide +kernel
theorem dX8_look_169 : decode cX8_look 169 = .ok (.invokestatic 176, 3) := by decide +kernel
theorem dX8_look_172 : decode cX8_look 172 = .ok (.ifCond .eq 92, 3) := by decide +kernel
theorem dX8_look_175 : decode cX8_look 175 = .ok (.aload_n 0, 1) := by decide +kernel
theorem dX8_look_176 : decode cX8_look 176 = .ok (.aload_n 0, 1) := by decide +kernel
theorem dX8_look_177 : decode cX8_look 177 = .ok (.getfield 161, 3) := by decide +kernel
theorem dX8_look_180 : decode cX8_look 180 = .ok (.aload_n 0, 1) := by decide +kernel
theorem dX8_look_181 : decode cX8_look 181 = .ok (.getfield 164, 3) := by decide +kernel
theorem dX8_look_184 : decode cX8_look 184 = .ok (.isub, 1) := by decide +kernel
theorem dX8_look_185 : decode cX8_look 185 = .ok (.iconst 3, 1) := by decide +kernel
theorem dX8_look_186 : decode cX8_look 186 = .ok (.if_icmp .ge 26, 3) := by decide +kernel
theorem dX8_look_189 : decode cX8_look 189 = .ok (.aload_n 0, 1) := by decide +kernel
theorem dX8_look_190 : decode cX8_look 190 = .ok (.getfield 167, 3) := by decide +kernel
theorem dX8_look_193 : decode cX8_look 193 = .ok (.bipush 10, 2) := by decide +kernel
theorem dX8_look_195 : decode cX8_look 195 = .ok (.imul, 1) := by decide +kernel
theorem dX8_look_196 : decode cX8_look 196 = .ok (.aload_n 0, 1) := by decide +kernel
theorem dX8_look_197 : decode cX8_look 197 = .ok (.getfield 31, 3) := by decide +kernel
theorem dX8_look_200 : decode cX8_look 200 = .ok (.aload_n 0, 1) := by decide +kernel
theorem dX8_look_201 : decode cX8_look 201 = .ok (.getfield 161, 3) := by decide +kernel
theorem dX8_look_204 : decode cX8_look 204 = .ok (.iaload, 1) := by decide +kernel
theorem dX8_look_205 : decode cX8_look 205 = .ok (.iadd, 1) := by decide +kernel
theorem dX8_look_206 : decode cX8_look 206 = .ok (.bipush 48, 2) := by decide +kernel
theorem dX8_look_208 : decode cX8_look 208 = .ok (.isub, 1) := by decide +kernel
theorem dX8_look_209 : decode cX8_look 209 = .ok (.goto 6, 3) := by decide +kernel
theorem dX8_look_212 : decode cX8_look 212 = .ok (.sipush 1000, 3) := by decide +kernel
theorem dX8_look_215 : decode cX8_look 215 = .ok (.putfield 167, 3) := by decide +kernel
theorem dX8_look_218 : decode cX8_look 218 = .ok (.aload_n 0, 1) := by decide +kernel
theorem dX8_look_219 : decode cX8_look 219 = .ok (.dup, 1) := by decide +kernel
theorem dX8_look_220 : decode cX8_look 220 = .ok (.getfield 161, 3) := by decide +kernel
theorem dX8_look_223 : decode cX8_look 223 = .ok (.iconst 1, 1) := by decide +kernel
theorem dX8_look_224 : decode cX8_look 224 = .ok (.iadd, 1) := by decide +kernel
theorem dX8_look_225 : decode cX8_look 225 = .ok (.putfield 161, 3) := by decide +kernel
theorem dX8_look_228 : decode cX8_look 228 = .ok (.goto (-79), 3) := by decide +kernel
theorem dX8_look_231 : decode cX8_look 231 = .ok (.aload_n 0, 1) := by decide +kernel
theorem dX8_look_232 : decode cX8_look 232 = .ok (.aload_n 0, 1) := by decide +kernel
theorem dX8_look_233 : decode cX8_look 233 = .ok (.getfield 31, 3) := by decide +kernel
theorem dX8_look_236 : decode cX8_look 236 = .ok (.aload_n 0, 1) := by decide +kernel
theorem dX8_look_237 : decode cX8_look 237 = .ok (.getfield 161, 3) := by decide +kernel
theorem dX8_look_240 : decode cX8_look 240 = .ok (.iaload, 1) := by decide +kernel
theorem dX8_look_241 : decode cX8_look 241 = .ok (.bipush 59, 2) := by decide +kernel
theorem dX8_look_243 : decode cX8_look 243 = .ok (.if_icmp .ne 7, 3) := by decide +kernel
theorem dX8_look_246 : decode cX8_look 246 = .ok (.iconst 3, 1) := by decide +kernel
theorem dX8_look_247 : decode cX8_look 247 = .ok (.goto 4, 3) := by decide +kernel
theorem dX8_look_250 : decode cX8_look 250 = .ok (.iconst 4, 1) := by decide +kernel
theorem dX8_look_251 : decode cX8_look 251 = .ok (.putfield 170, 3) := by decide +kernel
theorem dX8_look_254 : decode cX8_look 254 = .ok (.aload_n 0, 1) := by decide +kernel
theorem dX8_look_255 : decode cX8_look 255 = .ok (.dup, 1) := by decide +kernel
theorem dX8_look_256 : decode cX8_look 256 = .ok (.getfield 161, 3) := by decide +kernel
theorem dX8_look_259 : decode cX8_look 259 = .ok (.iconst 1, 1) := by decide +kernel
theorem dX8_look_260 : decode cX8_look 260 = .ok (.iadd, 1) := by decide +kernel
theorem dX8_look_261 : decode cX8_look 261 = .ok (.putfield 161, 3) := by decide +kernel
theorem dX8_look_264 : decode cX8_look 264 = .ok (.return_, 1) := by decide +kernel
theorem dX8_wrong_0 : decode cX8_wrong 0 = .ok (.aload_n 0, 1) := by decide +kernel
theorem dX8_wrong_1 : decode cX8_wrong 1 = .ok (.aload_n 0, 1) := by decide +kernel
theorem dX8_wrong_2 : decode cX8_wrong 2 = .ok (.getfield 164, 3) := by decide +kernel
theorem dX8_wrong_5 : decode cX8_wrong 5 = .ok (.putfield 179, 3) := by decide +kernel
theorem dX8_wrong_8 : decode cX8_wrong 8 = .ok (.iconst 0, 1) := by decide +kernel
theorem dX8_wrong_9 : decode cX8_wrong 9 = .ok (.ireturn, 1) := by decide +kernel
set_option maxRecDepth 20000 in
theorem ggX8_isWord_J0_length_8abf5 : GoodIn wsX8_isWord wsJ0_length_8abf5 := goodIn_r _ [9, 10, 11, 12, 13, 8, 14, 15, 16] (by decide +kernel) (by decide +kernel)
set_option maxRecDepth 20000 in
theorem gX8_isWord_J0_length_8abf5 : GoodIn wsX8_isWord (wsV RX8 182 RJ0 yJ0_length_8abf5 wsJ0_length_8abf5) := goodIn_app (goodIn_of _ (by decide +kernel)) ggX8_isWord_J0_length_8abf5
set_option maxRecDepth 20000 in
theorem ggX8_isWord_J0_charAt_5068e : GoodIn wsX8_isWord wsJ0_charAt_5068e := goodIn_r _ [20, 10, 21, 22, 23, 8, 24, 15, 16, 25, 26, 27, 28, 29, 30, 31, 32, 33, 34, 35, 36, 37, 38, 39, 40, 41, 42, 43, 44, 45, 46, 47, 48, 49, 50, 51, 52, 53] (by decide +kernel) (by decide +kernel)
set_option maxRecDepth 20000 in
theorem gX8_isWord_J0_charAt_5068e : GoodIn wsX8_isWord (wsV RX8 188 RJ0 yJ0_charAt_5068e wsJ0_charAt_5068e) := goodIn_app (goodIn_of _ (by decide +kernel)) ggX8_isWord_J0_charAt_5068e
theorem dX8_isWord_0 : decode cX8_isWord 0 = .ok (.aload_n 0, 1) := by decide +kernel
theorem dX8_isWord_1 : decode cX8_isWord 1 = .ok (.getfield 170, 3) := by decide +kernel
theorem dX8_isWord_4 : decode cX8_isWord 4 = .ok (.iconst 1, 1) := by decide +kernel
theorem dX8_isWord_5 : decode cX8_isWord 5 = .ok (.if_icmp .ne 19, 3) := by decide +kernel
theorem dX8_isWord_8 : decode cX8_isWord 8 = .ok (.aload_n 0, 1) := by decide +kernel
theorem dX8_isWord_9 : decode cX8_isWord 9 = .ok (.getfield 161, 3) := by decide +kernel
theorem dX8_isWord_12 : decode cX8_isWord 12 = .ok (.aload_n 0, 1) := by decide +kernel
theorem dX8_isWord_13 : decode cX8_isWord 13 = .ok (.getfield 164, 3) := by decide +kernel
theorem dX8_isWord_16 : decode cX8_isWord 16 = .ok (.isub, 1) := by decide +kernel
theorem dX8_isWord_17 : decode cX8_isWord 17 = .ok (.aload_n 1, 1) := by decide +kernel
theorem dX8_isWord_18 : decode cX8_isWord 18 = .ok (.invokevirtual 182, 3) := by decide +kernel
theorem dX8_isWord_21 : decode cX8_isWord 21 = .ok (.if_icmp .eq 5, 3) := by decide +kernel
theorem dX8_isWord_24 : decode cX8_isWord 24 = .ok (.iconst 0, 1) := by decide +kernel
theorem dX8_isWord_25 : decode cX8_isWord 25 = .ok (.ireturn, 1) := by decide +kernel
theorem dX8_isWord_26 : decode cX8_isWord 26 = .ok (.iconst 0, 1) := by decide +kernel
theorem dX8_isWord_27 : decode cX8_isWord 27 = .ok (.istore_n 2, 1) := by decide +kernel
theorem dX8_isWord_28 : decode cX8_isWord 28 = .ok (.iload_n 2, 1) := by decide +kernel
theorem dX8_isWord_29 : decode cX8_isWord 29 = .ok (.aload_n 1, 1) := by decide +kernel
theorem dX8_isWord_30 : decode cX8_isWord 30 = .ok (.invokevirtual 182, 3) := by decide +kernel
theorem dX8_isWord_33 : decode cX8_isWord 33 = .ok (.if_icmp .ge 30, 3) := by decide +kernel
theorem dX8_isWord_36 : decode cX8_isWord 36 = .ok (.aload_n 0, 1) := by decide +kernel
theorem dX8_isWord_37 : decode cX8_isWord 37 = .ok (.getfield 31, 3) := by decide +kernel
theorem dX8_isWord_40 : decode cX8_isWord 40 = .ok (.aload_n 0, 1) := by decide +kernel
theorem dX8_isWord_41 : decode cX8_isWord 41 = .ok (.getfield 164, 3) := by decide +kernel
theorem dX8_isWord_44 : decode cX8_isWord 44 = .ok (.iload_n 2, 1) := by decide +kernel
theorem dX8_isWord_45 : decode cX8_isWord 45 = .ok (.iadd, 1) := by decide +kernel
theorem dX8_isWord_46 : decode cX8_isWord 46 = .ok (.iaload, 1) := by decide +kernel
theorem dX8_isWord_47 : decode cX8_isWord 47 = .ok (.aload_n 1, 1) := by decide +kernel
theorem dX8_isWord_48 : decode cX8_isWord 48 = .ok (.iload_n 2, 1) := by decide +kernel
theorem dX8_isWord_49 : decode cX8_isWord 49 = .ok (.invokevirtual 188, 3) := by decide +kernel
theorem dX8_isWord_52 : decode cX8_isWord 52 = .ok (.if_icmp .eq 5, 3) := by decide +kernel
theorem dX8_isWord_55 : decode cX8_isWord 55 = .ok (.iconst 0, 1) := by decide +kernel
theorem dX8_isWord_56 : decode cX8_isWord 56 = .ok (.ireturn, 1) := by decide +kernel
theorem dX8_isWord_57 : decode cX8_isWord 57 = .ok (.iinc 2 1, 3) := by decide +kernel
theorem dX8_isWord_60 : decode cX8_isWord 60 = .ok (.goto (-32), 3) := by decide +kernel
theorem dX8_isWord_63 : decode cX8_isWord 63 = .ok (.iconst 1, 1) := by decide +kernel
theorem dX8_isWord_64 : decode cX8_isWord 64 = .ok (.ireturn, 1) := by decide +kernel
set_option maxRecDepth 20000 in
theorem ggX8_number_X8_in : GoodIn wsX8_number wsX8_in := goodIn_r _ [7] (by decide +kernel) (by decide +kernel)
set_option maxRecDepth 20000 in
theorem gX8_number_X8_in : GoodIn wsX8_number (va_wsS RX8 91 yX8_in wsX8_in) := goodIn_app (goodIn_of _ (by decide +kernel)) ggX8_number_X8_in
set_option maxRecDepth 20000 in
theorem ggX8_number_X8_wrong : GoodIn wsX8_number wsX8_wrong := goodIn_r _ [11, 12, 13, 27, 28, 29, 30, 31, 32, 33, 34, 35, 36, 37, 38, 39, 40, 41, 42, 43, 44, 45, 46, 47, 48, 49, 50, 51, 52, 53, 54, 55, 56, 57, 58, 59, 60, 61, 62, 63] (by decide +kernel) (by decide +kernel)
set_option maxRecDepth 20000 in
theorem gX8_number_X8_wrong : GoodIn wsX8_number (wsV RX8 192 RX8 yX8_wrong wsX8_wrong) := goodIn_app (goodIn_of _ (by decide +kernel)) ggX8_number_X8_wrong
set_option maxRecDepth 20000 in
theorem ggX8_number_X8_look : GoodIn wsX8_number wsX8_look := goodIn_r _ [17, 18, 19, 20, 12, 2, 1, 21, 22, 6, 23, 24, 25, 26, 27, 28, 29, 30, 31, 32, 33, 34, 35, 36, 37, 38, 39, 40, 41, 42, 43, 44, 45, 46, 47, 48, 49, 50, 51, 52, 53, 54, 55, 56, 57, 58, 59, 60, 61, 62, 63] (by decide +kernel) (by decide +kernel)
set_option maxRecDepth 20000 in
theorem gX8_number_X8_look : GoodIn wsX8_number (wsV RX8 196 RX8 yX8_look wsX8_look) := goodIn_app (goodIn_of _ (by decide +kernel)) ggX8_number_X8_look
theorem dX8_number_0 : decode cX8_number 0 = .ok (.aload_n 0, 1) := by decide +kernel
theorem dX8_number_1 : decode cX8_number 1 = .ok (.getfield 170, 3) := by decide +kernel
theorem dX8_number_4 : decode cX8_number 4 = .ok (.iconst 2, 1) := by decide +kernel
theorem dX8_number_5 : decode cX8_number 5 = .ok (.if_icmp .ne 18, 3) := by decide +kernel
theorem dX8_number_8 : decode cX8_number 8 = .ok (.aload_n 0, 1) := by decide +kernel
theorem dX8_number_9 : decode cX8_number 9 = .ok (.getfield 167, 3) := by decide +kernel
theorem dX8_number_12 : decode cX8_number 12 = .ok (.i2l, 1) := by decide +kernel
theorem dX8_number_13 : decode cX8_number 13 = .ok (.iload_n 2, 1) := by decide +kernel
theorem dX8_number_14 : decode cX8_number 14 = .ok (.i2l, 1) := by decide +kernel
theorem dX8_number_15 : decode cX8_number 15 = .ok (.iload_n 3, 1) := by decide +kernel
theorem dX8_number_16 : decode cX8_number 16 = .ok (.i2l, 1) := by decide +kernel
theorem dX8_number_17 : decode cX8_number 17 = .ok (.invokestatic 91, 3) := by decide +kernel
theorem dX8_number_20 : decode cX8_number 20 = .ok (.ifCond .ne 8, 3) := by decide +kernel
theorem dX8_number_23 : decode cX8_number 23 = .ok (.aload_n 0, 1) := by decide +kernel
theorem dX8_number_24 : decode cX8_number 24 = .ok (.invokevirtual 192, 3) := by decide +kernel
theorem dX8_number_27 : decode cX8_number 27 = .ok (.ireturn, 1) := by decide +kernel
theorem dX8_number_28 : decode cX8_number 28 = .ok (.aload_n 0, 1) := by decide +kernel
theorem dX8_number_29 : decode cX8_number 29 = .ok (.getfield 65, 3) := by decide +kernel
theorem dX8_number_32 : decode cX8_number 32 = .ok (.iload_n 1, 1) := by decide +kernel
theorem dX8_number_33 : decode cX8_number 33 = .ok (.aload_n 0, 1) := by decide +kernel
theorem dX8_number_34 : decode cX8_number 34 = .ok (.getfield 167, 3) := by decide +kernel
theorem dX8_number_37 : decode cX8_number 37 = .ok (.iastore, 1) := by decide +kernel
theorem dX8_number_38 : decode cX8_number 38 = .ok (.aload_n 0, 1) := by decide +kernel
theorem dX8_number_39 : decode cX8_number 39 = .ok (.invokevirtual 196, 3) := by decide +kernel
theorem dX8_number_42 : decode cX8_number 42 = .ok (.iconst 1, 1) := by decide +kernel
theorem dX8_number_43 : decode cX8_number 43 = .ok (.ireturn, 1) := by decide +kernel
set_option maxRecDepth 20000 in
theorem ggX8_tells_X8_look : GoodIn wsX8_tells wsX8_look := goodIn_r _ [5, 6, 7, 8, 9, 10, 11, 12, 13, 4, 14, 15, 16, 17, 31, 32, 33, 34, 35, 36, 37, 38, 39, 40, 41, 42, 43, 44, 45, 46, 47, 48, 49, 50, 51, 52, 53, 54, 55, 56, 57, 58, 59, 60, 61, 62, 63, 64, 65, 66, 67] (by decide +kernel) (by decide +kernel)
set_option maxRecDepth 20000 in
theorem gX8_tells_X8_look : GoodIn wsX8_tells (wsV RX8 196 RX8 yX8_look wsX8_look) := goodIn_app (goodIn_of _ (by decide +kernel)) ggX8_tells_X8_look
set_option maxRecDepth 20000 in
theorem ggX8_tells_X8_number : GoodIn wsX8_tells wsX8_number := goodIn_r _ [21, 11, 10, 22, 23, 24, 4, 25, 26, 27, 28, 29, 9, 30, 1, 2, 3, 5, 6, 7, 8, 12, 13, 14, 15, 16, 17, 31, 32, 33, 34, 35, 36, 37, 38, 39, 40, 41, 42, 43, 44, 45, 46, 47, 48, 49, 50, 51, 52, 53, 54, 55, 56, 57, 58, 59, 60, 61, 62, 63, 64, 65, 66, 67] (by decide +kernel) (by decide +kernel)
set_option maxRecDepth 20000 in
theorem gX8_tells_X8_number : GoodIn wsX8_tells (wsV RX8 199 RX8 yX8_number wsX8_number) := goodIn_app (goodIn_of _ (by decide +kernel)) ggX8_tells_X8_number
theorem dX8_tells_0 : decode cX8_tells 0 = .ok (.aload_n 0, 1) := by decide +kernel
theorem dX8_tells_1 : decode cX8_tells 1 = .ok (.invokevirtual 196, 3) := by decide +kernel
theorem dX8_tells_4 : decode cX8_tells 4 = .ok (.aload_n 0, 1) := by decide +kernel
theorem dX8_tells_5 : decode cX8_tells 5 = .ok (.iconst 0, 1) := by decide +kernel
theorem dX8_tells_6 : decode cX8_tells 6 = .ok (.iload_n 1, 1) := by decide +kernel
theorem dX8_tells_7 : decode cX8_tells 7 = .ok (.iload_n 2, 1) := by decide +kernel
theorem dX8_tells_8 : decode cX8_tells 8 = .ok (.invokevirtual 199, 3) := by decide +kernel
theorem dX8_tells_11 : decode cX8_tells 11 = .ok (.ireturn, 1) := by decide +kernel
set_option maxRecDepth 20000 in
theorem ggX8_tellsTwo_X8_tells : GoodIn wsX8_tellsTwo wsX8_tells := goodIn_r _ [9, 10, 11, 12, 8, 13, 14, 15, 16, 17, 3, 2, 18, 19, 20, 21, 22, 23, 24, 25, 26, 27, 4, 28, 29, 30, 31, 32, 33, 34, 35, 36, 37, 38, 39, 40, 41, 42, 43, 44, 45, 46, 47, 48, 49, 50, 51, 52, 53, 54, 55, 56, 57, 58, 59, 60, 61, 62, 63, 64, 65, 66, 67, 68, 69, 70, 71, 72] (by decide +kernel) (by decide +kernel)
set_option maxRecDepth 20000 in
theorem gX8_tellsTwo_X8_tells : GoodIn wsX8_tellsTwo (wsV RX8 203 RX8 yX8_tells wsX8_tells) := goodIn_app (goodIn_of _ (by decide +kernel)) ggX8_tellsTwo_X8_tells
set_option maxRecDepth 20000 in
theorem ggX8_tellsTwo_X8_wrong : GoodIn wsX8_tellsTwo wsX8_wrong := goodIn_r _ [34, 17, 35, 36, 37, 38, 39, 40, 41, 42, 43, 44, 45, 46, 47, 48, 49, 50, 51, 52, 53, 54, 55, 56, 57, 58, 59, 60, 61, 62, 63, 64, 65, 66, 67, 68, 69, 70, 71, 72] (by decide +kernel) (by decide +kernel)
set_option maxRecDepth 20000 in
theorem gX8_tellsTwo_X8_wrong : GoodIn wsX8_tellsTwo (wsV RX8 192 RX8 yX8_wrong wsX8_wrong) := goodIn_app (goodIn_of _ (by decide +kernel)) ggX8_tellsTwo_X8_wrong
set_option maxRecDepth 20000 in
theorem ggX8_tellsTwo_X8_number : GoodIn wsX8_tellsTwo wsX8_number := goodIn_r _ [27, 2, 3, 4, 28, 29, 8, 30, 31, 32, 33, 34, 17, 35, 10, 11, 12, 13, 14, 15, 16, 18, 19, 20, 21, 22, 23, 36, 37, 38, 39, 40, 41, 42, 43, 44, 45, 46, 47, 48, 49, 50, 51, 52, 53, 54, 55, 56, 57, 58, 59, 60, 61, 62, 63, 64, 65, 66, 67, 68, 69, 70, 71, 72] (by decide +kernel) (by decide +kernel)
set_option maxRecDepth 20000 in
theorem gX8_tellsTwo_X8_number : GoodIn wsX8_tellsTwo (wsV RX8 199 RX8 yX8_number wsX8_number) := goodIn_app (goodIn_of _ (by decide +kernel)) ggX8_tellsTwo_X8_number
theorem dX8_tellsTwo_0 : decode cX8_tellsTwo 0 = .ok (.aload_n 0, 1) := by decide +kernel
theorem dX8_tellsTwo_1 : decode cX8_tellsTwo 1 = .ok (.iconst 0, 1) := by decide +kernel
theorem dX8_tellsTwo_2 : decode cX8_tellsTwo 2 = .ok (.aload_n 0, 1) := by decide +kernel
theorem dX8_tellsTwo_3 : decode cX8_tellsTwo 3 = .ok (.getfield 37, 3) := by decide +kernel
theorem dX8_tellsTwo_6 : decode cX8_tellsTwo 6 = .ok (.iconst 1, 1) := by decide +kernel
theorem dX8_tellsTwo_7 : decode cX8_tellsTwo 7 = .ok (.isub, 1) := by decide +kernel
theorem dX8_tellsTwo_8 : decode cX8_tellsTwo 8 = .ok (.invokevirtual 203, 3) := by decide +kernel
theorem dX8_tellsTwo_11 : decode cX8_tellsTwo 11 = .ok (.ifCond .ne 5, 3) := by decide +kernel
theorem dX8_tellsTwo_14 : decode cX8_tellsTwo 14 = .ok (.iconst 0, 1) := by decide +kernel
theorem dX8_tellsTwo_15 : decode cX8_tellsTwo 15 = .ok (.ireturn, 1) := by decide +kernel
theorem dX8_tellsTwo_16 : decode cX8_tellsTwo 16 = .ok (.aload_n 0, 1) := by decide +kernel
theorem dX8_tellsTwo_17 : decode cX8_tellsTwo 17 = .ok (.getfield 170, 3) := by decide +kernel
theorem dX8_tellsTwo_20 : decode cX8_tellsTwo 20 = .ok (.iconst 2, 1) := by decide +kernel
theorem dX8_tellsTwo_21 : decode cX8_tellsTwo 21 = .ok (.if_icmp .ne 21, 3) := by decide +kernel
theorem dX8_tellsTwo_24 : decode cX8_tellsTwo 24 = .ok (.aload_n 0, 1) := by decide +kernel
theorem dX8_tellsTwo_25 : decode cX8_tellsTwo 25 = .ok (.getfield 167, 3) := by decide +kernel
theorem dX8_tellsTwo_28 : decode cX8_tellsTwo 28 = .ok (.aload_n 0, 1) := by decide +kernel
theorem dX8_tellsTwo_29 : decode cX8_tellsTwo 29 = .ok (.getfield 65, 3) := by decide +kernel
theorem dX8_tellsTwo_32 : decode cX8_tellsTwo 32 = .ok (.iconst 0, 1) := by decide +kernel
theorem dX8_tellsTwo_33 : decode cX8_tellsTwo 33 = .ok (.iaload, 1) := by decide +kernel
theorem dX8_tellsTwo_34 : decode cX8_tellsTwo 34 = .ok (.if_icmp .ne 8, 3) := by decide +kernel
theorem dX8_tellsTwo_37 : decode cX8_tellsTwo 37 = .ok (.aload_n 0, 1) := by decide +kernel
theorem dX8_tellsTwo_38 : decode cX8_tellsTwo 38 = .ok (.invokevirtual 192, 3) := by decide +kernel
theorem dX8_tellsTwo_41 : decode cX8_tellsTwo 41 = .ok (.ireturn, 1) := by decide +kernel
theorem dX8_tellsTwo_42 : decode cX8_tellsTwo 42 = .ok (.aload_n 0, 1) := by decide +kernel
theorem dX8_tellsTwo_43 : decode cX8_tellsTwo 43 = .ok (.iconst 1, 1) := by decide +kernel
theorem dX8_tellsTwo_44 : decode cX8_tellsTwo 44 = .ok (.iconst 0, 1) := by decide +kernel
theorem dX8_tellsTwo_45 : decode cX8_tellsTwo 45 = .ok (.aload_n 0, 1) := by decide +kernel
theorem dX8_tellsTwo_46 : decode cX8_tellsTwo 46 = .ok (.getfield 37, 3) := by decide +kernel
theorem dX8_tellsTwo_49 : decode cX8_tellsTwo 49 = .ok (.iconst 1, 1) := by decide +kernel
theorem dX8_tellsTwo_50 : decode cX8_tellsTwo 50 = .ok (.isub, 1) := by decide +kernel
theorem dX8_tellsTwo_51 : decode cX8_tellsTwo 51 = .ok (.invokevirtual 199, 3) := by decide +kernel
theorem dX8_tellsTwo_54 : decode cX8_tellsTwo 54 = .ok (.ireturn, 1) := by decide +kernel
set_option maxRecDepth 20000 in
theorem ggX8_tellsPerson_X8_tells : GoodIn wsX8_tellsPerson wsX8_tells := goodIn_r _ [7, 8, 9, 10, 6, 11, 12, 13, 14, 15, 16, 17, 18, 19, 20, 21, 22, 23, 24, 25, 26, 27, 2, 28, 29, 30, 31, 32, 33, 34, 35, 46, 47, 48, 49, 50, 51, 52, 53, 54, 55, 56, 57, 58, 59, 60, 61, 62, 63, 64, 65, 66, 67, 68, 69, 70, 71, 72, 73, 74, 75, 76, 77, 78, 79, 80, 81, 82] (by decide +kernel) (by decide +kernel)
set_option maxRecDepth 20000 in
theorem gX8_tellsPerson_X8_tells : GoodIn wsX8_tellsPerson (wsV RX8 203 RX8 yX8_tells wsX8_tells) := goodIn_app (goodIn_of _ (by decide +kernel)) ggX8_tellsPerson_X8_tells
set_option maxRecDepth 20000 in
theorem ggX8_tellsPerson_X8_number : GoodIn wsX8_tellsPerson wsX8_number := goodIn_r _ [27, 17, 16, 2, 28, 29, 6, 30, 31, 32, 33, 34, 15, 35, 8, 9, 10, 11, 12, 13, 14, 18, 19, 20, 21, 22, 23, 46, 47, 48, 49, 50, 51, 52, 53, 54, 55, 56, 57, 58, 59, 60, 61, 62, 63, 64, 65, 66, 67, 68, 69, 70, 71, 72, 73, 74, 75, 76, 77, 78, 79, 80, 81, 82] (by decide +kernel) (by decide +kernel)
set_option maxRecDepth 20000 in
theorem gX8_tellsPerson_X8_number : GoodIn wsX8_tellsPerson (wsV RX8 199 RX8 yX8_number wsX8_number) := goodIn_app (goodIn_of _ (by decide +kernel)) ggX8_tellsPerson_X8_number
set_option maxRecDepth 20000 in
theorem ggX8_tellsPerson_X8_addPerson : GoodIn wsX8_tellsPerson wsX8_addPerson := goodIn_r _ [39, 40, 41, 42, 43, 44, 45, 46, 47, 48, 49, 50, 51, 52, 53, 54, 55, 56, 57, 58, 59, 60, 61, 62, 63, 64, 65, 66, 67, 68, 69, 70, 71, 72, 73, 74, 75, 76, 77, 78, 79, 80, 81, 82] (by decide +kernel) (by decide +kernel)
set_option maxRecDepth 20000 in
theorem gX8_tellsPerson_X8_addPerson : GoodIn wsX8_tellsPerson (wsV RX8 145 RX8 yX8_addPerson wsX8_addPerson) := goodIn_app (goodIn_of _ (by decide +kernel)) ggX8_tellsPerson_X8_addPerson
theorem dX8_tellsPerson_0 : decode cX8_tellsPerson 0 = .ok (.aload_n 0, 1) := by decide +kernel
theorem dX8_tellsPerson_1 : decode cX8_tellsPerson 1 = .ok (.iconst 0, 1) := by decide +kernel
theorem dX8_tellsPerson_2 : decode cX8_tellsPerson 2 = .ok (.iconst 5, 1) := by decide +kernel
theorem dX8_tellsPerson_3 : decode cX8_tellsPerson 3 = .ok (.invokevirtual 203, 3) := by decide +kernel
theorem dX8_tellsPerson_6 : decode cX8_tellsPerson 6 = .ok (.ifCond .eq 48, 3) := by decide +kernel
theorem dX8_tellsPerson_9 : decode cX8_tellsPerson 9 = .ok (.aload_n 0, 1) := by decide +kernel
theorem dX8_tellsPerson_10 : decode cX8_tellsPerson 10 = .ok (.iconst 1, 1) := by decide +kernel
theorem dX8_tellsPerson_11 : decode cX8_tellsPerson 11 = .ok (.iconst 0, 1) := by decide +kernel
theorem dX8_tellsPerson_12 : decode cX8_tellsPerson 12 = .ok (.bipush 9, 2) := by decide +kernel
theorem dX8_tellsPerson_14 : decode cX8_tellsPerson 14 = .ok (.invokevirtual 199, 3) := by decide +kernel
theorem dX8_tellsPerson_17 : decode cX8_tellsPerson 17 = .ok (.ifCond .eq 37, 3) := by decide +kernel
theorem dX8_tellsPerson_20 : decode cX8_tellsPerson 20 = .ok (.aload_n 0, 1) := by decide +kernel
theorem dX8_tellsPerson_21 : decode cX8_tellsPerson 21 = .ok (.iconst 2, 1) := by decide +kernel
theorem dX8_tellsPerson_22 : decode cX8_tellsPerson 22 = .ok (.iconst 0, 1) := by decide +kernel
theorem dX8_tellsPerson_23 : decode cX8_tellsPerson 23 = .ok (.aload_n 0, 1) := by decide +kernel
theorem dX8_tellsPerson_24 : decode cX8_tellsPerson 24 = .ok (.getfield 37, 3) := by decide +kernel
theorem dX8_tellsPerson_27 : decode cX8_tellsPerson 27 = .ok (.iconst 1, 1) := by decide +kernel
theorem dX8_tellsPerson_28 : decode cX8_tellsPerson 28 = .ok (.isub, 1) := by decide +kernel
theorem dX8_tellsPerson_29 : decode cX8_tellsPerson 29 = .ok (.invokevirtual 199, 3) := by decide +kernel
theorem dX8_tellsPerson_32 : decode cX8_tellsPerson 32 = .ok (.ifCond .eq 22, 3) := by decide +kernel
theorem dX8_tellsPerson_35 : decode cX8_tellsPerson 35 = .ok (.aload_n 0, 1) := by decide +kernel
theorem dX8_tellsPerson_36 : decode cX8_tellsPerson 36 = .ok (.iconst 3, 1) := by decide +kernel
theorem dX8_tellsPerson_37 : decode cX8_tellsPerson 37 = .ok (.iconst 0, 1) := by decide +kernel
theorem dX8_tellsPerson_38 : decode cX8_tellsPerson 38 = .ok (.aload_n 0, 1) := by decide +kernel
theorem dX8_tellsPerson_39 : decode cX8_tellsPerson 39 = .ok (.getfield 37, 3) := by decide +kernel
theorem dX8_tellsPerson_42 : decode cX8_tellsPerson 42 = .ok (.iconst 1, 1) := by decide +kernel
theorem dX8_tellsPerson_43 : decode cX8_tellsPerson 43 = .ok (.isub, 1) := by decide +kernel
theorem dX8_tellsPerson_44 : decode cX8_tellsPerson 44 = .ok (.invokevirtual 199, 3) := by decide +kernel
theorem dX8_tellsPerson_47 : decode cX8_tellsPerson 47 = .ok (.ifCond .eq 7, 3) := by decide +kernel
theorem dX8_tellsPerson_50 : decode cX8_tellsPerson 50 = .ok (.iconst 1, 1) := by decide +kernel
theorem dX8_tellsPerson_51 : decode cX8_tellsPerson 51 = .ok (.goto 4, 3) := by decide +kernel
theorem dX8_tellsPerson_54 : decode cX8_tellsPerson 54 = .ok (.iconst 0, 1) := by decide +kernel
theorem dX8_tellsPerson_55 : decode cX8_tellsPerson 55 = .ok (.istore_n 1, 1) := by decide +kernel
theorem dX8_tellsPerson_56 : decode cX8_tellsPerson 56 = .ok (.iload_n 1, 1) := by decide +kernel
theorem dX8_tellsPerson_57 : decode cX8_tellsPerson 57 = .ok (.ifCond .eq 31, 3) := by decide +kernel
theorem dX8_tellsPerson_60 : decode cX8_tellsPerson 60 = .ok (.aload_n 0, 1) := by decide +kernel
theorem dX8_tellsPerson_61 : decode cX8_tellsPerson 61 = .ok (.aload_n 0, 1) := by decide +kernel
theorem dX8_tellsPerson_62 : decode cX8_tellsPerson 62 = .ok (.getfield 65, 3) := by decide +kernel
theorem dX8_tellsPerson_65 : decode cX8_tellsPerson 65 = .ok (.iconst 0, 1) := by decide +kernel
theorem dX8_tellsPerson_66 : decode cX8_tellsPerson 66 = .ok (.iaload, 1) := by decide +kernel
theorem dX8_tellsPerson_67 : decode cX8_tellsPerson 67 = .ok (.aload_n 0, 1) := by decide +kernel
theorem dX8_tellsPerson_68 : decode cX8_tellsPerson 68 = .ok (.getfield 65, 3) := by decide +kernel
theorem dX8_tellsPerson_71 : decode cX8_tellsPerson 71 = .ok (.iconst 1, 1) := by decide +kernel
theorem dX8_tellsPerson_72 : decode cX8_tellsPerson 72 = .ok (.iaload, 1) := by decide +kernel
theorem dX8_tellsPerson_73 : decode cX8_tellsPerson 73 = .ok (.aload_n 0, 1) := by decide +kernel
theorem dX8_tellsPerson_74 : decode cX8_tellsPerson 74 = .ok (.getfield 65, 3) := by decide +kernel
theorem dX8_tellsPerson_77 : decode cX8_tellsPerson 77 = .ok (.iconst 2, 1) := by decide +kernel
theorem dX8_tellsPerson_78 : decode cX8_tellsPerson 78 = .ok (.iaload, 1) := by decide +kernel
theorem dX8_tellsPerson_79 : decode cX8_tellsPerson 79 = .ok (.aload_n 0, 1) := by decide +kernel
theorem dX8_tellsPerson_80 : decode cX8_tellsPerson 80 = .ok (.getfield 65, 3) := by decide +kernel
theorem dX8_tellsPerson_83 : decode cX8_tellsPerson 83 = .ok (.iconst 3, 1) := by decide +kernel
theorem dX8_tellsPerson_84 : decode cX8_tellsPerson 84 = .ok (.iaload, 1) := by decide +kernel
theorem dX8_tellsPerson_85 : decode cX8_tellsPerson 85 = .ok (.invokevirtual 145, 3) := by decide +kernel
theorem dX8_tellsPerson_88 : decode cX8_tellsPerson 88 = .ok (.iload_n 1, 1) := by decide +kernel
theorem dX8_tellsPerson_89 : decode cX8_tellsPerson 89 = .ok (.ireturn, 1) := by decide +kernel
set_option maxRecDepth 20000 in
theorem ggX8_statement_X8_isWord : GoodIn wsX8_statement wsX8_isWord := goodIn_r _ [11, 12, 13, 14, 15, 16, 17, 18, 19, 20, 21, 22, 23, 24, 25, 26, 27, 28, 29, 30, 31, 32, 33, 34, 35, 36, 37, 38, 39, 40, 41, 42, 43, 44, 45, 46, 47, 48, 49, 50, 51, 52, 53, 54, 55, 56, 57, 58, 59, 60, 61, 62, 63, 64, 114, 115, 116, 117, 118, 119, 120, 121, 122, 123, 124, 125, 126, 127, 128, 129, 130, 131, 132, 133, 134, 135, 136, 137, 138, 139, 140, 141, 142, 143, 144, 145, 146, 147, 148, 149, 150] (by decide +kernel) (by decide +kernel)
set_option maxRecDepth 20000 in
theorem gX8_statement_X8_isWord : GoodIn wsX8_statement (wsV RX8 207 RX8 yX8_isWord wsX8_isWord) := goodIn_app (goodIn_of _ (by decide +kernel)) ggX8_statement_X8_isWord
set_option maxRecDepth 20000 in
theorem ggX8_statement_X8_tells : GoodIn wsX8_statement wsX8_tells := goodIn_r _ [68, 69, 70, 71, 10, 72, 13, 73, 15, 14, 74, 12, 75, 76, 77, 78, 79, 80, 81, 82, 83, 84, 2, 85, 86, 87, 88, 89, 90, 91, 92, 114, 115, 116, 117, 118, 119, 120, 121, 122, 123, 124, 125, 126, 127, 128, 129, 130, 131, 132, 133, 134, 135, 136, 137, 138, 139, 140, 141, 142, 143, 144, 145, 146, 147, 148, 149, 150] (by decide +kernel) (by decide +kernel)
set_option maxRecDepth 20000 in
theorem gX8_statement_X8_tells : GoodIn wsX8_statement (wsV RX8 203 RX8 yX8_tells wsX8_tells) := goodIn_app (goodIn_of _ (by decide +kernel)) ggX8_statement_X8_tells
set_option maxRecDepth 20000 in
theorem ggX8_statement_X8_tellsTwo : GoodIn wsX8_statement wsX8_tellsTwo := goodIn_r _ [96, 1, 12, 74, 2, 65, 66, 67, 10, 68, 69, 70, 71, 72, 13, 73, 15, 14, 75, 76, 77, 78, 79, 80, 81, 82, 83, 84, 85, 86, 87, 88, 89, 90, 91, 92, 114, 115, 116, 117, 118, 119, 120, 121, 122, 123, 124, 125, 126, 127, 128, 129, 130, 131, 132, 133, 134, 135, 136, 137, 138, 139, 140, 141, 142, 143, 144, 145, 146, 147, 148, 149, 150] (by decide +kernel) (by decide +kernel)
set_option maxRecDepth 20000 in
theorem gX8_statement_X8_tellsTwo : GoodIn wsX8_statement (wsV RX8 215 RX8 yX8_tellsTwo wsX8_tellsTwo) := goodIn_app (goodIn_of _ (by decide +kernel)) ggX8_statement_X8_tellsTwo
set_option maxRecDepth 20000 in
theorem ggX8_statement_X8_setWay : GoodIn wsX8_statement wsX8_setWay := goodIn_r _ [100, 101, 114, 115, 116, 117, 118, 119, 120, 121, 122, 123, 124, 125, 126, 127, 128, 129, 130, 131, 132, 133, 134, 135, 136, 137, 138, 139, 140, 141, 142, 143, 144, 145, 146, 147, 148, 149, 150] (by decide +kernel) (by decide +kernel)
set_option maxRecDepth 20000 in
theorem gX8_statement_X8_setWay : GoodIn wsX8_statement (wsV RX8 139 RX8 yX8_setWay wsX8_setWay) := goodIn_app (goodIn_of _ (by decide +kernel)) ggX8_statement_X8_setWay
set_option maxRecDepth 20000 in
theorem ggX8_statement_X8_tellsPerson : GoodIn wsX8_statement wsX8_tellsPerson := goodIn_r _ [105, 1, 2, 65, 66, 67, 10, 68, 69, 70, 71, 72, 13, 73, 15, 14, 74, 12, 75, 76, 77, 78, 79, 80, 81, 82, 83, 84, 85, 86, 87, 88, 89, 90, 91, 92, 106, 107, 108, 109, 110, 3, 111, 112, 113, 4, 114, 115, 116, 117, 118, 119, 120, 121, 122, 123, 124, 125, 126, 127, 128, 129, 130, 131, 132, 133, 134, 135, 136, 137, 138, 139, 140, 141, 142, 143, 144, 145, 146, 147, 148, 149, 150] (by decide +kernel) (by decide +kernel)
set_option maxRecDepth 20000 in
theorem gX8_statement_X8_tellsPerson : GoodIn wsX8_statement (wsV RX8 220 RX8 yX8_tellsPerson wsX8_tellsPerson) := goodIn_app (goodIn_of _ (by decide +kernel)) ggX8_statement_X8_tellsPerson
set_option maxRecDepth 20000 in
theorem ggX8_statement_X8_number : GoodIn wsX8_statement wsX8_number := goodIn_r _ [84, 12, 74, 2, 85, 86, 10, 87, 88, 89, 90, 91, 14, 92, 69, 70, 71, 72, 13, 73, 15, 75, 76, 77, 78, 79, 80, 114, 115, 116, 117, 118, 119, 120, 121, 122, 123, 124, 125, 126, 127, 128, 129, 130, 131, 132, 133, 134, 135, 136, 137, 138, 139, 140, 141, 142, 143, 144, 145, 146, 147, 148, 149, 150] (by decide +kernel) (by decide +kernel)
set_option maxRecDepth 20000 in
theorem gX8_statement_X8_number : GoodIn wsX8_statement (wsV RX8 199 RX8 yX8_number wsX8_number) := goodIn_app (goodIn_of _ (by decide +kernel)) ggX8_statement_X8_number
set_option maxRecDepth 20000 in
theorem ggX8_statement_X8_wrong : GoodIn wsX8_statement wsX8_wrong := goodIn_r _ [91, 14, 92, 114, 115, 116, 117, 118, 119, 120, 121, 122, 123, 124, 125, 126, 127, 128, 129, 130, 131, 132, 133, 134, 135, 136, 137, 138, 139, 140, 141, 142, 143, 144, 145, 146, 147, 148, 149, 150] (by decide +kernel) (by decide +kernel)
set_option maxRecDepth 20000 in
theorem gX8_statement_X8_wrong : GoodIn wsX8_statement (wsV RX8 192 RX8 yX8_wrong wsX8_wrong) := goodIn_app (goodIn_of _ (by decide +kernel)) ggX8_statement_X8_wrong
theorem dX8_statement_0 : decode cX8_statement 0 = .ok (.aload_n 0, 1) := by decide +kernel
theorem dX8_statement_1 : decode cX8_statement 1 = .ok (.ldc 206, 2) := by decide +kernel
theorem dX8_statement_3 : decode cX8_statement 3 = .ok (.invokevirtual 207, 3) := by decide +kernel
theorem dX8_statement_6 : decode cX8_statement 6 = .ok (.ifCond .eq 37, 3) := by decide +kernel
theorem dX8_statement_9 : decode cX8_statement 9 = .ok (.aload_n 0, 1) := by decide +kernel
theorem dX8_statement_10 : decode cX8_statement 10 = .ok (.aload_n 0, 1) := by decide +kernel
theorem dX8_statement_11 : decode cX8_statement 11 = .ok (.getfield 37, 3) := by decide +kernel
theorem dX8_statement_14 : decode cX8_statement 14 = .ok (.bipush 12, 2) := by decide +kernel
theorem dX8_statement_16 : decode cX8_statement 16 = .ok (.invokevirtual 203, 3) := by decide +kernel
theorem dX8_statement_19 : decode cX8_statement 19 = .ok (.istore_n 1, 1) := by decide +kernel
theorem dX8_statement_20 : decode cX8_statement 20 = .ok (.aload_n 0, 1) := by decide +kernel
theorem dX8_statement_21 : decode cX8_statement 21 = .ok (.iload_n 1, 1) := by decide +kernel
theorem dX8_statement_22 : decode cX8_statement 22 = .ok (.ifCond .eq 12, 3) := by decide +kernel
theorem dX8_statement_25 : decode cX8_statement 25 = .ok (.aload_n 0, 1) := by decide +kernel
theorem dX8_statement_26 : decode cX8_statement 26 = .ok (.getfield 65, 3) := by decide +kernel
theorem dX8_statement_29 : decode cX8_statement 29 = .ok (.iconst 0, 1) := by decide +kernel
theorem dX8_statement_30 : decode cX8_statement 30 = .ok (.iaload, 1) := by decide +kernel
theorem dX8_statement_31 : decode cX8_statement 31 = .ok (.goto 7, 3) := by decide +kernel
theorem dX8_statement_34 : decode cX8_statement 34 = .ok (.aload_n 0, 1) := by decide +kernel
theorem dX8_statement_35 : decode cX8_statement 35 = .ok (.getfield 37, 3) := by decide +kernel
theorem dX8_statement_38 : decode cX8_statement 38 = .ok (.putfield 37, 3) := by decide +kernel
theorem dX8_statement_41 : decode cX8_statement 41 = .ok (.iload_n 1, 1) := by decide +kernel
theorem dX8_statement_42 : decode cX8_statement 42 = .ok (.ireturn, 1) := by decide +kernel
theorem dX8_statement_43 : decode cX8_statement 43 = .ok (.aload_n 0, 1) := by decide +kernel
theorem dX8_statement_44 : decode cX8_statement 44 = .ok (.ldc 211, 2) := by decide +kernel
theorem dX8_statement_46 : decode cX8_statement 46 = .ok (.invokevirtual 207, 3) := by decide +kernel
theorem dX8_statement_49 : decode cX8_statement 49 = .ok (.istore_n 2, 1) := by decide +kernel
theorem dX8_statement_50 : decode cX8_statement 50 = .ok (.iload_n 2, 1) := by decide +kernel
theorem dX8_statement_51 : decode cX8_statement 51 = .ok (.ifCond .ne 12, 3) := by decide +kernel
theorem dX8_statement_54 : decode cX8_statement 54 = .ok (.aload_n 0, 1) := by decide +kernel
theorem dX8_statement_55 : decode cX8_statement 55 = .ok (.ldc 213, 2) := by decide +kernel
theorem dX8_statement_57 : decode cX8_statement 57 = .ok (.invokevirtual 207, 3) := by decide +kernel
theorem dX8_statement_60 : decode cX8_statement 60 = .ok (.ifCond .eq 31, 3) := by decide +kernel
theorem dX8_statement_63 : decode cX8_statement 63 = .ok (.aload_n 0, 1) := by decide +kernel
theorem dX8_statement_64 : decode cX8_statement 64 = .ok (.invokevirtual 215, 3) := by decide +kernel
theorem dX8_statement_67 : decode cX8_statement 67 = .ok (.istore_n 1, 1) := by decide +kernel
theorem dX8_statement_68 : decode cX8_statement 68 = .ok (.iload_n 1, 1) := by decide +kernel
theorem dX8_statement_69 : decode cX8_statement 69 = .ok (.ifCond .eq 20, 3) := by decide +kernel
theorem dX8_statement_72 : decode cX8_statement 72 = .ok (.aload_n 0, 1) := by decide +kernel
theorem dX8_statement_73 : decode cX8_statement 73 = .ok (.aload_n 0, 1) := by decide +kernel
theorem dX8_statement_74 : decode cX8_statement 74 = .ok (.getfield 65, 3) := by decide +kernel
theorem dX8_statement_77 : decode cX8_statement 77 = .ok (.iconst 0, 1) := by decide +kernel
theorem dX8_statement_78 : decode cX8_statement 78 = .ok (.iaload, 1) := by decide +kernel
theorem dX8_statement_79 : decode cX8_statement 79 = .ok (.aload_n 0, 1) := by decide +kernel
theorem dX8_statement_80 : decode cX8_statement 80 = .ok (.getfield 65, 3) := by decide +kernel
theorem dX8_statement_83 : decode cX8_statement 83 = .ok (.iconst 1, 1) := by decide +kernel
theorem dX8_statement_84 : decode cX8_statement 84 = .ok (.iaload, 1) := by decide +kernel
theorem dX8_statement_85 : decode cX8_statement 85 = .ok (.iload_n 2, 1) := by decide +kernel
theorem dX8_statement_86 : decode cX8_statement 86 = .ok (.invokevirtual 139, 3) := by decide +kernel
theorem dX8_statement_89 : decode cX8_statement 89 = .ok (.iload_n 1, 1) := by decide +kernel
theorem dX8_statement_90 : decode cX8_statement 90 = .ok (.ireturn, 1) := by decide +kernel
theorem dX8_statement_91 : decode cX8_statement 91 = .ok (.aload_n 0, 1) := by decide +kernel
theorem dX8_statement_92 : decode cX8_statement 92 = .ok (.ldc 218, 2) := by decide +kernel
theorem dX8_statement_94 : decode cX8_statement 94 = .ok (.invokevirtual 207, 3) := by decide +kernel
theorem dX8_statement_97 : decode cX8_statement 97 = .ok (.ifCond .eq 17, 3) := by decide +kernel
theorem dX8_statement_100 : decode cX8_statement 100 = .ok (.aload_n 0, 1) := by decide +kernel
theorem dX8_statement_101 : decode cX8_statement 101 = .ok (.getfield 95, 3) := by decide +kernel
theorem dX8_statement_104 : decode cX8_statement 104 = .ok (.bipush 8, 2) := by decide +kernel
theorem dX8_statement_106 : decode cX8_statement 106 = .ok (.if_icmp .ge 8, 3) := by decide +kernel
theorem dX8_statement_109 : decode cX8_statement 109 = .ok (.aload_n 0, 1) := by decide +kernel
theorem dX8_statement_110 : decode cX8_statement 110 = .ok (.invokevirtual 220, 3) := by decide +kernel
theorem dX8_statement_113 : decode cX8_statement 113 = .ok (.ireturn, 1) := by decide +kernel
theorem dX8_statement_114 : decode cX8_statement 114 = .ok (.aload_n 0, 1) := by decide +kernel
theorem dX8_statement_115 : decode cX8_statement 115 = .ok (.ldc 223, 2) := by decide +kernel
theorem dX8_statement_117 : decode cX8_statement 117 = .ok (.invokevirtual 207, 3) := by decide +kernel
theorem dX8_statement_120 : decode cX8_statement 120 = .ok (.ifCond .eq 61, 3) := by decide +kernel
theorem dX8_statement_123 : decode cX8_statement 123 = .ok (.aload_n 0, 1) := by decide +kernel
theorem dX8_statement_124 : decode cX8_statement 124 = .ok (.iconst 0, 1) := by decide +kernel
theorem dX8_statement_125 : decode cX8_statement 125 = .ok (.aload_n 0, 1) := by decide +kernel
theorem dX8_statement_126 : decode cX8_statement 126 = .ok (.getfield 95, 3) := by decide +kernel
theorem dX8_statement_129 : decode cX8_statement 129 = .ok (.iconst 1, 1) := by decide +kernel
theorem dX8_statement_130 : decode cX8_statement 130 = .ok (.isub, 1) := by decide +kernel
theorem dX8_statement_131 : decode cX8_statement 131 = .ok (.invokevirtual 203, 3) := by decide +kernel
theorem dX8_statement_134 : decode cX8_statement 134 = .ok (.ifCond .eq 22, 3) := by decide +kernel
theorem dX8_statement_137 : decode cX8_statement 137 = .ok (.aload_n 0, 1) := by decide +kernel
theorem dX8_statement_138 : decode cX8_statement 138 = .ok (.iconst 1, 1) := by decide +kernel
theorem dX8_statement_139 : decode cX8_statement 139 = .ok (.iconst 0, 1) := by decide +kernel
theorem dX8_statement_140 : decode cX8_statement 140 = .ok (.aload_n 0, 1) := by decide +kernel
theorem dX8_statement_141 : decode cX8_statement 141 = .ok (.getfield 37, 3) := by decide +kernel
theorem dX8_statement_144 : decode cX8_statement 144 = .ok (.iconst 1, 1) := by decide +kernel
theorem dX8_statement_145 : decode cX8_statement 145 = .ok (.isub, 1) := by decide +kernel
theorem dX8_statement_146 : decode cX8_statement 146 = .ok (.invokevirtual 199, 3) := by decide +kernel
theorem dX8_statement_149 : decode cX8_statement 149 = .ok (.ifCond .eq 7, 3) := by decide +kernel
theorem dX8_statement_152 : decode cX8_statement 152 = .ok (.iconst 1, 1) := by decide +kernel
theorem dX8_statement_153 : decode cX8_statement 153 = .ok (.goto 4, 3) := by decide +kernel
theorem dX8_statement_156 : decode cX8_statement 156 = .ok (.iconst 0, 1) := by decide +kernel
theorem dX8_statement_157 : decode cX8_statement 157 = .ok (.istore_n 1, 1) := by decide +kernel
theorem dX8_statement_158 : decode cX8_statement 158 = .ok (.iload_n 1, 1) := by decide +kernel
theorem dX8_statement_159 : decode cX8_statement 159 = .ok (.ifCond .eq 20, 3) := by decide +kernel
theorem dX8_statement_162 : decode cX8_statement 162 = .ok (.aload_n 0, 1) := by decide +kernel
theorem dX8_statement_163 : decode cX8_statement 163 = .ok (.getfield 56, 3) := by decide +kernel
theorem dX8_statement_166 : decode cX8_statement 166 = .ok (.aload_n 0, 1) := by decide +kernel
theorem dX8_statement_167 : decode cX8_statement 167 = .ok (.getfield 65, 3) := by decide +kernel
theorem dX8_statement_170 : decode cX8_statement 170 = .ok (.iconst 0, 1) := by decide +kernel
theorem dX8_statement_171 : decode cX8_statement 171 = .ok (.iaload, 1) := by decide +kernel
theorem dX8_statement_172 : decode cX8_statement 172 = .ok (.aload_n 0, 1) := by decide +kernel
theorem dX8_statement_173 : decode cX8_statement 173 = .ok (.getfield 65, 3) := by decide +kernel
theorem dX8_statement_176 : decode cX8_statement 176 = .ok (.iconst 1, 1) := by decide +kernel
theorem dX8_statement_177 : decode cX8_statement 177 = .ok (.iaload, 1) := by decide +kernel
theorem dX8_statement_178 : decode cX8_statement 178 = .ok (.iastore, 1) := by decide +kernel
theorem dX8_statement_179 : decode cX8_statement 179 = .ok (.iload_n 1, 1) := by decide +kernel
theorem dX8_statement_180 : decode cX8_statement 180 = .ok (.ireturn, 1) := by decide +kernel
theorem dX8_statement_181 : decode cX8_statement 181 = .ok (.aload_n 0, 1) := by decide +kernel
theorem dX8_statement_182 : decode cX8_statement 182 = .ok (.ldc 224, 2) := by decide +kernel
theorem dX8_statement_184 : decode cX8_statement 184 = .ok (.invokevirtual 207, 3) := by decide +kernel
theorem dX8_statement_187 : decode cX8_statement 187 = .ok (.ifCond .eq 35, 3) := by decide +kernel
theorem dX8_statement_190 : decode cX8_statement 190 = .ok (.aload_n 0, 1) := by decide +kernel
theorem dX8_statement_191 : decode cX8_statement 191 = .ok (.iconst 0, 1) := by decide +kernel
theorem dX8_statement_192 : decode cX8_statement 192 = .ok (.sipush 999, 3) := by decide +kernel
theorem dX8_statement_195 : decode cX8_statement 195 = .ok (.invokevirtual 203, 3) := by decide +kernel
theorem dX8_statement_198 : decode cX8_statement 198 = .ok (.istore_n 1, 1) := by decide +kernel
theorem dX8_statement_199 : decode cX8_statement 199 = .ok (.aload_n 0, 1) := by decide +kernel
theorem dX8_statement_200 : decode cX8_statement 200 = .ok (.iload_n 1, 1) := by decide +kernel
theorem dX8_statement_201 : decode cX8_statement 201 = .ok (.ifCond .eq 12, 3) := by decide +kernel
theorem dX8_statement_204 : decode cX8_statement 204 = .ok (.aload_n 0, 1) := by decide +kernel
theorem dX8_statement_205 : decode cX8_statement 205 = .ok (.getfield 65, 3) := by decide +kernel
theorem dX8_statement_208 : decode cX8_statement 208 = .ok (.iconst 0, 1) := by decide +kernel
theorem dX8_statement_209 : decode cX8_statement 209 = .ok (.iaload, 1) := by decide +kernel
theorem dX8_statement_210 : decode cX8_statement 210 = .ok (.goto 7, 3) := by decide +kernel
theorem dX8_statement_213 : decode cX8_statement 213 = .ok (.aload_n 0, 1) := by decide +kernel
theorem dX8_statement_214 : decode cX8_statement 214 = .ok (.getfield 153, 3) := by decide +kernel
theorem dX8_statement_217 : decode cX8_statement 217 = .ok (.putfield 153, 3) := by decide +kernel
theorem dX8_statement_220 : decode cX8_statement 220 = .ok (.iload_n 1, 1) := by decide +kernel
theorem dX8_statement_221 : decode cX8_statement 221 = .ok (.ireturn, 1) := by decide +kernel
theorem dX8_statement_222 : decode cX8_statement 222 = .ok (.aload_n 0, 1) := by decide +kernel
theorem dX8_statement_223 : decode cX8_statement 223 = .ok (.ldc 225, 2) := by decide +kernel
theorem dX8_statement_225 : decode cX8_statement 225 = .ok (.invokevirtual 207, 3) := by decide +kernel
theorem dX8_statement_228 : decode cX8_statement 228 = .ok (.ifCond .eq 34, 3) := by decide +kernel
theorem dX8_statement_231 : decode cX8_statement 231 = .ok (.aload_n 0, 1) := by decide +kernel
theorem dX8_statement_232 : decode cX8_statement 232 = .ok (.iconst 0, 1) := by decide +kernel
theorem dX8_statement_233 : decode cX8_statement 233 = .ok (.bipush 12, 2) := by decide +kernel
theorem dX8_statement_235 : decode cX8_statement 235 = .ok (.invokevirtual 203, 3) := by decide +kernel
theorem dX8_statement_238 : decode cX8_statement 238 = .ok (.istore_n 1, 1) := by decide +kernel
theorem dX8_statement_239 : decode cX8_statement 239 = .ok (.aload_n 0, 1) := by decide +kernel
theorem dX8_statement_240 : decode cX8_statement 240 = .ok (.iload_n 1, 1) := by decide +kernel
theorem dX8_statement_241 : decode cX8_statement 241 = .ok (.ifCond .eq 12, 3) := by decide +kernel
theorem dX8_statement_244 : decode cX8_statement 244 = .ok (.aload_n 0, 1) := by decide +kernel
theorem dX8_statement_245 : decode cX8_statement 245 = .ok (.getfield 65, 3) := by decide +kernel
theorem dX8_statement_248 : decode cX8_statement 248 = .ok (.iconst 0, 1) := by decide +kernel
theorem dX8_statement_249 : decode cX8_statement 249 = .ok (.iaload, 1) := by decide +kernel
theorem dX8_statement_250 : decode cX8_statement 250 = .ok (.goto 7, 3) := by decide +kernel
theorem dX8_statement_253 : decode cX8_statement 253 = .ok (.aload_n 0, 1) := by decide +kernel
theorem dX8_statement_254 : decode cX8_statement 254 = .ok (.getfield 59, 3) := by decide +kernel
theorem dX8_statement_257 : decode cX8_statement 257 = .ok (.putfield 59, 3) := by decide +kernel
theorem dX8_statement_260 : decode cX8_statement 260 = .ok (.iload_n 1, 1) := by decide +kernel
theorem dX8_statement_261 : decode cX8_statement 261 = .ok (.ireturn, 1) := by decide +kernel
theorem dX8_statement_262 : decode cX8_statement 262 = .ok (.aload_n 0, 1) := by decide +kernel
theorem dX8_statement_263 : decode cX8_statement 263 = .ok (.invokevirtual 192, 3) := by decide +kernel
theorem dX8_statement_266 : decode cX8_statement 266 = .ok (.ireturn, 1) := by decide +kernel
set_option maxRecDepth 20000 in
theorem ggX8_readAll_X8_look : GoodIn wsX8_readAll wsX8_look := goodIn_r _ [8, 2, 9, 10, 11, 12, 3, 13, 14, 7, 15, 16, 17, 18, 119, 120, 121, 122, 123, 124, 125, 126, 127, 128, 129, 130, 131, 132, 133, 134, 135, 136, 137, 138, 139, 140, 141, 142, 143, 144, 145, 146, 147, 148, 149, 150, 151, 152, 153, 154, 155] (by decide +kernel) (by decide +kernel)
set_option maxRecDepth 20000 in
theorem gX8_readAll_X8_look : GoodIn wsX8_readAll (wsV RX8 196 RX8 yX8_look wsX8_look) := goodIn_app (goodIn_of _ (by decide +kernel)) ggX8_readAll_X8_look
set_option maxRecDepth 20000 in
theorem ggX8_readAll_X8_statement : GoodIn wsX8_readAll wsX8_statement := goodIn_r _ [22, 23, 24, 25, 26, 27, 28, 29, 30, 31, 7, 32, 3, 2, 11, 10, 33, 34, 35, 36, 37, 38, 39, 40, 41, 42, 43, 44, 45, 46, 47, 48, 49, 50, 51, 52, 53, 54, 55, 56, 57, 58, 59, 60, 61, 62, 63, 64, 65, 66, 67, 68, 69, 70, 71, 72, 73, 74, 75, 76, 77, 78, 79, 80, 81, 82, 83, 84, 85, 4, 5, 6, 8, 9, 12, 13, 14, 15, 16, 17, 18, 86, 87, 88, 89, 90, 91, 92, 93, 94, 95, 96, 97, 98, 99, 100, 101, 102, 103, 104, 105, 106, 107, 108, 109, 110, 111, 112, 113, 114, 115, 116, 117, 118, 119, 120, 121, 122, 123, 124, 125, 126, 127, 128, 129, 130, 131, 132, 133, 134, 135, 136, 137, 138, 139, 140, 141, 142, 143, 144, 145, 146, 147, 148, 149, 150, 151, 152, 153, 154, 155] (by decide +kernel) (by decide +kernel)
set_option maxRecDepth 20000 in
theorem gX8_readAll_X8_statement : GoodIn wsX8_readAll (wsV RX8 229 RX8 yX8_statement wsX8_statement) := goodIn_app (goodIn_of _ (by decide +kernel)) ggX8_readAll_X8_statement
set_option maxRecDepth 20000 in
theorem ggX8_readAll_X8_wrong : GoodIn wsX8_readAll wsX8_wrong := goodIn_r _ [96, 11, 97, 119, 120, 121, 122, 123, 124, 125, 126, 127, 128, 129, 130, 131, 132, 133, 134, 135, 136, 137, 138, 139, 140, 141, 142, 143, 144, 145, 146, 147, 148, 149, 150, 151, 152, 153, 154, 155] (by decide +kernel) (by decide +kernel)
set_option maxRecDepth 20000 in
theorem gX8_readAll_X8_wrong : GoodIn wsX8_readAll (wsV RX8 192 RX8 yX8_wrong wsX8_wrong) := goodIn_app (goodIn_of _ (by decide +kernel)) ggX8_readAll_X8_wrong
theorem dX8_readAll_0 : decode cX8_readAll 0 = .ok (.aload_n 0, 1) := by decide +kernel
theorem dX8_readAll_1 : decode cX8_readAll 1 = .ok (.iconst 1, 1) := by decide +kernel
theorem dX8_readAll_2 : decode cX8_readAll 2 = .ok (.putfield 226, 3) := by decide +kernel
theorem dX8_readAll_5 : decode cX8_readAll 5 = .ok (.aload_n 0, 1) := by decide +kernel
theorem dX8_readAll_6 : decode cX8_readAll 6 = .ok (.iconst 0, 1) := by decide +kernel
theorem dX8_readAll_7 : decode cX8_readAll 7 = .ok (.putfield 161, 3) := by decide +kernel
theorem dX8_readAll_10 : decode cX8_readAll 10 = .ok (.aload_n 0, 1) := by decide +kernel
theorem dX8_readAll_11 : decode cX8_readAll 11 = .ok (.invokevirtual 196, 3) := by decide +kernel
theorem dX8_readAll_14 : decode cX8_readAll 14 = .ok (.aload_n 0, 1) := by decide +kernel
theorem dX8_readAll_15 : decode cX8_readAll 15 = .ok (.invokevirtual 229, 3) := by decide +kernel
theorem dX8_readAll_18 : decode cX8_readAll 18 = .ok (.ifCond .ne 5, 3) := by decide +kernel
theorem dX8_readAll_21 : decode cX8_readAll 21 = .ok (.iconst 0, 1) := by decide +kernel
theorem dX8_readAll_22 : decode cX8_readAll 22 = .ok (.ireturn, 1) := by decide +kernel
theorem dX8_readAll_23 : decode cX8_readAll 23 = .ok (.aload_n 0, 1) := by decide +kernel
theorem dX8_readAll_24 : decode cX8_readAll 24 = .ok (.getfield 170, 3) := by decide +kernel
theorem dX8_readAll_27 : decode cX8_readAll 27 = .ok (.ifCond .eq 42, 3) := by decide +kernel
theorem dX8_readAll_30 : decode cX8_readAll 30 = .ok (.aload_n 0, 1) := by decide +kernel
theorem dX8_readAll_31 : decode cX8_readAll 31 = .ok (.getfield 170, 3) := by decide +kernel
theorem dX8_readAll_34 : decode cX8_readAll 34 = .ok (.iconst 3, 1) := by decide +kernel
theorem dX8_readAll_35 : decode cX8_readAll 35 = .ok (.if_icmp .eq 8, 3) := by decide +kernel
theorem dX8_readAll_38 : decode cX8_readAll 38 = .ok (.aload_n 0, 1) := by decide +kernel
theorem dX8_readAll_39 : decode cX8_readAll 39 = .ok (.invokevirtual 192, 3) := by decide +kernel
theorem dX8_readAll_42 : decode cX8_readAll 42 = .ok (.ireturn, 1) := by decide +kernel
theorem dX8_readAll_43 : decode cX8_readAll 43 = .ok (.aload_n 0, 1) := by decide +kernel
theorem dX8_readAll_44 : decode cX8_readAll 44 = .ok (.invokevirtual 196, 3) := by decide +kernel
theorem dX8_readAll_47 : decode cX8_readAll 47 = .ok (.aload_n 0, 1) := by decide +kernel
theorem dX8_readAll_48 : decode cX8_readAll 48 = .ok (.invokevirtual 229, 3) := by decide +kernel
theorem dX8_readAll_51 : decode cX8_readAll 51 = .ok (.ifCond .ne 5, 3) := by decide +kernel
theorem dX8_readAll_54 : decode cX8_readAll 54 = .ok (.iconst 0, 1) := by decide +kernel
theorem dX8_readAll_55 : decode cX8_readAll 55 = .ok (.ireturn, 1) := by decide +kernel
theorem dX8_readAll_56 : decode cX8_readAll 56 = .ok (.aload_n 0, 1) := by decide +kernel
theorem dX8_readAll_57 : decode cX8_readAll 57 = .ok (.dup, 1) := by decide +kernel
theorem dX8_readAll_58 : decode cX8_readAll 58 = .ok (.getfield 226, 3) := by decide +kernel
theorem dX8_readAll_61 : decode cX8_readAll 61 = .ok (.iconst 1, 1) := by decide +kernel
theorem dX8_readAll_62 : decode cX8_readAll 62 = .ok (.iadd, 1) := by decide +kernel
theorem dX8_readAll_63 : decode cX8_readAll 63 = .ok (.putfield 226, 3) := by decide +kernel
theorem dX8_readAll_66 : decode cX8_readAll 66 = .ok (.goto (-43), 3) := by decide +kernel
theorem dX8_readAll_69 : decode cX8_readAll 69 = .ok (.iconst 1, 1) := by decide +kernel
theorem dX8_readAll_70 : decode cX8_readAll 70 = .ok (.ireturn, 1) := by decide +kernel
set_option maxRecDepth 20000 in
theorem ggX8_town_X8_init : GoodIn wsX8_town wsX8_init := goodIn_r _ [10, 11, 12, 13, 14, 15, 16, 17, 18, 19, 20, 21, 22, 23, 24, 25, 26, 27, 28, 29, 30, 31, 32, 33, 34, 35, 36, 37, 38, 39, 40, 41, 42, 162, 163, 164, 165, 166, 167, 168, 169, 170, 171, 172, 173, 174, 175, 176, 177, 178, 179, 180, 181, 182, 183, 184, 185, 186, 187, 188, 189, 190, 191, 192, 193, 194, 195, 196, 197, 198] (by decide +kernel) (by decide +kernel)
set_option maxRecDepth 20000 in
theorem gX8_town_X8_init : GoodIn wsX8_town (wsX8_init) := ggX8_town_X8_init
set_option maxRecDepth 20000 in
theorem ggX8_town_X8_takeFrom : GoodIn wsX8_town wsX8_takeFrom := goodIn_r _ [46, 25, 26, 47, 27, 28, 29, 30, 31, 48, 32, 33, 49, 50, 4, 51, 162, 163, 164, 165, 166, 167, 168, 169, 170, 171, 172, 173, 174, 175, 176, 177, 178, 179, 180, 181, 182, 183, 184, 185, 186, 187, 188, 189, 190, 191, 192, 193, 194, 195, 196, 197, 198] (by decide +kernel) (by decide +kernel)
set_option maxRecDepth 20000 in
theorem gX8_town_X8_takeFrom : GoodIn wsX8_town (wsV RX8 237 RX8 yX8_takeFrom wsX8_takeFrom) := goodIn_app (goodIn_of _ (by decide +kernel)) ggX8_town_X8_takeFrom
set_option maxRecDepth 20000 in
theorem ggX8_town_X8_readAll : GoodIn wsX8_town wsX8_readAll := goodIn_r _ [55, 7, 56, 57, 58, 59, 60, 4, 61, 5, 23, 62, 63, 64, 65, 66, 67, 68, 69, 70, 71, 72, 73, 25, 34, 47, 31, 48, 32, 74, 75, 76, 77, 78, 79, 80, 81, 82, 83, 84, 85, 86, 87, 88, 89, 90, 91, 92, 93, 94, 95, 96, 97, 98, 99, 100, 101, 102, 103, 104, 105, 106, 107, 108, 109, 110, 111, 112, 113, 114, 115, 116, 117, 118, 119, 120, 121, 122, 123, 124, 125, 126, 127, 128, 129, 130, 131, 132, 133, 134, 135, 136, 137, 138, 139, 140, 141, 6, 142, 143, 144, 145, 146, 147, 148, 149, 26, 150, 151, 152, 153, 154, 155, 156, 157, 27, 28, 29, 30, 162, 163, 164, 165, 166, 167, 168, 169, 170, 171, 172, 173, 174, 175, 176, 177, 178, 179, 180, 181, 182, 183, 184, 185, 186, 187, 188, 189, 190, 191, 192, 193, 194, 195, 196, 197, 198] (by decide +kernel) (by decide +kernel)
set_option maxRecDepth 20000 in
theorem gX8_town_X8_readAll : GoodIn wsX8_town (wsV RX8 241 RX8 yX8_readAll wsX8_readAll) := goodIn_app (goodIn_of _ (by decide +kernel)) ggX8_town_X8_readAll
set_option maxRecDepth 20000 in
theorem ggX8_town_X8_refuse : GoodIn wsX8_town wsX8_refuse := goodIn_r _ [161, 24, 162, 163, 164, 165, 166, 167, 168, 169, 170, 171, 172, 173, 174, 175, 176, 177, 178, 179, 180, 181, 182, 183, 184, 185, 186, 187, 188, 189, 190, 191, 192, 193, 194, 195, 196, 197, 198] (by decide +kernel) (by decide +kernel)
set_option maxRecDepth 20000 in
theorem gX8_town_X8_refuse : GoodIn wsX8_town (wsV RX8 104 RX8 yX8_refuse wsX8_refuse) := goodIn_app (goodIn_of _ (by decide +kernel)) ggX8_town_X8_refuse
theorem dX8_town_0 : decode cX8_town 0 = .ok (.aload_n 0, 1) := by decide +kernel
theorem dX8_town_1 : decode cX8_town 1 = .ok (.getfield 232, 3) := by decide +kernel
theorem dX8_town_4 : decode cX8_town 4 = .ok (.ifnonnull 14, 3) := by decide +kernel
theorem dX8_town_7 : decode cX8_town 7 = .ok (.aload_n 0, 1) := by decide +kernel
theorem dX8_town_8 : decode cX8_town 8 = .ok (.new 8, 3) := by decide +kernel
theorem dX8_town_11 : decode cX8_town 11 = .ok (.dup, 1) := by decide +kernel
theorem dX8_town_12 : decode cX8_town 12 = .ok (.invokespecial 236, 3) := by decide +kernel
theorem dX8_town_15 : decode cX8_town 15 = .ok (.putfield 232, 3) := by decide +kernel
theorem dX8_town_18 : decode cX8_town 18 = .ok (.aload_n 0, 1) := by decide +kernel
theorem dX8_town_19 : decode cX8_town 19 = .ok (.getfield 232, 3) := by decide +kernel
theorem dX8_town_22 : decode cX8_town 22 = .ok (.aload_n 0, 1) := by decide +kernel
theorem dX8_town_23 : decode cX8_town 23 = .ok (.invokevirtual 237, 3) := by decide +kernel
theorem dX8_town_26 : decode cX8_town 26 = .ok (.aload_n 0, 1) := by decide +kernel
theorem dX8_town_27 : decode cX8_town 27 = .ok (.invokevirtual 241, 3) := by decide +kernel
theorem dX8_town_30 : decode cX8_town 30 = .ok (.istore_n 1, 1) := by decide +kernel
theorem dX8_town_31 : decode cX8_town 31 = .ok (.aload_n 0, 1) := by decide +kernel
theorem dX8_town_32 : decode cX8_town 32 = .ok (.iconst 0, 1) := by decide +kernel
theorem dX8_town_33 : decode cX8_town 33 = .ok (.putfield 158, 3) := by decide +kernel
theorem dX8_town_36 : decode cX8_town 36 = .ok (.iload_n 1, 1) := by decide +kernel
theorem dX8_town_37 : decode cX8_town 37 = .ok (.ifCond .ne 26, 3) := by decide +kernel
theorem dX8_town_40 : decode cX8_town 40 = .ok (.aload_n 0, 1) := by decide +kernel
theorem dX8_town_41 : decode cX8_town 41 = .ok (.aload_n 0, 1) := by decide +kernel
theorem dX8_town_42 : decode cX8_town 42 = .ok (.getfield 232, 3) := by decide +kernel
theorem dX8_town_45 : decode cX8_town 45 = .ok (.invokevirtual 237, 3) := by decide +kernel
theorem dX8_town_48 : decode cX8_town 48 = .ok (.aload_n 0, 1) := by decide +kernel
theorem dX8_town_49 : decode cX8_town 49 = .ok (.bipush (-2), 2) := by decide +kernel
theorem dX8_town_51 : decode cX8_town 51 = .ok (.invokevirtual 104, 3) := by decide +kernel
theorem dX8_town_54 : decode cX8_town 54 = .ok (.pop, 1) := by decide +kernel
theorem dX8_town_55 : decode cX8_town 55 = .ok (.bipush (-20), 2) := by decide +kernel
theorem dX8_town_57 : decode cX8_town 57 = .ok (.aload_n 0, 1) := by decide +kernel
theorem dX8_town_58 : decode cX8_town 58 = .ok (.getfield 179, 3) := by decide +kernel
theorem dX8_town_61 : decode cX8_town 61 = .ok (.isub, 1) := by decide +kernel
theorem dX8_town_62 : decode cX8_town 62 = .ok (.ireturn, 1) := by decide +kernel
theorem dX8_town_63 : decode cX8_town 63 = .ok (.aload_n 0, 1) := by decide +kernel
theorem dX8_town_64 : decode cX8_town 64 = .ok (.getfield 226, 3) := by decide +kernel
theorem dX8_town_67 : decode cX8_town 67 = .ok (.ireturn, 1) := by decide +kernel
set_option maxRecDepth 20000 in
theorem ggX8_personOf_X8_isPerson : GoodIn wsX8_personOf wsX8_isPerson := goodIn_r _ [11, 12, 13, 14, 10, 15, 26, 27, 28, 29, 30, 31, 32, 33, 34, 35, 36, 37, 38, 39, 40, 41, 42, 43, 44, 45, 46, 47, 48, 49, 50, 51, 52, 53, 54, 55, 56, 57, 58, 59, 60, 61, 62] (by decide +kernel) (by decide +kernel)
set_option maxRecDepth 20000 in
theorem gX8_personOf_X8_isPerson : GoodIn wsX8_personOf (wsV RX8 115 RX8 yX8_isPerson wsX8_isPerson) := goodIn_app (goodIn_of _ (by decide +kernel)) ggX8_personOf_X8_isPerson
set_option maxRecDepth 20000 in
theorem ggX8_personOf_X8_in : GoodIn wsX8_personOf wsX8_in := goodIn_r _ [15] (by decide +kernel) (by decide +kernel)
set_option maxRecDepth 20000 in
theorem gX8_personOf_X8_in : GoodIn wsX8_personOf (va_wsS RX8 91 yX8_in wsX8_in) := goodIn_app (goodIn_of _ (by decide +kernel)) ggX8_personOf_X8_in
set_option maxRecDepth 20000 in
theorem ggX8_personOf_X8_refuse : GoodIn wsX8_personOf wsX8_refuse := goodIn_r _ [19, 20, 26, 27, 28, 29, 30, 31, 32, 33, 34, 35, 36, 37, 38, 39, 40, 41, 42, 43, 44, 45, 46, 47, 48, 49, 50, 51, 52, 53, 54, 55, 56, 57, 58, 59, 60, 61, 62] (by decide +kernel) (by decide +kernel)
set_option maxRecDepth 20000 in
theorem gX8_personOf_X8_refuse : GoodIn wsX8_personOf (wsV RX8 104 RX8 yX8_refuse wsX8_refuse) := goodIn_app (goodIn_of _ (by decide +kernel)) ggX8_personOf_X8_refuse
set_option maxRecDepth 20000 in
theorem ggX8_personOf_X8_darkens : GoodIn wsX8_personOf wsX8_darkens := goodIn_r _ [24, 25, 2, 26, 27, 28, 29, 30, 31, 32, 33, 34, 35, 36, 37, 38, 39, 40, 41, 42, 43, 44, 45, 46, 47, 48, 49, 50, 51, 52, 53, 54, 55, 56, 57, 58, 59, 60, 61, 62] (by decide +kernel) (by decide +kernel)
set_option maxRecDepth 20000 in
theorem gX8_personOf_X8_darkens : GoodIn wsX8_personOf (wsV RX8 244 RX8 yX8_darkens wsX8_darkens) := goodIn_app (goodIn_of _ (by decide +kernel)) ggX8_personOf_X8_darkens
theorem dX8_personOf_0 : decode cX8_personOf 0 = .ok (.aload_n 0, 1) := by decide +kernel
theorem dX8_personOf_1 : decode cX8_personOf 1 = .ok (.iload_n 1, 1) := by decide +kernel
theorem dX8_personOf_2 : decode cX8_personOf 2 = .ok (.invokevirtual 115, 3) := by decide +kernel
theorem dX8_personOf_5 : decode cX8_personOf 5 = .ok (.ifCond .eq 15, 3) := by decide +kernel
theorem dX8_personOf_8 : decode cX8_personOf 8 = .ok (.iload_n 2, 1) := by decide +kernel
theorem dX8_personOf_9 : decode cX8_personOf 9 = .ok (.i2l, 1) := by decide +kernel
theorem dX8_personOf_10 : decode cX8_personOf 10 = .ok (.lconst 0, 1) := by decide +kernel
theorem dX8_personOf_11 : decode cX8_personOf 11 = .ok (.ldc2_w 119, 3) := by decide +kernel
theorem dX8_personOf_14 : decode cX8_personOf 14 = .ok (.invokestatic 91, 3) := by decide +kernel
theorem dX8_personOf_17 : decode cX8_personOf 17 = .ok (.ifCond .ne 10, 3) := by decide +kernel
theorem dX8_personOf_20 : decode cX8_personOf 20 = .ok (.aload_n 0, 1) := by decide +kernel
theorem dX8_personOf_21 : decode cX8_personOf 21 = .ok (.bipush (-2), 2) := by decide +kernel
theorem dX8_personOf_23 : decode cX8_personOf 23 = .ok (.invokevirtual 104, 3) := by decide +kernel
theorem dX8_personOf_26 : decode cX8_personOf 26 = .ok (.ireturn, 1) := by decide +kernel
theorem dX8_personOf_27 : decode cX8_personOf 27 = .ok (.iload_n 2, 1) := by decide +kernel
theorem dX8_personOf_28 : decode cX8_personOf 28 = .ok (.tableswitch 71 0 4 #[36, 43, 50, 57, 64], 36) := by decide +kernel
theorem dX8_personOf_64 : decode cX8_personOf 64 = .ok (.aload_n 0, 1) := by decide +kernel
theorem dX8_personOf_65 : decode cX8_personOf 65 = .ok (.getfield 44, 3) := by decide +kernel
theorem dX8_personOf_68 : decode cX8_personOf 68 = .ok (.iload_n 1, 1) := by decide +kernel
theorem dX8_personOf_69 : decode cX8_personOf 69 = .ok (.iaload, 1) := by decide +kernel
theorem dX8_personOf_70 : decode cX8_personOf 70 = .ok (.ireturn, 1) := by decide +kernel
theorem dX8_personOf_71 : decode cX8_personOf 71 = .ok (.aload_n 0, 1) := by decide +kernel
theorem dX8_personOf_72 : decode cX8_personOf 72 = .ok (.getfield 47, 3) := by decide +kernel
theorem dX8_personOf_75 : decode cX8_personOf 75 = .ok (.iload_n 1, 1) := by decide +kernel
theorem dX8_personOf_76 : decode cX8_personOf 76 = .ok (.iaload, 1) := by decide +kernel
theorem dX8_personOf_77 : decode cX8_personOf 77 = .ok (.ireturn, 1) := by decide +kernel
theorem dX8_personOf_78 : decode cX8_personOf 78 = .ok (.aload_n 0, 1) := by decide +kernel
theorem dX8_personOf_79 : decode cX8_personOf 79 = .ok (.getfield 50, 3) := by decide +kernel
theorem dX8_personOf_82 : decode cX8_personOf 82 = .ok (.iload_n 1, 1) := by decide +kernel
theorem dX8_personOf_83 : decode cX8_personOf 83 = .ok (.iaload, 1) := by decide +kernel
theorem dX8_personOf_84 : decode cX8_personOf 84 = .ok (.ireturn, 1) := by decide +kernel
theorem dX8_personOf_85 : decode cX8_personOf 85 = .ok (.aload_n 0, 1) := by decide +kernel
theorem dX8_personOf_86 : decode cX8_personOf 86 = .ok (.getfield 53, 3) := by decide +kernel
theorem dX8_personOf_89 : decode cX8_personOf 89 = .ok (.iload_n 1, 1) := by decide +kernel
theorem dX8_personOf_90 : decode cX8_personOf 90 = .ok (.iaload, 1) := by decide +kernel
theorem dX8_personOf_91 : decode cX8_personOf 91 = .ok (.ireturn, 1) := by decide +kernel
theorem dX8_personOf_92 : decode cX8_personOf 92 = .ok (.aload_n 0, 1) := by decide +kernel
theorem dX8_personOf_93 : decode cX8_personOf 93 = .ok (.getfield 56, 3) := by decide +kernel
theorem dX8_personOf_96 : decode cX8_personOf 96 = .ok (.iload_n 1, 1) := by decide +kernel
theorem dX8_personOf_97 : decode cX8_personOf 97 = .ok (.iaload, 1) := by decide +kernel
theorem dX8_personOf_98 : decode cX8_personOf 98 = .ok (.ireturn, 1) := by decide +kernel
theorem dX8_personOf_99 : decode cX8_personOf 99 = .ok (.aload_n 0, 1) := by decide +kernel
theorem dX8_personOf_100 : decode cX8_personOf 100 = .ok (.iload_n 1, 1) := by decide +kernel
theorem dX8_personOf_101 : decode cX8_personOf 101 = .ok (.invokevirtual 244, 3) := by decide +kernel
theorem dX8_personOf_104 : decode cX8_personOf 104 = .ok (.ifCond .eq 7, 3) := by decide +kernel
theorem dX8_personOf_107 : decode cX8_personOf 107 = .ok (.iconst 1, 1) := by decide +kernel
theorem dX8_personOf_108 : decode cX8_personOf 108 = .ok (.goto 4, 3) := by decide +kernel
theorem dX8_personOf_111 : decode cX8_personOf 111 = .ok (.iconst 0, 1) := by decide +kernel
theorem dX8_personOf_112 : decode cX8_personOf 112 = .ok (.ireturn, 1) := by decide +kernel
theorem dX8_findFar_0 : decode cX8_findFar 0 = .ok (.iconst 0, 1) := by decide +kernel
theorem dX8_findFar_1 : decode cX8_findFar 1 = .ok (.istore_n 2, 1) := by decide +kernel
theorem dX8_findFar_2 : decode cX8_findFar 2 = .ok (.iload_n 2, 1) := by decide +kernel
theorem dX8_findFar_3 : decode cX8_findFar 3 = .ok (.aload_n 0, 1) := by decide +kernel
theorem dX8_findFar_4 : decode cX8_findFar 4 = .ok (.getfield 37, 3) := by decide +kernel
theorem dX8_findFar_7 : decode cX8_findFar 7 = .ok (.if_icmp .ge 25, 3) := by decide +kernel
theorem dX8_findFar_10 : decode cX8_findFar 10 = .ok (.aload_n 0, 1) := by decide +kernel
theorem dX8_findFar_11 : decode cX8_findFar 11 = .ok (.getfield 68, 3) := by decide +kernel
theorem dX8_findFar_14 : decode cX8_findFar 14 = .ok (.iload_n 2, 1) := by decide +kernel
theorem dX8_findFar_15 : decode cX8_findFar 15 = .ok (.iload_n 2, 1) := by decide +kernel
theorem dX8_findFar_16 : decode cX8_findFar 16 = .ok (.iload_n 1, 1) := by decide +kernel
theorem dX8_findFar_17 : decode cX8_findFar 17 = .ok (.if_icmp .ne 7, 3) := by decide +kernel
theorem dX8_findFar_20 : decode cX8_findFar 20 = .ok (.iconst 0, 1) := by decide +kernel
theorem dX8_findFar_21 : decode cX8_findFar 21 = .ok (.goto 4, 3) := by decide +kernel
theorem dX8_findFar_24 : decode cX8_findFar 24 = .ok (.iconst (-1), 1) := by decide +kernel
theorem dX8_findFar_25 : decode cX8_findFar 25 = .ok (.iastore, 1) := by decide +kernel
theorem dX8_findFar_26 : decode cX8_findFar 26 = .ok (.iinc 2 1, 3) := by decide +kernel
theorem dX8_findFar_29 : decode cX8_findFar 29 = .ok (.goto (-27), 3) := by decide +kernel
theorem dX8_findFar_32 : decode cX8_findFar 32 = .ok (.iconst 1, 1) := by decide +kernel
theorem dX8_findFar_33 : decode cX8_findFar 33 = .ok (.istore_n 2, 1) := by decide +kernel
theorem dX8_findFar_34 : decode cX8_findFar 34 = .ok (.iload_n 2, 1) := by decide +kernel
theorem dX8_findFar_35 : decode cX8_findFar 35 = .ok (.aload_n 0, 1) := by decide +kernel
theorem dX8_findFar_36 : decode cX8_findFar 36 = .ok (.getfield 37, 3) := by decide +kernel
theorem dX8_findFar_39 : decode cX8_findFar 39 = .ok (.if_icmp .ge 92, 3) := by decide +kernel
theorem dX8_findFar_42 : decode cX8_findFar 42 = .ok (.iconst 0, 1) := by decide +kernel
theorem dX8_findFar_43 : decode cX8_findFar 43 = .ok (.istore_n 3, 1) := by decide +kernel
theorem dX8_findFar_44 : decode cX8_findFar 44 = .ok (.iload_n 3, 1) := by decide +kernel
theorem dX8_findFar_45 : decode cX8_findFar 45 = .ok (.aload_n 0, 1) := by decide +kernel
theorem dX8_findFar_46 : decode cX8_findFar 46 = .ok (.getfield 37, 3) := by decide +kernel
theorem dX8_findFar_49 : decode cX8_findFar 49 = .ok (.if_icmp .ge 76, 3) := by decide +kernel
theorem dX8_findFar_52 : decode cX8_findFar 52 = .ok (.iconst 0, 1) := by decide +kernel
theorem dX8_findFar_53 : decode cX8_findFar 53 = .ok (.istore 4, 2) := by decide +kernel
theorem dX8_findFar_55 : decode cX8_findFar 55 = .ok (.iload 4, 2) := by decide +kernel
theorem dX8_findFar_57 : decode cX8_findFar 57 = .ok (.aload_n 0, 1) := by decide +kernel
theorem dX8_findFar_58 : decode cX8_findFar 58 = .ok (.getfield 37, 3) := by decide +kernel
theorem dX8_findFar_61 : decode cX8_findFar 61 = .ok (.if_icmp .ge 58, 3) := by decide +kernel
theorem dX8_findFar_64 : decode cX8_findFar 64 = .ok (.aload_n 0, 1) := by decide +kernel
theorem dX8_findFar_65 : decode cX8_findFar 65 = .ok (.getfield 68, 3) := by decide +kernel
theorem dX8_findFar_68 : decode cX8_findFar 68 = .ok (.iload_n 3, 1) := by decide +kernel
theorem dX8_findFar_69 : decode cX8_findFar 69 = .ok (.iaload, 1) := by decide +kernel
theorem dX8_findFar_70 : decode cX8_findFar 70 = .ok (.iconst (-1), 1) := by decide +kernel
theorem dX8_findFar_71 : decode cX8_findFar 71 = .ok (.if_icmp .ne 48, 3) := by decide +kernel
theorem dX8_findFar_74 : decode cX8_findFar 74 = .ok (.aload_n 0, 1) := by decide +kernel
theorem dX8_findFar_75 : decode cX8_findFar 75 = .ok (.getfield 68, 3) := by decide +kernel
theorem dX8_findFar_78 : decode cX8_findFar 78 = .ok (.iload_n 3, 1) := by decide +kernel
theorem dX8_findFar_79 : decode cX8_findFar 79 = .ok (.aload_n 0, 1) := by decide +kernel
theorem dX8_findFar_80 : decode cX8_findFar 80 = .ok (.getfield 41, 3) := by decide +kernel
theorem dX8_findFar_83 : decode cX8_findFar 83 = .ok (.iload_n 3, 1) := by decide +kernel
theorem dX8_findFar_84 : decode cX8_findFar 84 = .ok (.iaload, 1) := by decide +kernel
theorem dX8_findFar_85 : decode cX8_findFar 85 = .ok (.iload 4, 2) := by decide +kernel
theorem dX8_findFar_87 : decode cX8_findFar 87 = .ok (.ishr, 1) := by decide +kernel
theorem dX8_findFar_88 : decode cX8_findFar 88 = .ok (.iconst 1, 1) := by decide +kernel
theorem dX8_findFar_89 : decode cX8_findFar 89 = .ok (.iand, 1) := by decide +kernel
theorem dX8_findFar_90 : decode cX8_findFar 90 = .ok (.iconst 1, 1) := by decide +kernel
theorem dX8_findFar_91 : decode cX8_findFar 91 = .ok (.if_icmp .ne 20, 3) := by decide +kernel
theorem dX8_findFar_94 : decode cX8_findFar 94 = .ok (.aload_n 0, 1) := by decide +kernel
theorem dX8_findFar_95 : decode cX8_findFar 95 = .ok (.getfield 68, 3) := by decide +kernel
theorem dX8_findFar_98 : decode cX8_findFar 98 = .ok (.iload 4, 2) := by decide +kernel
theorem dX8_findFar_100 : decode cX8_findFar 100 = .ok (.iaload, 1) := by decide +kernel
theorem dX8_findFar_101 : decode cX8_findFar 101 = .ok (.iload_n 2, 1) := by decide +kernel
theorem dX8_findFar_102 : decode cX8_findFar 102 = .ok (.iconst 1, 1) := by decide +kernel
theorem dX8_findFar_103 : decode cX8_findFar 103 = .ok (.isub, 1) := by decide +kernel
theorem dX8_findFar_104 : decode cX8_findFar 104 = .ok (.if_icmp .ne 7, 3) := by decide +kernel
theorem dX8_findFar_107 : decode cX8_findFar 107 = .ok (.iload_n 2, 1) := by decide +kernel
theorem dX8_findFar_108 : decode cX8_findFar 108 = .ok (.goto 4, 3) := by decide +kernel
theorem dX8_findFar_111 : decode cX8_findFar 111 = .ok (.iconst (-1), 1) := by decide +kernel
theorem dX8_findFar_112 : decode cX8_findFar 112 = .ok (.iastore, 1) := by decide +kernel
theorem dX8_findFar_113 : decode cX8_findFar 113 = .ok (.iinc 4 1, 3) := by decide +kernel
theorem dX8_findFar_116 : decode cX8_findFar 116 = .ok (.goto (-61), 3) := by decide +kernel
theorem dX8_findFar_119 : decode cX8_findFar 119 = .ok (.iinc 3 1, 3) := by decide +kernel
theorem dX8_findFar_122 : decode cX8_findFar 122 = .ok (.goto (-78), 3) := by decide +kernel
theorem dX8_findFar_125 : decode cX8_findFar 125 = .ok (.iinc 2 1, 3) := by decide +kernel
theorem dX8_findFar_128 : decode cX8_findFar 128 = .ok (.goto (-94), 3) := by decide +kernel
theorem dX8_findFar_131 : decode cX8_findFar 131 = .ok (.return_, 1) := by decide +kernel
set_option maxRecDepth 20000 in
theorem ggX8_far_X8_isPlace : GoodIn wsX8_far wsX8_isPlace := goodIn_r _ [6, 7, 8, 9, 5, 10, 21, 22, 23, 24, 25, 26, 27, 28, 29, 30, 31, 32, 33, 34, 35, 36, 37, 38, 39, 40, 41, 42, 43, 44, 45, 46, 47, 48, 49, 50, 51, 52, 53, 54, 55, 56, 57] (by decide +kernel) (by decide +kernel)
set_option maxRecDepth 20000 in
theorem gX8_far_X8_isPlace : GoodIn wsX8_far (wsV RX8 133 RX8 yX8_isPlace wsX8_isPlace) := goodIn_app (goodIn_of _ (by decide +kernel)) ggX8_far_X8_isPlace
set_option maxRecDepth 20000 in
theorem ggX8_far_X8_refuse : GoodIn wsX8_far wsX8_refuse := goodIn_r _ [14, 15, 21, 22, 23, 24, 25, 26, 27, 28, 29, 30, 31, 32, 33, 34, 35, 36, 37, 38, 39, 40, 41, 42, 43, 44, 45, 46, 47, 48, 49, 50, 51, 52, 53, 54, 55, 56, 57] (by decide +kernel) (by decide +kernel)
set_option maxRecDepth 20000 in
theorem gX8_far_X8_refuse : GoodIn wsX8_far (wsV RX8 104 RX8 yX8_refuse wsX8_refuse) := goodIn_app (goodIn_of _ (by decide +kernel)) ggX8_far_X8_refuse
set_option maxRecDepth 20000 in
theorem ggX8_far_X8_findFar : GoodIn wsX8_far wsX8_findFar := goodIn_r _ [19, 7, 1, 20, 21, 22, 23, 24, 25, 26, 27, 28, 29, 30, 31, 32, 33, 34, 35, 36, 37, 38, 39, 40, 41, 42, 43, 44, 45, 46, 47, 48, 49, 50, 51, 52, 53, 54, 55, 56, 57] (by decide +kernel) (by decide +kernel)
set_option maxRecDepth 20000 in
theorem gX8_far_X8_findFar : GoodIn wsX8_far (wsV RX8 247 RX8 yX8_findFar wsX8_findFar) := goodIn_app (goodIn_of _ (by decide +kernel)) ggX8_far_X8_findFar
theorem dX8_far_0 : decode cX8_far 0 = .ok (.aload_n 0, 1) := by decide +kernel
theorem dX8_far_1 : decode cX8_far 1 = .ok (.iload_n 1, 1) := by decide +kernel
theorem dX8_far_2 : decode cX8_far 2 = .ok (.invokevirtual 133, 3) := by decide +kernel
theorem dX8_far_5 : decode cX8_far 5 = .ok (.ifCond .eq 11, 3) := by decide +kernel
theorem dX8_far_8 : decode cX8_far 8 = .ok (.aload_n 0, 1) := by decide +kernel
theorem dX8_far_9 : decode cX8_far 9 = .ok (.iload_n 2, 1) := by decide +kernel
theorem dX8_far_10 : decode cX8_far 10 = .ok (.invokevirtual 133, 3) := by decide +kernel
theorem dX8_far_13 : decode cX8_far 13 = .ok (.ifCond .ne 10, 3) := by decide +kernel
theorem dX8_far_16 : decode cX8_far 16 = .ok (.aload_n 0, 1) := by decide +kernel
theorem dX8_far_17 : decode cX8_far 17 = .ok (.bipush (-2), 2) := by decide +kernel
theorem dX8_far_19 : decode cX8_far 19 = .ok (.invokevirtual 104, 3) := by decide +kernel
theorem dX8_far_22 : decode cX8_far 22 = .ok (.ireturn, 1) := by decide +kernel
theorem dX8_far_23 : decode cX8_far 23 = .ok (.aload_n 0, 1) := by decide +kernel
theorem dX8_far_24 : decode cX8_far 24 = .ok (.iload_n 1, 1) := by decide +kernel
theorem dX8_far_25 : decode cX8_far 25 = .ok (.invokevirtual 247, 3) := by decide +kernel
theorem dX8_far_28 : decode cX8_far 28 = .ok (.aload_n 0, 1) := by decide +kernel
theorem dX8_far_29 : decode cX8_far 29 = .ok (.getfield 68, 3) := by decide +kernel
theorem dX8_far_32 : decode cX8_far 32 = .ok (.iload_n 2, 1) := by decide +kernel
theorem dX8_far_33 : decode cX8_far 33 = .ok (.iaload, 1) := by decide +kernel
theorem dX8_far_34 : decode cX8_far 34 = .ok (.ireturn, 1) := by decide +kernel
set_option maxRecDepth 20000 in
theorem ggX8_reach_X8_isPlace : GoodIn wsX8_reach wsX8_isPlace := goodIn_r _ [8, 2, 9, 10, 7, 11, 22, 23, 24, 25, 26, 27, 28, 29, 30, 31, 32, 33, 34, 35, 36, 37, 38, 39, 40, 41, 42, 43, 44, 45, 46, 47, 48, 49, 50, 51, 52, 53, 54, 55, 56, 57, 58] (by decide +kernel) (by decide +kernel)
set_option maxRecDepth 20000 in
theorem gX8_reach_X8_isPlace : GoodIn wsX8_reach (wsV RX8 133 RX8 yX8_isPlace wsX8_isPlace) := goodIn_app (goodIn_of _ (by decide +kernel)) ggX8_reach_X8_isPlace
set_option maxRecDepth 20000 in
theorem ggX8_reach_X8_in : GoodIn wsX8_reach wsX8_in := goodIn_r _ [11] (by decide +kernel) (by decide +kernel)
set_option maxRecDepth 20000 in
theorem gX8_reach_X8_in : GoodIn wsX8_reach (va_wsS RX8 91 yX8_in wsX8_in) := goodIn_app (goodIn_of _ (by decide +kernel)) ggX8_reach_X8_in
set_option maxRecDepth 20000 in
theorem ggX8_reach_X8_refuse : GoodIn wsX8_reach wsX8_refuse := goodIn_r _ [15, 16, 22, 23, 24, 25, 26, 27, 28, 29, 30, 31, 32, 33, 34, 35, 36, 37, 38, 39, 40, 41, 42, 43, 44, 45, 46, 47, 48, 49, 50, 51, 52, 53, 54, 55, 56, 57, 58] (by decide +kernel) (by decide +kernel)
set_option maxRecDepth 20000 in
theorem gX8_reach_X8_refuse : GoodIn wsX8_reach (wsV RX8 104 RX8 yX8_refuse wsX8_refuse) := goodIn_app (goodIn_of _ (by decide +kernel)) ggX8_reach_X8_refuse
set_option maxRecDepth 20000 in
theorem ggX8_reach_X8_findFar : GoodIn wsX8_reach wsX8_findFar := goodIn_r _ [20, 2, 3, 21, 22, 23, 24, 25, 26, 27, 28, 29, 30, 31, 32, 33, 34, 35, 36, 37, 38, 39, 40, 41, 42, 43, 44, 45, 46, 47, 48, 49, 50, 51, 52, 53, 54, 55, 56, 57, 58] (by decide +kernel) (by decide +kernel)
set_option maxRecDepth 20000 in
theorem gX8_reach_X8_findFar : GoodIn wsX8_reach (wsV RX8 247 RX8 yX8_findFar wsX8_findFar) := goodIn_app (goodIn_of _ (by decide +kernel)) ggX8_reach_X8_findFar
theorem dX8_reach_0 : decode cX8_reach 0 = .ok (.aload_n 0, 1) := by decide +kernel
theorem dX8_reach_1 : decode cX8_reach 1 = .ok (.iload_n 1, 1) := by decide +kernel
theorem dX8_reach_2 : decode cX8_reach 2 = .ok (.invokevirtual 133, 3) := by decide +kernel
theorem dX8_reach_5 : decode cX8_reach 5 = .ok (.ifCond .eq 15, 3) := by decide +kernel
theorem dX8_reach_8 : decode cX8_reach 8 = .ok (.iload_n 2, 1) := by decide +kernel
theorem dX8_reach_9 : decode cX8_reach 9 = .ok (.i2l, 1) := by decide +kernel
theorem dX8_reach_10 : decode cX8_reach 10 = .ok (.lconst 0, 1) := by decide +kernel
theorem dX8_reach_11 : decode cX8_reach 11 = .ok (.ldc2_w 131, 3) := by decide +kernel
theorem dX8_reach_14 : decode cX8_reach 14 = .ok (.invokestatic 91, 3) := by decide +kernel
theorem dX8_reach_17 : decode cX8_reach 17 = .ok (.ifCond .ne 10, 3) := by decide +kernel
theorem dX8_reach_20 : decode cX8_reach 20 = .ok (.aload_n 0, 1) := by decide +kernel
theorem dX8_reach_21 : decode cX8_reach 21 = .ok (.bipush (-2), 2) := by decide +kernel
theorem dX8_reach_23 : decode cX8_reach 23 = .ok (.invokevirtual 104, 3) := by decide +kernel
theorem dX8_reach_26 : decode cX8_reach 26 = .ok (.ireturn, 1) := by decide +kernel
theorem dX8_reach_27 : decode cX8_reach 27 = .ok (.aload_n 0, 1) := by decide +kernel
theorem dX8_reach_28 : decode cX8_reach 28 = .ok (.iload_n 1, 1) := by decide +kernel
theorem dX8_reach_29 : decode cX8_reach 29 = .ok (.invokevirtual 247, 3) := by decide +kernel
theorem dX8_reach_32 : decode cX8_reach 32 = .ok (.iconst 0, 1) := by decide +kernel
theorem dX8_reach_33 : decode cX8_reach 33 = .ok (.istore_n 3, 1) := by decide +kernel
theorem dX8_reach_34 : decode cX8_reach 34 = .ok (.iconst 0, 1) := by decide +kernel
theorem dX8_reach_35 : decode cX8_reach 35 = .ok (.istore 4, 2) := by decide +kernel
theorem dX8_reach_37 : decode cX8_reach 37 = .ok (.iload 4, 2) := by decide +kernel
theorem dX8_reach_39 : decode cX8_reach 39 = .ok (.aload_n 0, 1) := by decide +kernel
theorem dX8_reach_40 : decode cX8_reach 40 = .ok (.getfield 37, 3) := by decide +kernel
theorem dX8_reach_43 : decode cX8_reach 43 = .ok (.if_icmp .ge 34, 3) := by decide +kernel
theorem dX8_reach_46 : decode cX8_reach 46 = .ok (.iload_n 3, 1) := by decide +kernel
theorem dX8_reach_47 : decode cX8_reach 47 = .ok (.aload_n 0, 1) := by decide +kernel
theorem dX8_reach_48 : decode cX8_reach 48 = .ok (.getfield 68, 3) := by decide +kernel
theorem dX8_reach_51 : decode cX8_reach 51 = .ok (.iload 4, 2) := by decide +kernel
theorem dX8_reach_53 : decode cX8_reach 53 = .ok (.iaload, 1) := by decide +kernel
theorem dX8_reach_54 : decode cX8_reach 54 = .ok (.i2l, 1) := by decide +kernel
theorem dX8_reach_55 : decode cX8_reach 55 = .ok (.lconst 0, 1) := by decide +kernel
theorem dX8_reach_56 : decode cX8_reach 56 = .ok (.iload_n 2, 1) := by decide +kernel
theorem dX8_reach_57 : decode cX8_reach 57 = .ok (.i2l, 1) := by decide +kernel
theorem dX8_reach_58 : decode cX8_reach 58 = .ok (.invokestatic 91, 3) := by decide +kernel
theorem dX8_reach_61 : decode cX8_reach 61 = .ok (.ifCond .eq 7, 3) := by decide +kernel
theorem dX8_reach_64 : decode cX8_reach 64 = .ok (.iconst 1, 1) := by decide +kernel
theorem dX8_reach_65 : decode cX8_reach 65 = .ok (.goto 4, 3) := by decide +kernel
theorem dX8_reach_68 : decode cX8_reach 68 = .ok (.iconst 0, 1) := by decide +kernel
theorem dX8_reach_69 : decode cX8_reach 69 = .ok (.iadd, 1) := by decide +kernel
theorem dX8_reach_70 : decode cX8_reach 70 = .ok (.istore_n 3, 1) := by decide +kernel
theorem dX8_reach_71 : decode cX8_reach 71 = .ok (.iinc 4 1, 3) := by decide +kernel
theorem dX8_reach_74 : decode cX8_reach 74 = .ok (.goto (-37), 3) := by decide +kernel
theorem dX8_reach_77 : decode cX8_reach 77 = .ok (.iload_n 3, 1) := by decide +kernel
theorem dX8_reach_78 : decode cX8_reach 78 = .ok (.ireturn, 1) := by decide +kernel
set_option maxRecDepth 20000 in
theorem ggX8_farthest_X8_isPlace : GoodIn wsX8_farthest wsX8_isPlace := goodIn_r _ [7, 1, 8, 9, 6, 10, 21, 22, 23, 24, 25, 26, 27, 28, 29, 30, 31, 32, 33, 34, 35, 36, 37, 38, 39, 40, 41, 42, 43, 44, 45, 46, 47, 48, 49, 50, 51, 52, 53, 54, 55, 56, 57] (by decide +kernel) (by decide +kernel)
set_option maxRecDepth 20000 in
theorem gX8_farthest_X8_isPlace : GoodIn wsX8_farthest (wsV RX8 133 RX8 yX8_isPlace wsX8_isPlace) := goodIn_app (goodIn_of _ (by decide +kernel)) ggX8_farthest_X8_isPlace
set_option maxRecDepth 20000 in
theorem ggX8_farthest_X8_refuse : GoodIn wsX8_farthest wsX8_refuse := goodIn_r _ [14, 15, 21, 22, 23, 24, 25, 26, 27, 28, 29, 30, 31, 32, 33, 34, 35, 36, 37, 38, 39, 40, 41, 42, 43, 44, 45, 46, 47, 48, 49, 50, 51, 52, 53, 54, 55, 56, 57] (by decide +kernel) (by decide +kernel)
set_option maxRecDepth 20000 in
theorem gX8_farthest_X8_refuse : GoodIn wsX8_farthest (wsV RX8 104 RX8 yX8_refuse wsX8_refuse) := goodIn_app (goodIn_of _ (by decide +kernel)) ggX8_farthest_X8_refuse
set_option maxRecDepth 20000 in
theorem ggX8_farthest_X8_findFar : GoodIn wsX8_farthest wsX8_findFar := goodIn_r _ [19, 1, 2, 20, 21, 22, 23, 24, 25, 26, 27, 28, 29, 30, 31, 32, 33, 34, 35, 36, 37, 38, 39, 40, 41, 42, 43, 44, 45, 46, 47, 48, 49, 50, 51, 52, 53, 54, 55, 56, 57] (by decide +kernel) (by decide +kernel)
set_option maxRecDepth 20000 in
theorem gX8_farthest_X8_findFar : GoodIn wsX8_farthest (wsV RX8 247 RX8 yX8_findFar wsX8_findFar) := goodIn_app (goodIn_of _ (by decide +kernel)) ggX8_farthest_X8_findFar
theorem dX8_farthest_0 : decode cX8_farthest 0 = .ok (.aload_n 0, 1) := by decide +kernel
theorem dX8_farthest_1 : decode cX8_farthest 1 = .ok (.iload_n 1, 1) := by decide +kernel
theorem dX8_farthest_2 : decode cX8_farthest 2 = .ok (.invokevirtual 133, 3) := by decide +kernel
theorem dX8_farthest_5 : decode cX8_farthest 5 = .ok (.ifCond .ne 10, 3) := by decide +kernel
theorem dX8_farthest_8 : decode cX8_farthest 8 = .ok (.aload_n 0, 1) := by decide +kernel
theorem dX8_farthest_9 : decode cX8_farthest 9 = .ok (.bipush (-2), 2) := by decide +kernel
theorem dX8_farthest_11 : decode cX8_farthest 11 = .ok (.invokevirtual 104, 3) := by decide +kernel
theorem dX8_farthest_14 : decode cX8_farthest 14 = .ok (.ireturn, 1) := by decide +kernel
theorem dX8_farthest_15 : decode cX8_farthest 15 = .ok (.aload_n 0, 1) := by decide +kernel
theorem dX8_farthest_16 : decode cX8_farthest 16 = .ok (.iload_n 1, 1) := by decide +kernel
theorem dX8_farthest_17 : decode cX8_farthest 17 = .ok (.invokevirtual 247, 3) := by decide +kernel
theorem dX8_farthest_20 : decode cX8_farthest 20 = .ok (.iload_n 1, 1) := by decide +kernel
theorem dX8_farthest_21 : decode cX8_farthest 21 = .ok (.istore_n 2, 1) := by decide +kernel
theorem dX8_farthest_22 : decode cX8_farthest 22 = .ok (.iconst 0, 1) := by decide +kernel
theorem dX8_farthest_23 : decode cX8_farthest 23 = .ok (.istore_n 3, 1) := by decide +kernel
theorem dX8_farthest_24 : decode cX8_farthest 24 = .ok (.iload_n 3, 1) := by decide +kernel
theorem dX8_farthest_25 : decode cX8_farthest 25 = .ok (.aload_n 0, 1) := by decide +kernel
theorem dX8_farthest_26 : decode cX8_farthest 26 = .ok (.getfield 37, 3) := by decide +kernel
theorem dX8_farthest_29 : decode cX8_farthest 29 = .ok (.if_icmp .ge 30, 3) := by decide +kernel
theorem dX8_farthest_32 : decode cX8_farthest 32 = .ok (.aload_n 0, 1) := by decide +kernel
theorem dX8_farthest_33 : decode cX8_farthest 33 = .ok (.getfield 68, 3) := by decide +kernel
theorem dX8_farthest_36 : decode cX8_farthest 36 = .ok (.iload_n 3, 1) := by decide +kernel
theorem dX8_farthest_37 : decode cX8_farthest 37 = .ok (.iaload, 1) := by decide +kernel
theorem dX8_farthest_38 : decode cX8_farthest 38 = .ok (.aload_n 0, 1) := by decide +kernel
theorem dX8_farthest_39 : decode cX8_farthest 39 = .ok (.getfield 68, 3) := by decide +kernel
theorem dX8_farthest_42 : decode cX8_farthest 42 = .ok (.iload_n 2, 1) := by decide +kernel
theorem dX8_farthest_43 : decode cX8_farthest 43 = .ok (.iaload, 1) := by decide +kernel
theorem dX8_farthest_44 : decode cX8_farthest 44 = .ok (.if_icmp .le 7, 3) := by decide +kernel
theorem dX8_farthest_47 : decode cX8_farthest 47 = .ok (.iload_n 3, 1) := by decide +kernel
theorem dX8_farthest_48 : decode cX8_farthest 48 = .ok (.goto 4, 3) := by decide +kernel
theorem dX8_farthest_51 : decode cX8_farthest 51 = .ok (.iload_n 2, 1) := by decide +kernel
theorem dX8_farthest_52 : decode cX8_farthest 52 = .ok (.istore_n 2, 1) := by decide +kernel
theorem dX8_farthest_53 : decode cX8_farthest 53 = .ok (.iinc 3 1, 3) := by decide +kernel
theorem dX8_farthest_56 : decode cX8_farthest 56 = .ok (.goto (-32), 3) := by decide +kernel
theorem dX8_farthest_59 : decode cX8_farthest 59 = .ok (.iload_n 2, 1) := by decide +kernel
theorem dX8_farthest_60 : decode cX8_farthest 60 = .ok (.ireturn, 1) := by decide +kernel
set_option maxRecDepth 20000 in
theorem ggX8_middle_X8_refuse : GoodIn wsX8_middle wsX8_refuse := goodIn_r _ [9, 10, 16, 17, 18, 19, 20, 21, 22, 23, 24, 25, 26, 27, 28, 29, 30, 31, 32, 33, 34, 35, 36, 37, 38, 39, 40, 41, 42, 43, 44, 45, 46, 47, 48, 49, 50, 51, 52] (by decide +kernel) (by decide +kernel)
set_option maxRecDepth 20000 in
theorem gX8_middle_X8_refuse : GoodIn wsX8_middle (wsV RX8 104 RX8 yX8_refuse wsX8_refuse) := goodIn_app (goodIn_of _ (by decide +kernel)) ggX8_middle_X8_refuse
set_option maxRecDepth 20000 in
theorem ggX8_middle_X8_findFar : GoodIn wsX8_middle wsX8_findFar := goodIn_r _ [14, 2, 3, 15, 16, 17, 18, 19, 20, 21, 22, 23, 24, 25, 26, 27, 28, 29, 30, 31, 32, 33, 34, 35, 36, 37, 38, 39, 40, 41, 42, 43, 44, 45, 46, 47, 48, 49, 50, 51, 52] (by decide +kernel) (by decide +kernel)
set_option maxRecDepth 20000 in
theorem gX8_middle_X8_findFar : GoodIn wsX8_middle (wsV RX8 247 RX8 yX8_findFar wsX8_findFar) := goodIn_app (goodIn_of _ (by decide +kernel)) ggX8_middle_X8_findFar
theorem dX8_middle_0 : decode cX8_middle 0 = .ok (.aload_n 0, 1) := by decide +kernel
theorem dX8_middle_1 : decode cX8_middle 1 = .ok (.getfield 95, 3) := by decide +kernel
theorem dX8_middle_4 : decode cX8_middle 4 = .ok (.ifCond .ne 10, 3) := by decide +kernel
theorem dX8_middle_7 : decode cX8_middle 7 = .ok (.aload_n 0, 1) := by decide +kernel
theorem dX8_middle_8 : decode cX8_middle 8 = .ok (.bipush (-5), 2) := by decide +kernel
theorem dX8_middle_10 : decode cX8_middle 10 = .ok (.invokevirtual 104, 3) := by decide +kernel
theorem dX8_middle_13 : decode cX8_middle 13 = .ok (.ireturn, 1) := by decide +kernel
theorem dX8_middle_14 : decode cX8_middle 14 = .ok (.iconst (-1), 1) := by decide +kernel
theorem dX8_middle_15 : decode cX8_middle 15 = .ok (.istore_n 1, 1) := by decide +kernel
theorem dX8_middle_16 : decode cX8_middle 16 = .ok (.iconst 0, 1) := by decide +kernel
theorem dX8_middle_17 : decode cX8_middle 17 = .ok (.istore_n 2, 1) := by decide +kernel
theorem dX8_middle_18 : decode cX8_middle 18 = .ok (.iconst 0, 1) := by decide +kernel
theorem dX8_middle_19 : decode cX8_middle 19 = .ok (.istore_n 3, 1) := by decide +kernel
theorem dX8_middle_20 : decode cX8_middle 20 = .ok (.iload_n 3, 1) := by decide +kernel
theorem dX8_middle_21 : decode cX8_middle 21 = .ok (.aload_n 0, 1) := by decide +kernel
theorem dX8_middle_22 : decode cX8_middle 22 = .ok (.getfield 37, 3) := by decide +kernel
theorem dX8_middle_25 : decode cX8_middle 25 = .ok (.if_icmp .ge 89, 3) := by decide +kernel
theorem dX8_middle_28 : decode cX8_middle 28 = .ok (.aload_n 0, 1) := by decide +kernel
theorem dX8_middle_29 : decode cX8_middle 29 = .ok (.iload_n 3, 1) := by decide +kernel
theorem dX8_middle_30 : decode cX8_middle 30 = .ok (.invokevirtual 247, 3) := by decide +kernel
theorem dX8_middle_33 : decode cX8_middle 33 = .ok (.iconst 0, 1) := by decide +kernel
theorem dX8_middle_34 : decode cX8_middle 34 = .ok (.istore 4, 2) := by decide +kernel
theorem dX8_middle_36 : decode cX8_middle 36 = .ok (.iconst 0, 1) := by decide +kernel
theorem dX8_middle_37 : decode cX8_middle 37 = .ok (.istore 5, 2) := by decide +kernel
theorem dX8_middle_39 : decode cX8_middle 39 = .ok (.iload 5, 2) := by decide +kernel
theorem dX8_middle_41 : decode cX8_middle 41 = .ok (.aload_n 0, 1) := by decide +kernel
theorem dX8_middle_42 : decode cX8_middle 42 = .ok (.getfield 95, 3) := by decide +kernel
theorem dX8_middle_45 : decode cX8_middle 45 = .ok (.if_icmp .ge 47, 3) := by decide +kernel
theorem dX8_middle_48 : decode cX8_middle 48 = .ok (.iload 4, 2) := by decide +kernel
theorem dX8_middle_50 : decode cX8_middle 50 = .ok (.aload_n 0, 1) := by decide +kernel
theorem dX8_middle_51 : decode cX8_middle 51 = .ok (.getfield 68, 3) := by decide +kernel
theorem dX8_middle_54 : decode cX8_middle 54 = .ok (.aload_n 0, 1) := by decide +kernel
theorem dX8_middle_55 : decode cX8_middle 55 = .ok (.getfield 56, 3) := by decide +kernel
theorem dX8_middle_58 : decode cX8_middle 58 = .ok (.iload 5, 2) := by decide +kernel
theorem dX8_middle_60 : decode cX8_middle 60 = .ok (.iaload, 1) := by decide +kernel
theorem dX8_middle_61 : decode cX8_middle 61 = .ok (.iaload, 1) := by decide +kernel
theorem dX8_middle_62 : decode cX8_middle 62 = .ok (.iconst (-1), 1) := by decide +kernel
theorem dX8_middle_63 : decode cX8_middle 63 = .ok (.if_icmp .ne 8, 3) := by decide +kernel
theorem dX8_middle_66 : decode cX8_middle 66 = .ok (.bipush 12, 2) := by decide +kernel
theorem dX8_middle_68 : decode cX8_middle 68 = .ok (.goto 15, 3) := by decide +kernel
theorem dX8_middle_71 : decode cX8_middle 71 = .ok (.aload_n 0, 1) := by decide +kernel
theorem dX8_middle_72 : decode cX8_middle 72 = .ok (.getfield 68, 3) := by decide +kernel
theorem dX8_middle_75 : decode cX8_middle 75 = .ok (.aload_n 0, 1) := by decide +kernel
theorem dX8_middle_76 : decode cX8_middle 76 = .ok (.getfield 56, 3) := by decide +kernel
theorem dX8_middle_79 : decode cX8_middle 79 = .ok (.iload 5, 2) := by decide +kernel
theorem dX8_middle_81 : decode cX8_middle 81 = .ok (.iaload, 1) := by decide +kernel
theorem dX8_middle_82 : decode cX8_middle 82 = .ok (.iaload, 1) := by decide +kernel
theorem dX8_middle_83 : decode cX8_middle 83 = .ok (.iadd, 1) := by decide +kernel
theorem dX8_middle_84 : decode cX8_middle 84 = .ok (.istore 4, 2) := by decide +kernel
theorem dX8_middle_86 : decode cX8_middle 86 = .ok (.iinc 5 1, 3) := by decide +kernel
theorem dX8_middle_89 : decode cX8_middle 89 = .ok (.goto (-50), 3) := by decide +kernel
theorem dX8_middle_92 : decode cX8_middle 92 = .ok (.iload_n 1, 1) := by decide +kernel
theorem dX8_middle_93 : decode cX8_middle 93 = .ok (.iconst (-1), 1) := by decide +kernel
theorem dX8_middle_94 : decode cX8_middle 94 = .ok (.if_icmp .eq 9, 3) := by decide +kernel
theorem dX8_middle_97 : decode cX8_middle 97 = .ok (.iload 4, 2) := by decide +kernel
theorem dX8_middle_99 : decode cX8_middle 99 = .ok (.iload_n 2, 1) := by decide +kernel
theorem dX8_middle_100 : decode cX8_middle 100 = .ok (.if_icmp .ge 8, 3) := by decide +kernel
theorem dX8_middle_103 : decode cX8_middle 103 = .ok (.iload_n 3, 1) := by decide +kernel
theorem dX8_middle_104 : decode cX8_middle 104 = .ok (.istore_n 1, 1) := by decide +kernel
theorem dX8_middle_105 : decode cX8_middle 105 = .ok (.iload 4, 2) := by decide +kernel
theorem dX8_middle_107 : decode cX8_middle 107 = .ok (.istore_n 2, 1) := by decide +kernel
theorem dX8_middle_108 : decode cX8_middle 108 = .ok (.iinc 3 1, 3) := by decide +kernel
theorem dX8_middle_111 : decode cX8_middle 111 = .ok (.goto (-91), 3) := by decide +kernel
theorem dX8_middle_114 : decode cX8_middle 114 = .ok (.iload_n 1, 1) := by decide +kernel
theorem dX8_middle_115 : decode cX8_middle 115 = .ok (.ireturn, 1) := by decide +kernel
set_option maxRecDepth 20000 in
theorem ggX8_countParts_X8_findFar : GoodIn wsX8_countParts wsX8_findFar := goodIn_r _ [7, 1, 2, 8, 9, 10, 11, 12, 13, 14, 15, 16, 17, 18, 19, 20, 21, 22, 23, 24, 25, 26, 27, 28, 29, 30, 31, 32, 33, 34, 35, 36, 37, 38, 39, 40, 41, 42, 43, 44, 45] (by decide +kernel) (by decide +kernel)
set_option maxRecDepth 20000 in
theorem gX8_countParts_X8_findFar : GoodIn wsX8_countParts (wsV RX8 247 RX8 yX8_findFar wsX8_findFar) := goodIn_app (goodIn_of _ (by decide +kernel)) ggX8_countParts_X8_findFar
theorem dX8_countParts_0 : decode cX8_countParts 0 = .ok (.iconst 0, 1) := by decide +kernel
theorem dX8_countParts_1 : decode cX8_countParts 1 = .ok (.istore_n 1, 1) := by decide +kernel
theorem dX8_countParts_2 : decode cX8_countParts 2 = .ok (.iconst 0, 1) := by decide +kernel
theorem dX8_countParts_3 : decode cX8_countParts 3 = .ok (.istore_n 2, 1) := by decide +kernel
theorem dX8_countParts_4 : decode cX8_countParts 4 = .ok (.iconst 0, 1) := by decide +kernel
theorem dX8_countParts_5 : decode cX8_countParts 5 = .ok (.istore_n 3, 1) := by decide +kernel
theorem dX8_countParts_6 : decode cX8_countParts 6 = .ok (.iload_n 3, 1) := by decide +kernel
theorem dX8_countParts_7 : decode cX8_countParts 7 = .ok (.aload_n 0, 1) := by decide +kernel
theorem dX8_countParts_8 : decode cX8_countParts 8 = .ok (.getfield 37, 3) := by decide +kernel
theorem dX8_countParts_11 : decode cX8_countParts 11 = .ok (.if_icmp .ge 65, 3) := by decide +kernel
theorem dX8_countParts_14 : decode cX8_countParts 14 = .ok (.iload_n 1, 1) := by decide +kernel
theorem dX8_countParts_15 : decode cX8_countParts 15 = .ok (.iload_n 3, 1) := by decide +kernel
theorem dX8_countParts_16 : decode cX8_countParts 16 = .ok (.ishr, 1) := by decide +kernel
theorem dX8_countParts_17 : decode cX8_countParts 17 = .ok (.iconst 1, 1) := by decide +kernel
theorem dX8_countParts_18 : decode cX8_countParts 18 = .ok (.iand, 1) := by decide +kernel
theorem dX8_countParts_19 : decode cX8_countParts 19 = .ok (.ifCond .ne 51, 3) := by decide +kernel
theorem dX8_countParts_22 : decode cX8_countParts 22 = .ok (.iinc 2 1, 3) := by decide +kernel
theorem dX8_countParts_25 : decode cX8_countParts 25 = .ok (.aload_n 0, 1) := by decide +kernel
theorem dX8_countParts_26 : decode cX8_countParts 26 = .ok (.iload_n 3, 1) := by decide +kernel
theorem dX8_countParts_27 : decode cX8_countParts 27 = .ok (.invokevirtual 247, 3) := by decide +kernel
theorem dX8_countParts_30 : decode cX8_countParts 30 = .ok (.iconst 0, 1) := by decide +kernel
theorem dX8_countParts_31 : decode cX8_countParts 31 = .ok (.istore 4, 2) := by decide +kernel
theorem dX8_countParts_33 : decode cX8_countParts 33 = .ok (.iload 4, 2) := by decide +kernel
theorem dX8_countParts_35 : decode cX8_countParts 35 = .ok (.aload_n 0, 1) := by decide +kernel
theorem dX8_countParts_36 : decode cX8_countParts 36 = .ok (.getfield 37, 3) := by decide +kernel
theorem dX8_countParts_39 : decode cX8_countParts 39 = .ok (.if_icmp .ge 31, 3) := by decide +kernel
theorem dX8_countParts_42 : decode cX8_countParts 42 = .ok (.iload_n 1, 1) := by decide +kernel
theorem dX8_countParts_43 : decode cX8_countParts 43 = .ok (.aload_n 0, 1) := by decide +kernel
theorem dX8_countParts_44 : decode cX8_countParts 44 = .ok (.getfield 68, 3) := by decide +kernel
theorem dX8_countParts_47 : decode cX8_countParts 47 = .ok (.iload 4, 2) := by decide +kernel
theorem dX8_countParts_49 : decode cX8_countParts 49 = .ok (.iaload, 1) := by decide +kernel
theorem dX8_countParts_50 : decode cX8_countParts 50 = .ok (.iconst (-1), 1) := by decide +kernel
theorem dX8_countParts_51 : decode cX8_countParts 51 = .ok (.if_icmp .ne 7, 3) := by decide +kernel
theorem dX8_countParts_54 : decode cX8_countParts 54 = .ok (.iconst 0, 1) := by decide +kernel
theorem dX8_countParts_55 : decode cX8_countParts 55 = .ok (.goto 7, 3) := by decide +kernel
theorem dX8_countParts_58 : decode cX8_countParts 58 = .ok (.iconst 1, 1) := by decide +kernel
theorem dX8_countParts_59 : decode cX8_countParts 59 = .ok (.iload 4, 2) := by decide +kernel
theorem dX8_countParts_61 : decode cX8_countParts 61 = .ok (.ishl, 1) := by decide +kernel
theorem dX8_countParts_62 : decode cX8_countParts 62 = .ok (.ior, 1) := by decide +kernel
theorem dX8_countParts_63 : decode cX8_countParts 63 = .ok (.istore_n 1, 1) := by decide +kernel
theorem dX8_countParts_64 : decode cX8_countParts 64 = .ok (.iinc 4 1, 3) := by decide +kernel
theorem dX8_countParts_67 : decode cX8_countParts 67 = .ok (.goto (-34), 3) := by decide +kernel
theorem dX8_countParts_70 : decode cX8_countParts 70 = .ok (.iinc 3 1, 3) := by decide +kernel
theorem dX8_countParts_73 : decode cX8_countParts 73 = .ok (.goto (-67), 3) := by decide +kernel
theorem dX8_countParts_76 : decode cX8_countParts 76 = .ok (.iload_n 2, 1) := by decide +kernel
theorem dX8_countParts_77 : decode cX8_countParts 77 = .ok (.ireturn, 1) := by decide +kernel
set_option maxRecDepth 20000 in
theorem ggX8_parts_X8_countParts : GoodIn wsX8_parts wsX8_countParts := goodIn_r _ [5, 6, 7, 8, 9, 10, 4, 11, 12, 13, 14, 15, 16, 17, 18, 19, 20, 21, 22, 23, 24, 25, 26, 27, 28, 29, 30, 31, 32, 33, 34, 35, 36, 37, 38, 39, 40, 41, 42, 43, 44, 45, 46, 47, 48, 49] (by decide +kernel) (by decide +kernel)
set_option maxRecDepth 20000 in
theorem gX8_parts_X8_countParts : GoodIn wsX8_parts (wsV RX8 251 RX8 yX8_countParts wsX8_countParts) := goodIn_app (goodIn_of _ (by decide +kernel)) ggX8_parts_X8_countParts
theorem dX8_parts_0 : decode cX8_parts 0 = .ok (.aload_n 0, 1) := by decide +kernel
theorem dX8_parts_1 : decode cX8_parts 1 = .ok (.invokevirtual 251, 3) := by decide +kernel
theorem dX8_parts_4 : decode cX8_parts 4 = .ok (.ireturn, 1) := by decide +kernel
set_option maxRecDepth 20000 in
theorem ggX8_newWay_X8_setWay : GoodIn wsX8_newWay wsX8_setWay := goodIn_r _ [7, 2, 17, 18, 19, 20, 21, 22, 23, 24, 25, 26, 27, 28, 29, 30, 31, 32, 33, 34, 35, 36, 37, 38, 39, 40, 41, 42, 43, 44, 45, 46, 47, 48, 49, 50, 51, 52, 53] (by decide +kernel) (by decide +kernel)
set_option maxRecDepth 20000 in
theorem gX8_newWay_X8_setWay : GoodIn wsX8_newWay (wsV RX8 139 RX8 yX8_setWay wsX8_setWay) := goodIn_app (goodIn_of _ (by decide +kernel)) ggX8_newWay_X8_setWay
set_option maxRecDepth 20000 in
theorem ggX8_newWay_X8_countParts : GoodIn wsX8_newWay wsX8_countParts := goodIn_r _ [11, 1, 12, 13, 14, 15, 6, 16, 2, 17, 18, 19, 20, 21, 22, 23, 24, 25, 26, 27, 28, 29, 30, 31, 32, 33, 34, 35, 36, 37, 38, 39, 40, 41, 42, 43, 44, 45, 46, 47, 48, 49, 50, 51, 52, 53] (by decide +kernel) (by decide +kernel)
set_option maxRecDepth 20000 in
theorem gX8_newWay_X8_countParts : GoodIn wsX8_newWay (wsV RX8 251 RX8 yX8_countParts wsX8_countParts) := goodIn_app (goodIn_of _ (by decide +kernel)) ggX8_newWay_X8_countParts
theorem dX8_newWay_0 : decode cX8_newWay 0 = .ok (.iconst (-1), 1) := by decide +kernel
theorem dX8_newWay_1 : decode cX8_newWay 1 = .ok (.istore_n 1, 1) := by decide +kernel
theorem dX8_newWay_2 : decode cX8_newWay 2 = .ok (.iconst 0, 1) := by decide +kernel
theorem dX8_newWay_3 : decode cX8_newWay 3 = .ok (.istore_n 2, 1) := by decide +kernel
theorem dX8_newWay_4 : decode cX8_newWay 4 = .ok (.iconst 0, 1) := by decide +kernel
theorem dX8_newWay_5 : decode cX8_newWay 5 = .ok (.istore_n 3, 1) := by decide +kernel
theorem dX8_newWay_6 : decode cX8_newWay 6 = .ok (.iload_n 3, 1) := by decide +kernel
theorem dX8_newWay_7 : decode cX8_newWay 7 = .ok (.aload_n 0, 1) := by decide +kernel
theorem dX8_newWay_8 : decode cX8_newWay 8 = .ok (.getfield 37, 3) := by decide +kernel
theorem dX8_newWay_11 : decode cX8_newWay 11 = .ok (.if_icmp .ge 87, 3) := by decide +kernel
theorem dX8_newWay_14 : decode cX8_newWay 14 = .ok (.iload_n 3, 1) := by decide +kernel
theorem dX8_newWay_15 : decode cX8_newWay 15 = .ok (.iconst 1, 1) := by decide +kernel
theorem dX8_newWay_16 : decode cX8_newWay 16 = .ok (.iadd, 1) := by decide +kernel
theorem dX8_newWay_17 : decode cX8_newWay 17 = .ok (.istore 4, 2) := by decide +kernel
theorem dX8_newWay_19 : decode cX8_newWay 19 = .ok (.iload 4, 2) := by decide +kernel
theorem dX8_newWay_21 : decode cX8_newWay 21 = .ok (.aload_n 0, 1) := by decide +kernel
theorem dX8_newWay_22 : decode cX8_newWay 22 = .ok (.getfield 37, 3) := by decide +kernel
theorem dX8_newWay_25 : decode cX8_newWay 25 = .ok (.if_icmp .ge 67, 3) := by decide +kernel
theorem dX8_newWay_28 : decode cX8_newWay 28 = .ok (.aload_n 0, 1) := by decide +kernel
theorem dX8_newWay_29 : decode cX8_newWay 29 = .ok (.getfield 41, 3) := by decide +kernel
theorem dX8_newWay_32 : decode cX8_newWay 32 = .ok (.iload_n 3, 1) := by decide +kernel
theorem dX8_newWay_33 : decode cX8_newWay 33 = .ok (.iaload, 1) := by decide +kernel
theorem dX8_newWay_34 : decode cX8_newWay 34 = .ok (.iload 4, 2) := by decide +kernel
theorem dX8_newWay_36 : decode cX8_newWay 36 = .ok (.ishr, 1) := by decide +kernel
theorem dX8_newWay_37 : decode cX8_newWay 37 = .ok (.iconst 1, 1) := by decide +kernel
theorem dX8_newWay_38 : decode cX8_newWay 38 = .ok (.iand, 1) := by decide +kernel
theorem dX8_newWay_39 : decode cX8_newWay 39 = .ok (.ifCond .ne 47, 3) := by decide +kernel
theorem dX8_newWay_42 : decode cX8_newWay 42 = .ok (.aload_n 0, 1) := by decide +kernel
theorem dX8_newWay_43 : decode cX8_newWay 43 = .ok (.iload_n 3, 1) := by decide +kernel
theorem dX8_newWay_44 : decode cX8_newWay 44 = .ok (.iload 4, 2) := by decide +kernel
theorem dX8_newWay_46 : decode cX8_newWay 46 = .ok (.iconst 1, 1) := by decide +kernel
theorem dX8_newWay_47 : decode cX8_newWay 47 = .ok (.invokevirtual 139, 3) := by decide +kernel
theorem dX8_newWay_50 : decode cX8_newWay 50 = .ok (.aload_n 0, 1) := by decide +kernel
theorem dX8_newWay_51 : decode cX8_newWay 51 = .ok (.invokevirtual 251, 3) := by decide +kernel
theorem dX8_newWay_54 : decode cX8_newWay 54 = .ok (.istore 5, 2) := by decide +kernel
theorem dX8_newWay_56 : decode cX8_newWay 56 = .ok (.aload_n 0, 1) := by decide +kernel
theorem dX8_newWay_57 : decode cX8_newWay 57 = .ok (.iload_n 3, 1) := by decide +kernel
theorem dX8_newWay_58 : decode cX8_newWay 58 = .ok (.iload 4, 2) := by decide +kernel
theorem dX8_newWay_60 : decode cX8_newWay 60 = .ok (.iconst 0, 1) := by decide +kernel
theorem dX8_newWay_61 : decode cX8_newWay 61 = .ok (.invokevirtual 139, 3) := by decide +kernel
theorem dX8_newWay_64 : decode cX8_newWay 64 = .ok (.iload_n 1, 1) := by decide +kernel
theorem dX8_newWay_65 : decode cX8_newWay 65 = .ok (.iconst (-1), 1) := by decide +kernel
theorem dX8_newWay_66 : decode cX8_newWay 66 = .ok (.if_icmp .eq 9, 3) := by decide +kernel
theorem dX8_newWay_69 : decode cX8_newWay 69 = .ok (.iload 5, 2) := by decide +kernel
theorem dX8_newWay_71 : decode cX8_newWay 71 = .ok (.iload_n 2, 1) := by decide +kernel
theorem dX8_newWay_72 : decode cX8_newWay 72 = .ok (.if_icmp .ge 14, 3) := by decide +kernel
theorem dX8_newWay_75 : decode cX8_newWay 75 = .ok (.bipush 100, 2) := by decide +kernel
theorem dX8_newWay_77 : decode cX8_newWay 77 = .ok (.iload_n 3, 1) := by decide +kernel
theorem dX8_newWay_78 : decode cX8_newWay 78 = .ok (.imul, 1) := by decide +kernel
theorem dX8_newWay_79 : decode cX8_newWay 79 = .ok (.iload 4, 2) := by decide +kernel
theorem dX8_newWay_81 : decode cX8_newWay 81 = .ok (.iadd, 1) := by decide +kernel
theorem dX8_newWay_82 : decode cX8_newWay 82 = .ok (.istore_n 1, 1) := by decide +kernel
theorem dX8_newWay_83 : decode cX8_newWay 83 = .ok (.iload 5, 2) := by decide +kernel
theorem dX8_newWay_85 : decode cX8_newWay 85 = .ok (.istore_n 2, 1) := by decide +kernel
theorem dX8_newWay_86 : decode cX8_newWay 86 = .ok (.iinc 4 1, 3) := by decide +kernel
theorem dX8_newWay_89 : decode cX8_newWay 89 = .ok (.goto (-70), 3) := by decide +kernel
theorem dX8_newWay_92 : decode cX8_newWay 92 = .ok (.iinc 3 1, 3) := by decide +kernel
theorem dX8_newWay_95 : decode cX8_newWay 95 = .ok (.goto (-89), 3) := by decide +kernel
theorem dX8_newWay_98 : decode cX8_newWay 98 = .ok (.iload_n 1, 1) := by decide +kernel
theorem dX8_newWay_99 : decode cX8_newWay 99 = .ok (.ireturn, 1) := by decide +kernel
theorem dX8_darkens_0 : decode cX8_darkens 0 = .ok (.iload_n 1, 1) := by decide +kernel
theorem dX8_darkens_1 : decode cX8_darkens 1 = .ok (.aload_n 0, 1) := by decide +kernel
theorem dX8_darkens_2 : decode cX8_darkens 2 = .ok (.getfield 77, 3) := by decide +kernel
theorem dX8_darkens_5 : decode cX8_darkens 5 = .ok (.if_icmp .eq 27, 3) := by decide +kernel
theorem dX8_darkens_8 : decode cX8_darkens 8 = .ok (.aload_n 0, 1) := by decide +kernel
theorem dX8_darkens_9 : decode cX8_darkens 9 = .ok (.getfield 44, 3) := by decide +kernel
theorem dX8_darkens_12 : decode cX8_darkens 12 = .ok (.iload_n 1, 1) := by decide +kernel
theorem dX8_darkens_13 : decode cX8_darkens 13 = .ok (.iaload, 1) := by decide +kernel
theorem dX8_darkens_14 : decode cX8_darkens 14 = .ok (.iconst 3, 1) := by decide +kernel
theorem dX8_darkens_15 : decode cX8_darkens 15 = .ok (.if_icmp .eq 17, 3) := by decide +kernel
theorem dX8_darkens_18 : decode cX8_darkens 18 = .ok (.aload_n 0, 1) := by decide +kernel
theorem dX8_darkens_19 : decode cX8_darkens 19 = .ok (.getfield 44, 3) := by decide +kernel
theorem dX8_darkens_22 : decode cX8_darkens 22 = .ok (.iload_n 1, 1) := by decide +kernel
theorem dX8_darkens_23 : decode cX8_darkens 23 = .ok (.iaload, 1) := by decide +kernel
theorem dX8_darkens_24 : decode cX8_darkens 24 = .ok (.iconst 5, 1) := by decide +kernel
theorem dX8_darkens_25 : decode cX8_darkens 25 = .ok (.if_icmp .eq 7, 3) := by decide +kernel
theorem dX8_darkens_28 : decode cX8_darkens 28 = .ok (.iconst 1, 1) := by decide +kernel
theorem dX8_darkens_29 : decode cX8_darkens 29 = .ok (.goto 4, 3) := by decide +kernel
theorem dX8_darkens_32 : decode cX8_darkens 32 = .ok (.iconst 0, 1) := by decide +kernel
theorem dX8_darkens_33 : decode cX8_darkens 33 = .ok (.ireturn, 1) := by decide +kernel
theorem dX8_begin_0 : decode cX8_begin 0 = .ok (.iconst 0, 1) := by decide +kernel
theorem dX8_begin_1 : decode cX8_begin 1 = .ok (.istore_n 1, 1) := by decide +kernel
theorem dX8_begin_2 : decode cX8_begin 2 = .ok (.iload_n 1, 1) := by decide +kernel
theorem dX8_begin_3 : decode cX8_begin 3 = .ok (.aload_n 0, 1) := by decide +kernel
theorem dX8_begin_4 : decode cX8_begin 4 = .ok (.getfield 95, 3) := by decide +kernel
theorem dX8_begin_7 : decode cX8_begin 7 = .ok (.if_icmp .ge 21, 3) := by decide +kernel
theorem dX8_begin_10 : decode cX8_begin 10 = .ok (.aload_n 0, 1) := by decide +kernel
theorem dX8_begin_11 : decode cX8_begin 11 = .ok (.getfield 71, 3) := by decide +kernel
theorem dX8_begin_14 : decode cX8_begin 14 = .ok (.iload_n 1, 1) := by decide +kernel
theorem dX8_begin_15 : decode cX8_begin 15 = .ok (.aload_n 0, 1) := by decide +kernel
theorem dX8_begin_16 : decode cX8_begin 16 = .ok (.getfield 56, 3) := by decide +kernel
theorem dX8_begin_19 : decode cX8_begin 19 = .ok (.iload_n 1, 1) := by decide +kernel
theorem dX8_begin_20 : decode cX8_begin 20 = .ok (.iaload, 1) := by decide +kernel
theorem dX8_begin_21 : decode cX8_begin 21 = .ok (.iastore, 1) := by decide +kernel
theorem dX8_begin_22 : decode cX8_begin 22 = .ok (.iinc 1 1, 3) := by decide +kernel
theorem dX8_begin_25 : decode cX8_begin 25 = .ok (.goto (-23), 3) := by decide +kernel
theorem dX8_begin_28 : decode cX8_begin 28 = .ok (.aload_n 0, 1) := by decide +kernel
theorem dX8_begin_29 : decode cX8_begin 29 = .ok (.aload_n 0, 1) := by decide +kernel
theorem dX8_begin_30 : decode cX8_begin 30 = .ok (.getfield 153, 3) := by decide +kernel
theorem dX8_begin_33 : decode cX8_begin 33 = .ok (.putfield 254, 3) := by decide +kernel
theorem dX8_begin_36 : decode cX8_begin 36 = .ok (.return_, 1) := by decide +kernel
set_option maxRecDepth 20000 in
theorem ggX8_stepToward_X8_findFar : GoodIn wsX8_stepToward wsX8_findFar := goodIn_r _ [8, 1, 3, 2, 9, 10, 11, 12, 13, 14, 15, 16, 17, 18, 19, 20, 21, 22, 23, 24, 25, 26, 27, 28, 29, 30, 31, 32, 33, 34, 35, 36, 37, 38, 39, 40, 41, 42, 43, 44, 45] (by decide +kernel) (by decide +kernel)
set_option maxRecDepth 20000 in
theorem gX8_stepToward_X8_findFar : GoodIn wsX8_stepToward (wsV RX8 247 RX8 yX8_findFar wsX8_findFar) := goodIn_app (goodIn_of _ (by decide +kernel)) ggX8_stepToward_X8_findFar
theorem dX8_stepToward_0 : decode cX8_stepToward 0 = .ok (.aload_n 0, 1) := by decide +kernel
theorem dX8_stepToward_1 : decode cX8_stepToward 1 = .ok (.iload_n 2, 1) := by decide +kernel
theorem dX8_stepToward_2 : decode cX8_stepToward 2 = .ok (.invokevirtual 247, 3) := by decide +kernel
theorem dX8_stepToward_5 : decode cX8_stepToward 5 = .ok (.iconst 0, 1) := by decide +kernel
theorem dX8_stepToward_6 : decode cX8_stepToward 6 = .ok (.istore_n 3, 1) := by decide +kernel
theorem dX8_stepToward_7 : decode cX8_stepToward 7 = .ok (.iload_n 3, 1) := by decide +kernel
theorem dX8_stepToward_8 : decode cX8_stepToward 8 = .ok (.aload_n 0, 1) := by decide +kernel
theorem dX8_stepToward_9 : decode cX8_stepToward 9 = .ok (.getfield 37, 3) := by decide +kernel
theorem dX8_stepToward_12 : decode cX8_stepToward 12 = .ok (.if_icmp .ge 51, 3) := by decide +kernel
theorem dX8_stepToward_15 : decode cX8_stepToward 15 = .ok (.aload_n 0, 1) := by decide +kernel
theorem dX8_stepToward_16 : decode cX8_stepToward 16 = .ok (.getfield 41, 3) := by decide +kernel
theorem dX8_stepToward_19 : decode cX8_stepToward 19 = .ok (.iload_n 1, 1) := by decide +kernel
theorem dX8_stepToward_20 : decode cX8_stepToward 20 = .ok (.iaload, 1) := by decide +kernel
theorem dX8_stepToward_21 : decode cX8_stepToward 21 = .ok (.iload_n 3, 1) := by decide +kernel
theorem dX8_stepToward_22 : decode cX8_stepToward 22 = .ok (.ishr, 1) := by decide +kernel
theorem dX8_stepToward_23 : decode cX8_stepToward 23 = .ok (.iconst 1, 1) := by decide +kernel
theorem dX8_stepToward_24 : decode cX8_stepToward 24 = .ok (.iand, 1) := by decide +kernel
theorem dX8_stepToward_25 : decode cX8_stepToward 25 = .ok (.iconst 1, 1) := by decide +kernel
theorem dX8_stepToward_26 : decode cX8_stepToward 26 = .ok (.if_icmp .ne 31, 3) := by decide +kernel
theorem dX8_stepToward_29 : decode cX8_stepToward 29 = .ok (.aload_n 0, 1) := by decide +kernel
theorem dX8_stepToward_30 : decode cX8_stepToward 30 = .ok (.getfield 68, 3) := by decide +kernel
theorem dX8_stepToward_33 : decode cX8_stepToward 33 = .ok (.iload_n 1, 1) := by decide +kernel
theorem dX8_stepToward_34 : decode cX8_stepToward 34 = .ok (.iaload, 1) := by decide +kernel
theorem dX8_stepToward_35 : decode cX8_stepToward 35 = .ok (.ifCond .le 22, 3) := by decide +kernel
theorem dX8_stepToward_38 : decode cX8_stepToward 38 = .ok (.aload_n 0, 1) := by decide +kernel
theorem dX8_stepToward_39 : decode cX8_stepToward 39 = .ok (.getfield 68, 3) := by decide +kernel
theorem dX8_stepToward_42 : decode cX8_stepToward 42 = .ok (.iload_n 3, 1) := by decide +kernel
theorem dX8_stepToward_43 : decode cX8_stepToward 43 = .ok (.iaload, 1) := by decide +kernel
theorem dX8_stepToward_44 : decode cX8_stepToward 44 = .ok (.aload_n 0, 1) := by decide +kernel
theorem dX8_stepToward_45 : decode cX8_stepToward 45 = .ok (.getfield 68, 3) := by decide +kernel
theorem dX8_stepToward_48 : decode cX8_stepToward 48 = .ok (.iload_n 1, 1) := by decide +kernel
theorem dX8_stepToward_49 : decode cX8_stepToward 49 = .ok (.iaload, 1) := by decide +kernel
theorem dX8_stepToward_50 : decode cX8_stepToward 50 = .ok (.iconst 1, 1) := by decide +kernel
theorem dX8_stepToward_51 : decode cX8_stepToward 51 = .ok (.isub, 1) := by decide +kernel
theorem dX8_stepToward_52 : decode cX8_stepToward 52 = .ok (.if_icmp .ne 5, 3) := by decide +kernel
theorem dX8_stepToward_55 : decode cX8_stepToward 55 = .ok (.iload_n 3, 1) := by decide +kernel
theorem dX8_stepToward_56 : decode cX8_stepToward 56 = .ok (.ireturn, 1) := by decide +kernel
theorem dX8_stepToward_57 : decode cX8_stepToward 57 = .ok (.iinc 3 1, 3) := by decide +kernel
theorem dX8_stepToward_60 : decode cX8_stepToward 60 = .ok (.goto (-53), 3) := by decide +kernel
theorem dX8_stepToward_63 : decode cX8_stepToward 63 = .ok (.iload_n 1, 1) := by decide +kernel
theorem dX8_stepToward_64 : decode cX8_stepToward 64 = .ok (.ireturn, 1) := by decide +kernel
theorem dX8_nextRound_0 : decode cX8_nextRound 0 = .ok (.aload_n 0, 1) := by decide +kernel
theorem dX8_nextRound_1 : decode cX8_nextRound 1 = .ok (.getfield 41, 3) := by decide +kernel
theorem dX8_nextRound_4 : decode cX8_nextRound 4 = .ok (.iload_n 1, 1) := by decide +kernel
theorem dX8_nextRound_5 : decode cX8_nextRound 5 = .ok (.iaload, 1) := by decide +kernel
