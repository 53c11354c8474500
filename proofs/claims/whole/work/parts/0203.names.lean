theorem dX6_skipBlanks_1 : decode cX6_skipBlanks 1 = .ok (.getfield 22, 3) := by decide +kernel
theorem dX6_skipBlanks_4 : decode cX6_skipBlanks 4 = .ok (.aload_n 0, 1) := by decide +kernel
theorem dX6_skipBlanks_5 : decode cX6_skipBlanks 5 = .ok (.getfield 12, 3) := by decide +kernel
theorem dX6_skipBlanks_8 : decode cX6_skipBlanks 8 = .ok (.getfield 124, 3) := by decide +kernel
theorem dX6_skipBlanks_11 : decode cX6_skipBlanks 11 = .ok (.if_icmp .ge 29, 3) := by decide +kernel
theorem dX6_skipBlanks_14 : decode cX6_skipBlanks 14 = .ok (.aload_n 0, 1) := by decide +kernel
theorem dX6_skipBlanks_15 : decode cX6_skipBlanks 15 = .ok (.aload_n 0, 1) := by decide +kernel
theorem dX6_skipBlanks_16 : decode cX6_skipBlanks 16 = .ok (.getfield 22, 3) := by decide +kernel
theorem dX6_skipBlanks_19 : decode cX6_skipBlanks 19 = .ok (.invokevirtual 107, 3) := by decide +kernel
theorem dX6_skipBlanks_22 : decode cX6_skipBlanks 22 = .ok (.bipush 32, 2) := by decide +kernel
theorem dX6_skipBlanks_24 : decode cX6_skipBlanks 24 = .ok (.if_icmp .ne 16, 3) := by decide +kernel
theorem dX6_skipBlanks_27 : decode cX6_skipBlanks 27 = .ok (.aload_n 0, 1) := by decide +kernel
theorem dX6_skipBlanks_28 : decode cX6_skipBlanks 28 = .ok (.dup, 1) := by decide +kernel
theorem dX6_skipBlanks_29 : decode cX6_skipBlanks 29 = .ok (.getfield 22, 3) := by decide +kernel
theorem dX6_skipBlanks_32 : decode cX6_skipBlanks 32 = .ok (.iconst 1, 1) := by decide +kernel
theorem dX6_skipBlanks_33 : decode cX6_skipBlanks 33 = .ok (.iadd, 1) := by decide +kernel
theorem dX6_skipBlanks_34 : decode cX6_skipBlanks 34 = .ok (.putfield 22, 3) := by decide +kernel
theorem dX6_skipBlanks_37 : decode cX6_skipBlanks 37 = .ok (.goto (-37), 3) := by decide +kernel
theorem dX6_skipBlanks_40 : decode cX6_skipBlanks 40 = .ok (.return_, 1) := by decide +kernel
set_option maxRecDepth 20000 in
theorem ggX6_passWord_X6_letterAt : GoodIn wsX6_passWord wsX6_letterAt := goodIn_r _ [8, 2, 3, 9, 13, 14, 15, 16, 17, 18, 19, 20] (by decide +kernel) (by decide +kernel)
set_option maxRecDepth 20000 in
theorem gX6_passWord_X6_letterAt : GoodIn wsX6_passWord (wsV RX6 107 RX6 yX6_letterAt wsX6_letterAt) := goodIn_app (goodIn_of _ (by decide +kernel)) ggX6_passWord_X6_letterAt
set_option maxRecDepth 20000 in
theorem ggX6_passWord_X6_isLetter : GoodIn wsX6_passWord wsX6_isLetter := goodIn_r _ [12] (by decide +kernel) (by decide +kernel)
set_option maxRecDepth 20000 in
theorem gX6_passWord_X6_isLetter : GoodIn wsX6_passWord (va_wsS RX6 111 yX6_isLetter wsX6_isLetter) := goodIn_app (goodIn_of _ (by decide +kernel)) ggX6_passWord_X6_isLetter
theorem dX6_passWord_0 : decode cX6_passWord 0 = .ok (.aload_n 0, 1) := by decide +kernel
theorem dX6_passWord_1 : decode cX6_passWord 1 = .ok (.getfield 22, 3) := by decide +kernel
theorem dX6_passWord_4 : decode cX6_passWord 4 = .ok (.aload_n 0, 1) := by decide +kernel
theorem dX6_passWord_5 : decode cX6_passWord 5 = .ok (.getfield 12, 3) := by decide +kernel
theorem dX6_passWord_8 : decode cX6_passWord 8 = .ok (.getfield 124, 3) := by decide +kernel
theorem dX6_passWord_11 : decode cX6_passWord 11 = .ok (.if_icmp .ge 30, 3) := by decide +kernel
theorem dX6_passWord_14 : decode cX6_passWord 14 = .ok (.aload_n 0, 1) := by decide +kernel
theorem dX6_passWord_15 : decode cX6_passWord 15 = .ok (.aload_n 0, 1) := by decide +kernel
theorem dX6_passWord_16 : decode cX6_passWord 16 = .ok (.getfield 22, 3) := by decide +kernel
theorem dX6_passWord_19 : decode cX6_passWord 19 = .ok (.invokevirtual 107, 3) := by decide +kernel
theorem dX6_passWord_22 : decode cX6_passWord 22 = .ok (.invokestatic 111, 3) := by decide +kernel
theorem dX6_passWord_25 : decode cX6_passWord 25 = .ok (.ifCond .eq 16, 3) := by decide +kernel
theorem dX6_passWord_28 : decode cX6_passWord 28 = .ok (.aload_n 0, 1) := by decide +kernel
theorem dX6_passWord_29 : decode cX6_passWord 29 = .ok (.dup, 1) := by decide +kernel
theorem dX6_passWord_30 : decode cX6_passWord 30 = .ok (.getfield 22, 3) := by decide +kernel
theorem dX6_passWord_33 : decode cX6_passWord 33 = .ok (.iconst 1, 1) := by decide +kernel
theorem dX6_passWord_34 : decode cX6_passWord 34 = .ok (.iadd, 1) := by decide +kernel
theorem dX6_passWord_35 : decode cX6_passWord 35 = .ok (.putfield 22, 3) := by decide +kernel
theorem dX6_passWord_38 : decode cX6_passWord 38 = .ok (.goto (-38), 3) := by decide +kernel
theorem dX6_passWord_41 : decode cX6_passWord 41 = .ok (.return_, 1) := by decide +kernel
set_option maxRecDepth 20000 in
theorem ggX6_passNumber_X6_letterAt : GoodIn wsX6_passNumber wsX6_letterAt := goodIn_r _ [10, 3, 4, 11, 15, 16, 17, 18, 19, 20, 21, 22] (by decide +kernel) (by decide +kernel)
set_option maxRecDepth 20000 in
theorem gX6_passNumber_X6_letterAt : GoodIn wsX6_passNumber (wsV RX6 107 RX6 yX6_letterAt wsX6_letterAt) := goodIn_app (goodIn_of _ (by decide +kernel)) ggX6_passNumber_X6_letterAt
set_option maxRecDepth 20000 in
theorem ggX6_passNumber_X6_isDigit : GoodIn wsX6_passNumber wsX6_isDigit := goodIn_r _ [14] (by decide +kernel) (by decide +kernel)
set_option maxRecDepth 20000 in
theorem gX6_passNumber_X6_isDigit : GoodIn wsX6_passNumber (va_wsS RX6 118 yX6_isDigit wsX6_isDigit) := goodIn_app (goodIn_of _ (by decide +kernel)) ggX6_passNumber_X6_isDigit
theorem dX6_passNumber_0 : decode cX6_passNumber 0 = .ok (.aload_n 0, 1) := by decide +kernel
theorem dX6_passNumber_1 : decode cX6_passNumber 1 = .ok (.iconst 0, 1) := by decide +kernel
theorem dX6_passNumber_2 : decode cX6_passNumber 2 = .ok (.putfield 101, 3) := by decide +kernel
theorem dX6_passNumber_5 : decode cX6_passNumber 5 = .ok (.aload_n 0, 1) := by decide +kernel
theorem dX6_passNumber_6 : decode cX6_passNumber 6 = .ok (.getfield 22, 3) := by decide +kernel
theorem dX6_passNumber_9 : decode cX6_passNumber 9 = .ok (.aload_n 0, 1) := by decide +kernel
theorem dX6_passNumber_10 : decode cX6_passNumber 10 = .ok (.getfield 12, 3) := by decide +kernel
theorem dX6_passNumber_13 : decode cX6_passNumber 13 = .ok (.getfield 124, 3) := by decide +kernel
theorem dX6_passNumber_16 : decode cX6_passNumber 16 = .ok (.if_icmp .ge 66, 3) := by decide +kernel
theorem dX6_passNumber_19 : decode cX6_passNumber 19 = .ok (.aload_n 0, 1) := by decide +kernel
theorem dX6_passNumber_20 : decode cX6_passNumber 20 = .ok (.aload_n 0, 1) := by decide +kernel
theorem dX6_passNumber_21 : decode cX6_passNumber 21 = .ok (.getfield 22, 3) := by decide +kernel
theorem dX6_passNumber_24 : decode cX6_passNumber 24 = .ok (.invokevirtual 107, 3) := by decide +kernel
theorem dX6_passNumber_27 : decode cX6_passNumber 27 = .ok (.invokestatic 118, 3) := by decide +kernel
theorem dX6_passNumber_30 : decode cX6_passNumber 30 = .ok (.ifCond .eq 52, 3) := by decide +kernel
theorem dX6_passNumber_33 : decode cX6_passNumber 33 = .ok (.aload_n 0, 1) := by decide +kernel
theorem dX6_passNumber_34 : decode cX6_passNumber 34 = .ok (.getfield 22, 3) := by decide +kernel
theorem dX6_passNumber_37 : decode cX6_passNumber 37 = .ok (.aload_n 0, 1) := by decide +kernel
theorem dX6_passNumber_38 : decode cX6_passNumber 38 = .ok (.getfield 35, 3) := by decide +kernel
theorem dX6_passNumber_41 : decode cX6_passNumber 41 = .ok (.isub, 1) := by decide +kernel
theorem dX6_passNumber_42 : decode cX6_passNumber 42 = .ok (.iconst 3, 1) := by decide +kernel
theorem dX6_passNumber_43 : decode cX6_passNumber 43 = .ok (.if_icmp .ge 26, 3) := by decide +kernel
theorem dX6_passNumber_46 : decode cX6_passNumber 46 = .ok (.aload_n 0, 1) := by decide +kernel
theorem dX6_passNumber_47 : decode cX6_passNumber 47 = .ok (.aload_n 0, 1) := by decide +kernel
theorem dX6_passNumber_48 : decode cX6_passNumber 48 = .ok (.getfield 101, 3) := by decide +kernel
theorem dX6_passNumber_51 : decode cX6_passNumber 51 = .ok (.bipush 10, 2) := by decide +kernel
theorem dX6_passNumber_53 : decode cX6_passNumber 53 = .ok (.imul, 1) := by decide +kernel
theorem dX6_passNumber_54 : decode cX6_passNumber 54 = .ok (.aload_n 0, 1) := by decide +kernel
theorem dX6_passNumber_55 : decode cX6_passNumber 55 = .ok (.aload_n 0, 1) := by decide +kernel
theorem dX6_passNumber_56 : decode cX6_passNumber 56 = .ok (.getfield 22, 3) := by decide +kernel
theorem dX6_passNumber_59 : decode cX6_passNumber 59 = .ok (.invokevirtual 107, 3) := by decide +kernel
theorem dX6_passNumber_62 : decode cX6_passNumber 62 = .ok (.iadd, 1) := by decide +kernel
theorem dX6_passNumber_63 : decode cX6_passNumber 63 = .ok (.bipush 48, 2) := by decide +kernel
theorem dX6_passNumber_65 : decode cX6_passNumber 65 = .ok (.isub, 1) := by decide +kernel
theorem dX6_passNumber_66 : decode cX6_passNumber 66 = .ok (.putfield 101, 3) := by decide +kernel
theorem dX6_passNumber_69 : decode cX6_passNumber 69 = .ok (.aload_n 0, 1) := by decide +kernel
theorem dX6_passNumber_70 : decode cX6_passNumber 70 = .ok (.dup, 1) := by decide +kernel
theorem dX6_passNumber_71 : decode cX6_passNumber 71 = .ok (.getfield 22, 3) := by decide +kernel
theorem dX6_passNumber_74 : decode cX6_passNumber 74 = .ok (.iconst 1, 1) := by decide +kernel
theorem dX6_passNumber_75 : decode cX6_passNumber 75 = .ok (.iadd, 1) := by decide +kernel
theorem dX6_passNumber_76 : decode cX6_passNumber 76 = .ok (.putfield 22, 3) := by decide +kernel
theorem dX6_passNumber_79 : decode cX6_passNumber 79 = .ok (.goto (-74), 3) := by decide +kernel
theorem dX6_passNumber_82 : decode cX6_passNumber 82 = .ok (.return_, 1) := by decide +kernel
set_option maxRecDepth 20000 in
theorem ggX6_isWord_J0_length_8abf5 : GoodIn wsX6_isWord wsJ0_length_8abf5 := goodIn_r _ [8, 9, 10, 11, 12, 7, 13, 14, 15] (by decide +kernel) (by decide +kernel)
set_option maxRecDepth 20000 in
theorem gX6_isWord_J0_length_8abf5 : GoodIn wsX6_isWord (wsV RX6 127 RJ0 yJ0_length_8abf5 wsJ0_length_8abf5) := goodIn_app (goodIn_of _ (by decide +kernel)) ggX6_isWord_J0_length_8abf5
set_option maxRecDepth 20000 in
theorem ggX6_isWord_X6_letterAt : GoodIn wsX6_isWord wsX6_letterAt := goodIn_r _ [20, 21, 22, 23, 61, 62, 63, 64, 65, 66, 67, 68] (by decide +kernel) (by decide +kernel)
set_option maxRecDepth 20000 in
theorem gX6_isWord_X6_letterAt : GoodIn wsX6_isWord (wsV RX6 107 RX6 yX6_letterAt wsX6_letterAt) := goodIn_app (goodIn_of _ (by decide +kernel)) ggX6_isWord_X6_letterAt
set_option maxRecDepth 20000 in
theorem ggX6_isWord_J0_charAt_5068e : GoodIn wsX6_isWord wsJ0_charAt_5068e := goodIn_r _ [27, 9, 28, 29, 30, 7, 31, 14, 15, 32, 33, 34, 35, 36, 37, 38, 39, 40, 41, 42, 43, 44, 45, 46, 47, 48, 49, 50, 51, 52, 53, 54, 55, 56, 57, 58, 59, 60] (by decide +kernel) (by decide +kernel)
set_option maxRecDepth 20000 in
theorem gX6_isWord_J0_charAt_5068e : GoodIn wsX6_isWord (wsV RX6 133 RJ0 yJ0_charAt_5068e wsJ0_charAt_5068e) := goodIn_app (goodIn_of _ (by decide +kernel)) ggX6_isWord_J0_charAt_5068e
theorem dX6_isWord_0 : decode cX6_isWord 0 = .ok (.aload_n 0, 1) := by decide +kernel
theorem dX6_isWord_1 : decode cX6_isWord 1 = .ok (.getfield 32, 3) := by decide +kernel
theorem dX6_isWord_4 : decode cX6_isWord 4 = .ok (.iconst 1, 1) := by decide +kernel
theorem dX6_isWord_5 : decode cX6_isWord 5 = .ok (.if_icmp .ne 19, 3) := by decide +kernel
theorem dX6_isWord_8 : decode cX6_isWord 8 = .ok (.aload_n 0, 1) := by decide +kernel
theorem dX6_isWord_9 : decode cX6_isWord 9 = .ok (.getfield 22, 3) := by decide +kernel
theorem dX6_isWord_12 : decode cX6_isWord 12 = .ok (.aload_n 0, 1) := by decide +kernel
theorem dX6_isWord_13 : decode cX6_isWord 13 = .ok (.getfield 35, 3) := by decide +kernel
theorem dX6_isWord_16 : decode cX6_isWord 16 = .ok (.isub, 1) := by decide +kernel
theorem dX6_isWord_17 : decode cX6_isWord 17 = .ok (.aload_n 1, 1) := by decide +kernel
theorem dX6_isWord_18 : decode cX6_isWord 18 = .ok (.invokevirtual 127, 3) := by decide +kernel
theorem dX6_isWord_21 : decode cX6_isWord 21 = .ok (.if_icmp .eq 5, 3) := by decide +kernel
theorem dX6_isWord_24 : decode cX6_isWord 24 = .ok (.iconst 0, 1) := by decide +kernel
theorem dX6_isWord_25 : decode cX6_isWord 25 = .ok (.ireturn, 1) := by decide +kernel
theorem dX6_isWord_26 : decode cX6_isWord 26 = .ok (.iconst 0, 1) := by decide +kernel
theorem dX6_isWord_27 : decode cX6_isWord 27 = .ok (.istore_n 2, 1) := by decide +kernel
theorem dX6_isWord_28 : decode cX6_isWord 28 = .ok (.iload_n 2, 1) := by decide +kernel
theorem dX6_isWord_29 : decode cX6_isWord 29 = .ok (.aload_n 1, 1) := by decide +kernel
theorem dX6_isWord_30 : decode cX6_isWord 30 = .ok (.invokevirtual 127, 3) := by decide +kernel
theorem dX6_isWord_33 : decode cX6_isWord 33 = .ok (.if_icmp .ge 29, 3) := by decide +kernel
theorem dX6_isWord_36 : decode cX6_isWord 36 = .ok (.aload_n 0, 1) := by decide +kernel
theorem dX6_isWord_37 : decode cX6_isWord 37 = .ok (.aload_n 0, 1) := by decide +kernel
theorem dX6_isWord_38 : decode cX6_isWord 38 = .ok (.getfield 35, 3) := by decide +kernel
theorem dX6_isWord_41 : decode cX6_isWord 41 = .ok (.iload_n 2, 1) := by decide +kernel
theorem dX6_isWord_42 : decode cX6_isWord 42 = .ok (.iadd, 1) := by decide +kernel
theorem dX6_isWord_43 : decode cX6_isWord 43 = .ok (.invokevirtual 107, 3) := by decide +kernel
theorem dX6_isWord_46 : decode cX6_isWord 46 = .ok (.aload_n 1, 1) := by decide +kernel
theorem dX6_isWord_47 : decode cX6_isWord 47 = .ok (.iload_n 2, 1) := by decide +kernel
theorem dX6_isWord_48 : decode cX6_isWord 48 = .ok (.invokevirtual 133, 3) := by decide +kernel
theorem dX6_isWord_51 : decode cX6_isWord 51 = .ok (.if_icmp .eq 5, 3) := by decide +kernel
theorem dX6_isWord_54 : decode cX6_isWord 54 = .ok (.iconst 0, 1) := by decide +kernel
theorem dX6_isWord_55 : decode cX6_isWord 55 = .ok (.ireturn, 1) := by decide +kernel
theorem dX6_isWord_56 : decode cX6_isWord 56 = .ok (.iinc 2 1, 3) := by decide +kernel
theorem dX6_isWord_59 : decode cX6_isWord 59 = .ok (.goto (-31), 3) := by decide +kernel
theorem dX6_isWord_62 : decode cX6_isWord 62 = .ok (.iconst 1, 1) := by decide +kernel
theorem dX6_isWord_63 : decode cX6_isWord 63 = .ok (.ireturn, 1) := by decide +kernel
theorem dX6_letterAt_0 : decode cX6_letterAt 0 = .ok (.iload_n 1, 1) := by decide +kernel
theorem dX6_letterAt_1 : decode cX6_letterAt 1 = .ok (.ifCond .lt 26, 3) := by decide +kernel
theorem dX6_letterAt_4 : decode cX6_letterAt 4 = .ok (.iload_n 1, 1) := by decide +kernel
theorem dX6_letterAt_5 : decode cX6_letterAt 5 = .ok (.aload_n 0, 1) := by decide +kernel
theorem dX6_letterAt_6 : decode cX6_letterAt 6 = .ok (.getfield 12, 3) := by decide +kernel
theorem dX6_letterAt_9 : decode cX6_letterAt 9 = .ok (.getfield 124, 3) := by decide +kernel
theorem dX6_letterAt_12 : decode cX6_letterAt 12 = .ok (.if_icmp .ge 15, 3) := by decide +kernel
theorem dX6_letterAt_15 : decode cX6_letterAt 15 = .ok (.aload_n 0, 1) := by decide +kernel
theorem dX6_letterAt_16 : decode cX6_letterAt 16 = .ok (.getfield 12, 3) := by decide +kernel
theorem dX6_letterAt_19 : decode cX6_letterAt 19 = .ok (.getfield 137, 3) := by decide +kernel
theorem dX6_letterAt_22 : decode cX6_letterAt 22 = .ok (.iload_n 1, 1) := by decide +kernel
theorem dX6_letterAt_23 : decode cX6_letterAt 23 = .ok (.iaload, 1) := by decide +kernel
theorem dX6_letterAt_24 : decode cX6_letterAt 24 = .ok (.goto 4, 3) := by decide +kernel
theorem dX6_letterAt_27 : decode cX6_letterAt 27 = .ok (.iconst (-1), 1) := by decide +kernel
theorem dX6_letterAt_28 : decode cX6_letterAt 28 = .ok (.ireturn, 1) := by decide +kernel
theorem dX6_isLetter_0 : decode cX6_isLetter 0 = .ok (.iload_n 0, 1) := by decide +kernel
theorem dX6_isLetter_1 : decode cX6_isLetter 1 = .ok (.bipush 97, 2) := by decide +kernel
theorem dX6_isLetter_3 : decode cX6_isLetter 3 = .ok (.if_icmp .lt 13, 3) := by decide +kernel
theorem dX6_isLetter_6 : decode cX6_isLetter 6 = .ok (.iload_n 0, 1) := by decide +kernel
theorem dX6_isLetter_7 : decode cX6_isLetter 7 = .ok (.bipush 122, 2) := by decide +kernel
theorem dX6_isLetter_9 : decode cX6_isLetter 9 = .ok (.if_icmp .gt 7, 3) := by decide +kernel
theorem dX6_isLetter_12 : decode cX6_isLetter 12 = .ok (.iconst 1, 1) := by decide +kernel
theorem dX6_isLetter_13 : decode cX6_isLetter 13 = .ok (.goto 4, 3) := by decide +kernel
theorem dX6_isLetter_16 : decode cX6_isLetter 16 = .ok (.iconst 0, 1) := by decide +kernel
theorem dX6_isLetter_17 : decode cX6_isLetter 17 = .ok (.ireturn, 1) := by decide +kernel
theorem dX6_isDigit_0 : decode cX6_isDigit 0 = .ok (.iload_n 0, 1) := by decide +kernel
theorem dX6_isDigit_1 : decode cX6_isDigit 1 = .ok (.bipush 48, 2) := by decide +kernel
theorem dX6_isDigit_3 : decode cX6_isDigit 3 = .ok (.if_icmp .lt 13, 3) := by decide +kernel
theorem dX6_isDigit_6 : decode cX6_isDigit 6 = .ok (.iload_n 0, 1) := by decide +kernel
theorem dX6_isDigit_7 : decode cX6_isDigit 7 = .ok (.bipush 57, 2) := by decide +kernel
theorem dX6_isDigit_9 : decode cX6_isDigit 9 = .ok (.if_icmp .gt 7, 3) := by decide +kernel
theorem dX6_isDigit_12 : decode cX6_isDigit 12 = .ok (.iconst 1, 1) := by decide +kernel
theorem dX6_isDigit_13 : decode cX6_isDigit 13 = .ok (.goto 4, 3) := by decide +kernel
theorem dX6_isDigit_16 : decode cX6_isDigit 16 = .ok (.iconst 0, 1) := by decide +kernel
theorem dX6_isDigit_17 : decode cX6_isDigit 17 = .ok (.ireturn, 1) := by decide +kernel
set_option maxRecDepth 20000 in
theorem ggX7_init_X5_init : GoodIn wsX7_init wsX5_init := goodIn_r _ [37, 38, 2, 3, 39, 33, 40, 41, 42, 43, 44, 45, 46, 47, 48, 49, 50, 51, 6, 52, 53, 54, 55, 56, 57, 58, 59, 60, 61, 62, 63, 94, 95, 96, 97, 98, 99, 100, 101, 102, 103, 104, 105] (by decide +kernel) (by decide +kernel)
set_option maxRecDepth 20000 in
theorem gX7_init_X5_init : GoodIn wsX7_init (wsX5_init) := ggX7_init_X5_init
set_option maxRecDepth 20000 in
theorem ggX7_init_X2_init : GoodIn wsX7_init wsX2_init := goodIn_r _ [65, 66, 2, 3, 67, 68, 69, 118, 119, 120] (by decide +kernel) (by decide +kernel)
set_option maxRecDepth 20000 in
theorem gX7_init_X2_init_n31 : GoodIn wsX7_init (wsX2_init) := ggX7_init_X2_init
set_option maxRecDepth 20000 in
theorem ggX7_init_X6_init : GoodIn wsX7_init wsX6_init := goodIn_r _ [71, 72, 2, 3, 73, 74, 75, 76, 77, 78, 79, 80, 33, 81, 132, 133, 121, 122, 123, 124, 125, 126] (by decide +kernel) (by decide +kernel)
set_option maxRecDepth 20000 in
theorem gX7_init_X6_init_n34 : GoodIn wsX7_init (wsX6_init) := ggX7_init_X6_init
set_option maxRecDepth 20000 in
theorem ggX7_init_X1_init : GoodIn wsX7_init wsX1_init := goodIn_r _ [83, 84, 2, 3, 85, 33, 86, 127, 128] (by decide +kernel) (by decide +kernel)
set_option maxRecDepth 20000 in
theorem gX7_init_X1_init_n46 : GoodIn wsX7_init (wsX1_init) := ggX7_init_X1_init
set_option maxRecDepth 20000 in
theorem ggX7_init_X3_init : GoodIn wsX7_init wsX3_init := goodIn_r _ [88, 89, 2, 3, 33, 90, 129] (by decide +kernel) (by decide +kernel)
set_option maxRecDepth 20000 in
theorem gX7_init_X3_init_n53 : GoodIn wsX7_init (wsX3_init) := ggX7_init_X3_init
set_option maxRecDepth 20000 in
theorem ggX7_init_X0_init : GoodIn wsX7_init wsX0_init := goodIn_r _ [92, 93, 2, 3] (by decide +kernel) (by decide +kernel)
set_option maxRecDepth 20000 in
theorem gX7_init_X0_init_n60 : GoodIn wsX7_init (wsX0_init) := ggX7_init_X0_init
theorem dX7_init_0 : decode cX7_init 0 = .ok (.aload_n 0, 1) := by decide +kernel
theorem dX7_init_1 : decode cX7_init 1 = .ok (.invokespecial 1, 3) := by decide +kernel
theorem dX7_init_4 : decode cX7_init 4 = .ok (.aload_n 0, 1) := by decide +kernel
theorem dX7_init_5 : decode cX7_init 5 = .ok (.new 7, 3) := by decide +kernel
theorem dX7_init_8 : decode cX7_init 8 = .ok (.dup, 1) := by decide +kernel
theorem dX7_init_9 : decode cX7_init 9 = .ok (.invokespecial 9, 3) := by decide +kernel
theorem dX7_init_12 : decode cX7_init 12 = .ok (.putfield 10, 3) := by decide +kernel
theorem dX7_init_15 : decode cX7_init 15 = .ok (.aload_n 0, 1) := by decide +kernel
theorem dX7_init_16 : decode cX7_init 16 = .ok (.new 7, 3) := by decide +kernel
theorem dX7_init_19 : decode cX7_init 19 = .ok (.dup, 1) := by decide +kernel
theorem dX7_init_20 : decode cX7_init 20 = .ok (.invokespecial 9, 3) := by decide +kernel
theorem dX7_init_23 : decode cX7_init 23 = .ok (.putfield 16, 3) := by decide +kernel
theorem dX7_init_26 : decode cX7_init 26 = .ok (.aload_n 0, 1) := by decide +kernel
theorem dX7_init_27 : decode cX7_init 27 = .ok (.new 7, 3) := by decide +kernel
theorem dX7_init_30 : decode cX7_init 30 = .ok (.dup, 1) := by decide +kernel
theorem dX7_init_31 : decode cX7_init 31 = .ok (.invokespecial 9, 3) := by decide +kernel
theorem dX7_init_34 : decode cX7_init 34 = .ok (.putfield 19, 3) := by decide +kernel
theorem dX7_init_37 : decode cX7_init 37 = .ok (.aload_n 0, 1) := by decide +kernel
theorem dX7_init_38 : decode cX7_init 38 = .ok (.new 7, 3) := by decide +kernel
theorem dX7_init_41 : decode cX7_init 41 = .ok (.dup, 1) := by decide +kernel
theorem dX7_init_42 : decode cX7_init 42 = .ok (.invokespecial 9, 3) := by decide +kernel
theorem dX7_init_45 : decode cX7_init 45 = .ok (.putfield 22, 3) := by decide +kernel
theorem dX7_init_48 : decode cX7_init 48 = .ok (.aload_n 0, 1) := by decide +kernel
theorem dX7_init_49 : decode cX7_init 49 = .ok (.bipush 8, 2) := by decide +kernel
theorem dX7_init_51 : decode cX7_init 51 = .ok (.anewarray 25, 3) := by decide +kernel
theorem dX7_init_54 : decode cX7_init 54 = .ok (.putfield 27, 3) := by decide +kernel
theorem dX7_init_57 : decode cX7_init 57 = .ok (.iconst 0, 1) := by decide +kernel
theorem dX7_init_58 : decode cX7_init 58 = .ok (.istore_n 1, 1) := by decide +kernel
theorem dX7_init_59 : decode cX7_init 59 = .ok (.iload_n 1, 1) := by decide +kernel
theorem dX7_init_60 : decode cX7_init 60 = .ok (.bipush 8, 2) := by decide +kernel
theorem dX7_init_62 : decode cX7_init 62 = .ok (.if_icmp .ge 22, 3) := by decide +kernel
theorem dX7_init_65 : decode cX7_init 65 = .ok (.aload_n 0, 1) := by decide +kernel
theorem dX7_init_66 : decode cX7_init 66 = .ok (.getfield 27, 3) := by decide +kernel
theorem dX7_init_69 : decode cX7_init 69 = .ok (.iload_n 1, 1) := by decide +kernel
theorem dX7_init_70 : decode cX7_init 70 = .ok (.new 25, 3) := by decide +kernel
theorem dX7_init_73 : decode cX7_init 73 = .ok (.dup, 1) := by decide +kernel
theorem dX7_init_74 : decode cX7_init 74 = .ok (.invokespecial 31, 3) := by decide +kernel
theorem dX7_init_77 : decode cX7_init 77 = .ok (.aastore, 1) := by decide +kernel
theorem dX7_init_78 : decode cX7_init 78 = .ok (.iinc 1 1, 3) := by decide +kernel
theorem dX7_init_81 : decode cX7_init 81 = .ok (.goto (-22), 3) := by decide +kernel
theorem dX7_init_84 : decode cX7_init 84 = .ok (.aload_n 0, 1) := by decide +kernel
theorem dX7_init_85 : decode cX7_init 85 = .ok (.new 32, 3) := by decide +kernel
theorem dX7_init_88 : decode cX7_init 88 = .ok (.dup, 1) := by decide +kernel
theorem dX7_init_89 : decode cX7_init 89 = .ok (.invokespecial 34, 3) := by decide +kernel
theorem dX7_init_92 : decode cX7_init 92 = .ok (.putfield 35, 3) := by decide +kernel
theorem dX7_init_95 : decode cX7_init 95 = .ok (.aload_n 0, 1) := by decide +kernel
theorem dX7_init_96 : decode cX7_init 96 = .ok (.aload_n 0, 1) := by decide +kernel
theorem dX7_init_97 : decode cX7_init 97 = .ok (.getfield 35, 3) := by decide +kernel
theorem dX7_init_100 : decode cX7_init 100 = .ok (.getfield 39, 3) := by decide +kernel
theorem dX7_init_103 : decode cX7_init 103 = .ok (.putfield 43, 3) := by decide +kernel
theorem dX7_init_106 : decode cX7_init 106 = .ok (.aload_n 0, 1) := by decide +kernel
theorem dX7_init_107 : decode cX7_init 107 = .ok (.new 44, 3) := by decide +kernel
theorem dX7_init_110 : decode cX7_init 110 = .ok (.dup, 1) := by decide +kernel
theorem dX7_init_111 : decode cX7_init 111 = .ok (.invokespecial 46, 3) := by decide +kernel
theorem dX7_init_114 : decode cX7_init 114 = .ok (.putfield 47, 3) := by decide +kernel
theorem dX7_init_117 : decode cX7_init 117 = .ok (.aload_n 0, 1) := by decide +kernel
theorem dX7_init_118 : decode cX7_init 118 = .ok (.new 51, 3) := by decide +kernel
theorem dX7_init_121 : decode cX7_init 121 = .ok (.dup, 1) := by decide +kernel
theorem dX7_init_122 : decode cX7_init 122 = .ok (.invokespecial 53, 3) := by decide +kernel
theorem dX7_init_125 : decode cX7_init 125 = .ok (.putfield 54, 3) := by decide +kernel
theorem dX7_init_128 : decode cX7_init 128 = .ok (.aload_n 0, 1) := by decide +kernel
theorem dX7_init_129 : decode cX7_init 129 = .ok (.new 58, 3) := by decide +kernel
theorem dX7_init_132 : decode cX7_init 132 = .ok (.dup, 1) := by decide +kernel
theorem dX7_init_133 : decode cX7_init 133 = .ok (.invokespecial 60, 3) := by decide +kernel
theorem dX7_init_136 : decode cX7_init 136 = .ok (.putfield 61, 3) := by decide +kernel
theorem dX7_init_139 : decode cX7_init 139 = .ok (.aload_n 0, 1) := by decide +kernel
theorem dX7_init_140 : decode cX7_init 140 = .ok (.iconst 5, 1) := by decide +kernel
theorem dX7_init_141 : decode cX7_init 141 = .ok (.newarray .int, 2) := by decide +kernel
theorem dX7_init_143 : decode cX7_init 143 = .ok (.putfield 65, 3) := by decide +kernel
theorem dX7_init_146 : decode cX7_init 146 = .ok (.return_, 1) := by decide +kernel
set_option maxRecDepth 20000 in
theorem ggX7_row_X7_isShelf : GoodIn wsX7_row wsX7_isShelf := goodIn_r _ [5] (by decide +kernel) (by decide +kernel)
set_option maxRecDepth 20000 in
theorem gX7_row_X7_isShelf : GoodIn wsX7_row (va_wsS RX7 69 yX7_isShelf wsX7_isShelf) := goodIn_app (goodIn_of _ (by decide +kernel)) ggX7_row_X7_isShelf
set_option maxRecDepth 20000 in
theorem ggX7_row_X7_refuse : GoodIn wsX7_row wsX7_refuse := goodIn_r _ [9, 10, 19, 20, 21, 22, 23, 24, 25, 26, 27, 28, 29, 30] (by decide +kernel) (by decide +kernel)
set_option maxRecDepth 20000 in
theorem gX7_row_X7_refuse : GoodIn wsX7_row (wsV RX7 73 RX7 yX7_refuse wsX7_refuse) := goodIn_app (goodIn_of _ (by decide +kernel)) ggX7_row_X7_refuse
set_option maxRecDepth 20000 in
theorem ggX7_row_X2_takeRow : GoodIn wsX7_row wsX2_takeRow := goodIn_r _ [15, 16, 17, 18, 31, 32, 33] (by decide +kernel) (by decide +kernel)
set_option maxRecDepth 20000 in
theorem gX7_row_X2_takeRow : GoodIn wsX7_row (wsV RX7 77 RX2 yX2_takeRow wsX2_takeRow) := goodIn_app (goodIn_of _ (by decide +kernel)) ggX7_row_X2_takeRow
theorem dX7_row_0 : decode cX7_row 0 = .ok (.iload_n 1, 1) := by decide +kernel
theorem dX7_row_1 : decode cX7_row 1 = .ok (.invokestatic 69, 3) := by decide +kernel
theorem dX7_row_4 : decode cX7_row 4 = .ok (.ifCond .eq 22, 3) := by decide +kernel
theorem dX7_row_7 : decode cX7_row 7 = .ok (.iload_n 2, 1) := by decide +kernel
theorem dX7_row_8 : decode cX7_row 8 = .ok (.ifCond .lt 18, 3) := by decide +kernel
theorem dX7_row_11 : decode cX7_row 11 = .ok (.iload_n 2, 1) := by decide +kernel
theorem dX7_row_12 : decode cX7_row 12 = .ok (.iconst 4, 1) := by decide +kernel
theorem dX7_row_13 : decode cX7_row 13 = .ok (.if_icmp .gt 13, 3) := by decide +kernel
theorem dX7_row_16 : decode cX7_row 16 = .ok (.iload_n 3, 1) := by decide +kernel
theorem dX7_row_17 : decode cX7_row 17 = .ok (.ifCond .lt 9, 3) := by decide +kernel
theorem dX7_row_20 : decode cX7_row 20 = .ok (.iload_n 3, 1) := by decide +kernel
theorem dX7_row_21 : decode cX7_row 21 = .ok (.bipush 40, 2) := by decide +kernel
theorem dX7_row_23 : decode cX7_row 23 = .ok (.if_icmp .le 10, 3) := by decide +kernel
theorem dX7_row_26 : decode cX7_row 26 = .ok (.aload_n 0, 1) := by decide +kernel
theorem dX7_row_27 : decode cX7_row 27 = .ok (.bipush (-2), 2) := by decide +kernel
theorem dX7_row_29 : decode cX7_row 29 = .ok (.invokevirtual 73, 3) := by decide +kernel
theorem dX7_row_32 : decode cX7_row 32 = .ok (.ireturn, 1) := by decide +kernel
theorem dX7_row_33 : decode cX7_row 33 = .ok (.aload_n 0, 1) := by decide +kernel
theorem dX7_row_34 : decode cX7_row 34 = .ok (.getfield 27, 3) := by decide +kernel
theorem dX7_row_37 : decode cX7_row 37 = .ok (.iload_n 1, 1) := by decide +kernel
theorem dX7_row_38 : decode cX7_row 38 = .ok (.aaload, 1) := by decide +kernel
theorem dX7_row_39 : decode cX7_row 39 = .ok (.iload_n 2, 1) := by decide +kernel
theorem dX7_row_40 : decode cX7_row 40 = .ok (.iload_n 3, 1) := by decide +kernel
theorem dX7_row_41 : decode cX7_row 41 = .ok (.invokevirtual 77, 3) := by decide +kernel
theorem dX7_row_44 : decode cX7_row 44 = .ok (.iconst 1, 1) := by decide +kernel
theorem dX7_row_45 : decode cX7_row 45 = .ok (.ireturn, 1) := by decide +kernel
set_option maxRecDepth 20000 in
theorem ggX7_set_X7_rowReason : GoodIn wsX7_set wsX7_rowReason := goodIn_r _ [6, 1, 7, 8, 5, 9, 10, 11, 12, 13, 14, 15, 16, 17, 18, 19, 35, 36, 37, 38, 39, 40, 41, 42, 43, 44, 45, 46, 47, 48, 49] (by decide +kernel) (by decide +kernel)
set_option maxRecDepth 20000 in
theorem gX7_set_X7_rowReason : GoodIn wsX7_set (wsV RX7 81 RX7 yX7_rowReason wsX7_rowReason) := goodIn_app (goodIn_of _ (by decide +kernel)) ggX7_set_X7_rowReason
set_option maxRecDepth 20000 in
theorem ggX7_set_X2_hasElement : GoodIn wsX7_set wsX2_hasElement := goodIn_r _ [23, 24, 47, 48, 49] (by decide +kernel) (by decide +kernel)
set_option maxRecDepth 20000 in
theorem gX7_set_X2_hasElement : GoodIn wsX7_set (wsV RX7 84 RX2 yX2_hasElement wsX2_hasElement) := goodIn_app (goodIn_of _ (by decide +kernel)) ggX7_set_X2_hasElement
set_option maxRecDepth 20000 in
theorem ggX7_set_X7_refuse : GoodIn wsX7_set wsX7_refuse := goodIn_r _ [28, 29, 35, 36, 37, 38, 39, 40, 41, 42, 43, 44, 45, 46] (by decide +kernel) (by decide +kernel)
set_option maxRecDepth 20000 in
theorem gX7_set_X7_refuse : GoodIn wsX7_set (wsV RX7 73 RX7 yX7_refuse wsX7_refuse) := goodIn_app (goodIn_of _ (by decide +kernel)) ggX7_set_X7_refuse
set_option maxRecDepth 20000 in
theorem ggX7_set_X2_store : GoodIn wsX7_set wsX2_store := goodIn_r _ [33, 15, 34, 47, 48, 49] (by decide +kernel) (by decide +kernel)
set_option maxRecDepth 20000 in
theorem gX7_set_X2_store : GoodIn wsX7_set (wsV RX7 87 RX2 yX2_store wsX2_store) := goodIn_app (goodIn_of _ (by decide +kernel)) ggX7_set_X2_store
theorem dX7_set_0 : decode cX7_set 0 = .ok (.aload_n 0, 1) := by decide +kernel
theorem dX7_set_1 : decode cX7_set 1 = .ok (.iload_n 1, 1) := by decide +kernel
theorem dX7_set_2 : decode cX7_set 2 = .ok (.invokevirtual 81, 3) := by decide +kernel
theorem dX7_set_5 : decode cX7_set 5 = .ok (.istore 5, 2) := by decide +kernel
theorem dX7_set_7 : decode cX7_set 7 = .ok (.iload 5, 2) := by decide +kernel
theorem dX7_set_9 : decode cX7_set 9 = .ok (.ifCond .ne 20, 3) := by decide +kernel
theorem dX7_set_12 : decode cX7_set 12 = .ok (.aload_n 0, 1) := by decide +kernel
theorem dX7_set_13 : decode cX7_set 13 = .ok (.getfield 27, 3) := by decide +kernel
theorem dX7_set_16 : decode cX7_set 16 = .ok (.iload_n 1, 1) := by decide +kernel
theorem dX7_set_17 : decode cX7_set 17 = .ok (.aaload, 1) := by decide +kernel
theorem dX7_set_18 : decode cX7_set 18 = .ok (.iload_n 2, 1) := by decide +kernel
theorem dX7_set_19 : decode cX7_set 19 = .ok (.invokevirtual 84, 3) := by decide +kernel
theorem dX7_set_22 : decode cX7_set 22 = .ok (.ifCond .ne 7, 3) := by decide +kernel
theorem dX7_set_25 : decode cX7_set 25 = .ok (.bipush (-2), 2) := by decide +kernel
theorem dX7_set_27 : decode cX7_set 27 = .ok (.istore 5, 2) := by decide +kernel
theorem dX7_set_29 : decode cX7_set 29 = .ok (.iload 5, 2) := by decide +kernel
theorem dX7_set_31 : decode cX7_set 31 = .ok (.ifCond .eq 10, 3) := by decide +kernel
theorem dX7_set_34 : decode cX7_set 34 = .ok (.aload_n 0, 1) := by decide +kernel
theorem dX7_set_35 : decode cX7_set 35 = .ok (.iload 5, 2) := by decide +kernel
theorem dX7_set_37 : decode cX7_set 37 = .ok (.invokevirtual 73, 3) := by decide +kernel
theorem dX7_set_40 : decode cX7_set 40 = .ok (.ireturn, 1) := by decide +kernel
theorem dX7_set_41 : decode cX7_set 41 = .ok (.aload_n 0, 1) := by decide +kernel
theorem dX7_set_42 : decode cX7_set 42 = .ok (.getfield 27, 3) := by decide +kernel
theorem dX7_set_45 : decode cX7_set 45 = .ok (.iload_n 1, 1) := by decide +kernel
theorem dX7_set_46 : decode cX7_set 46 = .ok (.aaload, 1) := by decide +kernel
theorem dX7_set_47 : decode cX7_set 47 = .ok (.iload_n 2, 1) := by decide +kernel
theorem dX7_set_48 : decode cX7_set 48 = .ok (.lload_n 3, 1) := by decide +kernel
theorem dX7_set_49 : decode cX7_set 49 = .ok (.invokevirtual 87, 3) := by decide +kernel
theorem dX7_set_52 : decode cX7_set 52 = .ok (.iconst 1, 1) := by decide +kernel
theorem dX7_set_53 : decode cX7_set 53 = .ok (.ireturn, 1) := by decide +kernel
set_option maxRecDepth 20000 in
theorem ggX7_copy_X7_twoRowsReason : GoodIn wsX7_copy wsX7_twoRowsReason := goodIn_r _ [11, 1, 12, 13, 14, 15, 10, 16, 17, 18, 19, 20, 21, 22, 23, 24, 25, 26, 27, 28, 29, 40, 41, 42, 43, 44, 45, 46, 47, 48, 49, 50, 51, 52, 53, 54] (by decide +kernel) (by decide +kernel)
set_option maxRecDepth 20000 in
theorem gX7_copy_X7_twoRowsReason : GoodIn wsX7_copy (wsV RX7 91 RX7 yX7_twoRowsReason wsX7_twoRowsReason) := goodIn_app (goodIn_of _ (by decide +kernel)) ggX7_copy_X7_twoRowsReason
set_option maxRecDepth 20000 in
theorem ggX7_copy_X2_hasElements : GoodIn wsX7_copy wsX2_hasElements := goodIn_r _ [33, 34, 52, 53, 54] (by decide +kernel) (by decide +kernel)
set_option maxRecDepth 20000 in
theorem gX7_copy_X2_hasElements : GoodIn wsX7_copy (wsV RX7 95 RX2 yX2_hasElements wsX2_hasElements) := goodIn_app (goodIn_of _ (by decide +kernel)) ggX7_copy_X2_hasElements
set_option maxRecDepth 20000 in
theorem ggX7_copy_X7_refuse : GoodIn wsX7_copy wsX7_refuse := goodIn_r _ [38, 39, 40, 41, 42, 43, 44, 45, 46, 47, 48, 49, 50, 51] (by decide +kernel) (by decide +kernel)
set_option maxRecDepth 20000 in
theorem gX7_copy_X7_refuse : GoodIn wsX7_copy (wsV RX7 73 RX7 yX7_refuse wsX7_refuse) := goodIn_app (goodIn_of _ (by decide +kernel)) ggX7_copy_X7_refuse
theorem dX7_copy_0 : decode cX7_copy 0 = .ok (.aload_n 0, 1) := by decide +kernel
theorem dX7_copy_1 : decode cX7_copy 1 = .ok (.iload_n 1, 1) := by decide +kernel
theorem dX7_copy_2 : decode cX7_copy 2 = .ok (.iload_n 2, 1) := by decide +kernel
theorem dX7_copy_3 : decode cX7_copy 3 = .ok (.invokevirtual 91, 3) := by decide +kernel
theorem dX7_copy_6 : decode cX7_copy 6 = .ok (.istore 6, 2) := by decide +kernel
theorem dX7_copy_8 : decode cX7_copy 8 = .ok (.iload 6, 2) := by decide +kernel
theorem dX7_copy_10 : decode cX7_copy 10 = .ok (.ifCond .ne 38, 3) := by decide +kernel
theorem dX7_copy_13 : decode cX7_copy 13 = .ok (.aload_n 0, 1) := by decide +kernel
theorem dX7_copy_14 : decode cX7_copy 14 = .ok (.getfield 27, 3) := by decide +kernel
theorem dX7_copy_17 : decode cX7_copy 17 = .ok (.iload_n 1, 1) := by decide +kernel
theorem dX7_copy_18 : decode cX7_copy 18 = .ok (.aaload, 1) := by decide +kernel
theorem dX7_copy_19 : decode cX7_copy 19 = .ok (.iload_n 3, 1) := by decide +kernel
theorem dX7_copy_20 : decode cX7_copy 20 = .ok (.iload 5, 2) := by decide +kernel
theorem dX7_copy_22 : decode cX7_copy 22 = .ok (.invokevirtual 95, 3) := by decide +kernel
theorem dX7_copy_25 : decode cX7_copy 25 = .ok (.ifCond .eq 19, 3) := by decide +kernel
theorem dX7_copy_28 : decode cX7_copy 28 = .ok (.aload_n 0, 1) := by decide +kernel
theorem dX7_copy_29 : decode cX7_copy 29 = .ok (.getfield 27, 3) := by decide +kernel
theorem dX7_copy_32 : decode cX7_copy 32 = .ok (.iload_n 2, 1) := by decide +kernel
theorem dX7_copy_33 : decode cX7_copy 33 = .ok (.aaload, 1) := by decide +kernel
theorem dX7_copy_34 : decode cX7_copy 34 = .ok (.iload 4, 2) := by decide +kernel
theorem dX7_copy_36 : decode cX7_copy 36 = .ok (.iload 5, 2) := by decide +kernel
theorem dX7_copy_38 : decode cX7_copy 38 = .ok (.invokevirtual 95, 3) := by decide +kernel
theorem dX7_copy_41 : decode cX7_copy 41 = .ok (.ifCond .ne 7, 3) := by decide +kernel
theorem dX7_copy_44 : decode cX7_copy 44 = .ok (.bipush (-2), 2) := by decide +kernel
theorem dX7_copy_46 : decode cX7_copy 46 = .ok (.istore 6, 2) := by decide +kernel
theorem dX7_copy_48 : decode cX7_copy 48 = .ok (.iload 6, 2) := by decide +kernel
theorem dX7_copy_50 : decode cX7_copy 50 = .ok (.ifCond .eq 10, 3) := by decide +kernel
theorem dX7_copy_53 : decode cX7_copy 53 = .ok (.aload_n 0, 1) := by decide +kernel
theorem dX7_copy_54 : decode cX7_copy 54 = .ok (.iload 6, 2) := by decide +kernel
theorem dX7_copy_56 : decode cX7_copy 56 = .ok (.invokevirtual 73, 3) := by decide +kernel
theorem dX7_copy_59 : decode cX7_copy 59 = .ok (.ireturn, 1) := by decide +kernel
theorem dX7_copy_60 : decode cX7_copy 60 = .ok (.aload_n 0, 1) := by decide +kernel
theorem dX7_copy_61 : decode cX7_copy 61 = .ok (.getfield 27, 3) := by decide +kernel
theorem dX7_copy_64 : decode cX7_copy 64 = .ok (.iload_n 1, 1) := by decide +kernel
theorem dX7_copy_65 : decode cX7_copy 65 = .ok (.aaload, 1) := by decide +kernel
theorem dX7_copy_66 : decode cX7_copy 66 = .ok (.getfield 99, 3) := by decide +kernel
theorem dX7_copy_69 : decode cX7_copy 69 = .ok (.iload_n 3, 1) := by decide +kernel
theorem dX7_copy_70 : decode cX7_copy 70 = .ok (.aload_n 0, 1) := by decide +kernel
theorem dX7_copy_71 : decode cX7_copy 71 = .ok (.getfield 27, 3) := by decide +kernel
theorem dX7_copy_74 : decode cX7_copy 74 = .ok (.iload_n 2, 1) := by decide +kernel
theorem dX7_copy_75 : decode cX7_copy 75 = .ok (.aaload, 1) := by decide +kernel
theorem dX7_copy_76 : decode cX7_copy 76 = .ok (.getfield 99, 3) := by decide +kernel
theorem dX7_copy_79 : decode cX7_copy 79 = .ok (.iload 4, 2) := by decide +kernel
theorem dX7_copy_81 : decode cX7_copy 81 = .ok (.iload 5, 2) := by decide +kernel
theorem dX7_copy_83 : decode cX7_copy 83 = .ok (.invokestatic 103, 3) := by decide +kernel
theorem dX7_copy_86 : decode cX7_copy 86 = .ok (.iload 5, 2) := by decide +kernel
theorem dX7_copy_88 : decode cX7_copy 88 = .ok (.ireturn, 1) := by decide +kernel
set_option maxRecDepth 20000 in
theorem ggX7_element_X7_isShelf : GoodIn wsX7_element wsX7_isShelf := goodIn_r _ [6] (by decide +kernel) (by decide +kernel)
set_option maxRecDepth 20000 in
theorem gX7_element_X7_isShelf : GoodIn wsX7_element (va_wsS RX7 69 yX7_isShelf wsX7_isShelf) := goodIn_app (goodIn_of _ (by decide +kernel)) ggX7_element_X7_isShelf
set_option maxRecDepth 20000 in
theorem ggX7_element_X2_hasElement : GoodIn wsX7_element wsX2_hasElement := goodIn_r _ [11, 12, 25, 26, 27] (by decide +kernel) (by decide +kernel)
set_option maxRecDepth 20000 in
theorem gX7_element_X2_hasElement : GoodIn wsX7_element (wsV RX7 84 RX2 yX2_hasElement wsX2_hasElement) := goodIn_app (goodIn_of _ (by decide +kernel)) ggX7_element_X2_hasElement
theorem dX7_element_0 : decode cX7_element 0 = .ok (.iload_n 1, 1) := by decide +kernel
theorem dX7_element_1 : decode cX7_element 1 = .ok (.invokestatic 69, 3) := by decide +kernel
theorem dX7_element_4 : decode cX7_element 4 = .ok (.ifCond .eq 16, 3) := by decide +kernel
theorem dX7_element_7 : decode cX7_element 7 = .ok (.aload_n 0, 1) := by decide +kernel
theorem dX7_element_8 : decode cX7_element 8 = .ok (.getfield 27, 3) := by decide +kernel
theorem dX7_element_11 : decode cX7_element 11 = .ok (.iload_n 1, 1) := by decide +kernel
theorem dX7_element_12 : decode cX7_element 12 = .ok (.aaload, 1) := by decide +kernel
theorem dX7_element_13 : decode cX7_element 13 = .ok (.iload_n 2, 1) := by decide +kernel
theorem dX7_element_14 : decode cX7_element 14 = .ok (.invokevirtual 84, 3) := by decide +kernel
theorem dX7_element_17 : decode cX7_element 17 = .ok (.ifCond .ne 5, 3) := by decide +kernel
theorem dX7_element_20 : decode cX7_element 20 = .ok (.lconst 0, 1) := by decide +kernel
theorem dX7_element_21 : decode cX7_element 21 = .ok (.lreturn, 1) := by decide +kernel
theorem dX7_element_22 : decode cX7_element 22 = .ok (.aload_n 0, 1) := by decide +kernel
theorem dX7_element_23 : decode cX7_element 23 = .ok (.getfield 27, 3) := by decide +kernel
theorem dX7_element_26 : decode cX7_element 26 = .ok (.iload_n 1, 1) := by decide +kernel
theorem dX7_element_27 : decode cX7_element 27 = .ok (.aaload, 1) := by decide +kernel
theorem dX7_element_28 : decode cX7_element 28 = .ok (.getfield 99, 3) := by decide +kernel
theorem dX7_element_31 : decode cX7_element 31 = .ok (.iload_n 2, 1) := by decide +kernel
theorem dX7_element_32 : decode cX7_element 32 = .ok (.laload, 1) := by decide +kernel
theorem dX7_element_33 : decode cX7_element 33 = .ok (.lreturn, 1) := by decide +kernel
set_option maxRecDepth 20000 in
theorem ggX7_holds_X7_isShelf : GoodIn wsX7_holds wsX7_isShelf := goodIn_r _ [6] (by decide +kernel) (by decide +kernel)
set_option maxRecDepth 20000 in
theorem gX7_holds_X7_isShelf : GoodIn wsX7_holds (va_wsS RX7 69 yX7_isShelf wsX7_isShelf) := goodIn_app (goodIn_of _ (by decide +kernel)) ggX7_holds_X7_isShelf
theorem dX7_holds_0 : decode cX7_holds 0 = .ok (.iload_n 1, 1) := by decide +kernel
theorem dX7_holds_1 : decode cX7_holds 1 = .ok (.invokestatic 69, 3) := by decide +kernel
theorem dX7_holds_4 : decode cX7_holds 4 = .ok (.ifCond .eq 15, 3) := by decide +kernel
theorem dX7_holds_7 : decode cX7_holds 7 = .ok (.aload_n 0, 1) := by decide +kernel
theorem dX7_holds_8 : decode cX7_holds 8 = .ok (.getfield 27, 3) := by decide +kernel
theorem dX7_holds_11 : decode cX7_holds 11 = .ok (.iload_n 1, 1) := by decide +kernel
theorem dX7_holds_12 : decode cX7_holds 12 = .ok (.aaload, 1) := by decide +kernel
theorem dX7_holds_13 : decode cX7_holds 13 = .ok (.getfield 109, 3) := by decide +kernel
theorem dX7_holds_16 : decode cX7_holds 16 = .ok (.goto 4, 3) := by decide +kernel
theorem dX7_holds_19 : decode cX7_holds 19 = .ok (.iconst (-1), 1) := by decide +kernel
theorem dX7_holds_20 : decode cX7_holds 20 = .ok (.ireturn, 1) := by decide +kernel
set_option maxRecDepth 20000 in
theorem ggX7_show_X7_isShelf : GoodIn wsX7_show wsX7_isShelf := goodIn_r _ [5] (by decide +kernel) (by decide +kernel)
set_option maxRecDepth 20000 in
theorem gX7_show_X7_isShelf : GoodIn wsX7_show (va_wsS RX7 69 yX7_isShelf wsX7_isShelf) := goodIn_app (goodIn_of _ (by decide +kernel)) ggX7_show_X7_isShelf
set_option maxRecDepth 20000 in
theorem ggX7_show_X7_isPerson : GoodIn wsX7_show wsX7_isPerson := goodIn_r _ [9, 10, 11, 28, 29, 30, 31, 32, 33, 34, 35, 36, 37, 38, 39, 40, 41, 42, 43, 44, 45, 46, 47, 48, 49, 50, 51] (by decide +kernel) (by decide +kernel)
set_option maxRecDepth 20000 in
theorem gX7_show_X7_isPerson : GoodIn wsX7_show (wsV RX7 113 RX7 yX7_isPerson wsX7_isPerson) := goodIn_app (goodIn_of _ (by decide +kernel)) ggX7_show_X7_isPerson
set_option maxRecDepth 20000 in
theorem ggX7_show_X7_refuse : GoodIn wsX7_show wsX7_refuse := goodIn_r _ [15, 16, 28, 29, 30, 31, 32, 33, 34, 35, 36, 37, 38, 39] (by decide +kernel) (by decide +kernel)
set_option maxRecDepth 20000 in
theorem gX7_show_X7_refuse : GoodIn wsX7_show (wsV RX7 73 RX7 yX7_refuse wsX7_refuse) := goodIn_app (goodIn_of _ (by decide +kernel)) ggX7_show_X7_refuse
set_option maxRecDepth 20000 in
theorem ggX7_show_X2_takeNothing : GoodIn wsX7_show wsX2_takeNothing := goodIn_r _ [21, 22, 23, 52, 53, 54] (by decide +kernel) (by decide +kernel)
set_option maxRecDepth 20000 in
theorem gX7_show_X2_takeNothing : GoodIn wsX7_show (wsV RX7 116 RX2 yX2_takeNothing wsX2_takeNothing) := goodIn_app (goodIn_of _ (by decide +kernel)) ggX7_show_X2_takeNothing
set_option maxRecDepth 20000 in
theorem ggX7_show_X2_takePerson : GoodIn wsX7_show wsX2_takePerson := goodIn_r _ [27, 22, 23, 52, 53, 54] (by decide +kernel) (by decide +kernel)
set_option maxRecDepth 20000 in
theorem gX7_show_X2_takePerson : GoodIn wsX7_show (wsV RX7 119 RX2 yX2_takePerson wsX2_takePerson) := goodIn_app (goodIn_of _ (by decide +kernel)) ggX7_show_X2_takePerson
theorem dX7_show_0 : decode cX7_show 0 = .ok (.iload_n 1, 1) := by decide +kernel
theorem dX7_show_1 : decode cX7_show 1 = .ok (.invokestatic 69, 3) := by decide +kernel
theorem dX7_show_4 : decode cX7_show 4 = .ok (.ifCond .eq 16, 3) := by decide +kernel
theorem dX7_show_7 : decode cX7_show 7 = .ok (.iload_n 2, 1) := by decide +kernel
theorem dX7_show_8 : decode cX7_show 8 = .ok (.iconst (-1), 1) := by decide +kernel
theorem dX7_show_9 : decode cX7_show 9 = .ok (.if_icmp .eq 18, 3) := by decide +kernel
theorem dX7_show_12 : decode cX7_show 12 = .ok (.aload_n 0, 1) := by decide +kernel
theorem dX7_show_13 : decode cX7_show 13 = .ok (.iload_n 2, 1) := by decide +kernel
theorem dX7_show_14 : decode cX7_show 14 = .ok (.invokevirtual 113, 3) := by decide +kernel
theorem dX7_show_17 : decode cX7_show 17 = .ok (.ifCond .ne 10, 3) := by decide +kernel
theorem dX7_show_20 : decode cX7_show 20 = .ok (.aload_n 0, 1) := by decide +kernel
theorem dX7_show_21 : decode cX7_show 21 = .ok (.bipush (-2), 2) := by decide +kernel
theorem dX7_show_23 : decode cX7_show 23 = .ok (.invokevirtual 73, 3) := by decide +kernel
theorem dX7_show_26 : decode cX7_show 26 = .ok (.ireturn, 1) := by decide +kernel
theorem dX7_show_27 : decode cX7_show 27 = .ok (.iload_n 2, 1) := by decide +kernel
theorem dX7_show_28 : decode cX7_show 28 = .ok (.iconst (-1), 1) := by decide +kernel
theorem dX7_show_29 : decode cX7_show 29 = .ok (.if_icmp .ne 15, 3) := by decide +kernel
theorem dX7_show_32 : decode cX7_show 32 = .ok (.aload_n 0, 1) := by decide +kernel
theorem dX7_show_33 : decode cX7_show 33 = .ok (.getfield 27, 3) := by decide +kernel
theorem dX7_show_36 : decode cX7_show 36 = .ok (.iload_n 1, 1) := by decide +kernel
theorem dX7_show_37 : decode cX7_show 37 = .ok (.aaload, 1) := by decide +kernel
theorem dX7_show_38 : decode cX7_show 38 = .ok (.invokevirtual 116, 3) := by decide +kernel
theorem dX7_show_41 : decode cX7_show 41 = .ok (.goto 13, 3) := by decide +kernel
theorem dX7_show_44 : decode cX7_show 44 = .ok (.aload_n 0, 1) := by decide +kernel
theorem dX7_show_45 : decode cX7_show 45 = .ok (.getfield 27, 3) := by decide +kernel
theorem dX7_show_48 : decode cX7_show 48 = .ok (.iload_n 1, 1) := by decide +kernel
theorem dX7_show_49 : decode cX7_show 49 = .ok (.aaload, 1) := by decide +kernel
theorem dX7_show_50 : decode cX7_show 50 = .ok (.iload_n 2, 1) := by decide +kernel
theorem dX7_show_51 : decode cX7_show 51 = .ok (.invokevirtual 119, 3) := by decide +kernel
theorem dX7_show_54 : decode cX7_show 54 = .ok (.iconst 1, 1) := by decide +kernel
theorem dX7_show_55 : decode cX7_show 55 = .ok (.ireturn, 1) := by decide +kernel
set_option maxRecDepth 20000 in
theorem ggX7_says_X7_isShelf : GoodIn wsX7_says wsX7_isShelf := goodIn_r _ [10] (by decide +kernel) (by decide +kernel)
set_option maxRecDepth 20000 in
theorem gX7_says_X7_isShelf : GoodIn wsX7_says (va_wsS RX7 69 yX7_isShelf wsX7_isShelf) := goodIn_app (goodIn_of _ (by decide +kernel)) ggX7_says_X7_isShelf
set_option maxRecDepth 20000 in
theorem ggX7_says_X7_isKind : GoodIn wsX7_says wsX7_isKind := goodIn_r _ [13] (by decide +kernel) (by decide +kernel)
set_option maxRecDepth 20000 in
theorem gX7_says_X7_isKind : GoodIn wsX7_says (va_wsS RX7 123 yX7_isKind wsX7_isKind) := goodIn_app (goodIn_of _ (by decide +kernel)) ggX7_says_X7_isKind
set_option maxRecDepth 20000 in
theorem ggX7_says_X7_refuse : GoodIn wsX7_says wsX7_refuse := goodIn_r _ [17, 18, 116, 117, 118, 119, 120, 121, 122, 123, 124, 125, 126, 127] (by decide +kernel) (by decide +kernel)
set_option maxRecDepth 20000 in
theorem gX7_says_X7_refuse : GoodIn wsX7_says (wsV RX7 73 RX7 yX7_refuse wsX7_refuse) := goodIn_app (goodIn_of _ (by decide +kernel)) ggX7_says_X7_refuse
set_option maxRecDepth 20000 in
theorem ggX7_says_X2_holdsRow : GoodIn wsX7_says wsX2_holdsRow := goodIn_r _ [23, 24, 140, 141, 142] (by decide +kernel) (by decide +kernel)
set_option maxRecDepth 20000 in
theorem gX7_says_X2_holdsRow : GoodIn wsX7_says (wsV RX7 126 RX2 yX2_holdsRow wsX2_holdsRow) := goodIn_app (goodIn_of _ (by decide +kernel)) ggX7_says_X2_holdsRow
set_option maxRecDepth 20000 in
theorem ggX7_says_X2_holdsNothing : GoodIn wsX7_says wsX2_holdsNothing := goodIn_r _ [28, 24, 140, 141, 142] (by decide +kernel) (by decide +kernel)
set_option maxRecDepth 20000 in
theorem gX7_says_X2_holdsNothing : GoodIn wsX7_says (wsV RX7 130 RX2 yX2_holdsNothing wsX2_holdsNothing) := goodIn_app (goodIn_of _ (by decide +kernel)) ggX7_says_X2_holdsNothing
set_option maxRecDepth 20000 in
theorem ggX7_says_X2_personNumber : GoodIn wsX7_says wsX2_personNumber := goodIn_r _ [32, 24, 140, 141, 142] (by decide +kernel) (by decide +kernel)
set_option maxRecDepth 20000 in
theorem gX7_says_X2_personNumber : GoodIn wsX7_says (wsV RX7 133 RX2 yX2_personNumber wsX2_personNumber) := goodIn_app (goodIn_of _ (by decide +kernel)) ggX7_says_X2_personNumber
set_option maxRecDepth 20000 in
theorem ggX7_says_X7_isPerson : GoodIn wsX7_says wsX7_isPerson := goodIn_r _ [36, 2, 37, 116, 117, 118, 119, 120, 121, 122, 123, 124, 125, 126, 127, 128, 129, 130, 131, 132, 133, 134, 135, 136, 137, 138, 139] (by decide +kernel) (by decide +kernel)
set_option maxRecDepth 20000 in
theorem gX7_says_X7_isPerson : GoodIn wsX7_says (wsV RX7 113 RX7 yX7_isPerson wsX7_isPerson) := goodIn_app (goodIn_of _ (by decide +kernel)) ggX7_says_X7_isPerson
set_option maxRecDepth 20000 in
theorem ggX7_says_X7_isUnder : GoodIn wsX7_says wsX7_isUnder := goodIn_r _ [40] (by decide +kernel) (by decide +kernel)
set_option maxRecDepth 20000 in
theorem gX7_says_X7_isUnder : GoodIn wsX7_says (va_wsS RX7 140 yX7_isUnder wsX7_isUnder) := goodIn_app (goodIn_of _ (by decide +kernel)) ggX7_says_X7_isUnder
set_option maxRecDepth 20000 in
theorem ggX7_says_X7_lookAhead : GoodIn wsX7_says wsX7_lookAhead := goodIn_r _ [44, 5, 2, 45, 46, 47, 48, 49, 50, 51, 52, 53, 54, 55, 56, 57, 58, 59, 60, 61, 62, 63, 64, 65, 66, 67, 68, 69, 70, 71, 72, 73, 74, 75, 76, 77, 78, 79, 80, 81, 82, 83, 84, 85, 86, 87, 88, 89, 90, 91, 92, 93, 94, 95, 96, 97, 98, 99, 100, 101, 102, 103, 104, 105, 106, 9, 107, 108, 109, 110, 111, 112, 113, 114, 115, 116, 117, 118, 119, 120, 121, 122, 123, 124, 125, 126, 127, 128, 129, 130, 131, 132, 133, 134, 135, 136, 137, 138, 139] (by decide +kernel) (by decide +kernel)
set_option maxRecDepth 20000 in
theorem gX7_says_X7_lookAhead : GoodIn wsX7_says (wsV RX7 146 RX7 yX7_lookAhead wsX7_lookAhead) := goodIn_app (goodIn_of _ (by decide +kernel)) ggX7_says_X7_lookAhead
theorem dX7_says_0 : decode cX7_says 0 = .ok (.iload_n 1, 1) := by decide +kernel
theorem dX7_says_1 : decode cX7_says 1 = .ok (.invokestatic 69, 3) := by decide +kernel
theorem dX7_says_4 : decode cX7_says 4 = .ok (.ifCond .eq 10, 3) := by decide +kernel
theorem dX7_says_7 : decode cX7_says 7 = .ok (.iload_n 2, 1) := by decide +kernel
theorem dX7_says_8 : decode cX7_says 8 = .ok (.invokestatic 123, 3) := by decide +kernel
theorem dX7_says_11 : decode cX7_says 11 = .ok (.ifCond .ne 10, 3) := by decide +kernel
theorem dX7_says_14 : decode cX7_says 14 = .ok (.aload_n 0, 1) := by decide +kernel
theorem dX7_says_15 : decode cX7_says 15 = .ok (.bipush (-2), 2) := by decide +kernel
theorem dX7_says_17 : decode cX7_says 17 = .ok (.invokevirtual 73, 3) := by decide +kernel
theorem dX7_says_20 : decode cX7_says 20 = .ok (.ireturn, 1) := by decide +kernel
theorem dX7_says_21 : decode cX7_says 21 = .ok (.aload_n 0, 1) := by decide +kernel
theorem dX7_says_22 : decode cX7_says 22 = .ok (.getfield 27, 3) := by decide +kernel
theorem dX7_says_25 : decode cX7_says 25 = .ok (.iload_n 1, 1) := by decide +kernel
theorem dX7_says_26 : decode cX7_says 26 = .ok (.aaload, 1) := by decide +kernel
theorem dX7_says_27 : decode cX7_says 27 = .ok (.invokevirtual 126, 3) := by decide +kernel
theorem dX7_says_30 : decode cX7_says 30 = .ok (.ifCond .eq 10, 3) := by decide +kernel
theorem dX7_says_33 : decode cX7_says 33 = .ok (.aload_n 0, 1) := by decide +kernel
theorem dX7_says_34 : decode cX7_says 34 = .ok (.bipush (-3), 2) := by decide +kernel
theorem dX7_says_36 : decode cX7_says 36 = .ok (.invokevirtual 73, 3) := by decide +kernel
theorem dX7_says_39 : decode cX7_says 39 = .ok (.ireturn, 1) := by decide +kernel
theorem dX7_says_40 : decode cX7_says 40 = .ok (.aload_n 0, 1) := by decide +kernel
theorem dX7_says_41 : decode cX7_says 41 = .ok (.getfield 27, 3) := by decide +kernel
theorem dX7_says_44 : decode cX7_says 44 = .ok (.iload_n 1, 1) := by decide +kernel
theorem dX7_says_45 : decode cX7_says 45 = .ok (.aaload, 1) := by decide +kernel
theorem dX7_says_46 : decode cX7_says 46 = .ok (.invokevirtual 130, 3) := by decide +kernel
theorem dX7_says_49 : decode cX7_says 49 = .ok (.ifCond .eq 10, 3) := by decide +kernel
theorem dX7_says_52 : decode cX7_says 52 = .ok (.aload_n 0, 1) := by decide +kernel
theorem dX7_says_53 : decode cX7_says 53 = .ok (.bipush (-4), 2) := by decide +kernel
theorem dX7_says_55 : decode cX7_says 55 = .ok (.invokevirtual 73, 3) := by decide +kernel
theorem dX7_says_58 : decode cX7_says 58 = .ok (.ireturn, 1) := by decide +kernel
theorem dX7_says_59 : decode cX7_says 59 = .ok (.aload_n 0, 1) := by decide +kernel
theorem dX7_says_60 : decode cX7_says 60 = .ok (.getfield 27, 3) := by decide +kernel
theorem dX7_says_63 : decode cX7_says 63 = .ok (.iload_n 1, 1) := by decide +kernel
theorem dX7_says_64 : decode cX7_says 64 = .ok (.aaload, 1) := by decide +kernel
theorem dX7_says_65 : decode cX7_says 65 = .ok (.invokevirtual 133, 3) := by decide +kernel
theorem dX7_says_68 : decode cX7_says 68 = .ok (.istore_n 3, 1) := by decide +kernel
theorem dX7_says_69 : decode cX7_says 69 = .ok (.aload_n 0, 1) := by decide +kernel
theorem dX7_says_70 : decode cX7_says 70 = .ok (.iload_n 3, 1) := by decide +kernel
theorem dX7_says_71 : decode cX7_says 71 = .ok (.invokevirtual 113, 3) := by decide +kernel
theorem dX7_says_74 : decode cX7_says 74 = .ok (.ifCond .eq 19, 3) := by decide +kernel
theorem dX7_says_77 : decode cX7_says 77 = .ok (.aload_n 0, 1) := by decide +kernel
theorem dX7_says_78 : decode cX7_says 78 = .ok (.getfield 10, 3) := by decide +kernel
theorem dX7_says_81 : decode cX7_says 81 = .ok (.getfield 137, 3) := by decide +kernel
theorem dX7_says_84 : decode cX7_says 84 = .ok (.iload_n 3, 1) := by decide +kernel
theorem dX7_says_85 : decode cX7_says 85 = .ok (.iaload, 1) := by decide +kernel
theorem dX7_says_86 : decode cX7_says 86 = .ok (.iload_n 2, 1) := by decide +kernel
theorem dX7_says_87 : decode cX7_says 87 = .ok (.invokestatic 140, 3) := by decide +kernel
theorem dX7_says_90 : decode cX7_says 90 = .ok (.ifCond .ne 10, 3) := by decide +kernel
theorem dX7_says_93 : decode cX7_says 93 = .ok (.aload_n 0, 1) := by decide +kernel
theorem dX7_says_94 : decode cX7_says 94 = .ok (.bipush (-3), 2) := by decide +kernel
theorem dX7_says_96 : decode cX7_says 96 = .ok (.invokevirtual 73, 3) := by decide +kernel
theorem dX7_says_99 : decode cX7_says 99 = .ok (.ireturn, 1) := by decide +kernel
theorem dX7_says_100 : decode cX7_says 100 = .ok (.iload_n 2, 1) := by decide +kernel
theorem dX7_says_101 : decode cX7_says 101 = .ok (.ifCond .ne 13, 3) := by decide +kernel
theorem dX7_says_104 : decode cX7_says 104 = .ok (.aload_n 0, 1) := by decide +kernel
theorem dX7_says_105 : decode cX7_says 105 = .ok (.getfield 10, 3) := by decide +kernel
theorem dX7_says_108 : decode cX7_says 108 = .ok (.getfield 143, 3) := by decide +kernel
theorem dX7_says_111 : decode cX7_says 111 = .ok (.iload_n 3, 1) := by decide +kernel
theorem dX7_says_112 : decode cX7_says 112 = .ok (.iaload, 1) := by decide +kernel
theorem dX7_says_113 : decode cX7_says 113 = .ok (.ireturn, 1) := by decide +kernel
theorem dX7_says_114 : decode cX7_says 114 = .ok (.aload_n 0, 1) := by decide +kernel
theorem dX7_says_115 : decode cX7_says 115 = .ok (.iconst 1, 1) := by decide +kernel
theorem dX7_says_116 : decode cX7_says 116 = .ok (.invokevirtual 146, 3) := by decide +kernel
theorem dX7_says_119 : decode cX7_says 119 = .ok (.aload_n 0, 1) := by decide +kernel
theorem dX7_says_120 : decode cX7_says 120 = .ok (.getfield 16, 3) := by decide +kernel
theorem dX7_says_123 : decode cX7_says 123 = .ok (.getfield 149, 3) := by decide +kernel
theorem dX7_says_126 : decode cX7_says 126 = .ok (.iload_n 3, 1) := by decide +kernel
theorem dX7_says_127 : decode cX7_says 127 = .ok (.iaload, 1) := by decide +kernel
theorem dX7_says_128 : decode cX7_says 128 = .ok (.ireturn, 1) := by decide +kernel
set_option maxRecDepth 20000 in
theorem ggX7_places_X7_refuse : GoodIn wsX7_places wsX7_refuse := goodIn_r _ [7, 8, 9, 10, 11, 12, 13, 14, 15, 16, 17, 18, 19, 20] (by decide +kernel) (by decide +kernel)
set_option maxRecDepth 20000 in
theorem gX7_places_X7_refuse : GoodIn wsX7_places (wsV RX7 73 RX7 yX7_refuse wsX7_refuse) := goodIn_app (goodIn_of _ (by decide +kernel)) ggX7_places_X7_refuse
theorem dX7_places_0 : decode cX7_places 0 = .ok (.iload_n 1, 1) := by decide +kernel
theorem dX7_places_1 : decode cX7_places 1 = .ok (.aload_n 0, 1) := by decide +kernel
theorem dX7_places_2 : decode cX7_places 2 = .ok (.getfield 10, 3) := by decide +kernel
theorem dX7_places_5 : decode cX7_places 5 = .ok (.getfield 152, 3) := by decide +kernel
theorem dX7_places_8 : decode cX7_places 8 = .ok (.if_icmp .lt 9, 3) := by decide +kernel
theorem dX7_places_11 : decode cX7_places 11 = .ok (.iload_n 1, 1) := by decide +kernel
theorem dX7_places_12 : decode cX7_places 12 = .ok (.bipush 12, 2) := by decide +kernel
theorem dX7_places_14 : decode cX7_places 14 = .ok (.if_icmp .le 10, 3) := by decide +kernel
theorem dX7_places_17 : decode cX7_places 17 = .ok (.aload_n 0, 1) := by decide +kernel
theorem dX7_places_18 : decode cX7_places 18 = .ok (.bipush (-2), 2) := by decide +kernel
theorem dX7_places_20 : decode cX7_places 20 = .ok (.invokevirtual 73, 3) := by decide +kernel
theorem dX7_places_23 : decode cX7_places 23 = .ok (.ireturn, 1) := by decide +kernel
theorem dX7_places_24 : decode cX7_places 24 = .ok (.aload_n 0, 1) := by decide +kernel
theorem dX7_places_25 : decode cX7_places 25 = .ok (.getfield 10, 3) := by decide +kernel
theorem dX7_places_28 : decode cX7_places 28 = .ok (.getfield 152, 3) := by decide +kernel
theorem dX7_places_31 : decode cX7_places 31 = .ok (.istore_n 2, 1) := by decide +kernel
theorem dX7_places_32 : decode cX7_places 32 = .ok (.aload_n 0, 1) := by decide +kernel
theorem dX7_places_33 : decode cX7_places 33 = .ok (.getfield 10, 3) := by decide +kernel
theorem dX7_places_36 : decode cX7_places 36 = .ok (.iload_n 1, 1) := by decide +kernel
theorem dX7_places_37 : decode cX7_places 37 = .ok (.putfield 152, 3) := by decide +kernel
theorem dX7_places_40 : decode cX7_places 40 = .ok (.iload_n 2, 1) := by decide +kernel
theorem dX7_places_41 : decode cX7_places 41 = .ok (.ireturn, 1) := by decide +kernel
set_option maxRecDepth 20000 in
theorem ggX7_way_X7_areTwoPlaces : GoodIn wsX7_way wsX7_areTwoPlaces := goodIn_r _ [6, 7, 8, 9, 5, 10, 1, 11, 42, 43, 44, 45, 46, 47, 48, 49, 50, 51, 52, 53, 54, 55, 56, 57, 58, 59, 60, 61, 62, 63, 64, 65] (by decide +kernel) (by decide +kernel)
set_option maxRecDepth 20000 in
theorem gX7_way_X7_areTwoPlaces : GoodIn wsX7_way (wsV RX7 155 RX7 yX7_areTwoPlaces wsX7_areTwoPlaces) := goodIn_app (goodIn_of _ (by decide +kernel)) ggX7_way_X7_areTwoPlaces
set_option maxRecDepth 20000 in
theorem ggX7_way_X7_refuse : GoodIn wsX7_way wsX7_refuse := goodIn_r _ [15, 16, 42, 43, 44, 45, 46, 47, 48, 49, 50, 51, 52, 53] (by decide +kernel) (by decide +kernel)
set_option maxRecDepth 20000 in
theorem gX7_way_X7_refuse : GoodIn wsX7_way (wsV RX7 73 RX7 yX7_refuse wsX7_refuse) := goodIn_app (goodIn_of _ (by decide +kernel)) ggX7_way_X7_refuse
set_option maxRecDepth 20000 in
theorem ggX7_way_X5_hasWay : GoodIn wsX7_way wsX5_hasWay := goodIn_r _ [21, 22, 54, 55, 56, 57, 58, 59, 60, 61, 62, 63, 64, 65] (by decide +kernel) (by decide +kernel)
set_option maxRecDepth 20000 in
theorem gX7_way_X5_hasWay : GoodIn wsX7_way (wsV RX7 158 RX5 yX5_hasWay wsX5_hasWay) := goodIn_app (goodIn_of _ (by decide +kernel)) ggX7_way_X5_hasWay
set_option maxRecDepth 20000 in
theorem ggX7_way_X5_setWay : GoodIn wsX7_way wsX5_setWay := goodIn_r _ [26, 22, 54, 55, 56, 57, 58, 59, 60, 61, 62, 63, 64, 65] (by decide +kernel) (by decide +kernel)
set_option maxRecDepth 20000 in
theorem gX7_way_X5_setWay : GoodIn wsX7_way (wsV RX7 161 RX5 yX5_setWay wsX5_setWay) := goodIn_app (goodIn_of _ (by decide +kernel)) ggX7_way_X5_setWay
set_option maxRecDepth 20000 in
theorem ggX7_way_X5_measure : GoodIn wsX7_way wsX5_measure := goodIn_r _ [30, 31, 32, 33, 20, 34, 35, 36, 5, 37, 38, 39, 40, 41, 22, 54, 55, 56, 57, 58, 59, 60, 61, 62, 63, 64, 65] (by decide +kernel) (by decide +kernel)
set_option maxRecDepth 20000 in
theorem gX7_way_X5_measure : GoodIn wsX7_way (wsV RX7 165 RX5 yX5_measure wsX5_measure) := goodIn_app (goodIn_of _ (by decide +kernel)) ggX7_way_X5_measure
theorem dX7_way_0 : decode cX7_way 0 = .ok (.aload_n 0, 1) := by decide +kernel
theorem dX7_way_1 : decode cX7_way 1 = .ok (.iload_n 1, 1) := by decide +kernel
theorem dX7_way_2 : decode cX7_way 2 = .ok (.iload_n 2, 1) := by decide +kernel
theorem dX7_way_3 : decode cX7_way 3 = .ok (.invokevirtual 155, 3) := by decide +kernel
theorem dX7_way_6 : decode cX7_way 6 = .ok (.ifCond .ne 10, 3) := by decide +kernel
theorem dX7_way_9 : decode cX7_way 9 = .ok (.aload_n 0, 1) := by decide +kernel
theorem dX7_way_10 : decode cX7_way 10 = .ok (.bipush (-2), 2) := by decide +kernel
theorem dX7_way_12 : decode cX7_way 12 = .ok (.invokevirtual 73, 3) := by decide +kernel
theorem dX7_way_15 : decode cX7_way 15 = .ok (.ireturn, 1) := by decide +kernel
theorem dX7_way_16 : decode cX7_way 16 = .ok (.aload_n 0, 1) := by decide +kernel
theorem dX7_way_17 : decode cX7_way 17 = .ok (.getfield 10, 3) := by decide +kernel
theorem dX7_way_20 : decode cX7_way 20 = .ok (.iload_n 1, 1) := by decide +kernel
theorem dX7_way_21 : decode cX7_way 21 = .ok (.iload_n 2, 1) := by decide +kernel
theorem dX7_way_22 : decode cX7_way 22 = .ok (.invokevirtual 158, 3) := by decide +kernel
theorem dX7_way_25 : decode cX7_way 25 = .ok (.ifCond .eq 7, 3) := by decide +kernel
theorem dX7_way_28 : decode cX7_way 28 = .ok (.iconst 1, 1) := by decide +kernel
theorem dX7_way_29 : decode cX7_way 29 = .ok (.goto 4, 3) := by decide +kernel
theorem dX7_way_32 : decode cX7_way 32 = .ok (.iconst 0, 1) := by decide +kernel
theorem dX7_way_33 : decode cX7_way 33 = .ok (.istore 4, 2) := by decide +kernel
theorem dX7_way_35 : decode cX7_way 35 = .ok (.aload_n 0, 1) := by decide +kernel
theorem dX7_way_36 : decode cX7_way 36 = .ok (.getfield 10, 3) := by decide +kernel
theorem dX7_way_39 : decode cX7_way 39 = .ok (.iload_n 1, 1) := by decide +kernel
theorem dX7_way_40 : decode cX7_way 40 = .ok (.iload_n 2, 1) := by decide +kernel
theorem dX7_way_41 : decode cX7_way 41 = .ok (.iload_n 3, 1) := by decide +kernel
theorem dX7_way_42 : decode cX7_way 42 = .ok (.invokevirtual 161, 3) := by decide +kernel
theorem dX7_way_45 : decode cX7_way 45 = .ok (.aload_n 0, 1) := by decide +kernel
theorem dX7_way_46 : decode cX7_way 46 = .ok (.getfield 10, 3) := by decide +kernel
theorem dX7_way_49 : decode cX7_way 49 = .ok (.invokevirtual 165, 3) := by decide +kernel
theorem dX7_way_52 : decode cX7_way 52 = .ok (.iload 4, 2) := by decide +kernel
theorem dX7_way_54 : decode cX7_way 54 = .ok (.ireturn, 1) := by decide +kernel
set_option maxRecDepth 20000 in
theorem ggX7_person_X7_isKind : GoodIn wsX7_person wsX7_isKind := goodIn_r _ [6] (by decide +kernel) (by decide +kernel)
set_option maxRecDepth 20000 in
theorem gX7_person_X7_isKind : GoodIn wsX7_person (va_wsS RX7 123 yX7_isKind wsX7_isKind) := goodIn_app (goodIn_of _ (by decide +kernel)) ggX7_person_X7_isKind
set_option maxRecDepth 20000 in
theorem ggX7_person_X7_isPlace : GoodIn wsX7_person wsX7_isPlace := goodIn_r _ [10, 1, 11, 28, 29, 30, 31, 32, 33, 34, 35, 36, 37, 38, 39, 40, 41, 42, 43, 44, 45, 46, 47, 48, 49, 50, 51] (by decide +kernel) (by decide +kernel)
set_option maxRecDepth 20000 in
theorem gX7_person_X7_isPlace : GoodIn wsX7_person (wsV RX7 168 RX7 yX7_isPlace wsX7_isPlace) := goodIn_app (goodIn_of _ (by decide +kernel)) ggX7_person_X7_isPlace
set_option maxRecDepth 20000 in
theorem ggX7_person_X7_refuse : GoodIn wsX7_person wsX7_refuse := goodIn_r _ [15, 16, 28, 29, 30, 31, 32, 33, 34, 35, 36, 37, 38, 39] (by decide +kernel) (by decide +kernel)
set_option maxRecDepth 20000 in
theorem gX7_person_X7_refuse : GoodIn wsX7_person (wsV RX7 73 RX7 yX7_refuse wsX7_refuse) := goodIn_app (goodIn_of _ (by decide +kernel)) ggX7_person_X7_refuse
set_option maxRecDepth 20000 in
theorem ggX7_person_X5_addPerson : GoodIn wsX7_person wsX5_addPerson := goodIn_r _ [21, 22, 23, 24, 25, 26, 27, 40, 41, 42, 43, 44, 45, 46, 47, 48, 49, 50, 51] (by decide +kernel) (by decide +kernel)
set_option maxRecDepth 20000 in
theorem gX7_person_X5_addPerson : GoodIn wsX7_person (wsV RX7 174 RX5 yX5_addPerson wsX5_addPerson) := goodIn_app (goodIn_of _ (by decide +kernel)) ggX7_person_X5_addPerson
theorem dX7_person_0 : decode cX7_person 0 = .ok (.iload_n 1, 1) := by decide +kernel
theorem dX7_person_1 : decode cX7_person 1 = .ok (.invokestatic 123, 3) := by decide +kernel
theorem dX7_person_4 : decode cX7_person 4 = .ok (.ifCond .eq 30, 3) := by decide +kernel
theorem dX7_person_7 : decode cX7_person 7 = .ok (.iload_n 2, 1) := by decide +kernel
theorem dX7_person_8 : decode cX7_person 8 = .ok (.ifCond .lt 26, 3) := by decide +kernel
theorem dX7_person_11 : decode cX7_person 11 = .ok (.iload_n 2, 1) := by decide +kernel
theorem dX7_person_12 : decode cX7_person 12 = .ok (.bipush 9, 2) := by decide +kernel
theorem dX7_person_14 : decode cX7_person 14 = .ok (.if_icmp .gt 20, 3) := by decide +kernel
theorem dX7_person_17 : decode cX7_person 17 = .ok (.aload_n 0, 1) := by decide +kernel
theorem dX7_person_18 : decode cX7_person 18 = .ok (.iload_n 3, 1) := by decide +kernel
theorem dX7_person_19 : decode cX7_person 19 = .ok (.invokevirtual 168, 3) := by decide +kernel
theorem dX7_person_22 : decode cX7_person 22 = .ok (.ifCond .eq 12, 3) := by decide +kernel
theorem dX7_person_25 : decode cX7_person 25 = .ok (.aload_n 0, 1) := by decide +kernel
theorem dX7_person_26 : decode cX7_person 26 = .ok (.iload 4, 2) := by decide +kernel
theorem dX7_person_28 : decode cX7_person 28 = .ok (.invokevirtual 168, 3) := by decide +kernel
theorem dX7_person_31 : decode cX7_person 31 = .ok (.ifCond .ne 10, 3) := by decide +kernel
theorem dX7_person_34 : decode cX7_person 34 = .ok (.aload_n 0, 1) := by decide +kernel
theorem dX7_person_35 : decode cX7_person 35 = .ok (.bipush (-2), 2) := by decide +kernel
theorem dX7_person_37 : decode cX7_person 37 = .ok (.invokevirtual 73, 3) := by decide +kernel
theorem dX7_person_40 : decode cX7_person 40 = .ok (.ireturn, 1) := by decide +kernel
theorem dX7_person_41 : decode cX7_person 41 = .ok (.aload_n 0, 1) := by decide +kernel
theorem dX7_person_42 : decode cX7_person 42 = .ok (.getfield 10, 3) := by decide +kernel
theorem dX7_person_45 : decode cX7_person 45 = .ok (.getfield 171, 3) := by decide +kernel
theorem dX7_person_48 : decode cX7_person 48 = .ok (.bipush 8, 2) := by decide +kernel
theorem dX7_person_50 : decode cX7_person 50 = .ok (.if_icmp .lt 10, 3) := by decide +kernel
theorem dX7_person_53 : decode cX7_person 53 = .ok (.aload_n 0, 1) := by decide +kernel
theorem dX7_person_54 : decode cX7_person 54 = .ok (.bipush (-6), 2) := by decide +kernel
theorem dX7_person_56 : decode cX7_person 56 = .ok (.invokevirtual 73, 3) := by decide +kernel
theorem dX7_person_59 : decode cX7_person 59 = .ok (.ireturn, 1) := by decide +kernel
theorem dX7_person_60 : decode cX7_person 60 = .ok (.aload_n 0, 1) := by decide +kernel
theorem dX7_person_61 : decode cX7_person 61 = .ok (.getfield 10, 3) := by decide +kernel
theorem dX7_person_64 : decode cX7_person 64 = .ok (.iload_n 1, 1) := by decide +kernel
theorem dX7_person_65 : decode cX7_person 65 = .ok (.iload_n 2, 1) := by decide +kernel
theorem dX7_person_66 : decode cX7_person 66 = .ok (.iload_n 3, 1) := by decide +kernel
theorem dX7_person_67 : decode cX7_person 67 = .ok (.iload 4, 2) := by decide +kernel
theorem dX7_person_69 : decode cX7_person 69 = .ok (.invokevirtual 174, 3) := by decide +kernel
theorem dX7_person_72 : decode cX7_person 72 = .ok (.ireturn, 1) := by decide +kernel
set_option maxRecDepth 20000 in
theorem ggX7_put_X7_isPerson : GoodIn wsX7_put wsX7_isPerson := goodIn_r _ [9, 1, 10, 21, 22, 23, 24, 25, 26, 27, 28, 29, 30, 31, 32, 33, 34, 35, 36, 37, 38, 39, 40, 41, 42, 43, 44] (by decide +kernel) (by decide +kernel)
set_option maxRecDepth 20000 in
theorem gX7_put_X7_isPerson : GoodIn wsX7_put (wsV RX7 113 RX7 yX7_isPerson wsX7_isPerson) := goodIn_app (goodIn_of _ (by decide +kernel)) ggX7_put_X7_isPerson
set_option maxRecDepth 20000 in
theorem ggX7_put_X7_isPlace : GoodIn wsX7_put wsX7_isPlace := goodIn_r _ [14, 1, 15, 21, 22, 23, 24, 25, 26, 27, 28, 29, 30, 31, 32, 33, 34, 35, 36, 37, 38, 39, 40, 41, 42, 43, 44] (by decide +kernel) (by decide +kernel)
set_option maxRecDepth 20000 in
theorem gX7_put_X7_isPlace : GoodIn wsX7_put (wsV RX7 168 RX7 yX7_isPlace wsX7_isPlace) := goodIn_app (goodIn_of _ (by decide +kernel)) ggX7_put_X7_isPlace
set_option maxRecDepth 20000 in
theorem ggX7_put_X7_refuse : GoodIn wsX7_put wsX7_refuse := goodIn_r _ [19, 20, 21, 22, 23, 24, 25, 26, 27, 28, 29, 30, 31, 32] (by decide +kernel) (by decide +kernel)
set_option maxRecDepth 20000 in
theorem gX7_put_X7_refuse : GoodIn wsX7_put (wsV RX7 73 RX7 yX7_refuse wsX7_refuse) := goodIn_app (goodIn_of _ (by decide +kernel)) ggX7_put_X7_refuse
theorem dX7_put_0 : decode cX7_put 0 = .ok (.aload_n 0, 1) := by decide +kernel
theorem dX7_put_1 : decode cX7_put 1 = .ok (.iload_n 1, 1) := by decide +kernel
theorem dX7_put_2 : decode cX7_put 2 = .ok (.invokevirtual 113, 3) := by decide +kernel
theorem dX7_put_5 : decode cX7_put 5 = .ok (.ifCond .eq 20, 3) := by decide +kernel
theorem dX7_put_8 : decode cX7_put 8 = .ok (.iload_n 2, 1) := by decide +kernel
theorem dX7_put_9 : decode cX7_put 9 = .ok (.ifCond .lt 16, 3) := by decide +kernel
theorem dX7_put_12 : decode cX7_put 12 = .ok (.iload_n 2, 1) := by decide +kernel
theorem dX7_put_13 : decode cX7_put 13 = .ok (.iconst 2, 1) := by decide +kernel
theorem dX7_put_14 : decode cX7_put 14 = .ok (.if_icmp .gt 11, 3) := by decide +kernel
theorem dX7_put_17 : decode cX7_put 17 = .ok (.aload_n 0, 1) := by decide +kernel
theorem dX7_put_18 : decode cX7_put 18 = .ok (.iload_n 3, 1) := by decide +kernel
theorem dX7_put_19 : decode cX7_put 19 = .ok (.invokevirtual 168, 3) := by decide +kernel
theorem dX7_put_22 : decode cX7_put 22 = .ok (.ifCond .ne 10, 3) := by decide +kernel
theorem dX7_put_25 : decode cX7_put 25 = .ok (.aload_n 0, 1) := by decide +kernel
theorem dX7_put_26 : decode cX7_put 26 = .ok (.bipush (-2), 2) := by decide +kernel
theorem dX7_put_28 : decode cX7_put 28 = .ok (.invokevirtual 73, 3) := by decide +kernel
theorem dX7_put_31 : decode cX7_put 31 = .ok (.ireturn, 1) := by decide +kernel
theorem dX7_put_32 : decode cX7_put 32 = .ok (.iload_n 2, 1) := by decide +kernel
theorem dX7_put_33 : decode cX7_put 33 = .ok (.ifCond .ne 13, 3) := by decide +kernel
theorem dX7_put_36 : decode cX7_put 36 = .ok (.aload_n 0, 1) := by decide +kernel
theorem dX7_put_37 : decode cX7_put 37 = .ok (.getfield 10, 3) := by decide +kernel
theorem dX7_put_40 : decode cX7_put 40 = .ok (.getfield 149, 3) := by decide +kernel
theorem dX7_put_43 : decode cX7_put 43 = .ok (.goto 25, 3) := by decide +kernel
theorem dX7_put_46 : decode cX7_put 46 = .ok (.iload_n 2, 1) := by decide +kernel
theorem dX7_put_47 : decode cX7_put 47 = .ok (.iconst 1, 1) := by decide +kernel
theorem dX7_put_48 : decode cX7_put 48 = .ok (.if_icmp .ne 13, 3) := by decide +kernel
theorem dX7_put_51 : decode cX7_put 51 = .ok (.aload_n 0, 1) := by decide +kernel
theorem dX7_put_52 : decode cX7_put 52 = .ok (.getfield 10, 3) := by decide +kernel
theorem dX7_put_55 : decode cX7_put 55 = .ok (.getfield 178, 3) := by decide +kernel
theorem dX7_put_58 : decode cX7_put 58 = .ok (.goto 10, 3) := by decide +kernel
theorem dX7_put_61 : decode cX7_put 61 = .ok (.aload_n 0, 1) := by decide +kernel
theorem dX7_put_62 : decode cX7_put 62 = .ok (.getfield 10, 3) := by decide +kernel
theorem dX7_put_65 : decode cX7_put 65 = .ok (.getfield 181, 3) := by decide +kernel
theorem dX7_put_68 : decode cX7_put 68 = .ok (.astore 4, 2) := by decide +kernel
theorem dX7_put_70 : decode cX7_put 70 = .ok (.aload 4, 2) := by decide +kernel
theorem dX7_put_72 : decode cX7_put 72 = .ok (.iload_n 1, 1) := by decide +kernel
theorem dX7_put_73 : decode cX7_put 73 = .ok (.iaload, 1) := by decide +kernel
theorem dX7_put_74 : decode cX7_put 74 = .ok (.istore 5, 2) := by decide +kernel
theorem dX7_put_76 : decode cX7_put 76 = .ok (.aload 4, 2) := by decide +kernel
theorem dX7_put_78 : decode cX7_put 78 = .ok (.iload_n 1, 1) := by decide +kernel
theorem dX7_put_79 : decode cX7_put 79 = .ok (.iload_n 3, 1) := by decide +kernel
theorem dX7_put_80 : decode cX7_put 80 = .ok (.iastore, 1) := by decide +kernel
theorem dX7_put_81 : decode cX7_put 81 = .ok (.iload 5, 2) := by decide +kernel
theorem dX7_put_83 : decode cX7_put 83 = .ok (.ireturn, 1) := by decide +kernel
set_option maxRecDepth 20000 in
theorem ggX7_tell_X7_refuse : GoodIn wsX7_tell wsX7_refuse := goodIn_r _ [8, 9, 10, 11, 12, 13, 14, 15, 16, 17, 18, 19, 20, 21] (by decide +kernel) (by decide +kernel)
set_option maxRecDepth 20000 in
theorem gX7_tell_X7_refuse : GoodIn wsX7_tell (wsV RX7 73 RX7 yX7_refuse wsX7_refuse) := goodIn_app (goodIn_of _ (by decide +kernel)) ggX7_tell_X7_refuse
theorem dX7_tell_0 : decode cX7_tell 0 = .ok (.iload_n 1, 1) := by decide +kernel
theorem dX7_tell_1 : decode cX7_tell 1 = .ok (.ifCond .ne 32, 3) := by decide +kernel
theorem dX7_tell_4 : decode cX7_tell 4 = .ok (.iload_n 2, 1) := by decide +kernel
theorem dX7_tell_5 : decode cX7_tell 5 = .ok (.ifCond .lt 28, 3) := by decide +kernel
theorem dX7_tell_8 : decode cX7_tell 8 = .ok (.iload_n 2, 1) := by decide +kernel
theorem dX7_tell_9 : decode cX7_tell 9 = .ok (.sipush 9999, 3) := by decide +kernel
theorem dX7_tell_12 : decode cX7_tell 12 = .ok (.if_icmp .gt 21, 3) := by decide +kernel
theorem dX7_tell_15 : decode cX7_tell 15 = .ok (.aload_n 0, 1) := by decide +kernel
theorem dX7_tell_16 : decode cX7_tell 16 = .ok (.getfield 10, 3) := by decide +kernel
theorem dX7_tell_19 : decode cX7_tell 19 = .ok (.getfield 184, 3) := by decide +kernel
theorem dX7_tell_22 : decode cX7_tell 22 = .ok (.istore_n 3, 1) := by decide +kernel
theorem dX7_tell_23 : decode cX7_tell 23 = .ok (.aload_n 0, 1) := by decide +kernel
theorem dX7_tell_24 : decode cX7_tell 24 = .ok (.getfield 10, 3) := by decide +kernel
theorem dX7_tell_27 : decode cX7_tell 27 = .ok (.iload_n 2, 1) := by decide +kernel
theorem dX7_tell_28 : decode cX7_tell 28 = .ok (.putfield 184, 3) := by decide +kernel
theorem dX7_tell_31 : decode cX7_tell 31 = .ok (.iload_n 3, 1) := by decide +kernel
theorem dX7_tell_32 : decode cX7_tell 32 = .ok (.ireturn, 1) := by decide +kernel
theorem dX7_tell_33 : decode cX7_tell 33 = .ok (.iload_n 1, 1) := by decide +kernel
theorem dX7_tell_34 : decode cX7_tell 34 = .ok (.iconst 1, 1) := by decide +kernel
theorem dX7_tell_35 : decode cX7_tell 35 = .ok (.if_icmp .ne 31, 3) := by decide +kernel
theorem dX7_tell_38 : decode cX7_tell 38 = .ok (.iload_n 2, 1) := by decide +kernel
theorem dX7_tell_39 : decode cX7_tell 39 = .ok (.ifCond .lt 27, 3) := by decide +kernel
theorem dX7_tell_42 : decode cX7_tell 42 = .ok (.iload_n 2, 1) := by decide +kernel
theorem dX7_tell_43 : decode cX7_tell 43 = .ok (.bipush 12, 2) := by decide +kernel
theorem dX7_tell_45 : decode cX7_tell 45 = .ok (.if_icmp .gt 21, 3) := by decide +kernel
theorem dX7_tell_48 : decode cX7_tell 48 = .ok (.aload_n 0, 1) := by decide +kernel
theorem dX7_tell_49 : decode cX7_tell 49 = .ok (.getfield 10, 3) := by decide +kernel
theorem dX7_tell_52 : decode cX7_tell 52 = .ok (.getfield 187, 3) := by decide +kernel
theorem dX7_tell_55 : decode cX7_tell 55 = .ok (.istore_n 3, 1) := by decide +kernel
theorem dX7_tell_56 : decode cX7_tell 56 = .ok (.aload_n 0, 1) := by decide +kernel
theorem dX7_tell_57 : decode cX7_tell 57 = .ok (.getfield 10, 3) := by decide +kernel
theorem dX7_tell_60 : decode cX7_tell 60 = .ok (.iload_n 2, 1) := by decide +kernel
theorem dX7_tell_61 : decode cX7_tell 61 = .ok (.putfield 187, 3) := by decide +kernel
theorem dX7_tell_64 : decode cX7_tell 64 = .ok (.iload_n 3, 1) := by decide +kernel
theorem dX7_tell_65 : decode cX7_tell 65 = .ok (.ireturn, 1) := by decide +kernel
theorem dX7_tell_66 : decode cX7_tell 66 = .ok (.aload_n 0, 1) := by decide +kernel
theorem dX7_tell_67 : decode cX7_tell 67 = .ok (.bipush (-2), 2) := by decide +kernel
theorem dX7_tell_69 : decode cX7_tell 69 = .ok (.invokevirtual 73, 3) := by decide +kernel
theorem dX7_tell_72 : decode cX7_tell 72 = .ok (.ireturn, 1) := by decide +kernel
set_option maxRecDepth 20000 in
theorem ggX7_feed_X7_refuse : GoodIn wsX7_feed wsX7_refuse := goodIn_r _ [7, 8, 16, 17, 18, 19, 20, 21, 22, 23, 24, 25, 26, 27] (by decide +kernel) (by decide +kernel)
set_option maxRecDepth 20000 in
theorem gX7_feed_X7_refuse : GoodIn wsX7_feed (wsV RX7 73 RX7 yX7_refuse wsX7_refuse) := goodIn_app (goodIn_of _ (by decide +kernel)) ggX7_feed_X7_refuse
set_option maxRecDepth 20000 in
theorem ggX7_feed_X4_append : GoodIn wsX7_feed wsX4_append := goodIn_r _ [13, 14, 15, 28, 29] (by decide +kernel) (by decide +kernel)
set_option maxRecDepth 20000 in
theorem gX7_feed_X4_append : GoodIn wsX7_feed (wsV RX7 195 RX4 yX4_append wsX4_append) := goodIn_app (goodIn_of _ (by decide +kernel)) ggX7_feed_X4_append
theorem dX7_feed_0 : decode cX7_feed 0 = .ok (.iload_n 1, 1) := by decide +kernel
theorem dX7_feed_1 : decode cX7_feed 1 = .ok (.ifCond .lt 10, 3) := by decide +kernel
theorem dX7_feed_4 : decode cX7_feed 4 = .ok (.iload_n 1, 1) := by decide +kernel
theorem dX7_feed_5 : decode cX7_feed 5 = .ok (.sipush 255, 3) := by decide +kernel
theorem dX7_feed_8 : decode cX7_feed 8 = .ok (.if_icmp .le 10, 3) := by decide +kernel
theorem dX7_feed_11 : decode cX7_feed 11 = .ok (.aload_n 0, 1) := by decide +kernel
theorem dX7_feed_12 : decode cX7_feed 12 = .ok (.bipush (-2), 2) := by decide +kernel
theorem dX7_feed_14 : decode cX7_feed 14 = .ok (.invokevirtual 73, 3) := by decide +kernel
theorem dX7_feed_17 : decode cX7_feed 17 = .ok (.ireturn, 1) := by decide +kernel
theorem dX7_feed_18 : decode cX7_feed 18 = .ok (.aload_n 0, 1) := by decide +kernel
theorem dX7_feed_19 : decode cX7_feed 19 = .ok (.getfield 43, 3) := by decide +kernel
theorem dX7_feed_22 : decode cX7_feed 22 = .ok (.getfield 190, 3) := by decide +kernel
theorem dX7_feed_25 : decode cX7_feed 25 = .ok (.sipush 250, 3) := by decide +kernel
theorem dX7_feed_28 : decode cX7_feed 28 = .ok (.if_icmp .lt 10, 3) := by decide +kernel
theorem dX7_feed_31 : decode cX7_feed 31 = .ok (.aload_n 0, 1) := by decide +kernel
theorem dX7_feed_32 : decode cX7_feed 32 = .ok (.bipush (-6), 2) := by decide +kernel
theorem dX7_feed_34 : decode cX7_feed 34 = .ok (.invokevirtual 73, 3) := by decide +kernel
theorem dX7_feed_37 : decode cX7_feed 37 = .ok (.ireturn, 1) := by decide +kernel
theorem dX7_feed_38 : decode cX7_feed 38 = .ok (.aload_n 0, 1) := by decide +kernel
theorem dX7_feed_39 : decode cX7_feed 39 = .ok (.getfield 43, 3) := by decide +kernel
theorem dX7_feed_42 : decode cX7_feed 42 = .ok (.iload_n 1, 1) := by decide +kernel
theorem dX7_feed_43 : decode cX7_feed 43 = .ok (.invokevirtual 195, 3) := by decide +kernel
theorem dX7_feed_46 : decode cX7_feed 46 = .ok (.aload_n 0, 1) := by decide +kernel
theorem dX7_feed_47 : decode cX7_feed 47 = .ok (.getfield 43, 3) := by decide +kernel
theorem dX7_feed_50 : decode cX7_feed 50 = .ok (.getfield 190, 3) := by decide +kernel
theorem dX7_feed_53 : decode cX7_feed 53 = .ok (.ireturn, 1) := by decide +kernel
theorem dX7_wipe_0 : decode cX7_wipe 0 = .ok (.aload_n 0, 1) := by decide +kernel
theorem dX7_wipe_1 : decode cX7_wipe 1 = .ok (.getfield 43, 3) := by decide +kernel
theorem dX7_wipe_4 : decode cX7_wipe 4 = .ok (.getfield 190, 3) := by decide +kernel
theorem dX7_wipe_7 : decode cX7_wipe 7 = .ok (.istore_n 1, 1) := by decide +kernel
theorem dX7_wipe_8 : decode cX7_wipe 8 = .ok (.aload_n 0, 1) := by decide +kernel
theorem dX7_wipe_9 : decode cX7_wipe 9 = .ok (.getfield 43, 3) := by decide +kernel
theorem dX7_wipe_12 : decode cX7_wipe 12 = .ok (.iconst 0, 1) := by decide +kernel
theorem dX7_wipe_13 : decode cX7_wipe 13 = .ok (.putfield 190, 3) := by decide +kernel
theorem dX7_wipe_16 : decode cX7_wipe 16 = .ok (.iload_n 1, 1) := by decide +kernel
theorem dX7_wipe_17 : decode cX7_wipe 17 = .ok (.ireturn, 1) := by decide +kernel
set_option maxRecDepth 20000 in
theorem ggX7_town_X5_become : GoodIn wsX7_town wsX5_become := goodIn_r _ [11, 12, 13, 14, 15, 16, 17, 18, 19, 20, 21, 22, 23, 24, 25, 26, 27, 205, 206, 207, 208, 209, 210, 211, 212, 213, 214, 215, 216] (by decide +kernel) (by decide +kernel)
set_option maxRecDepth 20000 in
theorem gX7_town_X5_become : GoodIn wsX7_town (wsV RX7 198 RX5 yX5_become wsX5_become) := goodIn_app (goodIn_of _ (by decide +kernel)) ggX7_town_X5_become
set_option maxRecDepth 20000 in
theorem ggX7_town_X6_readTown : GoodIn wsX7_town wsX6_readTown := goodIn_r _ [32, 33, 34, 35, 36, 37, 38, 39, 31, 40, 41, 42, 43, 44, 45, 46, 47, 48, 49, 50, 51, 52, 53, 54, 55, 56, 57, 58, 59, 60, 61, 62, 63, 64, 65, 66, 67, 68, 69, 70, 71, 72, 73, 74, 75, 76, 77, 78, 79, 80, 81, 82, 83, 84, 85, 86, 87, 88, 89, 90, 91, 92, 93, 94, 95, 96, 97, 98, 99, 100, 101, 102, 103, 104, 105, 106, 107, 108, 109, 110, 111, 112, 113, 114, 115, 116, 117, 118, 119, 120, 121, 122, 123, 124, 125, 126, 127, 128, 129, 130, 131, 132, 133, 134, 135, 136, 137, 138, 139, 140, 10, 141, 13, 142, 143, 144, 145, 146, 147, 148, 149, 19, 20, 21, 22, 23, 24, 150, 151, 152, 153, 154, 155, 156, 157, 158, 159, 160, 161, 162, 163, 164, 199, 200, 201, 202, 203, 204, 205, 206, 207, 208, 209, 210, 211, 212, 213, 214, 215, 216, 197, 198] (by decide +kernel) (by decide +kernel)
set_option maxRecDepth 20000 in
theorem gX7_town_X6_readTown : GoodIn wsX7_town (wsV RX7 202 RX6 yX6_readTown wsX6_readTown) := goodIn_app (goodIn_of _ (by decide +kernel)) ggX7_town_X6_readTown
set_option maxRecDepth 20000 in
theorem ggX7_town_X7_refuse : GoodIn wsX7_town wsX7_refuse := goodIn_r _ [169, 170, 185, 186, 187, 188, 189, 190, 191, 192, 193, 194, 195, 196] (by decide +kernel) (by decide +kernel)
set_option maxRecDepth 20000 in
theorem gX7_town_X7_refuse : GoodIn wsX7_town (wsV RX7 73 RX7 yX7_refuse wsX7_refuse) := goodIn_app (goodIn_of _ (by decide +kernel)) ggX7_town_X7_refuse
set_option maxRecDepth 20000 in
theorem ggX7_town_X5_measure : GoodIn wsX7_town wsX5_measure := goodIn_r _ [174, 175, 176, 177, 10, 178, 18, 179, 168, 180, 181, 182, 183, 184, 13, 205, 206, 207, 208, 209, 210, 211, 212, 213, 214, 215, 216] (by decide +kernel) (by decide +kernel)
set_option maxRecDepth 20000 in
theorem gX7_town_X5_measure : GoodIn wsX7_town (wsV RX7 165 RX5 yX5_measure wsX5_measure) := goodIn_app (goodIn_of _ (by decide +kernel)) ggX7_town_X5_measure
theorem dX7_town_0 : decode cX7_town 0 = .ok (.aload_n 0, 1) := by decide +kernel
theorem dX7_town_1 : decode cX7_town 1 = .ok (.getfield 19, 3) := by decide +kernel
theorem dX7_town_4 : decode cX7_town 4 = .ok (.aload_n 0, 1) := by decide +kernel
theorem dX7_town_5 : decode cX7_town 5 = .ok (.getfield 10, 3) := by decide +kernel
theorem dX7_town_8 : decode cX7_town 8 = .ok (.invokevirtual 198, 3) := by decide +kernel
theorem dX7_town_11 : decode cX7_town 11 = .ok (.aload_n 0, 1) := by decide +kernel
theorem dX7_town_12 : decode cX7_town 12 = .ok (.getfield 35, 3) := by decide +kernel
theorem dX7_town_15 : decode cX7_town 15 = .ok (.aload_n 0, 1) := by decide +kernel
theorem dX7_town_16 : decode cX7_town 16 = .ok (.getfield 19, 3) := by decide +kernel
theorem dX7_town_19 : decode cX7_town 19 = .ok (.invokevirtual 202, 3) := by decide +kernel
theorem dX7_town_22 : decode cX7_town 22 = .ok (.istore_n 1, 1) := by decide +kernel
theorem dX7_town_23 : decode cX7_town 23 = .ok (.aload_n 0, 1) := by decide +kernel
theorem dX7_town_24 : decode cX7_town 24 = .ok (.getfield 43, 3) := by decide +kernel
theorem dX7_town_27 : decode cX7_town 27 = .ok (.iconst 0, 1) := by decide +kernel
theorem dX7_town_28 : decode cX7_town 28 = .ok (.putfield 190, 3) := by decide +kernel
theorem dX7_town_31 : decode cX7_town 31 = .ok (.aload_n 0, 1) := by decide +kernel
theorem dX7_town_32 : decode cX7_town 32 = .ok (.getfield 35, 3) := by decide +kernel
theorem dX7_town_35 : decode cX7_town 35 = .ok (.getfield 206, 3) := by decide +kernel
theorem dX7_town_38 : decode cX7_town 38 = .ok (.iconst (-1), 1) := by decide +kernel
theorem dX7_town_39 : decode cX7_town 39 = .ok (.if_icmp .eq 21, 3) := by decide +kernel
theorem dX7_town_42 : decode cX7_town 42 = .ok (.aload_n 0, 1) := by decide +kernel
theorem dX7_town_43 : decode cX7_town 43 = .ok (.bipush (-2), 2) := by decide +kernel
theorem dX7_town_45 : decode cX7_town 45 = .ok (.invokevirtual 73, 3) := by decide +kernel
theorem dX7_town_48 : decode cX7_town 48 = .ok (.pop, 1) := by decide +kernel
theorem dX7_town_49 : decode cX7_town 49 = .ok (.bipush (-20), 2) := by decide +kernel
theorem dX7_town_51 : decode cX7_town 51 = .ok (.aload_n 0, 1) := by decide +kernel
theorem dX7_town_52 : decode cX7_town 52 = .ok (.getfield 35, 3) := by decide +kernel
theorem dX7_town_55 : decode cX7_town 55 = .ok (.getfield 206, 3) := by decide +kernel
theorem dX7_town_58 : decode cX7_town 58 = .ok (.isub, 1) := by decide +kernel
theorem dX7_town_59 : decode cX7_town 59 = .ok (.ireturn, 1) := by decide +kernel
theorem dX7_town_60 : decode cX7_town 60 = .ok (.aload_n 0, 1) := by decide +kernel
theorem dX7_town_61 : decode cX7_town 61 = .ok (.getfield 19, 3) := by decide +kernel
theorem dX7_town_64 : decode cX7_town 64 = .ok (.invokevirtual 165, 3) := by decide +kernel
theorem dX7_town_67 : decode cX7_town 67 = .ok (.aload_n 0, 1) := by decide +kernel
theorem dX7_town_68 : decode cX7_town 68 = .ok (.getfield 10, 3) := by decide +kernel
theorem dX7_town_71 : decode cX7_town 71 = .ok (.aload_n 0, 1) := by decide +kernel
theorem dX7_town_72 : decode cX7_town 72 = .ok (.getfield 19, 3) := by decide +kernel
theorem dX7_town_75 : decode cX7_town 75 = .ok (.invokevirtual 198, 3) := by decide +kernel
theorem dX7_town_78 : decode cX7_town 78 = .ok (.iload_n 1, 1) := by decide +kernel
theorem dX7_town_79 : decode cX7_town 79 = .ok (.ireturn, 1) := by decide +kernel
set_option maxRecDepth 20000 in
theorem ggX7_personOf_X7_isPerson : GoodIn wsX7_personOf wsX7_isPerson := goodIn_r _ [11, 1, 12, 24, 25, 26, 27, 28, 29, 30, 31, 32, 33, 34, 35, 36, 37, 38, 39, 40, 41, 42, 43, 44, 45, 46, 47] (by decide +kernel) (by decide +kernel)
set_option maxRecDepth 20000 in
theorem gX7_personOf_X7_isPerson : GoodIn wsX7_personOf (wsV RX7 113 RX7 yX7_isPerson wsX7_isPerson) := goodIn_app (goodIn_of _ (by decide +kernel)) ggX7_personOf_X7_isPerson
set_option maxRecDepth 20000 in
theorem ggX7_personOf_X7_refuse : GoodIn wsX7_personOf wsX7_refuse := goodIn_r _ [16, 17, 24, 25, 26, 27, 28, 29, 30, 31, 32, 33, 34, 35] (by decide +kernel) (by decide +kernel)
set_option maxRecDepth 20000 in
theorem gX7_personOf_X7_refuse : GoodIn wsX7_personOf (wsV RX7 73 RX7 yX7_refuse wsX7_refuse) := goodIn_app (goodIn_of _ (by decide +kernel)) ggX7_personOf_X7_refuse
set_option maxRecDepth 20000 in
theorem ggX7_personOf_X5_darkens : GoodIn wsX7_personOf wsX5_darkens := goodIn_r _ [22, 23, 36, 37, 38, 39, 40, 41, 42, 43, 44, 45, 46, 47] (by decide +kernel) (by decide +kernel)
set_option maxRecDepth 20000 in
theorem gX7_personOf_X5_darkens : GoodIn wsX7_personOf (wsV RX7 209 RX5 yX5_darkens wsX5_darkens) := goodIn_app (goodIn_of _ (by decide +kernel)) ggX7_personOf_X5_darkens
theorem dX7_personOf_0 : decode cX7_personOf 0 = .ok (.aload_n 0, 1) := by decide +kernel
theorem dX7_personOf_1 : decode cX7_personOf 1 = .ok (.iload_n 1, 1) := by decide +kernel
theorem dX7_personOf_2 : decode cX7_personOf 2 = .ok (.invokevirtual 113, 3) := by decide +kernel
theorem dX7_personOf_5 : decode cX7_personOf 5 = .ok (.ifCond .ne 10, 3) := by decide +kernel
theorem dX7_personOf_8 : decode cX7_personOf 8 = .ok (.aload_n 0, 1) := by decide +kernel
theorem dX7_personOf_9 : decode cX7_personOf 9 = .ok (.bipush (-2), 2) := by decide +kernel
theorem dX7_personOf_11 : decode cX7_personOf 11 = .ok (.invokevirtual 73, 3) := by decide +kernel
theorem dX7_personOf_14 : decode cX7_personOf 14 = .ok (.ireturn, 1) := by decide +kernel
theorem dX7_personOf_15 : decode cX7_personOf 15 = .ok (.iload_n 2, 1) := by decide +kernel
theorem dX7_personOf_16 : decode cX7_personOf 16 = .ok (.tableswitch 107 0 5 #[40, 50, 60, 70, 80, 90], 40) := by decide +kernel
theorem dX7_personOf_56 : decode cX7_personOf 56 = .ok (.aload_n 0, 1) := by decide +kernel
theorem dX7_personOf_57 : decode cX7_personOf 57 = .ok (.getfield 10, 3) := by decide +kernel
theorem dX7_personOf_60 : decode cX7_personOf 60 = .ok (.getfield 137, 3) := by decide +kernel
theorem dX7_personOf_63 : decode cX7_personOf 63 = .ok (.iload_n 1, 1) := by decide +kernel
theorem dX7_personOf_64 : decode cX7_personOf 64 = .ok (.iaload, 1) := by decide +kernel
theorem dX7_personOf_65 : decode cX7_personOf 65 = .ok (.ireturn, 1) := by decide +kernel
theorem dX7_personOf_66 : decode cX7_personOf 66 = .ok (.aload_n 0, 1) := by decide +kernel
theorem dX7_personOf_67 : decode cX7_personOf 67 = .ok (.getfield 10, 3) := by decide +kernel
theorem dX7_personOf_70 : decode cX7_personOf 70 = .ok (.getfield 143, 3) := by decide +kernel
theorem dX7_personOf_73 : decode cX7_personOf 73 = .ok (.iload_n 1, 1) := by decide +kernel
theorem dX7_personOf_74 : decode cX7_personOf 74 = .ok (.iaload, 1) := by decide +kernel
theorem dX7_personOf_75 : decode cX7_personOf 75 = .ok (.ireturn, 1) := by decide +kernel
theorem dX7_personOf_76 : decode cX7_personOf 76 = .ok (.aload_n 0, 1) := by decide +kernel
theorem dX7_personOf_77 : decode cX7_personOf 77 = .ok (.getfield 10, 3) := by decide +kernel
theorem dX7_personOf_80 : decode cX7_personOf 80 = .ok (.getfield 178, 3) := by decide +kernel
theorem dX7_personOf_83 : decode cX7_personOf 83 = .ok (.iload_n 1, 1) := by decide +kernel
theorem dX7_personOf_84 : decode cX7_personOf 84 = .ok (.iaload, 1) := by decide +kernel
theorem dX7_personOf_85 : decode cX7_personOf 85 = .ok (.ireturn, 1) := by decide +kernel
theorem dX7_personOf_86 : decode cX7_personOf 86 = .ok (.aload_n 0, 1) := by decide +kernel
theorem dX7_personOf_87 : decode cX7_personOf 87 = .ok (.getfield 10, 3) := by decide +kernel
theorem dX7_personOf_90 : decode cX7_personOf 90 = .ok (.getfield 181, 3) := by decide +kernel
theorem dX7_personOf_93 : decode cX7_personOf 93 = .ok (.iload_n 1, 1) := by decide +kernel
theorem dX7_personOf_94 : decode cX7_personOf 94 = .ok (.iaload, 1) := by decide +kernel
theorem dX7_personOf_95 : decode cX7_personOf 95 = .ok (.ireturn, 1) := by decide +kernel
theorem dX7_personOf_96 : decode cX7_personOf 96 = .ok (.aload_n 0, 1) := by decide +kernel
theorem dX7_personOf_97 : decode cX7_personOf 97 = .ok (.getfield 10, 3) := by decide +kernel
theorem dX7_personOf_100 : decode cX7_personOf 100 = .ok (.getfield 149, 3) := by decide +kernel
theorem dX7_personOf_103 : decode cX7_personOf 103 = .ok (.iload_n 1, 1) := by decide +kernel
theorem dX7_personOf_104 : decode cX7_personOf 104 = .ok (.iaload, 1) := by decide +kernel
theorem dX7_personOf_105 : decode cX7_personOf 105 = .ok (.ireturn, 1) := by decide +kernel
theorem dX7_personOf_106 : decode cX7_personOf 106 = .ok (.aload_n 0, 1) := by decide +kernel
theorem dX7_personOf_107 : decode cX7_personOf 107 = .ok (.getfield 10, 3) := by decide +kernel
theorem dX7_personOf_110 : decode cX7_personOf 110 = .ok (.iload_n 1, 1) := by decide +kernel
theorem dX7_personOf_111 : decode cX7_personOf 111 = .ok (.invokevirtual 209, 3) := by decide +kernel
theorem dX7_personOf_114 : decode cX7_personOf 114 = .ok (.ifCond .eq 7, 3) := by decide +kernel
theorem dX7_personOf_117 : decode cX7_personOf 117 = .ok (.iconst 1, 1) := by decide +kernel
theorem dX7_personOf_118 : decode cX7_personOf 118 = .ok (.goto 4, 3) := by decide +kernel
theorem dX7_personOf_121 : decode cX7_personOf 121 = .ok (.iconst 0, 1) := by decide +kernel
theorem dX7_personOf_122 : decode cX7_personOf 122 = .ok (.ireturn, 1) := by decide +kernel
theorem dX7_personOf_123 : decode cX7_personOf 123 = .ok (.aload_n 0, 1) := by decide +kernel
theorem dX7_personOf_124 : decode cX7_personOf 124 = .ok (.bipush (-2), 2) := by decide +kernel
theorem dX7_personOf_126 : decode cX7_personOf 126 = .ok (.invokevirtual 73, 3) := by decide +kernel
theorem dX7_personOf_129 : decode cX7_personOf 129 = .ok (.ireturn, 1) := by decide +kernel
set_option maxRecDepth 20000 in
theorem ggX7_isWay_X7_areTwoPlaces : GoodIn wsX7_isWay wsX7_areTwoPlaces := goodIn_r _ [6, 7, 8, 9, 5, 10, 1, 11, 23, 24, 25, 26, 27, 28, 29, 30, 31, 32, 33, 34, 35, 36, 37, 38, 39, 40, 41, 42, 43, 44, 45, 46] (by decide +kernel) (by decide +kernel)
set_option maxRecDepth 20000 in
theorem gX7_isWay_X7_areTwoPlaces : GoodIn wsX7_isWay (wsV RX7 155 RX7 yX7_areTwoPlaces wsX7_areTwoPlaces) := goodIn_app (goodIn_of _ (by decide +kernel)) ggX7_isWay_X7_areTwoPlaces
set_option maxRecDepth 20000 in
theorem ggX7_isWay_X7_refuse : GoodIn wsX7_isWay wsX7_refuse := goodIn_r _ [15, 16, 23, 24, 25, 26, 27, 28, 29, 30, 31, 32, 33, 34] (by decide +kernel) (by decide +kernel)
set_option maxRecDepth 20000 in
theorem gX7_isWay_X7_refuse : GoodIn wsX7_isWay (wsV RX7 73 RX7 yX7_refuse wsX7_refuse) := goodIn_app (goodIn_of _ (by decide +kernel)) ggX7_isWay_X7_refuse
set_option maxRecDepth 20000 in
theorem ggX7_isWay_X5_hasWay : GoodIn wsX7_isWay wsX5_hasWay := goodIn_r _ [21, 22, 35, 36, 37, 38, 39, 40, 41, 42, 43, 44, 45, 46] (by decide +kernel) (by decide +kernel)
set_option maxRecDepth 20000 in
theorem gX7_isWay_X5_hasWay : GoodIn wsX7_isWay (wsV RX7 158 RX5 yX5_hasWay wsX5_hasWay) := goodIn_app (goodIn_of _ (by decide +kernel)) ggX7_isWay_X5_hasWay
theorem dX7_isWay_0 : decode cX7_isWay 0 = .ok (.aload_n 0, 1) := by decide +kernel
theorem dX7_isWay_1 : decode cX7_isWay 1 = .ok (.iload_n 1, 1) := by decide +kernel
theorem dX7_isWay_2 : decode cX7_isWay 2 = .ok (.iload_n 2, 1) := by decide +kernel
theorem dX7_isWay_3 : decode cX7_isWay 3 = .ok (.invokevirtual 155, 3) := by decide +kernel
theorem dX7_isWay_6 : decode cX7_isWay 6 = .ok (.ifCond .ne 10, 3) := by decide +kernel
theorem dX7_isWay_9 : decode cX7_isWay 9 = .ok (.aload_n 0, 1) := by decide +kernel
theorem dX7_isWay_10 : decode cX7_isWay 10 = .ok (.bipush (-2), 2) := by decide +kernel
theorem dX7_isWay_12 : decode cX7_isWay 12 = .ok (.invokevirtual 73, 3) := by decide +kernel
theorem dX7_isWay_15 : decode cX7_isWay 15 = .ok (.ireturn, 1) := by decide +kernel
theorem dX7_isWay_16 : decode cX7_isWay 16 = .ok (.aload_n 0, 1) := by decide +kernel
theorem dX7_isWay_17 : decode cX7_isWay 17 = .ok (.getfield 10, 3) := by decide +kernel
theorem dX7_isWay_20 : decode cX7_isWay 20 = .ok (.iload_n 1, 1) := by decide +kernel
theorem dX7_isWay_21 : decode cX7_isWay 21 = .ok (.iload_n 2, 1) := by decide +kernel
theorem dX7_isWay_22 : decode cX7_isWay 22 = .ok (.invokevirtual 158, 3) := by decide +kernel
theorem dX7_isWay_25 : decode cX7_isWay 25 = .ok (.ifCond .eq 7, 3) := by decide +kernel
theorem dX7_isWay_28 : decode cX7_isWay 28 = .ok (.iconst 1, 1) := by decide +kernel
theorem dX7_isWay_29 : decode cX7_isWay 29 = .ok (.goto 4, 3) := by decide +kernel
theorem dX7_isWay_32 : decode cX7_isWay 32 = .ok (.iconst 0, 1) := by decide +kernel
theorem dX7_isWay_33 : decode cX7_isWay 33 = .ok (.ireturn, 1) := by decide +kernel
set_option maxRecDepth 20000 in
theorem ggX7_far_X7_isPlace : GoodIn wsX7_far wsX7_isPlace := goodIn_r _ [6, 1, 7, 19, 20, 21, 22, 23, 24, 25, 26, 27, 28, 29, 30, 31, 32, 33, 34, 35, 36, 37, 38, 39, 40, 41, 42] (by decide +kernel) (by decide +kernel)
set_option maxRecDepth 20000 in
theorem gX7_far_X7_isPlace : GoodIn wsX7_far (wsV RX7 168 RX7 yX7_isPlace wsX7_isPlace) := goodIn_app (goodIn_of _ (by decide +kernel)) ggX7_far_X7_isPlace
set_option maxRecDepth 20000 in
theorem ggX7_far_X7_refuse : GoodIn wsX7_far wsX7_refuse := goodIn_r _ [11, 12, 19, 20, 21, 22, 23, 24, 25, 26, 27, 28, 29, 30] (by decide +kernel) (by decide +kernel)
set_option maxRecDepth 20000 in
theorem gX7_far_X7_refuse : GoodIn wsX7_far (wsV RX7 73 RX7 yX7_refuse wsX7_refuse) := goodIn_app (goodIn_of _ (by decide +kernel)) ggX7_far_X7_refuse
set_option maxRecDepth 20000 in
theorem ggX7_far_X5_distance : GoodIn wsX7_far wsX5_distance := goodIn_r _ [17, 18, 31, 32, 33, 34, 35, 36, 37, 38, 39, 40, 41, 42] (by decide +kernel) (by decide +kernel)
set_option maxRecDepth 20000 in
theorem gX7_far_X5_distance : GoodIn wsX7_far (wsV RX7 212 RX5 yX5_distance wsX5_distance) := goodIn_app (goodIn_of _ (by decide +kernel)) ggX7_far_X5_distance
theorem dX7_far_0 : decode cX7_far 0 = .ok (.aload_n 0, 1) := by decide +kernel
theorem dX7_far_1 : decode cX7_far 1 = .ok (.iload_n 1, 1) := by decide +kernel
theorem dX7_far_2 : decode cX7_far 2 = .ok (.invokevirtual 168, 3) := by decide +kernel
theorem dX7_far_5 : decode cX7_far 5 = .ok (.ifCond .eq 11, 3) := by decide +kernel
theorem dX7_far_8 : decode cX7_far 8 = .ok (.aload_n 0, 1) := by decide +kernel
theorem dX7_far_9 : decode cX7_far 9 = .ok (.iload_n 2, 1) := by decide +kernel
theorem dX7_far_10 : decode cX7_far 10 = .ok (.invokevirtual 168, 3) := by decide +kernel
theorem dX7_far_13 : decode cX7_far 13 = .ok (.ifCond .ne 10, 3) := by decide +kernel
theorem dX7_far_16 : decode cX7_far 16 = .ok (.aload_n 0, 1) := by decide +kernel
theorem dX7_far_17 : decode cX7_far 17 = .ok (.bipush (-2), 2) := by decide +kernel
theorem dX7_far_19 : decode cX7_far 19 = .ok (.invokevirtual 73, 3) := by decide +kernel
theorem dX7_far_22 : decode cX7_far 22 = .ok (.ireturn, 1) := by decide +kernel
theorem dX7_far_23 : decode cX7_far 23 = .ok (.aload_n 0, 1) := by decide +kernel
theorem dX7_far_24 : decode cX7_far 24 = .ok (.getfield 10, 3) := by decide +kernel
theorem dX7_far_27 : decode cX7_far 27 = .ok (.iload_n 1, 1) := by decide +kernel
theorem dX7_far_28 : decode cX7_far 28 = .ok (.iload_n 2, 1) := by decide +kernel
theorem dX7_far_29 : decode cX7_far 29 = .ok (.invokevirtual 212, 3) := by decide +kernel
theorem dX7_far_32 : decode cX7_far 32 = .ok (.ireturn, 1) := by decide +kernel
set_option maxRecDepth 20000 in
theorem ggX7_where_X7_isPerson : GoodIn wsX7_where wsX7_isPerson := goodIn_r _ [7, 8, 9, 93, 94, 95, 96, 97, 98, 99, 100, 101, 102, 103, 104, 105, 106, 107, 108, 109, 110, 111, 112, 113, 114, 115, 116] (by decide +kernel) (by decide +kernel)
set_option maxRecDepth 20000 in
theorem gX7_where_X7_isPerson : GoodIn wsX7_where (wsV RX7 113 RX7 yX7_isPerson wsX7_isPerson) := goodIn_app (goodIn_of _ (by decide +kernel)) ggX7_where_X7_isPerson
set_option maxRecDepth 20000 in
theorem ggX7_where_X7_isAhead : GoodIn wsX7_where wsX7_isAhead := goodIn_r _ [12] (by decide +kernel) (by decide +kernel)
set_option maxRecDepth 20000 in
theorem gX7_where_X7_isAhead : GoodIn wsX7_where (va_wsS RX7 215 yX7_isAhead wsX7_isAhead) := goodIn_app (goodIn_of _ (by decide +kernel)) ggX7_where_X7_isAhead
set_option maxRecDepth 20000 in
theorem ggX7_where_X7_refuse : GoodIn wsX7_where wsX7_refuse := goodIn_r _ [16, 17, 93, 94, 95, 96, 97, 98, 99, 100, 101, 102, 103, 104] (by decide +kernel) (by decide +kernel)
set_option maxRecDepth 20000 in
theorem gX7_where_X7_refuse : GoodIn wsX7_where (wsV RX7 73 RX7 yX7_refuse wsX7_refuse) := goodIn_app (goodIn_of _ (by decide +kernel)) ggX7_where_X7_refuse
set_option maxRecDepth 20000 in
theorem ggX7_where_X7_lookAhead : GoodIn wsX7_where wsX7_lookAhead := goodIn_r _ [21, 1, 8, 22, 23, 24, 25, 26, 27, 28, 29, 30, 31, 32, 33, 34, 35, 36, 37, 38, 39, 40, 41, 42, 43, 44, 45, 46, 47, 48, 49, 50, 51, 52, 53, 54, 55, 56, 57, 58, 59, 60, 61, 62, 63, 64, 65, 66, 67, 68, 69, 70, 71, 72, 73, 74, 75, 76, 77, 78, 79, 80, 81, 82, 83, 6, 84, 85, 86, 87, 88, 89, 90, 91, 92, 93, 94, 95, 96, 97, 98, 99, 100, 101, 102, 103, 104, 105, 106, 107, 108, 109, 110, 111, 112, 113, 114, 115, 116] (by decide +kernel) (by decide +kernel)
set_option maxRecDepth 20000 in
theorem gX7_where_X7_lookAhead : GoodIn wsX7_where (wsV RX7 146 RX7 yX7_lookAhead wsX7_lookAhead) := goodIn_app (goodIn_of _ (by decide +kernel)) ggX7_where_X7_lookAhead
theorem dX7_where_0 : decode cX7_where 0 = .ok (.aload_n 0, 1) := by decide +kernel
theorem dX7_where_1 : decode cX7_where 1 = .ok (.iload_n 1, 1) := by decide +kernel
theorem dX7_where_2 : decode cX7_where 2 = .ok (.invokevirtual 113, 3) := by decide +kernel
theorem dX7_where_5 : decode cX7_where 5 = .ok (.ifCond .eq 10, 3) := by decide +kernel
theorem dX7_where_8 : decode cX7_where 8 = .ok (.iload_n 2, 1) := by decide +kernel
theorem dX7_where_9 : decode cX7_where 9 = .ok (.invokestatic 215, 3) := by decide +kernel
theorem dX7_where_12 : decode cX7_where 12 = .ok (.ifCond .ne 10, 3) := by decide +kernel
theorem dX7_where_15 : decode cX7_where 15 = .ok (.aload_n 0, 1) := by decide +kernel
theorem dX7_where_16 : decode cX7_where 16 = .ok (.bipush (-2), 2) := by decide +kernel
theorem dX7_where_18 : decode cX7_where 18 = .ok (.invokevirtual 73, 3) := by decide +kernel
theorem dX7_where_21 : decode cX7_where 21 = .ok (.ireturn, 1) := by decide +kernel
theorem dX7_where_22 : decode cX7_where 22 = .ok (.aload_n 0, 1) := by decide +kernel
theorem dX7_where_23 : decode cX7_where 23 = .ok (.iload_n 2, 1) := by decide +kernel
theorem dX7_where_24 : decode cX7_where 24 = .ok (.invokevirtual 146, 3) := by decide +kernel
theorem dX7_where_27 : decode cX7_where 27 = .ok (.aload_n 0, 1) := by decide +kernel
theorem dX7_where_28 : decode cX7_where 28 = .ok (.getfield 16, 3) := by decide +kernel
theorem dX7_where_31 : decode cX7_where 31 = .ok (.getfield 149, 3) := by decide +kernel
theorem dX7_where_34 : decode cX7_where 34 = .ok (.iload_n 1, 1) := by decide +kernel
theorem dX7_where_35 : decode cX7_where 35 = .ok (.iaload, 1) := by decide +kernel
theorem dX7_where_36 : decode cX7_where 36 = .ok (.ireturn, 1) := by decide +kernel
set_option maxRecDepth 20000 in
theorem ggX7_shines_X7_isAhead : GoodIn wsX7_shines wsX7_isAhead := goodIn_r _ [6] (by decide +kernel) (by decide +kernel)
set_option maxRecDepth 20000 in
theorem gX7_shines_X7_isAhead : GoodIn wsX7_shines (va_wsS RX7 215 yX7_isAhead wsX7_isAhead) := goodIn_app (goodIn_of _ (by decide +kernel)) ggX7_shines_X7_isAhead
set_option maxRecDepth 20000 in
theorem ggX7_shines_X7_refuse : GoodIn wsX7_shines wsX7_refuse := goodIn_r _ [10, 11, 104, 105, 106, 107, 108, 109, 110, 111, 112, 113, 114, 115] (by decide +kernel) (by decide +kernel)
set_option maxRecDepth 20000 in
theorem gX7_shines_X7_refuse : GoodIn wsX7_shines (wsV RX7 73 RX7 yX7_refuse wsX7_refuse) := goodIn_app (goodIn_of _ (by decide +kernel)) ggX7_shines_X7_refuse
set_option maxRecDepth 20000 in
theorem ggX7_shines_X7_lookAhead : GoodIn wsX7_shines wsX7_lookAhead := goodIn_r _ [15, 1, 16, 17, 18, 19, 20, 21, 22, 23, 24, 25, 26, 27, 28, 29, 30, 31, 32, 33, 34, 35, 36, 37, 38, 39, 40, 41, 42, 43, 44, 45, 46, 47, 48, 49, 50, 51, 52, 53, 54, 55, 56, 57, 58, 59, 60, 61, 62, 63, 64, 65, 66, 67, 68, 69, 70, 71, 72, 73, 74, 75, 76, 77, 78, 5, 79, 80, 81, 82, 83, 84, 85, 86, 87, 104, 105, 106, 107, 108, 109, 110, 111, 112, 113, 114, 115, 116, 117, 118, 119, 120, 121, 122, 123, 124, 125, 126, 127] (by decide +kernel) (by decide +kernel)
set_option maxRecDepth 20000 in
theorem gX7_shines_X7_lookAhead : GoodIn wsX7_shines (wsV RX7 146 RX7 yX7_lookAhead wsX7_lookAhead) := goodIn_app (goodIn_of _ (by decide +kernel)) ggX7_shines_X7_lookAhead
set_option maxRecDepth 20000 in
theorem ggX7_shines_X5_shiningPlaces : GoodIn wsX7_shines wsX5_shiningPlaces := goodIn_r _ [91, 22, 46, 47, 48, 20, 49, 29, 34, 50, 51, 52, 53, 30, 116, 117, 118, 119, 120, 121, 122, 123, 124, 125, 126, 127] (by decide +kernel) (by decide +kernel)
set_option maxRecDepth 20000 in
theorem gX7_shines_X5_shiningPlaces : GoodIn wsX7_shines (wsV RX7 218 RX5 yX5_shiningPlaces wsX5_shiningPlaces) := goodIn_app (goodIn_of _ (by decide +kernel)) ggX7_shines_X5_shiningPlaces
set_option maxRecDepth 20000 in
theorem ggX7_shines_X5_shiningCount : GoodIn wsX7_shines wsX5_shiningCount := goodIn_r _ [95, 96, 89, 90, 20, 91, 22, 46, 47, 48, 49, 29, 34, 50, 51, 52, 53, 30, 97, 98, 99, 100, 101, 102, 103, 116, 117, 118, 119, 120, 121, 122, 123, 124, 125, 126, 127] (by decide +kernel) (by decide +kernel)
set_option maxRecDepth 20000 in
theorem gX7_shines_X5_shiningCount : GoodIn wsX7_shines (wsV RX7 221 RX5 yX5_shiningCount wsX5_shiningCount) := goodIn_app (goodIn_of _ (by decide +kernel)) ggX7_shines_X5_shiningCount
theorem dX7_shines_0 : decode cX7_shines 0 = .ok (.iload_n 1, 1) := by decide +kernel
theorem dX7_shines_1 : decode cX7_shines 1 = .ok (.invokestatic 215, 3) := by decide +kernel
theorem dX7_shines_4 : decode cX7_shines 4 = .ok (.ifCond .eq 12, 3) := by decide +kernel
theorem dX7_shines_7 : decode cX7_shines 7 = .ok (.iload_n 2, 1) := by decide +kernel
theorem dX7_shines_8 : decode cX7_shines 8 = .ok (.ifCond .lt 8, 3) := by decide +kernel
theorem dX7_shines_11 : decode cX7_shines 11 = .ok (.iload_n 2, 1) := by decide +kernel
theorem dX7_shines_12 : decode cX7_shines 12 = .ok (.iconst 2, 1) := by decide +kernel
theorem dX7_shines_13 : decode cX7_shines 13 = .ok (.if_icmp .le 10, 3) := by decide +kernel
theorem dX7_shines_16 : decode cX7_shines 16 = .ok (.aload_n 0, 1) := by decide +kernel
theorem dX7_shines_17 : decode cX7_shines 17 = .ok (.bipush (-2), 2) := by decide +kernel
theorem dX7_shines_19 : decode cX7_shines 19 = .ok (.invokevirtual 73, 3) := by decide +kernel
theorem dX7_shines_22 : decode cX7_shines 22 = .ok (.ireturn, 1) := by decide +kernel
theorem dX7_shines_23 : decode cX7_shines 23 = .ok (.aload_n 0, 1) := by decide +kernel
theorem dX7_shines_24 : decode cX7_shines 24 = .ok (.iload_n 1, 1) := by decide +kernel
theorem dX7_shines_25 : decode cX7_shines 25 = .ok (.invokevirtual 146, 3) := by decide +kernel
theorem dX7_shines_28 : decode cX7_shines 28 = .ok (.iload_n 2, 1) := by decide +kernel
theorem dX7_shines_29 : decode cX7_shines 29 = .ok (.lookupswitch 43 #[(0, 27), (1, 35)], 27) := by decide +kernel
theorem dX7_shines_56 : decode cX7_shines 56 = .ok (.aload_n 0, 1) := by decide +kernel
theorem dX7_shines_57 : decode cX7_shines 57 = .ok (.getfield 16, 3) := by decide +kernel
theorem dX7_shines_60 : decode cX7_shines 60 = .ok (.invokevirtual 218, 3) := by decide +kernel
theorem dX7_shines_63 : decode cX7_shines 63 = .ok (.ireturn, 1) := by decide +kernel
theorem dX7_shines_64 : decode cX7_shines 64 = .ok (.aload_n 0, 1) := by decide +kernel
theorem dX7_shines_65 : decode cX7_shines 65 = .ok (.getfield 16, 3) := by decide +kernel
theorem dX7_shines_68 : decode cX7_shines 68 = .ok (.invokevirtual 221, 3) := by decide +kernel
theorem dX7_shines_71 : decode cX7_shines 71 = .ok (.ireturn, 1) := by decide +kernel
theorem dX7_shines_72 : decode cX7_shines 72 = .ok (.aload_n 0, 1) := by decide +kernel
theorem dX7_shines_73 : decode cX7_shines 73 = .ok (.getfield 16, 3) := by decide +kernel
theorem dX7_shines_76 : decode cX7_shines 76 = .ok (.getfield 152, 3) := by decide +kernel
theorem dX7_shines_79 : decode cX7_shines 79 = .ok (.aload_n 0, 1) := by decide +kernel
theorem dX7_shines_80 : decode cX7_shines 80 = .ok (.getfield 16, 3) := by decide +kernel
theorem dX7_shines_83 : decode cX7_shines 83 = .ok (.invokevirtual 221, 3) := by decide +kernel
theorem dX7_shines_86 : decode cX7_shines 86 = .ok (.isub, 1) := by decide +kernel
theorem dX7_shines_87 : decode cX7_shines 87 = .ok (.ireturn, 1) := by decide +kernel
set_option maxRecDepth 20000 in
theorem ggX7_crowd_X7_isPlace : GoodIn wsX7_crowd wsX7_isPlace := goodIn_r _ [6, 7, 8, 100, 101, 102, 103, 104, 105, 106, 107, 108, 109, 110, 111, 112, 113, 114, 115, 116, 117, 118, 119, 120, 121, 122, 123] (by decide +kernel) (by decide +kernel)
set_option maxRecDepth 20000 in
theorem gX7_crowd_X7_isPlace : GoodIn wsX7_crowd (wsV RX7 168 RX7 yX7_isPlace wsX7_isPlace) := goodIn_app (goodIn_of _ (by decide +kernel)) ggX7_crowd_X7_isPlace
set_option maxRecDepth 20000 in
theorem ggX7_crowd_X7_isAhead : GoodIn wsX7_crowd wsX7_isAhead := goodIn_r _ [11] (by decide +kernel) (by decide +kernel)
set_option maxRecDepth 20000 in
theorem gX7_crowd_X7_isAhead : GoodIn wsX7_crowd (va_wsS RX7 215 yX7_isAhead wsX7_isAhead) := goodIn_app (goodIn_of _ (by decide +kernel)) ggX7_crowd_X7_isAhead
set_option maxRecDepth 20000 in
theorem ggX7_crowd_X7_refuse : GoodIn wsX7_crowd wsX7_refuse := goodIn_r _ [15, 16, 100, 101, 102, 103, 104, 105, 106, 107, 108, 109, 110, 111] (by decide +kernel) (by decide +kernel)
set_option maxRecDepth 20000 in
theorem gX7_crowd_X7_refuse : GoodIn wsX7_crowd (wsV RX7 73 RX7 yX7_refuse wsX7_refuse) := goodIn_app (goodIn_of _ (by decide +kernel)) ggX7_crowd_X7_refuse
set_option maxRecDepth 20000 in
theorem ggX7_crowd_X7_lookAhead : GoodIn wsX7_crowd wsX7_lookAhead := goodIn_r _ [20, 1, 7, 21, 22, 23, 24, 25, 26, 27, 28, 29, 30, 31, 32, 33, 34, 35, 36, 37, 38, 39, 40, 41, 42, 43, 44, 45, 46, 47, 48, 49, 50, 51, 52, 53, 54, 55, 56, 57, 58, 59, 60, 61, 62, 63, 64, 65, 66, 67, 68, 69, 70, 71, 72, 73, 74, 75, 76, 77, 78, 79, 80, 81, 82, 5, 83, 84, 85, 86, 87, 88, 89, 90, 91, 100, 101, 102, 103, 104, 105, 106, 107, 108, 109, 110, 111, 112, 113, 114, 115, 116, 117, 118, 119, 120, 121, 122, 123] (by decide +kernel) (by decide +kernel)
set_option maxRecDepth 20000 in
theorem gX7_crowd_X7_lookAhead : GoodIn wsX7_crowd (wsV RX7 146 RX7 yX7_lookAhead wsX7_lookAhead) := goodIn_app (goodIn_of _ (by decide +kernel)) ggX7_crowd_X7_lookAhead
set_option maxRecDepth 20000 in
theorem ggX7_crowd_X5_peopleIn : GoodIn wsX7_crowd wsX5_peopleIn := goodIn_r _ [95, 33, 38, 112, 113, 114, 115, 116, 117, 118, 119, 120, 121, 122, 123] (by decide +kernel) (by decide +kernel)
set_option maxRecDepth 20000 in
theorem gX7_crowd_X5_peopleIn : GoodIn wsX7_crowd (wsV RX7 224 RX5 yX5_peopleIn wsX5_peopleIn) := goodIn_app (goodIn_of _ (by decide +kernel)) ggX7_crowd_X5_peopleIn
set_option maxRecDepth 20000 in
theorem ggX7_crowd_X5_darkeningIn : GoodIn wsX7_crowd wsX5_darkeningIn := goodIn_r _ [99, 33, 38, 54, 55, 56, 24, 57, 34, 112, 113, 114, 115, 116, 117, 118, 119, 120, 121, 122, 123] (by decide +kernel) (by decide +kernel)
set_option maxRecDepth 20000 in
theorem gX7_crowd_X5_darkeningIn : GoodIn wsX7_crowd (wsV RX7 227 RX5 yX5_darkeningIn wsX5_darkeningIn) := goodIn_app (goodIn_of _ (by decide +kernel)) ggX7_crowd_X5_darkeningIn
theorem dX7_crowd_0 : decode cX7_crowd 0 = .ok (.aload_n 0, 1) := by decide +kernel
theorem dX7_crowd_1 : decode cX7_crowd 1 = .ok (.iload_n 1, 1) := by decide +kernel
theorem dX7_crowd_2 : decode cX7_crowd 2 = .ok (.invokevirtual 168, 3) := by decide +kernel
theorem dX7_crowd_5 : decode cX7_crowd 5 = .ok (.ifCond .eq 19, 3) := by decide +kernel
theorem dX7_crowd_8 : decode cX7_crowd 8 = .ok (.iload_n 2, 1) := by decide +kernel
theorem dX7_crowd_9 : decode cX7_crowd 9 = .ok (.invokestatic 215, 3) := by decide +kernel
theorem dX7_crowd_12 : decode cX7_crowd 12 = .ok (.ifCond .eq 12, 3) := by decide +kernel
theorem dX7_crowd_15 : decode cX7_crowd 15 = .ok (.iload_n 3, 1) := by decide +kernel
theorem dX7_crowd_16 : decode cX7_crowd 16 = .ok (.ifCond .lt 8, 3) := by decide +kernel
theorem dX7_crowd_19 : decode cX7_crowd 19 = .ok (.iload_n 3, 1) := by decide +kernel
theorem dX7_crowd_20 : decode cX7_crowd 20 = .ok (.iconst 1, 1) := by decide +kernel
theorem dX7_crowd_21 : decode cX7_crowd 21 = .ok (.if_icmp .le 10, 3) := by decide +kernel
theorem dX7_crowd_24 : decode cX7_crowd 24 = .ok (.aload_n 0, 1) := by decide +kernel
theorem dX7_crowd_25 : decode cX7_crowd 25 = .ok (.bipush (-2), 2) := by decide +kernel
theorem dX7_crowd_27 : decode cX7_crowd 27 = .ok (.invokevirtual 73, 3) := by decide +kernel
theorem dX7_crowd_30 : decode cX7_crowd 30 = .ok (.ireturn, 1) := by decide +kernel
