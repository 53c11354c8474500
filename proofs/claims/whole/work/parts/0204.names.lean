theorem dX7_crowd_31 : decode cX7_crowd 31 = .ok (.aload_n 0, 1) := by decide +kernel
theorem dX7_crowd_32 : decode cX7_crowd 32 = .ok (.iload_n 2, 1) := by decide +kernel
theorem dX7_crowd_33 : decode cX7_crowd 33 = .ok (.invokevirtual 146, 3) := by decide +kernel
theorem dX7_crowd_36 : decode cX7_crowd 36 = .ok (.iload_n 3, 1) := by decide +kernel
theorem dX7_crowd_37 : decode cX7_crowd 37 = .ok (.ifCond .ne 14, 3) := by decide +kernel
theorem dX7_crowd_40 : decode cX7_crowd 40 = .ok (.aload_n 0, 1) := by decide +kernel
theorem dX7_crowd_41 : decode cX7_crowd 41 = .ok (.getfield 16, 3) := by decide +kernel
theorem dX7_crowd_44 : decode cX7_crowd 44 = .ok (.iload_n 1, 1) := by decide +kernel
theorem dX7_crowd_45 : decode cX7_crowd 45 = .ok (.invokevirtual 224, 3) := by decide +kernel
theorem dX7_crowd_48 : decode cX7_crowd 48 = .ok (.goto 11, 3) := by decide +kernel
theorem dX7_crowd_51 : decode cX7_crowd 51 = .ok (.aload_n 0, 1) := by decide +kernel
theorem dX7_crowd_52 : decode cX7_crowd 52 = .ok (.getfield 16, 3) := by decide +kernel
theorem dX7_crowd_55 : decode cX7_crowd 55 = .ok (.iload_n 1, 1) := by decide +kernel
theorem dX7_crowd_56 : decode cX7_crowd 56 = .ok (.invokevirtual 227, 3) := by decide +kernel
theorem dX7_crowd_59 : decode cX7_crowd 59 = .ok (.ireturn, 1) := by decide +kernel
set_option maxRecDepth 20000 in
theorem ggX7_starts_X7_isPerson : GoodIn wsX7_starts wsX7_isPerson := goodIn_r _ [10, 1, 11, 120, 121, 122, 123, 124, 125, 126, 127, 128, 129, 130, 131, 132, 133, 134, 135, 136, 137, 138, 139, 140, 141, 142, 143] (by decide +kernel) (by decide +kernel)
set_option maxRecDepth 20000 in
theorem gX7_starts_X7_isPerson : GoodIn wsX7_starts (wsV RX7 113 RX7 yX7_isPerson wsX7_isPerson) := goodIn_app (goodIn_of _ (by decide +kernel)) ggX7_starts_X7_isPerson
set_option maxRecDepth 20000 in
theorem ggX7_starts_X7_watchReason : GoodIn wsX7_starts wsX7_watchReason := goodIn_r _ [15, 5, 16, 17, 18, 19, 9, 20, 21, 22, 23, 24, 25, 26, 27, 28, 29, 30, 31, 32, 33, 120, 121, 122, 123, 124, 125, 126, 127, 128, 129, 130, 131, 144, 145, 146] (by decide +kernel) (by decide +kernel)
set_option maxRecDepth 20000 in
theorem gX7_starts_X7_watchReason : GoodIn wsX7_starts (wsV RX7 230 RX7 yX7_watchReason wsX7_watchReason) := goodIn_app (goodIn_of _ (by decide +kernel)) ggX7_starts_X7_watchReason
set_option maxRecDepth 20000 in
theorem ggX7_starts_X7_refuse : GoodIn wsX7_starts wsX7_refuse := goodIn_r _ [37, 38, 120, 121, 122, 123, 124, 125, 126, 127, 128, 129, 130, 131] (by decide +kernel) (by decide +kernel)
set_option maxRecDepth 20000 in
theorem gX7_starts_X7_refuse : GoodIn wsX7_starts (wsV RX7 73 RX7 yX7_refuse wsX7_refuse) := goodIn_app (goodIn_of _ (by decide +kernel)) ggX7_starts_X7_refuse
set_option maxRecDepth 20000 in
theorem ggX7_starts_X5_become : GoodIn wsX7_starts wsX5_become := goodIn_r _ [43, 44, 45, 46, 47, 48, 49, 50, 51, 52, 53, 54, 55, 56, 57, 58, 59, 132, 133, 134, 135, 136, 137, 138, 139, 140, 141, 142, 143] (by decide +kernel) (by decide +kernel)
set_option maxRecDepth 20000 in
theorem gX7_starts_X5_become : GoodIn wsX7_starts (wsV RX7 198 RX5 yX5_become wsX5_become) := goodIn_app (goodIn_of _ (by decide +kernel)) ggX7_starts_X5_become
set_option maxRecDepth 20000 in
theorem ggX7_starts_X7_firstWrong : GoodIn wsX7_starts wsX7_firstWrong := goodIn_r _ [63, 64, 3, 65, 66, 67, 27, 68, 69, 70, 71, 72, 42, 73, 44, 74, 75, 76, 77, 51, 56, 78, 79, 80, 81, 52, 82, 83, 84, 85, 86, 87, 88, 89, 55, 54, 90, 91, 92, 93, 57, 94, 95, 96, 97, 98, 99, 100, 101, 50, 102, 103, 104, 105, 45, 106, 107, 108, 109, 110, 9, 111, 112, 113, 114, 115, 116, 117, 118, 119, 144, 145, 146, 120, 121, 122, 123, 124, 125, 126, 127, 128, 129, 130, 131, 132, 133, 134, 135, 136, 137, 138, 139, 140, 141, 142, 143] (by decide +kernel) (by decide +kernel)
set_option maxRecDepth 20000 in
theorem gX7_starts_X7_firstWrong : GoodIn wsX7_starts (wsV RX7 234 RX7 yX7_firstWrong wsX7_firstWrong) := goodIn_app (goodIn_of _ (by decide +kernel)) ggX7_starts_X7_firstWrong
theorem dX7_starts_0 : decode cX7_starts 0 = .ok (.aload_n 0, 1) := by decide +kernel
theorem dX7_starts_1 : decode cX7_starts 1 = .ok (.iload_n 1, 1) := by decide +kernel
theorem dX7_starts_2 : decode cX7_starts 2 = .ok (.iload_n 2, 1) := by decide +kernel
theorem dX7_starts_3 : decode cX7_starts 3 = .ok (.aload_n 0, 1) := by decide +kernel
theorem dX7_starts_4 : decode cX7_starts 4 = .ok (.iload_n 3, 1) := by decide +kernel
theorem dX7_starts_5 : decode cX7_starts 5 = .ok (.invokevirtual 113, 3) := by decide +kernel
theorem dX7_starts_8 : decode cX7_starts 8 = .ok (.invokevirtual 230, 3) := by decide +kernel
theorem dX7_starts_11 : decode cX7_starts 11 = .ok (.istore 4, 2) := by decide +kernel
theorem dX7_starts_13 : decode cX7_starts 13 = .ok (.iload 4, 2) := by decide +kernel
theorem dX7_starts_15 : decode cX7_starts 15 = .ok (.ifCond .eq 10, 3) := by decide +kernel
theorem dX7_starts_18 : decode cX7_starts 18 = .ok (.aload_n 0, 1) := by decide +kernel
theorem dX7_starts_19 : decode cX7_starts 19 = .ok (.iload 4, 2) := by decide +kernel
theorem dX7_starts_21 : decode cX7_starts 21 = .ok (.invokevirtual 73, 3) := by decide +kernel
theorem dX7_starts_24 : decode cX7_starts 24 = .ok (.ireturn, 1) := by decide +kernel
theorem dX7_starts_25 : decode cX7_starts 25 = .ok (.iconst 0, 1) := by decide +kernel
theorem dX7_starts_26 : decode cX7_starts 26 = .ok (.istore 5, 2) := by decide +kernel
theorem dX7_starts_28 : decode cX7_starts 28 = .ok (.iconst 0, 1) := by decide +kernel
theorem dX7_starts_29 : decode cX7_starts 29 = .ok (.istore 6, 2) := by decide +kernel
theorem dX7_starts_31 : decode cX7_starts 31 = .ok (.iload 6, 2) := by decide +kernel
theorem dX7_starts_33 : decode cX7_starts 33 = .ok (.aload_n 0, 1) := by decide +kernel
theorem dX7_starts_34 : decode cX7_starts 34 = .ok (.getfield 10, 3) := by decide +kernel
theorem dX7_starts_37 : decode cX7_starts 37 = .ok (.getfield 152, 3) := by decide +kernel
theorem dX7_starts_40 : decode cX7_starts 40 = .ok (.if_icmp .ge 55, 3) := by decide +kernel
theorem dX7_starts_43 : decode cX7_starts 43 = .ok (.aload_n 0, 1) := by decide +kernel
theorem dX7_starts_44 : decode cX7_starts 44 = .ok (.getfield 16, 3) := by decide +kernel
theorem dX7_starts_47 : decode cX7_starts 47 = .ok (.aload_n 0, 1) := by decide +kernel
theorem dX7_starts_48 : decode cX7_starts 48 = .ok (.getfield 10, 3) := by decide +kernel
theorem dX7_starts_51 : decode cX7_starts 51 = .ok (.invokevirtual 198, 3) := by decide +kernel
theorem dX7_starts_54 : decode cX7_starts 54 = .ok (.aload_n 0, 1) := by decide +kernel
theorem dX7_starts_55 : decode cX7_starts 55 = .ok (.getfield 16, 3) := by decide +kernel
theorem dX7_starts_58 : decode cX7_starts 58 = .ok (.getfield 149, 3) := by decide +kernel
theorem dX7_starts_61 : decode cX7_starts 61 = .ok (.iload_n 3, 1) := by decide +kernel
theorem dX7_starts_62 : decode cX7_starts 62 = .ok (.iload 6, 2) := by decide +kernel
theorem dX7_starts_64 : decode cX7_starts 64 = .ok (.iastore, 1) := by decide +kernel
theorem dX7_starts_65 : decode cX7_starts 65 = .ok (.aload_n 0, 1) := by decide +kernel
theorem dX7_starts_66 : decode cX7_starts 66 = .ok (.aload_n 0, 1) := by decide +kernel
theorem dX7_starts_67 : decode cX7_starts 67 = .ok (.getfield 27, 3) := by decide +kernel
theorem dX7_starts_70 : decode cX7_starts 70 = .ok (.iload_n 1, 1) := by decide +kernel
theorem dX7_starts_71 : decode cX7_starts 71 = .ok (.aaload, 1) := by decide +kernel
theorem dX7_starts_72 : decode cX7_starts 72 = .ok (.iload_n 2, 1) := by decide +kernel
theorem dX7_starts_73 : decode cX7_starts 73 = .ok (.invokevirtual 234, 3) := by decide +kernel
theorem dX7_starts_76 : decode cX7_starts 76 = .ok (.iconst (-1), 1) := by decide +kernel
theorem dX7_starts_77 : decode cX7_starts 77 = .ok (.if_icmp .ne 12, 3) := by decide +kernel
theorem dX7_starts_80 : decode cX7_starts 80 = .ok (.iload 5, 2) := by decide +kernel
theorem dX7_starts_82 : decode cX7_starts 82 = .ok (.iconst 1, 1) := by decide +kernel
theorem dX7_starts_83 : decode cX7_starts 83 = .ok (.iload 6, 2) := by decide +kernel
theorem dX7_starts_85 : decode cX7_starts 85 = .ok (.ishl, 1) := by decide +kernel
theorem dX7_starts_86 : decode cX7_starts 86 = .ok (.ior, 1) := by decide +kernel
theorem dX7_starts_87 : decode cX7_starts 87 = .ok (.istore 5, 2) := by decide +kernel
theorem dX7_starts_89 : decode cX7_starts 89 = .ok (.iinc 6 1, 3) := by decide +kernel
theorem dX7_starts_92 : decode cX7_starts 92 = .ok (.goto (-61), 3) := by decide +kernel
theorem dX7_starts_95 : decode cX7_starts 95 = .ok (.iload 5, 2) := by decide +kernel
theorem dX7_starts_97 : decode cX7_starts 97 = .ok (.ireturn, 1) := by decide +kernel
set_option maxRecDepth 20000 in
theorem ggX7_kinds_X7_isPerson : GoodIn wsX7_kinds wsX7_isPerson := goodIn_r _ [9, 2, 10, 119, 120, 121, 122, 123, 124, 125, 126, 127, 128, 129, 130, 131, 132, 133, 134, 135, 136, 137, 138, 139, 140, 141, 142] (by decide +kernel) (by decide +kernel)
set_option maxRecDepth 20000 in
theorem gX7_kinds_X7_isPerson : GoodIn wsX7_kinds (wsV RX7 113 RX7 yX7_isPerson wsX7_isPerson) := goodIn_app (goodIn_of _ (by decide +kernel)) ggX7_kinds_X7_isPerson
set_option maxRecDepth 20000 in
theorem ggX7_kinds_X7_watchReason : GoodIn wsX7_kinds wsX7_watchReason := goodIn_r _ [14, 4, 15, 16, 17, 18, 8, 19, 20, 21, 22, 23, 24, 25, 26, 27, 28, 29, 30, 31, 32, 119, 120, 121, 122, 123, 124, 125, 126, 127, 128, 129, 130, 143, 144, 145] (by decide +kernel) (by decide +kernel)
set_option maxRecDepth 20000 in
theorem gX7_kinds_X7_watchReason : GoodIn wsX7_kinds (wsV RX7 230 RX7 yX7_watchReason wsX7_watchReason) := goodIn_app (goodIn_of _ (by decide +kernel)) ggX7_kinds_X7_watchReason
set_option maxRecDepth 20000 in
theorem ggX7_kinds_X7_refuse : GoodIn wsX7_kinds wsX7_refuse := goodIn_r _ [36, 37, 119, 120, 121, 122, 123, 124, 125, 126, 127, 128, 129, 130] (by decide +kernel) (by decide +kernel)
set_option maxRecDepth 20000 in
theorem gX7_kinds_X7_refuse : GoodIn wsX7_kinds (wsV RX7 73 RX7 yX7_refuse wsX7_refuse) := goodIn_app (goodIn_of _ (by decide +kernel)) ggX7_kinds_X7_refuse
set_option maxRecDepth 20000 in
theorem ggX7_kinds_X5_become : GoodIn wsX7_kinds wsX5_become := goodIn_r _ [42, 43, 44, 45, 46, 47, 48, 49, 50, 51, 52, 53, 54, 55, 56, 57, 58, 131, 132, 133, 134, 135, 136, 137, 138, 139, 140, 141, 142] (by decide +kernel) (by decide +kernel)
set_option maxRecDepth 20000 in
theorem gX7_kinds_X5_become : GoodIn wsX7_kinds (wsV RX7 198 RX5 yX5_become wsX5_become) := goodIn_app (goodIn_of _ (by decide +kernel)) ggX7_kinds_X5_become
set_option maxRecDepth 20000 in
theorem ggX7_kinds_X7_firstWrong : GoodIn wsX7_kinds wsX7_firstWrong := goodIn_r _ [62, 63, 1, 64, 65, 66, 26, 67, 68, 69, 70, 71, 41, 72, 43, 73, 74, 75, 76, 50, 55, 77, 78, 79, 80, 51, 81, 82, 83, 84, 85, 86, 87, 88, 54, 53, 89, 90, 91, 92, 56, 93, 94, 95, 96, 97, 98, 99, 100, 49, 101, 102, 103, 104, 44, 105, 106, 107, 108, 109, 8, 110, 111, 112, 113, 114, 115, 116, 117, 118, 143, 144, 145, 119, 120, 121, 122, 123, 124, 125, 126, 127, 128, 129, 130, 131, 132, 133, 134, 135, 136, 137, 138, 139, 140, 141, 142] (by decide +kernel) (by decide +kernel)
set_option maxRecDepth 20000 in
theorem gX7_kinds_X7_firstWrong : GoodIn wsX7_kinds (wsV RX7 234 RX7 yX7_firstWrong wsX7_firstWrong) := goodIn_app (goodIn_of _ (by decide +kernel)) ggX7_kinds_X7_firstWrong
theorem dX7_kinds_0 : decode cX7_kinds 0 = .ok (.aload_n 0, 1) := by decide +kernel
theorem dX7_kinds_1 : decode cX7_kinds 1 = .ok (.iload_n 1, 1) := by decide +kernel
theorem dX7_kinds_2 : decode cX7_kinds 2 = .ok (.iload_n 2, 1) := by decide +kernel
theorem dX7_kinds_3 : decode cX7_kinds 3 = .ok (.aload_n 0, 1) := by decide +kernel
theorem dX7_kinds_4 : decode cX7_kinds 4 = .ok (.iload_n 3, 1) := by decide +kernel
theorem dX7_kinds_5 : decode cX7_kinds 5 = .ok (.invokevirtual 113, 3) := by decide +kernel
theorem dX7_kinds_8 : decode cX7_kinds 8 = .ok (.invokevirtual 230, 3) := by decide +kernel
theorem dX7_kinds_11 : decode cX7_kinds 11 = .ok (.istore 4, 2) := by decide +kernel
theorem dX7_kinds_13 : decode cX7_kinds 13 = .ok (.iload 4, 2) := by decide +kernel
theorem dX7_kinds_15 : decode cX7_kinds 15 = .ok (.ifCond .eq 10, 3) := by decide +kernel
theorem dX7_kinds_18 : decode cX7_kinds 18 = .ok (.aload_n 0, 1) := by decide +kernel
theorem dX7_kinds_19 : decode cX7_kinds 19 = .ok (.iload 4, 2) := by decide +kernel
theorem dX7_kinds_21 : decode cX7_kinds 21 = .ok (.invokevirtual 73, 3) := by decide +kernel
theorem dX7_kinds_24 : decode cX7_kinds 24 = .ok (.ireturn, 1) := by decide +kernel
theorem dX7_kinds_25 : decode cX7_kinds 25 = .ok (.iconst 0, 1) := by decide +kernel
theorem dX7_kinds_26 : decode cX7_kinds 26 = .ok (.istore 5, 2) := by decide +kernel
theorem dX7_kinds_28 : decode cX7_kinds 28 = .ok (.iconst 0, 1) := by decide +kernel
theorem dX7_kinds_29 : decode cX7_kinds 29 = .ok (.istore 6, 2) := by decide +kernel
theorem dX7_kinds_31 : decode cX7_kinds 31 = .ok (.iload 6, 2) := by decide +kernel
theorem dX7_kinds_33 : decode cX7_kinds 33 = .ok (.bipush 6, 2) := by decide +kernel
theorem dX7_kinds_35 : decode cX7_kinds 35 = .ok (.if_icmp .ge 55, 3) := by decide +kernel
theorem dX7_kinds_38 : decode cX7_kinds 38 = .ok (.aload_n 0, 1) := by decide +kernel
theorem dX7_kinds_39 : decode cX7_kinds 39 = .ok (.getfield 16, 3) := by decide +kernel
theorem dX7_kinds_42 : decode cX7_kinds 42 = .ok (.aload_n 0, 1) := by decide +kernel
theorem dX7_kinds_43 : decode cX7_kinds 43 = .ok (.getfield 10, 3) := by decide +kernel
theorem dX7_kinds_46 : decode cX7_kinds 46 = .ok (.invokevirtual 198, 3) := by decide +kernel
theorem dX7_kinds_49 : decode cX7_kinds 49 = .ok (.aload_n 0, 1) := by decide +kernel
theorem dX7_kinds_50 : decode cX7_kinds 50 = .ok (.getfield 16, 3) := by decide +kernel
theorem dX7_kinds_53 : decode cX7_kinds 53 = .ok (.getfield 137, 3) := by decide +kernel
theorem dX7_kinds_56 : decode cX7_kinds 56 = .ok (.iload_n 3, 1) := by decide +kernel
theorem dX7_kinds_57 : decode cX7_kinds 57 = .ok (.iload 6, 2) := by decide +kernel
theorem dX7_kinds_59 : decode cX7_kinds 59 = .ok (.iastore, 1) := by decide +kernel
theorem dX7_kinds_60 : decode cX7_kinds 60 = .ok (.aload_n 0, 1) := by decide +kernel
theorem dX7_kinds_61 : decode cX7_kinds 61 = .ok (.aload_n 0, 1) := by decide +kernel
theorem dX7_kinds_62 : decode cX7_kinds 62 = .ok (.getfield 27, 3) := by decide +kernel
theorem dX7_kinds_65 : decode cX7_kinds 65 = .ok (.iload_n 1, 1) := by decide +kernel
theorem dX7_kinds_66 : decode cX7_kinds 66 = .ok (.aaload, 1) := by decide +kernel
theorem dX7_kinds_67 : decode cX7_kinds 67 = .ok (.iload_n 2, 1) := by decide +kernel
theorem dX7_kinds_68 : decode cX7_kinds 68 = .ok (.invokevirtual 234, 3) := by decide +kernel
theorem dX7_kinds_71 : decode cX7_kinds 71 = .ok (.iconst (-1), 1) := by decide +kernel
theorem dX7_kinds_72 : decode cX7_kinds 72 = .ok (.if_icmp .ne 12, 3) := by decide +kernel
theorem dX7_kinds_75 : decode cX7_kinds 75 = .ok (.iload 5, 2) := by decide +kernel
theorem dX7_kinds_77 : decode cX7_kinds 77 = .ok (.iconst 1, 1) := by decide +kernel
theorem dX7_kinds_78 : decode cX7_kinds 78 = .ok (.iload 6, 2) := by decide +kernel
theorem dX7_kinds_80 : decode cX7_kinds 80 = .ok (.ishl, 1) := by decide +kernel
theorem dX7_kinds_81 : decode cX7_kinds 81 = .ok (.ior, 1) := by decide +kernel
theorem dX7_kinds_82 : decode cX7_kinds 82 = .ok (.istore 5, 2) := by decide +kernel
theorem dX7_kinds_84 : decode cX7_kinds 84 = .ok (.iinc 6 1, 3) := by decide +kernel
theorem dX7_kinds_87 : decode cX7_kinds 87 = .ok (.goto (-56), 3) := by decide +kernel
theorem dX7_kinds_90 : decode cX7_kinds 90 = .ok (.iload 5, 2) := by decide +kernel
theorem dX7_kinds_92 : decode cX7_kinds 92 = .ok (.ireturn, 1) := by decide +kernel
set_option maxRecDepth 20000 in
theorem ggX7_next_X7_isPerson : GoodIn wsX7_next wsX7_isPerson := goodIn_r _ [12, 1, 13, 118, 119, 120, 121, 122, 123, 124, 125, 126, 127, 128, 129, 130, 131, 132, 133, 134, 135, 136, 137, 138, 139, 140, 141] (by decide +kernel) (by decide +kernel)
set_option maxRecDepth 20000 in
theorem gX7_next_X7_isPerson : GoodIn wsX7_next (wsV RX7 113 RX7 yX7_isPerson wsX7_isPerson) := goodIn_app (goodIn_of _ (by decide +kernel)) ggX7_next_X7_isPerson
set_option maxRecDepth 20000 in
theorem ggX7_next_X7_refuse : GoodIn wsX7_next wsX7_refuse := goodIn_r _ [17, 18, 118, 119, 120, 121, 122, 123, 124, 125, 126, 127, 128, 129] (by decide +kernel) (by decide +kernel)
set_option maxRecDepth 20000 in
theorem gX7_next_X7_refuse : GoodIn wsX7_next (wsV RX7 73 RX7 yX7_refuse wsX7_refuse) := goodIn_app (goodIn_of _ (by decide +kernel)) ggX7_next_X7_refuse
set_option maxRecDepth 20000 in
theorem ggX7_next_X5_become : GoodIn wsX7_next wsX5_become := goodIn_r _ [23, 24, 25, 26, 27, 28, 29, 30, 31, 32, 33, 34, 35, 36, 37, 38, 39, 130, 131, 132, 133, 134, 135, 136, 137, 138, 139, 140, 141] (by decide +kernel) (by decide +kernel)
set_option maxRecDepth 20000 in
theorem gX7_next_X5_become : GoodIn wsX7_next (wsV RX7 198 RX5 yX5_become wsX5_become) := goodIn_app (goodIn_of _ (by decide +kernel)) ggX7_next_X5_become
set_option maxRecDepth 20000 in
theorem ggX7_next_X3_watch : GoodIn wsX7_next wsX3_watch := goodIn_r _ [44, 45, 46, 47, 48, 22, 49, 24, 50, 51, 52, 53, 31, 36, 54, 55, 56, 57, 32, 58, 59, 60, 61, 62, 63, 64, 65, 35, 34, 66, 67, 68, 69, 37, 70, 71, 72, 73, 74, 75, 76, 77, 30, 78, 79, 80, 81, 25, 82, 83, 84, 85, 86, 11, 87, 88, 89, 90, 91, 92, 93, 94, 95, 144, 130, 131, 132, 133, 134, 135, 136, 137, 138, 139, 140, 141] (by decide +kernel) (by decide +kernel)
set_option maxRecDepth 20000 in
theorem gX7_next_X3_watch : GoodIn wsX7_next (wsV RX7 238 RX3 yX3_watch wsX3_watch) := goodIn_app (goodIn_of _ (by decide +kernel)) ggX7_next_X3_watch
set_option maxRecDepth 20000 in
theorem ggX7_next_X0_begin : GoodIn wsX7_next wsX0_begin := goodIn_r _ [100, 101, 102, 142, 143] (by decide +kernel) (by decide +kernel)
set_option maxRecDepth 20000 in
theorem gX7_next_X0_begin : GoodIn wsX7_next (wsV RX7 242 RX0 yX0_begin wsX0_begin) := goodIn_app (goodIn_of _ (by decide +kernel)) ggX7_next_X0_begin
set_option maxRecDepth 20000 in
theorem ggX7_next_X3_mostAlike : GoodIn wsX7_next wsX3_mostAlike := goodIn_r _ [106, 45, 107, 108, 94, 109, 110, 111, 112, 43, 113, 144] (by decide +kernel) (by decide +kernel)
set_option maxRecDepth 20000 in
theorem gX7_next_X3_mostAlike : GoodIn wsX7_next (wsV RX7 245 RX3 yX3_mostAlike wsX3_mostAlike) := goodIn_app (goodIn_of _ (by decide +kernel)) ggX7_next_X3_mostAlike
set_option maxRecDepth 20000 in
theorem ggX7_next_X0_offer : GoodIn wsX7_next wsX0_offer := goodIn_r _ [117, 102, 101, 142, 143] (by decide +kernel) (by decide +kernel)
set_option maxRecDepth 20000 in
theorem gX7_next_X0_offer : GoodIn wsX7_next (wsV RX7 248 RX0 yX0_offer wsX0_offer) := goodIn_app (goodIn_of _ (by decide +kernel)) ggX7_next_X0_offer
theorem dX7_next_0 : decode cX7_next 0 = .ok (.aload_n 0, 1) := by decide +kernel
theorem dX7_next_1 : decode cX7_next 1 = .ok (.iload_n 1, 1) := by decide +kernel
theorem dX7_next_2 : decode cX7_next 2 = .ok (.invokevirtual 113, 3) := by decide +kernel
theorem dX7_next_5 : decode cX7_next 5 = .ok (.ifCond .ne 10, 3) := by decide +kernel
theorem dX7_next_8 : decode cX7_next 8 = .ok (.aload_n 0, 1) := by decide +kernel
theorem dX7_next_9 : decode cX7_next 9 = .ok (.bipush (-2), 2) := by decide +kernel
theorem dX7_next_11 : decode cX7_next 11 = .ok (.invokevirtual 73, 3) := by decide +kernel
theorem dX7_next_14 : decode cX7_next 14 = .ok (.ireturn, 1) := by decide +kernel
theorem dX7_next_15 : decode cX7_next 15 = .ok (.iconst 0, 1) := by decide +kernel
theorem dX7_next_16 : decode cX7_next 16 = .ok (.istore_n 2, 1) := by decide +kernel
theorem dX7_next_17 : decode cX7_next 17 = .ok (.iload_n 2, 1) := by decide +kernel
theorem dX7_next_18 : decode cX7_next 18 = .ok (.aload_n 0, 1) := by decide +kernel
theorem dX7_next_19 : decode cX7_next 19 = .ok (.getfield 10, 3) := by decide +kernel
theorem dX7_next_22 : decode cX7_next 22 = .ok (.getfield 152, 3) := by decide +kernel
theorem dX7_next_25 : decode cX7_next 25 = .ok (.if_icmp .ge 42, 3) := by decide +kernel
theorem dX7_next_28 : decode cX7_next 28 = .ok (.aload_n 0, 1) := by decide +kernel
theorem dX7_next_29 : decode cX7_next 29 = .ok (.getfield 16, 3) := by decide +kernel
theorem dX7_next_32 : decode cX7_next 32 = .ok (.aload_n 0, 1) := by decide +kernel
theorem dX7_next_33 : decode cX7_next 33 = .ok (.getfield 10, 3) := by decide +kernel
theorem dX7_next_36 : decode cX7_next 36 = .ok (.invokevirtual 198, 3) := by decide +kernel
theorem dX7_next_39 : decode cX7_next 39 = .ok (.aload_n 0, 1) := by decide +kernel
theorem dX7_next_40 : decode cX7_next 40 = .ok (.getfield 16, 3) := by decide +kernel
theorem dX7_next_43 : decode cX7_next 43 = .ok (.getfield 149, 3) := by decide +kernel
theorem dX7_next_46 : decode cX7_next 46 = .ok (.iload_n 1, 1) := by decide +kernel
theorem dX7_next_47 : decode cX7_next 47 = .ok (.iload_n 2, 1) := by decide +kernel
theorem dX7_next_48 : decode cX7_next 48 = .ok (.iastore, 1) := by decide +kernel
theorem dX7_next_49 : decode cX7_next 49 = .ok (.aload_n 0, 1) := by decide +kernel
theorem dX7_next_50 : decode cX7_next 50 = .ok (.getfield 54, 3) := by decide +kernel
theorem dX7_next_53 : decode cX7_next 53 = .ok (.aload_n 0, 1) := by decide +kernel
theorem dX7_next_54 : decode cX7_next 54 = .ok (.getfield 16, 3) := by decide +kernel
theorem dX7_next_57 : decode cX7_next 57 = .ok (.iload_n 2, 1) := by decide +kernel
theorem dX7_next_58 : decode cX7_next 58 = .ok (.invokevirtual 238, 3) := by decide +kernel
theorem dX7_next_61 : decode cX7_next 61 = .ok (.iinc 2 1, 3) := by decide +kernel
theorem dX7_next_64 : decode cX7_next 64 = .ok (.goto (-47), 3) := by decide +kernel
theorem dX7_next_67 : decode cX7_next 67 = .ok (.aload_n 0, 1) := by decide +kernel
theorem dX7_next_68 : decode cX7_next 68 = .ok (.getfield 61, 3) := by decide +kernel
theorem dX7_next_71 : decode cX7_next 71 = .ok (.iconst (-1), 1) := by decide +kernel
theorem dX7_next_72 : decode cX7_next 72 = .ok (.aload_n 0, 1) := by decide +kernel
theorem dX7_next_73 : decode cX7_next 73 = .ok (.getfield 10, 3) := by decide +kernel
theorem dX7_next_76 : decode cX7_next 76 = .ok (.getfield 152, 3) := by decide +kernel
theorem dX7_next_79 : decode cX7_next 79 = .ok (.ineg, 1) := by decide +kernel
theorem dX7_next_80 : decode cX7_next 80 = .ok (.invokevirtual 242, 3) := by decide +kernel
theorem dX7_next_83 : decode cX7_next 83 = .ok (.iconst 0, 1) := by decide +kernel
theorem dX7_next_84 : decode cX7_next 84 = .ok (.istore_n 2, 1) := by decide +kernel
theorem dX7_next_85 : decode cX7_next 85 = .ok (.iload_n 2, 1) := by decide +kernel
theorem dX7_next_86 : decode cX7_next 86 = .ok (.bipush 24, 2) := by decide +kernel
theorem dX7_next_88 : decode cX7_next 88 = .ok (.if_icmp .gt 33, 3) := by decide +kernel
theorem dX7_next_91 : decode cX7_next 91 = .ok (.aload_n 0, 1) := by decide +kernel
theorem dX7_next_92 : decode cX7_next 92 = .ok (.getfield 61, 3) := by decide +kernel
theorem dX7_next_95 : decode cX7_next 95 = .ok (.iload_n 2, 1) := by decide +kernel
theorem dX7_next_96 : decode cX7_next 96 = .ok (.aload_n 0, 1) := by decide +kernel
theorem dX7_next_97 : decode cX7_next 97 = .ok (.getfield 54, 3) := by decide +kernel
theorem dX7_next_100 : decode cX7_next 100 = .ok (.iload_n 2, 1) := by decide +kernel
theorem dX7_next_101 : decode cX7_next 101 = .ok (.aload_n 0, 1) := by decide +kernel
theorem dX7_next_102 : decode cX7_next 102 = .ok (.getfield 10, 3) := by decide +kernel
theorem dX7_next_105 : decode cX7_next 105 = .ok (.getfield 152, 3) := by decide +kernel
theorem dX7_next_108 : decode cX7_next 108 = .ok (.invokevirtual 245, 3) := by decide +kernel
theorem dX7_next_111 : decode cX7_next 111 = .ok (.ineg, 1) := by decide +kernel
theorem dX7_next_112 : decode cX7_next 112 = .ok (.invokevirtual 248, 3) := by decide +kernel
theorem dX7_next_115 : decode cX7_next 115 = .ok (.iinc 2 1, 3) := by decide +kernel
theorem dX7_next_118 : decode cX7_next 118 = .ok (.goto (-33), 3) := by decide +kernel
theorem dX7_next_121 : decode cX7_next 121 = .ok (.aload_n 0, 1) := by decide +kernel
theorem dX7_next_122 : decode cX7_next 122 = .ok (.getfield 61, 3) := by decide +kernel
theorem dX7_next_125 : decode cX7_next 125 = .ok (.getfield 251, 3) := by decide +kernel
theorem dX7_next_128 : decode cX7_next 128 = .ok (.ireturn, 1) := by decide +kernel
set_option maxRecDepth 20000 in
theorem ggX7_hidden_X7_isPlace : GoodIn wsX7_hidden wsX7_isPlace := goodIn_r _ [9, 2, 10, 106, 107, 108, 109, 110, 111, 112, 113, 114, 115, 116, 117, 120, 121, 122, 123, 124, 125, 126, 127, 128, 129, 130, 131] (by decide +kernel) (by decide +kernel)
set_option maxRecDepth 20000 in
theorem gX7_hidden_X7_isPlace : GoodIn wsX7_hidden (wsV RX7 168 RX7 yX7_isPlace wsX7_isPlace) := goodIn_app (goodIn_of _ (by decide +kernel)) ggX7_hidden_X7_isPlace
set_option maxRecDepth 20000 in
theorem ggX7_hidden_X7_refuse : GoodIn wsX7_hidden wsX7_refuse := goodIn_r _ [14, 15, 106, 107, 108, 109, 110, 111, 112, 113, 114, 115, 116, 117] (by decide +kernel) (by decide +kernel)
set_option maxRecDepth 20000 in
theorem gX7_hidden_X7_refuse : GoodIn wsX7_hidden (wsV RX7 73 RX7 yX7_refuse wsX7_refuse) := goodIn_app (goodIn_of _ (by decide +kernel)) ggX7_hidden_X7_refuse
set_option maxRecDepth 20000 in
theorem ggX7_hidden_X5_become : GoodIn wsX7_hidden wsX5_become := goodIn_r _ [20, 21, 22, 23, 24, 25, 26, 27, 28, 29, 30, 31, 32, 33, 34, 35, 36, 120, 121, 122, 123, 124, 125, 126, 127, 128, 129, 130, 131] (by decide +kernel) (by decide +kernel)
set_option maxRecDepth 20000 in
theorem gX7_hidden_X5_become : GoodIn wsX7_hidden (wsV RX7 198 RX5 yX5_become wsX5_become) := goodIn_app (goodIn_of _ (by decide +kernel)) ggX7_hidden_X5_become
set_option maxRecDepth 20000 in
theorem ggX7_hidden_X1_seek : GoodIn wsX7_hidden wsX1_seek := goodIn_r _ [41, 42, 43, 44, 45, 46, 19, 47, 28, 33, 48, 49, 50, 51, 29, 52, 8, 53, 54, 55, 56, 40, 57, 58, 59, 60, 61, 22, 62, 63, 64, 65, 66, 67, 68, 69, 70, 32, 31, 71, 72, 73, 74, 34, 75, 76, 77, 78, 21, 79, 80, 81, 82, 27, 83, 84, 85, 86, 87, 88, 89, 90, 91, 92, 93, 94, 95, 96, 97, 98, 118, 119, 120, 121, 122, 123, 124, 125, 126, 127, 128, 129, 130, 131] (by decide +kernel) (by decide +kernel)
set_option maxRecDepth 20000 in
theorem gX7_hidden_X1_seek : GoodIn wsX7_hidden (wsV RX7 254 RX1 yX1_seek wsX1_seek) := goodIn_app (goodIn_of _ (by decide +kernel)) ggX7_hidden_X1_seek
set_option maxRecDepth 20000 in
theorem ggX7_hidden_X1_placeAt : GoodIn wsX7_hidden wsX1_placeAt := goodIn_r _ [102, 42, 43, 58, 59, 60, 19, 61, 22, 52, 8, 53, 103, 104, 40, 105, 118, 119, 120, 121, 122, 123, 124, 125, 126, 127, 128, 129, 130, 131] (by decide +kernel) (by decide +kernel)
set_option maxRecDepth 20000 in
theorem gX7_hidden_X1_placeAt : GoodIn wsX7_hidden (wsV RX7 261 RX1 yX1_placeAt wsX1_placeAt) := goodIn_app (goodIn_of _ (by decide +kernel)) ggX7_hidden_X1_placeAt
theorem dX7_hidden_0 : decode cX7_hidden 0 = .ok (.aload_n 0, 1) := by decide +kernel
theorem dX7_hidden_1 : decode cX7_hidden 1 = .ok (.iload_n 1, 1) := by decide +kernel
theorem dX7_hidden_2 : decode cX7_hidden 2 = .ok (.invokevirtual 168, 3) := by decide +kernel
theorem dX7_hidden_5 : decode cX7_hidden 5 = .ok (.ifCond .eq 16, 3) := by decide +kernel
theorem dX7_hidden_8 : decode cX7_hidden 8 = .ok (.aload_n 0, 1) := by decide +kernel
theorem dX7_hidden_9 : decode cX7_hidden 9 = .ok (.iload_n 2, 1) := by decide +kernel
theorem dX7_hidden_10 : decode cX7_hidden 10 = .ok (.invokevirtual 168, 3) := by decide +kernel
theorem dX7_hidden_13 : decode cX7_hidden 13 = .ok (.ifCond .eq 8, 3) := by decide +kernel
theorem dX7_hidden_16 : decode cX7_hidden 16 = .ok (.iload_n 3, 1) := by decide +kernel
theorem dX7_hidden_17 : decode cX7_hidden 17 = .ok (.iconst (-1), 1) := by decide +kernel
theorem dX7_hidden_18 : decode cX7_hidden 18 = .ok (.if_icmp .ge 10, 3) := by decide +kernel
theorem dX7_hidden_21 : decode cX7_hidden 21 = .ok (.aload_n 0, 1) := by decide +kernel
theorem dX7_hidden_22 : decode cX7_hidden 22 = .ok (.bipush (-2), 2) := by decide +kernel
theorem dX7_hidden_24 : decode cX7_hidden 24 = .ok (.invokevirtual 73, 3) := by decide +kernel
theorem dX7_hidden_27 : decode cX7_hidden 27 = .ok (.ireturn, 1) := by decide +kernel
theorem dX7_hidden_28 : decode cX7_hidden 28 = .ok (.aload_n 0, 1) := by decide +kernel
theorem dX7_hidden_29 : decode cX7_hidden 29 = .ok (.getfield 16, 3) := by decide +kernel
theorem dX7_hidden_32 : decode cX7_hidden 32 = .ok (.aload_n 0, 1) := by decide +kernel
theorem dX7_hidden_33 : decode cX7_hidden 33 = .ok (.getfield 10, 3) := by decide +kernel
theorem dX7_hidden_36 : decode cX7_hidden 36 = .ok (.invokevirtual 198, 3) := by decide +kernel
theorem dX7_hidden_39 : decode cX7_hidden 39 = .ok (.aload_n 0, 1) := by decide +kernel
theorem dX7_hidden_40 : decode cX7_hidden 40 = .ok (.getfield 47, 3) := by decide +kernel
theorem dX7_hidden_43 : decode cX7_hidden 43 = .ok (.aload_n 0, 1) := by decide +kernel
theorem dX7_hidden_44 : decode cX7_hidden 44 = .ok (.getfield 16, 3) := by decide +kernel
theorem dX7_hidden_47 : decode cX7_hidden 47 = .ok (.iload_n 1, 1) := by decide +kernel
theorem dX7_hidden_48 : decode cX7_hidden 48 = .ok (.iload_n 2, 1) := by decide +kernel
theorem dX7_hidden_49 : decode cX7_hidden 49 = .ok (.invokevirtual 254, 3) := by decide +kernel
theorem dX7_hidden_52 : decode cX7_hidden 52 = .ok (.iload_n 3, 1) := by decide +kernel
theorem dX7_hidden_53 : decode cX7_hidden 53 = .ok (.iconst (-1), 1) := by decide +kernel
theorem dX7_hidden_54 : decode cX7_hidden 54 = .ok (.if_icmp .ne 11, 3) := by decide +kernel
theorem dX7_hidden_57 : decode cX7_hidden 57 = .ok (.aload_n 0, 1) := by decide +kernel
theorem dX7_hidden_58 : decode cX7_hidden 58 = .ok (.getfield 47, 3) := by decide +kernel
theorem dX7_hidden_61 : decode cX7_hidden 61 = .ok (.getfield 258, 3) := by decide +kernel
theorem dX7_hidden_64 : decode cX7_hidden 64 = .ok (.ireturn, 1) := by decide +kernel
theorem dX7_hidden_65 : decode cX7_hidden 65 = .ok (.iload_n 3, 1) := by decide +kernel
theorem dX7_hidden_66 : decode cX7_hidden 66 = .ok (.aload_n 0, 1) := by decide +kernel
theorem dX7_hidden_67 : decode cX7_hidden 67 = .ok (.getfield 47, 3) := by decide +kernel
theorem dX7_hidden_70 : decode cX7_hidden 70 = .ok (.getfield 258, 3) := by decide +kernel
theorem dX7_hidden_73 : decode cX7_hidden 73 = .ok (.if_icmp .le 10, 3) := by decide +kernel
theorem dX7_hidden_76 : decode cX7_hidden 76 = .ok (.aload_n 0, 1) := by decide +kernel
theorem dX7_hidden_77 : decode cX7_hidden 77 = .ok (.bipush (-5), 2) := by decide +kernel
theorem dX7_hidden_79 : decode cX7_hidden 79 = .ok (.invokevirtual 73, 3) := by decide +kernel
theorem dX7_hidden_82 : decode cX7_hidden 82 = .ok (.ireturn, 1) := by decide +kernel
theorem dX7_hidden_83 : decode cX7_hidden 83 = .ok (.aload_n 0, 1) := by decide +kernel
theorem dX7_hidden_84 : decode cX7_hidden 84 = .ok (.getfield 47, 3) := by decide +kernel
theorem dX7_hidden_87 : decode cX7_hidden 87 = .ok (.aload_n 0, 1) := by decide +kernel
theorem dX7_hidden_88 : decode cX7_hidden 88 = .ok (.getfield 16, 3) := by decide +kernel
theorem dX7_hidden_91 : decode cX7_hidden 91 = .ok (.iload_n 1, 1) := by decide +kernel
theorem dX7_hidden_92 : decode cX7_hidden 92 = .ok (.iload_n 3, 1) := by decide +kernel
theorem dX7_hidden_93 : decode cX7_hidden 93 = .ok (.invokevirtual 261, 3) := by decide +kernel
theorem dX7_hidden_96 : decode cX7_hidden 96 = .ok (.ireturn, 1) := by decide +kernel
set_option maxRecDepth 20000 in
theorem ggX7_find_X7_isPerson : GoodIn wsX7_find wsX7_isPerson := goodIn_r _ [6, 7, 8, 108, 109, 110, 111, 112, 113, 114, 115, 116, 117, 118, 119, 120, 121, 122, 123, 124, 125, 126, 127, 128, 129, 130, 131] (by decide +kernel) (by decide +kernel)
set_option maxRecDepth 20000 in
theorem gX7_find_X7_isPerson : GoodIn wsX7_find (wsV RX7 113 RX7 yX7_isPerson wsX7_isPerson) := goodIn_app (goodIn_of _ (by decide +kernel)) ggX7_find_X7_isPerson
set_option maxRecDepth 20000 in
theorem ggX7_find_X7_isAhead : GoodIn wsX7_find wsX7_isAhead := goodIn_r _ [11] (by decide +kernel) (by decide +kernel)
set_option maxRecDepth 20000 in
theorem gX7_find_X7_isAhead : GoodIn wsX7_find (va_wsS RX7 215 yX7_isAhead wsX7_isAhead) := goodIn_app (goodIn_of _ (by decide +kernel)) ggX7_find_X7_isAhead
set_option maxRecDepth 20000 in
theorem ggX7_find_X7_refuse : GoodIn wsX7_find wsX7_refuse := goodIn_r _ [15, 16, 108, 109, 110, 111, 112, 113, 114, 115, 116, 117, 118, 119] (by decide +kernel) (by decide +kernel)
set_option maxRecDepth 20000 in
theorem gX7_find_X7_refuse : GoodIn wsX7_find (wsV RX7 73 RX7 yX7_refuse wsX7_refuse) := goodIn_app (goodIn_of _ (by decide +kernel)) ggX7_find_X7_refuse
set_option maxRecDepth 20000 in
theorem ggX7_find_X7_lookAhead : GoodIn wsX7_find wsX7_lookAhead := goodIn_r _ [20, 1, 7, 21, 22, 23, 24, 25, 26, 27, 28, 29, 30, 31, 32, 33, 34, 35, 36, 37, 38, 39, 40, 41, 42, 43, 44, 45, 46, 47, 48, 49, 50, 51, 52, 53, 54, 55, 56, 57, 58, 59, 60, 61, 62, 63, 64, 65, 66, 67, 68, 69, 70, 71, 72, 73, 74, 75, 76, 77, 78, 79, 80, 81, 82, 5, 83, 84, 85, 86, 87, 88, 89, 90, 91, 108, 109, 110, 111, 112, 113, 114, 115, 116, 117, 118, 119, 120, 121, 122, 123, 124, 125, 126, 127, 128, 129, 130, 131] (by decide +kernel) (by decide +kernel)
set_option maxRecDepth 20000 in
theorem gX7_find_X7_lookAhead : GoodIn wsX7_find (wsV RX7 146 RX7 yX7_lookAhead wsX7_lookAhead) := goodIn_app (goodIn_of _ (by decide +kernel)) ggX7_find_X7_lookAhead
set_option maxRecDepth 20000 in
theorem ggX7_find_X5_darkens : GoodIn wsX7_find wsX5_darkens := goodIn_r _ [57, 34, 120, 121, 122, 123, 124, 125, 126, 127, 128, 129, 130, 131] (by decide +kernel) (by decide +kernel)
set_option maxRecDepth 20000 in
theorem gX7_find_X5_darkens : GoodIn wsX7_find (wsV RX7 209 RX5 yX5_darkens wsX5_darkens) := goodIn_app (goodIn_of _ (by decide +kernel)) ggX7_find_X5_darkens
set_option maxRecDepth 20000 in
theorem ggX7_find_X5_isJoined : GoodIn wsX7_find wsX5_isJoined := goodIn_r _ [96, 33, 38, 54, 55, 56, 24, 57, 34, 120, 121, 122, 123, 124, 125, 126, 127, 128, 129, 130, 131] (by decide +kernel) (by decide +kernel)
set_option maxRecDepth 20000 in
theorem gX7_find_X5_isJoined : GoodIn wsX7_find (wsV RX7 265 RX5 yX5_isJoined wsX5_isJoined) := goodIn_app (goodIn_of _ (by decide +kernel)) ggX7_find_X5_isJoined
set_option maxRecDepth 20000 in
theorem ggX7_find_X5_tellersFor : GoodIn wsX7_find wsX5_tellersFor := goodIn_r _ [100, 38, 33, 50, 51, 52, 24, 53, 54, 55, 56, 57, 34, 82, 5, 83, 120, 121, 122, 123, 124, 125, 126, 127, 128, 129, 130, 131] (by decide +kernel) (by decide +kernel)
set_option maxRecDepth 20000 in
theorem gX7_find_X5_tellersFor : GoodIn wsX7_find (wsV RX7 268 RX5 yX5_tellersFor wsX5_tellersFor) := goodIn_app (goodIn_of _ (by decide +kernel)) ggX7_find_X5_tellersFor
set_option maxRecDepth 20000 in
theorem ggX7_find_J6_bitCount_0f7a4 : GoodIn wsX7_find wsJ6_bitCount_0f7a4 := goodIn_r _ [104, 105, 106, 107] (by decide +kernel) (by decide +kernel)
set_option maxRecDepth 20000 in
theorem gX7_find_J6_bitCount_0f7a4 : GoodIn wsX7_find (va_wsS RX7 271 yJ6_bitCount_0f7a4 wsJ6_bitCount_0f7a4) := goodIn_app (goodIn_of _ (by decide +kernel)) ggX7_find_J6_bitCount_0f7a4
theorem dX7_find_0 : decode cX7_find 0 = .ok (.aload_n 0, 1) := by decide +kernel
theorem dX7_find_1 : decode cX7_find 1 = .ok (.iload_n 1, 1) := by decide +kernel
theorem dX7_find_2 : decode cX7_find 2 = .ok (.invokevirtual 113, 3) := by decide +kernel
theorem dX7_find_5 : decode cX7_find 5 = .ok (.ifCond .eq 19, 3) := by decide +kernel
theorem dX7_find_8 : decode cX7_find 8 = .ok (.iload_n 2, 1) := by decide +kernel
theorem dX7_find_9 : decode cX7_find 9 = .ok (.invokestatic 215, 3) := by decide +kernel
theorem dX7_find_12 : decode cX7_find 12 = .ok (.ifCond .eq 12, 3) := by decide +kernel
theorem dX7_find_15 : decode cX7_find 15 = .ok (.iload_n 3, 1) := by decide +kernel
theorem dX7_find_16 : decode cX7_find 16 = .ok (.ifCond .lt 8, 3) := by decide +kernel
theorem dX7_find_19 : decode cX7_find 19 = .ok (.iload_n 3, 1) := by decide +kernel
theorem dX7_find_20 : decode cX7_find 20 = .ok (.iconst 1, 1) := by decide +kernel
theorem dX7_find_21 : decode cX7_find 21 = .ok (.if_icmp .le 10, 3) := by decide +kernel
theorem dX7_find_24 : decode cX7_find 24 = .ok (.aload_n 0, 1) := by decide +kernel
theorem dX7_find_25 : decode cX7_find 25 = .ok (.bipush (-2), 2) := by decide +kernel
theorem dX7_find_27 : decode cX7_find 27 = .ok (.invokevirtual 73, 3) := by decide +kernel
theorem dX7_find_30 : decode cX7_find 30 = .ok (.ireturn, 1) := by decide +kernel
theorem dX7_find_31 : decode cX7_find 31 = .ok (.aload_n 0, 1) := by decide +kernel
theorem dX7_find_32 : decode cX7_find 32 = .ok (.iload_n 2, 1) := by decide +kernel
theorem dX7_find_33 : decode cX7_find 33 = .ok (.invokevirtual 146, 3) := by decide +kernel
theorem dX7_find_36 : decode cX7_find 36 = .ok (.aload_n 0, 1) := by decide +kernel
theorem dX7_find_37 : decode cX7_find 37 = .ok (.getfield 16, 3) := by decide +kernel
theorem dX7_find_40 : decode cX7_find 40 = .ok (.iload_n 1, 1) := by decide +kernel
theorem dX7_find_41 : decode cX7_find 41 = .ok (.invokevirtual 209, 3) := by decide +kernel
theorem dX7_find_44 : decode cX7_find 44 = .ok (.ifCond .eq 14, 3) := by decide +kernel
theorem dX7_find_47 : decode cX7_find 47 = .ok (.aload_n 0, 1) := by decide +kernel
theorem dX7_find_48 : decode cX7_find 48 = .ok (.getfield 16, 3) := by decide +kernel
theorem dX7_find_51 : decode cX7_find 51 = .ok (.iload_n 1, 1) := by decide +kernel
theorem dX7_find_52 : decode cX7_find 52 = .ok (.invokevirtual 265, 3) := by decide +kernel
theorem dX7_find_55 : decode cX7_find 55 = .ok (.ifCond .eq 5, 3) := by decide +kernel
theorem dX7_find_58 : decode cX7_find 58 = .ok (.iconst (-1), 1) := by decide +kernel
theorem dX7_find_59 : decode cX7_find 59 = .ok (.ireturn, 1) := by decide +kernel
theorem dX7_find_60 : decode cX7_find 60 = .ok (.aload_n 0, 1) := by decide +kernel
theorem dX7_find_61 : decode cX7_find 61 = .ok (.getfield 16, 3) := by decide +kernel
theorem dX7_find_64 : decode cX7_find 64 = .ok (.iload_n 1, 1) := by decide +kernel
theorem dX7_find_65 : decode cX7_find 65 = .ok (.invokevirtual 268, 3) := by decide +kernel
theorem dX7_find_68 : decode cX7_find 68 = .ok (.istore 4, 2) := by decide +kernel
theorem dX7_find_70 : decode cX7_find 70 = .ok (.iload_n 3, 1) := by decide +kernel
theorem dX7_find_71 : decode cX7_find 71 = .ok (.ifCond .ne 11, 3) := by decide +kernel
theorem dX7_find_74 : decode cX7_find 74 = .ok (.iload 4, 2) := by decide +kernel
theorem dX7_find_76 : decode cX7_find 76 = .ok (.invokestatic 271, 3) := by decide +kernel
theorem dX7_find_79 : decode cX7_find 79 = .ok (.goto 5, 3) := by decide +kernel
theorem dX7_find_82 : decode cX7_find 82 = .ok (.iload 4, 2) := by decide +kernel
theorem dX7_find_84 : decode cX7_find 84 = .ok (.ireturn, 1) := by decide +kernel
set_option maxRecDepth 20000 in
theorem ggX7_untold_X7_isAhead : GoodIn wsX7_untold wsX7_isAhead := goodIn_r _ [8] (by decide +kernel) (by decide +kernel)
set_option maxRecDepth 20000 in
theorem gX7_untold_X7_isAhead : GoodIn wsX7_untold (va_wsS RX7 215 yX7_isAhead wsX7_isAhead) := goodIn_app (goodIn_of _ (by decide +kernel)) ggX7_untold_X7_isAhead
set_option maxRecDepth 20000 in
theorem ggX7_untold_X7_refuse : GoodIn wsX7_untold wsX7_refuse := goodIn_r _ [12, 13, 91, 92, 93, 94, 95, 96, 97, 98, 99, 100, 101, 102] (by decide +kernel) (by decide +kernel)
set_option maxRecDepth 20000 in
theorem gX7_untold_X7_refuse : GoodIn wsX7_untold (wsV RX7 73 RX7 yX7_refuse wsX7_refuse) := goodIn_app (goodIn_of _ (by decide +kernel)) ggX7_untold_X7_refuse
set_option maxRecDepth 20000 in
theorem ggX7_untold_X7_lookAhead : GoodIn wsX7_untold wsX7_lookAhead := goodIn_r _ [17, 3, 1, 18, 19, 20, 21, 22, 23, 24, 25, 26, 27, 28, 29, 30, 31, 32, 33, 34, 35, 36, 37, 38, 39, 40, 41, 42, 43, 44, 45, 46, 47, 48, 49, 50, 51, 52, 53, 54, 55, 56, 57, 58, 59, 60, 61, 62, 63, 64, 65, 66, 67, 68, 69, 70, 71, 72, 73, 74, 75, 76, 77, 78, 79, 7, 80, 81, 82, 83, 84, 85, 86, 87, 88, 91, 92, 93, 94, 95, 96, 97, 98, 99, 100, 101, 102, 103, 104, 105, 106, 107, 108, 109, 110, 111, 112, 113, 114] (by decide +kernel) (by decide +kernel)
set_option maxRecDepth 20000 in
theorem gX7_untold_X7_lookAhead : GoodIn wsX7_untold (wsV RX7 146 RX7 yX7_lookAhead wsX7_lookAhead) := goodIn_app (goodIn_of _ (by decide +kernel)) ggX7_untold_X7_lookAhead
set_option maxRecDepth 20000 in
theorem ggX7_untold_X5_darkPlaces : GoodIn wsX7_untold wsX5_darkPlaces := goodIn_r _ [50, 30, 35, 51, 52, 53, 21, 54, 31, 103, 104, 105, 106, 107, 108, 109, 110, 111, 112, 113, 114] (by decide +kernel) (by decide +kernel)
set_option maxRecDepth 20000 in
theorem gX7_untold_X5_darkPlaces : GoodIn wsX7_untold (wsV RX7 276 RX5 yX5_darkPlaces wsX5_darkPlaces) := goodIn_app (goodIn_of _ (by decide +kernel)) ggX7_untold_X5_darkPlaces
set_option maxRecDepth 20000 in
theorem ggX7_untold_X7_hasBit : GoodIn wsX7_untold wsX7_hasBit := goodIn_r _ [80] (by decide +kernel) (by decide +kernel)
set_option maxRecDepth 20000 in
theorem gX7_untold_X7_hasBit : GoodIn wsX7_untold (va_wsS RX7 279 yX7_hasBit wsX7_hasBit) := goodIn_app (goodIn_of _ (by decide +kernel)) ggX7_untold_X7_hasBit
theorem dX7_untold_0 : decode cX7_untold 0 = .ok (.iconst 1, 1) := by decide +kernel
theorem dX7_untold_1 : decode cX7_untold 1 = .ok (.aload_n 0, 1) := by decide +kernel
theorem dX7_untold_2 : decode cX7_untold 2 = .ok (.getfield 10, 3) := by decide +kernel
theorem dX7_untold_5 : decode cX7_untold 5 = .ok (.getfield 171, 3) := by decide +kernel
theorem dX7_untold_8 : decode cX7_untold 8 = .ok (.ishl, 1) := by decide +kernel
theorem dX7_untold_9 : decode cX7_untold 9 = .ok (.iconst 1, 1) := by decide +kernel
theorem dX7_untold_10 : decode cX7_untold 10 = .ok (.isub, 1) := by decide +kernel
theorem dX7_untold_11 : decode cX7_untold 11 = .ok (.istore_n 3, 1) := by decide +kernel
theorem dX7_untold_12 : decode cX7_untold 12 = .ok (.iload_n 1, 1) := by decide +kernel
theorem dX7_untold_13 : decode cX7_untold 13 = .ok (.iload_n 3, 1) := by decide +kernel
theorem dX7_untold_14 : decode cX7_untold 14 = .ok (.iconst (-1), 1) := by decide +kernel
theorem dX7_untold_15 : decode cX7_untold 15 = .ok (.ixor, 1) := by decide +kernel
theorem dX7_untold_16 : decode cX7_untold 16 = .ok (.iand, 1) := by decide +kernel
theorem dX7_untold_17 : decode cX7_untold 17 = .ok (.ifCond .ne 10, 3) := by decide +kernel
theorem dX7_untold_20 : decode cX7_untold 20 = .ok (.iload_n 2, 1) := by decide +kernel
theorem dX7_untold_21 : decode cX7_untold 21 = .ok (.invokestatic 215, 3) := by decide +kernel
theorem dX7_untold_24 : decode cX7_untold 24 = .ok (.ifCond .ne 10, 3) := by decide +kernel
theorem dX7_untold_27 : decode cX7_untold 27 = .ok (.aload_n 0, 1) := by decide +kernel
theorem dX7_untold_28 : decode cX7_untold 28 = .ok (.bipush (-2), 2) := by decide +kernel
theorem dX7_untold_30 : decode cX7_untold 30 = .ok (.invokevirtual 73, 3) := by decide +kernel
theorem dX7_untold_33 : decode cX7_untold 33 = .ok (.ireturn, 1) := by decide +kernel
theorem dX7_untold_34 : decode cX7_untold 34 = .ok (.aload_n 0, 1) := by decide +kernel
theorem dX7_untold_35 : decode cX7_untold 35 = .ok (.iload_n 2, 1) := by decide +kernel
theorem dX7_untold_36 : decode cX7_untold 36 = .ok (.invokevirtual 146, 3) := by decide +kernel
theorem dX7_untold_39 : decode cX7_untold 39 = .ok (.aload_n 0, 1) := by decide +kernel
theorem dX7_untold_40 : decode cX7_untold 40 = .ok (.getfield 16, 3) := by decide +kernel
theorem dX7_untold_43 : decode cX7_untold 43 = .ok (.invokevirtual 276, 3) := by decide +kernel
theorem dX7_untold_46 : decode cX7_untold 46 = .ok (.istore 4, 2) := by decide +kernel
theorem dX7_untold_48 : decode cX7_untold 48 = .ok (.iconst 0, 1) := by decide +kernel
theorem dX7_untold_49 : decode cX7_untold 49 = .ok (.istore 5, 2) := by decide +kernel
theorem dX7_untold_51 : decode cX7_untold 51 = .ok (.iload 5, 2) := by decide +kernel
theorem dX7_untold_53 : decode cX7_untold 53 = .ok (.aload_n 0, 1) := by decide +kernel
theorem dX7_untold_54 : decode cX7_untold 54 = .ok (.getfield 16, 3) := by decide +kernel
theorem dX7_untold_57 : decode cX7_untold 57 = .ok (.getfield 171, 3) := by decide +kernel
theorem dX7_untold_60 : decode cX7_untold 60 = .ok (.if_icmp .ge 37, 3) := by decide +kernel
theorem dX7_untold_63 : decode cX7_untold 63 = .ok (.iload_n 1, 1) := by decide +kernel
theorem dX7_untold_64 : decode cX7_untold 64 = .ok (.iload 5, 2) := by decide +kernel
theorem dX7_untold_66 : decode cX7_untold 66 = .ok (.invokestatic 279, 3) := by decide +kernel
theorem dX7_untold_69 : decode cX7_untold 69 = .ok (.ifCond .eq 22, 3) := by decide +kernel
theorem dX7_untold_72 : decode cX7_untold 72 = .ok (.iload 4, 2) := by decide +kernel
theorem dX7_untold_74 : decode cX7_untold 74 = .ok (.iconst 1, 1) := by decide +kernel
theorem dX7_untold_75 : decode cX7_untold 75 = .ok (.aload_n 0, 1) := by decide +kernel
theorem dX7_untold_76 : decode cX7_untold 76 = .ok (.getfield 16, 3) := by decide +kernel
theorem dX7_untold_79 : decode cX7_untold 79 = .ok (.getfield 149, 3) := by decide +kernel
theorem dX7_untold_82 : decode cX7_untold 82 = .ok (.iload 5, 2) := by decide +kernel
theorem dX7_untold_84 : decode cX7_untold 84 = .ok (.iaload, 1) := by decide +kernel
theorem dX7_untold_85 : decode cX7_untold 85 = .ok (.ishl, 1) := by decide +kernel
theorem dX7_untold_86 : decode cX7_untold 86 = .ok (.iconst (-1), 1) := by decide +kernel
theorem dX7_untold_87 : decode cX7_untold 87 = .ok (.ixor, 1) := by decide +kernel
theorem dX7_untold_88 : decode cX7_untold 88 = .ok (.iand, 1) := by decide +kernel
theorem dX7_untold_89 : decode cX7_untold 89 = .ok (.istore 4, 2) := by decide +kernel
theorem dX7_untold_91 : decode cX7_untold 91 = .ok (.iinc 5 1, 3) := by decide +kernel
theorem dX7_untold_94 : decode cX7_untold 94 = .ok (.goto (-43), 3) := by decide +kernel
theorem dX7_untold_97 : decode cX7_untold 97 = .ok (.iload 4, 2) := by decide +kernel
theorem dX7_untold_99 : decode cX7_untold 99 = .ok (.ireturn, 1) := by decide +kernel
set_option maxRecDepth 20000 in
theorem ggX7_meet_X7_areTwoPeople : GoodIn wsX7_meet wsX7_areTwoPeople := goodIn_r _ [8, 9, 10, 11, 7, 12, 2, 13, 86, 87, 88, 89, 90, 91, 92, 93, 94, 95, 96, 97, 98, 99, 100, 101, 102, 103, 104, 105, 106, 107, 108, 109] (by decide +kernel) (by decide +kernel)
set_option maxRecDepth 20000 in
theorem gX7_meet_X7_areTwoPeople : GoodIn wsX7_meet (wsV RX7 282 RX7 yX7_areTwoPeople wsX7_areTwoPeople) := goodIn_app (goodIn_of _ (by decide +kernel)) ggX7_meet_X7_areTwoPeople
set_option maxRecDepth 20000 in
theorem ggX7_meet_X7_refuse : GoodIn wsX7_meet wsX7_refuse := goodIn_r _ [17, 18, 86, 87, 88, 89, 90, 91, 92, 93, 94, 95, 96, 97] (by decide +kernel) (by decide +kernel)
set_option maxRecDepth 20000 in
theorem gX7_meet_X7_refuse : GoodIn wsX7_meet (wsV RX7 73 RX7 yX7_refuse wsX7_refuse) := goodIn_app (goodIn_of _ (by decide +kernel)) ggX7_meet_X7_refuse
set_option maxRecDepth 20000 in
theorem ggX7_meet_X5_become : GoodIn wsX7_meet wsX5_become := goodIn_r _ [23, 24, 25, 26, 27, 28, 29, 30, 31, 32, 33, 34, 35, 36, 37, 38, 39, 98, 99, 100, 101, 102, 103, 104, 105, 106, 107, 108, 109] (by decide +kernel) (by decide +kernel)
set_option maxRecDepth 20000 in
theorem gX7_meet_X5_become : GoodIn wsX7_meet (wsV RX7 198 RX5 yX5_become wsX5_become) := goodIn_app (goodIn_of _ (by decide +kernel)) ggX7_meet_X5_become
set_option maxRecDepth 20000 in
theorem ggX7_meet_X5_passHour : GoodIn wsX7_meet wsX5_passHour := goodIn_r _ [43, 31, 36, 44, 45, 46, 22, 47, 48, 49, 50, 51, 32, 52, 53, 54, 55, 35, 34, 56, 57, 58, 59, 37, 60, 61, 62, 63, 24, 64, 65, 66, 67, 30, 68, 69, 70, 71, 25, 72, 73, 74, 75, 76, 7, 77, 78, 79, 80, 81, 82, 83, 84, 85, 98, 99, 100, 101, 102, 103, 104, 105, 106, 107, 108, 109] (by decide +kernel) (by decide +kernel)
set_option maxRecDepth 20000 in
theorem gX7_meet_X5_passHour : GoodIn wsX7_meet (wsV RX7 285 RX5 yX5_passHour wsX5_passHour) := goodIn_app (goodIn_of _ (by decide +kernel)) ggX7_meet_X5_passHour
theorem dX7_meet_0 : decode cX7_meet 0 = .ok (.aload_n 0, 1) := by decide +kernel
theorem dX7_meet_1 : decode cX7_meet 1 = .ok (.iload_n 1, 1) := by decide +kernel
theorem dX7_meet_2 : decode cX7_meet 2 = .ok (.iload_n 2, 1) := by decide +kernel
theorem dX7_meet_3 : decode cX7_meet 3 = .ok (.invokevirtual 282, 3) := by decide +kernel
theorem dX7_meet_6 : decode cX7_meet 6 = .ok (.ifCond .ne 10, 3) := by decide +kernel
theorem dX7_meet_9 : decode cX7_meet 9 = .ok (.aload_n 0, 1) := by decide +kernel
theorem dX7_meet_10 : decode cX7_meet 10 = .ok (.bipush (-2), 2) := by decide +kernel
theorem dX7_meet_12 : decode cX7_meet 12 = .ok (.invokevirtual 73, 3) := by decide +kernel
theorem dX7_meet_15 : decode cX7_meet 15 = .ok (.ireturn, 1) := by decide +kernel
theorem dX7_meet_16 : decode cX7_meet 16 = .ok (.aload_n 0, 1) := by decide +kernel
theorem dX7_meet_17 : decode cX7_meet 17 = .ok (.getfield 16, 3) := by decide +kernel
theorem dX7_meet_20 : decode cX7_meet 20 = .ok (.aload_n 0, 1) := by decide +kernel
theorem dX7_meet_21 : decode cX7_meet 21 = .ok (.getfield 10, 3) := by decide +kernel
theorem dX7_meet_24 : decode cX7_meet 24 = .ok (.invokevirtual 198, 3) := by decide +kernel
theorem dX7_meet_27 : decode cX7_meet 27 = .ok (.iconst 0, 1) := by decide +kernel
theorem dX7_meet_28 : decode cX7_meet 28 = .ok (.istore_n 3, 1) := by decide +kernel
theorem dX7_meet_29 : decode cX7_meet 29 = .ok (.iload_n 3, 1) := by decide +kernel
theorem dX7_meet_30 : decode cX7_meet 30 = .ok (.bipush 48, 2) := by decide +kernel
theorem dX7_meet_32 : decode cX7_meet 32 = .ok (.if_icmp .gt 40, 3) := by decide +kernel
theorem dX7_meet_35 : decode cX7_meet 35 = .ok (.aload_n 0, 1) := by decide +kernel
theorem dX7_meet_36 : decode cX7_meet 36 = .ok (.getfield 16, 3) := by decide +kernel
theorem dX7_meet_39 : decode cX7_meet 39 = .ok (.getfield 149, 3) := by decide +kernel
theorem dX7_meet_42 : decode cX7_meet 42 = .ok (.iload_n 1, 1) := by decide +kernel
theorem dX7_meet_43 : decode cX7_meet 43 = .ok (.iaload, 1) := by decide +kernel
theorem dX7_meet_44 : decode cX7_meet 44 = .ok (.aload_n 0, 1) := by decide +kernel
theorem dX7_meet_45 : decode cX7_meet 45 = .ok (.getfield 16, 3) := by decide +kernel
theorem dX7_meet_48 : decode cX7_meet 48 = .ok (.getfield 149, 3) := by decide +kernel
theorem dX7_meet_51 : decode cX7_meet 51 = .ok (.iload_n 2, 1) := by decide +kernel
theorem dX7_meet_52 : decode cX7_meet 52 = .ok (.iaload, 1) := by decide +kernel
theorem dX7_meet_53 : decode cX7_meet 53 = .ok (.if_icmp .ne 5, 3) := by decide +kernel
theorem dX7_meet_56 : decode cX7_meet 56 = .ok (.iload_n 3, 1) := by decide +kernel
theorem dX7_meet_57 : decode cX7_meet 57 = .ok (.ireturn, 1) := by decide +kernel
theorem dX7_meet_58 : decode cX7_meet 58 = .ok (.aload_n 0, 1) := by decide +kernel
theorem dX7_meet_59 : decode cX7_meet 59 = .ok (.getfield 16, 3) := by decide +kernel
theorem dX7_meet_62 : decode cX7_meet 62 = .ok (.invokevirtual 285, 3) := by decide +kernel
theorem dX7_meet_65 : decode cX7_meet 65 = .ok (.pop, 1) := by decide +kernel
theorem dX7_meet_66 : decode cX7_meet 66 = .ok (.iinc 3 1, 3) := by decide +kernel
theorem dX7_meet_69 : decode cX7_meet 69 = .ok (.goto (-40), 3) := by decide +kernel
theorem dX7_meet_72 : decode cX7_meet 72 = .ok (.iconst (-1), 1) := by decide +kernel
theorem dX7_meet_73 : decode cX7_meet 73 = .ok (.ireturn, 1) := by decide +kernel
set_option maxRecDepth 20000 in
theorem ggX7_darkest_X7_isAhead : GoodIn wsX7_darkest wsX7_isAhead := goodIn_r _ [9] (by decide +kernel) (by decide +kernel)
set_option maxRecDepth 20000 in
theorem gX7_darkest_X7_isAhead : GoodIn wsX7_darkest (va_wsS RX7 215 yX7_isAhead wsX7_isAhead) := goodIn_app (goodIn_of _ (by decide +kernel)) ggX7_darkest_X7_isAhead
set_option maxRecDepth 20000 in
theorem ggX7_darkest_X7_refuse : GoodIn wsX7_darkest wsX7_refuse := goodIn_r _ [13, 14, 106, 107, 108, 109, 110, 111, 112, 113, 114, 115, 116, 117] (by decide +kernel) (by decide +kernel)
set_option maxRecDepth 20000 in
theorem gX7_darkest_X7_refuse : GoodIn wsX7_darkest (wsV RX7 73 RX7 yX7_refuse wsX7_refuse) := goodIn_app (goodIn_of _ (by decide +kernel)) ggX7_darkest_X7_refuse
set_option maxRecDepth 20000 in
theorem ggX7_darkest_X7_lookAhead : GoodIn wsX7_darkest wsX7_lookAhead := goodIn_r _ [18, 2, 19, 20, 21, 22, 23, 24, 25, 26, 27, 28, 29, 30, 31, 32, 33, 34, 35, 36, 37, 38, 39, 40, 41, 42, 43, 44, 45, 46, 47, 48, 49, 50, 51, 52, 53, 54, 55, 56, 57, 58, 59, 60, 61, 62, 63, 64, 65, 66, 67, 68, 69, 70, 71, 72, 73, 74, 75, 76, 77, 78, 79, 80, 81, 8, 82, 83, 84, 85, 86, 87, 88, 89, 90, 106, 107, 108, 109, 110, 111, 112, 113, 114, 115, 116, 117, 118, 119, 120, 121, 122, 123, 124, 125, 126, 127, 128, 129] (by decide +kernel) (by decide +kernel)
set_option maxRecDepth 20000 in
theorem gX7_darkest_X7_lookAhead : GoodIn wsX7_darkest (wsV RX7 146 RX7 yX7_lookAhead wsX7_lookAhead) := goodIn_app (goodIn_of _ (by decide +kernel)) ggX7_darkest_X7_lookAhead
set_option maxRecDepth 20000 in
theorem ggX7_darkest_X0_begin : GoodIn wsX7_darkest wsX0_begin := goodIn_r _ [95, 96, 97, 130, 131] (by decide +kernel) (by decide +kernel)
set_option maxRecDepth 20000 in
theorem gX7_darkest_X0_begin : GoodIn wsX7_darkest (wsV RX7 242 RX0 yX0_begin wsX0_begin) := goodIn_app (goodIn_of _ (by decide +kernel)) ggX7_darkest_X0_begin
set_option maxRecDepth 20000 in
theorem ggX7_darkest_X5_darkeningIn : GoodIn wsX7_darkest wsX5_darkeningIn := goodIn_r _ [101, 32, 37, 53, 54, 55, 23, 56, 33, 118, 119, 120, 121, 122, 123, 124, 125, 126, 127, 128, 129] (by decide +kernel) (by decide +kernel)
set_option maxRecDepth 20000 in
theorem gX7_darkest_X5_darkeningIn : GoodIn wsX7_darkest (wsV RX7 227 RX5 yX5_darkeningIn wsX5_darkeningIn) := goodIn_app (goodIn_of _ (by decide +kernel)) ggX7_darkest_X5_darkeningIn
set_option maxRecDepth 20000 in
theorem ggX7_darkest_X0_offer : GoodIn wsX7_darkest wsX0_offer := goodIn_r _ [105, 97, 96, 130, 131] (by decide +kernel) (by decide +kernel)
set_option maxRecDepth 20000 in
theorem gX7_darkest_X0_offer : GoodIn wsX7_darkest (wsV RX7 248 RX0 yX0_offer wsX0_offer) := goodIn_app (goodIn_of _ (by decide +kernel)) ggX7_darkest_X0_offer
theorem dX7_darkest_0 : decode cX7_darkest 0 = .ok (.iload_n 1, 1) := by decide +kernel
theorem dX7_darkest_1 : decode cX7_darkest 1 = .ok (.invokestatic 215, 3) := by decide +kernel
theorem dX7_darkest_4 : decode cX7_darkest 4 = .ok (.ifCond .eq 12, 3) := by decide +kernel
theorem dX7_darkest_7 : decode cX7_darkest 7 = .ok (.iload_n 2, 1) := by decide +kernel
theorem dX7_darkest_8 : decode cX7_darkest 8 = .ok (.ifCond .lt 8, 3) := by decide +kernel
theorem dX7_darkest_11 : decode cX7_darkest 11 = .ok (.iload_n 2, 1) := by decide +kernel
theorem dX7_darkest_12 : decode cX7_darkest 12 = .ok (.iconst 1, 1) := by decide +kernel
theorem dX7_darkest_13 : decode cX7_darkest 13 = .ok (.if_icmp .le 10, 3) := by decide +kernel
theorem dX7_darkest_16 : decode cX7_darkest 16 = .ok (.aload_n 0, 1) := by decide +kernel
theorem dX7_darkest_17 : decode cX7_darkest 17 = .ok (.bipush (-2), 2) := by decide +kernel
theorem dX7_darkest_19 : decode cX7_darkest 19 = .ok (.invokevirtual 73, 3) := by decide +kernel
theorem dX7_darkest_22 : decode cX7_darkest 22 = .ok (.ireturn, 1) := by decide +kernel
theorem dX7_darkest_23 : decode cX7_darkest 23 = .ok (.aload_n 0, 1) := by decide +kernel
theorem dX7_darkest_24 : decode cX7_darkest 24 = .ok (.iload_n 1, 1) := by decide +kernel
theorem dX7_darkest_25 : decode cX7_darkest 25 = .ok (.invokevirtual 146, 3) := by decide +kernel
theorem dX7_darkest_28 : decode cX7_darkest 28 = .ok (.aload_n 0, 1) := by decide +kernel
theorem dX7_darkest_29 : decode cX7_darkest 29 = .ok (.getfield 61, 3) := by decide +kernel
theorem dX7_darkest_32 : decode cX7_darkest 32 = .ok (.iconst 0, 1) := by decide +kernel
theorem dX7_darkest_33 : decode cX7_darkest 33 = .ok (.iconst 0, 1) := by decide +kernel
theorem dX7_darkest_34 : decode cX7_darkest 34 = .ok (.invokevirtual 242, 3) := by decide +kernel
theorem dX7_darkest_37 : decode cX7_darkest 37 = .ok (.iconst 0, 1) := by decide +kernel
theorem dX7_darkest_38 : decode cX7_darkest 38 = .ok (.istore_n 3, 1) := by decide +kernel
theorem dX7_darkest_39 : decode cX7_darkest 39 = .ok (.iload_n 3, 1) := by decide +kernel
theorem dX7_darkest_40 : decode cX7_darkest 40 = .ok (.aload_n 0, 1) := by decide +kernel
theorem dX7_darkest_41 : decode cX7_darkest 41 = .ok (.getfield 16, 3) := by decide +kernel
theorem dX7_darkest_44 : decode cX7_darkest 44 = .ok (.getfield 152, 3) := by decide +kernel
theorem dX7_darkest_47 : decode cX7_darkest 47 = .ok (.if_icmp .ge 25, 3) := by decide +kernel
theorem dX7_darkest_50 : decode cX7_darkest 50 = .ok (.aload_n 0, 1) := by decide +kernel
theorem dX7_darkest_51 : decode cX7_darkest 51 = .ok (.getfield 61, 3) := by decide +kernel
theorem dX7_darkest_54 : decode cX7_darkest 54 = .ok (.iload_n 3, 1) := by decide +kernel
theorem dX7_darkest_55 : decode cX7_darkest 55 = .ok (.aload_n 0, 1) := by decide +kernel
theorem dX7_darkest_56 : decode cX7_darkest 56 = .ok (.getfield 16, 3) := by decide +kernel
theorem dX7_darkest_59 : decode cX7_darkest 59 = .ok (.iload_n 3, 1) := by decide +kernel
theorem dX7_darkest_60 : decode cX7_darkest 60 = .ok (.invokevirtual 227, 3) := by decide +kernel
theorem dX7_darkest_63 : decode cX7_darkest 63 = .ok (.invokevirtual 248, 3) := by decide +kernel
theorem dX7_darkest_66 : decode cX7_darkest 66 = .ok (.iinc 3 1, 3) := by decide +kernel
theorem dX7_darkest_69 : decode cX7_darkest 69 = .ok (.goto (-30), 3) := by decide +kernel
theorem dX7_darkest_72 : decode cX7_darkest 72 = .ok (.iload_n 2, 1) := by decide +kernel
theorem dX7_darkest_73 : decode cX7_darkest 73 = .ok (.ifCond .ne 13, 3) := by decide +kernel
theorem dX7_darkest_76 : decode cX7_darkest 76 = .ok (.aload_n 0, 1) := by decide +kernel
theorem dX7_darkest_77 : decode cX7_darkest 77 = .ok (.getfield 61, 3) := by decide +kernel
theorem dX7_darkest_80 : decode cX7_darkest 80 = .ok (.getfield 251, 3) := by decide +kernel
theorem dX7_darkest_83 : decode cX7_darkest 83 = .ok (.goto 10, 3) := by decide +kernel
theorem dX7_darkest_86 : decode cX7_darkest 86 = .ok (.aload_n 0, 1) := by decide +kernel
theorem dX7_darkest_87 : decode cX7_darkest 87 = .ok (.getfield 61, 3) := by decide +kernel
theorem dX7_darkest_90 : decode cX7_darkest 90 = .ok (.getfield 288, 3) := by decide +kernel
theorem dX7_darkest_93 : decode cX7_darkest 93 = .ok (.ireturn, 1) := by decide +kernel
set_option maxRecDepth 20000 in
theorem ggX7_light_X7_isPlace : GoodIn wsX7_light wsX7_isPlace := goodIn_r _ [7, 2, 8, 89, 90, 91, 92, 93, 94, 95, 96, 97, 98, 99, 100, 101, 102, 103, 104, 105, 106, 107, 108, 109, 110, 111, 112] (by decide +kernel) (by decide +kernel)
set_option maxRecDepth 20000 in
theorem gX7_light_X7_isPlace : GoodIn wsX7_light (wsV RX7 168 RX7 yX7_isPlace wsX7_isPlace) := goodIn_app (goodIn_of _ (by decide +kernel)) ggX7_light_X7_isPlace
set_option maxRecDepth 20000 in
theorem ggX7_light_X7_isSpan : GoodIn wsX7_light wsX7_isSpan := goodIn_r _ [11] (by decide +kernel) (by decide +kernel)
set_option maxRecDepth 20000 in
theorem gX7_light_X7_isSpan : GoodIn wsX7_light (va_wsS RX7 291 yX7_isSpan wsX7_isSpan) := goodIn_app (goodIn_of _ (by decide +kernel)) ggX7_light_X7_isSpan
set_option maxRecDepth 20000 in
theorem ggX7_light_X7_refuse : GoodIn wsX7_light wsX7_refuse := goodIn_r _ [15, 16, 89, 90, 91, 92, 93, 94, 95, 96, 97, 98, 99, 100] (by decide +kernel) (by decide +kernel)
set_option maxRecDepth 20000 in
theorem gX7_light_X7_refuse : GoodIn wsX7_light (wsV RX7 73 RX7 yX7_refuse wsX7_refuse) := goodIn_app (goodIn_of _ (by decide +kernel)) ggX7_light_X7_refuse
set_option maxRecDepth 20000 in
theorem ggX7_light_X5_become : GoodIn wsX7_light wsX5_become := goodIn_r _ [21, 22, 23, 24, 25, 26, 27, 28, 29, 30, 31, 32, 33, 34, 35, 36, 37, 101, 102, 103, 104, 105, 106, 107, 108, 109, 110, 111, 112] (by decide +kernel) (by decide +kernel)
set_option maxRecDepth 20000 in
theorem gX7_light_X5_become : GoodIn wsX7_light (wsV RX7 198 RX5 yX5_become wsX5_become) := goodIn_app (goodIn_of _ (by decide +kernel)) ggX7_light_X5_become
set_option maxRecDepth 20000 in
theorem ggX7_light_X5_passHour : GoodIn wsX7_light wsX5_passHour := goodIn_r _ [41, 29, 34, 42, 43, 44, 20, 45, 46, 47, 48, 49, 30, 50, 51, 52, 53, 33, 32, 54, 55, 56, 57, 35, 58, 59, 60, 61, 22, 62, 63, 64, 65, 28, 66, 67, 68, 69, 23, 70, 71, 72, 73, 74, 6, 75, 76, 77, 78, 79, 80, 81, 82, 83, 101, 102, 103, 104, 105, 106, 107, 108, 109, 110, 111, 112] (by decide +kernel) (by decide +kernel)
set_option maxRecDepth 20000 in
theorem gX7_light_X5_passHour : GoodIn wsX7_light (wsV RX7 285 RX5 yX5_passHour wsX5_passHour) := goodIn_app (goodIn_of _ (by decide +kernel)) ggX7_light_X5_passHour
set_option maxRecDepth 20000 in
theorem ggX7_light_X5_shiningPlaces : GoodIn wsX7_light wsX5_shiningPlaces := goodIn_r _ [87, 22, 42, 43, 44, 20, 45, 29, 34, 46, 47, 48, 49, 30, 101, 102, 103, 104, 105, 106, 107, 108, 109, 110, 111, 112] (by decide +kernel) (by decide +kernel)
set_option maxRecDepth 20000 in
theorem gX7_light_X5_shiningPlaces : GoodIn wsX7_light (wsV RX7 218 RX5 yX5_shiningPlaces wsX5_shiningPlaces) := goodIn_app (goodIn_of _ (by decide +kernel)) ggX7_light_X5_shiningPlaces
set_option maxRecDepth 20000 in
theorem ggX7_light_X7_hasBit : GoodIn wsX7_light wsX7_hasBit := goodIn_r _ [75] (by decide +kernel) (by decide +kernel)
set_option maxRecDepth 20000 in
theorem gX7_light_X7_hasBit : GoodIn wsX7_light (va_wsS RX7 279 yX7_hasBit wsX7_hasBit) := goodIn_app (goodIn_of _ (by decide +kernel)) ggX7_light_X7_hasBit
theorem dX7_light_0 : decode cX7_light 0 = .ok (.aload_n 0, 1) := by decide +kernel
theorem dX7_light_1 : decode cX7_light 1 = .ok (.iload_n 1, 1) := by decide +kernel
theorem dX7_light_2 : decode cX7_light 2 = .ok (.invokevirtual 168, 3) := by decide +kernel
theorem dX7_light_5 : decode cX7_light 5 = .ok (.ifCond .eq 10, 3) := by decide +kernel
theorem dX7_light_8 : decode cX7_light 8 = .ok (.iload_n 2, 1) := by decide +kernel
theorem dX7_light_9 : decode cX7_light 9 = .ok (.invokestatic 291, 3) := by decide +kernel
theorem dX7_light_12 : decode cX7_light 12 = .ok (.ifCond .ne 10, 3) := by decide +kernel
theorem dX7_light_15 : decode cX7_light 15 = .ok (.aload_n 0, 1) := by decide +kernel
theorem dX7_light_16 : decode cX7_light 16 = .ok (.bipush (-2), 2) := by decide +kernel
theorem dX7_light_18 : decode cX7_light 18 = .ok (.invokevirtual 73, 3) := by decide +kernel
theorem dX7_light_21 : decode cX7_light 21 = .ok (.ireturn, 1) := by decide +kernel
theorem dX7_light_22 : decode cX7_light 22 = .ok (.iconst 0, 1) := by decide +kernel
theorem dX7_light_23 : decode cX7_light 23 = .ok (.istore_n 3, 1) := by decide +kernel
theorem dX7_light_24 : decode cX7_light 24 = .ok (.aload_n 0, 1) := by decide +kernel
theorem dX7_light_25 : decode cX7_light 25 = .ok (.getfield 16, 3) := by decide +kernel
theorem dX7_light_28 : decode cX7_light 28 = .ok (.aload_n 0, 1) := by decide +kernel
theorem dX7_light_29 : decode cX7_light 29 = .ok (.getfield 10, 3) := by decide +kernel
theorem dX7_light_32 : decode cX7_light 32 = .ok (.invokevirtual 198, 3) := by decide +kernel
theorem dX7_light_35 : decode cX7_light 35 = .ok (.iconst 1, 1) := by decide +kernel
theorem dX7_light_36 : decode cX7_light 36 = .ok (.istore 4, 2) := by decide +kernel
theorem dX7_light_38 : decode cX7_light 38 = .ok (.iload 4, 2) := by decide +kernel
theorem dX7_light_40 : decode cX7_light 40 = .ok (.iload_n 2, 1) := by decide +kernel
theorem dX7_light_41 : decode cX7_light 41 = .ok (.if_icmp .gt 34, 3) := by decide +kernel
theorem dX7_light_44 : decode cX7_light 44 = .ok (.aload_n 0, 1) := by decide +kernel
theorem dX7_light_45 : decode cX7_light 45 = .ok (.getfield 16, 3) := by decide +kernel
theorem dX7_light_48 : decode cX7_light 48 = .ok (.invokevirtual 285, 3) := by decide +kernel
theorem dX7_light_51 : decode cX7_light 51 = .ok (.pop, 1) := by decide +kernel
theorem dX7_light_52 : decode cX7_light 52 = .ok (.aload_n 0, 1) := by decide +kernel
theorem dX7_light_53 : decode cX7_light 53 = .ok (.getfield 16, 3) := by decide +kernel
theorem dX7_light_56 : decode cX7_light 56 = .ok (.invokevirtual 218, 3) := by decide +kernel
theorem dX7_light_59 : decode cX7_light 59 = .ok (.iload_n 1, 1) := by decide +kernel
theorem dX7_light_60 : decode cX7_light 60 = .ok (.invokestatic 279, 3) := by decide +kernel
theorem dX7_light_63 : decode cX7_light 63 = .ok (.ifCond .eq 6, 3) := by decide +kernel
theorem dX7_light_66 : decode cX7_light 66 = .ok (.iinc 3 1, 3) := by decide +kernel
theorem dX7_light_69 : decode cX7_light 69 = .ok (.iinc 4 1, 3) := by decide +kernel
theorem dX7_light_72 : decode cX7_light 72 = .ok (.goto (-34), 3) := by decide +kernel
theorem dX7_light_75 : decode cX7_light 75 = .ok (.iload_n 3, 1) := by decide +kernel
theorem dX7_light_76 : decode cX7_light 76 = .ok (.ireturn, 1) := by decide +kernel
set_option maxRecDepth 20000 in
theorem ggX7_when_X7_brightestHour : GoodIn wsX7_when wsX7_brightestHour := goodIn_r _ [5, 6, 7, 8, 9, 10, 11, 12, 13, 14, 15, 16, 17, 18, 19, 20, 21, 22, 23, 24, 25, 26, 27, 28, 29, 30, 31, 32, 33, 34, 35, 36, 37, 38, 39, 40, 41, 42, 43, 44, 45, 46, 47, 48, 49, 50, 51, 52, 53, 54, 55, 56, 57, 58, 59, 60, 61, 62, 63, 64, 65, 66, 67, 68, 69, 70, 71, 72, 73, 74, 75, 76, 77, 78, 79, 80, 81, 82, 83, 84, 85, 86, 87, 88, 89, 90, 91, 92, 93, 4, 94, 95, 96, 97, 98, 99, 100, 101, 102, 112, 113, 114, 115, 116, 117, 118, 119, 120, 121, 122, 123, 124, 125, 126, 127, 128, 129, 130, 131, 132, 133, 134, 135, 136, 137] (by decide +kernel) (by decide +kernel)
set_option maxRecDepth 20000 in
theorem gX7_when_X7_brightestHour : GoodIn wsX7_when (wsV RX7 294 RX7 yX7_brightestHour wsX7_brightestHour) := goodIn_app (goodIn_of _ (by decide +kernel)) ggX7_when_X7_brightestHour
set_option maxRecDepth 20000 in
theorem ggX7_when_X7_stillHour : GoodIn wsX7_when wsX7_stillHour := goodIn_r _ [106, 7, 8, 17, 18, 19, 20, 21, 22, 23, 24, 25, 26, 27, 28, 29, 30, 31, 32, 33, 34, 35, 36, 37, 65, 66, 67, 68, 46, 47, 48, 49, 50, 51, 52, 53, 69, 70, 71, 72, 73, 74, 75, 76, 77, 78, 79, 80, 81, 82, 83, 84, 85, 86, 87, 88, 89, 90, 91, 92, 93, 4, 94, 95, 96, 97, 98, 99, 100, 101, 102, 112, 113, 114, 115, 116, 117, 118, 119, 120, 121, 122, 123, 126, 127, 128, 129, 130, 131, 132, 133, 134, 135, 136, 137] (by decide +kernel) (by decide +kernel)
set_option maxRecDepth 20000 in
theorem gX7_when_X7_stillHour : GoodIn wsX7_when (wsV RX7 297 RX7 yX7_stillHour wsX7_stillHour) := goodIn_app (goodIn_of _ (by decide +kernel)) ggX7_when_X7_stillHour
set_option maxRecDepth 20000 in
theorem ggX7_when_X7_refuse : GoodIn wsX7_when wsX7_refuse := goodIn_r _ [110, 111, 112, 113, 114, 115, 116, 117, 118, 119, 120, 121, 122, 123] (by decide +kernel) (by decide +kernel)
set_option maxRecDepth 20000 in
theorem gX7_when_X7_refuse : GoodIn wsX7_when (wsV RX7 73 RX7 yX7_refuse wsX7_refuse) := goodIn_app (goodIn_of _ (by decide +kernel)) ggX7_when_X7_refuse
theorem dX7_when_0 : decode cX7_when 0 = .ok (.iload_n 1, 1) := by decide +kernel
theorem dX7_when_1 : decode cX7_when 1 = .ok (.lookupswitch 37 #[(0, 27), (1, 32)], 27) := by decide +kernel
theorem dX7_when_28 : decode cX7_when 28 = .ok (.aload_n 0, 1) := by decide +kernel
theorem dX7_when_29 : decode cX7_when 29 = .ok (.invokevirtual 294, 3) := by decide +kernel
theorem dX7_when_32 : decode cX7_when 32 = .ok (.ireturn, 1) := by decide +kernel
theorem dX7_when_33 : decode cX7_when 33 = .ok (.aload_n 0, 1) := by decide +kernel
theorem dX7_when_34 : decode cX7_when 34 = .ok (.invokevirtual 297, 3) := by decide +kernel
theorem dX7_when_37 : decode cX7_when 37 = .ok (.ireturn, 1) := by decide +kernel
theorem dX7_when_38 : decode cX7_when 38 = .ok (.aload_n 0, 1) := by decide +kernel
theorem dX7_when_39 : decode cX7_when 39 = .ok (.bipush (-2), 2) := by decide +kernel
theorem dX7_when_41 : decode cX7_when 41 = .ok (.invokevirtual 73, 3) := by decide +kernel
theorem dX7_when_44 : decode cX7_when 44 = .ok (.ireturn, 1) := by decide +kernel
set_option maxRecDepth 20000 in
theorem ggX7_always_X7_isAhead : GoodIn wsX7_always wsX7_isAhead := goodIn_r _ [6] (by decide +kernel) (by decide +kernel)
set_option maxRecDepth 20000 in
theorem gX7_always_X7_isAhead : GoodIn wsX7_always (va_wsS RX7 215 yX7_isAhead wsX7_isAhead) := goodIn_app (goodIn_of _ (by decide +kernel)) ggX7_always_X7_isAhead
set_option maxRecDepth 20000 in
theorem ggX7_always_X7_refuse : GoodIn wsX7_always wsX7_refuse := goodIn_r _ [10, 11, 83, 84, 85, 86, 87, 88, 89, 90, 91, 92, 93, 94] (by decide +kernel) (by decide +kernel)
set_option maxRecDepth 20000 in
theorem gX7_always_X7_refuse : GoodIn wsX7_always (wsV RX7 73 RX7 yX7_refuse wsX7_refuse) := goodIn_app (goodIn_of _ (by decide +kernel)) ggX7_always_X7_refuse
set_option maxRecDepth 20000 in
theorem ggX7_always_X5_become : GoodIn wsX7_always wsX5_become := goodIn_r _ [16, 17, 18, 19, 20, 21, 22, 23, 24, 25, 26, 27, 28, 29, 30, 31, 32, 95, 96, 97, 98, 99, 100, 101, 102, 103, 104, 105, 106] (by decide +kernel) (by decide +kernel)
set_option maxRecDepth 20000 in
theorem gX7_always_X5_become : GoodIn wsX7_always (wsV RX7 198 RX5 yX5_become wsX5_become) := goodIn_app (goodIn_of _ (by decide +kernel)) ggX7_always_X5_become
set_option maxRecDepth 20000 in
theorem ggX7_always_X5_shiningPlaces : GoodIn wsX7_always wsX5_shiningPlaces := goodIn_r _ [36, 17, 37, 38, 39, 15, 40, 24, 29, 41, 42, 43, 44, 25, 95, 96, 97, 98, 99, 100, 101, 102, 103, 104, 105, 106] (by decide +kernel) (by decide +kernel)
set_option maxRecDepth 20000 in
theorem gX7_always_X5_shiningPlaces : GoodIn wsX7_always (wsV RX7 218 RX5 yX5_shiningPlaces wsX5_shiningPlaces) := goodIn_app (goodIn_of _ (by decide +kernel)) ggX7_always_X5_shiningPlaces
set_option maxRecDepth 20000 in
theorem ggX7_always_X5_passHour : GoodIn wsX7_always wsX5_passHour := goodIn_r _ [48, 24, 29, 37, 38, 39, 15, 40, 41, 42, 43, 44, 25, 49, 50, 51, 52, 28, 27, 53, 54, 55, 56, 30, 57, 58, 59, 60, 17, 61, 62, 63, 64, 23, 65, 66, 67, 68, 18, 69, 70, 71, 72, 73, 5, 74, 75, 76, 77, 78, 79, 80, 81, 82, 95, 96, 97, 98, 99, 100, 101, 102, 103, 104, 105, 106] (by decide +kernel) (by decide +kernel)
set_option maxRecDepth 20000 in
theorem gX7_always_X5_passHour : GoodIn wsX7_always (wsV RX7 285 RX5 yX5_passHour wsX5_passHour) := goodIn_app (goodIn_of _ (by decide +kernel)) ggX7_always_X5_passHour
theorem dX7_always_0 : decode cX7_always 0 = .ok (.iload_n 1, 1) := by decide +kernel
theorem dX7_always_1 : decode cX7_always 1 = .ok (.invokestatic 215, 3) := by decide +kernel
theorem dX7_always_4 : decode cX7_always 4 = .ok (.ifCond .ne 10, 3) := by decide +kernel
theorem dX7_always_7 : decode cX7_always 7 = .ok (.aload_n 0, 1) := by decide +kernel
theorem dX7_always_8 : decode cX7_always 8 = .ok (.bipush (-2), 2) := by decide +kernel
theorem dX7_always_10 : decode cX7_always 10 = .ok (.invokevirtual 73, 3) := by decide +kernel
theorem dX7_always_13 : decode cX7_always 13 = .ok (.ireturn, 1) := by decide +kernel
theorem dX7_always_14 : decode cX7_always 14 = .ok (.aload_n 0, 1) := by decide +kernel
theorem dX7_always_15 : decode cX7_always 15 = .ok (.getfield 16, 3) := by decide +kernel
theorem dX7_always_18 : decode cX7_always 18 = .ok (.aload_n 0, 1) := by decide +kernel
theorem dX7_always_19 : decode cX7_always 19 = .ok (.getfield 10, 3) := by decide +kernel
theorem dX7_always_22 : decode cX7_always 22 = .ok (.invokevirtual 198, 3) := by decide +kernel
theorem dX7_always_25 : decode cX7_always 25 = .ok (.aload_n 0, 1) := by decide +kernel
theorem dX7_always_26 : decode cX7_always 26 = .ok (.getfield 16, 3) := by decide +kernel
theorem dX7_always_29 : decode cX7_always 29 = .ok (.invokevirtual 218, 3) := by decide +kernel
theorem dX7_always_32 : decode cX7_always 32 = .ok (.istore_n 2, 1) := by decide +kernel
theorem dX7_always_33 : decode cX7_always 33 = .ok (.iconst 1, 1) := by decide +kernel
theorem dX7_always_34 : decode cX7_always 34 = .ok (.istore_n 3, 1) := by decide +kernel
theorem dX7_always_35 : decode cX7_always 35 = .ok (.iload_n 3, 1) := by decide +kernel
theorem dX7_always_36 : decode cX7_always 36 = .ok (.iload_n 1, 1) := by decide +kernel
theorem dX7_always_37 : decode cX7_always 37 = .ok (.if_icmp .gt 27, 3) := by decide +kernel
theorem dX7_always_40 : decode cX7_always 40 = .ok (.aload_n 0, 1) := by decide +kernel
theorem dX7_always_41 : decode cX7_always 41 = .ok (.getfield 16, 3) := by decide +kernel
theorem dX7_always_44 : decode cX7_always 44 = .ok (.invokevirtual 285, 3) := by decide +kernel
theorem dX7_always_47 : decode cX7_always 47 = .ok (.pop, 1) := by decide +kernel
theorem dX7_always_48 : decode cX7_always 48 = .ok (.iload_n 2, 1) := by decide +kernel
theorem dX7_always_49 : decode cX7_always 49 = .ok (.aload_n 0, 1) := by decide +kernel
theorem dX7_always_50 : decode cX7_always 50 = .ok (.getfield 16, 3) := by decide +kernel
theorem dX7_always_53 : decode cX7_always 53 = .ok (.invokevirtual 218, 3) := by decide +kernel
theorem dX7_always_56 : decode cX7_always 56 = .ok (.iand, 1) := by decide +kernel
theorem dX7_always_57 : decode cX7_always 57 = .ok (.istore_n 2, 1) := by decide +kernel
theorem dX7_always_58 : decode cX7_always 58 = .ok (.iinc 3 1, 3) := by decide +kernel
theorem dX7_always_61 : decode cX7_always 61 = .ok (.goto (-26), 3) := by decide +kernel
theorem dX7_always_64 : decode cX7_always 64 = .ok (.iload_n 2, 1) := by decide +kernel
theorem dX7_always_65 : decode cX7_always 65 = .ok (.ireturn, 1) := by decide +kernel
set_option maxRecDepth 20000 in
theorem ggX7_never_X7_isAhead : GoodIn wsX7_never wsX7_isAhead := goodIn_r _ [6] (by decide +kernel) (by decide +kernel)
set_option maxRecDepth 20000 in
theorem gX7_never_X7_isAhead : GoodIn wsX7_never (va_wsS RX7 215 yX7_isAhead wsX7_isAhead) := goodIn_app (goodIn_of _ (by decide +kernel)) ggX7_never_X7_isAhead
set_option maxRecDepth 20000 in
theorem ggX7_never_X7_refuse : GoodIn wsX7_never wsX7_refuse := goodIn_r _ [10, 11, 80, 81, 82, 83, 84, 85, 86, 87, 88, 89, 90, 91] (by decide +kernel) (by decide +kernel)
set_option maxRecDepth 20000 in
theorem gX7_never_X7_refuse : GoodIn wsX7_never (wsV RX7 73 RX7 yX7_refuse wsX7_refuse) := goodIn_app (goodIn_of _ (by decide +kernel)) ggX7_never_X7_refuse
set_option maxRecDepth 20000 in
theorem ggX7_never_X5_become : GoodIn wsX7_never wsX5_become := goodIn_r _ [16, 17, 18, 19, 20, 21, 22, 23, 24, 25, 26, 27, 28, 29, 30, 31, 32, 92, 93, 94, 95, 96, 97, 98, 99, 100, 101, 102, 103] (by decide +kernel) (by decide +kernel)
set_option maxRecDepth 20000 in
theorem gX7_never_X5_become : GoodIn wsX7_never (wsV RX7 198 RX5 yX5_become wsX5_become) := goodIn_app (goodIn_of _ (by decide +kernel)) ggX7_never_X5_become
set_option maxRecDepth 20000 in
theorem ggX7_never_X5_darkPlaces : GoodIn wsX7_never wsX5_darkPlaces := goodIn_r _ [36, 24, 29, 37, 38, 39, 15, 40, 25, 92, 93, 94, 95, 96, 97, 98, 99, 100, 101, 102, 103] (by decide +kernel) (by decide +kernel)
set_option maxRecDepth 20000 in
theorem gX7_never_X5_darkPlaces : GoodIn wsX7_never (wsV RX7 276 RX5 yX5_darkPlaces wsX5_darkPlaces) := goodIn_app (goodIn_of _ (by decide +kernel)) ggX7_never_X5_darkPlaces
set_option maxRecDepth 20000 in
theorem ggX7_never_X5_passHour : GoodIn wsX7_never wsX5_passHour := goodIn_r _ [44, 24, 29, 45, 34, 35, 15, 36, 37, 38, 39, 40, 25, 46, 47, 48, 49, 28, 27, 50, 51, 52, 53, 30, 54, 55, 56, 57, 17, 58, 59, 60, 61, 23, 62, 63, 64, 65, 18, 66, 67, 68, 69, 70, 5, 71, 72, 73, 74, 75, 76, 77, 78, 79, 92, 93, 94, 95, 96, 97, 98, 99, 100, 101, 102, 103] (by decide +kernel) (by decide +kernel)
set_option maxRecDepth 20000 in
theorem gX7_never_X5_passHour : GoodIn wsX7_never (wsV RX7 285 RX5 yX5_passHour wsX5_passHour) := goodIn_app (goodIn_of _ (by decide +kernel)) ggX7_never_X5_passHour
theorem dX7_never_0 : decode cX7_never 0 = .ok (.iload_n 1, 1) := by decide +kernel
theorem dX7_never_1 : decode cX7_never 1 = .ok (.invokestatic 215, 3) := by decide +kernel
theorem dX7_never_4 : decode cX7_never 4 = .ok (.ifCond .ne 10, 3) := by decide +kernel
theorem dX7_never_7 : decode cX7_never 7 = .ok (.aload_n 0, 1) := by decide +kernel
theorem dX7_never_8 : decode cX7_never 8 = .ok (.bipush (-2), 2) := by decide +kernel
theorem dX7_never_10 : decode cX7_never 10 = .ok (.invokevirtual 73, 3) := by decide +kernel
theorem dX7_never_13 : decode cX7_never 13 = .ok (.ireturn, 1) := by decide +kernel
theorem dX7_never_14 : decode cX7_never 14 = .ok (.aload_n 0, 1) := by decide +kernel
theorem dX7_never_15 : decode cX7_never 15 = .ok (.getfield 16, 3) := by decide +kernel
theorem dX7_never_18 : decode cX7_never 18 = .ok (.aload_n 0, 1) := by decide +kernel
theorem dX7_never_19 : decode cX7_never 19 = .ok (.getfield 10, 3) := by decide +kernel
theorem dX7_never_22 : decode cX7_never 22 = .ok (.invokevirtual 198, 3) := by decide +kernel
theorem dX7_never_25 : decode cX7_never 25 = .ok (.aload_n 0, 1) := by decide +kernel
theorem dX7_never_26 : decode cX7_never 26 = .ok (.getfield 16, 3) := by decide +kernel
theorem dX7_never_29 : decode cX7_never 29 = .ok (.invokevirtual 276, 3) := by decide +kernel
theorem dX7_never_32 : decode cX7_never 32 = .ok (.istore_n 2, 1) := by decide +kernel
theorem dX7_never_33 : decode cX7_never 33 = .ok (.iconst 1, 1) := by decide +kernel
theorem dX7_never_34 : decode cX7_never 34 = .ok (.istore_n 3, 1) := by decide +kernel
theorem dX7_never_35 : decode cX7_never 35 = .ok (.iload_n 3, 1) := by decide +kernel
theorem dX7_never_36 : decode cX7_never 36 = .ok (.iload_n 1, 1) := by decide +kernel
theorem dX7_never_37 : decode cX7_never 37 = .ok (.if_icmp .gt 27, 3) := by decide +kernel
theorem dX7_never_40 : decode cX7_never 40 = .ok (.aload_n 0, 1) := by decide +kernel
theorem dX7_never_41 : decode cX7_never 41 = .ok (.getfield 16, 3) := by decide +kernel
theorem dX7_never_44 : decode cX7_never 44 = .ok (.invokevirtual 285, 3) := by decide +kernel
theorem dX7_never_47 : decode cX7_never 47 = .ok (.pop, 1) := by decide +kernel
theorem dX7_never_48 : decode cX7_never 48 = .ok (.iload_n 2, 1) := by decide +kernel
theorem dX7_never_49 : decode cX7_never 49 = .ok (.aload_n 0, 1) := by decide +kernel
theorem dX7_never_50 : decode cX7_never 50 = .ok (.getfield 16, 3) := by decide +kernel
theorem dX7_never_53 : decode cX7_never 53 = .ok (.invokevirtual 276, 3) := by decide +kernel
theorem dX7_never_56 : decode cX7_never 56 = .ok (.iand, 1) := by decide +kernel
theorem dX7_never_57 : decode cX7_never 57 = .ok (.istore_n 2, 1) := by decide +kernel
theorem dX7_never_58 : decode cX7_never 58 = .ok (.iinc 3 1, 3) := by decide +kernel
theorem dX7_never_61 : decode cX7_never 61 = .ok (.goto (-26), 3) := by decide +kernel
theorem dX7_never_64 : decode cX7_never 64 = .ok (.iload_n 2, 1) := by decide +kernel
theorem dX7_never_65 : decode cX7_never 65 = .ok (.ireturn, 1) := by decide +kernel
set_option maxRecDepth 20000 in
theorem ggX7_flickers_X7_isSpan : GoodIn wsX7_flickers wsX7_isSpan := goodIn_r _ [6] (by decide +kernel) (by decide +kernel)
set_option maxRecDepth 20000 in
theorem gX7_flickers_X7_isSpan : GoodIn wsX7_flickers (va_wsS RX7 291 yX7_isSpan wsX7_isSpan) := goodIn_app (goodIn_of _ (by decide +kernel)) ggX7_flickers_X7_isSpan
set_option maxRecDepth 20000 in
theorem ggX7_flickers_X7_refuse : GoodIn wsX7_flickers wsX7_refuse := goodIn_r _ [10, 11, 80, 81, 82, 83, 84, 85, 86, 87, 88, 89, 90, 91] (by decide +kernel) (by decide +kernel)
set_option maxRecDepth 20000 in
theorem gX7_flickers_X7_refuse : GoodIn wsX7_flickers (wsV RX7 73 RX7 yX7_refuse wsX7_refuse) := goodIn_app (goodIn_of _ (by decide +kernel)) ggX7_flickers_X7_refuse
set_option maxRecDepth 20000 in
theorem ggX7_flickers_X5_become : GoodIn wsX7_flickers wsX5_become := goodIn_r _ [16, 17, 18, 19, 20, 21, 22, 23, 24, 25, 26, 27, 28, 29, 30, 31, 32, 92, 93, 94, 95, 96, 97, 98, 99, 100, 101, 102, 103] (by decide +kernel) (by decide +kernel)
set_option maxRecDepth 20000 in
theorem gX7_flickers_X5_become : GoodIn wsX7_flickers (wsV RX7 198 RX5 yX5_become wsX5_become) := goodIn_app (goodIn_of _ (by decide +kernel)) ggX7_flickers_X5_become
set_option maxRecDepth 20000 in
theorem ggX7_flickers_X5_darkPlaces : GoodIn wsX7_flickers wsX5_darkPlaces := goodIn_r _ [36, 24, 29, 37, 38, 39, 15, 40, 25, 92, 93, 94, 95, 96, 97, 98, 99, 100, 101, 102, 103] (by decide +kernel) (by decide +kernel)
set_option maxRecDepth 20000 in
theorem gX7_flickers_X5_darkPlaces : GoodIn wsX7_flickers (wsV RX7 276 RX5 yX5_darkPlaces wsX5_darkPlaces) := goodIn_app (goodIn_of _ (by decide +kernel)) ggX7_flickers_X5_darkPlaces
set_option maxRecDepth 20000 in
theorem ggX7_flickers_X5_passHour : GoodIn wsX7_flickers wsX5_passHour := goodIn_r _ [44, 24, 29, 45, 34, 35, 15, 36, 37, 38, 39, 40, 25, 46, 47, 48, 49, 28, 27, 50, 51, 52, 53, 30, 54, 55, 56, 57, 17, 58, 59, 60, 61, 23, 62, 63, 64, 65, 18, 66, 67, 68, 69, 70, 5, 71, 72, 73, 74, 75, 76, 77, 78, 79, 92, 93, 94, 95, 96, 97, 98, 99, 100, 101, 102, 103] (by decide +kernel) (by decide +kernel)
set_option maxRecDepth 20000 in
theorem gX7_flickers_X5_passHour : GoodIn wsX7_flickers (wsV RX7 285 RX5 yX5_passHour wsX5_passHour) := goodIn_app (goodIn_of _ (by decide +kernel)) ggX7_flickers_X5_passHour
theorem dX7_flickers_0 : decode cX7_flickers 0 = .ok (.iload_n 1, 1) := by decide +kernel
theorem dX7_flickers_1 : decode cX7_flickers 1 = .ok (.invokestatic 291, 3) := by decide +kernel
theorem dX7_flickers_4 : decode cX7_flickers 4 = .ok (.ifCond .ne 10, 3) := by decide +kernel
theorem dX7_flickers_7 : decode cX7_flickers 7 = .ok (.aload_n 0, 1) := by decide +kernel
theorem dX7_flickers_8 : decode cX7_flickers 8 = .ok (.bipush (-2), 2) := by decide +kernel
theorem dX7_flickers_10 : decode cX7_flickers 10 = .ok (.invokevirtual 73, 3) := by decide +kernel
theorem dX7_flickers_13 : decode cX7_flickers 13 = .ok (.ireturn, 1) := by decide +kernel
theorem dX7_flickers_14 : decode cX7_flickers 14 = .ok (.iconst 0, 1) := by decide +kernel
theorem dX7_flickers_15 : decode cX7_flickers 15 = .ok (.istore_n 2, 1) := by decide +kernel
theorem dX7_flickers_16 : decode cX7_flickers 16 = .ok (.aload_n 0, 1) := by decide +kernel
theorem dX7_flickers_17 : decode cX7_flickers 17 = .ok (.getfield 16, 3) := by decide +kernel
theorem dX7_flickers_20 : decode cX7_flickers 20 = .ok (.aload_n 0, 1) := by decide +kernel
theorem dX7_flickers_21 : decode cX7_flickers 21 = .ok (.getfield 10, 3) := by decide +kernel
theorem dX7_flickers_24 : decode cX7_flickers 24 = .ok (.invokevirtual 198, 3) := by decide +kernel
theorem dX7_flickers_27 : decode cX7_flickers 27 = .ok (.iconst 1, 1) := by decide +kernel
theorem dX7_flickers_28 : decode cX7_flickers 28 = .ok (.istore_n 3, 1) := by decide +kernel
theorem dX7_flickers_29 : decode cX7_flickers 29 = .ok (.iload_n 3, 1) := by decide +kernel
theorem dX7_flickers_30 : decode cX7_flickers 30 = .ok (.iload_n 1, 1) := by decide +kernel
theorem dX7_flickers_31 : decode cX7_flickers 31 = .ok (.if_icmp .gt 41, 3) := by decide +kernel
theorem dX7_flickers_34 : decode cX7_flickers 34 = .ok (.aload_n 0, 1) := by decide +kernel
theorem dX7_flickers_35 : decode cX7_flickers 35 = .ok (.getfield 16, 3) := by decide +kernel
theorem dX7_flickers_38 : decode cX7_flickers 38 = .ok (.invokevirtual 276, 3) := by decide +kernel
theorem dX7_flickers_41 : decode cX7_flickers 41 = .ok (.istore 4, 2) := by decide +kernel
theorem dX7_flickers_43 : decode cX7_flickers 43 = .ok (.aload_n 0, 1) := by decide +kernel
theorem dX7_flickers_44 : decode cX7_flickers 44 = .ok (.getfield 16, 3) := by decide +kernel
theorem dX7_flickers_47 : decode cX7_flickers 47 = .ok (.invokevirtual 285, 3) := by decide +kernel
theorem dX7_flickers_50 : decode cX7_flickers 50 = .ok (.pop, 1) := by decide +kernel
theorem dX7_flickers_51 : decode cX7_flickers 51 = .ok (.aload_n 0, 1) := by decide +kernel
theorem dX7_flickers_52 : decode cX7_flickers 52 = .ok (.getfield 16, 3) := by decide +kernel
theorem dX7_flickers_55 : decode cX7_flickers 55 = .ok (.invokevirtual 276, 3) := by decide +kernel
theorem dX7_flickers_58 : decode cX7_flickers 58 = .ok (.iload 4, 2) := by decide +kernel
theorem dX7_flickers_60 : decode cX7_flickers 60 = .ok (.if_icmp .eq 6, 3) := by decide +kernel
theorem dX7_flickers_63 : decode cX7_flickers 63 = .ok (.iinc 2 1, 3) := by decide +kernel
theorem dX7_flickers_66 : decode cX7_flickers 66 = .ok (.iinc 3 1, 3) := by decide +kernel
theorem dX7_flickers_69 : decode cX7_flickers 69 = .ok (.goto (-40), 3) := by decide +kernel
theorem dX7_flickers_72 : decode cX7_flickers 72 = .ok (.iload_n 2, 1) := by decide +kernel
theorem dX7_flickers_73 : decode cX7_flickers 73 = .ok (.ireturn, 1) := by decide +kernel
set_option maxRecDepth 20000 in
theorem ggX7_round_X5_become : GoodIn wsX7_round wsX5_become := goodIn_r _ [7, 8, 9, 10, 11, 12, 13, 14, 15, 16, 17, 18, 19, 20, 21, 22, 23, 89, 90, 91, 92, 93, 94, 95, 96, 97, 98, 99, 100] (by decide +kernel) (by decide +kernel)
set_option maxRecDepth 20000 in
theorem gX7_round_X5_become : GoodIn wsX7_round (wsV RX7 198 RX5 yX5_become wsX5_become) := goodIn_app (goodIn_of _ (by decide +kernel)) ggX7_round_X5_become
set_option maxRecDepth 20000 in
theorem ggX7_round_X5_passHour : GoodIn wsX7_round wsX5_passHour := goodIn_r _ [27, 15, 20, 28, 29, 30, 6, 31, 32, 33, 34, 35, 16, 36, 37, 38, 39, 19, 18, 40, 41, 42, 43, 21, 44, 45, 46, 47, 8, 48, 49, 50, 51, 14, 52, 53, 54, 55, 9, 56, 57, 58, 59, 60, 61, 62, 63, 64, 65, 66, 67, 68, 69, 70, 89, 90, 91, 92, 93, 94, 95, 96, 97, 98, 99, 100] (by decide +kernel) (by decide +kernel)
set_option maxRecDepth 20000 in
theorem gX7_round_X5_passHour : GoodIn wsX7_round (wsV RX7 285 RX5 yX5_passHour wsX5_passHour) := goodIn_app (goodIn_of _ (by decide +kernel)) ggX7_round_X5_passHour
set_option maxRecDepth 20000 in
theorem ggX7_round_X7_movedPeople : GoodIn wsX7_round wsX7_movedPeople := goodIn_r _ [74, 2, 75, 1, 76, 77, 78, 79, 80, 81, 82, 83, 84, 85, 86, 87, 88, 89, 90, 91, 92, 93, 94, 95, 96, 97, 98, 99, 100] (by decide +kernel) (by decide +kernel)
set_option maxRecDepth 20000 in
theorem gX7_round_X7_movedPeople : GoodIn wsX7_round (wsV RX7 300 RX7 yX7_movedPeople wsX7_movedPeople) := goodIn_app (goodIn_of _ (by decide +kernel)) ggX7_round_X7_movedPeople
theorem dX7_round_0 : decode cX7_round 0 = .ok (.aload_n 0, 1) := by decide +kernel
theorem dX7_round_1 : decode cX7_round 1 = .ok (.getfield 16, 3) := by decide +kernel
theorem dX7_round_4 : decode cX7_round 4 = .ok (.aload_n 0, 1) := by decide +kernel
theorem dX7_round_5 : decode cX7_round 5 = .ok (.getfield 10, 3) := by decide +kernel
theorem dX7_round_8 : decode cX7_round 8 = .ok (.invokevirtual 198, 3) := by decide +kernel
theorem dX7_round_11 : decode cX7_round 11 = .ok (.iconst 1, 1) := by decide +kernel
theorem dX7_round_12 : decode cX7_round 12 = .ok (.istore_n 1, 1) := by decide +kernel
theorem dX7_round_13 : decode cX7_round 13 = .ok (.iload_n 1, 1) := by decide +kernel
theorem dX7_round_14 : decode cX7_round 14 = .ok (.bipush 48, 2) := by decide +kernel
theorem dX7_round_16 : decode cX7_round 16 = .ok (.if_icmp .gt 26, 3) := by decide +kernel
theorem dX7_round_19 : decode cX7_round 19 = .ok (.aload_n 0, 1) := by decide +kernel
theorem dX7_round_20 : decode cX7_round 20 = .ok (.getfield 16, 3) := by decide +kernel
theorem dX7_round_23 : decode cX7_round 23 = .ok (.invokevirtual 285, 3) := by decide +kernel
theorem dX7_round_26 : decode cX7_round 26 = .ok (.pop, 1) := by decide +kernel
theorem dX7_round_27 : decode cX7_round 27 = .ok (.aload_n 0, 1) := by decide +kernel
theorem dX7_round_28 : decode cX7_round 28 = .ok (.invokevirtual 300, 3) := by decide +kernel
theorem dX7_round_31 : decode cX7_round 31 = .ok (.ifCond .ne 5, 3) := by decide +kernel
theorem dX7_round_34 : decode cX7_round 34 = .ok (.iload_n 1, 1) := by decide +kernel
theorem dX7_round_35 : decode cX7_round 35 = .ok (.ireturn, 1) := by decide +kernel
theorem dX7_round_36 : decode cX7_round 36 = .ok (.iinc 1 1, 3) := by decide +kernel
theorem dX7_round_39 : decode cX7_round 39 = .ok (.goto (-26), 3) := by decide +kernel
theorem dX7_round_42 : decode cX7_round 42 = .ok (.iconst (-1), 1) := by decide +kernel
theorem dX7_round_43 : decode cX7_round 43 = .ok (.ireturn, 1) := by decide +kernel
set_option maxRecDepth 20000 in
theorem ggX7_going_X7_lookAhead : GoodIn wsX7_going wsX7_lookAhead := goodIn_r _ [5, 6, 7, 8, 9, 10, 11, 12, 13, 14, 15, 16, 17, 18, 19, 20, 21, 22, 23, 24, 25, 26, 27, 28, 29, 30, 31, 32, 33, 34, 35, 36, 37, 38, 39, 40, 41, 42, 43, 44, 45, 46, 47, 48, 49, 50, 51, 52, 53, 54, 55, 56, 57, 58, 59, 60, 61, 62, 63, 64, 65, 66, 67, 68, 69, 4, 70, 71, 72, 73, 74, 75, 76, 77, 78, 85, 86, 87, 88, 89, 90, 91, 92, 93, 94, 95, 96, 97, 98, 99, 100, 101, 102, 103, 104, 105, 106, 107, 108] (by decide +kernel) (by decide +kernel)
set_option maxRecDepth 20000 in
theorem gX7_going_X7_lookAhead : GoodIn wsX7_going (wsV RX7 146 RX7 yX7_lookAhead wsX7_lookAhead) := goodIn_app (goodIn_of _ (by decide +kernel)) ggX7_going_X7_lookAhead
set_option maxRecDepth 20000 in
theorem ggX7_going_X7_movedPeople : GoodIn wsX7_going wsX7_movedPeople := goodIn_r _ [82, 7, 83, 6, 84, 85, 86, 87, 88, 89, 90, 91, 92, 93, 94, 95, 96, 97, 98, 99, 100, 101, 102, 103, 104, 105, 106, 107, 108] (by decide +kernel) (by decide +kernel)
set_option maxRecDepth 20000 in
theorem gX7_going_X7_movedPeople : GoodIn wsX7_going (wsV RX7 300 RX7 yX7_movedPeople wsX7_movedPeople) := goodIn_app (goodIn_of _ (by decide +kernel)) ggX7_going_X7_movedPeople
theorem dX7_going_0 : decode cX7_going 0 = .ok (.aload_n 0, 1) := by decide +kernel
theorem dX7_going_1 : decode cX7_going 1 = .ok (.iconst 1, 1) := by decide +kernel
theorem dX7_going_2 : decode cX7_going 2 = .ok (.invokevirtual 146, 3) := by decide +kernel
theorem dX7_going_5 : decode cX7_going 5 = .ok (.aload_n 0, 1) := by decide +kernel
theorem dX7_going_6 : decode cX7_going 6 = .ok (.invokevirtual 300, 3) := by decide +kernel
theorem dX7_going_9 : decode cX7_going 9 = .ok (.ireturn, 1) := by decide +kernel
set_option maxRecDepth 20000 in
theorem ggX7_arrives_X7_isPerson : GoodIn wsX7_arrives wsX7_isPerson := goodIn_r _ [8, 2, 9, 87, 88, 89, 90, 91, 92, 93, 94, 95, 96, 97, 98, 99, 100, 101, 102, 103, 104, 105, 106, 107, 108, 109, 110] (by decide +kernel) (by decide +kernel)
set_option maxRecDepth 20000 in
theorem gX7_arrives_X7_isPerson : GoodIn wsX7_arrives (wsV RX7 113 RX7 yX7_isPerson wsX7_isPerson) := goodIn_app (goodIn_of _ (by decide +kernel)) ggX7_arrives_X7_isPerson
set_option maxRecDepth 20000 in
theorem ggX7_arrives_X7_isPlace : GoodIn wsX7_arrives wsX7_isPlace := goodIn_r _ [13, 2, 14, 87, 88, 89, 90, 91, 92, 93, 94, 95, 96, 97, 98, 99, 100, 101, 102, 103, 104, 105, 106, 107, 108, 109, 110] (by decide +kernel) (by decide +kernel)
set_option maxRecDepth 20000 in
theorem gX7_arrives_X7_isPlace : GoodIn wsX7_arrives (wsV RX7 168 RX7 yX7_isPlace wsX7_isPlace) := goodIn_app (goodIn_of _ (by decide +kernel)) ggX7_arrives_X7_isPlace
set_option maxRecDepth 20000 in
theorem ggX7_arrives_X7_refuse : GoodIn wsX7_arrives wsX7_refuse := goodIn_r _ [18, 19, 87, 88, 89, 90, 91, 92, 93, 94, 95, 96, 97, 98] (by decide +kernel) (by decide +kernel)
set_option maxRecDepth 20000 in
theorem gX7_arrives_X7_refuse : GoodIn wsX7_arrives (wsV RX7 73 RX7 yX7_refuse wsX7_refuse) := goodIn_app (goodIn_of _ (by decide +kernel)) ggX7_arrives_X7_refuse
set_option maxRecDepth 20000 in
theorem ggX7_arrives_X5_become : GoodIn wsX7_arrives wsX5_become := goodIn_r _ [24, 25, 26, 27, 28, 29, 30, 31, 32, 33, 34, 35, 36, 37, 38, 39, 40, 99, 100, 101, 102, 103, 104, 105, 106, 107, 108, 109, 110] (by decide +kernel) (by decide +kernel)
set_option maxRecDepth 20000 in
theorem gX7_arrives_X5_become : GoodIn wsX7_arrives (wsV RX7 198 RX5 yX5_become wsX5_become) := goodIn_app (goodIn_of _ (by decide +kernel)) ggX7_arrives_X5_become
set_option maxRecDepth 20000 in
theorem ggX7_arrives_X5_passHour : GoodIn wsX7_arrives wsX5_passHour := goodIn_r _ [44, 32, 37, 45, 46, 47, 23, 48, 49, 50, 51, 52, 33, 53, 54, 55, 56, 36, 35, 57, 58, 59, 60, 38, 61, 62, 63, 64, 25, 65, 66, 67, 68, 31, 69, 70, 71, 72, 26, 73, 74, 75, 76, 77, 7, 78, 79, 80, 81, 82, 83, 84, 85, 86, 99, 100, 101, 102, 103, 104, 105, 106, 107, 108, 109, 110] (by decide +kernel) (by decide +kernel)
set_option maxRecDepth 20000 in
theorem gX7_arrives_X5_passHour : GoodIn wsX7_arrives (wsV RX7 285 RX5 yX5_passHour wsX5_passHour) := goodIn_app (goodIn_of _ (by decide +kernel)) ggX7_arrives_X5_passHour
theorem dX7_arrives_0 : decode cX7_arrives 0 = .ok (.aload_n 0, 1) := by decide +kernel
theorem dX7_arrives_1 : decode cX7_arrives 1 = .ok (.iload_n 1, 1) := by decide +kernel
theorem dX7_arrives_2 : decode cX7_arrives 2 = .ok (.invokevirtual 113, 3) := by decide +kernel
theorem dX7_arrives_5 : decode cX7_arrives 5 = .ok (.ifCond .eq 11, 3) := by decide +kernel
theorem dX7_arrives_8 : decode cX7_arrives 8 = .ok (.aload_n 0, 1) := by decide +kernel
theorem dX7_arrives_9 : decode cX7_arrives 9 = .ok (.iload_n 2, 1) := by decide +kernel
theorem dX7_arrives_10 : decode cX7_arrives 10 = .ok (.invokevirtual 168, 3) := by decide +kernel
theorem dX7_arrives_13 : decode cX7_arrives 13 = .ok (.ifCond .ne 10, 3) := by decide +kernel
theorem dX7_arrives_16 : decode cX7_arrives 16 = .ok (.aload_n 0, 1) := by decide +kernel
theorem dX7_arrives_17 : decode cX7_arrives 17 = .ok (.bipush (-2), 2) := by decide +kernel
theorem dX7_arrives_19 : decode cX7_arrives 19 = .ok (.invokevirtual 73, 3) := by decide +kernel
theorem dX7_arrives_22 : decode cX7_arrives 22 = .ok (.ireturn, 1) := by decide +kernel
theorem dX7_arrives_23 : decode cX7_arrives 23 = .ok (.aload_n 0, 1) := by decide +kernel
theorem dX7_arrives_24 : decode cX7_arrives 24 = .ok (.getfield 16, 3) := by decide +kernel
theorem dX7_arrives_27 : decode cX7_arrives 27 = .ok (.aload_n 0, 1) := by decide +kernel
theorem dX7_arrives_28 : decode cX7_arrives 28 = .ok (.getfield 10, 3) := by decide +kernel
theorem dX7_arrives_31 : decode cX7_arrives 31 = .ok (.invokevirtual 198, 3) := by decide +kernel
theorem dX7_arrives_34 : decode cX7_arrives 34 = .ok (.iconst 0, 1) := by decide +kernel
theorem dX7_arrives_35 : decode cX7_arrives 35 = .ok (.istore_n 3, 1) := by decide +kernel
theorem dX7_arrives_36 : decode cX7_arrives 36 = .ok (.iload_n 3, 1) := by decide +kernel
theorem dX7_arrives_37 : decode cX7_arrives 37 = .ok (.bipush 48, 2) := by decide +kernel
theorem dX7_arrives_39 : decode cX7_arrives 39 = .ok (.if_icmp .gt 32, 3) := by decide +kernel
theorem dX7_arrives_42 : decode cX7_arrives 42 = .ok (.aload_n 0, 1) := by decide +kernel
theorem dX7_arrives_43 : decode cX7_arrives 43 = .ok (.getfield 16, 3) := by decide +kernel
theorem dX7_arrives_46 : decode cX7_arrives 46 = .ok (.getfield 149, 3) := by decide +kernel
theorem dX7_arrives_49 : decode cX7_arrives 49 = .ok (.iload_n 1, 1) := by decide +kernel
theorem dX7_arrives_50 : decode cX7_arrives 50 = .ok (.iaload, 1) := by decide +kernel
theorem dX7_arrives_51 : decode cX7_arrives 51 = .ok (.iload_n 2, 1) := by decide +kernel
theorem dX7_arrives_52 : decode cX7_arrives 52 = .ok (.if_icmp .ne 5, 3) := by decide +kernel
theorem dX7_arrives_55 : decode cX7_arrives 55 = .ok (.iload_n 3, 1) := by decide +kernel
theorem dX7_arrives_56 : decode cX7_arrives 56 = .ok (.ireturn, 1) := by decide +kernel
theorem dX7_arrives_57 : decode cX7_arrives 57 = .ok (.aload_n 0, 1) := by decide +kernel
theorem dX7_arrives_58 : decode cX7_arrives 58 = .ok (.getfield 16, 3) := by decide +kernel
theorem dX7_arrives_61 : decode cX7_arrives 61 = .ok (.invokevirtual 285, 3) := by decide +kernel
theorem dX7_arrives_64 : decode cX7_arrives 64 = .ok (.pop, 1) := by decide +kernel
theorem dX7_arrives_65 : decode cX7_arrives 65 = .ok (.iinc 3 1, 3) := by decide +kernel
theorem dX7_arrives_68 : decode cX7_arrives 68 = .ok (.goto (-32), 3) := by decide +kernel
theorem dX7_arrives_71 : decode cX7_arrives 71 = .ok (.iconst (-1), 1) := by decide +kernel
theorem dX7_arrives_72 : decode cX7_arrives 72 = .ok (.ireturn, 1) := by decide +kernel
set_option maxRecDepth 20000 in
theorem ggX7_seen_X7_isPerson : GoodIn wsX7_seen wsX7_isPerson := goodIn_r _ [8, 2, 9, 85, 86, 87, 88, 89, 90, 91, 92, 93, 94, 95, 96, 97, 98, 99, 100, 101, 102, 103, 104, 105, 106, 107, 108] (by decide +kernel) (by decide +kernel)
set_option maxRecDepth 20000 in
theorem gX7_seen_X7_isPerson : GoodIn wsX7_seen (wsV RX7 113 RX7 yX7_isPerson wsX7_isPerson) := goodIn_app (goodIn_of _ (by decide +kernel)) ggX7_seen_X7_isPerson
set_option maxRecDepth 20000 in
theorem ggX7_seen_X7_isAhead : GoodIn wsX7_seen wsX7_isAhead := goodIn_r _ [12] (by decide +kernel) (by decide +kernel)
set_option maxRecDepth 20000 in
theorem gX7_seen_X7_isAhead : GoodIn wsX7_seen (va_wsS RX7 215 yX7_isAhead wsX7_isAhead) := goodIn_app (goodIn_of _ (by decide +kernel)) ggX7_seen_X7_isAhead
set_option maxRecDepth 20000 in
theorem ggX7_seen_X7_refuse : GoodIn wsX7_seen wsX7_refuse := goodIn_r _ [16, 17, 85, 86, 87, 88, 89, 90, 91, 92, 93, 94, 95, 96] (by decide +kernel) (by decide +kernel)
set_option maxRecDepth 20000 in
theorem gX7_seen_X7_refuse : GoodIn wsX7_seen (wsV RX7 73 RX7 yX7_refuse wsX7_refuse) := goodIn_app (goodIn_of _ (by decide +kernel)) ggX7_seen_X7_refuse
set_option maxRecDepth 20000 in
theorem ggX7_seen_X5_become : GoodIn wsX7_seen wsX5_become := goodIn_r _ [22, 23, 24, 25, 26, 27, 28, 29, 30, 31, 32, 33, 34, 35, 36, 37, 38, 97, 98, 99, 100, 101, 102, 103, 104, 105, 106, 107, 108] (by decide +kernel) (by decide +kernel)
set_option maxRecDepth 20000 in
theorem gX7_seen_X5_become : GoodIn wsX7_seen (wsV RX7 198 RX5 yX5_become wsX5_become) := goodIn_app (goodIn_of _ (by decide +kernel)) ggX7_seen_X5_become
set_option maxRecDepth 20000 in
theorem ggX7_seen_X5_passHour : GoodIn wsX7_seen wsX5_passHour := goodIn_r _ [42, 30, 35, 43, 44, 45, 21, 46, 47, 48, 49, 50, 31, 51, 52, 53, 54, 34, 33, 55, 56, 57, 58, 36, 59, 60, 61, 62, 23, 63, 64, 65, 66, 29, 67, 68, 69, 70, 24, 71, 72, 73, 74, 75, 7, 76, 77, 78, 79, 80, 81, 82, 83, 84, 97, 98, 99, 100, 101, 102, 103, 104, 105, 106, 107, 108] (by decide +kernel) (by decide +kernel)
set_option maxRecDepth 20000 in
theorem gX7_seen_X5_passHour : GoodIn wsX7_seen (wsV RX7 285 RX5 yX5_passHour wsX5_passHour) := goodIn_app (goodIn_of _ (by decide +kernel)) ggX7_seen_X5_passHour
theorem dX7_seen_0 : decode cX7_seen 0 = .ok (.aload_n 0, 1) := by decide +kernel
theorem dX7_seen_1 : decode cX7_seen 1 = .ok (.iload_n 1, 1) := by decide +kernel
theorem dX7_seen_2 : decode cX7_seen 2 = .ok (.invokevirtual 113, 3) := by decide +kernel
theorem dX7_seen_5 : decode cX7_seen 5 = .ok (.ifCond .eq 10, 3) := by decide +kernel
theorem dX7_seen_8 : decode cX7_seen 8 = .ok (.iload_n 2, 1) := by decide +kernel
theorem dX7_seen_9 : decode cX7_seen 9 = .ok (.invokestatic 215, 3) := by decide +kernel
theorem dX7_seen_12 : decode cX7_seen 12 = .ok (.ifCond .ne 10, 3) := by decide +kernel
theorem dX7_seen_15 : decode cX7_seen 15 = .ok (.aload_n 0, 1) := by decide +kernel
theorem dX7_seen_16 : decode cX7_seen 16 = .ok (.bipush (-2), 2) := by decide +kernel
theorem dX7_seen_18 : decode cX7_seen 18 = .ok (.invokevirtual 73, 3) := by decide +kernel
theorem dX7_seen_21 : decode cX7_seen 21 = .ok (.ireturn, 1) := by decide +kernel
theorem dX7_seen_22 : decode cX7_seen 22 = .ok (.aload_n 0, 1) := by decide +kernel
theorem dX7_seen_23 : decode cX7_seen 23 = .ok (.getfield 16, 3) := by decide +kernel
theorem dX7_seen_26 : decode cX7_seen 26 = .ok (.aload_n 0, 1) := by decide +kernel
theorem dX7_seen_27 : decode cX7_seen 27 = .ok (.getfield 10, 3) := by decide +kernel
theorem dX7_seen_30 : decode cX7_seen 30 = .ok (.invokevirtual 198, 3) := by decide +kernel
theorem dX7_seen_33 : decode cX7_seen 33 = .ok (.iconst 1, 1) := by decide +kernel
theorem dX7_seen_34 : decode cX7_seen 34 = .ok (.aload_n 0, 1) := by decide +kernel
theorem dX7_seen_35 : decode cX7_seen 35 = .ok (.getfield 16, 3) := by decide +kernel
theorem dX7_seen_38 : decode cX7_seen 38 = .ok (.getfield 149, 3) := by decide +kernel
theorem dX7_seen_41 : decode cX7_seen 41 = .ok (.iload_n 1, 1) := by decide +kernel
theorem dX7_seen_42 : decode cX7_seen 42 = .ok (.iaload, 1) := by decide +kernel
theorem dX7_seen_43 : decode cX7_seen 43 = .ok (.ishl, 1) := by decide +kernel
theorem dX7_seen_44 : decode cX7_seen 44 = .ok (.istore_n 3, 1) := by decide +kernel
theorem dX7_seen_45 : decode cX7_seen 45 = .ok (.iconst 1, 1) := by decide +kernel
theorem dX7_seen_46 : decode cX7_seen 46 = .ok (.istore 4, 2) := by decide +kernel
theorem dX7_seen_48 : decode cX7_seen 48 = .ok (.iload 4, 2) := by decide +kernel
theorem dX7_seen_50 : decode cX7_seen 50 = .ok (.iload_n 2, 1) := by decide +kernel
theorem dX7_seen_51 : decode cX7_seen 51 = .ok (.if_icmp .gt 31, 3) := by decide +kernel
theorem dX7_seen_54 : decode cX7_seen 54 = .ok (.aload_n 0, 1) := by decide +kernel
theorem dX7_seen_55 : decode cX7_seen 55 = .ok (.getfield 16, 3) := by decide +kernel
theorem dX7_seen_58 : decode cX7_seen 58 = .ok (.invokevirtual 285, 3) := by decide +kernel
theorem dX7_seen_61 : decode cX7_seen 61 = .ok (.pop, 1) := by decide +kernel
theorem dX7_seen_62 : decode cX7_seen 62 = .ok (.iload_n 3, 1) := by decide +kernel
theorem dX7_seen_63 : decode cX7_seen 63 = .ok (.iconst 1, 1) := by decide +kernel
theorem dX7_seen_64 : decode cX7_seen 64 = .ok (.aload_n 0, 1) := by decide +kernel
theorem dX7_seen_65 : decode cX7_seen 65 = .ok (.getfield 16, 3) := by decide +kernel
theorem dX7_seen_68 : decode cX7_seen 68 = .ok (.getfield 149, 3) := by decide +kernel
theorem dX7_seen_71 : decode cX7_seen 71 = .ok (.iload_n 1, 1) := by decide +kernel
theorem dX7_seen_72 : decode cX7_seen 72 = .ok (.iaload, 1) := by decide +kernel
theorem dX7_seen_73 : decode cX7_seen 73 = .ok (.ishl, 1) := by decide +kernel
theorem dX7_seen_74 : decode cX7_seen 74 = .ok (.ior, 1) := by decide +kernel
theorem dX7_seen_75 : decode cX7_seen 75 = .ok (.istore_n 3, 1) := by decide +kernel
theorem dX7_seen_76 : decode cX7_seen 76 = .ok (.iinc 4 1, 3) := by decide +kernel
theorem dX7_seen_79 : decode cX7_seen 79 = .ok (.goto (-31), 3) := by decide +kernel
theorem dX7_seen_82 : decode cX7_seen 82 = .ok (.iload_n 3, 1) := by decide +kernel
theorem dX7_seen_83 : decode cX7_seen 83 = .ok (.ireturn, 1) := by decide +kernel
set_option maxRecDepth 20000 in
theorem ggX7_without_X7_isAhead : GoodIn wsX7_without wsX7_isAhead := goodIn_r _ [9] (by decide +kernel) (by decide +kernel)
set_option maxRecDepth 20000 in
theorem gX7_without_X7_isAhead : GoodIn wsX7_without (va_wsS RX7 215 yX7_isAhead wsX7_isAhead) := goodIn_app (goodIn_of _ (by decide +kernel)) ggX7_without_X7_isAhead
set_option maxRecDepth 20000 in
theorem ggX7_without_X7_refuse : GoodIn wsX7_without wsX7_refuse := goodIn_r _ [13, 14, 116, 117, 118, 119, 120, 121, 122, 123, 124, 125, 126, 127] (by decide +kernel) (by decide +kernel)
set_option maxRecDepth 20000 in
theorem gX7_without_X7_refuse : GoodIn wsX7_without (wsV RX7 73 RX7 yX7_refuse wsX7_refuse) := goodIn_app (goodIn_of _ (by decide +kernel)) ggX7_without_X7_refuse
set_option maxRecDepth 20000 in
theorem ggX7_without_X0_begin : GoodIn wsX7_without wsX0_begin := goodIn_r _ [19, 20, 21, 140, 141] (by decide +kernel) (by decide +kernel)
set_option maxRecDepth 20000 in
theorem gX7_without_X0_begin : GoodIn wsX7_without (wsV RX7 242 RX0 yX0_begin wsX0_begin) := goodIn_app (goodIn_of _ (by decide +kernel)) ggX7_without_X0_begin
set_option maxRecDepth 20000 in
theorem ggX7_without_X5_become : GoodIn wsX7_without wsX5_become := goodIn_r _ [26, 27, 28, 29, 30, 31, 32, 33, 34, 35, 36, 37, 38, 39, 40, 41, 42, 128, 129, 130, 131, 132, 133, 134, 135, 136, 137, 138, 139] (by decide +kernel) (by decide +kernel)
set_option maxRecDepth 20000 in
theorem gX7_without_X5_become : GoodIn wsX7_without (wsV RX7 198 RX5 yX5_become wsX5_become) := goodIn_app (goodIn_of _ (by decide +kernel)) ggX7_without_X5_become
set_option maxRecDepth 20000 in
theorem ggX7_without_X5_removePerson : GoodIn wsX7_without wsX5_removePerson := goodIn_r _ [46, 34, 35, 36, 37, 38, 39, 128, 129, 130, 131, 132, 133, 134, 135, 136, 137, 138, 139] (by decide +kernel) (by decide +kernel)
set_option maxRecDepth 20000 in
theorem gX7_without_X5_removePerson : GoodIn wsX7_without (wsV RX7 303 RX5 yX5_removePerson wsX5_removePerson) := goodIn_app (goodIn_of _ (by decide +kernel)) ggX7_without_X5_removePerson
set_option maxRecDepth 20000 in
theorem ggX7_without_X5_passHours : GoodIn wsX7_without wsX5_passHours := goodIn_r _ [50, 51, 52, 53, 25, 54, 34, 39, 55, 56, 57, 58, 59, 60, 61, 62, 35, 63, 64, 65, 66, 38, 37, 67, 68, 69, 70, 40, 71, 72, 73, 74, 27, 75, 76, 77, 78, 33, 79, 80, 81, 82, 28, 83, 84, 85, 86, 87, 8, 88, 89, 90, 91, 92, 93, 94, 95, 96, 128, 129, 130, 131, 132, 133, 134, 135, 136, 137, 138, 139] (by decide +kernel) (by decide +kernel)
set_option maxRecDepth 20000 in
theorem gX7_without_X5_passHours : GoodIn wsX7_without (wsV RX7 306 RX5 yX5_passHours wsX5_passHours) := goodIn_app (goodIn_of _ (by decide +kernel)) ggX7_without_X5_passHours
set_option maxRecDepth 20000 in
theorem ggX7_without_X5_shiningCount : GoodIn wsX7_without wsX5_shiningCount := goodIn_r _ [100, 101, 102, 103, 25, 104, 27, 55, 56, 57, 58, 34, 39, 59, 60, 61, 62, 35, 105, 106, 107, 108, 109, 110, 111, 128, 129, 130, 131, 132, 133, 134, 135, 136, 137, 138, 139] (by decide +kernel) (by decide +kernel)
set_option maxRecDepth 20000 in
theorem gX7_without_X5_shiningCount : GoodIn wsX7_without (wsV RX7 221 RX5 yX5_shiningCount wsX5_shiningCount) := goodIn_app (goodIn_of _ (by decide +kernel)) ggX7_without_X5_shiningCount
set_option maxRecDepth 20000 in
theorem ggX7_without_X0_offer : GoodIn wsX7_without wsX0_offer := goodIn_r _ [115, 21, 20, 140, 141] (by decide +kernel) (by decide +kernel)
set_option maxRecDepth 20000 in
theorem gX7_without_X0_offer : GoodIn wsX7_without (wsV RX7 248 RX0 yX0_offer wsX0_offer) := goodIn_app (goodIn_of _ (by decide +kernel)) ggX7_without_X0_offer
theorem dX7_without_0 : decode cX7_without 0 = .ok (.iload_n 1, 1) := by decide +kernel
theorem dX7_without_1 : decode cX7_without 1 = .ok (.invokestatic 215, 3) := by decide +kernel
theorem dX7_without_4 : decode cX7_without 4 = .ok (.ifCond .ne 10, 3) := by decide +kernel
theorem dX7_without_7 : decode cX7_without 7 = .ok (.aload_n 0, 1) := by decide +kernel
theorem dX7_without_8 : decode cX7_without 8 = .ok (.bipush (-2), 2) := by decide +kernel
theorem dX7_without_10 : decode cX7_without 10 = .ok (.invokevirtual 73, 3) := by decide +kernel
theorem dX7_without_13 : decode cX7_without 13 = .ok (.ireturn, 1) := by decide +kernel
theorem dX7_without_14 : decode cX7_without 14 = .ok (.aload_n 0, 1) := by decide +kernel
theorem dX7_without_15 : decode cX7_without 15 = .ok (.getfield 10, 3) := by decide +kernel
theorem dX7_without_18 : decode cX7_without 18 = .ok (.getfield 171, 3) := by decide +kernel
theorem dX7_without_21 : decode cX7_without 21 = .ok (.ifCond .ne 10, 3) := by decide +kernel
theorem dX7_without_24 : decode cX7_without 24 = .ok (.aload_n 0, 1) := by decide +kernel
theorem dX7_without_25 : decode cX7_without 25 = .ok (.bipush (-5), 2) := by decide +kernel
theorem dX7_without_27 : decode cX7_without 27 = .ok (.invokevirtual 73, 3) := by decide +kernel
theorem dX7_without_30 : decode cX7_without 30 = .ok (.ireturn, 1) := by decide +kernel
theorem dX7_without_31 : decode cX7_without 31 = .ok (.aload_n 0, 1) := by decide +kernel
theorem dX7_without_32 : decode cX7_without 32 = .ok (.getfield 61, 3) := by decide +kernel
theorem dX7_without_35 : decode cX7_without 35 = .ok (.iconst 0, 1) := by decide +kernel
theorem dX7_without_36 : decode cX7_without 36 = .ok (.iconst (-1), 1) := by decide +kernel
theorem dX7_without_37 : decode cX7_without 37 = .ok (.invokevirtual 242, 3) := by decide +kernel
theorem dX7_without_40 : decode cX7_without 40 = .ok (.iconst 0, 1) := by decide +kernel
theorem dX7_without_41 : decode cX7_without 41 = .ok (.istore_n 2, 1) := by decide +kernel
theorem dX7_without_42 : decode cX7_without 42 = .ok (.iload_n 2, 1) := by decide +kernel
theorem dX7_without_43 : decode cX7_without 43 = .ok (.aload_n 0, 1) := by decide +kernel
theorem dX7_without_44 : decode cX7_without 44 = .ok (.getfield 10, 3) := by decide +kernel
theorem dX7_without_47 : decode cX7_without 47 = .ok (.getfield 171, 3) := by decide +kernel
theorem dX7_without_50 : decode cX7_without 50 = .ok (.if_icmp .ge 51, 3) := by decide +kernel
theorem dX7_without_53 : decode cX7_without 53 = .ok (.aload_n 0, 1) := by decide +kernel
theorem dX7_without_54 : decode cX7_without 54 = .ok (.getfield 16, 3) := by decide +kernel
theorem dX7_without_57 : decode cX7_without 57 = .ok (.aload_n 0, 1) := by decide +kernel
theorem dX7_without_58 : decode cX7_without 58 = .ok (.getfield 10, 3) := by decide +kernel
theorem dX7_without_61 : decode cX7_without 61 = .ok (.invokevirtual 198, 3) := by decide +kernel
theorem dX7_without_64 : decode cX7_without 64 = .ok (.aload_n 0, 1) := by decide +kernel
theorem dX7_without_65 : decode cX7_without 65 = .ok (.getfield 16, 3) := by decide +kernel
theorem dX7_without_68 : decode cX7_without 68 = .ok (.iload_n 2, 1) := by decide +kernel
theorem dX7_without_69 : decode cX7_without 69 = .ok (.invokevirtual 303, 3) := by decide +kernel
theorem dX7_without_72 : decode cX7_without 72 = .ok (.aload_n 0, 1) := by decide +kernel
theorem dX7_without_73 : decode cX7_without 73 = .ok (.getfield 16, 3) := by decide +kernel
theorem dX7_without_76 : decode cX7_without 76 = .ok (.iload_n 1, 1) := by decide +kernel
theorem dX7_without_77 : decode cX7_without 77 = .ok (.invokevirtual 306, 3) := by decide +kernel
theorem dX7_without_80 : decode cX7_without 80 = .ok (.aload_n 0, 1) := by decide +kernel
theorem dX7_without_81 : decode cX7_without 81 = .ok (.getfield 61, 3) := by decide +kernel
theorem dX7_without_84 : decode cX7_without 84 = .ok (.iload_n 2, 1) := by decide +kernel
theorem dX7_without_85 : decode cX7_without 85 = .ok (.aload_n 0, 1) := by decide +kernel
theorem dX7_without_86 : decode cX7_without 86 = .ok (.getfield 16, 3) := by decide +kernel
theorem dX7_without_89 : decode cX7_without 89 = .ok (.invokevirtual 221, 3) := by decide +kernel
theorem dX7_without_92 : decode cX7_without 92 = .ok (.invokevirtual 248, 3) := by decide +kernel
theorem dX7_without_95 : decode cX7_without 95 = .ok (.iinc 2 1, 3) := by decide +kernel
theorem dX7_without_98 : decode cX7_without 98 = .ok (.goto (-56), 3) := by decide +kernel
theorem dX7_without_101 : decode cX7_without 101 = .ok (.aload_n 0, 1) := by decide +kernel
theorem dX7_without_102 : decode cX7_without 102 = .ok (.getfield 61, 3) := by decide +kernel
theorem dX7_without_105 : decode cX7_without 105 = .ok (.getfield 251, 3) := by decide +kernel
theorem dX7_without_108 : decode cX7_without 108 = .ok (.ireturn, 1) := by decide +kernel
set_option maxRecDepth 20000 in
theorem ggX7_best_X7_isPerson : GoodIn wsX7_best wsX7_isPerson := goodIn_r _ [11, 2, 12, 118, 119, 120, 121, 122, 123, 124, 125, 126, 127, 128, 129, 130, 131, 132, 133, 134, 135, 136, 137, 138, 139, 140, 141] (by decide +kernel) (by decide +kernel)
set_option maxRecDepth 20000 in
theorem gX7_best_X7_isPerson : GoodIn wsX7_best (wsV RX7 113 RX7 yX7_isPerson wsX7_isPerson) := goodIn_app (goodIn_of _ (by decide +kernel)) ggX7_best_X7_isPerson
set_option maxRecDepth 20000 in
theorem ggX7_best_X7_isAhead : GoodIn wsX7_best wsX7_isAhead := goodIn_r _ [15] (by decide +kernel) (by decide +kernel)
set_option maxRecDepth 20000 in
theorem gX7_best_X7_isAhead : GoodIn wsX7_best (va_wsS RX7 215 yX7_isAhead wsX7_isAhead) := goodIn_app (goodIn_of _ (by decide +kernel)) ggX7_best_X7_isAhead
set_option maxRecDepth 20000 in
theorem ggX7_best_X7_refuse : GoodIn wsX7_best wsX7_refuse := goodIn_r _ [19, 20, 118, 119, 120, 121, 122, 123, 124, 125, 126, 127, 128, 129] (by decide +kernel) (by decide +kernel)
set_option maxRecDepth 20000 in
theorem gX7_best_X7_refuse : GoodIn wsX7_best (wsV RX7 73 RX7 yX7_refuse wsX7_refuse) := goodIn_app (goodIn_of _ (by decide +kernel)) ggX7_best_X7_refuse
set_option maxRecDepth 20000 in
theorem ggX7_best_X0_begin : GoodIn wsX7_best wsX0_begin := goodIn_r _ [25, 26, 27, 142, 143] (by decide +kernel) (by decide +kernel)
set_option maxRecDepth 20000 in
theorem gX7_best_X0_begin : GoodIn wsX7_best (wsV RX7 242 RX0 yX0_begin wsX0_begin) := goodIn_app (goodIn_of _ (by decide +kernel)) ggX7_best_X0_begin
set_option maxRecDepth 20000 in
theorem ggX7_best_X5_become : GoodIn wsX7_best wsX5_become := goodIn_r _ [32, 33, 34, 35, 36, 37, 38, 39, 40, 41, 42, 43, 44, 45, 46, 47, 48, 130, 131, 132, 133, 134, 135, 136, 137, 138, 139, 140, 141] (by decide +kernel) (by decide +kernel)
set_option maxRecDepth 20000 in
theorem gX7_best_X5_become : GoodIn wsX7_best (wsV RX7 198 RX5 yX5_become wsX5_become) := goodIn_app (goodIn_of _ (by decide +kernel)) ggX7_best_X5_become
set_option maxRecDepth 20000 in
theorem ggX7_best_X5_passHours : GoodIn wsX7_best wsX5_passHours := goodIn_r _ [52, 53, 54, 55, 31, 56, 40, 45, 57, 58, 59, 60, 61, 62, 63, 64, 41, 65, 66, 67, 68, 44, 43, 69, 70, 71, 72, 46, 73, 74, 75, 76, 33, 77, 78, 79, 80, 39, 81, 82, 83, 84, 34, 85, 86, 87, 88, 89, 10, 90, 91, 92, 93, 94, 95, 96, 97, 98, 130, 131, 132, 133, 134, 135, 136, 137, 138, 139, 140, 141] (by decide +kernel) (by decide +kernel)
set_option maxRecDepth 20000 in
theorem gX7_best_X5_passHours : GoodIn wsX7_best (wsV RX7 306 RX5 yX5_passHours wsX5_passHours) := goodIn_app (goodIn_of _ (by decide +kernel)) ggX7_best_X5_passHours
set_option maxRecDepth 20000 in
theorem ggX7_best_X5_shiningCount : GoodIn wsX7_best wsX5_shiningCount := goodIn_r _ [102, 103, 104, 105, 31, 106, 33, 57, 58, 59, 60, 40, 45, 61, 62, 63, 64, 41, 107, 108, 109, 110, 111, 112, 113, 130, 131, 132, 133, 134, 135, 136, 137, 138, 139, 140, 141] (by decide +kernel) (by decide +kernel)
set_option maxRecDepth 20000 in
theorem gX7_best_X5_shiningCount : GoodIn wsX7_best (wsV RX7 221 RX5 yX5_shiningCount wsX5_shiningCount) := goodIn_app (goodIn_of _ (by decide +kernel)) ggX7_best_X5_shiningCount
set_option maxRecDepth 20000 in
theorem ggX7_best_X0_offer : GoodIn wsX7_best wsX0_offer := goodIn_r _ [117, 27, 26, 142, 143] (by decide +kernel) (by decide +kernel)
set_option maxRecDepth 20000 in
theorem gX7_best_X0_offer : GoodIn wsX7_best (wsV RX7 248 RX0 yX0_offer wsX0_offer) := goodIn_app (goodIn_of _ (by decide +kernel)) ggX7_best_X0_offer
theorem dX7_best_0 : decode cX7_best 0 = .ok (.aload_n 0, 1) := by decide +kernel
theorem dX7_best_1 : decode cX7_best 1 = .ok (.iload_n 1, 1) := by decide +kernel
theorem dX7_best_2 : decode cX7_best 2 = .ok (.invokevirtual 113, 3) := by decide +kernel
theorem dX7_best_5 : decode cX7_best 5 = .ok (.ifCond .eq 10, 3) := by decide +kernel
theorem dX7_best_8 : decode cX7_best 8 = .ok (.iload_n 2, 1) := by decide +kernel
theorem dX7_best_9 : decode cX7_best 9 = .ok (.invokestatic 215, 3) := by decide +kernel
theorem dX7_best_12 : decode cX7_best 12 = .ok (.ifCond .ne 10, 3) := by decide +kernel
theorem dX7_best_15 : decode cX7_best 15 = .ok (.aload_n 0, 1) := by decide +kernel
theorem dX7_best_16 : decode cX7_best 16 = .ok (.bipush (-2), 2) := by decide +kernel
theorem dX7_best_18 : decode cX7_best 18 = .ok (.invokevirtual 73, 3) := by decide +kernel
theorem dX7_best_21 : decode cX7_best 21 = .ok (.ireturn, 1) := by decide +kernel
theorem dX7_best_22 : decode cX7_best 22 = .ok (.aload_n 0, 1) := by decide +kernel
theorem dX7_best_23 : decode cX7_best 23 = .ok (.getfield 61, 3) := by decide +kernel
theorem dX7_best_26 : decode cX7_best 26 = .ok (.iconst 0, 1) := by decide +kernel
theorem dX7_best_27 : decode cX7_best 27 = .ok (.iconst (-1), 1) := by decide +kernel
theorem dX7_best_28 : decode cX7_best 28 = .ok (.invokevirtual 242, 3) := by decide +kernel
theorem dX7_best_31 : decode cX7_best 31 = .ok (.iconst 0, 1) := by decide +kernel
theorem dX7_best_32 : decode cX7_best 32 = .ok (.istore_n 3, 1) := by decide +kernel
theorem dX7_best_33 : decode cX7_best 33 = .ok (.iload_n 3, 1) := by decide +kernel
theorem dX7_best_34 : decode cX7_best 34 = .ok (.aload_n 0, 1) := by decide +kernel
theorem dX7_best_35 : decode cX7_best 35 = .ok (.getfield 10, 3) := by decide +kernel
theorem dX7_best_38 : decode cX7_best 38 = .ok (.getfield 152, 3) := by decide +kernel
theorem dX7_best_41 : decode cX7_best 41 = .ok (.if_icmp .ge 53, 3) := by decide +kernel
theorem dX7_best_44 : decode cX7_best 44 = .ok (.aload_n 0, 1) := by decide +kernel
theorem dX7_best_45 : decode cX7_best 45 = .ok (.getfield 16, 3) := by decide +kernel
theorem dX7_best_48 : decode cX7_best 48 = .ok (.aload_n 0, 1) := by decide +kernel
theorem dX7_best_49 : decode cX7_best 49 = .ok (.getfield 10, 3) := by decide +kernel
theorem dX7_best_52 : decode cX7_best 52 = .ok (.invokevirtual 198, 3) := by decide +kernel
theorem dX7_best_55 : decode cX7_best 55 = .ok (.aload_n 0, 1) := by decide +kernel
theorem dX7_best_56 : decode cX7_best 56 = .ok (.getfield 16, 3) := by decide +kernel
theorem dX7_best_59 : decode cX7_best 59 = .ok (.getfield 149, 3) := by decide +kernel
theorem dX7_best_62 : decode cX7_best 62 = .ok (.iload_n 1, 1) := by decide +kernel
theorem dX7_best_63 : decode cX7_best 63 = .ok (.iload_n 3, 1) := by decide +kernel
theorem dX7_best_64 : decode cX7_best 64 = .ok (.iastore, 1) := by decide +kernel
theorem dX7_best_65 : decode cX7_best 65 = .ok (.aload_n 0, 1) := by decide +kernel
theorem dX7_best_66 : decode cX7_best 66 = .ok (.getfield 16, 3) := by decide +kernel
theorem dX7_best_69 : decode cX7_best 69 = .ok (.iload_n 2, 1) := by decide +kernel
theorem dX7_best_70 : decode cX7_best 70 = .ok (.invokevirtual 306, 3) := by decide +kernel
theorem dX7_best_73 : decode cX7_best 73 = .ok (.aload_n 0, 1) := by decide +kernel
theorem dX7_best_74 : decode cX7_best 74 = .ok (.getfield 61, 3) := by decide +kernel
theorem dX7_best_77 : decode cX7_best 77 = .ok (.iload_n 3, 1) := by decide +kernel
theorem dX7_best_78 : decode cX7_best 78 = .ok (.aload_n 0, 1) := by decide +kernel
theorem dX7_best_79 : decode cX7_best 79 = .ok (.getfield 16, 3) := by decide +kernel
theorem dX7_best_82 : decode cX7_best 82 = .ok (.invokevirtual 221, 3) := by decide +kernel
theorem dX7_best_85 : decode cX7_best 85 = .ok (.invokevirtual 248, 3) := by decide +kernel
theorem dX7_best_88 : decode cX7_best 88 = .ok (.iinc 3 1, 3) := by decide +kernel
theorem dX7_best_91 : decode cX7_best 91 = .ok (.goto (-58), 3) := by decide +kernel
theorem dX7_best_94 : decode cX7_best 94 = .ok (.aload_n 0, 1) := by decide +kernel
theorem dX7_best_95 : decode cX7_best 95 = .ok (.getfield 61, 3) := by decide +kernel
theorem dX7_best_98 : decode cX7_best 98 = .ok (.getfield 251, 3) := by decide +kernel
theorem dX7_best_101 : decode cX7_best 101 = .ok (.ireturn, 1) := by decide +kernel
set_option maxRecDepth 20000 in
theorem ggX7_middle_X7_refuse : GoodIn wsX7_middle wsX7_refuse := goodIn_r _ [10, 11, 35, 36, 37, 38, 39, 40, 41, 42, 43, 44, 45, 46] (by decide +kernel) (by decide +kernel)
set_option maxRecDepth 20000 in
theorem gX7_middle_X7_refuse : GoodIn wsX7_middle (wsV RX7 73 RX7 yX7_refuse wsX7_refuse) := goodIn_app (goodIn_of _ (by decide +kernel)) ggX7_middle_X7_refuse
set_option maxRecDepth 20000 in
theorem ggX7_middle_X5_farTogether : GoodIn wsX7_middle wsX5_farTogether := goodIn_r _ [16, 17, 18, 19, 20, 21, 15, 22, 23, 47, 48, 49, 50, 51, 52, 53, 54, 55, 56, 57, 58] (by decide +kernel) (by decide +kernel)
set_option maxRecDepth 20000 in
theorem gX7_middle_X5_farTogether : GoodIn wsX7_middle (wsV RX7 309 RX5 yX5_farTogether wsX5_farTogether) := goodIn_app (goodIn_of _ (by decide +kernel)) ggX7_middle_X5_farTogether
set_option maxRecDepth 20000 in
theorem ggX7_middle_X0_begin : GoodIn wsX7_middle wsX0_begin := goodIn_r _ [28, 29, 30, 59, 60] (by decide +kernel) (by decide +kernel)
set_option maxRecDepth 20000 in
theorem gX7_middle_X0_begin : GoodIn wsX7_middle (wsV RX7 242 RX0 yX0_begin wsX0_begin) := goodIn_app (goodIn_of _ (by decide +kernel)) ggX7_middle_X0_begin
set_option maxRecDepth 20000 in
theorem ggX7_middle_X0_offer : GoodIn wsX7_middle wsX0_offer := goodIn_r _ [34, 30, 29, 59, 60] (by decide +kernel) (by decide +kernel)
set_option maxRecDepth 20000 in
theorem gX7_middle_X0_offer : GoodIn wsX7_middle (wsV RX7 248 RX0 yX0_offer wsX0_offer) := goodIn_app (goodIn_of _ (by decide +kernel)) ggX7_middle_X0_offer
