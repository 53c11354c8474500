theorem dX5_spread_4 : decode cX5_spread 4 = .ok (.iload_n 3, 1) := by decide +kernel
theorem dX5_spread_5 : decode cX5_spread 5 = .ok (.bipush 12, 2) := by decide +kernel
theorem dX5_spread_7 : decode cX5_spread 7 = .ok (.if_icmp .ge 26, 3) := by decide +kernel
theorem dX5_spread_10 : decode cX5_spread 10 = .ok (.iload_n 1, 1) := by decide +kernel
theorem dX5_spread_11 : decode cX5_spread 11 = .ok (.iload_n 3, 1) := by decide +kernel
theorem dX5_spread_12 : decode cX5_spread 12 = .ok (.invokestatic 68, 3) := by decide +kernel
theorem dX5_spread_15 : decode cX5_spread 15 = .ok (.ifCond .eq 12, 3) := by decide +kernel
theorem dX5_spread_18 : decode cX5_spread 18 = .ok (.iload_n 2, 1) := by decide +kernel
theorem dX5_spread_19 : decode cX5_spread 19 = .ok (.aload_n 0, 1) := by decide +kernel
theorem dX5_spread_20 : decode cX5_spread 20 = .ok (.getfield 15, 3) := by decide +kernel
theorem dX5_spread_23 : decode cX5_spread 23 = .ok (.iload_n 3, 1) := by decide +kernel
theorem dX5_spread_24 : decode cX5_spread 24 = .ok (.iaload, 1) := by decide +kernel
theorem dX5_spread_25 : decode cX5_spread 25 = .ok (.ior, 1) := by decide +kernel
theorem dX5_spread_26 : decode cX5_spread 26 = .ok (.istore_n 2, 1) := by decide +kernel
theorem dX5_spread_27 : decode cX5_spread 27 = .ok (.iinc 3 1, 3) := by decide +kernel
theorem dX5_spread_30 : decode cX5_spread 30 = .ok (.goto (-26), 3) := by decide +kernel
theorem dX5_spread_33 : decode cX5_spread 33 = .ok (.iload_n 2, 1) := by decide +kernel
theorem dX5_spread_34 : decode cX5_spread 34 = .ok (.ireturn, 1) := by decide +kernel
set_option maxRecDepth 20000 in
theorem ggX5_isFirstOfPart_X5_distance : GoodIn wsX5_isFirstOfPart wsX5_distance := goodIn_r _ [5, 6, 7, 8, 9, 10, 11, 12, 13, 14, 15, 16, 17, 18] (by decide +kernel) (by decide +kernel)
set_option maxRecDepth 20000 in
theorem gX5_isFirstOfPart_X5_distance : GoodIn wsX5_isFirstOfPart (wsV RX5 75 RX5 yX5_distance wsX5_distance) := goodIn_app (goodIn_of _ (by decide +kernel)) ggX5_isFirstOfPart_X5_distance
theorem dX5_isFirstOfPart_0 : decode cX5_isFirstOfPart 0 = .ok (.iconst 0, 1) := by decide +kernel
theorem dX5_isFirstOfPart_1 : decode cX5_isFirstOfPart 1 = .ok (.istore_n 2, 1) := by decide +kernel
theorem dX5_isFirstOfPart_2 : decode cX5_isFirstOfPart 2 = .ok (.iload_n 2, 1) := by decide +kernel
theorem dX5_isFirstOfPart_3 : decode cX5_isFirstOfPart 3 = .ok (.iload_n 1, 1) := by decide +kernel
theorem dX5_isFirstOfPart_4 : decode cX5_isFirstOfPart 4 = .ok (.if_icmp .ge 21, 3) := by decide +kernel
theorem dX5_isFirstOfPart_7 : decode cX5_isFirstOfPart 7 = .ok (.aload_n 0, 1) := by decide +kernel
theorem dX5_isFirstOfPart_8 : decode cX5_isFirstOfPart 8 = .ok (.iload_n 1, 1) := by decide +kernel
theorem dX5_isFirstOfPart_9 : decode cX5_isFirstOfPart 9 = .ok (.iload_n 2, 1) := by decide +kernel
theorem dX5_isFirstOfPart_10 : decode cX5_isFirstOfPart 10 = .ok (.invokevirtual 75, 3) := by decide +kernel
theorem dX5_isFirstOfPart_13 : decode cX5_isFirstOfPart 13 = .ok (.iconst (-1), 1) := by decide +kernel
theorem dX5_isFirstOfPart_14 : decode cX5_isFirstOfPart 14 = .ok (.if_icmp .eq 5, 3) := by decide +kernel
theorem dX5_isFirstOfPart_17 : decode cX5_isFirstOfPart 17 = .ok (.iconst 0, 1) := by decide +kernel
theorem dX5_isFirstOfPart_18 : decode cX5_isFirstOfPart 18 = .ok (.ireturn, 1) := by decide +kernel
theorem dX5_isFirstOfPart_19 : decode cX5_isFirstOfPart 19 = .ok (.iinc 2 1, 3) := by decide +kernel
theorem dX5_isFirstOfPart_22 : decode cX5_isFirstOfPart 22 = .ok (.goto (-20), 3) := by decide +kernel
theorem dX5_isFirstOfPart_25 : decode cX5_isFirstOfPart 25 = .ok (.iconst 1, 1) := by decide +kernel
theorem dX5_isFirstOfPart_26 : decode cX5_isFirstOfPart 26 = .ok (.ireturn, 1) := by decide +kernel
set_option maxRecDepth 20000 in
theorem ggX5_farTogether_X5_distance : GoodIn wsX5_farTogether wsX5_distance := goodIn_r _ [7, 8, 9, 10, 11, 12, 13, 14, 15, 16, 17, 18, 19, 20] (by decide +kernel) (by decide +kernel)
set_option maxRecDepth 20000 in
theorem gX5_farTogether_X5_distance : GoodIn wsX5_farTogether (wsV RX5 75 RX5 yX5_distance wsX5_distance) := goodIn_app (goodIn_of _ (by decide +kernel)) ggX5_farTogether_X5_distance
theorem dX5_farTogether_0 : decode cX5_farTogether 0 = .ok (.iconst 0, 1) := by decide +kernel
theorem dX5_farTogether_1 : decode cX5_farTogether 1 = .ok (.istore_n 2, 1) := by decide +kernel
theorem dX5_farTogether_2 : decode cX5_farTogether 2 = .ok (.iconst 0, 1) := by decide +kernel
theorem dX5_farTogether_3 : decode cX5_farTogether 3 = .ok (.istore_n 3, 1) := by decide +kernel
theorem dX5_farTogether_4 : decode cX5_farTogether 4 = .ok (.iload_n 3, 1) := by decide +kernel
theorem dX5_farTogether_5 : decode cX5_farTogether 5 = .ok (.aload_n 0, 1) := by decide +kernel
theorem dX5_farTogether_6 : decode cX5_farTogether 6 = .ok (.getfield 52, 3) := by decide +kernel
theorem dX5_farTogether_9 : decode cX5_farTogether 9 = .ok (.if_icmp .ge 38, 3) := by decide +kernel
theorem dX5_farTogether_12 : decode cX5_farTogether 12 = .ok (.aload_n 0, 1) := by decide +kernel
theorem dX5_farTogether_13 : decode cX5_farTogether 13 = .ok (.iload_n 1, 1) := by decide +kernel
theorem dX5_farTogether_14 : decode cX5_farTogether 14 = .ok (.aload_n 0, 1) := by decide +kernel
theorem dX5_farTogether_15 : decode cX5_farTogether 15 = .ok (.getfield 34, 3) := by decide +kernel
theorem dX5_farTogether_18 : decode cX5_farTogether 18 = .ok (.iload_n 3, 1) := by decide +kernel
theorem dX5_farTogether_19 : decode cX5_farTogether 19 = .ok (.iaload, 1) := by decide +kernel
theorem dX5_farTogether_20 : decode cX5_farTogether 20 = .ok (.invokevirtual 75, 3) := by decide +kernel
theorem dX5_farTogether_23 : decode cX5_farTogether 23 = .ok (.istore 4, 2) := by decide +kernel
theorem dX5_farTogether_25 : decode cX5_farTogether 25 = .ok (.iload_n 2, 1) := by decide +kernel
theorem dX5_farTogether_26 : decode cX5_farTogether 26 = .ok (.iload 4, 2) := by decide +kernel
theorem dX5_farTogether_28 : decode cX5_farTogether 28 = .ok (.iconst (-1), 1) := by decide +kernel
theorem dX5_farTogether_29 : decode cX5_farTogether 29 = .ok (.if_icmp .ne 8, 3) := by decide +kernel
theorem dX5_farTogether_32 : decode cX5_farTogether 32 = .ok (.bipush 12, 2) := by decide +kernel
theorem dX5_farTogether_34 : decode cX5_farTogether 34 = .ok (.goto 5, 3) := by decide +kernel
theorem dX5_farTogether_37 : decode cX5_farTogether 37 = .ok (.iload 4, 2) := by decide +kernel
theorem dX5_farTogether_39 : decode cX5_farTogether 39 = .ok (.iadd, 1) := by decide +kernel
theorem dX5_farTogether_40 : decode cX5_farTogether 40 = .ok (.istore_n 2, 1) := by decide +kernel
theorem dX5_farTogether_41 : decode cX5_farTogether 41 = .ok (.iinc 3 1, 3) := by decide +kernel
theorem dX5_farTogether_44 : decode cX5_farTogether 44 = .ok (.goto (-40), 3) := by decide +kernel
theorem dX5_farTogether_47 : decode cX5_farTogether 47 = .ok (.iload_n 2, 1) := by decide +kernel
theorem dX5_farTogether_48 : decode cX5_farTogether 48 = .ok (.ireturn, 1) := by decide +kernel
theorem dX5_addPerson_0 : decode cX5_addPerson 0 = .ok (.aload_n 0, 1) := by decide +kernel
theorem dX5_addPerson_1 : decode cX5_addPerson 1 = .ok (.getfield 52, 3) := by decide +kernel
theorem dX5_addPerson_4 : decode cX5_addPerson 4 = .ok (.istore 5, 2) := by decide +kernel
theorem dX5_addPerson_6 : decode cX5_addPerson 6 = .ok (.iload 5, 2) := by decide +kernel
theorem dX5_addPerson_8 : decode cX5_addPerson 8 = .ok (.bipush 8, 2) := by decide +kernel
theorem dX5_addPerson_10 : decode cX5_addPerson 10 = .ok (.if_icmp .lt 6, 3) := by decide +kernel
theorem dX5_addPerson_13 : decode cX5_addPerson 13 = .ok (.bipush (-6), 2) := by decide +kernel
theorem dX5_addPerson_15 : decode cX5_addPerson 15 = .ok (.ireturn, 1) := by decide +kernel
theorem dX5_addPerson_16 : decode cX5_addPerson 16 = .ok (.aload_n 0, 1) := by decide +kernel
theorem dX5_addPerson_17 : decode cX5_addPerson 17 = .ok (.getfield 22, 3) := by decide +kernel
theorem dX5_addPerson_20 : decode cX5_addPerson 20 = .ok (.iload 5, 2) := by decide +kernel
theorem dX5_addPerson_22 : decode cX5_addPerson 22 = .ok (.iload_n 1, 1) := by decide +kernel
theorem dX5_addPerson_23 : decode cX5_addPerson 23 = .ok (.iastore, 1) := by decide +kernel
theorem dX5_addPerson_24 : decode cX5_addPerson 24 = .ok (.aload_n 0, 1) := by decide +kernel
theorem dX5_addPerson_25 : decode cX5_addPerson 25 = .ok (.getfield 25, 3) := by decide +kernel
theorem dX5_addPerson_28 : decode cX5_addPerson 28 = .ok (.iload 5, 2) := by decide +kernel
theorem dX5_addPerson_30 : decode cX5_addPerson 30 = .ok (.iload_n 2, 1) := by decide +kernel
theorem dX5_addPerson_31 : decode cX5_addPerson 31 = .ok (.iastore, 1) := by decide +kernel
theorem dX5_addPerson_32 : decode cX5_addPerson 32 = .ok (.aload_n 0, 1) := by decide +kernel
theorem dX5_addPerson_33 : decode cX5_addPerson 33 = .ok (.getfield 28, 3) := by decide +kernel
theorem dX5_addPerson_36 : decode cX5_addPerson 36 = .ok (.iload 5, 2) := by decide +kernel
theorem dX5_addPerson_38 : decode cX5_addPerson 38 = .ok (.iload_n 3, 1) := by decide +kernel
theorem dX5_addPerson_39 : decode cX5_addPerson 39 = .ok (.iastore, 1) := by decide +kernel
theorem dX5_addPerson_40 : decode cX5_addPerson 40 = .ok (.aload_n 0, 1) := by decide +kernel
theorem dX5_addPerson_41 : decode cX5_addPerson 41 = .ok (.getfield 31, 3) := by decide +kernel
theorem dX5_addPerson_44 : decode cX5_addPerson 44 = .ok (.iload 5, 2) := by decide +kernel
theorem dX5_addPerson_46 : decode cX5_addPerson 46 = .ok (.iload 4, 2) := by decide +kernel
theorem dX5_addPerson_48 : decode cX5_addPerson 48 = .ok (.iastore, 1) := by decide +kernel
theorem dX5_addPerson_49 : decode cX5_addPerson 49 = .ok (.aload_n 0, 1) := by decide +kernel
theorem dX5_addPerson_50 : decode cX5_addPerson 50 = .ok (.getfield 34, 3) := by decide +kernel
theorem dX5_addPerson_53 : decode cX5_addPerson 53 = .ok (.iload 5, 2) := by decide +kernel
theorem dX5_addPerson_55 : decode cX5_addPerson 55 = .ok (.iload_n 3, 1) := by decide +kernel
theorem dX5_addPerson_56 : decode cX5_addPerson 56 = .ok (.iastore, 1) := by decide +kernel
theorem dX5_addPerson_57 : decode cX5_addPerson 57 = .ok (.aload_n 0, 1) := by decide +kernel
theorem dX5_addPerson_58 : decode cX5_addPerson 58 = .ok (.dup, 1) := by decide +kernel
theorem dX5_addPerson_59 : decode cX5_addPerson 59 = .ok (.getfield 52, 3) := by decide +kernel
theorem dX5_addPerson_62 : decode cX5_addPerson 62 = .ok (.iconst 1, 1) := by decide +kernel
theorem dX5_addPerson_63 : decode cX5_addPerson 63 = .ok (.iadd, 1) := by decide +kernel
theorem dX5_addPerson_64 : decode cX5_addPerson 64 = .ok (.putfield 52, 3) := by decide +kernel
theorem dX5_addPerson_67 : decode cX5_addPerson 67 = .ok (.iload 5, 2) := by decide +kernel
theorem dX5_addPerson_69 : decode cX5_addPerson 69 = .ok (.ireturn, 1) := by decide +kernel
theorem dX5_removePerson_0 : decode cX5_removePerson 0 = .ok (.iload_n 1, 1) := by decide +kernel
theorem dX5_removePerson_1 : decode cX5_removePerson 1 = .ok (.istore_n 2, 1) := by decide +kernel
theorem dX5_removePerson_2 : decode cX5_removePerson 2 = .ok (.iload_n 2, 1) := by decide +kernel
theorem dX5_removePerson_3 : decode cX5_removePerson 3 = .ok (.iconst 1, 1) := by decide +kernel
theorem dX5_removePerson_4 : decode cX5_removePerson 4 = .ok (.iadd, 1) := by decide +kernel
theorem dX5_removePerson_5 : decode cX5_removePerson 5 = .ok (.aload_n 0, 1) := by decide +kernel
theorem dX5_removePerson_6 : decode cX5_removePerson 6 = .ok (.getfield 52, 3) := by decide +kernel
theorem dX5_removePerson_9 : decode cX5_removePerson 9 = .ok (.if_icmp .ge 79, 3) := by decide +kernel
theorem dX5_removePerson_12 : decode cX5_removePerson 12 = .ok (.aload_n 0, 1) := by decide +kernel
theorem dX5_removePerson_13 : decode cX5_removePerson 13 = .ok (.getfield 22, 3) := by decide +kernel
theorem dX5_removePerson_16 : decode cX5_removePerson 16 = .ok (.iload_n 2, 1) := by decide +kernel
theorem dX5_removePerson_17 : decode cX5_removePerson 17 = .ok (.aload_n 0, 1) := by decide +kernel
theorem dX5_removePerson_18 : decode cX5_removePerson 18 = .ok (.getfield 22, 3) := by decide +kernel
theorem dX5_removePerson_21 : decode cX5_removePerson 21 = .ok (.iload_n 2, 1) := by decide +kernel
theorem dX5_removePerson_22 : decode cX5_removePerson 22 = .ok (.iconst 1, 1) := by decide +kernel
theorem dX5_removePerson_23 : decode cX5_removePerson 23 = .ok (.iadd, 1) := by decide +kernel
theorem dX5_removePerson_24 : decode cX5_removePerson 24 = .ok (.iaload, 1) := by decide +kernel
theorem dX5_removePerson_25 : decode cX5_removePerson 25 = .ok (.iastore, 1) := by decide +kernel
theorem dX5_removePerson_26 : decode cX5_removePerson 26 = .ok (.aload_n 0, 1) := by decide +kernel
theorem dX5_removePerson_27 : decode cX5_removePerson 27 = .ok (.getfield 25, 3) := by decide +kernel
theorem dX5_removePerson_30 : decode cX5_removePerson 30 = .ok (.iload_n 2, 1) := by decide +kernel
theorem dX5_removePerson_31 : decode cX5_removePerson 31 = .ok (.aload_n 0, 1) := by decide +kernel
theorem dX5_removePerson_32 : decode cX5_removePerson 32 = .ok (.getfield 25, 3) := by decide +kernel
theorem dX5_removePerson_35 : decode cX5_removePerson 35 = .ok (.iload_n 2, 1) := by decide +kernel
theorem dX5_removePerson_36 : decode cX5_removePerson 36 = .ok (.iconst 1, 1) := by decide +kernel
theorem dX5_removePerson_37 : decode cX5_removePerson 37 = .ok (.iadd, 1) := by decide +kernel
theorem dX5_removePerson_38 : decode cX5_removePerson 38 = .ok (.iaload, 1) := by decide +kernel
theorem dX5_removePerson_39 : decode cX5_removePerson 39 = .ok (.iastore, 1) := by decide +kernel
theorem dX5_removePerson_40 : decode cX5_removePerson 40 = .ok (.aload_n 0, 1) := by decide +kernel
theorem dX5_removePerson_41 : decode cX5_removePerson 41 = .ok (.getfield 28, 3) := by decide +kernel
theorem dX5_removePerson_44 : decode cX5_removePerson 44 = .ok (.iload_n 2, 1) := by decide +kernel
theorem dX5_removePerson_45 : decode cX5_removePerson 45 = .ok (.aload_n 0, 1) := by decide +kernel
theorem dX5_removePerson_46 : decode cX5_removePerson 46 = .ok (.getfield 28, 3) := by decide +kernel
theorem dX5_removePerson_49 : decode cX5_removePerson 49 = .ok (.iload_n 2, 1) := by decide +kernel
theorem dX5_removePerson_50 : decode cX5_removePerson 50 = .ok (.iconst 1, 1) := by decide +kernel
theorem dX5_removePerson_51 : decode cX5_removePerson 51 = .ok (.iadd, 1) := by decide +kernel
theorem dX5_removePerson_52 : decode cX5_removePerson 52 = .ok (.iaload, 1) := by decide +kernel
theorem dX5_removePerson_53 : decode cX5_removePerson 53 = .ok (.iastore, 1) := by decide +kernel
theorem dX5_removePerson_54 : decode cX5_removePerson 54 = .ok (.aload_n 0, 1) := by decide +kernel
theorem dX5_removePerson_55 : decode cX5_removePerson 55 = .ok (.getfield 31, 3) := by decide +kernel
theorem dX5_removePerson_58 : decode cX5_removePerson 58 = .ok (.iload_n 2, 1) := by decide +kernel
theorem dX5_removePerson_59 : decode cX5_removePerson 59 = .ok (.aload_n 0, 1) := by decide +kernel
theorem dX5_removePerson_60 : decode cX5_removePerson 60 = .ok (.getfield 31, 3) := by decide +kernel
theorem dX5_removePerson_63 : decode cX5_removePerson 63 = .ok (.iload_n 2, 1) := by decide +kernel
theorem dX5_removePerson_64 : decode cX5_removePerson 64 = .ok (.iconst 1, 1) := by decide +kernel
theorem dX5_removePerson_65 : decode cX5_removePerson 65 = .ok (.iadd, 1) := by decide +kernel
theorem dX5_removePerson_66 : decode cX5_removePerson 66 = .ok (.iaload, 1) := by decide +kernel
theorem dX5_removePerson_67 : decode cX5_removePerson 67 = .ok (.iastore, 1) := by decide +kernel
theorem dX5_removePerson_68 : decode cX5_removePerson 68 = .ok (.aload_n 0, 1) := by decide +kernel
theorem dX5_removePerson_69 : decode cX5_removePerson 69 = .ok (.getfield 34, 3) := by decide +kernel
theorem dX5_removePerson_72 : decode cX5_removePerson 72 = .ok (.iload_n 2, 1) := by decide +kernel
theorem dX5_removePerson_73 : decode cX5_removePerson 73 = .ok (.aload_n 0, 1) := by decide +kernel
theorem dX5_removePerson_74 : decode cX5_removePerson 74 = .ok (.getfield 34, 3) := by decide +kernel
theorem dX5_removePerson_77 : decode cX5_removePerson 77 = .ok (.iload_n 2, 1) := by decide +kernel
theorem dX5_removePerson_78 : decode cX5_removePerson 78 = .ok (.iconst 1, 1) := by decide +kernel
theorem dX5_removePerson_79 : decode cX5_removePerson 79 = .ok (.iadd, 1) := by decide +kernel
theorem dX5_removePerson_80 : decode cX5_removePerson 80 = .ok (.iaload, 1) := by decide +kernel
theorem dX5_removePerson_81 : decode cX5_removePerson 81 = .ok (.iastore, 1) := by decide +kernel
theorem dX5_removePerson_82 : decode cX5_removePerson 82 = .ok (.iinc 2 1, 3) := by decide +kernel
theorem dX5_removePerson_85 : decode cX5_removePerson 85 = .ok (.goto (-83), 3) := by decide +kernel
theorem dX5_removePerson_88 : decode cX5_removePerson 88 = .ok (.aload_n 0, 1) := by decide +kernel
theorem dX5_removePerson_89 : decode cX5_removePerson 89 = .ok (.dup, 1) := by decide +kernel
theorem dX5_removePerson_90 : decode cX5_removePerson 90 = .ok (.getfield 52, 3) := by decide +kernel
theorem dX5_removePerson_93 : decode cX5_removePerson 93 = .ok (.iconst 1, 1) := by decide +kernel
theorem dX5_removePerson_94 : decode cX5_removePerson 94 = .ok (.isub, 1) := by decide +kernel
theorem dX5_removePerson_95 : decode cX5_removePerson 95 = .ok (.putfield 52, 3) := by decide +kernel
theorem dX5_removePerson_98 : decode cX5_removePerson 98 = .ok (.return_, 1) := by decide +kernel
theorem dX5_darkens_0 : decode cX5_darkens 0 = .ok (.aload_n 0, 1) := by decide +kernel
theorem dX5_darkens_1 : decode cX5_darkens 1 = .ok (.getfield 22, 3) := by decide +kernel
theorem dX5_darkens_4 : decode cX5_darkens 4 = .ok (.iload_n 1, 1) := by decide +kernel
theorem dX5_darkens_5 : decode cX5_darkens 5 = .ok (.iaload, 1) := by decide +kernel
theorem dX5_darkens_6 : decode cX5_darkens 6 = .ok (.iconst 3, 1) := by decide +kernel
theorem dX5_darkens_7 : decode cX5_darkens 7 = .ok (.if_icmp .eq 17, 3) := by decide +kernel
theorem dX5_darkens_10 : decode cX5_darkens 10 = .ok (.aload_n 0, 1) := by decide +kernel
theorem dX5_darkens_11 : decode cX5_darkens 11 = .ok (.getfield 22, 3) := by decide +kernel
theorem dX5_darkens_14 : decode cX5_darkens 14 = .ok (.iload_n 1, 1) := by decide +kernel
theorem dX5_darkens_15 : decode cX5_darkens 15 = .ok (.iaload, 1) := by decide +kernel
theorem dX5_darkens_16 : decode cX5_darkens 16 = .ok (.iconst 5, 1) := by decide +kernel
theorem dX5_darkens_17 : decode cX5_darkens 17 = .ok (.if_icmp .eq 7, 3) := by decide +kernel
theorem dX5_darkens_20 : decode cX5_darkens 20 = .ok (.iconst 1, 1) := by decide +kernel
theorem dX5_darkens_21 : decode cX5_darkens 21 = .ok (.goto 4, 3) := by decide +kernel
theorem dX5_darkens_24 : decode cX5_darkens 24 = .ok (.iconst 0, 1) := by decide +kernel
theorem dX5_darkens_25 : decode cX5_darkens 25 = .ok (.ireturn, 1) := by decide +kernel
theorem dX5_peopleIn_0 : decode cX5_peopleIn 0 = .ok (.iconst 0, 1) := by decide +kernel
theorem dX5_peopleIn_1 : decode cX5_peopleIn 1 = .ok (.istore_n 2, 1) := by decide +kernel
theorem dX5_peopleIn_2 : decode cX5_peopleIn 2 = .ok (.iconst 0, 1) := by decide +kernel
theorem dX5_peopleIn_3 : decode cX5_peopleIn 3 = .ok (.istore_n 3, 1) := by decide +kernel
theorem dX5_peopleIn_4 : decode cX5_peopleIn 4 = .ok (.iload_n 3, 1) := by decide +kernel
theorem dX5_peopleIn_5 : decode cX5_peopleIn 5 = .ok (.aload_n 0, 1) := by decide +kernel
theorem dX5_peopleIn_6 : decode cX5_peopleIn 6 = .ok (.getfield 52, 3) := by decide +kernel
theorem dX5_peopleIn_9 : decode cX5_peopleIn 9 = .ok (.if_icmp .ge 25, 3) := by decide +kernel
theorem dX5_peopleIn_12 : decode cX5_peopleIn 12 = .ok (.aload_n 0, 1) := by decide +kernel
theorem dX5_peopleIn_13 : decode cX5_peopleIn 13 = .ok (.getfield 34, 3) := by decide +kernel
theorem dX5_peopleIn_16 : decode cX5_peopleIn 16 = .ok (.iload_n 3, 1) := by decide +kernel
theorem dX5_peopleIn_17 : decode cX5_peopleIn 17 = .ok (.iaload, 1) := by decide +kernel
theorem dX5_peopleIn_18 : decode cX5_peopleIn 18 = .ok (.iload_n 1, 1) := by decide +kernel
theorem dX5_peopleIn_19 : decode cX5_peopleIn 19 = .ok (.if_icmp .ne 9, 3) := by decide +kernel
theorem dX5_peopleIn_22 : decode cX5_peopleIn 22 = .ok (.iload_n 2, 1) := by decide +kernel
theorem dX5_peopleIn_23 : decode cX5_peopleIn 23 = .ok (.iconst 1, 1) := by decide +kernel
theorem dX5_peopleIn_24 : decode cX5_peopleIn 24 = .ok (.iload_n 3, 1) := by decide +kernel
theorem dX5_peopleIn_25 : decode cX5_peopleIn 25 = .ok (.ishl, 1) := by decide +kernel
theorem dX5_peopleIn_26 : decode cX5_peopleIn 26 = .ok (.ior, 1) := by decide +kernel
theorem dX5_peopleIn_27 : decode cX5_peopleIn 27 = .ok (.istore_n 2, 1) := by decide +kernel
theorem dX5_peopleIn_28 : decode cX5_peopleIn 28 = .ok (.iinc 3 1, 3) := by decide +kernel
theorem dX5_peopleIn_31 : decode cX5_peopleIn 31 = .ok (.goto (-27), 3) := by decide +kernel
theorem dX5_peopleIn_34 : decode cX5_peopleIn 34 = .ok (.iload_n 2, 1) := by decide +kernel
theorem dX5_peopleIn_35 : decode cX5_peopleIn 35 = .ok (.ireturn, 1) := by decide +kernel
set_option maxRecDepth 20000 in
theorem ggX5_darkeningIn_X5_darkens : GoodIn wsX5_darkeningIn wsX5_darkens := goodIn_r _ [7, 8, 9, 10, 11, 12, 13, 14, 15, 16, 17, 18, 19, 20] (by decide +kernel) (by decide +kernel)
set_option maxRecDepth 20000 in
theorem gX5_darkeningIn_X5_darkens : GoodIn wsX5_darkeningIn (wsV RX5 79 RX5 yX5_darkens wsX5_darkens) := goodIn_app (goodIn_of _ (by decide +kernel)) ggX5_darkeningIn_X5_darkens
theorem dX5_darkeningIn_0 : decode cX5_darkeningIn 0 = .ok (.iconst 0, 1) := by decide +kernel
theorem dX5_darkeningIn_1 : decode cX5_darkeningIn 1 = .ok (.istore_n 2, 1) := by decide +kernel
theorem dX5_darkeningIn_2 : decode cX5_darkeningIn 2 = .ok (.iconst 0, 1) := by decide +kernel
theorem dX5_darkeningIn_3 : decode cX5_darkeningIn 3 = .ok (.istore_n 3, 1) := by decide +kernel
theorem dX5_darkeningIn_4 : decode cX5_darkeningIn 4 = .ok (.iload_n 3, 1) := by decide +kernel
theorem dX5_darkeningIn_5 : decode cX5_darkeningIn 5 = .ok (.aload_n 0, 1) := by decide +kernel
theorem dX5_darkeningIn_6 : decode cX5_darkeningIn 6 = .ok (.getfield 52, 3) := by decide +kernel
theorem dX5_darkeningIn_9 : decode cX5_darkeningIn 9 = .ok (.if_icmp .ge 30, 3) := by decide +kernel
theorem dX5_darkeningIn_12 : decode cX5_darkeningIn 12 = .ok (.aload_n 0, 1) := by decide +kernel
theorem dX5_darkeningIn_13 : decode cX5_darkeningIn 13 = .ok (.getfield 34, 3) := by decide +kernel
theorem dX5_darkeningIn_16 : decode cX5_darkeningIn 16 = .ok (.iload_n 3, 1) := by decide +kernel
theorem dX5_darkeningIn_17 : decode cX5_darkeningIn 17 = .ok (.iaload, 1) := by decide +kernel
theorem dX5_darkeningIn_18 : decode cX5_darkeningIn 18 = .ok (.iload_n 1, 1) := by decide +kernel
theorem dX5_darkeningIn_19 : decode cX5_darkeningIn 19 = .ok (.if_icmp .ne 14, 3) := by decide +kernel
theorem dX5_darkeningIn_22 : decode cX5_darkeningIn 22 = .ok (.aload_n 0, 1) := by decide +kernel
theorem dX5_darkeningIn_23 : decode cX5_darkeningIn 23 = .ok (.iload_n 3, 1) := by decide +kernel
theorem dX5_darkeningIn_24 : decode cX5_darkeningIn 24 = .ok (.invokevirtual 79, 3) := by decide +kernel
theorem dX5_darkeningIn_27 : decode cX5_darkeningIn 27 = .ok (.ifCond .eq 6, 3) := by decide +kernel
theorem dX5_darkeningIn_30 : decode cX5_darkeningIn 30 = .ok (.iinc 2 1, 3) := by decide +kernel
theorem dX5_darkeningIn_33 : decode cX5_darkeningIn 33 = .ok (.iinc 3 1, 3) := by decide +kernel
theorem dX5_darkeningIn_36 : decode cX5_darkeningIn 36 = .ok (.goto (-32), 3) := by decide +kernel
theorem dX5_darkeningIn_39 : decode cX5_darkeningIn 39 = .ok (.iload_n 2, 1) := by decide +kernel
theorem dX5_darkeningIn_40 : decode cX5_darkeningIn 40 = .ok (.ireturn, 1) := by decide +kernel
set_option maxRecDepth 20000 in
theorem ggX5_darkPlaces_X5_darkens : GoodIn wsX5_darkPlaces wsX5_darkens := goodIn_r _ [7, 8, 9, 10, 11, 12, 13, 14, 15, 16, 17, 18, 19, 20] (by decide +kernel) (by decide +kernel)
set_option maxRecDepth 20000 in
theorem gX5_darkPlaces_X5_darkens : GoodIn wsX5_darkPlaces (wsV RX5 79 RX5 yX5_darkens wsX5_darkens) := goodIn_app (goodIn_of _ (by decide +kernel)) ggX5_darkPlaces_X5_darkens
theorem dX5_darkPlaces_0 : decode cX5_darkPlaces 0 = .ok (.iconst 0, 1) := by decide +kernel
theorem dX5_darkPlaces_1 : decode cX5_darkPlaces 1 = .ok (.istore_n 1, 1) := by decide +kernel
theorem dX5_darkPlaces_2 : decode cX5_darkPlaces 2 = .ok (.iconst 0, 1) := by decide +kernel
theorem dX5_darkPlaces_3 : decode cX5_darkPlaces 3 = .ok (.istore_n 2, 1) := by decide +kernel
theorem dX5_darkPlaces_4 : decode cX5_darkPlaces 4 = .ok (.iload_n 2, 1) := by decide +kernel
theorem dX5_darkPlaces_5 : decode cX5_darkPlaces 5 = .ok (.aload_n 0, 1) := by decide +kernel
theorem dX5_darkPlaces_6 : decode cX5_darkPlaces 6 = .ok (.getfield 52, 3) := by decide +kernel
theorem dX5_darkPlaces_9 : decode cX5_darkPlaces 9 = .ok (.if_icmp .ge 28, 3) := by decide +kernel
theorem dX5_darkPlaces_12 : decode cX5_darkPlaces 12 = .ok (.aload_n 0, 1) := by decide +kernel
theorem dX5_darkPlaces_13 : decode cX5_darkPlaces 13 = .ok (.iload_n 2, 1) := by decide +kernel
theorem dX5_darkPlaces_14 : decode cX5_darkPlaces 14 = .ok (.invokevirtual 79, 3) := by decide +kernel
theorem dX5_darkPlaces_17 : decode cX5_darkPlaces 17 = .ok (.ifCond .eq 14, 3) := by decide +kernel
theorem dX5_darkPlaces_20 : decode cX5_darkPlaces 20 = .ok (.iload_n 1, 1) := by decide +kernel
theorem dX5_darkPlaces_21 : decode cX5_darkPlaces 21 = .ok (.iconst 1, 1) := by decide +kernel
theorem dX5_darkPlaces_22 : decode cX5_darkPlaces 22 = .ok (.aload_n 0, 1) := by decide +kernel
theorem dX5_darkPlaces_23 : decode cX5_darkPlaces 23 = .ok (.getfield 34, 3) := by decide +kernel
theorem dX5_darkPlaces_26 : decode cX5_darkPlaces 26 = .ok (.iload_n 2, 1) := by decide +kernel
theorem dX5_darkPlaces_27 : decode cX5_darkPlaces 27 = .ok (.iaload, 1) := by decide +kernel
theorem dX5_darkPlaces_28 : decode cX5_darkPlaces 28 = .ok (.ishl, 1) := by decide +kernel
theorem dX5_darkPlaces_29 : decode cX5_darkPlaces 29 = .ok (.ior, 1) := by decide +kernel
theorem dX5_darkPlaces_30 : decode cX5_darkPlaces 30 = .ok (.istore_n 1, 1) := by decide +kernel
theorem dX5_darkPlaces_31 : decode cX5_darkPlaces 31 = .ok (.iinc 2 1, 3) := by decide +kernel
theorem dX5_darkPlaces_34 : decode cX5_darkPlaces 34 = .ok (.goto (-30), 3) := by decide +kernel
theorem dX5_darkPlaces_37 : decode cX5_darkPlaces 37 = .ok (.iload_n 1, 1) := by decide +kernel
theorem dX5_darkPlaces_38 : decode cX5_darkPlaces 38 = .ok (.ireturn, 1) := by decide +kernel
set_option maxRecDepth 20000 in
theorem ggX5_shiningPlaces_X5_darkPlaces : GoodIn wsX5_shiningPlaces wsX5_darkPlaces := goodIn_r _ [6, 7, 8, 9, 10, 11, 5, 12, 13, 14, 15, 16, 17, 18, 19, 20, 21, 22, 23, 24, 25] (by decide +kernel) (by decide +kernel)
set_option maxRecDepth 20000 in
theorem gX5_shiningPlaces_X5_darkPlaces : GoodIn wsX5_shiningPlaces (wsV RX5 83 RX5 yX5_darkPlaces wsX5_darkPlaces) := goodIn_app (goodIn_of _ (by decide +kernel)) ggX5_shiningPlaces_X5_darkPlaces
theorem dX5_shiningPlaces_0 : decode cX5_shiningPlaces 0 = .ok (.iconst 1, 1) := by decide +kernel
theorem dX5_shiningPlaces_1 : decode cX5_shiningPlaces 1 = .ok (.aload_n 0, 1) := by decide +kernel
theorem dX5_shiningPlaces_2 : decode cX5_shiningPlaces 2 = .ok (.getfield 9, 3) := by decide +kernel
theorem dX5_shiningPlaces_5 : decode cX5_shiningPlaces 5 = .ok (.ishl, 1) := by decide +kernel
theorem dX5_shiningPlaces_6 : decode cX5_shiningPlaces 6 = .ok (.iconst 1, 1) := by decide +kernel
theorem dX5_shiningPlaces_7 : decode cX5_shiningPlaces 7 = .ok (.isub, 1) := by decide +kernel
theorem dX5_shiningPlaces_8 : decode cX5_shiningPlaces 8 = .ok (.aload_n 0, 1) := by decide +kernel
theorem dX5_shiningPlaces_9 : decode cX5_shiningPlaces 9 = .ok (.invokevirtual 83, 3) := by decide +kernel
theorem dX5_shiningPlaces_12 : decode cX5_shiningPlaces 12 = .ok (.iconst (-1), 1) := by decide +kernel
theorem dX5_shiningPlaces_13 : decode cX5_shiningPlaces 13 = .ok (.ixor, 1) := by decide +kernel
theorem dX5_shiningPlaces_14 : decode cX5_shiningPlaces 14 = .ok (.iand, 1) := by decide +kernel
theorem dX5_shiningPlaces_15 : decode cX5_shiningPlaces 15 = .ok (.ireturn, 1) := by decide +kernel
set_option maxRecDepth 20000 in
theorem ggX5_shiningCount_X5_shiningPlaces : GoodIn wsX5_shiningCount wsX5_shiningPlaces := goodIn_r _ [5, 6, 7, 8, 9, 4, 10, 11, 12, 13, 14, 15, 16, 17, 25, 26, 27, 28, 29, 30, 31, 32, 33, 34, 35, 36] (by decide +kernel) (by decide +kernel)
set_option maxRecDepth 20000 in
theorem gX5_shiningCount_X5_shiningPlaces : GoodIn wsX5_shiningCount (wsV RX5 87 RX5 yX5_shiningPlaces wsX5_shiningPlaces) := goodIn_app (goodIn_of _ (by decide +kernel)) ggX5_shiningCount_X5_shiningPlaces
set_option maxRecDepth 20000 in
theorem ggX5_shiningCount_J6_bitCount_0f7a4 : GoodIn wsX5_shiningCount wsJ6_bitCount_0f7a4 := goodIn_r _ [21, 22, 23, 24] (by decide +kernel) (by decide +kernel)
set_option maxRecDepth 20000 in
theorem gX5_shiningCount_J6_bitCount_0f7a4 : GoodIn wsX5_shiningCount (va_wsS RX5 58 yJ6_bitCount_0f7a4 wsJ6_bitCount_0f7a4) := goodIn_app (goodIn_of _ (by decide +kernel)) ggX5_shiningCount_J6_bitCount_0f7a4
theorem dX5_shiningCount_0 : decode cX5_shiningCount 0 = .ok (.aload_n 0, 1) := by decide +kernel
theorem dX5_shiningCount_1 : decode cX5_shiningCount 1 = .ok (.invokevirtual 87, 3) := by decide +kernel
theorem dX5_shiningCount_4 : decode cX5_shiningCount 4 = .ok (.invokestatic 58, 3) := by decide +kernel
theorem dX5_shiningCount_7 : decode cX5_shiningCount 7 = .ok (.ireturn, 1) := by decide +kernel
set_option maxRecDepth 20000 in
theorem ggX5_isJoined_X5_darkens : GoodIn wsX5_isJoined wsX5_darkens := goodIn_r _ [7, 8, 9, 10, 11, 12, 13, 14, 15, 16, 17, 18, 19, 20] (by decide +kernel) (by decide +kernel)
set_option maxRecDepth 20000 in
theorem gX5_isJoined_X5_darkens : GoodIn wsX5_isJoined (wsV RX5 79 RX5 yX5_darkens wsX5_darkens) := goodIn_app (goodIn_of _ (by decide +kernel)) ggX5_isJoined_X5_darkens
theorem dX5_isJoined_0 : decode cX5_isJoined 0 = .ok (.iconst 0, 1) := by decide +kernel
theorem dX5_isJoined_1 : decode cX5_isJoined 1 = .ok (.istore_n 2, 1) := by decide +kernel
theorem dX5_isJoined_2 : decode cX5_isJoined 2 = .ok (.iload_n 2, 1) := by decide +kernel
theorem dX5_isJoined_3 : decode cX5_isJoined 3 = .ok (.aload_n 0, 1) := by decide +kernel
theorem dX5_isJoined_4 : decode cX5_isJoined 4 = .ok (.getfield 52, 3) := by decide +kernel
theorem dX5_isJoined_7 : decode cX5_isJoined 7 = .ok (.if_icmp .ge 39, 3) := by decide +kernel
theorem dX5_isJoined_10 : decode cX5_isJoined 10 = .ok (.iload_n 2, 1) := by decide +kernel
theorem dX5_isJoined_11 : decode cX5_isJoined 11 = .ok (.iload_n 1, 1) := by decide +kernel
theorem dX5_isJoined_12 : decode cX5_isJoined 12 = .ok (.if_icmp .eq 28, 3) := by decide +kernel
theorem dX5_isJoined_15 : decode cX5_isJoined 15 = .ok (.aload_n 0, 1) := by decide +kernel
theorem dX5_isJoined_16 : decode cX5_isJoined 16 = .ok (.getfield 34, 3) := by decide +kernel
theorem dX5_isJoined_19 : decode cX5_isJoined 19 = .ok (.iload_n 2, 1) := by decide +kernel
theorem dX5_isJoined_20 : decode cX5_isJoined 20 = .ok (.iaload, 1) := by decide +kernel
theorem dX5_isJoined_21 : decode cX5_isJoined 21 = .ok (.aload_n 0, 1) := by decide +kernel
theorem dX5_isJoined_22 : decode cX5_isJoined 22 = .ok (.getfield 34, 3) := by decide +kernel
theorem dX5_isJoined_25 : decode cX5_isJoined 25 = .ok (.iload_n 1, 1) := by decide +kernel
theorem dX5_isJoined_26 : decode cX5_isJoined 26 = .ok (.iaload, 1) := by decide +kernel
theorem dX5_isJoined_27 : decode cX5_isJoined 27 = .ok (.if_icmp .ne 13, 3) := by decide +kernel
theorem dX5_isJoined_30 : decode cX5_isJoined 30 = .ok (.aload_n 0, 1) := by decide +kernel
theorem dX5_isJoined_31 : decode cX5_isJoined 31 = .ok (.iload_n 2, 1) := by decide +kernel
theorem dX5_isJoined_32 : decode cX5_isJoined 32 = .ok (.invokevirtual 79, 3) := by decide +kernel
theorem dX5_isJoined_35 : decode cX5_isJoined 35 = .ok (.ifCond .eq 5, 3) := by decide +kernel
theorem dX5_isJoined_38 : decode cX5_isJoined 38 = .ok (.iconst 1, 1) := by decide +kernel
theorem dX5_isJoined_39 : decode cX5_isJoined 39 = .ok (.ireturn, 1) := by decide +kernel
theorem dX5_isJoined_40 : decode cX5_isJoined 40 = .ok (.iinc 2 1, 3) := by decide +kernel
theorem dX5_isJoined_43 : decode cX5_isJoined 43 = .ok (.goto (-41), 3) := by decide +kernel
theorem dX5_isJoined_46 : decode cX5_isJoined 46 = .ok (.iconst 0, 1) := by decide +kernel
theorem dX5_isJoined_47 : decode cX5_isJoined 47 = .ok (.ireturn, 1) := by decide +kernel
set_option maxRecDepth 20000 in
theorem ggX5_tellersFor_X5_darkPlaces : GoodIn wsX5_tellersFor wsX5_darkPlaces := goodIn_r _ [7, 2, 1, 8, 9, 10, 6, 11, 12, 16, 17, 18, 19, 20, 21, 22, 23, 24, 25, 26, 27] (by decide +kernel) (by decide +kernel)
set_option maxRecDepth 20000 in
theorem gX5_tellersFor_X5_darkPlaces : GoodIn wsX5_tellersFor (wsV RX5 83 RX5 yX5_darkPlaces wsX5_darkPlaces) := goodIn_app (goodIn_of _ (by decide +kernel)) ggX5_tellersFor_X5_darkPlaces
set_option maxRecDepth 20000 in
theorem ggX5_tellersFor_X7_hasBit : GoodIn wsX5_tellersFor wsX7_hasBit := goodIn_r _ [15] (by decide +kernel) (by decide +kernel)
set_option maxRecDepth 20000 in
theorem gX5_tellersFor_X7_hasBit_n68 : GoodIn wsX5_tellersFor (wsX7_hasBit) := ggX5_tellersFor_X7_hasBit
theorem dX5_tellersFor_0 : decode cX5_tellersFor 0 = .ok (.aload_n 0, 1) := by decide +kernel
theorem dX5_tellersFor_1 : decode cX5_tellersFor 1 = .ok (.invokevirtual 83, 3) := by decide +kernel
theorem dX5_tellersFor_4 : decode cX5_tellersFor 4 = .ok (.iconst 1, 1) := by decide +kernel
theorem dX5_tellersFor_5 : decode cX5_tellersFor 5 = .ok (.aload_n 0, 1) := by decide +kernel
theorem dX5_tellersFor_6 : decode cX5_tellersFor 6 = .ok (.getfield 34, 3) := by decide +kernel
theorem dX5_tellersFor_9 : decode cX5_tellersFor 9 = .ok (.iload_n 1, 1) := by decide +kernel
theorem dX5_tellersFor_10 : decode cX5_tellersFor 10 = .ok (.iaload, 1) := by decide +kernel
theorem dX5_tellersFor_11 : decode cX5_tellersFor 11 = .ok (.ishl, 1) := by decide +kernel
theorem dX5_tellersFor_12 : decode cX5_tellersFor 12 = .ok (.iconst (-1), 1) := by decide +kernel
theorem dX5_tellersFor_13 : decode cX5_tellersFor 13 = .ok (.ixor, 1) := by decide +kernel
theorem dX5_tellersFor_14 : decode cX5_tellersFor 14 = .ok (.iand, 1) := by decide +kernel
theorem dX5_tellersFor_15 : decode cX5_tellersFor 15 = .ok (.istore_n 2, 1) := by decide +kernel
theorem dX5_tellersFor_16 : decode cX5_tellersFor 16 = .ok (.iconst 0, 1) := by decide +kernel
theorem dX5_tellersFor_17 : decode cX5_tellersFor 17 = .ok (.istore_n 3, 1) := by decide +kernel
theorem dX5_tellersFor_18 : decode cX5_tellersFor 18 = .ok (.iconst 0, 1) := by decide +kernel
theorem dX5_tellersFor_19 : decode cX5_tellersFor 19 = .ok (.istore 4, 2) := by decide +kernel
theorem dX5_tellersFor_21 : decode cX5_tellersFor 21 = .ok (.iload 4, 2) := by decide +kernel
theorem dX5_tellersFor_23 : decode cX5_tellersFor 23 = .ok (.aload_n 0, 1) := by decide +kernel
theorem dX5_tellersFor_24 : decode cX5_tellersFor 24 = .ok (.getfield 52, 3) := by decide +kernel
theorem dX5_tellersFor_27 : decode cX5_tellersFor 27 = .ok (.if_icmp .ge 44, 3) := by decide +kernel
theorem dX5_tellersFor_30 : decode cX5_tellersFor 30 = .ok (.iload_n 2, 1) := by decide +kernel
theorem dX5_tellersFor_31 : decode cX5_tellersFor 31 = .ok (.aload_n 0, 1) := by decide +kernel
theorem dX5_tellersFor_32 : decode cX5_tellersFor 32 = .ok (.getfield 34, 3) := by decide +kernel
theorem dX5_tellersFor_35 : decode cX5_tellersFor 35 = .ok (.iload 4, 2) := by decide +kernel
theorem dX5_tellersFor_37 : decode cX5_tellersFor 37 = .ok (.iaload, 1) := by decide +kernel
theorem dX5_tellersFor_38 : decode cX5_tellersFor 38 = .ok (.invokestatic 68, 3) := by decide +kernel
theorem dX5_tellersFor_41 : decode cX5_tellersFor 41 = .ok (.ifCond .eq 24, 3) := by decide +kernel
theorem dX5_tellersFor_44 : decode cX5_tellersFor 44 = .ok (.iload_n 3, 1) := by decide +kernel
theorem dX5_tellersFor_45 : decode cX5_tellersFor 45 = .ok (.iconst 1, 1) := by decide +kernel
theorem dX5_tellersFor_46 : decode cX5_tellersFor 46 = .ok (.iload 4, 2) := by decide +kernel
theorem dX5_tellersFor_48 : decode cX5_tellersFor 48 = .ok (.ishl, 1) := by decide +kernel
theorem dX5_tellersFor_49 : decode cX5_tellersFor 49 = .ok (.ior, 1) := by decide +kernel
theorem dX5_tellersFor_50 : decode cX5_tellersFor 50 = .ok (.istore_n 3, 1) := by decide +kernel
theorem dX5_tellersFor_51 : decode cX5_tellersFor 51 = .ok (.iload_n 2, 1) := by decide +kernel
theorem dX5_tellersFor_52 : decode cX5_tellersFor 52 = .ok (.iconst 1, 1) := by decide +kernel
theorem dX5_tellersFor_53 : decode cX5_tellersFor 53 = .ok (.aload_n 0, 1) := by decide +kernel
theorem dX5_tellersFor_54 : decode cX5_tellersFor 54 = .ok (.getfield 34, 3) := by decide +kernel
theorem dX5_tellersFor_57 : decode cX5_tellersFor 57 = .ok (.iload 4, 2) := by decide +kernel
theorem dX5_tellersFor_59 : decode cX5_tellersFor 59 = .ok (.iaload, 1) := by decide +kernel
theorem dX5_tellersFor_60 : decode cX5_tellersFor 60 = .ok (.ishl, 1) := by decide +kernel
theorem dX5_tellersFor_61 : decode cX5_tellersFor 61 = .ok (.iconst (-1), 1) := by decide +kernel
theorem dX5_tellersFor_62 : decode cX5_tellersFor 62 = .ok (.ixor, 1) := by decide +kernel
theorem dX5_tellersFor_63 : decode cX5_tellersFor 63 = .ok (.iand, 1) := by decide +kernel
theorem dX5_tellersFor_64 : decode cX5_tellersFor 64 = .ok (.istore_n 2, 1) := by decide +kernel
theorem dX5_tellersFor_65 : decode cX5_tellersFor 65 = .ok (.iinc 4 1, 3) := by decide +kernel
theorem dX5_tellersFor_68 : decode cX5_tellersFor 68 = .ok (.goto (-47), 3) := by decide +kernel
theorem dX5_tellersFor_71 : decode cX5_tellersFor 71 = .ok (.iload_n 3, 1) := by decide +kernel
theorem dX5_tellersFor_72 : decode cX5_tellersFor 72 = .ok (.ireturn, 1) := by decide +kernel
set_option maxRecDepth 20000 in
theorem ggX5_passHours_X5_passHour : GoodIn wsX5_passHours wsX5_passHour := goodIn_r _ [5, 6, 7, 8, 9, 10, 4, 11, 12, 13, 14, 15, 16, 17, 18, 19, 20, 21, 22, 23, 24, 25, 26, 27, 28, 29, 30, 31, 32, 33, 34, 35, 36, 37, 38, 39, 40, 41, 42, 43, 44, 45, 46, 47, 48, 49, 50, 51, 52, 53, 54, 55, 56, 57, 58, 59, 60, 61, 62, 63, 64, 65, 66, 67, 68, 69] (by decide +kernel) (by decide +kernel)
set_option maxRecDepth 20000 in
theorem gX5_passHours_X5_passHour : GoodIn wsX5_passHours (wsV RX5 90 RX5 yX5_passHour wsX5_passHour) := goodIn_app (goodIn_of _ (by decide +kernel)) ggX5_passHours_X5_passHour
theorem dX5_passHours_0 : decode cX5_passHours 0 = .ok (.iconst 0, 1) := by decide +kernel
theorem dX5_passHours_1 : decode cX5_passHours 1 = .ok (.istore_n 2, 1) := by decide +kernel
theorem dX5_passHours_2 : decode cX5_passHours 2 = .ok (.iload_n 2, 1) := by decide +kernel
theorem dX5_passHours_3 : decode cX5_passHours 3 = .ok (.iload_n 1, 1) := by decide +kernel
theorem dX5_passHours_4 : decode cX5_passHours 4 = .ok (.if_icmp .ge 14, 3) := by decide +kernel
theorem dX5_passHours_7 : decode cX5_passHours 7 = .ok (.aload_n 0, 1) := by decide +kernel
theorem dX5_passHours_8 : decode cX5_passHours 8 = .ok (.invokevirtual 90, 3) := by decide +kernel
theorem dX5_passHours_11 : decode cX5_passHours 11 = .ok (.pop, 1) := by decide +kernel
theorem dX5_passHours_12 : decode cX5_passHours 12 = .ok (.iinc 2 1, 3) := by decide +kernel
theorem dX5_passHours_15 : decode cX5_passHours 15 = .ok (.goto (-13), 3) := by decide +kernel
theorem dX5_passHours_18 : decode cX5_passHours 18 = .ok (.return_, 1) := by decide +kernel
set_option maxRecDepth 20000 in
theorem ggX5_passHour_X5_darkPlaces : GoodIn wsX5_passHour wsX5_darkPlaces := goodIn_r _ [7, 1, 2, 8, 9, 10, 6, 11, 12, 54, 55, 56, 57, 58, 59, 60, 61, 62, 63, 64, 65] (by decide +kernel) (by decide +kernel)
set_option maxRecDepth 20000 in
theorem gX5_passHour_X5_darkPlaces : GoodIn wsX5_passHour (wsV RX5 83 RX5 yX5_darkPlaces wsX5_darkPlaces) := goodIn_app (goodIn_of _ (by decide +kernel)) ggX5_passHour_X5_darkPlaces
set_option maxRecDepth 20000 in
theorem ggX5_passHour_X5_goesTo : GoodIn wsX5_passHour wsX5_goesTo := goodIn_r _ [16, 2, 12, 17, 18, 19, 20, 21, 6, 22, 23, 24, 25, 26, 27, 28, 29, 30, 31, 32, 33, 34, 35, 36, 37, 38, 39, 40, 41, 42, 43, 44, 45, 54, 55, 56, 57, 58, 59, 60, 61, 62, 63, 64, 65] (by decide +kernel) (by decide +kernel)
set_option maxRecDepth 20000 in
theorem gX5_passHour_X5_goesTo : GoodIn wsX5_passHour (wsV RX5 94 RX5 yX5_goesTo wsX5_goesTo) := goodIn_app (goodIn_of _ (by decide +kernel)) ggX5_passHour_X5_goesTo
set_option maxRecDepth 20000 in
theorem ggX5_passHour_X5_endHour : GoodIn wsX5_passHour wsX5_endHour := goodIn_r _ [49, 23, 50, 51, 52, 53, 54, 55, 56, 57, 58, 59, 60, 61, 62, 63, 64, 65] (by decide +kernel) (by decide +kernel)
set_option maxRecDepth 20000 in
theorem gX5_passHour_X5_endHour : GoodIn wsX5_passHour (wsV RX5 97 RX5 yX5_endHour wsX5_endHour) := goodIn_app (goodIn_of _ (by decide +kernel)) ggX5_passHour_X5_endHour
theorem dX5_passHour_0 : decode cX5_passHour 0 = .ok (.aload_n 0, 1) := by decide +kernel
theorem dX5_passHour_1 : decode cX5_passHour 1 = .ok (.invokevirtual 83, 3) := by decide +kernel
theorem dX5_passHour_4 : decode cX5_passHour 4 = .ok (.istore_n 1, 1) := by decide +kernel
theorem dX5_passHour_5 : decode cX5_passHour 5 = .ok (.iconst 0, 1) := by decide +kernel
theorem dX5_passHour_6 : decode cX5_passHour 6 = .ok (.istore_n 2, 1) := by decide +kernel
theorem dX5_passHour_7 : decode cX5_passHour 7 = .ok (.iconst 0, 1) := by decide +kernel
theorem dX5_passHour_8 : decode cX5_passHour 8 = .ok (.istore_n 3, 1) := by decide +kernel
theorem dX5_passHour_9 : decode cX5_passHour 9 = .ok (.iload_n 3, 1) := by decide +kernel
theorem dX5_passHour_10 : decode cX5_passHour 10 = .ok (.aload_n 0, 1) := by decide +kernel
theorem dX5_passHour_11 : decode cX5_passHour 11 = .ok (.getfield 52, 3) := by decide +kernel
theorem dX5_passHour_14 : decode cX5_passHour 14 = .ok (.if_icmp .ge 48, 3) := by decide +kernel
theorem dX5_passHour_17 : decode cX5_passHour 17 = .ok (.aload_n 0, 1) := by decide +kernel
theorem dX5_passHour_18 : decode cX5_passHour 18 = .ok (.getfield 34, 3) := by decide +kernel
theorem dX5_passHour_21 : decode cX5_passHour 21 = .ok (.iload_n 3, 1) := by decide +kernel
theorem dX5_passHour_22 : decode cX5_passHour 22 = .ok (.iaload, 1) := by decide +kernel
theorem dX5_passHour_23 : decode cX5_passHour 23 = .ok (.istore 4, 2) := by decide +kernel
theorem dX5_passHour_25 : decode cX5_passHour 25 = .ok (.aload_n 0, 1) := by decide +kernel
theorem dX5_passHour_26 : decode cX5_passHour 26 = .ok (.getfield 34, 3) := by decide +kernel
theorem dX5_passHour_29 : decode cX5_passHour 29 = .ok (.iload_n 3, 1) := by decide +kernel
theorem dX5_passHour_30 : decode cX5_passHour 30 = .ok (.aload_n 0, 1) := by decide +kernel
theorem dX5_passHour_31 : decode cX5_passHour 31 = .ok (.iload_n 3, 1) := by decide +kernel
theorem dX5_passHour_32 : decode cX5_passHour 32 = .ok (.iload_n 1, 1) := by decide +kernel
theorem dX5_passHour_33 : decode cX5_passHour 33 = .ok (.invokevirtual 94, 3) := by decide +kernel
theorem dX5_passHour_36 : decode cX5_passHour 36 = .ok (.iastore, 1) := by decide +kernel
theorem dX5_passHour_37 : decode cX5_passHour 37 = .ok (.iload_n 2, 1) := by decide +kernel
theorem dX5_passHour_38 : decode cX5_passHour 38 = .ok (.aload_n 0, 1) := by decide +kernel
theorem dX5_passHour_39 : decode cX5_passHour 39 = .ok (.getfield 34, 3) := by decide +kernel
theorem dX5_passHour_42 : decode cX5_passHour 42 = .ok (.iload_n 3, 1) := by decide +kernel
theorem dX5_passHour_43 : decode cX5_passHour 43 = .ok (.iaload, 1) := by decide +kernel
theorem dX5_passHour_44 : decode cX5_passHour 44 = .ok (.iload 4, 2) := by decide +kernel
theorem dX5_passHour_46 : decode cX5_passHour 46 = .ok (.if_icmp .eq 7, 3) := by decide +kernel
theorem dX5_passHour_49 : decode cX5_passHour 49 = .ok (.iconst 1, 1) := by decide +kernel
theorem dX5_passHour_50 : decode cX5_passHour 50 = .ok (.goto 4, 3) := by decide +kernel
theorem dX5_passHour_53 : decode cX5_passHour 53 = .ok (.iconst 0, 1) := by decide +kernel
theorem dX5_passHour_54 : decode cX5_passHour 54 = .ok (.ior, 1) := by decide +kernel
theorem dX5_passHour_55 : decode cX5_passHour 55 = .ok (.istore_n 2, 1) := by decide +kernel
theorem dX5_passHour_56 : decode cX5_passHour 56 = .ok (.iinc 3 1, 3) := by decide +kernel
theorem dX5_passHour_59 : decode cX5_passHour 59 = .ok (.goto (-50), 3) := by decide +kernel
theorem dX5_passHour_62 : decode cX5_passHour 62 = .ok (.aload_n 0, 1) := by decide +kernel
theorem dX5_passHour_63 : decode cX5_passHour 63 = .ok (.invokevirtual 97, 3) := by decide +kernel
theorem dX5_passHour_66 : decode cX5_passHour 66 = .ok (.iload_n 2, 1) := by decide +kernel
theorem dX5_passHour_67 : decode cX5_passHour 67 = .ok (.ireturn, 1) := by decide +kernel
set_option maxRecDepth 20000 in
theorem ggX5_goesTo_X5_isDay : GoodIn wsX5_goesTo wsX5_isDay := goodIn_r _ [9, 10, 33, 34, 35, 36, 37, 38, 39, 40, 41, 42, 43, 44] (by decide +kernel) (by decide +kernel)
set_option maxRecDepth 20000 in
theorem gX5_goesTo_X5_isDay : GoodIn wsX5_goesTo (wsV RX5 100 RX5 yX5_isDay wsX5_isDay) := goodIn_app (goodIn_of _ (by decide +kernel)) ggX5_goesTo_X5_isDay
set_option maxRecDepth 20000 in
theorem ggX5_goesTo_X5_stepToward : GoodIn wsX5_goesTo wsX5_stepToward := goodIn_r _ [14, 15, 16, 17, 18, 8, 19, 20, 21, 22, 23, 24, 25, 33, 34, 35, 36, 37, 38, 39, 40, 41, 42, 43, 44] (by decide +kernel) (by decide +kernel)
set_option maxRecDepth 20000 in
theorem gX5_goesTo_X5_stepToward : GoodIn wsX5_goesTo (wsV RX5 103 RX5 yX5_stepToward wsX5_stepToward) := goodIn_app (goodIn_of _ (by decide +kernel)) ggX5_goesTo_X5_stepToward
set_option maxRecDepth 20000 in
theorem ggX5_goesTo_X5_walkRound : GoodIn wsX5_goesTo wsX5_walkRound := goodIn_r _ [29, 15, 21, 22, 23, 8, 24, 25, 33, 34, 35, 36, 37, 38, 39, 40, 41, 42, 43, 44] (by decide +kernel) (by decide +kernel)
set_option maxRecDepth 20000 in
theorem gX5_goesTo_X5_walkRound : GoodIn wsX5_goesTo (wsV RX5 106 RX5 yX5_walkRound wsX5_walkRound) := goodIn_app (goodIn_of _ (by decide +kernel)) ggX5_goesTo_X5_walkRound
set_option maxRecDepth 20000 in
theorem ggX5_goesTo_X7_hasBit : GoodIn wsX5_goesTo wsX7_hasBit := goodIn_r _ [32] (by decide +kernel) (by decide +kernel)
set_option maxRecDepth 20000 in
theorem gX5_goesTo_X7_hasBit_n68 : GoodIn wsX5_goesTo (wsX7_hasBit) := ggX5_goesTo_X7_hasBit
theorem dX5_goesTo_0 : decode cX5_goesTo 0 = .ok (.aload_n 0, 1) := by decide +kernel
theorem dX5_goesTo_1 : decode cX5_goesTo 1 = .ok (.getfield 34, 3) := by decide +kernel
theorem dX5_goesTo_4 : decode cX5_goesTo 4 = .ok (.iload_n 1, 1) := by decide +kernel
theorem dX5_goesTo_5 : decode cX5_goesTo 5 = .ok (.iaload, 1) := by decide +kernel
theorem dX5_goesTo_6 : decode cX5_goesTo 6 = .ok (.istore_n 3, 1) := by decide +kernel
theorem dX5_goesTo_7 : decode cX5_goesTo 7 = .ok (.aload_n 0, 1) := by decide +kernel
theorem dX5_goesTo_8 : decode cX5_goesTo 8 = .ok (.getfield 22, 3) := by decide +kernel
theorem dX5_goesTo_11 : decode cX5_goesTo 11 = .ok (.iload_n 1, 1) := by decide +kernel
theorem dX5_goesTo_12 : decode cX5_goesTo 12 = .ok (.iaload, 1) := by decide +kernel
theorem dX5_goesTo_13 : decode cX5_goesTo 13 = .ok (.tableswitch 95 0 5 #[39, 95, 67, 95, 73, 39], 39) := by decide +kernel
theorem dX5_goesTo_52 : decode cX5_goesTo 52 = .ok (.aload_n 0, 1) := by decide +kernel
theorem dX5_goesTo_53 : decode cX5_goesTo 53 = .ok (.iload_n 3, 1) := by decide +kernel
theorem dX5_goesTo_54 : decode cX5_goesTo 54 = .ok (.aload_n 0, 1) := by decide +kernel
theorem dX5_goesTo_55 : decode cX5_goesTo 55 = .ok (.invokevirtual 100, 3) := by decide +kernel
theorem dX5_goesTo_58 : decode cX5_goesTo 58 = .ok (.ifCond .eq 12, 3) := by decide +kernel
theorem dX5_goesTo_61 : decode cX5_goesTo 61 = .ok (.aload_n 0, 1) := by decide +kernel
theorem dX5_goesTo_62 : decode cX5_goesTo 62 = .ok (.getfield 31, 3) := by decide +kernel
theorem dX5_goesTo_65 : decode cX5_goesTo 65 = .ok (.iload_n 1, 1) := by decide +kernel
theorem dX5_goesTo_66 : decode cX5_goesTo 66 = .ok (.iaload, 1) := by decide +kernel
theorem dX5_goesTo_67 : decode cX5_goesTo 67 = .ok (.goto 9, 3) := by decide +kernel
theorem dX5_goesTo_70 : decode cX5_goesTo 70 = .ok (.aload_n 0, 1) := by decide +kernel
theorem dX5_goesTo_71 : decode cX5_goesTo 71 = .ok (.getfield 28, 3) := by decide +kernel
theorem dX5_goesTo_74 : decode cX5_goesTo 74 = .ok (.iload_n 1, 1) := by decide +kernel
theorem dX5_goesTo_75 : decode cX5_goesTo 75 = .ok (.iaload, 1) := by decide +kernel
theorem dX5_goesTo_76 : decode cX5_goesTo 76 = .ok (.invokevirtual 103, 3) := by decide +kernel
theorem dX5_goesTo_79 : decode cX5_goesTo 79 = .ok (.ireturn, 1) := by decide +kernel
theorem dX5_goesTo_80 : decode cX5_goesTo 80 = .ok (.aload_n 0, 1) := by decide +kernel
theorem dX5_goesTo_81 : decode cX5_goesTo 81 = .ok (.iload_n 3, 1) := by decide +kernel
theorem dX5_goesTo_82 : decode cX5_goesTo 82 = .ok (.invokevirtual 106, 3) := by decide +kernel
theorem dX5_goesTo_85 : decode cX5_goesTo 85 = .ok (.ireturn, 1) := by decide +kernel
theorem dX5_goesTo_86 : decode cX5_goesTo 86 = .ok (.iload_n 2, 1) := by decide +kernel
theorem dX5_goesTo_87 : decode cX5_goesTo 87 = .ok (.aload_n 0, 1) := by decide +kernel
theorem dX5_goesTo_88 : decode cX5_goesTo 88 = .ok (.iload_n 3, 1) := by decide +kernel
theorem dX5_goesTo_89 : decode cX5_goesTo 89 = .ok (.invokevirtual 106, 3) := by decide +kernel
theorem dX5_goesTo_92 : decode cX5_goesTo 92 = .ok (.invokestatic 68, 3) := by decide +kernel
theorem dX5_goesTo_95 : decode cX5_goesTo 95 = .ok (.ifCond .eq 11, 3) := by decide +kernel
theorem dX5_goesTo_98 : decode cX5_goesTo 98 = .ok (.aload_n 0, 1) := by decide +kernel
theorem dX5_goesTo_99 : decode cX5_goesTo 99 = .ok (.iload_n 3, 1) := by decide +kernel
theorem dX5_goesTo_100 : decode cX5_goesTo 100 = .ok (.invokevirtual 106, 3) := by decide +kernel
theorem dX5_goesTo_103 : decode cX5_goesTo 103 = .ok (.goto 4, 3) := by decide +kernel
theorem dX5_goesTo_106 : decode cX5_goesTo 106 = .ok (.iload_n 3, 1) := by decide +kernel
theorem dX5_goesTo_107 : decode cX5_goesTo 107 = .ok (.ireturn, 1) := by decide +kernel
theorem dX5_goesTo_108 : decode cX5_goesTo 108 = .ok (.iload_n 3, 1) := by decide +kernel
theorem dX5_goesTo_109 : decode cX5_goesTo 109 = .ok (.ireturn, 1) := by decide +kernel
theorem dX5_isDay_0 : decode cX5_isDay 0 = .ok (.aload_n 0, 1) := by decide +kernel
theorem dX5_isDay_1 : decode cX5_isDay 1 = .ok (.getfield 55, 3) := by decide +kernel
theorem dX5_isDay_4 : decode cX5_isDay 4 = .ok (.bipush 24, 2) := by decide +kernel
theorem dX5_isDay_6 : decode cX5_isDay 6 = .ok (.irem, 1) := by decide +kernel
theorem dX5_isDay_7 : decode cX5_isDay 7 = .ok (.istore_n 1, 1) := by decide +kernel
theorem dX5_isDay_8 : decode cX5_isDay 8 = .ok (.iload_n 1, 1) := by decide +kernel
theorem dX5_isDay_9 : decode cX5_isDay 9 = .ok (.bipush 8, 2) := by decide +kernel
theorem dX5_isDay_11 : decode cX5_isDay 11 = .ok (.if_icmp .lt 13, 3) := by decide +kernel
theorem dX5_isDay_14 : decode cX5_isDay 14 = .ok (.iload_n 1, 1) := by decide +kernel
theorem dX5_isDay_15 : decode cX5_isDay 15 = .ok (.bipush 19, 2) := by decide +kernel
theorem dX5_isDay_17 : decode cX5_isDay 17 = .ok (.if_icmp .gt 7, 3) := by decide +kernel
theorem dX5_isDay_20 : decode cX5_isDay 20 = .ok (.iconst 1, 1) := by decide +kernel
theorem dX5_isDay_21 : decode cX5_isDay 21 = .ok (.goto 4, 3) := by decide +kernel
theorem dX5_isDay_24 : decode cX5_isDay 24 = .ok (.iconst 0, 1) := by decide +kernel
theorem dX5_isDay_25 : decode cX5_isDay 25 = .ok (.ireturn, 1) := by decide +kernel
set_option maxRecDepth 20000 in
theorem ggX5_stepToward_X5_distance : GoodIn wsX5_stepToward wsX5_distance := goodIn_r _ [6, 7, 13, 14, 15, 16, 17, 18, 19, 20, 21, 22, 23, 24] (by decide +kernel) (by decide +kernel)
set_option maxRecDepth 20000 in
theorem gX5_stepToward_X5_distance : GoodIn wsX5_stepToward (wsV RX5 75 RX5 yX5_distance wsX5_distance) := goodIn_app (goodIn_of _ (by decide +kernel)) ggX5_stepToward_X5_distance
set_option maxRecDepth 20000 in
theorem ggX5_stepToward_X5_hasWay : GoodIn wsX5_stepToward wsX5_hasWay := goodIn_r _ [11, 12, 13, 14, 15, 16, 17, 18, 19, 20, 21, 22, 23, 24] (by decide +kernel) (by decide +kernel)
set_option maxRecDepth 20000 in
theorem gX5_stepToward_X5_hasWay : GoodIn wsX5_stepToward (wsV RX5 109 RX5 yX5_hasWay wsX5_hasWay) := goodIn_app (goodIn_of _ (by decide +kernel)) ggX5_stepToward_X5_hasWay
theorem dX5_stepToward_0 : decode cX5_stepToward 0 = .ok (.aload_n 0, 1) := by decide +kernel
theorem dX5_stepToward_1 : decode cX5_stepToward 1 = .ok (.iload_n 1, 1) := by decide +kernel
theorem dX5_stepToward_2 : decode cX5_stepToward 2 = .ok (.iload_n 2, 1) := by decide +kernel
theorem dX5_stepToward_3 : decode cX5_stepToward 3 = .ok (.invokevirtual 75, 3) := by decide +kernel
theorem dX5_stepToward_6 : decode cX5_stepToward 6 = .ok (.iconst 1, 1) := by decide +kernel
theorem dX5_stepToward_7 : decode cX5_stepToward 7 = .ok (.isub, 1) := by decide +kernel
theorem dX5_stepToward_8 : decode cX5_stepToward 8 = .ok (.istore_n 3, 1) := by decide +kernel
theorem dX5_stepToward_9 : decode cX5_stepToward 9 = .ok (.iload_n 3, 1) := by decide +kernel
theorem dX5_stepToward_10 : decode cX5_stepToward 10 = .ok (.ifCond .ge 5, 3) := by decide +kernel
theorem dX5_stepToward_13 : decode cX5_stepToward 13 = .ok (.iload_n 1, 1) := by decide +kernel
theorem dX5_stepToward_14 : decode cX5_stepToward 14 = .ok (.ireturn, 1) := by decide +kernel
theorem dX5_stepToward_15 : decode cX5_stepToward 15 = .ok (.iconst 0, 1) := by decide +kernel
theorem dX5_stepToward_16 : decode cX5_stepToward 16 = .ok (.istore 4, 2) := by decide +kernel
theorem dX5_stepToward_18 : decode cX5_stepToward 18 = .ok (.iload 4, 2) := by decide +kernel
theorem dX5_stepToward_20 : decode cX5_stepToward 20 = .ok (.aload_n 0, 1) := by decide +kernel
theorem dX5_stepToward_21 : decode cX5_stepToward 21 = .ok (.getfield 9, 3) := by decide +kernel
theorem dX5_stepToward_24 : decode cX5_stepToward 24 = .ok (.if_icmp .ge 33, 3) := by decide +kernel
theorem dX5_stepToward_27 : decode cX5_stepToward 27 = .ok (.aload_n 0, 1) := by decide +kernel
theorem dX5_stepToward_28 : decode cX5_stepToward 28 = .ok (.iload_n 1, 1) := by decide +kernel
theorem dX5_stepToward_29 : decode cX5_stepToward 29 = .ok (.iload 4, 2) := by decide +kernel
theorem dX5_stepToward_31 : decode cX5_stepToward 31 = .ok (.invokevirtual 109, 3) := by decide +kernel
theorem dX5_stepToward_34 : decode cX5_stepToward 34 = .ok (.ifCond .eq 17, 3) := by decide +kernel
theorem dX5_stepToward_37 : decode cX5_stepToward 37 = .ok (.aload_n 0, 1) := by decide +kernel
theorem dX5_stepToward_38 : decode cX5_stepToward 38 = .ok (.iload 4, 2) := by decide +kernel
theorem dX5_stepToward_40 : decode cX5_stepToward 40 = .ok (.iload_n 2, 1) := by decide +kernel
theorem dX5_stepToward_41 : decode cX5_stepToward 41 = .ok (.invokevirtual 75, 3) := by decide +kernel
theorem dX5_stepToward_44 : decode cX5_stepToward 44 = .ok (.iload_n 3, 1) := by decide +kernel
theorem dX5_stepToward_45 : decode cX5_stepToward 45 = .ok (.if_icmp .ne 6, 3) := by decide +kernel
theorem dX5_stepToward_48 : decode cX5_stepToward 48 = .ok (.iload 4, 2) := by decide +kernel
theorem dX5_stepToward_50 : decode cX5_stepToward 50 = .ok (.ireturn, 1) := by decide +kernel
theorem dX5_stepToward_51 : decode cX5_stepToward 51 = .ok (.iinc 4 1, 3) := by decide +kernel
theorem dX5_stepToward_54 : decode cX5_stepToward 54 = .ok (.goto (-36), 3) := by decide +kernel
theorem dX5_stepToward_57 : decode cX5_stepToward 57 = .ok (.iload_n 1, 1) := by decide +kernel
theorem dX5_stepToward_58 : decode cX5_stepToward 58 = .ok (.ireturn, 1) := by decide +kernel
set_option maxRecDepth 20000 in
theorem ggX5_walkRound_X5_hasWay : GoodIn wsX5_walkRound wsX5_hasWay := goodIn_r _ [6, 7, 8, 9, 10, 11, 12, 13, 14, 15, 16, 17, 18, 19] (by decide +kernel) (by decide +kernel)
set_option maxRecDepth 20000 in
theorem gX5_walkRound_X5_hasWay : GoodIn wsX5_walkRound (wsV RX5 109 RX5 yX5_hasWay wsX5_hasWay) := goodIn_app (goodIn_of _ (by decide +kernel)) ggX5_walkRound_X5_hasWay
theorem dX5_walkRound_0 : decode cX5_walkRound 0 = .ok (.iload_n 1, 1) := by decide +kernel
theorem dX5_walkRound_1 : decode cX5_walkRound 1 = .ok (.iconst 1, 1) := by decide +kernel
theorem dX5_walkRound_2 : decode cX5_walkRound 2 = .ok (.iadd, 1) := by decide +kernel
theorem dX5_walkRound_3 : decode cX5_walkRound 3 = .ok (.istore_n 2, 1) := by decide +kernel
theorem dX5_walkRound_4 : decode cX5_walkRound 4 = .ok (.iload_n 2, 1) := by decide +kernel
theorem dX5_walkRound_5 : decode cX5_walkRound 5 = .ok (.aload_n 0, 1) := by decide +kernel
theorem dX5_walkRound_6 : decode cX5_walkRound 6 = .ok (.getfield 9, 3) := by decide +kernel
theorem dX5_walkRound_9 : decode cX5_walkRound 9 = .ok (.if_icmp .ge 20, 3) := by decide +kernel
theorem dX5_walkRound_12 : decode cX5_walkRound 12 = .ok (.aload_n 0, 1) := by decide +kernel
theorem dX5_walkRound_13 : decode cX5_walkRound 13 = .ok (.iload_n 1, 1) := by decide +kernel
theorem dX5_walkRound_14 : decode cX5_walkRound 14 = .ok (.iload_n 2, 1) := by decide +kernel
theorem dX5_walkRound_15 : decode cX5_walkRound 15 = .ok (.invokevirtual 109, 3) := by decide +kernel
theorem dX5_walkRound_18 : decode cX5_walkRound 18 = .ok (.ifCond .eq 5, 3) := by decide +kernel
theorem dX5_walkRound_21 : decode cX5_walkRound 21 = .ok (.iload_n 2, 1) := by decide +kernel
theorem dX5_walkRound_22 : decode cX5_walkRound 22 = .ok (.ireturn, 1) := by decide +kernel
theorem dX5_walkRound_23 : decode cX5_walkRound 23 = .ok (.iinc 2 1, 3) := by decide +kernel
theorem dX5_walkRound_26 : decode cX5_walkRound 26 = .ok (.goto (-22), 3) := by decide +kernel
theorem dX5_walkRound_29 : decode cX5_walkRound 29 = .ok (.iconst 0, 1) := by decide +kernel
theorem dX5_walkRound_30 : decode cX5_walkRound 30 = .ok (.istore_n 2, 1) := by decide +kernel
theorem dX5_walkRound_31 : decode cX5_walkRound 31 = .ok (.iload_n 2, 1) := by decide +kernel
theorem dX5_walkRound_32 : decode cX5_walkRound 32 = .ok (.iload_n 1, 1) := by decide +kernel
theorem dX5_walkRound_33 : decode cX5_walkRound 33 = .ok (.if_icmp .ge 20, 3) := by decide +kernel
theorem dX5_walkRound_36 : decode cX5_walkRound 36 = .ok (.aload_n 0, 1) := by decide +kernel
theorem dX5_walkRound_37 : decode cX5_walkRound 37 = .ok (.iload_n 1, 1) := by decide +kernel
theorem dX5_walkRound_38 : decode cX5_walkRound 38 = .ok (.iload_n 2, 1) := by decide +kernel
theorem dX5_walkRound_39 : decode cX5_walkRound 39 = .ok (.invokevirtual 109, 3) := by decide +kernel
theorem dX5_walkRound_42 : decode cX5_walkRound 42 = .ok (.ifCond .eq 5, 3) := by decide +kernel
theorem dX5_walkRound_45 : decode cX5_walkRound 45 = .ok (.iload_n 2, 1) := by decide +kernel
theorem dX5_walkRound_46 : decode cX5_walkRound 46 = .ok (.ireturn, 1) := by decide +kernel
theorem dX5_walkRound_47 : decode cX5_walkRound 47 = .ok (.iinc 2 1, 3) := by decide +kernel
theorem dX5_walkRound_50 : decode cX5_walkRound 50 = .ok (.goto (-19), 3) := by decide +kernel
theorem dX5_walkRound_53 : decode cX5_walkRound 53 = .ok (.iload_n 1, 1) := by decide +kernel
theorem dX5_walkRound_54 : decode cX5_walkRound 54 = .ok (.ireturn, 1) := by decide +kernel
theorem dX5_endHour_0 : decode cX5_endHour 0 = .ok (.aload_n 0, 1) := by decide +kernel
theorem dX5_endHour_1 : decode cX5_endHour 1 = .ok (.aload_n 0, 1) := by decide +kernel
theorem dX5_endHour_2 : decode cX5_endHour 2 = .ok (.getfield 55, 3) := by decide +kernel
theorem dX5_endHour_5 : decode cX5_endHour 5 = .ok (.iconst 1, 1) := by decide +kernel
theorem dX5_endHour_6 : decode cX5_endHour 6 = .ok (.iadd, 1) := by decide +kernel
theorem dX5_endHour_7 : decode cX5_endHour 7 = .ok (.sipush 9999, 3) := by decide +kernel
theorem dX5_endHour_10 : decode cX5_endHour 10 = .ok (.invokestatic 112, 3) := by decide +kernel
theorem dX5_endHour_13 : decode cX5_endHour 13 = .ok (.putfield 55, 3) := by decide +kernel
theorem dX5_endHour_16 : decode cX5_endHour 16 = .ok (.return_, 1) := by decide +kernel
set_option maxRecDepth 20000 in
theorem ggX5_passDrawnHour_X5_drawPlace : GoodIn wsX5_passDrawnHour wsX5_drawPlace := goodIn_r _ [7, 8, 9, 10, 11, 12, 13, 14, 15, 16, 17, 18, 19, 20, 21, 6, 22, 23, 24, 25, 26, 27, 28, 38, 39, 40, 41, 42, 43, 44, 45, 46, 47, 48, 49] (by decide +kernel) (by decide +kernel)
set_option maxRecDepth 20000 in
theorem gX5_passDrawnHour_X5_drawPlace : GoodIn wsX5_passDrawnHour (wsV RX5 117 RX5 yX5_drawPlace wsX5_drawPlace) := goodIn_app (goodIn_of _ (by decide +kernel)) ggX5_passDrawnHour_X5_drawPlace
set_option maxRecDepth 20000 in
theorem ggX5_passDrawnHour_X5_endHour : GoodIn wsX5_passDrawnHour wsX5_endHour := goodIn_r _ [32, 33, 34, 35, 36, 37, 38, 39, 40, 41, 42, 43, 44, 45, 46, 47, 48, 49] (by decide +kernel) (by decide +kernel)
set_option maxRecDepth 20000 in
theorem gX5_passDrawnHour_X5_endHour : GoodIn wsX5_passDrawnHour (wsV RX5 97 RX5 yX5_endHour wsX5_endHour) := goodIn_app (goodIn_of _ (by decide +kernel)) ggX5_passDrawnHour_X5_endHour
theorem dX5_passDrawnHour_0 : decode cX5_passDrawnHour 0 = .ok (.iconst 0, 1) := by decide +kernel
theorem dX5_passDrawnHour_1 : decode cX5_passDrawnHour 1 = .ok (.istore_n 1, 1) := by decide +kernel
theorem dX5_passDrawnHour_2 : decode cX5_passDrawnHour 2 = .ok (.iload_n 1, 1) := by decide +kernel
theorem dX5_passDrawnHour_3 : decode cX5_passDrawnHour 3 = .ok (.aload_n 0, 1) := by decide +kernel
theorem dX5_passDrawnHour_4 : decode cX5_passDrawnHour 4 = .ok (.getfield 52, 3) := by decide +kernel
theorem dX5_passDrawnHour_7 : decode cX5_passDrawnHour 7 = .ok (.if_icmp .ge 34, 3) := by decide +kernel
theorem dX5_passDrawnHour_10 : decode cX5_passDrawnHour 10 = .ok (.aload_n 0, 1) := by decide +kernel
theorem dX5_passDrawnHour_11 : decode cX5_passDrawnHour 11 = .ok (.getfield 22, 3) := by decide +kernel
theorem dX5_passDrawnHour_14 : decode cX5_passDrawnHour 14 = .ok (.iload_n 1, 1) := by decide +kernel
theorem dX5_passDrawnHour_15 : decode cX5_passDrawnHour 15 = .ok (.iaload, 1) := by decide +kernel
theorem dX5_passDrawnHour_16 : decode cX5_passDrawnHour 16 = .ok (.iconst 1, 1) := by decide +kernel
theorem dX5_passDrawnHour_17 : decode cX5_passDrawnHour 17 = .ok (.if_icmp .eq 18, 3) := by decide +kernel
theorem dX5_passDrawnHour_20 : decode cX5_passDrawnHour 20 = .ok (.aload_n 0, 1) := by decide +kernel
theorem dX5_passDrawnHour_21 : decode cX5_passDrawnHour 21 = .ok (.getfield 22, 3) := by decide +kernel
theorem dX5_passDrawnHour_24 : decode cX5_passDrawnHour 24 = .ok (.iload_n 1, 1) := by decide +kernel
theorem dX5_passDrawnHour_25 : decode cX5_passDrawnHour 25 = .ok (.iaload, 1) := by decide +kernel
theorem dX5_passDrawnHour_26 : decode cX5_passDrawnHour 26 = .ok (.iconst 3, 1) := by decide +kernel
theorem dX5_passDrawnHour_27 : decode cX5_passDrawnHour 27 = .ok (.if_icmp .eq 8, 3) := by decide +kernel
theorem dX5_passDrawnHour_30 : decode cX5_passDrawnHour 30 = .ok (.aload_n 0, 1) := by decide +kernel
theorem dX5_passDrawnHour_31 : decode cX5_passDrawnHour 31 = .ok (.iload_n 1, 1) := by decide +kernel
theorem dX5_passDrawnHour_32 : decode cX5_passDrawnHour 32 = .ok (.invokevirtual 117, 3) := by decide +kernel
theorem dX5_passDrawnHour_35 : decode cX5_passDrawnHour 35 = .ok (.iinc 1 1, 3) := by decide +kernel
theorem dX5_passDrawnHour_38 : decode cX5_passDrawnHour 38 = .ok (.goto (-36), 3) := by decide +kernel
theorem dX5_passDrawnHour_41 : decode cX5_passDrawnHour 41 = .ok (.aload_n 0, 1) := by decide +kernel
theorem dX5_passDrawnHour_42 : decode cX5_passDrawnHour 42 = .ok (.invokevirtual 97, 3) := by decide +kernel
theorem dX5_passDrawnHour_45 : decode cX5_passDrawnHour 45 = .ok (.return_, 1) := by decide +kernel
set_option maxRecDepth 20000 in
theorem ggX5_drawPlace_J6_bitCount_0f7a4 : GoodIn wsX5_drawPlace wsJ6_bitCount_0f7a4 := goodIn_r _ [8, 9, 10, 11] (by decide +kernel) (by decide +kernel)
set_option maxRecDepth 20000 in
theorem gX5_drawPlace_J6_bitCount_0f7a4 : GoodIn wsX5_drawPlace (va_wsS RX5 58 yJ6_bitCount_0f7a4 wsJ6_bitCount_0f7a4) := goodIn_app (goodIn_of _ (by decide +kernel)) ggX5_drawPlace_J6_bitCount_0f7a4
set_option maxRecDepth 20000 in
theorem ggX5_drawPlace_X5_draw : GoodIn wsX5_drawPlace wsX5_draw := goodIn_r _ [16, 17, 18, 23, 24, 25, 26, 27, 28, 29, 30, 31, 32, 33, 34] (by decide +kernel) (by decide +kernel)
set_option maxRecDepth 20000 in
theorem gX5_drawPlace_X5_draw : GoodIn wsX5_drawPlace (wsV RX5 120 RX5 yX5_draw wsX5_draw) := goodIn_app (goodIn_of _ (by decide +kernel)) ggX5_drawPlace_X5_draw
set_option maxRecDepth 20000 in
theorem ggX5_drawPlace_X5_hasWay : GoodIn wsX5_drawPlace wsX5_hasWay := goodIn_r _ [22, 2, 23, 24, 25, 26, 27, 28, 29, 30, 31, 32, 33, 34] (by decide +kernel) (by decide +kernel)
set_option maxRecDepth 20000 in
theorem gX5_drawPlace_X5_hasWay : GoodIn wsX5_drawPlace (wsV RX5 109 RX5 yX5_hasWay wsX5_hasWay) := goodIn_app (goodIn_of _ (by decide +kernel)) ggX5_drawPlace_X5_hasWay
theorem dX5_drawPlace_0 : decode cX5_drawPlace 0 = .ok (.aload_n 0, 1) := by decide +kernel
theorem dX5_drawPlace_1 : decode cX5_drawPlace 1 = .ok (.getfield 34, 3) := by decide +kernel
theorem dX5_drawPlace_4 : decode cX5_drawPlace 4 = .ok (.iload_n 1, 1) := by decide +kernel
theorem dX5_drawPlace_5 : decode cX5_drawPlace 5 = .ok (.iaload, 1) := by decide +kernel
theorem dX5_drawPlace_6 : decode cX5_drawPlace 6 = .ok (.istore_n 2, 1) := by decide +kernel
theorem dX5_drawPlace_7 : decode cX5_drawPlace 7 = .ok (.aload_n 0, 1) := by decide +kernel
theorem dX5_drawPlace_8 : decode cX5_drawPlace 8 = .ok (.getfield 15, 3) := by decide +kernel
theorem dX5_drawPlace_11 : decode cX5_drawPlace 11 = .ok (.iload_n 2, 1) := by decide +kernel
theorem dX5_drawPlace_12 : decode cX5_drawPlace 12 = .ok (.iaload, 1) := by decide +kernel
theorem dX5_drawPlace_13 : decode cX5_drawPlace 13 = .ok (.invokestatic 58, 3) := by decide +kernel
theorem dX5_drawPlace_16 : decode cX5_drawPlace 16 = .ok (.istore_n 3, 1) := by decide +kernel
theorem dX5_drawPlace_17 : decode cX5_drawPlace 17 = .ok (.aload_n 0, 1) := by decide +kernel
theorem dX5_drawPlace_18 : decode cX5_drawPlace 18 = .ok (.bipush 12, 2) := by decide +kernel
theorem dX5_drawPlace_20 : decode cX5_drawPlace 20 = .ok (.invokevirtual 120, 3) := by decide +kernel
theorem dX5_drawPlace_23 : decode cX5_drawPlace 23 = .ok (.aload_n 0, 1) := by decide +kernel
theorem dX5_drawPlace_24 : decode cX5_drawPlace 24 = .ok (.getfield 37, 3) := by decide +kernel
theorem dX5_drawPlace_27 : decode cX5_drawPlace 27 = .ok (.if_icmp .ge 7, 3) := by decide +kernel
theorem dX5_drawPlace_30 : decode cX5_drawPlace 30 = .ok (.iload_n 3, 1) := by decide +kernel
theorem dX5_drawPlace_31 : decode cX5_drawPlace 31 = .ok (.ifCond .ne 4, 3) := by decide +kernel
theorem dX5_drawPlace_34 : decode cX5_drawPlace 34 = .ok (.return_, 1) := by decide +kernel
theorem dX5_drawPlace_35 : decode cX5_drawPlace 35 = .ok (.aload_n 0, 1) := by decide +kernel
theorem dX5_drawPlace_36 : decode cX5_drawPlace 36 = .ok (.iload_n 3, 1) := by decide +kernel
theorem dX5_drawPlace_37 : decode cX5_drawPlace 37 = .ok (.invokevirtual 120, 3) := by decide +kernel
theorem dX5_drawPlace_40 : decode cX5_drawPlace 40 = .ok (.istore 4, 2) := by decide +kernel
theorem dX5_drawPlace_42 : decode cX5_drawPlace 42 = .ok (.iconst 0, 1) := by decide +kernel
theorem dX5_drawPlace_43 : decode cX5_drawPlace 43 = .ok (.istore 5, 2) := by decide +kernel
theorem dX5_drawPlace_45 : decode cX5_drawPlace 45 = .ok (.iload 5, 2) := by decide +kernel
theorem dX5_drawPlace_47 : decode cX5_drawPlace 47 = .ok (.aload_n 0, 1) := by decide +kernel
theorem dX5_drawPlace_48 : decode cX5_drawPlace 48 = .ok (.getfield 9, 3) := by decide +kernel
theorem dX5_drawPlace_51 : decode cX5_drawPlace 51 = .ok (.if_icmp .ge 36, 3) := by decide +kernel
theorem dX5_drawPlace_54 : decode cX5_drawPlace 54 = .ok (.aload_n 0, 1) := by decide +kernel
theorem dX5_drawPlace_55 : decode cX5_drawPlace 55 = .ok (.iload_n 2, 1) := by decide +kernel
theorem dX5_drawPlace_56 : decode cX5_drawPlace 56 = .ok (.iload 5, 2) := by decide +kernel
theorem dX5_drawPlace_58 : decode cX5_drawPlace 58 = .ok (.invokevirtual 109, 3) := by decide +kernel
theorem dX5_drawPlace_61 : decode cX5_drawPlace 61 = .ok (.ifCond .eq 20, 3) := by decide +kernel
theorem dX5_drawPlace_64 : decode cX5_drawPlace 64 = .ok (.iload 4, 2) := by decide +kernel
theorem dX5_drawPlace_66 : decode cX5_drawPlace 66 = .ok (.ifCond .ne 12, 3) := by decide +kernel
theorem dX5_drawPlace_69 : decode cX5_drawPlace 69 = .ok (.aload_n 0, 1) := by decide +kernel
theorem dX5_drawPlace_70 : decode cX5_drawPlace 70 = .ok (.getfield 34, 3) := by decide +kernel
theorem dX5_drawPlace_73 : decode cX5_drawPlace 73 = .ok (.iload_n 1, 1) := by decide +kernel
theorem dX5_drawPlace_74 : decode cX5_drawPlace 74 = .ok (.iload 5, 2) := by decide +kernel
theorem dX5_drawPlace_76 : decode cX5_drawPlace 76 = .ok (.iastore, 1) := by decide +kernel
theorem dX5_drawPlace_77 : decode cX5_drawPlace 77 = .ok (.return_, 1) := by decide +kernel
theorem dX5_drawPlace_78 : decode cX5_drawPlace 78 = .ok (.iinc 4 (-1), 3) := by decide +kernel
theorem dX5_drawPlace_81 : decode cX5_drawPlace 81 = .ok (.iinc 5 1, 3) := by decide +kernel
theorem dX5_drawPlace_84 : decode cX5_drawPlace 84 = .ok (.goto (-39), 3) := by decide +kernel
theorem dX5_drawPlace_87 : decode cX5_drawPlace 87 = .ok (.return_, 1) := by decide +kernel
theorem dX5_draw_0 : decode cX5_draw 0 = .ok (.aload_n 0, 1) := by decide +kernel
theorem dX5_draw_1 : decode cX5_draw 1 = .ok (.aload_n 0, 1) := by decide +kernel
theorem dX5_draw_2 : decode cX5_draw 2 = .ok (.getfield 40, 3) := by decide +kernel
theorem dX5_draw_5 : decode cX5_draw 5 = .ok (.ldc 123, 2) := by decide +kernel
theorem dX5_draw_7 : decode cX5_draw 7 = .ok (.imul, 1) := by decide +kernel
theorem dX5_draw_8 : decode cX5_draw 8 = .ok (.sipush 12345, 3) := by decide +kernel
theorem dX5_draw_11 : decode cX5_draw 11 = .ok (.iadd, 1) := by decide +kernel
theorem dX5_draw_12 : decode cX5_draw 12 = .ok (.putfield 40, 3) := by decide +kernel
theorem dX5_draw_15 : decode cX5_draw 15 = .ok (.iload_n 1, 1) := by decide +kernel
theorem dX5_draw_16 : decode cX5_draw 16 = .ok (.iconst 1, 1) := by decide +kernel
theorem dX5_draw_17 : decode cX5_draw 17 = .ok (.if_icmp .ge 7, 3) := by decide +kernel
theorem dX5_draw_20 : decode cX5_draw 20 = .ok (.iconst 0, 1) := by decide +kernel
theorem dX5_draw_21 : decode cX5_draw 21 = .ok (.goto 12, 3) := by decide +kernel
theorem dX5_draw_24 : decode cX5_draw 24 = .ok (.aload_n 0, 1) := by decide +kernel
theorem dX5_draw_25 : decode cX5_draw 25 = .ok (.getfield 40, 3) := by decide +kernel
theorem dX5_draw_28 : decode cX5_draw 28 = .ok (.bipush 16, 2) := by decide +kernel
theorem dX5_draw_30 : decode cX5_draw 30 = .ok (.iushr, 1) := by decide +kernel
theorem dX5_draw_31 : decode cX5_draw 31 = .ok (.iload_n 1, 1) := by decide +kernel
theorem dX5_draw_32 : decode cX5_draw 32 = .ok (.irem, 1) := by decide +kernel
theorem dX5_draw_33 : decode cX5_draw 33 = .ok (.ireturn, 1) := by decide +kernel
set_option maxRecDepth 20000 in
theorem ggX6_init_X4_init : GoodIn wsX6_init wsX4_init := goodIn_r _ [10, 11, 2, 3, 12, 13, 14, 15] (by decide +kernel) (by decide +kernel)
set_option maxRecDepth 20000 in
theorem gX6_init_X4_init_n11 : GoodIn wsX6_init (wsX4_init) := ggX6_init_X4_init
theorem dX6_init_0 : decode cX6_init 0 = .ok (.aload_n 0, 1) := by decide +kernel
theorem dX6_init_1 : decode cX6_init 1 = .ok (.invokespecial 3, 3) := by decide +kernel
theorem dX6_init_4 : decode cX6_init 4 = .ok (.aload_n 0, 1) := by decide +kernel
theorem dX6_init_5 : decode cX6_init 5 = .ok (.new 9, 3) := by decide +kernel
theorem dX6_init_8 : decode cX6_init 8 = .ok (.dup, 1) := by decide +kernel
theorem dX6_init_9 : decode cX6_init 9 = .ok (.invokespecial 11, 3) := by decide +kernel
theorem dX6_init_12 : decode cX6_init 12 = .ok (.putfield 12, 3) := by decide +kernel
theorem dX6_init_15 : decode cX6_init 15 = .ok (.aload_n 0, 1) := by decide +kernel
theorem dX6_init_16 : decode cX6_init 16 = .ok (.iconst (-1), 1) := by decide +kernel
theorem dX6_init_17 : decode cX6_init 17 = .ok (.putfield 18, 3) := by decide +kernel
theorem dX6_init_20 : decode cX6_init 20 = .ok (.return_, 1) := by decide +kernel
set_option maxRecDepth 20000 in
theorem ggX6_readTown_X6_readStatement : GoodIn wsX6_readTown wsX6_readStatement := goodIn_r _ [9, 10, 4, 2, 11, 12, 13, 8, 14, 1, 3, 15, 16, 17, 18, 19, 20, 21, 22, 23, 24, 25, 26, 27, 28, 29, 30, 31, 32, 33, 34, 35, 36, 37, 38, 39, 40, 41, 42, 43, 44, 45, 46, 47, 48, 49, 50, 51, 52, 53, 54, 55, 56, 57, 58, 59, 60, 61, 62, 63, 64, 65, 66, 67, 68, 69, 70, 71, 72, 73, 74, 75, 76, 77, 78, 79, 80, 81, 82, 83, 84, 85, 86, 87, 88, 89, 90, 91, 92, 93, 94, 95, 96, 97, 98, 99, 100, 101, 102, 103, 104, 105, 106, 107, 108, 109, 110, 111, 112, 113, 114, 115, 116, 117, 118, 119, 120, 121, 122, 123, 124, 125, 126, 127, 128, 129, 130, 131, 132, 133, 134, 135, 136, 137, 138, 139, 140, 141, 148, 149, 150, 151, 152, 153, 154, 155, 156, 157, 158, 159, 142, 143, 144, 145, 146, 147, 160, 161] (by decide +kernel) (by decide +kernel)
set_option maxRecDepth 20000 in
theorem gX6_readTown_X6_readStatement : GoodIn wsX6_readTown (wsV RX6 25 RX6 yX6_readStatement wsX6_readStatement) := goodIn_app (goodIn_of _ (by decide +kernel)) ggX6_readTown_X6_readStatement
set_option maxRecDepth 20000 in
theorem ggX6_readTown_X6_takeToken : GoodIn wsX6_readTown wsX6_takeToken := goodIn_r _ [14, 1, 4, 3, 15, 16, 17, 8, 18, 19, 20, 21, 22, 23, 24, 25, 26, 27, 28, 29, 30, 31, 32, 33, 34, 35, 36, 37, 38, 39, 40, 142, 143, 144, 145, 146, 147, 160, 161] (by decide +kernel) (by decide +kernel)
set_option maxRecDepth 20000 in
theorem gX6_readTown_X6_takeToken : GoodIn wsX6_readTown (wsV RX6 29 RX6 yX6_takeToken wsX6_takeToken) := goodIn_app (goodIn_of _ (by decide +kernel)) ggX6_readTown_X6_takeToken
theorem dX6_readTown_0 : decode cX6_readTown 0 = .ok (.aload_n 0, 1) := by decide +kernel
theorem dX6_readTown_1 : decode cX6_readTown 1 = .ok (.iconst 0, 1) := by decide +kernel
theorem dX6_readTown_2 : decode cX6_readTown 2 = .ok (.putfield 22, 3) := by decide +kernel
theorem dX6_readTown_5 : decode cX6_readTown 5 = .ok (.aload_n 0, 1) := by decide +kernel
theorem dX6_readTown_6 : decode cX6_readTown 6 = .ok (.iconst (-1), 1) := by decide +kernel
theorem dX6_readTown_7 : decode cX6_readTown 7 = .ok (.putfield 18, 3) := by decide +kernel
theorem dX6_readTown_10 : decode cX6_readTown 10 = .ok (.iconst 0, 1) := by decide +kernel
theorem dX6_readTown_11 : decode cX6_readTown 11 = .ok (.istore_n 2, 1) := by decide +kernel
theorem dX6_readTown_12 : decode cX6_readTown 12 = .ok (.iconst 0, 1) := by decide +kernel
theorem dX6_readTown_13 : decode cX6_readTown 13 = .ok (.istore_n 3, 1) := by decide +kernel
theorem dX6_readTown_14 : decode cX6_readTown 14 = .ok (.iload_n 3, 1) := by decide +kernel
theorem dX6_readTown_15 : decode cX6_readTown 15 = .ok (.sipush 250, 3) := by decide +kernel
theorem dX6_readTown_18 : decode cX6_readTown 18 = .ok (.if_icmp .gt 58, 3) := by decide +kernel
theorem dX6_readTown_21 : decode cX6_readTown 21 = .ok (.aload_n 0, 1) := by decide +kernel
theorem dX6_readTown_22 : decode cX6_readTown 22 = .ok (.aload_n 1, 1) := by decide +kernel
theorem dX6_readTown_23 : decode cX6_readTown 23 = .ok (.invokevirtual 25, 3) := by decide +kernel
theorem dX6_readTown_26 : decode cX6_readTown 26 = .ok (.aload_n 0, 1) := by decide +kernel
theorem dX6_readTown_27 : decode cX6_readTown 27 = .ok (.getfield 18, 3) := by decide +kernel
theorem dX6_readTown_30 : decode cX6_readTown 30 = .ok (.iconst (-1), 1) := by decide +kernel
theorem dX6_readTown_31 : decode cX6_readTown 31 = .ok (.if_icmp .eq 5, 3) := by decide +kernel
theorem dX6_readTown_34 : decode cX6_readTown 34 = .ok (.iload_n 2, 1) := by decide +kernel
theorem dX6_readTown_35 : decode cX6_readTown 35 = .ok (.ireturn, 1) := by decide +kernel
theorem dX6_readTown_36 : decode cX6_readTown 36 = .ok (.iinc 2 1, 3) := by decide +kernel
theorem dX6_readTown_39 : decode cX6_readTown 39 = .ok (.aload_n 0, 1) := by decide +kernel
theorem dX6_readTown_40 : decode cX6_readTown 40 = .ok (.invokevirtual 29, 3) := by decide +kernel
theorem dX6_readTown_43 : decode cX6_readTown 43 = .ok (.aload_n 0, 1) := by decide +kernel
theorem dX6_readTown_44 : decode cX6_readTown 44 = .ok (.getfield 32, 3) := by decide +kernel
theorem dX6_readTown_47 : decode cX6_readTown 47 = .ok (.ifCond .ne 5, 3) := by decide +kernel
theorem dX6_readTown_50 : decode cX6_readTown 50 = .ok (.iload_n 2, 1) := by decide +kernel
theorem dX6_readTown_51 : decode cX6_readTown 51 = .ok (.ireturn, 1) := by decide +kernel
theorem dX6_readTown_52 : decode cX6_readTown 52 = .ok (.aload_n 0, 1) := by decide +kernel
theorem dX6_readTown_53 : decode cX6_readTown 53 = .ok (.getfield 32, 3) := by decide +kernel
theorem dX6_readTown_56 : decode cX6_readTown 56 = .ok (.iconst 3, 1) := by decide +kernel
theorem dX6_readTown_57 : decode cX6_readTown 57 = .ok (.if_icmp .eq 13, 3) := by decide +kernel
theorem dX6_readTown_60 : decode cX6_readTown 60 = .ok (.aload_n 0, 1) := by decide +kernel
theorem dX6_readTown_61 : decode cX6_readTown 61 = .ok (.aload_n 0, 1) := by decide +kernel
theorem dX6_readTown_62 : decode cX6_readTown 62 = .ok (.getfield 35, 3) := by decide +kernel
theorem dX6_readTown_65 : decode cX6_readTown 65 = .ok (.putfield 18, 3) := by decide +kernel
theorem dX6_readTown_68 : decode cX6_readTown 68 = .ok (.iload_n 2, 1) := by decide +kernel
theorem dX6_readTown_69 : decode cX6_readTown 69 = .ok (.ireturn, 1) := by decide +kernel
theorem dX6_readTown_70 : decode cX6_readTown 70 = .ok (.iinc 3 1, 3) := by decide +kernel
theorem dX6_readTown_73 : decode cX6_readTown 73 = .ok (.goto (-59), 3) := by decide +kernel
theorem dX6_readTown_76 : decode cX6_readTown 76 = .ok (.iload_n 2, 1) := by decide +kernel
theorem dX6_readTown_77 : decode cX6_readTown 77 = .ok (.ireturn, 1) := by decide +kernel
set_option maxRecDepth 20000 in
theorem ggX6_readStatement_X6_takeToken : GoodIn wsX6_readStatement wsX6_takeToken := goodIn_r _ [8, 9, 2, 10, 11, 12, 13, 7, 14, 15, 16, 17, 18, 19, 20, 21, 22, 23, 24, 25, 26, 27, 28, 29, 30, 31, 32, 33, 34, 35, 36, 150, 151, 152, 153, 154, 155, 156, 157] (by decide +kernel) (by decide +kernel)
set_option maxRecDepth 20000 in
theorem gX6_readStatement_X6_takeToken : GoodIn wsX6_readStatement (wsV RX6 29 RX6 yX6_takeToken wsX6_takeToken) := goodIn_app (goodIn_of _ (by decide +kernel)) ggX6_readStatement_X6_takeToken
set_option maxRecDepth 20000 in
theorem ggX6_readStatement_X6_isWord : GoodIn wsX6_readStatement wsX6_isWord := goodIn_r _ [40, 10, 9, 2, 41, 42, 43, 44, 45, 46, 47, 48, 49, 50, 51, 52, 17, 18, 19, 7, 20, 15, 16, 21, 53, 54, 55, 56, 57, 58, 59, 60, 61, 62, 63, 64, 65, 66, 67, 68, 69, 70, 71, 72, 73, 74, 75, 76, 77, 78, 79, 80, 81, 82, 83, 84, 85, 86, 87, 88, 89, 150, 151, 152, 153, 154, 155, 156, 157] (by decide +kernel) (by decide +kernel)
set_option maxRecDepth 20000 in
theorem gX6_readStatement_X6_isWord : GoodIn wsX6_readStatement (wsV RX6 40 RX6 yX6_isWord wsX6_isWord) := goodIn_app (goodIn_of _ (by decide +kernel)) ggX6_readStatement_X6_isWord
set_option maxRecDepth 20000 in
theorem ggX6_readStatement_X6_readPlaces : GoodIn wsX6_readStatement wsX6_readPlaces := goodIn_r _ [93, 94, 3, 95, 96, 97, 7, 98, 10, 36, 2, 4, 5, 6, 8, 9, 11, 12, 13, 14, 15, 16, 17, 18, 19, 20, 21, 22, 23, 24, 25, 26, 27, 28, 29, 30, 31, 32, 33, 34, 35, 138, 139, 140, 141, 142, 143, 144, 145, 146, 147, 148, 149, 150, 151, 152, 153, 154, 155, 156, 157] (by decide +kernel) (by decide +kernel)
set_option maxRecDepth 20000 in
theorem gX6_readStatement_X6_readPlaces : GoodIn wsX6_readStatement (wsV RX6 44 RX6 yX6_readPlaces wsX6_readPlaces) := goodIn_app (goodIn_of _ (by decide +kernel)) ggX6_readStatement_X6_readPlaces
set_option maxRecDepth 20000 in
theorem ggX6_readStatement_X6_readWay : GoodIn wsX6_readStatement wsX6_readWay := goodIn_r _ [102, 94, 3, 2, 95, 96, 97, 7, 98, 10, 36, 4, 5, 6, 8, 9, 11, 12, 13, 14, 15, 16, 17, 18, 19, 20, 21, 22, 23, 24, 25, 26, 27, 28, 29, 30, 31, 32, 33, 34, 35, 103, 104, 105, 106, 107, 108, 138, 139, 140, 141, 142, 143, 144, 145, 146, 147, 148, 149, 150, 151, 152, 153, 154, 155, 156, 157] (by decide +kernel) (by decide +kernel)
set_option maxRecDepth 20000 in
theorem gX6_readStatement_X6_readWay : GoodIn wsX6_readStatement (wsV RX6 49 RX6 yX6_readWay wsX6_readWay) := goodIn_app (goodIn_of _ (by decide +kernel)) ggX6_readStatement_X6_readWay
set_option maxRecDepth 20000 in
theorem ggX6_readStatement_X6_readPerson : GoodIn wsX6_readStatement wsX6_readPerson := goodIn_r _ [112, 94, 3, 95, 96, 97, 7, 98, 10, 36, 2, 4, 5, 6, 8, 9, 11, 12, 13, 14, 15, 16, 17, 18, 19, 20, 21, 22, 23, 24, 25, 26, 27, 28, 29, 30, 31, 32, 33, 34, 35, 113, 114, 115, 106, 116, 117, 118, 119, 120, 121, 122, 138, 139, 140, 141, 142, 143, 144, 145, 146, 147, 148, 149, 150, 151, 152, 153, 154, 155, 156, 157] (by decide +kernel) (by decide +kernel)
set_option maxRecDepth 20000 in
theorem gX6_readStatement_X6_readPerson : GoodIn wsX6_readStatement (wsV RX6 62 RX6 yX6_readPerson wsX6_readPerson) := goodIn_app (goodIn_of _ (by decide +kernel)) ggX6_readStatement_X6_readPerson
set_option maxRecDepth 20000 in
theorem ggX6_readStatement_X6_readAt : GoodIn wsX6_readStatement wsX6_readAt := goodIn_r _ [126, 1, 94, 3, 127, 95, 96, 97, 7, 98, 10, 36, 2, 4, 5, 6, 8, 9, 11, 12, 13, 14, 15, 16, 17, 18, 19, 20, 21, 22, 23, 24, 25, 26, 27, 28, 29, 30, 31, 32, 33, 34, 35, 138, 139, 140, 141, 142, 143, 144, 145, 146, 147, 148, 149, 150, 151, 152, 153, 154, 155, 156, 157] (by decide +kernel) (by decide +kernel)
set_option maxRecDepth 20000 in
theorem gX6_readStatement_X6_readAt : GoodIn wsX6_readStatement (wsV RX6 67 RX6 yX6_readAt wsX6_readAt) := goodIn_app (goodIn_of _ (by decide +kernel)) ggX6_readStatement_X6_readAt
set_option maxRecDepth 20000 in
theorem ggX6_readStatement_X6_readHour : GoodIn wsX6_readStatement wsX6_readHour := goodIn_r _ [131, 3, 132, 95, 96, 97, 7, 98, 10, 36, 2, 4, 5, 6, 8, 9, 11, 12, 13, 14, 15, 16, 17, 18, 19, 20, 21, 22, 23, 24, 25, 26, 27, 28, 29, 30, 31, 32, 33, 34, 35, 150, 151, 152, 153, 154, 155, 138, 139, 140, 141, 142, 143, 144, 145, 146, 147, 148, 149, 156, 157] (by decide +kernel) (by decide +kernel)
set_option maxRecDepth 20000 in
theorem gX6_readStatement_X6_readHour : GoodIn wsX6_readStatement (wsV RX6 72 RX6 yX6_readHour wsX6_readHour) := goodIn_app (goodIn_of _ (by decide +kernel)) ggX6_readStatement_X6_readHour
set_option maxRecDepth 20000 in
theorem ggX6_readStatement_X6_readChance : GoodIn wsX6_readStatement wsX6_readChance := goodIn_r _ [136, 3, 137, 95, 96, 97, 7, 98, 10, 36, 2, 4, 5, 6, 8, 9, 11, 12, 13, 14, 15, 16, 17, 18, 19, 20, 21, 22, 23, 24, 25, 26, 27, 28, 29, 30, 31, 32, 33, 34, 35, 150, 151, 152, 153, 154, 155, 138, 139, 140, 141, 142, 143, 144, 145, 146, 147, 148, 149, 156, 157] (by decide +kernel) (by decide +kernel)
set_option maxRecDepth 20000 in
theorem gX6_readStatement_X6_readChance : GoodIn wsX6_readStatement (wsV RX6 77 RX6 yX6_readChance wsX6_readChance) := goodIn_app (goodIn_of _ (by decide +kernel)) ggX6_readStatement_X6_readChance
theorem dX6_readStatement_0 : decode cX6_readStatement 0 = .ok (.aload_n 0, 1) := by decide +kernel
theorem dX6_readStatement_1 : decode cX6_readStatement 1 = .ok (.invokevirtual 29, 3) := by decide +kernel
theorem dX6_readStatement_4 : decode cX6_readStatement 4 = .ok (.aload_n 0, 1) := by decide +kernel
theorem dX6_readStatement_5 : decode cX6_readStatement 5 = .ok (.ldc 38, 2) := by decide +kernel
theorem dX6_readStatement_7 : decode cX6_readStatement 7 = .ok (.invokevirtual 40, 3) := by decide +kernel
theorem dX6_readStatement_10 : decode cX6_readStatement 10 = .ok (.ifCond .eq 11, 3) := by decide +kernel
theorem dX6_readStatement_13 : decode cX6_readStatement 13 = .ok (.aload_n 0, 1) := by decide +kernel
theorem dX6_readStatement_14 : decode cX6_readStatement 14 = .ok (.aload_n 1, 1) := by decide +kernel
theorem dX6_readStatement_15 : decode cX6_readStatement 15 = .ok (.invokevirtual 44, 3) := by decide +kernel
theorem dX6_readStatement_18 : decode cX6_readStatement 18 = .ok (.goto 124, 3) := by decide +kernel
theorem dX6_readStatement_21 : decode cX6_readStatement 21 = .ok (.aload_n 0, 1) := by decide +kernel
theorem dX6_readStatement_22 : decode cX6_readStatement 22 = .ok (.ldc 47, 2) := by decide +kernel
theorem dX6_readStatement_24 : decode cX6_readStatement 24 = .ok (.invokevirtual 40, 3) := by decide +kernel
theorem dX6_readStatement_27 : decode cX6_readStatement 27 = .ok (.ifCond .eq 12, 3) := by decide +kernel
theorem dX6_readStatement_30 : decode cX6_readStatement 30 = .ok (.aload_n 0, 1) := by decide +kernel
theorem dX6_readStatement_31 : decode cX6_readStatement 31 = .ok (.aload_n 1, 1) := by decide +kernel
theorem dX6_readStatement_32 : decode cX6_readStatement 32 = .ok (.iconst 1, 1) := by decide +kernel
theorem dX6_readStatement_33 : decode cX6_readStatement 33 = .ok (.invokevirtual 49, 3) := by decide +kernel
theorem dX6_readStatement_36 : decode cX6_readStatement 36 = .ok (.goto 106, 3) := by decide +kernel
theorem dX6_readStatement_39 : decode cX6_readStatement 39 = .ok (.aload_n 0, 1) := by decide +kernel
theorem dX6_readStatement_40 : decode cX6_readStatement 40 = .ok (.ldc 53, 2) := by decide +kernel
theorem dX6_readStatement_42 : decode cX6_readStatement 42 = .ok (.invokevirtual 40, 3) := by decide +kernel
theorem dX6_readStatement_45 : decode cX6_readStatement 45 = .ok (.ifCond .eq 12, 3) := by decide +kernel
theorem dX6_readStatement_48 : decode cX6_readStatement 48 = .ok (.aload_n 0, 1) := by decide +kernel
theorem dX6_readStatement_49 : decode cX6_readStatement 49 = .ok (.aload_n 1, 1) := by decide +kernel
theorem dX6_readStatement_50 : decode cX6_readStatement 50 = .ok (.iconst 0, 1) := by decide +kernel
theorem dX6_readStatement_51 : decode cX6_readStatement 51 = .ok (.invokevirtual 49, 3) := by decide +kernel
theorem dX6_readStatement_54 : decode cX6_readStatement 54 = .ok (.goto 88, 3) := by decide +kernel
theorem dX6_readStatement_57 : decode cX6_readStatement 57 = .ok (.aload_n 0, 1) := by decide +kernel
theorem dX6_readStatement_58 : decode cX6_readStatement 58 = .ok (.ldc 55, 2) := by decide +kernel
theorem dX6_readStatement_60 : decode cX6_readStatement 60 = .ok (.invokevirtual 40, 3) := by decide +kernel
theorem dX6_readStatement_63 : decode cX6_readStatement 63 = .ok (.ifCond .eq 20, 3) := by decide +kernel
theorem dX6_readStatement_66 : decode cX6_readStatement 66 = .ok (.aload_n 1, 1) := by decide +kernel
theorem dX6_readStatement_67 : decode cX6_readStatement 67 = .ok (.getfield 57, 3) := by decide +kernel
theorem dX6_readStatement_70 : decode cX6_readStatement 70 = .ok (.bipush 8, 2) := by decide +kernel
theorem dX6_readStatement_72 : decode cX6_readStatement 72 = .ok (.if_icmp .ge 11, 3) := by decide +kernel
theorem dX6_readStatement_75 : decode cX6_readStatement 75 = .ok (.aload_n 0, 1) := by decide +kernel
theorem dX6_readStatement_76 : decode cX6_readStatement 76 = .ok (.aload_n 1, 1) := by decide +kernel
theorem dX6_readStatement_77 : decode cX6_readStatement 77 = .ok (.invokevirtual 62, 3) := by decide +kernel
theorem dX6_readStatement_80 : decode cX6_readStatement 80 = .ok (.goto 62, 3) := by decide +kernel
theorem dX6_readStatement_83 : decode cX6_readStatement 83 = .ok (.aload_n 0, 1) := by decide +kernel
theorem dX6_readStatement_84 : decode cX6_readStatement 84 = .ok (.ldc 65, 2) := by decide +kernel
theorem dX6_readStatement_86 : decode cX6_readStatement 86 = .ok (.invokevirtual 40, 3) := by decide +kernel
theorem dX6_readStatement_89 : decode cX6_readStatement 89 = .ok (.ifCond .eq 11, 3) := by decide +kernel
theorem dX6_readStatement_92 : decode cX6_readStatement 92 = .ok (.aload_n 0, 1) := by decide +kernel
theorem dX6_readStatement_93 : decode cX6_readStatement 93 = .ok (.aload_n 1, 1) := by decide +kernel
theorem dX6_readStatement_94 : decode cX6_readStatement 94 = .ok (.invokevirtual 67, 3) := by decide +kernel
theorem dX6_readStatement_97 : decode cX6_readStatement 97 = .ok (.goto 45, 3) := by decide +kernel
theorem dX6_readStatement_100 : decode cX6_readStatement 100 = .ok (.aload_n 0, 1) := by decide +kernel
theorem dX6_readStatement_101 : decode cX6_readStatement 101 = .ok (.ldc 70, 2) := by decide +kernel
theorem dX6_readStatement_103 : decode cX6_readStatement 103 = .ok (.invokevirtual 40, 3) := by decide +kernel
theorem dX6_readStatement_106 : decode cX6_readStatement 106 = .ok (.ifCond .eq 11, 3) := by decide +kernel
theorem dX6_readStatement_109 : decode cX6_readStatement 109 = .ok (.aload_n 0, 1) := by decide +kernel
theorem dX6_readStatement_110 : decode cX6_readStatement 110 = .ok (.aload_n 1, 1) := by decide +kernel
theorem dX6_readStatement_111 : decode cX6_readStatement 111 = .ok (.invokevirtual 72, 3) := by decide +kernel
theorem dX6_readStatement_114 : decode cX6_readStatement 114 = .ok (.goto 28, 3) := by decide +kernel
theorem dX6_readStatement_117 : decode cX6_readStatement 117 = .ok (.aload_n 0, 1) := by decide +kernel
theorem dX6_readStatement_118 : decode cX6_readStatement 118 = .ok (.ldc 75, 2) := by decide +kernel
theorem dX6_readStatement_120 : decode cX6_readStatement 120 = .ok (.invokevirtual 40, 3) := by decide +kernel
theorem dX6_readStatement_123 : decode cX6_readStatement 123 = .ok (.ifCond .eq 11, 3) := by decide +kernel
theorem dX6_readStatement_126 : decode cX6_readStatement 126 = .ok (.aload_n 0, 1) := by decide +kernel
theorem dX6_readStatement_127 : decode cX6_readStatement 127 = .ok (.aload_n 1, 1) := by decide +kernel
theorem dX6_readStatement_128 : decode cX6_readStatement 128 = .ok (.invokevirtual 77, 3) := by decide +kernel
theorem dX6_readStatement_131 : decode cX6_readStatement 131 = .ok (.goto 11, 3) := by decide +kernel
theorem dX6_readStatement_134 : decode cX6_readStatement 134 = .ok (.aload_n 0, 1) := by decide +kernel
theorem dX6_readStatement_135 : decode cX6_readStatement 135 = .ok (.aload_n 0, 1) := by decide +kernel
theorem dX6_readStatement_136 : decode cX6_readStatement 136 = .ok (.getfield 35, 3) := by decide +kernel
theorem dX6_readStatement_139 : decode cX6_readStatement 139 = .ok (.putfield 18, 3) := by decide +kernel
theorem dX6_readStatement_142 : decode cX6_readStatement 142 = .ok (.return_, 1) := by decide +kernel
set_option maxRecDepth 20000 in
theorem ggX6_readPlaces_X6_takeNumber : GoodIn wsX6_readPlaces wsX6_takeNumber := goodIn_r _ [7, 2, 8, 9, 10, 11, 12, 13, 6, 14, 15, 16, 17, 18, 19, 20, 21, 22, 23, 24, 25, 26, 27, 28, 29, 30, 31, 32, 33, 34, 35, 36, 37, 38, 39, 40, 53, 54, 55, 56, 57, 58, 59, 60] (by decide +kernel) (by decide +kernel)
set_option maxRecDepth 20000 in
theorem gX6_readPlaces_X6_takeNumber : GoodIn wsX6_readPlaces (wsV RX6 82 RX6 yX6_takeNumber wsX6_takeNumber) := goodIn_app (goodIn_of _ (by decide +kernel)) ggX6_readPlaces_X6_takeNumber
theorem dX6_readPlaces_0 : decode cX6_readPlaces 0 = .ok (.aload_n 0, 1) := by decide +kernel
theorem dX6_readPlaces_1 : decode cX6_readPlaces 1 = .ok (.aload_n 1, 1) := by decide +kernel
theorem dX6_readPlaces_2 : decode cX6_readPlaces 2 = .ok (.getfield 80, 3) := by decide +kernel
theorem dX6_readPlaces_5 : decode cX6_readPlaces 5 = .ok (.bipush 12, 2) := by decide +kernel
theorem dX6_readPlaces_7 : decode cX6_readPlaces 7 = .ok (.invokevirtual 82, 3) := by decide +kernel
theorem dX6_readPlaces_10 : decode cX6_readPlaces 10 = .ok (.istore_n 2, 1) := by decide +kernel
theorem dX6_readPlaces_11 : decode cX6_readPlaces 11 = .ok (.aload_n 0, 1) := by decide +kernel
theorem dX6_readPlaces_12 : decode cX6_readPlaces 12 = .ok (.getfield 18, 3) := by decide +kernel
theorem dX6_readPlaces_15 : decode cX6_readPlaces 15 = .ok (.iconst (-1), 1) := by decide +kernel
theorem dX6_readPlaces_16 : decode cX6_readPlaces 16 = .ok (.if_icmp .ne 8, 3) := by decide +kernel
theorem dX6_readPlaces_19 : decode cX6_readPlaces 19 = .ok (.aload_n 1, 1) := by decide +kernel
theorem dX6_readPlaces_20 : decode cX6_readPlaces 20 = .ok (.iload_n 2, 1) := by decide +kernel
theorem dX6_readPlaces_21 : decode cX6_readPlaces 21 = .ok (.putfield 80, 3) := by decide +kernel
theorem dX6_readPlaces_24 : decode cX6_readPlaces 24 = .ok (.return_, 1) := by decide +kernel
set_option maxRecDepth 20000 in
theorem ggX6_readWay_X6_takeNumber : GoodIn wsX6_readWay wsX6_takeNumber := goodIn_r _ [8, 2, 9, 10, 3, 11, 12, 13, 7, 14, 15, 16, 17, 18, 19, 20, 21, 22, 23, 24, 25, 26, 27, 28, 29, 30, 31, 32, 33, 34, 35, 36, 37, 38, 39, 40, 59, 60, 61, 62, 63, 64, 65, 66] (by decide +kernel) (by decide +kernel)
set_option maxRecDepth 20000 in
theorem gX6_readWay_X6_takeNumber : GoodIn wsX6_readWay (wsV RX6 82 RX6 yX6_takeNumber wsX6_takeNumber) := goodIn_app (goodIn_of _ (by decide +kernel)) ggX6_readWay_X6_takeNumber
set_option maxRecDepth 20000 in
theorem ggX6_readWay_X5_setWay : GoodIn wsX6_readWay wsX5_setWay := goodIn_r _ [45, 46, 47, 48, 49, 50, 51, 52, 53, 54, 55, 56, 57, 58] (by decide +kernel) (by decide +kernel)
set_option maxRecDepth 20000 in
theorem gX6_readWay_X5_setWay : GoodIn wsX6_readWay (wsV RX6 86 RX5 yX5_setWay wsX5_setWay) := goodIn_app (goodIn_of _ (by decide +kernel)) ggX6_readWay_X5_setWay
theorem dX6_readWay_0 : decode cX6_readWay 0 = .ok (.aload_n 0, 1) := by decide +kernel
theorem dX6_readWay_1 : decode cX6_readWay 1 = .ok (.iconst 0, 1) := by decide +kernel
theorem dX6_readWay_2 : decode cX6_readWay 2 = .ok (.aload_n 1, 1) := by decide +kernel
theorem dX6_readWay_3 : decode cX6_readWay 3 = .ok (.getfield 80, 3) := by decide +kernel
theorem dX6_readWay_6 : decode cX6_readWay 6 = .ok (.iconst 1, 1) := by decide +kernel
theorem dX6_readWay_7 : decode cX6_readWay 7 = .ok (.isub, 1) := by decide +kernel
theorem dX6_readWay_8 : decode cX6_readWay 8 = .ok (.invokevirtual 82, 3) := by decide +kernel
theorem dX6_readWay_11 : decode cX6_readWay 11 = .ok (.istore_n 3, 1) := by decide +kernel
theorem dX6_readWay_12 : decode cX6_readWay 12 = .ok (.aload_n 0, 1) := by decide +kernel
theorem dX6_readWay_13 : decode cX6_readWay 13 = .ok (.iconst 0, 1) := by decide +kernel
theorem dX6_readWay_14 : decode cX6_readWay 14 = .ok (.aload_n 1, 1) := by decide +kernel
theorem dX6_readWay_15 : decode cX6_readWay 15 = .ok (.getfield 80, 3) := by decide +kernel
theorem dX6_readWay_18 : decode cX6_readWay 18 = .ok (.iconst 1, 1) := by decide +kernel
theorem dX6_readWay_19 : decode cX6_readWay 19 = .ok (.isub, 1) := by decide +kernel
theorem dX6_readWay_20 : decode cX6_readWay 20 = .ok (.invokevirtual 82, 3) := by decide +kernel
theorem dX6_readWay_23 : decode cX6_readWay 23 = .ok (.istore 4, 2) := by decide +kernel
theorem dX6_readWay_25 : decode cX6_readWay 25 = .ok (.aload_n 0, 1) := by decide +kernel
theorem dX6_readWay_26 : decode cX6_readWay 26 = .ok (.getfield 18, 3) := by decide +kernel
theorem dX6_readWay_29 : decode cX6_readWay 29 = .ok (.iconst (-1), 1) := by decide +kernel
theorem dX6_readWay_30 : decode cX6_readWay 30 = .ok (.if_icmp .ne 17, 3) := by decide +kernel
theorem dX6_readWay_33 : decode cX6_readWay 33 = .ok (.iload_n 3, 1) := by decide +kernel
theorem dX6_readWay_34 : decode cX6_readWay 34 = .ok (.iload 4, 2) := by decide +kernel
theorem dX6_readWay_36 : decode cX6_readWay 36 = .ok (.if_icmp .ne 11, 3) := by decide +kernel
theorem dX6_readWay_39 : decode cX6_readWay 39 = .ok (.aload_n 0, 1) := by decide +kernel
theorem dX6_readWay_40 : decode cX6_readWay 40 = .ok (.aload_n 0, 1) := by decide +kernel
theorem dX6_readWay_41 : decode cX6_readWay 41 = .ok (.getfield 35, 3) := by decide +kernel
theorem dX6_readWay_44 : decode cX6_readWay 44 = .ok (.putfield 18, 3) := by decide +kernel
theorem dX6_readWay_47 : decode cX6_readWay 47 = .ok (.aload_n 0, 1) := by decide +kernel
theorem dX6_readWay_48 : decode cX6_readWay 48 = .ok (.getfield 18, 3) := by decide +kernel
theorem dX6_readWay_51 : decode cX6_readWay 51 = .ok (.iconst (-1), 1) := by decide +kernel
theorem dX6_readWay_52 : decode cX6_readWay 52 = .ok (.if_icmp .ne 11, 3) := by decide +kernel
theorem dX6_readWay_55 : decode cX6_readWay 55 = .ok (.aload_n 1, 1) := by decide +kernel
theorem dX6_readWay_56 : decode cX6_readWay 56 = .ok (.iload_n 3, 1) := by decide +kernel
theorem dX6_readWay_57 : decode cX6_readWay 57 = .ok (.iload 4, 2) := by decide +kernel
theorem dX6_readWay_59 : decode cX6_readWay 59 = .ok (.iload_n 2, 1) := by decide +kernel
theorem dX6_readWay_60 : decode cX6_readWay 60 = .ok (.invokevirtual 86, 3) := by decide +kernel
theorem dX6_readWay_63 : decode cX6_readWay 63 = .ok (.return_, 1) := by decide +kernel
set_option maxRecDepth 20000 in
theorem ggX6_readPerson_X6_takeNumber : GoodIn wsX6_readPerson wsX6_takeNumber := goodIn_r _ [7, 2, 8, 9, 10, 11, 12, 13, 6, 14, 15, 16, 17, 18, 19, 20, 21, 22, 23, 24, 25, 26, 27, 28, 29, 30, 31, 32, 33, 34, 35, 36, 37, 38, 39, 40, 64, 65, 66, 67, 68, 69, 70, 71] (by decide +kernel) (by decide +kernel)
set_option maxRecDepth 20000 in
theorem gX6_readPerson_X6_takeNumber : GoodIn wsX6_readPerson (wsV RX6 82 RX6 yX6_takeNumber wsX6_takeNumber) := goodIn_app (goodIn_of _ (by decide +kernel)) ggX6_readPerson_X6_takeNumber
set_option maxRecDepth 20000 in
theorem ggX6_readPerson_X5_addPerson : GoodIn wsX6_readPerson wsX5_addPerson := goodIn_r _ [45, 46, 47, 48, 49, 50, 51, 52, 53, 54, 55, 56, 57, 58, 59, 60, 61, 62, 63] (by decide +kernel) (by decide +kernel)
set_option maxRecDepth 20000 in
theorem gX6_readPerson_X5_addPerson : GoodIn wsX6_readPerson (wsV RX6 90 RX5 yX5_addPerson wsX5_addPerson) := goodIn_app (goodIn_of _ (by decide +kernel)) ggX6_readPerson_X5_addPerson
theorem dX6_readPerson_0 : decode cX6_readPerson 0 = .ok (.aload_n 0, 1) := by decide +kernel
theorem dX6_readPerson_1 : decode cX6_readPerson 1 = .ok (.iconst 0, 1) := by decide +kernel
theorem dX6_readPerson_2 : decode cX6_readPerson 2 = .ok (.iconst 5, 1) := by decide +kernel
theorem dX6_readPerson_3 : decode cX6_readPerson 3 = .ok (.invokevirtual 82, 3) := by decide +kernel
theorem dX6_readPerson_6 : decode cX6_readPerson 6 = .ok (.istore_n 2, 1) := by decide +kernel
theorem dX6_readPerson_7 : decode cX6_readPerson 7 = .ok (.aload_n 0, 1) := by decide +kernel
theorem dX6_readPerson_8 : decode cX6_readPerson 8 = .ok (.iconst 0, 1) := by decide +kernel
theorem dX6_readPerson_9 : decode cX6_readPerson 9 = .ok (.bipush 9, 2) := by decide +kernel
theorem dX6_readPerson_11 : decode cX6_readPerson 11 = .ok (.invokevirtual 82, 3) := by decide +kernel
theorem dX6_readPerson_14 : decode cX6_readPerson 14 = .ok (.istore_n 3, 1) := by decide +kernel
theorem dX6_readPerson_15 : decode cX6_readPerson 15 = .ok (.aload_n 0, 1) := by decide +kernel
theorem dX6_readPerson_16 : decode cX6_readPerson 16 = .ok (.iconst 0, 1) := by decide +kernel
theorem dX6_readPerson_17 : decode cX6_readPerson 17 = .ok (.aload_n 1, 1) := by decide +kernel
theorem dX6_readPerson_18 : decode cX6_readPerson 18 = .ok (.getfield 80, 3) := by decide +kernel
theorem dX6_readPerson_21 : decode cX6_readPerson 21 = .ok (.iconst 1, 1) := by decide +kernel
theorem dX6_readPerson_22 : decode cX6_readPerson 22 = .ok (.isub, 1) := by decide +kernel
theorem dX6_readPerson_23 : decode cX6_readPerson 23 = .ok (.invokevirtual 82, 3) := by decide +kernel
theorem dX6_readPerson_26 : decode cX6_readPerson 26 = .ok (.istore 4, 2) := by decide +kernel
theorem dX6_readPerson_28 : decode cX6_readPerson 28 = .ok (.aload_n 0, 1) := by decide +kernel
theorem dX6_readPerson_29 : decode cX6_readPerson 29 = .ok (.iconst 0, 1) := by decide +kernel
theorem dX6_readPerson_30 : decode cX6_readPerson 30 = .ok (.aload_n 1, 1) := by decide +kernel
theorem dX6_readPerson_31 : decode cX6_readPerson 31 = .ok (.getfield 80, 3) := by decide +kernel
theorem dX6_readPerson_34 : decode cX6_readPerson 34 = .ok (.iconst 1, 1) := by decide +kernel
theorem dX6_readPerson_35 : decode cX6_readPerson 35 = .ok (.isub, 1) := by decide +kernel
theorem dX6_readPerson_36 : decode cX6_readPerson 36 = .ok (.invokevirtual 82, 3) := by decide +kernel
theorem dX6_readPerson_39 : decode cX6_readPerson 39 = .ok (.istore 5, 2) := by decide +kernel
theorem dX6_readPerson_41 : decode cX6_readPerson 41 = .ok (.aload_n 0, 1) := by decide +kernel
theorem dX6_readPerson_42 : decode cX6_readPerson 42 = .ok (.getfield 18, 3) := by decide +kernel
theorem dX6_readPerson_45 : decode cX6_readPerson 45 = .ok (.iconst (-1), 1) := by decide +kernel
theorem dX6_readPerson_46 : decode cX6_readPerson 46 = .ok (.if_icmp .ne 14, 3) := by decide +kernel
theorem dX6_readPerson_49 : decode cX6_readPerson 49 = .ok (.aload_n 1, 1) := by decide +kernel
theorem dX6_readPerson_50 : decode cX6_readPerson 50 = .ok (.iload_n 2, 1) := by decide +kernel
theorem dX6_readPerson_51 : decode cX6_readPerson 51 = .ok (.iload_n 3, 1) := by decide +kernel
theorem dX6_readPerson_52 : decode cX6_readPerson 52 = .ok (.iload 4, 2) := by decide +kernel
theorem dX6_readPerson_54 : decode cX6_readPerson 54 = .ok (.iload 5, 2) := by decide +kernel
theorem dX6_readPerson_56 : decode cX6_readPerson 56 = .ok (.invokevirtual 90, 3) := by decide +kernel
theorem dX6_readPerson_59 : decode cX6_readPerson 59 = .ok (.pop, 1) := by decide +kernel
theorem dX6_readPerson_60 : decode cX6_readPerson 60 = .ok (.return_, 1) := by decide +kernel
set_option maxRecDepth 20000 in
theorem ggX6_readAt_X6_takeNumber : GoodIn wsX6_readAt wsX6_takeNumber := goodIn_r _ [9, 3, 10, 11, 12, 13, 14, 15, 8, 16, 17, 18, 19, 20, 21, 22, 23, 24, 25, 26, 27, 28, 29, 30, 31, 32, 33, 34, 35, 36, 37, 38, 39, 40, 41, 42, 55, 56, 57, 58, 59, 60, 61, 62] (by decide +kernel) (by decide +kernel)
set_option maxRecDepth 20000 in
theorem gX6_readAt_X6_takeNumber : GoodIn wsX6_readAt (wsV RX6 82 RX6 yX6_takeNumber wsX6_takeNumber) := goodIn_app (goodIn_of _ (by decide +kernel)) ggX6_readAt_X6_takeNumber
theorem dX6_readAt_0 : decode cX6_readAt 0 = .ok (.aload_n 0, 1) := by decide +kernel
theorem dX6_readAt_1 : decode cX6_readAt 1 = .ok (.iconst 0, 1) := by decide +kernel
theorem dX6_readAt_2 : decode cX6_readAt 2 = .ok (.aload_n 1, 1) := by decide +kernel
theorem dX6_readAt_3 : decode cX6_readAt 3 = .ok (.getfield 57, 3) := by decide +kernel
theorem dX6_readAt_6 : decode cX6_readAt 6 = .ok (.iconst 1, 1) := by decide +kernel
theorem dX6_readAt_7 : decode cX6_readAt 7 = .ok (.isub, 1) := by decide +kernel
theorem dX6_readAt_8 : decode cX6_readAt 8 = .ok (.invokevirtual 82, 3) := by decide +kernel
theorem dX6_readAt_11 : decode cX6_readAt 11 = .ok (.istore_n 2, 1) := by decide +kernel
theorem dX6_readAt_12 : decode cX6_readAt 12 = .ok (.aload_n 0, 1) := by decide +kernel
theorem dX6_readAt_13 : decode cX6_readAt 13 = .ok (.iconst 0, 1) := by decide +kernel
theorem dX6_readAt_14 : decode cX6_readAt 14 = .ok (.aload_n 1, 1) := by decide +kernel
theorem dX6_readAt_15 : decode cX6_readAt 15 = .ok (.getfield 80, 3) := by decide +kernel
theorem dX6_readAt_18 : decode cX6_readAt 18 = .ok (.iconst 1, 1) := by decide +kernel
theorem dX6_readAt_19 : decode cX6_readAt 19 = .ok (.isub, 1) := by decide +kernel
theorem dX6_readAt_20 : decode cX6_readAt 20 = .ok (.invokevirtual 82, 3) := by decide +kernel
theorem dX6_readAt_23 : decode cX6_readAt 23 = .ok (.istore_n 3, 1) := by decide +kernel
theorem dX6_readAt_24 : decode cX6_readAt 24 = .ok (.aload_n 0, 1) := by decide +kernel
theorem dX6_readAt_25 : decode cX6_readAt 25 = .ok (.getfield 18, 3) := by decide +kernel
theorem dX6_readAt_28 : decode cX6_readAt 28 = .ok (.iconst (-1), 1) := by decide +kernel
theorem dX6_readAt_29 : decode cX6_readAt 29 = .ok (.if_icmp .ne 10, 3) := by decide +kernel
theorem dX6_readAt_32 : decode cX6_readAt 32 = .ok (.aload_n 1, 1) := by decide +kernel
theorem dX6_readAt_33 : decode cX6_readAt 33 = .ok (.getfield 94, 3) := by decide +kernel
theorem dX6_readAt_36 : decode cX6_readAt 36 = .ok (.iload_n 2, 1) := by decide +kernel
theorem dX6_readAt_37 : decode cX6_readAt 37 = .ok (.iload_n 3, 1) := by decide +kernel
theorem dX6_readAt_38 : decode cX6_readAt 38 = .ok (.iastore, 1) := by decide +kernel
theorem dX6_readAt_39 : decode cX6_readAt 39 = .ok (.return_, 1) := by decide +kernel
set_option maxRecDepth 20000 in
theorem ggX6_readHour_X6_takeNumber : GoodIn wsX6_readHour wsX6_takeNumber := goodIn_r _ [7, 1, 8, 9, 10, 11, 12, 13, 6, 14, 15, 16, 17, 18, 19, 20, 21, 22, 23, 24, 25, 26, 27, 28, 29, 30, 31, 32, 33, 34, 35, 36, 37, 38, 39, 40, 41, 42, 43, 44, 45, 46, 59, 60] (by decide +kernel) (by decide +kernel)
set_option maxRecDepth 20000 in
theorem gX6_readHour_X6_takeNumber : GoodIn wsX6_readHour (wsV RX6 82 RX6 yX6_takeNumber wsX6_takeNumber) := goodIn_app (goodIn_of _ (by decide +kernel)) ggX6_readHour_X6_takeNumber
theorem dX6_readHour_0 : decode cX6_readHour 0 = .ok (.aload_n 0, 1) := by decide +kernel
theorem dX6_readHour_1 : decode cX6_readHour 1 = .ok (.iconst 0, 1) := by decide +kernel
theorem dX6_readHour_2 : decode cX6_readHour 2 = .ok (.sipush 999, 3) := by decide +kernel
theorem dX6_readHour_5 : decode cX6_readHour 5 = .ok (.invokevirtual 82, 3) := by decide +kernel
theorem dX6_readHour_8 : decode cX6_readHour 8 = .ok (.istore_n 2, 1) := by decide +kernel
theorem dX6_readHour_9 : decode cX6_readHour 9 = .ok (.aload_n 0, 1) := by decide +kernel
theorem dX6_readHour_10 : decode cX6_readHour 10 = .ok (.getfield 18, 3) := by decide +kernel
theorem dX6_readHour_13 : decode cX6_readHour 13 = .ok (.iconst (-1), 1) := by decide +kernel
theorem dX6_readHour_14 : decode cX6_readHour 14 = .ok (.if_icmp .ne 8, 3) := by decide +kernel
theorem dX6_readHour_17 : decode cX6_readHour 17 = .ok (.aload_n 1, 1) := by decide +kernel
theorem dX6_readHour_18 : decode cX6_readHour 18 = .ok (.iload_n 2, 1) := by decide +kernel
theorem dX6_readHour_19 : decode cX6_readHour 19 = .ok (.putfield 97, 3) := by decide +kernel
theorem dX6_readHour_22 : decode cX6_readHour 22 = .ok (.return_, 1) := by decide +kernel
set_option maxRecDepth 20000 in
theorem ggX6_readChance_X6_takeNumber : GoodIn wsX6_readChance wsX6_takeNumber := goodIn_r _ [7, 1, 8, 9, 10, 11, 12, 13, 6, 14, 15, 16, 17, 18, 19, 20, 21, 22, 23, 24, 25, 26, 27, 28, 29, 30, 31, 32, 33, 34, 35, 36, 37, 38, 39, 40, 41, 42, 43, 44, 45, 46, 59, 60] (by decide +kernel) (by decide +kernel)
set_option maxRecDepth 20000 in
theorem gX6_readChance_X6_takeNumber : GoodIn wsX6_readChance (wsV RX6 82 RX6 yX6_takeNumber wsX6_takeNumber) := goodIn_app (goodIn_of _ (by decide +kernel)) ggX6_readChance_X6_takeNumber
theorem dX6_readChance_0 : decode cX6_readChance 0 = .ok (.aload_n 0, 1) := by decide +kernel
theorem dX6_readChance_1 : decode cX6_readChance 1 = .ok (.iconst 0, 1) := by decide +kernel
theorem dX6_readChance_2 : decode cX6_readChance 2 = .ok (.bipush 12, 2) := by decide +kernel
theorem dX6_readChance_4 : decode cX6_readChance 4 = .ok (.invokevirtual 82, 3) := by decide +kernel
theorem dX6_readChance_7 : decode cX6_readChance 7 = .ok (.istore_n 2, 1) := by decide +kernel
theorem dX6_readChance_8 : decode cX6_readChance 8 = .ok (.aload_n 0, 1) := by decide +kernel
theorem dX6_readChance_9 : decode cX6_readChance 9 = .ok (.getfield 18, 3) := by decide +kernel
theorem dX6_readChance_12 : decode cX6_readChance 12 = .ok (.iconst (-1), 1) := by decide +kernel
theorem dX6_readChance_13 : decode cX6_readChance 13 = .ok (.if_icmp .ne 8, 3) := by decide +kernel
theorem dX6_readChance_16 : decode cX6_readChance 16 = .ok (.aload_n 1, 1) := by decide +kernel
theorem dX6_readChance_17 : decode cX6_readChance 17 = .ok (.iload_n 2, 1) := by decide +kernel
theorem dX6_readChance_18 : decode cX6_readChance 18 = .ok (.putfield 99, 3) := by decide +kernel
theorem dX6_readChance_21 : decode cX6_readChance 21 = .ok (.return_, 1) := by decide +kernel
set_option maxRecDepth 20000 in
theorem ggX6_takeNumber_X6_takeToken : GoodIn wsX6_takeNumber wsX6_takeToken := goodIn_r _ [9, 10, 4, 2, 11, 12, 13, 8, 14, 15, 16, 17, 18, 19, 20, 21, 22, 23, 24, 25, 26, 27, 28, 29, 30, 31, 32, 33, 34, 35, 3, 36, 37, 38, 39, 40, 41, 42, 43] (by decide +kernel) (by decide +kernel)
set_option maxRecDepth 20000 in
theorem gX6_takeNumber_X6_takeToken : GoodIn wsX6_takeNumber (wsV RX6 29 RX6 yX6_takeToken wsX6_takeToken) := goodIn_app (goodIn_of _ (by decide +kernel)) ggX6_takeNumber_X6_takeToken
theorem dX6_takeNumber_0 : decode cX6_takeNumber 0 = .ok (.aload_n 0, 1) := by decide +kernel
theorem dX6_takeNumber_1 : decode cX6_takeNumber 1 = .ok (.getfield 18, 3) := by decide +kernel
theorem dX6_takeNumber_4 : decode cX6_takeNumber 4 = .ok (.iconst (-1), 1) := by decide +kernel
theorem dX6_takeNumber_5 : decode cX6_takeNumber 5 = .ok (.if_icmp .eq 5, 3) := by decide +kernel
theorem dX6_takeNumber_8 : decode cX6_takeNumber 8 = .ok (.iconst (-1), 1) := by decide +kernel
theorem dX6_takeNumber_9 : decode cX6_takeNumber 9 = .ok (.ireturn, 1) := by decide +kernel
theorem dX6_takeNumber_10 : decode cX6_takeNumber 10 = .ok (.aload_n 0, 1) := by decide +kernel
theorem dX6_takeNumber_11 : decode cX6_takeNumber 11 = .ok (.invokevirtual 29, 3) := by decide +kernel
theorem dX6_takeNumber_14 : decode cX6_takeNumber 14 = .ok (.aload_n 0, 1) := by decide +kernel
theorem dX6_takeNumber_15 : decode cX6_takeNumber 15 = .ok (.getfield 32, 3) := by decide +kernel
theorem dX6_takeNumber_18 : decode cX6_takeNumber 18 = .ok (.iconst 2, 1) := by decide +kernel
theorem dX6_takeNumber_19 : decode cX6_takeNumber 19 = .ok (.if_icmp .ne 19, 3) := by decide +kernel
theorem dX6_takeNumber_22 : decode cX6_takeNumber 22 = .ok (.aload_n 0, 1) := by decide +kernel
theorem dX6_takeNumber_23 : decode cX6_takeNumber 23 = .ok (.getfield 101, 3) := by decide +kernel
theorem dX6_takeNumber_26 : decode cX6_takeNumber 26 = .ok (.iload_n 1, 1) := by decide +kernel
theorem dX6_takeNumber_27 : decode cX6_takeNumber 27 = .ok (.if_icmp .lt 11, 3) := by decide +kernel
theorem dX6_takeNumber_30 : decode cX6_takeNumber 30 = .ok (.aload_n 0, 1) := by decide +kernel
theorem dX6_takeNumber_31 : decode cX6_takeNumber 31 = .ok (.getfield 101, 3) := by decide +kernel
theorem dX6_takeNumber_34 : decode cX6_takeNumber 34 = .ok (.iload_n 2, 1) := by decide +kernel
theorem dX6_takeNumber_35 : decode cX6_takeNumber 35 = .ok (.if_icmp .le 13, 3) := by decide +kernel
theorem dX6_takeNumber_38 : decode cX6_takeNumber 38 = .ok (.aload_n 0, 1) := by decide +kernel
theorem dX6_takeNumber_39 : decode cX6_takeNumber 39 = .ok (.aload_n 0, 1) := by decide +kernel
theorem dX6_takeNumber_40 : decode cX6_takeNumber 40 = .ok (.getfield 35, 3) := by decide +kernel
theorem dX6_takeNumber_43 : decode cX6_takeNumber 43 = .ok (.putfield 18, 3) := by decide +kernel
theorem dX6_takeNumber_46 : decode cX6_takeNumber 46 = .ok (.iconst (-1), 1) := by decide +kernel
theorem dX6_takeNumber_47 : decode cX6_takeNumber 47 = .ok (.ireturn, 1) := by decide +kernel
theorem dX6_takeNumber_48 : decode cX6_takeNumber 48 = .ok (.aload_n 0, 1) := by decide +kernel
theorem dX6_takeNumber_49 : decode cX6_takeNumber 49 = .ok (.getfield 101, 3) := by decide +kernel
theorem dX6_takeNumber_52 : decode cX6_takeNumber 52 = .ok (.ireturn, 1) := by decide +kernel
set_option maxRecDepth 20000 in
theorem ggX6_takeToken_X6_skipBlanks : GoodIn wsX6_takeToken wsX6_skipBlanks := goodIn_r _ [8, 1, 9, 10, 11, 12, 13, 7, 14, 15, 31, 32, 33, 34, 35, 36, 37, 38] (by decide +kernel) (by decide +kernel)
set_option maxRecDepth 20000 in
theorem gX6_takeToken_X6_skipBlanks : GoodIn wsX6_takeToken (wsV RX6 104 RX6 yX6_skipBlanks wsX6_skipBlanks) := goodIn_app (goodIn_of _ (by decide +kernel)) ggX6_takeToken_X6_skipBlanks
set_option maxRecDepth 20000 in
theorem ggX6_takeToken_X6_letterAt : GoodIn wsX6_takeToken wsX6_letterAt := goodIn_r _ [14, 9, 10, 15, 31, 32, 33, 34, 35, 36, 37, 38] (by decide +kernel) (by decide +kernel)
set_option maxRecDepth 20000 in
theorem gX6_takeToken_X6_letterAt : GoodIn wsX6_takeToken (wsV RX6 107 RX6 yX6_letterAt wsX6_letterAt) := goodIn_app (goodIn_of _ (by decide +kernel)) ggX6_takeToken_X6_letterAt
set_option maxRecDepth 20000 in
theorem ggX6_takeToken_X6_isLetter : GoodIn wsX6_takeToken wsX6_isLetter := goodIn_r _ [18] (by decide +kernel) (by decide +kernel)
set_option maxRecDepth 20000 in
theorem gX6_takeToken_X6_isLetter : GoodIn wsX6_takeToken (va_wsS RX6 111 yX6_isLetter wsX6_isLetter) := goodIn_app (goodIn_of _ (by decide +kernel)) ggX6_takeToken_X6_isLetter
set_option maxRecDepth 20000 in
theorem ggX6_takeToken_X6_passWord : GoodIn wsX6_takeToken wsX6_passWord := goodIn_r _ [22, 1, 9, 10, 11, 12, 13, 7, 14, 15, 16, 17, 18, 31, 32, 33, 34, 35, 36, 37, 38] (by decide +kernel) (by decide +kernel)
set_option maxRecDepth 20000 in
theorem gX6_takeToken_X6_passWord : GoodIn wsX6_takeToken (wsV RX6 115 RX6 yX6_passWord wsX6_passWord) := goodIn_app (goodIn_of _ (by decide +kernel)) ggX6_takeToken_X6_passWord
set_option maxRecDepth 20000 in
theorem ggX6_takeToken_X6_isDigit : GoodIn wsX6_takeToken wsX6_isDigit := goodIn_r _ [25] (by decide +kernel) (by decide +kernel)
set_option maxRecDepth 20000 in
theorem gX6_takeToken_X6_isDigit : GoodIn wsX6_takeToken (va_wsS RX6 118 yX6_isDigit wsX6_isDigit) := goodIn_app (goodIn_of _ (by decide +kernel)) ggX6_takeToken_X6_isDigit
set_option maxRecDepth 20000 in
theorem ggX6_takeToken_X6_passNumber : GoodIn wsX6_takeToken wsX6_passNumber := goodIn_r _ [29, 30, 1, 9, 10, 2, 11, 12, 13, 7, 14, 15, 23, 24, 25, 31, 32, 33, 34, 35, 36, 37, 38] (by decide +kernel) (by decide +kernel)
set_option maxRecDepth 20000 in
theorem gX6_takeToken_X6_passNumber : GoodIn wsX6_takeToken (wsV RX6 121 RX6 yX6_passNumber wsX6_passNumber) := goodIn_app (goodIn_of _ (by decide +kernel)) ggX6_takeToken_X6_passNumber
theorem dX6_takeToken_0 : decode cX6_takeToken 0 = .ok (.aload_n 0, 1) := by decide +kernel
theorem dX6_takeToken_1 : decode cX6_takeToken 1 = .ok (.invokevirtual 104, 3) := by decide +kernel
theorem dX6_takeToken_4 : decode cX6_takeToken 4 = .ok (.aload_n 0, 1) := by decide +kernel
theorem dX6_takeToken_5 : decode cX6_takeToken 5 = .ok (.aload_n 0, 1) := by decide +kernel
theorem dX6_takeToken_6 : decode cX6_takeToken 6 = .ok (.getfield 22, 3) := by decide +kernel
theorem dX6_takeToken_9 : decode cX6_takeToken 9 = .ok (.putfield 35, 3) := by decide +kernel
theorem dX6_takeToken_12 : decode cX6_takeToken 12 = .ok (.aload_n 0, 1) := by decide +kernel
theorem dX6_takeToken_13 : decode cX6_takeToken 13 = .ok (.aload_n 0, 1) := by decide +kernel
theorem dX6_takeToken_14 : decode cX6_takeToken 14 = .ok (.getfield 22, 3) := by decide +kernel
theorem dX6_takeToken_17 : decode cX6_takeToken 17 = .ok (.invokevirtual 107, 3) := by decide +kernel
theorem dX6_takeToken_20 : decode cX6_takeToken 20 = .ok (.istore_n 1, 1) := by decide +kernel
theorem dX6_takeToken_21 : decode cX6_takeToken 21 = .ok (.iload_n 1, 1) := by decide +kernel
theorem dX6_takeToken_22 : decode cX6_takeToken 22 = .ok (.iconst (-1), 1) := by decide +kernel
theorem dX6_takeToken_23 : decode cX6_takeToken 23 = .ok (.if_icmp .ne 11, 3) := by decide +kernel
theorem dX6_takeToken_26 : decode cX6_takeToken 26 = .ok (.aload_n 0, 1) := by decide +kernel
theorem dX6_takeToken_27 : decode cX6_takeToken 27 = .ok (.iconst 0, 1) := by decide +kernel
theorem dX6_takeToken_28 : decode cX6_takeToken 28 = .ok (.putfield 32, 3) := by decide +kernel
theorem dX6_takeToken_31 : decode cX6_takeToken 31 = .ok (.goto 83, 3) := by decide +kernel
theorem dX6_takeToken_34 : decode cX6_takeToken 34 = .ok (.iload_n 1, 1) := by decide +kernel
theorem dX6_takeToken_35 : decode cX6_takeToken 35 = .ok (.invokestatic 111, 3) := by decide +kernel
theorem dX6_takeToken_38 : decode cX6_takeToken 38 = .ok (.ifCond .eq 15, 3) := by decide +kernel
theorem dX6_takeToken_41 : decode cX6_takeToken 41 = .ok (.aload_n 0, 1) := by decide +kernel
theorem dX6_takeToken_42 : decode cX6_takeToken 42 = .ok (.iconst 1, 1) := by decide +kernel
theorem dX6_takeToken_43 : decode cX6_takeToken 43 = .ok (.putfield 32, 3) := by decide +kernel
theorem dX6_takeToken_46 : decode cX6_takeToken 46 = .ok (.aload_n 0, 1) := by decide +kernel
theorem dX6_takeToken_47 : decode cX6_takeToken 47 = .ok (.invokevirtual 115, 3) := by decide +kernel
theorem dX6_takeToken_50 : decode cX6_takeToken 50 = .ok (.goto 64, 3) := by decide +kernel
theorem dX6_takeToken_53 : decode cX6_takeToken 53 = .ok (.iload_n 1, 1) := by decide +kernel
theorem dX6_takeToken_54 : decode cX6_takeToken 54 = .ok (.invokestatic 118, 3) := by decide +kernel
theorem dX6_takeToken_57 : decode cX6_takeToken 57 = .ok (.ifCond .eq 32, 3) := by decide +kernel
theorem dX6_takeToken_60 : decode cX6_takeToken 60 = .ok (.aload_n 0, 1) := by decide +kernel
theorem dX6_takeToken_61 : decode cX6_takeToken 61 = .ok (.invokevirtual 121, 3) := by decide +kernel
theorem dX6_takeToken_64 : decode cX6_takeToken 64 = .ok (.aload_n 0, 1) := by decide +kernel
theorem dX6_takeToken_65 : decode cX6_takeToken 65 = .ok (.aload_n 0, 1) := by decide +kernel
theorem dX6_takeToken_66 : decode cX6_takeToken 66 = .ok (.getfield 22, 3) := by decide +kernel
theorem dX6_takeToken_69 : decode cX6_takeToken 69 = .ok (.aload_n 0, 1) := by decide +kernel
theorem dX6_takeToken_70 : decode cX6_takeToken 70 = .ok (.getfield 35, 3) := by decide +kernel
theorem dX6_takeToken_73 : decode cX6_takeToken 73 = .ok (.isub, 1) := by decide +kernel
theorem dX6_takeToken_74 : decode cX6_takeToken 74 = .ok (.iconst 3, 1) := by decide +kernel
theorem dX6_takeToken_75 : decode cX6_takeToken 75 = .ok (.if_icmp .le 7, 3) := by decide +kernel
theorem dX6_takeToken_78 : decode cX6_takeToken 78 = .ok (.iconst 4, 1) := by decide +kernel
theorem dX6_takeToken_79 : decode cX6_takeToken 79 = .ok (.goto 4, 3) := by decide +kernel
theorem dX6_takeToken_82 : decode cX6_takeToken 82 = .ok (.iconst 2, 1) := by decide +kernel
theorem dX6_takeToken_83 : decode cX6_takeToken 83 = .ok (.putfield 32, 3) := by decide +kernel
theorem dX6_takeToken_86 : decode cX6_takeToken 86 = .ok (.goto 28, 3) := by decide +kernel
theorem dX6_takeToken_89 : decode cX6_takeToken 89 = .ok (.aload_n 0, 1) := by decide +kernel
theorem dX6_takeToken_90 : decode cX6_takeToken 90 = .ok (.iload_n 1, 1) := by decide +kernel
theorem dX6_takeToken_91 : decode cX6_takeToken 91 = .ok (.bipush 59, 2) := by decide +kernel
theorem dX6_takeToken_93 : decode cX6_takeToken 93 = .ok (.if_icmp .ne 7, 3) := by decide +kernel
theorem dX6_takeToken_96 : decode cX6_takeToken 96 = .ok (.iconst 3, 1) := by decide +kernel
theorem dX6_takeToken_97 : decode cX6_takeToken 97 = .ok (.goto 4, 3) := by decide +kernel
theorem dX6_takeToken_100 : decode cX6_takeToken 100 = .ok (.iconst 4, 1) := by decide +kernel
theorem dX6_takeToken_101 : decode cX6_takeToken 101 = .ok (.putfield 32, 3) := by decide +kernel
theorem dX6_takeToken_104 : decode cX6_takeToken 104 = .ok (.aload_n 0, 1) := by decide +kernel
theorem dX6_takeToken_105 : decode cX6_takeToken 105 = .ok (.dup, 1) := by decide +kernel
theorem dX6_takeToken_106 : decode cX6_takeToken 106 = .ok (.getfield 22, 3) := by decide +kernel
theorem dX6_takeToken_109 : decode cX6_takeToken 109 = .ok (.iconst 1, 1) := by decide +kernel
theorem dX6_takeToken_110 : decode cX6_takeToken 110 = .ok (.iadd, 1) := by decide +kernel
theorem dX6_takeToken_111 : decode cX6_takeToken 111 = .ok (.putfield 22, 3) := by decide +kernel
theorem dX6_takeToken_114 : decode cX6_takeToken 114 = .ok (.return_, 1) := by decide +kernel
set_option maxRecDepth 20000 in
theorem ggX6_skipBlanks_X6_letterAt : GoodIn wsX6_skipBlanks wsX6_letterAt := goodIn_r _ [8, 2, 3, 9, 10, 11, 12, 13, 14, 15, 16, 17] (by decide +kernel) (by decide +kernel)
set_option maxRecDepth 20000 in
theorem gX6_skipBlanks_X6_letterAt : GoodIn wsX6_skipBlanks (wsV RX6 107 RX6 yX6_letterAt wsX6_letterAt) := goodIn_app (goodIn_of _ (by decide +kernel)) ggX6_skipBlanks_X6_letterAt
theorem dX6_skipBlanks_0 : decode cX6_skipBlanks 0 = .ok (.aload_n 0, 1) := by decide +kernel
