theorem dX8_when_93 : decode cX8_when 93 = .ok (.istore 4, 2) := by decide +kernel
theorem dX8_when_95 : decode cX8_when 95 = .ok (.aload_n 0, 1) := by decide +kernel
theorem dX8_when_96 : decode cX8_when 96 = .ok (.invokevirtual 128, 3) := by decide +kernel
theorem dX8_when_99 : decode cX8_when 99 = .ok (.iinc 5 1, 3) := by decide +kernel
theorem dX8_when_102 : decode cX8_when 102 = .ok (.goto (-71), 3) := by decide +kernel
theorem dX8_when_105 : decode cX8_when 105 = .ok (.iload_n 1, 1) := by decide +kernel
theorem dX8_when_106 : decode cX8_when 106 = .ok (.ifCond .ne 7, 3) := by decide +kernel
theorem dX8_when_109 : decode cX8_when 109 = .ok (.iload_n 2, 1) := by decide +kernel
theorem dX8_when_110 : decode cX8_when 110 = .ok (.goto 5, 3) := by decide +kernel
theorem dX8_when_113 : decode cX8_when 113 = .ok (.iload 4, 2) := by decide +kernel
theorem dX8_when_115 : decode cX8_when 115 = .ok (.ireturn, 1) := by decide +kernel
set_option maxRecDepth 20000 in
theorem ggX8_arrives_X8_isPerson : GoodIn wsX8_arrives wsX8_isPerson := goodIn_r _ [6, 7, 8, 9, 5, 10, 65, 66, 67, 68, 69, 70, 71, 72, 73, 74, 75, 76, 77, 78, 79, 80, 81, 82, 83, 84, 85, 86, 87, 88, 89, 90, 91, 92, 93, 94, 95, 96, 97, 98, 99, 100, 101] (by decide +kernel) (by decide +kernel)
set_option maxRecDepth 20000 in
theorem gX8_arrives_X8_isPerson : GoodIn wsX8_arrives (wsV RX8 115 RX8 yX8_isPerson wsX8_isPerson) := goodIn_app (goodIn_of _ (by decide +kernel)) ggX8_arrives_X8_isPerson
set_option maxRecDepth 20000 in
theorem ggX8_arrives_X8_isPlace : GoodIn wsX8_arrives wsX8_isPlace := goodIn_r _ [14, 15, 8, 9, 5, 10, 65, 66, 67, 68, 69, 70, 71, 72, 73, 74, 75, 76, 77, 78, 79, 80, 81, 82, 83, 84, 85, 86, 87, 88, 89, 90, 91, 92, 93, 94, 95, 96, 97, 98, 99, 100, 101] (by decide +kernel) (by decide +kernel)
set_option maxRecDepth 20000 in
theorem gX8_arrives_X8_isPlace : GoodIn wsX8_arrives (wsV RX8 133 RX8 yX8_isPlace wsX8_isPlace) := goodIn_app (goodIn_of _ (by decide +kernel)) ggX8_arrives_X8_isPlace
set_option maxRecDepth 20000 in
theorem ggX8_arrives_X8_refuse : GoodIn wsX8_arrives wsX8_refuse := goodIn_r _ [19, 20, 65, 66, 67, 68, 69, 70, 71, 72, 73, 74, 75, 76, 77, 78, 79, 80, 81, 82, 83, 84, 85, 86, 87, 88, 89, 90, 91, 92, 93, 94, 95, 96, 97, 98, 99, 100, 101] (by decide +kernel) (by decide +kernel)
set_option maxRecDepth 20000 in
theorem gX8_arrives_X8_refuse : GoodIn wsX8_arrives (wsV RX8 104 RX8 yX8_refuse wsX8_refuse) := goodIn_app (goodIn_of _ (by decide +kernel)) ggX8_arrives_X8_refuse
set_option maxRecDepth 20000 in
theorem ggX8_arrives_X8_begin : GoodIn wsX8_arrives wsX8_begin := goodIn_r _ [24, 7, 1, 25, 26, 27, 65, 66, 67, 68, 69, 70, 71, 72, 73, 74, 75, 76, 77, 78, 79, 80, 81, 82, 83, 84, 85, 86, 87, 88, 89, 90, 91, 92, 93, 94, 95, 96, 97, 98, 99, 100, 101] (by decide +kernel) (by decide +kernel)
set_option maxRecDepth 20000 in
theorem gX8_arrives_X8_begin : GoodIn wsX8_arrives (wsV RX8 125 RX8 yX8_begin wsX8_begin) := goodIn_app (goodIn_of _ (by decide +kernel)) ggX8_arrives_X8_begin
set_option maxRecDepth 20000 in
theorem ggX8_arrives_X8_goes : GoodIn wsX8_arrives wsX8_goes := goodIn_r _ [31, 7, 32, 1, 27, 33, 34, 35, 5, 36, 37, 38, 39, 40, 41, 42, 43, 44, 45, 46, 47, 48, 49, 50, 51, 52, 53, 54, 55, 8, 9, 10, 56, 57, 58, 59, 15, 60, 61, 62, 63, 64, 65, 66, 67, 68, 69, 70, 71, 72, 73, 74, 75, 76, 77, 78, 79, 80, 81, 82, 83, 84, 85, 86, 87, 88, 89, 90, 91, 92, 93, 94, 95, 96, 97, 98, 99, 100, 101] (by decide +kernel) (by decide +kernel)
set_option maxRecDepth 20000 in
theorem gX8_arrives_X8_goes : GoodIn wsX8_arrives (wsV RX8 128 RX8 yX8_goes wsX8_goes) := goodIn_app (goodIn_of _ (by decide +kernel)) ggX8_arrives_X8_goes
theorem dX8_arrives_0 : decode cX8_arrives 0 = .ok (.aload_n 0, 1) := by decide +kernel
theorem dX8_arrives_1 : decode cX8_arrives 1 = .ok (.iload_n 1, 1) := by decide +kernel
theorem dX8_arrives_2 : decode cX8_arrives 2 = .ok (.invokevirtual 115, 3) := by decide +kernel
theorem dX8_arrives_5 : decode cX8_arrives 5 = .ok (.ifCond .eq 11, 3) := by decide +kernel
theorem dX8_arrives_8 : decode cX8_arrives 8 = .ok (.aload_n 0, 1) := by decide +kernel
theorem dX8_arrives_9 : decode cX8_arrives 9 = .ok (.iload_n 2, 1) := by decide +kernel
theorem dX8_arrives_10 : decode cX8_arrives 10 = .ok (.invokevirtual 133, 3) := by decide +kernel
theorem dX8_arrives_13 : decode cX8_arrives 13 = .ok (.ifCond .ne 10, 3) := by decide +kernel
theorem dX8_arrives_16 : decode cX8_arrives 16 = .ok (.aload_n 0, 1) := by decide +kernel
theorem dX8_arrives_17 : decode cX8_arrives 17 = .ok (.bipush (-2), 2) := by decide +kernel
theorem dX8_arrives_19 : decode cX8_arrives 19 = .ok (.invokevirtual 104, 3) := by decide +kernel
theorem dX8_arrives_22 : decode cX8_arrives 22 = .ok (.ireturn, 1) := by decide +kernel
theorem dX8_arrives_23 : decode cX8_arrives 23 = .ok (.aload_n 0, 1) := by decide +kernel
theorem dX8_arrives_24 : decode cX8_arrives 24 = .ok (.invokevirtual 125, 3) := by decide +kernel
theorem dX8_arrives_27 : decode cX8_arrives 27 = .ok (.iconst 0, 1) := by decide +kernel
theorem dX8_arrives_28 : decode cX8_arrives 28 = .ok (.istore_n 3, 1) := by decide +kernel
theorem dX8_arrives_29 : decode cX8_arrives 29 = .ok (.iload_n 3, 1) := by decide +kernel
theorem dX8_arrives_30 : decode cX8_arrives 30 = .ok (.bipush 48, 2) := by decide +kernel
theorem dX8_arrives_32 : decode cX8_arrives 32 = .ok (.if_icmp .gt 25, 3) := by decide +kernel
theorem dX8_arrives_35 : decode cX8_arrives 35 = .ok (.aload_n 0, 1) := by decide +kernel
theorem dX8_arrives_36 : decode cX8_arrives 36 = .ok (.getfield 71, 3) := by decide +kernel
theorem dX8_arrives_39 : decode cX8_arrives 39 = .ok (.iload_n 1, 1) := by decide +kernel
theorem dX8_arrives_40 : decode cX8_arrives 40 = .ok (.iaload, 1) := by decide +kernel
theorem dX8_arrives_41 : decode cX8_arrives 41 = .ok (.iload_n 2, 1) := by decide +kernel
theorem dX8_arrives_42 : decode cX8_arrives 42 = .ok (.if_icmp .ne 5, 3) := by decide +kernel
theorem dX8_arrives_45 : decode cX8_arrives 45 = .ok (.iload_n 3, 1) := by decide +kernel
theorem dX8_arrives_46 : decode cX8_arrives 46 = .ok (.ireturn, 1) := by decide +kernel
theorem dX8_arrives_47 : decode cX8_arrives 47 = .ok (.aload_n 0, 1) := by decide +kernel
theorem dX8_arrives_48 : decode cX8_arrives 48 = .ok (.invokevirtual 128, 3) := by decide +kernel
theorem dX8_arrives_51 : decode cX8_arrives 51 = .ok (.iinc 3 1, 3) := by decide +kernel
theorem dX8_arrives_54 : decode cX8_arrives 54 = .ok (.goto (-25), 3) := by decide +kernel
theorem dX8_arrives_57 : decode cX8_arrives 57 = .ok (.iconst (-1), 1) := by decide +kernel
theorem dX8_arrives_58 : decode cX8_arrives 58 = .ok (.ireturn, 1) := by decide +kernel
set_option maxRecDepth 20000 in
theorem ggX8_seen_X8_isPerson : GoodIn wsX8_seen wsX8_isPerson := goodIn_r _ [6, 7, 8, 9, 5, 10, 65, 66, 67, 68, 69, 70, 71, 72, 73, 74, 75, 76, 77, 78, 79, 80, 81, 82, 83, 84, 85, 86, 87, 88, 89, 90, 91, 92, 93, 94, 95, 96, 97, 98, 99, 100, 101] (by decide +kernel) (by decide +kernel)
set_option maxRecDepth 20000 in
theorem gX8_seen_X8_isPerson : GoodIn wsX8_seen (wsV RX8 115 RX8 yX8_isPerson wsX8_isPerson) := goodIn_app (goodIn_of _ (by decide +kernel)) ggX8_seen_X8_isPerson
set_option maxRecDepth 20000 in
theorem ggX8_seen_X8_isTime : GoodIn wsX8_seen wsX8_isTime := goodIn_r _ [13, 14, 8, 9, 5, 10] (by decide +kernel) (by decide +kernel)
set_option maxRecDepth 20000 in
theorem gX8_seen_X8_isTime : GoodIn wsX8_seen (va_wsS RX8 279 yX8_isTime wsX8_isTime) := goodIn_app (goodIn_of _ (by decide +kernel)) ggX8_seen_X8_isTime
set_option maxRecDepth 20000 in
theorem ggX8_seen_X8_refuse : GoodIn wsX8_seen wsX8_refuse := goodIn_r _ [18, 19, 65, 66, 67, 68, 69, 70, 71, 72, 73, 74, 75, 76, 77, 78, 79, 80, 81, 82, 83, 84, 85, 86, 87, 88, 89, 90, 91, 92, 93, 94, 95, 96, 97, 98, 99, 100, 101] (by decide +kernel) (by decide +kernel)
set_option maxRecDepth 20000 in
theorem gX8_seen_X8_refuse : GoodIn wsX8_seen (wsV RX8 104 RX8 yX8_refuse wsX8_refuse) := goodIn_app (goodIn_of _ (by decide +kernel)) ggX8_seen_X8_refuse
set_option maxRecDepth 20000 in
theorem ggX8_seen_X8_begin : GoodIn wsX8_seen wsX8_begin := goodIn_r _ [23, 7, 1, 24, 25, 26, 65, 66, 67, 68, 69, 70, 71, 72, 73, 74, 75, 76, 77, 78, 79, 80, 81, 82, 83, 84, 85, 86, 87, 88, 89, 90, 91, 92, 93, 94, 95, 96, 97, 98, 99, 100, 101] (by decide +kernel) (by decide +kernel)
set_option maxRecDepth 20000 in
theorem gX8_seen_X8_begin : GoodIn wsX8_seen (wsV RX8 125 RX8 yX8_begin wsX8_begin) := goodIn_app (goodIn_of _ (by decide +kernel)) ggX8_seen_X8_begin
set_option maxRecDepth 20000 in
theorem ggX8_seen_X8_goes : GoodIn wsX8_seen wsX8_goes := goodIn_r _ [30, 7, 31, 1, 26, 32, 33, 34, 5, 35, 36, 37, 38, 39, 40, 41, 42, 43, 44, 45, 46, 47, 48, 49, 50, 51, 52, 53, 54, 8, 9, 10, 55, 56, 57, 58, 59, 60, 61, 62, 63, 64, 65, 66, 67, 68, 69, 70, 71, 72, 73, 74, 75, 76, 77, 78, 79, 80, 81, 82, 83, 84, 85, 86, 87, 88, 89, 90, 91, 92, 93, 94, 95, 96, 97, 98, 99, 100, 101] (by decide +kernel) (by decide +kernel)
set_option maxRecDepth 20000 in
theorem gX8_seen_X8_goes : GoodIn wsX8_seen (wsV RX8 128 RX8 yX8_goes wsX8_goes) := goodIn_app (goodIn_of _ (by decide +kernel)) ggX8_seen_X8_goes
theorem dX8_seen_0 : decode cX8_seen 0 = .ok (.aload_n 0, 1) := by decide +kernel
theorem dX8_seen_1 : decode cX8_seen 1 = .ok (.iload_n 1, 1) := by decide +kernel
theorem dX8_seen_2 : decode cX8_seen 2 = .ok (.invokevirtual 115, 3) := by decide +kernel
theorem dX8_seen_5 : decode cX8_seen 5 = .ok (.ifCond .eq 10, 3) := by decide +kernel
theorem dX8_seen_8 : decode cX8_seen 8 = .ok (.iload_n 2, 1) := by decide +kernel
theorem dX8_seen_9 : decode cX8_seen 9 = .ok (.invokestatic 279, 3) := by decide +kernel
theorem dX8_seen_12 : decode cX8_seen 12 = .ok (.ifCond .ne 10, 3) := by decide +kernel
theorem dX8_seen_15 : decode cX8_seen 15 = .ok (.aload_n 0, 1) := by decide +kernel
theorem dX8_seen_16 : decode cX8_seen 16 = .ok (.bipush (-2), 2) := by decide +kernel
theorem dX8_seen_18 : decode cX8_seen 18 = .ok (.invokevirtual 104, 3) := by decide +kernel
theorem dX8_seen_21 : decode cX8_seen 21 = .ok (.ireturn, 1) := by decide +kernel
theorem dX8_seen_22 : decode cX8_seen 22 = .ok (.aload_n 0, 1) := by decide +kernel
theorem dX8_seen_23 : decode cX8_seen 23 = .ok (.invokevirtual 125, 3) := by decide +kernel
theorem dX8_seen_26 : decode cX8_seen 26 = .ok (.iconst 1, 1) := by decide +kernel
theorem dX8_seen_27 : decode cX8_seen 27 = .ok (.aload_n 0, 1) := by decide +kernel
theorem dX8_seen_28 : decode cX8_seen 28 = .ok (.getfield 71, 3) := by decide +kernel
theorem dX8_seen_31 : decode cX8_seen 31 = .ok (.iload_n 1, 1) := by decide +kernel
theorem dX8_seen_32 : decode cX8_seen 32 = .ok (.iaload, 1) := by decide +kernel
theorem dX8_seen_33 : decode cX8_seen 33 = .ok (.ishl, 1) := by decide +kernel
theorem dX8_seen_34 : decode cX8_seen 34 = .ok (.istore_n 3, 1) := by decide +kernel
theorem dX8_seen_35 : decode cX8_seen 35 = .ok (.iconst 0, 1) := by decide +kernel
theorem dX8_seen_36 : decode cX8_seen 36 = .ok (.istore 4, 2) := by decide +kernel
theorem dX8_seen_38 : decode cX8_seen 38 = .ok (.iload 4, 2) := by decide +kernel
theorem dX8_seen_40 : decode cX8_seen 40 = .ok (.iload_n 2, 1) := by decide +kernel
theorem dX8_seen_41 : decode cX8_seen 41 = .ok (.if_icmp .ge 24, 3) := by decide +kernel
theorem dX8_seen_44 : decode cX8_seen 44 = .ok (.aload_n 0, 1) := by decide +kernel
theorem dX8_seen_45 : decode cX8_seen 45 = .ok (.invokevirtual 128, 3) := by decide +kernel
theorem dX8_seen_48 : decode cX8_seen 48 = .ok (.iload_n 3, 1) := by decide +kernel
theorem dX8_seen_49 : decode cX8_seen 49 = .ok (.iconst 1, 1) := by decide +kernel
theorem dX8_seen_50 : decode cX8_seen 50 = .ok (.aload_n 0, 1) := by decide +kernel
theorem dX8_seen_51 : decode cX8_seen 51 = .ok (.getfield 71, 3) := by decide +kernel
theorem dX8_seen_54 : decode cX8_seen 54 = .ok (.iload_n 1, 1) := by decide +kernel
theorem dX8_seen_55 : decode cX8_seen 55 = .ok (.iaload, 1) := by decide +kernel
theorem dX8_seen_56 : decode cX8_seen 56 = .ok (.ishl, 1) := by decide +kernel
theorem dX8_seen_57 : decode cX8_seen 57 = .ok (.ior, 1) := by decide +kernel
theorem dX8_seen_58 : decode cX8_seen 58 = .ok (.istore_n 3, 1) := by decide +kernel
theorem dX8_seen_59 : decode cX8_seen 59 = .ok (.iinc 4 1, 3) := by decide +kernel
theorem dX8_seen_62 : decode cX8_seen 62 = .ok (.goto (-24), 3) := by decide +kernel
theorem dX8_seen_65 : decode cX8_seen 65 = .ok (.iload_n 3, 1) := by decide +kernel
theorem dX8_seen_66 : decode cX8_seen 66 = .ok (.ireturn, 1) := by decide +kernel
set_option maxRecDepth 20000 in
theorem ggX8_meet_X8_isPerson : GoodIn wsX8_meet wsX8_isPerson := goodIn_r _ [6, 7, 8, 9, 5, 10, 61, 62, 63, 64, 65, 66, 67, 68, 69, 70, 71, 72, 73, 74, 75, 76, 77, 78, 79, 80, 81, 82, 83, 84, 85, 86, 87, 88, 89, 90, 91, 92, 93, 94, 95, 96, 97] (by decide +kernel) (by decide +kernel)
set_option maxRecDepth 20000 in
theorem gX8_meet_X8_isPerson : GoodIn wsX8_meet (wsV RX8 115 RX8 yX8_isPerson wsX8_isPerson) := goodIn_app (goodIn_of _ (by decide +kernel)) ggX8_meet_X8_isPerson
set_option maxRecDepth 20000 in
theorem ggX8_meet_X8_refuse : GoodIn wsX8_meet wsX8_refuse := goodIn_r _ [14, 15, 61, 62, 63, 64, 65, 66, 67, 68, 69, 70, 71, 72, 73, 74, 75, 76, 77, 78, 79, 80, 81, 82, 83, 84, 85, 86, 87, 88, 89, 90, 91, 92, 93, 94, 95, 96, 97] (by decide +kernel) (by decide +kernel)
set_option maxRecDepth 20000 in
theorem gX8_meet_X8_refuse : GoodIn wsX8_meet (wsV RX8 104 RX8 yX8_refuse wsX8_refuse) := goodIn_app (goodIn_of _ (by decide +kernel)) ggX8_meet_X8_refuse
set_option maxRecDepth 20000 in
theorem ggX8_meet_X8_begin : GoodIn wsX8_meet wsX8_begin := goodIn_r _ [19, 7, 1, 20, 21, 22, 61, 62, 63, 64, 65, 66, 67, 68, 69, 70, 71, 72, 73, 74, 75, 76, 77, 78, 79, 80, 81, 82, 83, 84, 85, 86, 87, 88, 89, 90, 91, 92, 93, 94, 95, 96, 97] (by decide +kernel) (by decide +kernel)
set_option maxRecDepth 20000 in
theorem gX8_meet_X8_begin : GoodIn wsX8_meet (wsV RX8 125 RX8 yX8_begin wsX8_begin) := goodIn_app (goodIn_of _ (by decide +kernel)) ggX8_meet_X8_begin
set_option maxRecDepth 20000 in
theorem ggX8_meet_X8_goes : GoodIn wsX8_meet wsX8_goes := goodIn_r _ [26, 7, 27, 1, 22, 28, 29, 30, 5, 31, 32, 33, 34, 35, 36, 37, 38, 39, 40, 41, 42, 43, 44, 45, 46, 47, 48, 49, 50, 8, 9, 10, 51, 52, 53, 54, 55, 56, 57, 58, 59, 60, 61, 62, 63, 64, 65, 66, 67, 68, 69, 70, 71, 72, 73, 74, 75, 76, 77, 78, 79, 80, 81, 82, 83, 84, 85, 86, 87, 88, 89, 90, 91, 92, 93, 94, 95, 96, 97] (by decide +kernel) (by decide +kernel)
set_option maxRecDepth 20000 in
theorem gX8_meet_X8_goes : GoodIn wsX8_meet (wsV RX8 128 RX8 yX8_goes wsX8_goes) := goodIn_app (goodIn_of _ (by decide +kernel)) ggX8_meet_X8_goes
theorem dX8_meet_0 : decode cX8_meet 0 = .ok (.aload_n 0, 1) := by decide +kernel
theorem dX8_meet_1 : decode cX8_meet 1 = .ok (.iload_n 1, 1) := by decide +kernel
theorem dX8_meet_2 : decode cX8_meet 2 = .ok (.invokevirtual 115, 3) := by decide +kernel
theorem dX8_meet_5 : decode cX8_meet 5 = .ok (.ifCond .eq 16, 3) := by decide +kernel
theorem dX8_meet_8 : decode cX8_meet 8 = .ok (.aload_n 0, 1) := by decide +kernel
theorem dX8_meet_9 : decode cX8_meet 9 = .ok (.iload_n 2, 1) := by decide +kernel
theorem dX8_meet_10 : decode cX8_meet 10 = .ok (.invokevirtual 115, 3) := by decide +kernel
theorem dX8_meet_13 : decode cX8_meet 13 = .ok (.ifCond .eq 8, 3) := by decide +kernel
theorem dX8_meet_16 : decode cX8_meet 16 = .ok (.iload_n 1, 1) := by decide +kernel
theorem dX8_meet_17 : decode cX8_meet 17 = .ok (.iload_n 2, 1) := by decide +kernel
theorem dX8_meet_18 : decode cX8_meet 18 = .ok (.if_icmp .ne 10, 3) := by decide +kernel
theorem dX8_meet_21 : decode cX8_meet 21 = .ok (.aload_n 0, 1) := by decide +kernel
theorem dX8_meet_22 : decode cX8_meet 22 = .ok (.bipush (-2), 2) := by decide +kernel
theorem dX8_meet_24 : decode cX8_meet 24 = .ok (.invokevirtual 104, 3) := by decide +kernel
theorem dX8_meet_27 : decode cX8_meet 27 = .ok (.ireturn, 1) := by decide +kernel
theorem dX8_meet_28 : decode cX8_meet 28 = .ok (.aload_n 0, 1) := by decide +kernel
theorem dX8_meet_29 : decode cX8_meet 29 = .ok (.invokevirtual 125, 3) := by decide +kernel
theorem dX8_meet_32 : decode cX8_meet 32 = .ok (.iconst 0, 1) := by decide +kernel
theorem dX8_meet_33 : decode cX8_meet 33 = .ok (.istore_n 3, 1) := by decide +kernel
theorem dX8_meet_34 : decode cX8_meet 34 = .ok (.iload_n 3, 1) := by decide +kernel
theorem dX8_meet_35 : decode cX8_meet 35 = .ok (.bipush 48, 2) := by decide +kernel
theorem dX8_meet_37 : decode cX8_meet 37 = .ok (.if_icmp .gt 30, 3) := by decide +kernel
theorem dX8_meet_40 : decode cX8_meet 40 = .ok (.aload_n 0, 1) := by decide +kernel
theorem dX8_meet_41 : decode cX8_meet 41 = .ok (.getfield 71, 3) := by decide +kernel
theorem dX8_meet_44 : decode cX8_meet 44 = .ok (.iload_n 1, 1) := by decide +kernel
theorem dX8_meet_45 : decode cX8_meet 45 = .ok (.iaload, 1) := by decide +kernel
theorem dX8_meet_46 : decode cX8_meet 46 = .ok (.aload_n 0, 1) := by decide +kernel
theorem dX8_meet_47 : decode cX8_meet 47 = .ok (.getfield 71, 3) := by decide +kernel
theorem dX8_meet_50 : decode cX8_meet 50 = .ok (.iload_n 2, 1) := by decide +kernel
theorem dX8_meet_51 : decode cX8_meet 51 = .ok (.iaload, 1) := by decide +kernel
theorem dX8_meet_52 : decode cX8_meet 52 = .ok (.if_icmp .ne 5, 3) := by decide +kernel
theorem dX8_meet_55 : decode cX8_meet 55 = .ok (.iload_n 3, 1) := by decide +kernel
theorem dX8_meet_56 : decode cX8_meet 56 = .ok (.ireturn, 1) := by decide +kernel
theorem dX8_meet_57 : decode cX8_meet 57 = .ok (.aload_n 0, 1) := by decide +kernel
theorem dX8_meet_58 : decode cX8_meet 58 = .ok (.invokevirtual 128, 3) := by decide +kernel
theorem dX8_meet_61 : decode cX8_meet 61 = .ok (.iinc 3 1, 3) := by decide +kernel
theorem dX8_meet_64 : decode cX8_meet 64 = .ok (.goto (-30), 3) := by decide +kernel
theorem dX8_meet_67 : decode cX8_meet 67 = .ok (.iconst (-1), 1) := by decide +kernel
theorem dX8_meet_68 : decode cX8_meet 68 = .ok (.ireturn, 1) := by decide +kernel
set_option maxRecDepth 20000 in
theorem ggX8_together_X8_isPerson : GoodIn wsX8_together wsX8_isPerson := goodIn_r _ [6, 7, 8, 9, 5, 10, 65, 66, 67, 68, 69, 70, 71, 72, 73, 74, 75, 76, 77, 78, 79, 80, 81, 82, 83, 84, 85, 86, 87, 88, 89, 90, 91, 92, 93, 94, 95, 96, 97, 98, 99, 100, 101] (by decide +kernel) (by decide +kernel)
set_option maxRecDepth 20000 in
theorem gX8_together_X8_isPerson : GoodIn wsX8_together (wsV RX8 115 RX8 yX8_isPerson wsX8_isPerson) := goodIn_app (goodIn_of _ (by decide +kernel)) ggX8_together_X8_isPerson
set_option maxRecDepth 20000 in
theorem ggX8_together_X8_isTime : GoodIn wsX8_together wsX8_isTime := goodIn_r _ [13, 14, 8, 9, 5, 10] (by decide +kernel) (by decide +kernel)
set_option maxRecDepth 20000 in
theorem gX8_together_X8_isTime : GoodIn wsX8_together (va_wsS RX8 279 yX8_isTime wsX8_isTime) := goodIn_app (goodIn_of _ (by decide +kernel)) ggX8_together_X8_isTime
set_option maxRecDepth 20000 in
theorem ggX8_together_X8_refuse : GoodIn wsX8_together wsX8_refuse := goodIn_r _ [18, 19, 65, 66, 67, 68, 69, 70, 71, 72, 73, 74, 75, 76, 77, 78, 79, 80, 81, 82, 83, 84, 85, 86, 87, 88, 89, 90, 91, 92, 93, 94, 95, 96, 97, 98, 99, 100, 101] (by decide +kernel) (by decide +kernel)
set_option maxRecDepth 20000 in
theorem gX8_together_X8_refuse : GoodIn wsX8_together (wsV RX8 104 RX8 yX8_refuse wsX8_refuse) := goodIn_app (goodIn_of _ (by decide +kernel)) ggX8_together_X8_refuse
set_option maxRecDepth 20000 in
theorem ggX8_together_X8_begin : GoodIn wsX8_together wsX8_begin := goodIn_r _ [23, 7, 1, 24, 25, 26, 65, 66, 67, 68, 69, 70, 71, 72, 73, 74, 75, 76, 77, 78, 79, 80, 81, 82, 83, 84, 85, 86, 87, 88, 89, 90, 91, 92, 93, 94, 95, 96, 97, 98, 99, 100, 101] (by decide +kernel) (by decide +kernel)
set_option maxRecDepth 20000 in
theorem gX8_together_X8_begin : GoodIn wsX8_together (wsV RX8 125 RX8 yX8_begin wsX8_begin) := goodIn_app (goodIn_of _ (by decide +kernel)) ggX8_together_X8_begin
set_option maxRecDepth 20000 in
theorem ggX8_together_X8_goes : GoodIn wsX8_together wsX8_goes := goodIn_r _ [30, 7, 31, 1, 26, 32, 33, 34, 5, 35, 36, 37, 38, 39, 40, 41, 42, 43, 44, 45, 46, 47, 48, 49, 50, 51, 52, 53, 54, 8, 9, 10, 55, 56, 57, 58, 59, 60, 61, 62, 63, 64, 65, 66, 67, 68, 69, 70, 71, 72, 73, 74, 75, 76, 77, 78, 79, 80, 81, 82, 83, 84, 85, 86, 87, 88, 89, 90, 91, 92, 93, 94, 95, 96, 97, 98, 99, 100, 101] (by decide +kernel) (by decide +kernel)
set_option maxRecDepth 20000 in
theorem gX8_together_X8_goes : GoodIn wsX8_together (wsV RX8 128 RX8 yX8_goes wsX8_goes) := goodIn_app (goodIn_of _ (by decide +kernel)) ggX8_together_X8_goes
theorem dX8_together_0 : decode cX8_together 0 = .ok (.aload_n 0, 1) := by decide +kernel
theorem dX8_together_1 : decode cX8_together 1 = .ok (.iload_n 1, 1) := by decide +kernel
theorem dX8_together_2 : decode cX8_together 2 = .ok (.invokevirtual 115, 3) := by decide +kernel
theorem dX8_together_5 : decode cX8_together 5 = .ok (.ifCond .eq 23, 3) := by decide +kernel
theorem dX8_together_8 : decode cX8_together 8 = .ok (.aload_n 0, 1) := by decide +kernel
theorem dX8_together_9 : decode cX8_together 9 = .ok (.iload_n 2, 1) := by decide +kernel
theorem dX8_together_10 : decode cX8_together 10 = .ok (.invokevirtual 115, 3) := by decide +kernel
theorem dX8_together_13 : decode cX8_together 13 = .ok (.ifCond .eq 15, 3) := by decide +kernel
theorem dX8_together_16 : decode cX8_together 16 = .ok (.iload_n 1, 1) := by decide +kernel
theorem dX8_together_17 : decode cX8_together 17 = .ok (.iload_n 2, 1) := by decide +kernel
theorem dX8_together_18 : decode cX8_together 18 = .ok (.if_icmp .eq 10, 3) := by decide +kernel
theorem dX8_together_21 : decode cX8_together 21 = .ok (.iload_n 3, 1) := by decide +kernel
theorem dX8_together_22 : decode cX8_together 22 = .ok (.invokestatic 279, 3) := by decide +kernel
theorem dX8_together_25 : decode cX8_together 25 = .ok (.ifCond .ne 10, 3) := by decide +kernel
theorem dX8_together_28 : decode cX8_together 28 = .ok (.aload_n 0, 1) := by decide +kernel
theorem dX8_together_29 : decode cX8_together 29 = .ok (.bipush (-2), 2) := by decide +kernel
theorem dX8_together_31 : decode cX8_together 31 = .ok (.invokevirtual 104, 3) := by decide +kernel
theorem dX8_together_34 : decode cX8_together 34 = .ok (.ireturn, 1) := by decide +kernel
theorem dX8_together_35 : decode cX8_together 35 = .ok (.aload_n 0, 1) := by decide +kernel
theorem dX8_together_36 : decode cX8_together 36 = .ok (.invokevirtual 125, 3) := by decide +kernel
theorem dX8_together_39 : decode cX8_together 39 = .ok (.aload_n 0, 1) := by decide +kernel
theorem dX8_together_40 : decode cX8_together 40 = .ok (.getfield 71, 3) := by decide +kernel
theorem dX8_together_43 : decode cX8_together 43 = .ok (.iload_n 1, 1) := by decide +kernel
theorem dX8_together_44 : decode cX8_together 44 = .ok (.iaload, 1) := by decide +kernel
theorem dX8_together_45 : decode cX8_together 45 = .ok (.aload_n 0, 1) := by decide +kernel
theorem dX8_together_46 : decode cX8_together 46 = .ok (.getfield 71, 3) := by decide +kernel
theorem dX8_together_49 : decode cX8_together 49 = .ok (.iload_n 2, 1) := by decide +kernel
theorem dX8_together_50 : decode cX8_together 50 = .ok (.iaload, 1) := by decide +kernel
theorem dX8_together_51 : decode cX8_together 51 = .ok (.if_icmp .ne 7, 3) := by decide +kernel
theorem dX8_together_54 : decode cX8_together 54 = .ok (.iconst 1, 1) := by decide +kernel
theorem dX8_together_55 : decode cX8_together 55 = .ok (.goto 4, 3) := by decide +kernel
theorem dX8_together_58 : decode cX8_together 58 = .ok (.iconst 0, 1) := by decide +kernel
theorem dX8_together_59 : decode cX8_together 59 = .ok (.istore 4, 2) := by decide +kernel
theorem dX8_together_61 : decode cX8_together 61 = .ok (.iconst 0, 1) := by decide +kernel
theorem dX8_together_62 : decode cX8_together 62 = .ok (.istore 5, 2) := by decide +kernel
theorem dX8_together_64 : decode cX8_together 64 = .ok (.iload 5, 2) := by decide +kernel
theorem dX8_together_66 : decode cX8_together 66 = .ok (.iload_n 3, 1) := by decide +kernel
theorem dX8_together_67 : decode cX8_together 67 = .ok (.if_icmp .ge 38, 3) := by decide +kernel
theorem dX8_together_70 : decode cX8_together 70 = .ok (.aload_n 0, 1) := by decide +kernel
theorem dX8_together_71 : decode cX8_together 71 = .ok (.invokevirtual 128, 3) := by decide +kernel
theorem dX8_together_74 : decode cX8_together 74 = .ok (.iload 4, 2) := by decide +kernel
theorem dX8_together_76 : decode cX8_together 76 = .ok (.aload_n 0, 1) := by decide +kernel
theorem dX8_together_77 : decode cX8_together 77 = .ok (.getfield 71, 3) := by decide +kernel
theorem dX8_together_80 : decode cX8_together 80 = .ok (.iload_n 1, 1) := by decide +kernel
theorem dX8_together_81 : decode cX8_together 81 = .ok (.iaload, 1) := by decide +kernel
theorem dX8_together_82 : decode cX8_together 82 = .ok (.aload_n 0, 1) := by decide +kernel
theorem dX8_together_83 : decode cX8_together 83 = .ok (.getfield 71, 3) := by decide +kernel
theorem dX8_together_86 : decode cX8_together 86 = .ok (.iload_n 2, 1) := by decide +kernel
theorem dX8_together_87 : decode cX8_together 87 = .ok (.iaload, 1) := by decide +kernel
theorem dX8_together_88 : decode cX8_together 88 = .ok (.if_icmp .ne 7, 3) := by decide +kernel
theorem dX8_together_91 : decode cX8_together 91 = .ok (.iconst 1, 1) := by decide +kernel
theorem dX8_together_92 : decode cX8_together 92 = .ok (.goto 4, 3) := by decide +kernel
theorem dX8_together_95 : decode cX8_together 95 = .ok (.iconst 0, 1) := by decide +kernel
theorem dX8_together_96 : decode cX8_together 96 = .ok (.iadd, 1) := by decide +kernel
theorem dX8_together_97 : decode cX8_together 97 = .ok (.istore 4, 2) := by decide +kernel
theorem dX8_together_99 : decode cX8_together 99 = .ok (.iinc 5 1, 3) := by decide +kernel
theorem dX8_together_102 : decode cX8_together 102 = .ok (.goto (-38), 3) := by decide +kernel
theorem dX8_together_105 : decode cX8_together 105 = .ok (.iload 4, 2) := by decide +kernel
theorem dX8_together_107 : decode cX8_together 107 = .ok (.ireturn, 1) := by decide +kernel
set_option maxRecDepth 20000 in
theorem ggX8_alone_X8_isPerson : GoodIn wsX8_alone wsX8_isPerson := goodIn_r _ [6, 7, 8, 9, 5, 10, 65, 66, 67, 68, 69, 70, 71, 72, 73, 74, 75, 76, 77, 78, 79, 80, 81, 82, 83, 84, 85, 86, 87, 88, 89, 90, 91, 92, 93, 94, 95, 96, 97, 98, 99, 100, 101] (by decide +kernel) (by decide +kernel)
set_option maxRecDepth 20000 in
theorem gX8_alone_X8_isPerson : GoodIn wsX8_alone (wsV RX8 115 RX8 yX8_isPerson wsX8_isPerson) := goodIn_app (goodIn_of _ (by decide +kernel)) ggX8_alone_X8_isPerson
set_option maxRecDepth 20000 in
theorem ggX8_alone_X8_isTime : GoodIn wsX8_alone wsX8_isTime := goodIn_r _ [13, 14, 8, 9, 5, 10] (by decide +kernel) (by decide +kernel)
set_option maxRecDepth 20000 in
theorem gX8_alone_X8_isTime : GoodIn wsX8_alone (va_wsS RX8 279 yX8_isTime wsX8_isTime) := goodIn_app (goodIn_of _ (by decide +kernel)) ggX8_alone_X8_isTime
set_option maxRecDepth 20000 in
theorem ggX8_alone_X8_refuse : GoodIn wsX8_alone wsX8_refuse := goodIn_r _ [18, 19, 65, 66, 67, 68, 69, 70, 71, 72, 73, 74, 75, 76, 77, 78, 79, 80, 81, 82, 83, 84, 85, 86, 87, 88, 89, 90, 91, 92, 93, 94, 95, 96, 97, 98, 99, 100, 101] (by decide +kernel) (by decide +kernel)
set_option maxRecDepth 20000 in
theorem gX8_alone_X8_refuse : GoodIn wsX8_alone (wsV RX8 104 RX8 yX8_refuse wsX8_refuse) := goodIn_app (goodIn_of _ (by decide +kernel)) ggX8_alone_X8_refuse
set_option maxRecDepth 20000 in
theorem ggX8_alone_X8_begin : GoodIn wsX8_alone wsX8_begin := goodIn_r _ [23, 7, 1, 24, 25, 26, 65, 66, 67, 68, 69, 70, 71, 72, 73, 74, 75, 76, 77, 78, 79, 80, 81, 82, 83, 84, 85, 86, 87, 88, 89, 90, 91, 92, 93, 94, 95, 96, 97, 98, 99, 100, 101] (by decide +kernel) (by decide +kernel)
set_option maxRecDepth 20000 in
theorem gX8_alone_X8_begin : GoodIn wsX8_alone (wsV RX8 125 RX8 yX8_begin wsX8_begin) := goodIn_app (goodIn_of _ (by decide +kernel)) ggX8_alone_X8_begin
set_option maxRecDepth 20000 in
theorem ggX8_alone_X8_darkens : GoodIn wsX8_alone wsX8_darkens := goodIn_r _ [30, 31, 32, 65, 66, 67, 68, 69, 70, 71, 72, 73, 74, 75, 76, 77, 78, 79, 80, 81, 82, 83, 84, 85, 86, 87, 88, 89, 90, 91, 92, 93, 94, 95, 96, 97, 98, 99, 100, 101] (by decide +kernel) (by decide +kernel)
set_option maxRecDepth 20000 in
theorem gX8_alone_X8_darkens : GoodIn wsX8_alone (wsV RX8 244 RX8 yX8_darkens wsX8_darkens) := goodIn_app (goodIn_of _ (by decide +kernel)) ggX8_alone_X8_darkens
set_option maxRecDepth 20000 in
theorem ggX8_alone_X8_isDarkBut : GoodIn wsX8_alone wsX8_isDarkBut := goodIn_r _ [36, 7, 1, 27, 28, 29, 5, 30, 31, 32, 65, 66, 67, 68, 69, 70, 71, 72, 73, 74, 75, 76, 77, 78, 79, 80, 81, 82, 83, 84, 85, 86, 87, 88, 89, 90, 91, 92, 93, 94, 95, 96, 97, 98, 99, 100, 101] (by decide +kernel) (by decide +kernel)
set_option maxRecDepth 20000 in
theorem gX8_alone_X8_isDarkBut : GoodIn wsX8_alone (wsV RX8 260 RX8 yX8_isDarkBut wsX8_isDarkBut) := goodIn_app (goodIn_of _ (by decide +kernel)) ggX8_alone_X8_isDarkBut
set_option maxRecDepth 20000 in
theorem ggX8_alone_X8_goes : GoodIn wsX8_alone wsX8_goes := goodIn_r _ [40, 7, 41, 1, 26, 42, 43, 44, 5, 45, 32, 46, 47, 48, 49, 50, 51, 52, 53, 54, 33, 34, 35, 36, 27, 28, 29, 30, 31, 8, 9, 10, 55, 56, 57, 58, 59, 60, 61, 62, 63, 64, 65, 66, 67, 68, 69, 70, 71, 72, 73, 74, 75, 76, 77, 78, 79, 80, 81, 82, 83, 84, 85, 86, 87, 88, 89, 90, 91, 92, 93, 94, 95, 96, 97, 98, 99, 100, 101] (by decide +kernel) (by decide +kernel)
set_option maxRecDepth 20000 in
theorem gX8_alone_X8_goes : GoodIn wsX8_alone (wsV RX8 128 RX8 yX8_goes wsX8_goes) := goodIn_app (goodIn_of _ (by decide +kernel)) ggX8_alone_X8_goes
theorem dX8_alone_0 : decode cX8_alone 0 = .ok (.aload_n 0, 1) := by decide +kernel
theorem dX8_alone_1 : decode cX8_alone 1 = .ok (.iload_n 1, 1) := by decide +kernel
theorem dX8_alone_2 : decode cX8_alone 2 = .ok (.invokevirtual 115, 3) := by decide +kernel
theorem dX8_alone_5 : decode cX8_alone 5 = .ok (.ifCond .eq 10, 3) := by decide +kernel
theorem dX8_alone_8 : decode cX8_alone 8 = .ok (.iload_n 2, 1) := by decide +kernel
theorem dX8_alone_9 : decode cX8_alone 9 = .ok (.invokestatic 279, 3) := by decide +kernel
theorem dX8_alone_12 : decode cX8_alone 12 = .ok (.ifCond .ne 10, 3) := by decide +kernel
theorem dX8_alone_15 : decode cX8_alone 15 = .ok (.aload_n 0, 1) := by decide +kernel
theorem dX8_alone_16 : decode cX8_alone 16 = .ok (.bipush (-2), 2) := by decide +kernel
theorem dX8_alone_18 : decode cX8_alone 18 = .ok (.invokevirtual 104, 3) := by decide +kernel
theorem dX8_alone_21 : decode cX8_alone 21 = .ok (.ireturn, 1) := by decide +kernel
theorem dX8_alone_22 : decode cX8_alone 22 = .ok (.aload_n 0, 1) := by decide +kernel
theorem dX8_alone_23 : decode cX8_alone 23 = .ok (.invokevirtual 125, 3) := by decide +kernel
theorem dX8_alone_26 : decode cX8_alone 26 = .ok (.aload_n 0, 1) := by decide +kernel
theorem dX8_alone_27 : decode cX8_alone 27 = .ok (.iload_n 1, 1) := by decide +kernel
theorem dX8_alone_28 : decode cX8_alone 28 = .ok (.invokevirtual 244, 3) := by decide +kernel
theorem dX8_alone_31 : decode cX8_alone 31 = .ok (.ifCond .eq 21, 3) := by decide +kernel
theorem dX8_alone_34 : decode cX8_alone 34 = .ok (.aload_n 0, 1) := by decide +kernel
theorem dX8_alone_35 : decode cX8_alone 35 = .ok (.aload_n 0, 1) := by decide +kernel
theorem dX8_alone_36 : decode cX8_alone 36 = .ok (.getfield 71, 3) := by decide +kernel
theorem dX8_alone_39 : decode cX8_alone 39 = .ok (.iload_n 1, 1) := by decide +kernel
theorem dX8_alone_40 : decode cX8_alone 40 = .ok (.iaload, 1) := by decide +kernel
theorem dX8_alone_41 : decode cX8_alone 41 = .ok (.iload_n 1, 1) := by decide +kernel
theorem dX8_alone_42 : decode cX8_alone 42 = .ok (.invokevirtual 260, 3) := by decide +kernel
theorem dX8_alone_45 : decode cX8_alone 45 = .ok (.ifCond .ne 7, 3) := by decide +kernel
theorem dX8_alone_48 : decode cX8_alone 48 = .ok (.iconst 1, 1) := by decide +kernel
theorem dX8_alone_49 : decode cX8_alone 49 = .ok (.goto 4, 3) := by decide +kernel
theorem dX8_alone_52 : decode cX8_alone 52 = .ok (.iconst 0, 1) := by decide +kernel
theorem dX8_alone_53 : decode cX8_alone 53 = .ok (.istore_n 3, 1) := by decide +kernel
theorem dX8_alone_54 : decode cX8_alone 54 = .ok (.iconst 0, 1) := by decide +kernel
theorem dX8_alone_55 : decode cX8_alone 55 = .ok (.istore 4, 2) := by decide +kernel
theorem dX8_alone_57 : decode cX8_alone 57 = .ok (.iload 4, 2) := by decide +kernel
theorem dX8_alone_59 : decode cX8_alone 59 = .ok (.iload_n 2, 1) := by decide +kernel
theorem dX8_alone_60 : decode cX8_alone 60 = .ok (.if_icmp .ge 43, 3) := by decide +kernel
theorem dX8_alone_63 : decode cX8_alone 63 = .ok (.aload_n 0, 1) := by decide +kernel
theorem dX8_alone_64 : decode cX8_alone 64 = .ok (.invokevirtual 128, 3) := by decide +kernel
theorem dX8_alone_67 : decode cX8_alone 67 = .ok (.iload_n 3, 1) := by decide +kernel
theorem dX8_alone_68 : decode cX8_alone 68 = .ok (.aload_n 0, 1) := by decide +kernel
theorem dX8_alone_69 : decode cX8_alone 69 = .ok (.iload_n 1, 1) := by decide +kernel
theorem dX8_alone_70 : decode cX8_alone 70 = .ok (.invokevirtual 244, 3) := by decide +kernel
theorem dX8_alone_73 : decode cX8_alone 73 = .ok (.ifCond .eq 21, 3) := by decide +kernel
theorem dX8_alone_76 : decode cX8_alone 76 = .ok (.aload_n 0, 1) := by decide +kernel
theorem dX8_alone_77 : decode cX8_alone 77 = .ok (.aload_n 0, 1) := by decide +kernel
theorem dX8_alone_78 : decode cX8_alone 78 = .ok (.getfield 71, 3) := by decide +kernel
theorem dX8_alone_81 : decode cX8_alone 81 = .ok (.iload_n 1, 1) := by decide +kernel
theorem dX8_alone_82 : decode cX8_alone 82 = .ok (.iaload, 1) := by decide +kernel
theorem dX8_alone_83 : decode cX8_alone 83 = .ok (.iload_n 1, 1) := by decide +kernel
theorem dX8_alone_84 : decode cX8_alone 84 = .ok (.invokevirtual 260, 3) := by decide +kernel
theorem dX8_alone_87 : decode cX8_alone 87 = .ok (.ifCond .ne 7, 3) := by decide +kernel
theorem dX8_alone_90 : decode cX8_alone 90 = .ok (.iconst 1, 1) := by decide +kernel
theorem dX8_alone_91 : decode cX8_alone 91 = .ok (.goto 4, 3) := by decide +kernel
theorem dX8_alone_94 : decode cX8_alone 94 = .ok (.iconst 0, 1) := by decide +kernel
theorem dX8_alone_95 : decode cX8_alone 95 = .ok (.iadd, 1) := by decide +kernel
theorem dX8_alone_96 : decode cX8_alone 96 = .ok (.istore_n 3, 1) := by decide +kernel
theorem dX8_alone_97 : decode cX8_alone 97 = .ok (.iinc 4 1, 3) := by decide +kernel
theorem dX8_alone_100 : decode cX8_alone 100 = .ok (.goto (-43), 3) := by decide +kernel
theorem dX8_alone_103 : decode cX8_alone 103 = .ok (.iload_n 3, 1) := by decide +kernel
theorem dX8_alone_104 : decode cX8_alone 104 = .ok (.ireturn, 1) := by decide +kernel
set_option maxRecDepth 20000 in
theorem ggX8_without_X8_isTime : GoodIn wsX8_without wsX8_isTime := goodIn_r _ [6, 7, 8, 9, 5, 10] (by decide +kernel) (by decide +kernel)
set_option maxRecDepth 20000 in
theorem gX8_without_X8_isTime : GoodIn wsX8_without (va_wsS RX8 279 yX8_isTime wsX8_isTime) := goodIn_app (goodIn_of _ (by decide +kernel)) ggX8_without_X8_isTime
set_option maxRecDepth 20000 in
theorem ggX8_without_X8_refuse : GoodIn wsX8_without wsX8_refuse := goodIn_r _ [14, 15, 72, 73, 74, 75, 76, 77, 78, 79, 80, 81, 82, 83, 84, 85, 86, 87, 88, 89, 90, 91, 92, 93, 94, 95, 96, 97, 98, 99, 100, 101, 102, 103, 104, 105, 106, 107, 108] (by decide +kernel) (by decide +kernel)
set_option maxRecDepth 20000 in
theorem gX8_without_X8_refuse : GoodIn wsX8_without (wsV RX8 104 RX8 yX8_refuse wsX8_refuse) := goodIn_app (goodIn_of _ (by decide +kernel)) ggX8_without_X8_refuse
set_option maxRecDepth 20000 in
theorem ggX8_without_X8_goesOn : GoodIn wsX8_without wsX8_goesOn := goodIn_r _ [19, 20, 21, 22, 5, 23, 1, 24, 25, 26, 27, 28, 29, 30, 31, 32, 33, 34, 35, 36, 37, 38, 39, 40, 41, 42, 43, 44, 45, 46, 47, 48, 49, 50, 51, 52, 53, 54, 2, 8, 9, 10, 55, 56, 57, 58, 59, 60, 61, 62, 63, 64, 72, 73, 74, 75, 76, 77, 78, 79, 80, 81, 82, 83, 84, 85, 86, 87, 88, 89, 90, 91, 92, 93, 94, 95, 96, 97, 98, 99, 100, 101, 102, 103, 104, 105, 106, 107, 108] (by decide +kernel) (by decide +kernel)
set_option maxRecDepth 20000 in
theorem gX8_without_X8_goesOn : GoodIn wsX8_without (wsV RX8 282 RX8 yX8_goesOn wsX8_goesOn) := goodIn_app (goodIn_of _ (by decide +kernel)) ggX8_without_X8_goesOn
set_option maxRecDepth 20000 in
theorem ggX8_without_X8_light : GoodIn wsX8_without wsX8_light := goodIn_r _ [68, 59, 1, 24, 51, 52, 53, 5, 54, 2, 37, 72, 73, 74, 75, 76, 77, 78, 79, 80, 81, 82, 83, 84, 85, 86, 87, 88, 89, 90, 91, 92, 93, 94, 95, 96, 97, 98, 99, 100, 101, 102, 103, 104, 105, 106, 107, 108] (by decide +kernel) (by decide +kernel)
set_option maxRecDepth 20000 in
theorem gX8_without_X8_light : GoodIn wsX8_without (wsV RX8 274 RX8 yX8_light wsX8_light) := goodIn_app (goodIn_of _ (by decide +kernel)) ggX8_without_X8_light
set_option maxRecDepth 20000 in
theorem ggX8_without_X8_bits : GoodIn wsX8_without wsX8_bits := goodIn_r _ [71] (by decide +kernel) (by decide +kernel)
set_option maxRecDepth 20000 in
theorem gX8_without_X8_bits : GoodIn wsX8_without (va_wsS RX8 285 yX8_bits wsX8_bits) := goodIn_app (goodIn_of _ (by decide +kernel)) ggX8_without_X8_bits
theorem dX8_without_0 : decode cX8_without 0 = .ok (.iload_n 1, 1) := by decide +kernel
theorem dX8_without_1 : decode cX8_without 1 = .ok (.invokestatic 279, 3) := by decide +kernel
theorem dX8_without_4 : decode cX8_without 4 = .ok (.ifCond .ne 10, 3) := by decide +kernel
theorem dX8_without_7 : decode cX8_without 7 = .ok (.aload_n 0, 1) := by decide +kernel
theorem dX8_without_8 : decode cX8_without 8 = .ok (.bipush (-2), 2) := by decide +kernel
theorem dX8_without_10 : decode cX8_without 10 = .ok (.invokevirtual 104, 3) := by decide +kernel
theorem dX8_without_13 : decode cX8_without 13 = .ok (.ireturn, 1) := by decide +kernel
theorem dX8_without_14 : decode cX8_without 14 = .ok (.aload_n 0, 1) := by decide +kernel
theorem dX8_without_15 : decode cX8_without 15 = .ok (.getfield 95, 3) := by decide +kernel
theorem dX8_without_18 : decode cX8_without 18 = .ok (.ifCond .ne 10, 3) := by decide +kernel
theorem dX8_without_21 : decode cX8_without 21 = .ok (.aload_n 0, 1) := by decide +kernel
theorem dX8_without_22 : decode cX8_without 22 = .ok (.bipush (-5), 2) := by decide +kernel
theorem dX8_without_24 : decode cX8_without 24 = .ok (.invokevirtual 104, 3) := by decide +kernel
theorem dX8_without_27 : decode cX8_without 27 = .ok (.ireturn, 1) := by decide +kernel
theorem dX8_without_28 : decode cX8_without 28 = .ok (.iconst 0, 1) := by decide +kernel
theorem dX8_without_29 : decode cX8_without 29 = .ok (.istore_n 2, 1) := by decide +kernel
theorem dX8_without_30 : decode cX8_without 30 = .ok (.iconst (-1), 1) := by decide +kernel
theorem dX8_without_31 : decode cX8_without 31 = .ok (.istore_n 3, 1) := by decide +kernel
theorem dX8_without_32 : decode cX8_without 32 = .ok (.iconst 0, 1) := by decide +kernel
theorem dX8_without_33 : decode cX8_without 33 = .ok (.istore 4, 2) := by decide +kernel
theorem dX8_without_35 : decode cX8_without 35 = .ok (.iload 4, 2) := by decide +kernel
theorem dX8_without_37 : decode cX8_without 37 = .ok (.aload_n 0, 1) := by decide +kernel
theorem dX8_without_38 : decode cX8_without 38 = .ok (.getfield 95, 3) := by decide +kernel
theorem dX8_without_41 : decode cX8_without 41 = .ok (.if_icmp .ge 55, 3) := by decide +kernel
theorem dX8_without_44 : decode cX8_without 44 = .ok (.aload_n 0, 1) := by decide +kernel
theorem dX8_without_45 : decode cX8_without 45 = .ok (.iload 4, 2) := by decide +kernel
theorem dX8_without_47 : decode cX8_without 47 = .ok (.putfield 77, 3) := by decide +kernel
theorem dX8_without_50 : decode cX8_without 50 = .ok (.aload_n 0, 1) := by decide +kernel
theorem dX8_without_51 : decode cX8_without 51 = .ok (.iload_n 1, 1) := by decide +kernel
theorem dX8_without_52 : decode cX8_without 52 = .ok (.invokevirtual 282, 3) := by decide +kernel
theorem dX8_without_55 : decode cX8_without 55 = .ok (.aload_n 0, 1) := by decide +kernel
theorem dX8_without_56 : decode cX8_without 56 = .ok (.invokevirtual 274, 3) := by decide +kernel
theorem dX8_without_59 : decode cX8_without 59 = .ok (.invokestatic 285, 3) := by decide +kernel
theorem dX8_without_62 : decode cX8_without 62 = .ok (.istore 5, 2) := by decide +kernel
theorem dX8_without_64 : decode cX8_without 64 = .ok (.iload 5, 2) := by decide +kernel
theorem dX8_without_66 : decode cX8_without 66 = .ok (.iload_n 3, 1) := by decide +kernel
theorem dX8_without_67 : decode cX8_without 67 = .ok (.if_icmp .le 8, 3) := by decide +kernel
theorem dX8_without_70 : decode cX8_without 70 = .ok (.iload 4, 2) := by decide +kernel
theorem dX8_without_72 : decode cX8_without 72 = .ok (.goto 4, 3) := by decide +kernel
theorem dX8_without_75 : decode cX8_without 75 = .ok (.iload_n 2, 1) := by decide +kernel
theorem dX8_without_76 : decode cX8_without 76 = .ok (.istore_n 2, 1) := by decide +kernel
theorem dX8_without_77 : decode cX8_without 77 = .ok (.iload 5, 2) := by decide +kernel
theorem dX8_without_79 : decode cX8_without 79 = .ok (.iload_n 3, 1) := by decide +kernel
theorem dX8_without_80 : decode cX8_without 80 = .ok (.if_icmp .le 8, 3) := by decide +kernel
theorem dX8_without_83 : decode cX8_without 83 = .ok (.iload 5, 2) := by decide +kernel
theorem dX8_without_85 : decode cX8_without 85 = .ok (.goto 4, 3) := by decide +kernel
theorem dX8_without_88 : decode cX8_without 88 = .ok (.iload_n 3, 1) := by decide +kernel
theorem dX8_without_89 : decode cX8_without 89 = .ok (.istore_n 3, 1) := by decide +kernel
theorem dX8_without_90 : decode cX8_without 90 = .ok (.iinc 4 1, 3) := by decide +kernel
theorem dX8_without_93 : decode cX8_without 93 = .ok (.goto (-58), 3) := by decide +kernel
theorem dX8_without_96 : decode cX8_without 96 = .ok (.aload_n 0, 1) := by decide +kernel
theorem dX8_without_97 : decode cX8_without 97 = .ok (.iconst (-1), 1) := by decide +kernel
theorem dX8_without_98 : decode cX8_without 98 = .ok (.putfield 77, 3) := by decide +kernel
theorem dX8_without_101 : decode cX8_without 101 = .ok (.iload_n 2, 1) := by decide +kernel
theorem dX8_without_102 : decode cX8_without 102 = .ok (.ireturn, 1) := by decide +kernel
set_option maxRecDepth 20000 in
theorem ggX8_best_X8_isPerson : GoodIn wsX8_best wsX8_isPerson := goodIn_r _ [7, 8, 9, 10, 6, 11, 76, 77, 78, 79, 80, 81, 82, 83, 84, 85, 86, 87, 88, 89, 90, 91, 92, 93, 94, 95, 96, 97, 98, 99, 100, 101, 102, 103, 104, 105, 106, 107, 108, 109, 110, 111, 112] (by decide +kernel) (by decide +kernel)
set_option maxRecDepth 20000 in
theorem gX8_best_X8_isPerson : GoodIn wsX8_best (wsV RX8 115 RX8 yX8_isPerson wsX8_isPerson) := goodIn_app (goodIn_of _ (by decide +kernel)) ggX8_best_X8_isPerson
set_option maxRecDepth 20000 in
theorem ggX8_best_X8_isTime : GoodIn wsX8_best wsX8_isTime := goodIn_r _ [14, 15, 9, 10, 6, 11] (by decide +kernel) (by decide +kernel)
set_option maxRecDepth 20000 in
theorem gX8_best_X8_isTime : GoodIn wsX8_best (va_wsS RX8 279 yX8_isTime wsX8_isTime) := goodIn_app (goodIn_of _ (by decide +kernel)) ggX8_best_X8_isTime
set_option maxRecDepth 20000 in
theorem ggX8_best_X8_refuse : GoodIn wsX8_best wsX8_refuse := goodIn_r _ [19, 20, 76, 77, 78, 79, 80, 81, 82, 83, 84, 85, 86, 87, 88, 89, 90, 91, 92, 93, 94, 95, 96, 97, 98, 99, 100, 101, 102, 103, 104, 105, 106, 107, 108, 109, 110, 111, 112] (by decide +kernel) (by decide +kernel)
set_option maxRecDepth 20000 in
theorem gX8_best_X8_refuse : GoodIn wsX8_best (wsV RX8 104 RX8 yX8_refuse wsX8_refuse) := goodIn_app (goodIn_of _ (by decide +kernel)) ggX8_best_X8_refuse
set_option maxRecDepth 20000 in
theorem ggX8_best_X8_goesOn : GoodIn wsX8_best wsX8_goesOn := goodIn_r _ [24, 25, 26, 27, 6, 28, 8, 29, 1, 30, 31, 32, 33, 34, 35, 36, 37, 38, 39, 40, 41, 42, 43, 44, 45, 46, 47, 48, 49, 50, 51, 52, 53, 54, 55, 56, 57, 58, 59, 9, 10, 11, 60, 61, 62, 63, 2, 64, 65, 66, 67, 68, 76, 77, 78, 79, 80, 81, 82, 83, 84, 85, 86, 87, 88, 89, 90, 91, 92, 93, 94, 95, 96, 97, 98, 99, 100, 101, 102, 103, 104, 105, 106, 107, 108, 109, 110, 111, 112] (by decide +kernel) (by decide +kernel)
set_option maxRecDepth 20000 in
theorem gX8_best_X8_goesOn : GoodIn wsX8_best (wsV RX8 282 RX8 yX8_goesOn wsX8_goesOn) := goodIn_app (goodIn_of _ (by decide +kernel)) ggX8_best_X8_goesOn
set_option maxRecDepth 20000 in
theorem ggX8_best_X8_light : GoodIn wsX8_best wsX8_light := goodIn_r _ [72, 2, 8, 29, 55, 56, 57, 6, 58, 59, 41, 76, 77, 78, 79, 80, 81, 82, 83, 84, 85, 86, 87, 88, 89, 90, 91, 92, 93, 94, 95, 96, 97, 98, 99, 100, 101, 102, 103, 104, 105, 106, 107, 108, 109, 110, 111, 112] (by decide +kernel) (by decide +kernel)
set_option maxRecDepth 20000 in
theorem gX8_best_X8_light : GoodIn wsX8_best (wsV RX8 274 RX8 yX8_light wsX8_light) := goodIn_app (goodIn_of _ (by decide +kernel)) ggX8_best_X8_light
set_option maxRecDepth 20000 in
theorem ggX8_best_X8_bits : GoodIn wsX8_best wsX8_bits := goodIn_r _ [75] (by decide +kernel) (by decide +kernel)
set_option maxRecDepth 20000 in
theorem gX8_best_X8_bits : GoodIn wsX8_best (va_wsS RX8 285 yX8_bits wsX8_bits) := goodIn_app (goodIn_of _ (by decide +kernel)) ggX8_best_X8_bits
theorem dX8_best_0 : decode cX8_best 0 = .ok (.aload_n 0, 1) := by decide +kernel
theorem dX8_best_1 : decode cX8_best 1 = .ok (.iload_n 1, 1) := by decide +kernel
theorem dX8_best_2 : decode cX8_best 2 = .ok (.invokevirtual 115, 3) := by decide +kernel
theorem dX8_best_5 : decode cX8_best 5 = .ok (.ifCond .eq 10, 3) := by decide +kernel
theorem dX8_best_8 : decode cX8_best 8 = .ok (.iload_n 2, 1) := by decide +kernel
theorem dX8_best_9 : decode cX8_best 9 = .ok (.invokestatic 279, 3) := by decide +kernel
theorem dX8_best_12 : decode cX8_best 12 = .ok (.ifCond .ne 10, 3) := by decide +kernel
theorem dX8_best_15 : decode cX8_best 15 = .ok (.aload_n 0, 1) := by decide +kernel
theorem dX8_best_16 : decode cX8_best 16 = .ok (.bipush (-2), 2) := by decide +kernel
theorem dX8_best_18 : decode cX8_best 18 = .ok (.invokevirtual 104, 3) := by decide +kernel
theorem dX8_best_21 : decode cX8_best 21 = .ok (.ireturn, 1) := by decide +kernel
theorem dX8_best_22 : decode cX8_best 22 = .ok (.aload_n 0, 1) := by decide +kernel
theorem dX8_best_23 : decode cX8_best 23 = .ok (.getfield 56, 3) := by decide +kernel
theorem dX8_best_26 : decode cX8_best 26 = .ok (.iload_n 1, 1) := by decide +kernel
theorem dX8_best_27 : decode cX8_best 27 = .ok (.iaload, 1) := by decide +kernel
theorem dX8_best_28 : decode cX8_best 28 = .ok (.istore_n 3, 1) := by decide +kernel
theorem dX8_best_29 : decode cX8_best 29 = .ok (.iconst 0, 1) := by decide +kernel
theorem dX8_best_30 : decode cX8_best 30 = .ok (.istore 4, 2) := by decide +kernel
theorem dX8_best_32 : decode cX8_best 32 = .ok (.iconst (-1), 1) := by decide +kernel
theorem dX8_best_33 : decode cX8_best 33 = .ok (.istore 5, 2) := by decide +kernel
theorem dX8_best_35 : decode cX8_best 35 = .ok (.iconst 0, 1) := by decide +kernel
theorem dX8_best_36 : decode cX8_best 36 = .ok (.istore 6, 2) := by decide +kernel
theorem dX8_best_38 : decode cX8_best 38 = .ok (.iload 6, 2) := by decide +kernel
theorem dX8_best_40 : decode cX8_best 40 = .ok (.aload_n 0, 1) := by decide +kernel
theorem dX8_best_41 : decode cX8_best 41 = .ok (.getfield 37, 3) := by decide +kernel
theorem dX8_best_44 : decode cX8_best 44 = .ok (.if_icmp .ge 63, 3) := by decide +kernel
theorem dX8_best_47 : decode cX8_best 47 = .ok (.aload_n 0, 1) := by decide +kernel
theorem dX8_best_48 : decode cX8_best 48 = .ok (.getfield 56, 3) := by decide +kernel
theorem dX8_best_51 : decode cX8_best 51 = .ok (.iload_n 1, 1) := by decide +kernel
theorem dX8_best_52 : decode cX8_best 52 = .ok (.iload 6, 2) := by decide +kernel
theorem dX8_best_54 : decode cX8_best 54 = .ok (.iastore, 1) := by decide +kernel
theorem dX8_best_55 : decode cX8_best 55 = .ok (.aload_n 0, 1) := by decide +kernel
theorem dX8_best_56 : decode cX8_best 56 = .ok (.iload_n 2, 1) := by decide +kernel
theorem dX8_best_57 : decode cX8_best 57 = .ok (.invokevirtual 282, 3) := by decide +kernel
theorem dX8_best_60 : decode cX8_best 60 = .ok (.aload_n 0, 1) := by decide +kernel
theorem dX8_best_61 : decode cX8_best 61 = .ok (.invokevirtual 274, 3) := by decide +kernel
theorem dX8_best_64 : decode cX8_best 64 = .ok (.invokestatic 285, 3) := by decide +kernel
theorem dX8_best_67 : decode cX8_best 67 = .ok (.istore 7, 2) := by decide +kernel
theorem dX8_best_69 : decode cX8_best 69 = .ok (.iload 7, 2) := by decide +kernel
theorem dX8_best_71 : decode cX8_best 71 = .ok (.iload 5, 2) := by decide +kernel
theorem dX8_best_73 : decode cX8_best 73 = .ok (.if_icmp .le 8, 3) := by decide +kernel
theorem dX8_best_76 : decode cX8_best 76 = .ok (.iload 6, 2) := by decide +kernel
theorem dX8_best_78 : decode cX8_best 78 = .ok (.goto 5, 3) := by decide +kernel
theorem dX8_best_81 : decode cX8_best 81 = .ok (.iload 4, 2) := by decide +kernel
theorem dX8_best_83 : decode cX8_best 83 = .ok (.istore 4, 2) := by decide +kernel
theorem dX8_best_85 : decode cX8_best 85 = .ok (.iload 7, 2) := by decide +kernel
theorem dX8_best_87 : decode cX8_best 87 = .ok (.iload 5, 2) := by decide +kernel
theorem dX8_best_89 : decode cX8_best 89 = .ok (.if_icmp .le 8, 3) := by decide +kernel
theorem dX8_best_92 : decode cX8_best 92 = .ok (.iload 7, 2) := by decide +kernel
theorem dX8_best_94 : decode cX8_best 94 = .ok (.goto 5, 3) := by decide +kernel
theorem dX8_best_97 : decode cX8_best 97 = .ok (.iload 5, 2) := by decide +kernel
theorem dX8_best_99 : decode cX8_best 99 = .ok (.istore 5, 2) := by decide +kernel
theorem dX8_best_101 : decode cX8_best 101 = .ok (.iinc 6 1, 3) := by decide +kernel
theorem dX8_best_104 : decode cX8_best 104 = .ok (.goto (-66), 3) := by decide +kernel
theorem dX8_best_107 : decode cX8_best 107 = .ok (.aload_n 0, 1) := by decide +kernel
theorem dX8_best_108 : decode cX8_best 108 = .ok (.getfield 56, 3) := by decide +kernel
theorem dX8_best_111 : decode cX8_best 111 = .ok (.iload_n 1, 1) := by decide +kernel
theorem dX8_best_112 : decode cX8_best 112 = .ok (.iload_n 3, 1) := by decide +kernel
theorem dX8_best_113 : decode cX8_best 113 = .ok (.iastore, 1) := by decide +kernel
theorem dX8_best_114 : decode cX8_best 114 = .ok (.iload 4, 2) := by decide +kernel
theorem dX8_best_116 : decode cX8_best 116 = .ok (.ireturn, 1) := by decide +kernel
set_option maxRecDepth 20000 in
theorem ggX8_ofKind_X8_in : GoodIn wsX8_ofKind wsX8_in := goodIn_r _ [7] (by decide +kernel) (by decide +kernel)
set_option maxRecDepth 20000 in
theorem gX8_ofKind_X8_in : GoodIn wsX8_ofKind (va_wsS RX8 91 yX8_in wsX8_in) := goodIn_app (goodIn_of _ (by decide +kernel)) ggX8_ofKind_X8_in
set_option maxRecDepth 20000 in
theorem ggX8_ofKind_X8_refuse : GoodIn wsX8_ofKind wsX8_refuse := goodIn_r _ [11, 12, 13, 14, 15, 16, 17, 18, 19, 20, 21, 22, 23, 24, 25, 26, 27, 28, 29, 30, 31, 32, 33, 34, 35, 36, 37, 38, 39, 40, 41, 42, 43, 44, 45, 46, 47, 48, 49] (by decide +kernel) (by decide +kernel)
set_option maxRecDepth 20000 in
theorem gX8_ofKind_X8_refuse : GoodIn wsX8_ofKind (wsV RX8 104 RX8 yX8_refuse wsX8_refuse) := goodIn_app (goodIn_of _ (by decide +kernel)) ggX8_ofKind_X8_refuse
theorem dX8_ofKind_0 : decode cX8_ofKind 0 = .ok (.iload_n 1, 1) := by decide +kernel
theorem dX8_ofKind_1 : decode cX8_ofKind 1 = .ok (.i2l, 1) := by decide +kernel
theorem dX8_ofKind_2 : decode cX8_ofKind 2 = .ok (.lconst 0, 1) := by decide +kernel
theorem dX8_ofKind_3 : decode cX8_ofKind 3 = .ok (.ldc2_w 119, 3) := by decide +kernel
theorem dX8_ofKind_6 : decode cX8_ofKind 6 = .ok (.invokestatic 91, 3) := by decide +kernel
theorem dX8_ofKind_9 : decode cX8_ofKind 9 = .ok (.ifCond .ne 10, 3) := by decide +kernel
theorem dX8_ofKind_12 : decode cX8_ofKind 12 = .ok (.aload_n 0, 1) := by decide +kernel
theorem dX8_ofKind_13 : decode cX8_ofKind 13 = .ok (.bipush (-2), 2) := by decide +kernel
theorem dX8_ofKind_15 : decode cX8_ofKind 15 = .ok (.invokevirtual 104, 3) := by decide +kernel
theorem dX8_ofKind_18 : decode cX8_ofKind 18 = .ok (.ireturn, 1) := by decide +kernel
theorem dX8_ofKind_19 : decode cX8_ofKind 19 = .ok (.iconst 0, 1) := by decide +kernel
theorem dX8_ofKind_20 : decode cX8_ofKind 20 = .ok (.istore_n 2, 1) := by decide +kernel
theorem dX8_ofKind_21 : decode cX8_ofKind 21 = .ok (.iconst 0, 1) := by decide +kernel
theorem dX8_ofKind_22 : decode cX8_ofKind 22 = .ok (.istore_n 3, 1) := by decide +kernel
theorem dX8_ofKind_23 : decode cX8_ofKind 23 = .ok (.iload_n 3, 1) := by decide +kernel
theorem dX8_ofKind_24 : decode cX8_ofKind 24 = .ok (.aload_n 0, 1) := by decide +kernel
theorem dX8_ofKind_25 : decode cX8_ofKind 25 = .ok (.getfield 95, 3) := by decide +kernel
theorem dX8_ofKind_28 : decode cX8_ofKind 28 = .ok (.if_icmp .ge 27, 3) := by decide +kernel
theorem dX8_ofKind_31 : decode cX8_ofKind 31 = .ok (.iload_n 2, 1) := by decide +kernel
theorem dX8_ofKind_32 : decode cX8_ofKind 32 = .ok (.aload_n 0, 1) := by decide +kernel
theorem dX8_ofKind_33 : decode cX8_ofKind 33 = .ok (.getfield 44, 3) := by decide +kernel
theorem dX8_ofKind_36 : decode cX8_ofKind 36 = .ok (.iload_n 3, 1) := by decide +kernel
theorem dX8_ofKind_37 : decode cX8_ofKind 37 = .ok (.iaload, 1) := by decide +kernel
theorem dX8_ofKind_38 : decode cX8_ofKind 38 = .ok (.iload_n 1, 1) := by decide +kernel
theorem dX8_ofKind_39 : decode cX8_ofKind 39 = .ok (.if_icmp .ne 7, 3) := by decide +kernel
theorem dX8_ofKind_42 : decode cX8_ofKind 42 = .ok (.iconst 1, 1) := by decide +kernel
theorem dX8_ofKind_43 : decode cX8_ofKind 43 = .ok (.goto 4, 3) := by decide +kernel
theorem dX8_ofKind_46 : decode cX8_ofKind 46 = .ok (.iconst 0, 1) := by decide +kernel
theorem dX8_ofKind_47 : decode cX8_ofKind 47 = .ok (.iadd, 1) := by decide +kernel
theorem dX8_ofKind_48 : decode cX8_ofKind 48 = .ok (.istore_n 2, 1) := by decide +kernel
theorem dX8_ofKind_49 : decode cX8_ofKind 49 = .ok (.iinc 3 1, 3) := by decide +kernel
theorem dX8_ofKind_52 : decode cX8_ofKind 52 = .ok (.goto (-29), 3) := by decide +kernel
theorem dX8_ofKind_55 : decode cX8_ofKind 55 = .ok (.iload_n 2, 1) := by decide +kernel
theorem dX8_ofKind_56 : decode cX8_ofKind 56 = .ok (.ireturn, 1) := by decide +kernel
set_option maxRecDepth 20000 in
theorem ggX8_wrongIn_X8_begin : GoodIn wsX8_wrongIn wsX8_begin := goodIn_r _ [6, 7, 8, 9, 10, 11, 57, 58, 59, 60, 61, 62, 63, 64, 65, 66, 67, 68, 69, 70, 71, 72, 73, 74, 75, 76, 77, 78, 79, 80, 81, 82, 83, 84, 85, 86, 87, 88, 89, 90, 91, 92, 93] (by decide +kernel) (by decide +kernel)
set_option maxRecDepth 20000 in
theorem gX8_wrongIn_X8_begin : GoodIn wsX8_wrongIn (wsV RX8 125 RX8 yX8_begin wsX8_begin) := goodIn_app (goodIn_of _ (by decide +kernel)) ggX8_wrongIn_X8_begin
set_option maxRecDepth 20000 in
theorem ggX8_wrongIn_X8_light : GoodIn wsX8_wrongIn wsX8_light := goodIn_r _ [15, 16, 7, 8, 17, 18, 19, 5, 20, 21, 22, 57, 58, 59, 60, 61, 62, 63, 64, 65, 66, 67, 68, 69, 70, 71, 72, 73, 74, 75, 76, 77, 78, 79, 80, 81, 82, 83, 84, 85, 86, 87, 88, 89, 90, 91, 92, 93] (by decide +kernel) (by decide +kernel)
set_option maxRecDepth 20000 in
theorem gX8_wrongIn_X8_light : GoodIn wsX8_wrongIn (wsV RX8 274 RX8 yX8_light wsX8_light) := goodIn_app (goodIn_of _ (by decide +kernel)) ggX8_wrongIn_X8_light
set_option maxRecDepth 20000 in
theorem ggX8_wrongIn_X8_goes : GoodIn wsX8_wrongIn wsX8_goes := goodIn_r _ [26, 7, 27, 8, 11, 28, 29, 30, 5, 31, 22, 32, 33, 34, 35, 36, 37, 38, 39, 40, 41, 42, 43, 44, 17, 18, 19, 20, 21, 45, 46, 47, 48, 49, 50, 51, 16, 52, 53, 54, 55, 56, 57, 58, 59, 60, 61, 62, 63, 64, 65, 66, 67, 68, 69, 70, 71, 72, 73, 74, 75, 76, 77, 78, 79, 80, 81, 82, 83, 84, 85, 86, 87, 88, 89, 90, 91, 92, 93] (by decide +kernel) (by decide +kernel)
set_option maxRecDepth 20000 in
theorem gX8_wrongIn_X8_goes : GoodIn wsX8_wrongIn (wsV RX8 128 RX8 yX8_goes wsX8_goes) := goodIn_app (goodIn_of _ (by decide +kernel)) ggX8_wrongIn_X8_goes
theorem dX8_wrongIn_0 : decode cX8_wrongIn 0 = .ok (.aload_n 0, 1) := by decide +kernel
theorem dX8_wrongIn_1 : decode cX8_wrongIn 1 = .ok (.invokevirtual 125, 3) := by decide +kernel
theorem dX8_wrongIn_4 : decode cX8_wrongIn 4 = .ok (.iconst 0, 1) := by decide +kernel
theorem dX8_wrongIn_5 : decode cX8_wrongIn 5 = .ok (.istore_n 3, 1) := by decide +kernel
theorem dX8_wrongIn_6 : decode cX8_wrongIn 6 = .ok (.iload_n 3, 1) := by decide +kernel
theorem dX8_wrongIn_7 : decode cX8_wrongIn 7 = .ok (.iload_n 2, 1) := by decide +kernel
theorem dX8_wrongIn_8 : decode cX8_wrongIn 8 = .ok (.if_icmp .ge 32, 3) := by decide +kernel
theorem dX8_wrongIn_11 : decode cX8_wrongIn 11 = .ok (.aload_n 0, 1) := by decide +kernel
theorem dX8_wrongIn_12 : decode cX8_wrongIn 12 = .ok (.getfield 21, 3) := by decide +kernel
theorem dX8_wrongIn_15 : decode cX8_wrongIn 15 = .ok (.iload_n 1, 1) := by decide +kernel
theorem dX8_wrongIn_16 : decode cX8_wrongIn 16 = .ok (.aaload, 1) := by decide +kernel
theorem dX8_wrongIn_17 : decode cX8_wrongIn 17 = .ok (.iload_n 3, 1) := by decide +kernel
theorem dX8_wrongIn_18 : decode cX8_wrongIn 18 = .ok (.laload, 1) := by decide +kernel
theorem dX8_wrongIn_19 : decode cX8_wrongIn 19 = .ok (.aload_n 0, 1) := by decide +kernel
theorem dX8_wrongIn_20 : decode cX8_wrongIn 20 = .ok (.invokevirtual 274, 3) := by decide +kernel
theorem dX8_wrongIn_23 : decode cX8_wrongIn 23 = .ok (.i2l, 1) := by decide +kernel
theorem dX8_wrongIn_24 : decode cX8_wrongIn 24 = .ok (.lcmp, 1) := by decide +kernel
theorem dX8_wrongIn_25 : decode cX8_wrongIn 25 = .ok (.ifCond .eq 5, 3) := by decide +kernel
theorem dX8_wrongIn_28 : decode cX8_wrongIn 28 = .ok (.iload_n 3, 1) := by decide +kernel
theorem dX8_wrongIn_29 : decode cX8_wrongIn 29 = .ok (.ireturn, 1) := by decide +kernel
theorem dX8_wrongIn_30 : decode cX8_wrongIn 30 = .ok (.aload_n 0, 1) := by decide +kernel
theorem dX8_wrongIn_31 : decode cX8_wrongIn 31 = .ok (.invokevirtual 128, 3) := by decide +kernel
theorem dX8_wrongIn_34 : decode cX8_wrongIn 34 = .ok (.iinc 3 1, 3) := by decide +kernel
theorem dX8_wrongIn_37 : decode cX8_wrongIn 37 = .ok (.goto (-31), 3) := by decide +kernel
theorem dX8_wrongIn_40 : decode cX8_wrongIn 40 = .ok (.iconst (-1), 1) := by decide +kernel
theorem dX8_wrongIn_41 : decode cX8_wrongIn 41 = .ok (.ireturn, 1) := by decide +kernel
set_option maxRecDepth 20000 in
theorem ggX8_noWatch_X8_in : GoodIn wsX8_noWatch wsX8_in := goodIn_r _ [7] (by decide +kernel) (by decide +kernel)
set_option maxRecDepth 20000 in
theorem gX8_noWatch_X8_in : GoodIn wsX8_noWatch (va_wsS RX8 91 yX8_in wsX8_in) := goodIn_app (goodIn_of _ (by decide +kernel)) ggX8_noWatch_X8_in
set_option maxRecDepth 20000 in
theorem ggX8_noWatch_X8_refuse : GoodIn wsX8_noWatch wsX8_refuse := goodIn_r _ [11, 12, 18, 19, 20, 21, 22, 23, 24, 25, 26, 27, 28, 29, 30, 31, 32, 33, 34, 35, 36, 37, 38, 39, 40, 41, 42, 43, 44, 45, 46, 47, 48, 49, 50, 51, 52, 53, 54] (by decide +kernel) (by decide +kernel)
set_option maxRecDepth 20000 in
theorem gX8_noWatch_X8_refuse : GoodIn wsX8_noWatch (wsV RX8 104 RX8 yX8_refuse wsX8_refuse) := goodIn_app (goodIn_of _ (by decide +kernel)) ggX8_noWatch_X8_refuse
set_option maxRecDepth 20000 in
theorem ggX8_noWatch_X8_noRow : GoodIn wsX8_noWatch wsX8_noRow := goodIn_r _ [16, 1, 17, 4, 5, 6, 7, 8, 9, 10, 11, 12, 18, 19, 20, 21, 22, 23, 24, 25, 26, 27, 28, 29, 30, 31, 32, 33, 34, 35, 36, 37, 38, 39, 40, 41, 42, 43, 44, 45, 46, 47, 48, 49, 50, 51, 52, 53, 54] (by decide +kernel) (by decide +kernel)
set_option maxRecDepth 20000 in
theorem gX8_noWatch_X8_noRow : GoodIn wsX8_noWatch (wsV RX8 108 RX8 yX8_noRow wsX8_noRow) := goodIn_app (goodIn_of _ (by decide +kernel)) ggX8_noWatch_X8_noRow
theorem dX8_noWatch_0 : decode cX8_noWatch 0 = .ok (.iload_n 1, 1) := by decide +kernel
theorem dX8_noWatch_1 : decode cX8_noWatch 1 = .ok (.i2l, 1) := by decide +kernel
theorem dX8_noWatch_2 : decode cX8_noWatch 2 = .ok (.lconst 0, 1) := by decide +kernel
theorem dX8_noWatch_3 : decode cX8_noWatch 3 = .ok (.ldc2_w 98, 3) := by decide +kernel
theorem dX8_noWatch_6 : decode cX8_noWatch 6 = .ok (.invokestatic 91, 3) := by decide +kernel
theorem dX8_noWatch_9 : decode cX8_noWatch 9 = .ok (.ifCond .eq 19, 3) := by decide +kernel
theorem dX8_noWatch_12 : decode cX8_noWatch 12 = .ok (.iload_n 2, 1) := by decide +kernel
theorem dX8_noWatch_13 : decode cX8_noWatch 13 = .ok (.i2l, 1) := by decide +kernel
theorem dX8_noWatch_14 : decode cX8_noWatch 14 = .ok (.lconst 0, 1) := by decide +kernel
theorem dX8_noWatch_15 : decode cX8_noWatch 15 = .ok (.ldc2_w 102, 3) := by decide +kernel
theorem dX8_noWatch_18 : decode cX8_noWatch 18 = .ok (.invokestatic 91, 3) := by decide +kernel
theorem dX8_noWatch_21 : decode cX8_noWatch 21 = .ok (.ifCond .eq 7, 3) := by decide +kernel
theorem dX8_noWatch_24 : decode cX8_noWatch 24 = .ok (.iload_n 3, 1) := by decide +kernel
theorem dX8_noWatch_25 : decode cX8_noWatch 25 = .ok (.ifCond .ne 10, 3) := by decide +kernel
theorem dX8_noWatch_28 : decode cX8_noWatch 28 = .ok (.aload_n 0, 1) := by decide +kernel
theorem dX8_noWatch_29 : decode cX8_noWatch 29 = .ok (.bipush (-2), 2) := by decide +kernel
theorem dX8_noWatch_31 : decode cX8_noWatch 31 = .ok (.invokevirtual 104, 3) := by decide +kernel
theorem dX8_noWatch_34 : decode cX8_noWatch 34 = .ok (.ireturn, 1) := by decide +kernel
theorem dX8_noWatch_35 : decode cX8_noWatch 35 = .ok (.aload_n 0, 1) := by decide +kernel
theorem dX8_noWatch_36 : decode cX8_noWatch 36 = .ok (.iload_n 1, 1) := by decide +kernel
theorem dX8_noWatch_37 : decode cX8_noWatch 37 = .ok (.invokevirtual 108, 3) := by decide +kernel
theorem dX8_noWatch_40 : decode cX8_noWatch 40 = .ok (.istore 4, 2) := by decide +kernel
theorem dX8_noWatch_42 : decode cX8_noWatch 42 = .ok (.iload 4, 2) := by decide +kernel
theorem dX8_noWatch_44 : decode cX8_noWatch 44 = .ok (.ifCond .eq 6, 3) := by decide +kernel
theorem dX8_noWatch_47 : decode cX8_noWatch 47 = .ok (.iload 4, 2) := by decide +kernel
theorem dX8_noWatch_49 : decode cX8_noWatch 49 = .ok (.ireturn, 1) := by decide +kernel
theorem dX8_noWatch_50 : decode cX8_noWatch 50 = .ok (.aload_n 0, 1) := by decide +kernel
theorem dX8_noWatch_51 : decode cX8_noWatch 51 = .ok (.getfield 16, 3) := by decide +kernel
theorem dX8_noWatch_54 : decode cX8_noWatch 54 = .ok (.iload_n 1, 1) := by decide +kernel
theorem dX8_noWatch_55 : decode cX8_noWatch 55 = .ok (.iaload, 1) := by decide +kernel
theorem dX8_noWatch_56 : decode cX8_noWatch 56 = .ok (.iload_n 2, 1) := by decide +kernel
theorem dX8_noWatch_57 : decode cX8_noWatch 57 = .ok (.if_icmp .ge 12, 3) := by decide +kernel
theorem dX8_noWatch_60 : decode cX8_noWatch 60 = .ok (.aload_n 0, 1) := by decide +kernel
theorem dX8_noWatch_61 : decode cX8_noWatch 61 = .ok (.bipush (-2), 2) := by decide +kernel
theorem dX8_noWatch_63 : decode cX8_noWatch 63 = .ok (.invokevirtual 104, 3) := by decide +kernel
theorem dX8_noWatch_66 : decode cX8_noWatch 66 = .ok (.goto 4, 3) := by decide +kernel
theorem dX8_noWatch_69 : decode cX8_noWatch 69 = .ok (.iconst 0, 1) := by decide +kernel
theorem dX8_noWatch_70 : decode cX8_noWatch 70 = .ok (.ireturn, 1) := by decide +kernel
set_option maxRecDepth 20000 in
theorem ggX8_judge_X8_noWatch : GoodIn wsX8_judge wsX8_noWatch := goodIn_r _ [5, 6, 7, 8, 9, 10, 4, 11, 12, 13, 14, 15, 16, 17, 18, 19, 20, 21, 78, 79, 80, 81, 82, 83, 84, 85, 86, 87, 88, 89, 90, 91, 92, 93, 94, 95, 96, 97, 98, 99, 100, 101, 102, 103, 104, 105, 106, 107, 108, 109, 110, 111, 112, 113, 114] (by decide +kernel) (by decide +kernel)
set_option maxRecDepth 20000 in
theorem gX8_judge_X8_noWatch : GoodIn wsX8_judge (wsV RX8 301 RX8 yX8_noWatch wsX8_noWatch) := goodIn_app (goodIn_of _ (by decide +kernel)) ggX8_judge_X8_noWatch
set_option maxRecDepth 20000 in
theorem ggX8_judge_X8_wrongIn : GoodIn wsX8_judge wsX8_wrongIn := goodIn_r _ [25, 26, 27, 28, 29, 4, 30, 31, 32, 33, 34, 35, 36, 37, 38, 39, 40, 41, 42, 43, 44, 45, 46, 47, 48, 49, 50, 51, 52, 53, 54, 55, 56, 57, 58, 59, 60, 61, 62, 63, 64, 65, 66, 67, 68, 9, 10, 11, 69, 70, 71, 72, 73, 74, 75, 76, 77, 78, 79, 80, 81, 82, 83, 84, 85, 86, 87, 88, 89, 90, 91, 92, 93, 94, 95, 96, 97, 98, 99, 100, 101, 102, 103, 104, 105, 106, 107, 108, 109, 110, 111, 112, 113, 114] (by decide +kernel) (by decide +kernel)
set_option maxRecDepth 20000 in
theorem gX8_judge_X8_wrongIn : GoodIn wsX8_judge (wsV RX8 305 RX8 yX8_wrongIn wsX8_wrongIn) := goodIn_app (goodIn_of _ (by decide +kernel)) ggX8_judge_X8_wrongIn
theorem dX8_judge_0 : decode cX8_judge 0 = .ok (.aload_n 0, 1) := by decide +kernel
theorem dX8_judge_1 : decode cX8_judge 1 = .ok (.iload_n 1, 1) := by decide +kernel
theorem dX8_judge_2 : decode cX8_judge 2 = .ok (.iload_n 2, 1) := by decide +kernel
theorem dX8_judge_3 : decode cX8_judge 3 = .ok (.iconst 1, 1) := by decide +kernel
theorem dX8_judge_4 : decode cX8_judge 4 = .ok (.invokevirtual 301, 3) := by decide +kernel
theorem dX8_judge_7 : decode cX8_judge 7 = .ok (.istore_n 3, 1) := by decide +kernel
theorem dX8_judge_8 : decode cX8_judge 8 = .ok (.iload_n 3, 1) := by decide +kernel
theorem dX8_judge_9 : decode cX8_judge 9 = .ok (.ifCond .eq 7, 3) := by decide +kernel
theorem dX8_judge_12 : decode cX8_judge 12 = .ok (.iload_n 3, 1) := by decide +kernel
theorem dX8_judge_13 : decode cX8_judge 13 = .ok (.goto 9, 3) := by decide +kernel
theorem dX8_judge_16 : decode cX8_judge 16 = .ok (.aload_n 0, 1) := by decide +kernel
theorem dX8_judge_17 : decode cX8_judge 17 = .ok (.iload_n 1, 1) := by decide +kernel
theorem dX8_judge_18 : decode cX8_judge 18 = .ok (.iload_n 2, 1) := by decide +kernel
theorem dX8_judge_19 : decode cX8_judge 19 = .ok (.invokevirtual 305, 3) := by decide +kernel
theorem dX8_judge_22 : decode cX8_judge 22 = .ok (.ireturn, 1) := by decide +kernel
set_option maxRecDepth 20000 in
theorem ggX8_starts_X8_isPerson : GoodIn wsX8_starts wsX8_isPerson := goodIn_r _ [7, 8, 9, 10, 6, 11, 82, 83, 84, 85, 86, 87, 88, 89, 90, 91, 92, 93, 94, 95, 96, 97, 98, 99, 100, 101, 102, 103, 104, 105, 106, 107, 108, 109, 110, 111, 112, 113, 114, 115, 116, 117, 118] (by decide +kernel) (by decide +kernel)
set_option maxRecDepth 20000 in
theorem gX8_starts_X8_isPerson : GoodIn wsX8_starts (wsV RX8 115 RX8 yX8_isPerson wsX8_isPerson) := goodIn_app (goodIn_of _ (by decide +kernel)) ggX8_starts_X8_isPerson
set_option maxRecDepth 20000 in
theorem ggX8_starts_X8_noWatch : GoodIn wsX8_starts wsX8_noWatch := goodIn_r _ [15, 16, 17, 18, 9, 10, 6, 11, 19, 20, 21, 22, 23, 24, 25, 26, 27, 28, 82, 83, 84, 85, 86, 87, 88, 89, 90, 91, 92, 93, 94, 95, 96, 97, 98, 99, 100, 101, 102, 103, 104, 105, 106, 107, 108, 109, 110, 111, 112, 113, 114, 115, 116, 117, 118] (by decide +kernel) (by decide +kernel)
set_option maxRecDepth 20000 in
theorem gX8_starts_X8_noWatch : GoodIn wsX8_starts (wsV RX8 301 RX8 yX8_noWatch wsX8_noWatch) := goodIn_app (goodIn_of _ (by decide +kernel)) ggX8_starts_X8_noWatch
set_option maxRecDepth 20000 in
theorem ggX8_starts_X8_wrongIn : GoodIn wsX8_starts wsX8_wrongIn := goodIn_r _ [32, 33, 34, 35, 36, 6, 37, 8, 38, 1, 39, 40, 41, 42, 43, 44, 2, 45, 46, 47, 48, 49, 50, 51, 52, 53, 54, 55, 56, 57, 58, 59, 60, 61, 62, 63, 64, 65, 66, 67, 68, 69, 70, 71, 72, 9, 10, 11, 73, 74, 75, 76, 77, 78, 79, 80, 81, 82, 83, 84, 85, 86, 87, 88, 89, 90, 91, 92, 93, 94, 95, 96, 97, 98, 99, 100, 101, 102, 103, 104, 105, 106, 107, 108, 109, 110, 111, 112, 113, 114, 115, 116, 117, 118] (by decide +kernel) (by decide +kernel)
set_option maxRecDepth 20000 in
theorem gX8_starts_X8_wrongIn : GoodIn wsX8_starts (wsV RX8 305 RX8 yX8_wrongIn wsX8_wrongIn) := goodIn_app (goodIn_of _ (by decide +kernel)) ggX8_starts_X8_wrongIn
theorem dX8_starts_0 : decode cX8_starts 0 = .ok (.aload_n 0, 1) := by decide +kernel
theorem dX8_starts_1 : decode cX8_starts 1 = .ok (.iload_n 1, 1) := by decide +kernel
theorem dX8_starts_2 : decode cX8_starts 2 = .ok (.iload_n 2, 1) := by decide +kernel
theorem dX8_starts_3 : decode cX8_starts 3 = .ok (.aload_n 0, 1) := by decide +kernel
theorem dX8_starts_4 : decode cX8_starts 4 = .ok (.iload_n 3, 1) := by decide +kernel
theorem dX8_starts_5 : decode cX8_starts 5 = .ok (.invokevirtual 115, 3) := by decide +kernel
theorem dX8_starts_8 : decode cX8_starts 8 = .ok (.invokevirtual 301, 3) := by decide +kernel
theorem dX8_starts_11 : decode cX8_starts 11 = .ok (.istore 4, 2) := by decide +kernel
theorem dX8_starts_13 : decode cX8_starts 13 = .ok (.iload 4, 2) := by decide +kernel
theorem dX8_starts_15 : decode cX8_starts 15 = .ok (.ifCond .eq 6, 3) := by decide +kernel
theorem dX8_starts_18 : decode cX8_starts 18 = .ok (.iload 4, 2) := by decide +kernel
theorem dX8_starts_20 : decode cX8_starts 20 = .ok (.ireturn, 1) := by decide +kernel
theorem dX8_starts_21 : decode cX8_starts 21 = .ok (.aload_n 0, 1) := by decide +kernel
theorem dX8_starts_22 : decode cX8_starts 22 = .ok (.getfield 56, 3) := by decide +kernel
theorem dX8_starts_25 : decode cX8_starts 25 = .ok (.iload_n 3, 1) := by decide +kernel
theorem dX8_starts_26 : decode cX8_starts 26 = .ok (.iaload, 1) := by decide +kernel
theorem dX8_starts_27 : decode cX8_starts 27 = .ok (.istore 5, 2) := by decide +kernel
theorem dX8_starts_29 : decode cX8_starts 29 = .ok (.iconst 0, 1) := by decide +kernel
theorem dX8_starts_30 : decode cX8_starts 30 = .ok (.istore 6, 2) := by decide +kernel
theorem dX8_starts_32 : decode cX8_starts 32 = .ok (.iconst 0, 1) := by decide +kernel
theorem dX8_starts_33 : decode cX8_starts 33 = .ok (.istore 7, 2) := by decide +kernel
theorem dX8_starts_35 : decode cX8_starts 35 = .ok (.iload 7, 2) := by decide +kernel
theorem dX8_starts_37 : decode cX8_starts 37 = .ok (.aload_n 0, 1) := by decide +kernel
theorem dX8_starts_38 : decode cX8_starts 38 = .ok (.getfield 37, 3) := by decide +kernel
theorem dX8_starts_41 : decode cX8_starts 41 = .ok (.if_icmp .ge 40, 3) := by decide +kernel
theorem dX8_starts_44 : decode cX8_starts 44 = .ok (.aload_n 0, 1) := by decide +kernel
theorem dX8_starts_45 : decode cX8_starts 45 = .ok (.getfield 56, 3) := by decide +kernel
theorem dX8_starts_48 : decode cX8_starts 48 = .ok (.iload_n 3, 1) := by decide +kernel
theorem dX8_starts_49 : decode cX8_starts 49 = .ok (.iload 7, 2) := by decide +kernel
theorem dX8_starts_51 : decode cX8_starts 51 = .ok (.iastore, 1) := by decide +kernel
theorem dX8_starts_52 : decode cX8_starts 52 = .ok (.iload 6, 2) := by decide +kernel
theorem dX8_starts_54 : decode cX8_starts 54 = .ok (.aload_n 0, 1) := by decide +kernel
theorem dX8_starts_55 : decode cX8_starts 55 = .ok (.iload_n 1, 1) := by decide +kernel
theorem dX8_starts_56 : decode cX8_starts 56 = .ok (.iload_n 2, 1) := by decide +kernel
theorem dX8_starts_57 : decode cX8_starts 57 = .ok (.invokevirtual 305, 3) := by decide +kernel
theorem dX8_starts_60 : decode cX8_starts 60 = .ok (.iconst (-1), 1) := by decide +kernel
theorem dX8_starts_61 : decode cX8_starts 61 = .ok (.if_icmp .ne 10, 3) := by decide +kernel
theorem dX8_starts_64 : decode cX8_starts 64 = .ok (.iconst 1, 1) := by decide +kernel
theorem dX8_starts_65 : decode cX8_starts 65 = .ok (.iload 7, 2) := by decide +kernel
theorem dX8_starts_67 : decode cX8_starts 67 = .ok (.ishl, 1) := by decide +kernel
theorem dX8_starts_68 : decode cX8_starts 68 = .ok (.goto 4, 3) := by decide +kernel
theorem dX8_starts_71 : decode cX8_starts 71 = .ok (.iconst 0, 1) := by decide +kernel
theorem dX8_starts_72 : decode cX8_starts 72 = .ok (.ior, 1) := by decide +kernel
theorem dX8_starts_73 : decode cX8_starts 73 = .ok (.istore 6, 2) := by decide +kernel
theorem dX8_starts_75 : decode cX8_starts 75 = .ok (.iinc 7 1, 3) := by decide +kernel
theorem dX8_starts_78 : decode cX8_starts 78 = .ok (.goto (-43), 3) := by decide +kernel
theorem dX8_starts_81 : decode cX8_starts 81 = .ok (.aload_n 0, 1) := by decide +kernel
theorem dX8_starts_82 : decode cX8_starts 82 = .ok (.getfield 56, 3) := by decide +kernel
theorem dX8_starts_85 : decode cX8_starts 85 = .ok (.iload_n 3, 1) := by decide +kernel
theorem dX8_starts_86 : decode cX8_starts 86 = .ok (.iload 5, 2) := by decide +kernel
theorem dX8_starts_88 : decode cX8_starts 88 = .ok (.iastore, 1) := by decide +kernel
theorem dX8_starts_89 : decode cX8_starts 89 = .ok (.iload 6, 2) := by decide +kernel
theorem dX8_starts_91 : decode cX8_starts 91 = .ok (.ireturn, 1) := by decide +kernel
set_option maxRecDepth 20000 in
theorem ggX8_kinds_X8_isPerson : GoodIn wsX8_kinds wsX8_isPerson := goodIn_r _ [6, 7, 8, 9, 5, 10, 82, 83, 84, 85, 86, 87, 88, 89, 90, 91, 92, 93, 94, 95, 96, 97, 98, 99, 100, 101, 102, 103, 104, 105, 106, 107, 108, 109, 110, 111, 112, 113, 114, 115, 116, 117, 118] (by decide +kernel) (by decide +kernel)
set_option maxRecDepth 20000 in
theorem gX8_kinds_X8_isPerson : GoodIn wsX8_kinds (wsV RX8 115 RX8 yX8_isPerson wsX8_isPerson) := goodIn_app (goodIn_of _ (by decide +kernel)) ggX8_kinds_X8_isPerson
set_option maxRecDepth 20000 in
theorem ggX8_kinds_X8_noWatch : GoodIn wsX8_kinds wsX8_noWatch := goodIn_r _ [14, 15, 16, 17, 8, 9, 5, 10, 18, 19, 20, 21, 22, 23, 24, 25, 26, 27, 82, 83, 84, 85, 86, 87, 88, 89, 90, 91, 92, 93, 94, 95, 96, 97, 98, 99, 100, 101, 102, 103, 104, 105, 106, 107, 108, 109, 110, 111, 112, 113, 114, 115, 116, 117, 118] (by decide +kernel) (by decide +kernel)
set_option maxRecDepth 20000 in
theorem gX8_kinds_X8_noWatch : GoodIn wsX8_kinds (wsV RX8 301 RX8 yX8_noWatch wsX8_noWatch) := goodIn_app (goodIn_of _ (by decide +kernel)) ggX8_kinds_X8_noWatch
set_option maxRecDepth 20000 in
theorem ggX8_kinds_X8_wrongIn : GoodIn wsX8_kinds wsX8_wrongIn := goodIn_r _ [31, 32, 33, 34, 35, 5, 36, 7, 37, 38, 39, 40, 41, 42, 43, 44, 45, 46, 47, 48, 49, 50, 1, 51, 52, 53, 54, 55, 56, 57, 58, 59, 60, 61, 62, 63, 64, 65, 66, 67, 68, 69, 70, 71, 72, 8, 9, 10, 73, 74, 75, 76, 77, 78, 79, 80, 81, 82, 83, 84, 85, 86, 87, 88, 89, 90, 91, 92, 93, 94, 95, 96, 97, 98, 99, 100, 101, 102, 103, 104, 105, 106, 107, 108, 109, 110, 111, 112, 113, 114, 115, 116, 117, 118] (by decide +kernel) (by decide +kernel)
set_option maxRecDepth 20000 in
theorem gX8_kinds_X8_wrongIn : GoodIn wsX8_kinds (wsV RX8 305 RX8 yX8_wrongIn wsX8_wrongIn) := goodIn_app (goodIn_of _ (by decide +kernel)) ggX8_kinds_X8_wrongIn
theorem dX8_kinds_0 : decode cX8_kinds 0 = .ok (.aload_n 0, 1) := by decide +kernel
theorem dX8_kinds_1 : decode cX8_kinds 1 = .ok (.iload_n 1, 1) := by decide +kernel
theorem dX8_kinds_2 : decode cX8_kinds 2 = .ok (.iload_n 2, 1) := by decide +kernel
theorem dX8_kinds_3 : decode cX8_kinds 3 = .ok (.aload_n 0, 1) := by decide +kernel
theorem dX8_kinds_4 : decode cX8_kinds 4 = .ok (.iload_n 3, 1) := by decide +kernel
theorem dX8_kinds_5 : decode cX8_kinds 5 = .ok (.invokevirtual 115, 3) := by decide +kernel
theorem dX8_kinds_8 : decode cX8_kinds 8 = .ok (.invokevirtual 301, 3) := by decide +kernel
theorem dX8_kinds_11 : decode cX8_kinds 11 = .ok (.istore 4, 2) := by decide +kernel
theorem dX8_kinds_13 : decode cX8_kinds 13 = .ok (.iload 4, 2) := by decide +kernel
theorem dX8_kinds_15 : decode cX8_kinds 15 = .ok (.ifCond .eq 6, 3) := by decide +kernel
theorem dX8_kinds_18 : decode cX8_kinds 18 = .ok (.iload 4, 2) := by decide +kernel
theorem dX8_kinds_20 : decode cX8_kinds 20 = .ok (.ireturn, 1) := by decide +kernel
theorem dX8_kinds_21 : decode cX8_kinds 21 = .ok (.aload_n 0, 1) := by decide +kernel
theorem dX8_kinds_22 : decode cX8_kinds 22 = .ok (.getfield 44, 3) := by decide +kernel
theorem dX8_kinds_25 : decode cX8_kinds 25 = .ok (.iload_n 3, 1) := by decide +kernel
theorem dX8_kinds_26 : decode cX8_kinds 26 = .ok (.iaload, 1) := by decide +kernel
theorem dX8_kinds_27 : decode cX8_kinds 27 = .ok (.istore 5, 2) := by decide +kernel
theorem dX8_kinds_29 : decode cX8_kinds 29 = .ok (.iconst 0, 1) := by decide +kernel
theorem dX8_kinds_30 : decode cX8_kinds 30 = .ok (.istore 6, 2) := by decide +kernel
theorem dX8_kinds_32 : decode cX8_kinds 32 = .ok (.iconst 0, 1) := by decide +kernel
theorem dX8_kinds_33 : decode cX8_kinds 33 = .ok (.istore 7, 2) := by decide +kernel
theorem dX8_kinds_35 : decode cX8_kinds 35 = .ok (.iload 7, 2) := by decide +kernel
theorem dX8_kinds_37 : decode cX8_kinds 37 = .ok (.iconst 5, 1) := by decide +kernel
theorem dX8_kinds_38 : decode cX8_kinds 38 = .ok (.if_icmp .gt 40, 3) := by decide +kernel
theorem dX8_kinds_41 : decode cX8_kinds 41 = .ok (.aload_n 0, 1) := by decide +kernel
theorem dX8_kinds_42 : decode cX8_kinds 42 = .ok (.getfield 44, 3) := by decide +kernel
theorem dX8_kinds_45 : decode cX8_kinds 45 = .ok (.iload_n 3, 1) := by decide +kernel
theorem dX8_kinds_46 : decode cX8_kinds 46 = .ok (.iload 7, 2) := by decide +kernel
theorem dX8_kinds_48 : decode cX8_kinds 48 = .ok (.iastore, 1) := by decide +kernel
theorem dX8_kinds_49 : decode cX8_kinds 49 = .ok (.iload 6, 2) := by decide +kernel
theorem dX8_kinds_51 : decode cX8_kinds 51 = .ok (.aload_n 0, 1) := by decide +kernel
theorem dX8_kinds_52 : decode cX8_kinds 52 = .ok (.iload_n 1, 1) := by decide +kernel
theorem dX8_kinds_53 : decode cX8_kinds 53 = .ok (.iload_n 2, 1) := by decide +kernel
theorem dX8_kinds_54 : decode cX8_kinds 54 = .ok (.invokevirtual 305, 3) := by decide +kernel
theorem dX8_kinds_57 : decode cX8_kinds 57 = .ok (.iconst (-1), 1) := by decide +kernel
theorem dX8_kinds_58 : decode cX8_kinds 58 = .ok (.if_icmp .ne 10, 3) := by decide +kernel
theorem dX8_kinds_61 : decode cX8_kinds 61 = .ok (.iconst 1, 1) := by decide +kernel
theorem dX8_kinds_62 : decode cX8_kinds 62 = .ok (.iload 7, 2) := by decide +kernel
theorem dX8_kinds_64 : decode cX8_kinds 64 = .ok (.ishl, 1) := by decide +kernel
theorem dX8_kinds_65 : decode cX8_kinds 65 = .ok (.goto 4, 3) := by decide +kernel
theorem dX8_kinds_68 : decode cX8_kinds 68 = .ok (.iconst 0, 1) := by decide +kernel
theorem dX8_kinds_69 : decode cX8_kinds 69 = .ok (.ior, 1) := by decide +kernel
theorem dX8_kinds_70 : decode cX8_kinds 70 = .ok (.istore 6, 2) := by decide +kernel
theorem dX8_kinds_72 : decode cX8_kinds 72 = .ok (.iinc 7 1, 3) := by decide +kernel
theorem dX8_kinds_75 : decode cX8_kinds 75 = .ok (.goto (-40), 3) := by decide +kernel
theorem dX8_kinds_78 : decode cX8_kinds 78 = .ok (.aload_n 0, 1) := by decide +kernel
theorem dX8_kinds_79 : decode cX8_kinds 79 = .ok (.getfield 44, 3) := by decide +kernel
theorem dX8_kinds_82 : decode cX8_kinds 82 = .ok (.iload_n 3, 1) := by decide +kernel
theorem dX8_kinds_83 : decode cX8_kinds 83 = .ok (.iload 5, 2) := by decide +kernel
theorem dX8_kinds_85 : decode cX8_kinds 85 = .ok (.iastore, 1) := by decide +kernel
theorem dX8_kinds_86 : decode cX8_kinds 86 = .ok (.iload 6, 2) := by decide +kernel
theorem dX8_kinds_88 : decode cX8_kinds 88 = .ok (.ireturn, 1) := by decide +kernel
theorem dX8_worstAt_0 : decode cX8_worstAt 0 = .ok (.iconst 0, 1) := by decide +kernel
theorem dX8_worstAt_1 : decode cX8_worstAt 1 = .ok (.istore_n 2, 1) := by decide +kernel
theorem dX8_worstAt_2 : decode cX8_worstAt 2 = .ok (.iconst 0, 1) := by decide +kernel
theorem dX8_worstAt_3 : decode cX8_worstAt 3 = .ok (.istore_n 3, 1) := by decide +kernel
theorem dX8_worstAt_4 : decode cX8_worstAt 4 = .ok (.iload_n 3, 1) := by decide +kernel
theorem dX8_worstAt_5 : decode cX8_worstAt 5 = .ok (.aload_n 0, 1) := by decide +kernel
theorem dX8_worstAt_6 : decode cX8_worstAt 6 = .ok (.getfield 37, 3) := by decide +kernel
theorem dX8_worstAt_9 : decode cX8_worstAt 9 = .ok (.if_icmp .ge 73, 3) := by decide +kernel
theorem dX8_worstAt_12 : decode cX8_worstAt 12 = .ok (.iconst 0, 1) := by decide +kernel
theorem dX8_worstAt_13 : decode cX8_worstAt 13 = .ok (.istore 4, 2) := by decide +kernel
theorem dX8_worstAt_15 : decode cX8_worstAt 15 = .ok (.iconst 0, 1) := by decide +kernel
theorem dX8_worstAt_16 : decode cX8_worstAt 16 = .ok (.istore 5, 2) := by decide +kernel
theorem dX8_worstAt_18 : decode cX8_worstAt 18 = .ok (.iload 5, 2) := by decide +kernel
theorem dX8_worstAt_20 : decode cX8_worstAt 20 = .ok (.aload_n 0, 1) := by decide +kernel
theorem dX8_worstAt_21 : decode cX8_worstAt 21 = .ok (.getfield 37, 3) := by decide +kernel
theorem dX8_worstAt_24 : decode cX8_worstAt 24 = .ok (.if_icmp .ge 39, 3) := by decide +kernel
theorem dX8_worstAt_27 : decode cX8_worstAt 27 = .ok (.iload 4, 2) := by decide +kernel
theorem dX8_worstAt_29 : decode cX8_worstAt 29 = .ok (.aload_n 0, 1) := by decide +kernel
theorem dX8_worstAt_30 : decode cX8_worstAt 30 = .ok (.getfield 82, 3) := by decide +kernel
theorem dX8_worstAt_33 : decode cX8_worstAt 33 = .ok (.iload 5, 2) := by decide +kernel
theorem dX8_worstAt_35 : decode cX8_worstAt 35 = .ok (.aaload, 1) := by decide +kernel
theorem dX8_worstAt_36 : decode cX8_worstAt 36 = .ok (.iload_n 1, 1) := by decide +kernel
theorem dX8_worstAt_37 : decode cX8_worstAt 37 = .ok (.iaload, 1) := by decide +kernel
theorem dX8_worstAt_38 : decode cX8_worstAt 38 = .ok (.aload_n 0, 1) := by decide +kernel
theorem dX8_worstAt_39 : decode cX8_worstAt 39 = .ok (.getfield 82, 3) := by decide +kernel
theorem dX8_worstAt_42 : decode cX8_worstAt 42 = .ok (.iload_n 3, 1) := by decide +kernel
theorem dX8_worstAt_43 : decode cX8_worstAt 43 = .ok (.aaload, 1) := by decide +kernel
theorem dX8_worstAt_44 : decode cX8_worstAt 44 = .ok (.iload_n 1, 1) := by decide +kernel
theorem dX8_worstAt_45 : decode cX8_worstAt 45 = .ok (.iaload, 1) := by decide +kernel
theorem dX8_worstAt_46 : decode cX8_worstAt 46 = .ok (.if_icmp .ne 7, 3) := by decide +kernel
theorem dX8_worstAt_49 : decode cX8_worstAt 49 = .ok (.iconst 1, 1) := by decide +kernel
theorem dX8_worstAt_50 : decode cX8_worstAt 50 = .ok (.goto 4, 3) := by decide +kernel
theorem dX8_worstAt_53 : decode cX8_worstAt 53 = .ok (.iconst 0, 1) := by decide +kernel
theorem dX8_worstAt_54 : decode cX8_worstAt 54 = .ok (.iadd, 1) := by decide +kernel
theorem dX8_worstAt_55 : decode cX8_worstAt 55 = .ok (.istore 4, 2) := by decide +kernel
theorem dX8_worstAt_57 : decode cX8_worstAt 57 = .ok (.iinc 5 1, 3) := by decide +kernel
theorem dX8_worstAt_60 : decode cX8_worstAt 60 = .ok (.goto (-42), 3) := by decide +kernel
theorem dX8_worstAt_63 : decode cX8_worstAt 63 = .ok (.iload 4, 2) := by decide +kernel
theorem dX8_worstAt_65 : decode cX8_worstAt 65 = .ok (.iload_n 2, 1) := by decide +kernel
theorem dX8_worstAt_66 : decode cX8_worstAt 66 = .ok (.if_icmp .le 8, 3) := by decide +kernel
theorem dX8_worstAt_69 : decode cX8_worstAt 69 = .ok (.iload 4, 2) := by decide +kernel
theorem dX8_worstAt_71 : decode cX8_worstAt 71 = .ok (.goto 4, 3) := by decide +kernel
theorem dX8_worstAt_74 : decode cX8_worstAt 74 = .ok (.iload_n 2, 1) := by decide +kernel
theorem dX8_worstAt_75 : decode cX8_worstAt 75 = .ok (.istore_n 2, 1) := by decide +kernel
theorem dX8_worstAt_76 : decode cX8_worstAt 76 = .ok (.iinc 3 1, 3) := by decide +kernel
theorem dX8_worstAt_79 : decode cX8_worstAt 79 = .ok (.goto (-75), 3) := by decide +kernel
theorem dX8_worstAt_82 : decode cX8_worstAt 82 = .ok (.iload_n 2, 1) := by decide +kernel
theorem dX8_worstAt_83 : decode cX8_worstAt 83 = .ok (.ireturn, 1) := by decide +kernel
set_option maxRecDepth 20000 in
theorem ggX8_next_X8_isPerson : GoodIn wsX8_next wsX8_isPerson := goodIn_r _ [8, 9, 10, 11, 7, 12, 70, 71, 72, 73, 74, 75, 76, 77, 78, 79, 80, 81, 82, 83, 84, 85, 86, 87, 88, 89, 90, 91, 92, 93, 94, 95, 96, 97, 98, 99, 100, 101, 102, 103, 104, 105, 106] (by decide +kernel) (by decide +kernel)
set_option maxRecDepth 20000 in
theorem gX8_next_X8_isPerson : GoodIn wsX8_next (wsV RX8 115 RX8 yX8_isPerson wsX8_isPerson) := goodIn_app (goodIn_of _ (by decide +kernel)) ggX8_next_X8_isPerson
set_option maxRecDepth 20000 in
theorem ggX8_next_X8_refuse : GoodIn wsX8_next wsX8_refuse := goodIn_r _ [16, 17, 70, 71, 72, 73, 74, 75, 76, 77, 78, 79, 80, 81, 82, 83, 84, 85, 86, 87, 88, 89, 90, 91, 92, 93, 94, 95, 96, 97, 98, 99, 100, 101, 102, 103, 104, 105, 106] (by decide +kernel) (by decide +kernel)
set_option maxRecDepth 20000 in
theorem gX8_next_X8_refuse : GoodIn wsX8_next (wsV RX8 104 RX8 yX8_refuse wsX8_refuse) := goodIn_app (goodIn_of _ (by decide +kernel)) ggX8_next_X8_refuse
set_option maxRecDepth 20000 in
theorem ggX8_next_X8_begin : GoodIn wsX8_next wsX8_begin := goodIn_r _ [21, 9, 22, 1, 23, 24, 70, 71, 72, 73, 74, 75, 76, 77, 78, 79, 80, 81, 82, 83, 84, 85, 86, 87, 88, 89, 90, 91, 92, 93, 94, 95, 96, 97, 98, 99, 100, 101, 102, 103, 104, 105, 106] (by decide +kernel) (by decide +kernel)
set_option maxRecDepth 20000 in
theorem gX8_next_X8_begin : GoodIn wsX8_next (wsV RX8 125 RX8 yX8_begin wsX8_begin) := goodIn_app (goodIn_of _ (by decide +kernel)) ggX8_next_X8_begin
set_option maxRecDepth 20000 in
theorem ggX8_next_X8_light : GoodIn wsX8_next wsX8_light := goodIn_r _ [28, 2, 9, 22, 29, 30, 31, 7, 32, 33, 34, 70, 71, 72, 73, 74, 75, 76, 77, 78, 79, 80, 81, 82, 83, 84, 85, 86, 87, 88, 89, 90, 91, 92, 93, 94, 95, 96, 97, 98, 99, 100, 101, 102, 103, 104, 105, 106] (by decide +kernel) (by decide +kernel)
set_option maxRecDepth 20000 in
theorem gX8_next_X8_light : GoodIn wsX8_next (wsV RX8 274 RX8 yX8_light wsX8_light) := goodIn_app (goodIn_of _ (by decide +kernel)) ggX8_next_X8_light
set_option maxRecDepth 20000 in
theorem ggX8_next_X8_goes : GoodIn wsX8_next wsX8_goes := goodIn_r _ [38, 9, 39, 22, 24, 40, 41, 42, 7, 43, 34, 44, 45, 46, 47, 48, 49, 50, 51, 52, 53, 54, 55, 56, 29, 30, 31, 32, 33, 10, 11, 12, 57, 58, 59, 60, 2, 61, 62, 63, 64, 65, 70, 71, 72, 73, 74, 75, 76, 77, 78, 79, 80, 81, 82, 83, 84, 85, 86, 87, 88, 89, 90, 91, 92, 93, 94, 95, 96, 97, 98, 99, 100, 101, 102, 103, 104, 105, 106] (by decide +kernel) (by decide +kernel)
set_option maxRecDepth 20000 in
theorem gX8_next_X8_goes : GoodIn wsX8_next (wsV RX8 128 RX8 yX8_goes wsX8_goes) := goodIn_app (goodIn_of _ (by decide +kernel)) ggX8_next_X8_goes
set_option maxRecDepth 20000 in
theorem ggX8_next_X8_worstAt : GoodIn wsX8_next wsX8_worstAt := goodIn_r _ [69, 2, 3, 70, 71, 72, 73, 74, 75, 76, 77, 78, 79, 80, 81, 82, 83, 84, 85, 86, 87, 88, 89, 90, 91, 92, 93, 94, 95, 96, 97, 98, 99, 100, 101, 102, 103, 104, 105, 106] (by decide +kernel) (by decide +kernel)
set_option maxRecDepth 20000 in
theorem gX8_next_X8_worstAt : GoodIn wsX8_next (wsV RX8 308 RX8 yX8_worstAt wsX8_worstAt) := goodIn_app (goodIn_of _ (by decide +kernel)) ggX8_next_X8_worstAt
theorem dX8_next_0 : decode cX8_next 0 = .ok (.aload_n 0, 1) := by decide +kernel
theorem dX8_next_1 : decode cX8_next 1 = .ok (.iload_n 1, 1) := by decide +kernel
theorem dX8_next_2 : decode cX8_next 2 = .ok (.invokevirtual 115, 3) := by decide +kernel
theorem dX8_next_5 : decode cX8_next 5 = .ok (.ifCond .ne 10, 3) := by decide +kernel
theorem dX8_next_8 : decode cX8_next 8 = .ok (.aload_n 0, 1) := by decide +kernel
theorem dX8_next_9 : decode cX8_next 9 = .ok (.bipush (-2), 2) := by decide +kernel
theorem dX8_next_11 : decode cX8_next 11 = .ok (.invokevirtual 104, 3) := by decide +kernel
theorem dX8_next_14 : decode cX8_next 14 = .ok (.ireturn, 1) := by decide +kernel
theorem dX8_next_15 : decode cX8_next 15 = .ok (.aload_n 0, 1) := by decide +kernel
theorem dX8_next_16 : decode cX8_next 16 = .ok (.getfield 56, 3) := by decide +kernel
theorem dX8_next_19 : decode cX8_next 19 = .ok (.iload_n 1, 1) := by decide +kernel
theorem dX8_next_20 : decode cX8_next 20 = .ok (.iaload, 1) := by decide +kernel
theorem dX8_next_21 : decode cX8_next 21 = .ok (.istore_n 2, 1) := by decide +kernel
theorem dX8_next_22 : decode cX8_next 22 = .ok (.iconst 0, 1) := by decide +kernel
theorem dX8_next_23 : decode cX8_next 23 = .ok (.istore_n 3, 1) := by decide +kernel
theorem dX8_next_24 : decode cX8_next 24 = .ok (.iload_n 3, 1) := by decide +kernel
theorem dX8_next_25 : decode cX8_next 25 = .ok (.aload_n 0, 1) := by decide +kernel
theorem dX8_next_26 : decode cX8_next 26 = .ok (.getfield 37, 3) := by decide +kernel
theorem dX8_next_29 : decode cX8_next 29 = .ok (.if_icmp .ge 53, 3) := by decide +kernel
theorem dX8_next_32 : decode cX8_next 32 = .ok (.aload_n 0, 1) := by decide +kernel
theorem dX8_next_33 : decode cX8_next 33 = .ok (.getfield 56, 3) := by decide +kernel
theorem dX8_next_36 : decode cX8_next 36 = .ok (.iload_n 1, 1) := by decide +kernel
theorem dX8_next_37 : decode cX8_next 37 = .ok (.iload_n 3, 1) := by decide +kernel
theorem dX8_next_38 : decode cX8_next 38 = .ok (.iastore, 1) := by decide +kernel
theorem dX8_next_39 : decode cX8_next 39 = .ok (.aload_n 0, 1) := by decide +kernel
theorem dX8_next_40 : decode cX8_next 40 = .ok (.invokevirtual 125, 3) := by decide +kernel
theorem dX8_next_43 : decode cX8_next 43 = .ok (.iconst 0, 1) := by decide +kernel
theorem dX8_next_44 : decode cX8_next 44 = .ok (.istore 4, 2) := by decide +kernel
theorem dX8_next_46 : decode cX8_next 46 = .ok (.iload 4, 2) := by decide +kernel
theorem dX8_next_48 : decode cX8_next 48 = .ok (.bipush 24, 2) := by decide +kernel
theorem dX8_next_50 : decode cX8_next 50 = .ok (.if_icmp .gt 26, 3) := by decide +kernel
theorem dX8_next_53 : decode cX8_next 53 = .ok (.aload_n 0, 1) := by decide +kernel
theorem dX8_next_54 : decode cX8_next 54 = .ok (.getfield 82, 3) := by decide +kernel
theorem dX8_next_57 : decode cX8_next 57 = .ok (.iload_n 3, 1) := by decide +kernel
theorem dX8_next_58 : decode cX8_next 58 = .ok (.aaload, 1) := by decide +kernel
theorem dX8_next_59 : decode cX8_next 59 = .ok (.iload 4, 2) := by decide +kernel
theorem dX8_next_61 : decode cX8_next 61 = .ok (.aload_n 0, 1) := by decide +kernel
theorem dX8_next_62 : decode cX8_next 62 = .ok (.invokevirtual 274, 3) := by decide +kernel
theorem dX8_next_65 : decode cX8_next 65 = .ok (.iastore, 1) := by decide +kernel
theorem dX8_next_66 : decode cX8_next 66 = .ok (.aload_n 0, 1) := by decide +kernel
theorem dX8_next_67 : decode cX8_next 67 = .ok (.invokevirtual 128, 3) := by decide +kernel
theorem dX8_next_70 : decode cX8_next 70 = .ok (.iinc 4 1, 3) := by decide +kernel
theorem dX8_next_73 : decode cX8_next 73 = .ok (.goto (-27), 3) := by decide +kernel
theorem dX8_next_76 : decode cX8_next 76 = .ok (.iinc 3 1, 3) := by decide +kernel
theorem dX8_next_79 : decode cX8_next 79 = .ok (.goto (-55), 3) := by decide +kernel
theorem dX8_next_82 : decode cX8_next 82 = .ok (.aload_n 0, 1) := by decide +kernel
theorem dX8_next_83 : decode cX8_next 83 = .ok (.getfield 56, 3) := by decide +kernel
theorem dX8_next_86 : decode cX8_next 86 = .ok (.iload_n 1, 1) := by decide +kernel
theorem dX8_next_87 : decode cX8_next 87 = .ok (.iload_n 2, 1) := by decide +kernel
theorem dX8_next_88 : decode cX8_next 88 = .ok (.iastore, 1) := by decide +kernel
theorem dX8_next_89 : decode cX8_next 89 = .ok (.iconst (-1), 1) := by decide +kernel
theorem dX8_next_90 : decode cX8_next 90 = .ok (.istore_n 3, 1) := by decide +kernel
theorem dX8_next_91 : decode cX8_next 91 = .ok (.aload_n 0, 1) := by decide +kernel
theorem dX8_next_92 : decode cX8_next 92 = .ok (.getfield 37, 3) := by decide +kernel
theorem dX8_next_95 : decode cX8_next 95 = .ok (.istore 4, 2) := by decide +kernel
theorem dX8_next_97 : decode cX8_next 97 = .ok (.iconst 0, 1) := by decide +kernel
theorem dX8_next_98 : decode cX8_next 98 = .ok (.istore 5, 2) := by decide +kernel
theorem dX8_next_100 : decode cX8_next 100 = .ok (.iload 5, 2) := by decide +kernel
theorem dX8_next_102 : decode cX8_next 102 = .ok (.bipush 24, 2) := by decide +kernel
theorem dX8_next_104 : decode cX8_next 104 = .ok (.if_icmp .gt 47, 3) := by decide +kernel
theorem dX8_next_107 : decode cX8_next 107 = .ok (.aload_n 0, 1) := by decide +kernel
theorem dX8_next_108 : decode cX8_next 108 = .ok (.iload 5, 2) := by decide +kernel
theorem dX8_next_110 : decode cX8_next 110 = .ok (.invokevirtual 308, 3) := by decide +kernel
theorem dX8_next_113 : decode cX8_next 113 = .ok (.istore 6, 2) := by decide +kernel
theorem dX8_next_115 : decode cX8_next 115 = .ok (.iload 6, 2) := by decide +kernel
theorem dX8_next_117 : decode cX8_next 117 = .ok (.iload 4, 2) := by decide +kernel
theorem dX8_next_119 : decode cX8_next 119 = .ok (.if_icmp .ge 8, 3) := by decide +kernel
theorem dX8_next_122 : decode cX8_next 122 = .ok (.iload 5, 2) := by decide +kernel
theorem dX8_next_124 : decode cX8_next 124 = .ok (.goto 4, 3) := by decide +kernel
theorem dX8_next_127 : decode cX8_next 127 = .ok (.iload_n 3, 1) := by decide +kernel
theorem dX8_next_128 : decode cX8_next 128 = .ok (.istore_n 3, 1) := by decide +kernel
theorem dX8_next_129 : decode cX8_next 129 = .ok (.iload 6, 2) := by decide +kernel
theorem dX8_next_131 : decode cX8_next 131 = .ok (.iload 4, 2) := by decide +kernel
theorem dX8_next_133 : decode cX8_next 133 = .ok (.if_icmp .ge 8, 3) := by decide +kernel
theorem dX8_next_136 : decode cX8_next 136 = .ok (.iload 6, 2) := by decide +kernel
theorem dX8_next_138 : decode cX8_next 138 = .ok (.goto 5, 3) := by decide +kernel
theorem dX8_next_141 : decode cX8_next 141 = .ok (.iload 4, 2) := by decide +kernel
theorem dX8_next_143 : decode cX8_next 143 = .ok (.istore 4, 2) := by decide +kernel
theorem dX8_next_145 : decode cX8_next 145 = .ok (.iinc 5 1, 3) := by decide +kernel
theorem dX8_next_148 : decode cX8_next 148 = .ok (.goto (-48), 3) := by decide +kernel
theorem dX8_next_151 : decode cX8_next 151 = .ok (.iload_n 3, 1) := by decide +kernel
theorem dX8_next_152 : decode cX8_next 152 = .ok (.ireturn, 1) := by decide +kernel
theorem dX8_besides_0 : decode cX8_besides 0 = .ok (.iload_n 1, 1) := by decide +kernel
theorem dX8_besides_1 : decode cX8_besides 1 = .ok (.istore_n 2, 1) := by decide +kernel
theorem dX8_besides_2 : decode cX8_besides 2 = .ok (.iconst 0, 1) := by decide +kernel
theorem dX8_besides_3 : decode cX8_besides 3 = .ok (.istore_n 3, 1) := by decide +kernel
theorem dX8_besides_4 : decode cX8_besides 4 = .ok (.iload_n 3, 1) := by decide +kernel
theorem dX8_besides_5 : decode cX8_besides 5 = .ok (.aload_n 0, 1) := by decide +kernel
theorem dX8_besides_6 : decode cX8_besides 6 = .ok (.getfield 37, 3) := by decide +kernel
theorem dX8_besides_9 : decode cX8_besides 9 = .ok (.if_icmp .ge 31, 3) := by decide +kernel
theorem dX8_besides_12 : decode cX8_besides 12 = .ok (.iload_n 2, 1) := by decide +kernel
theorem dX8_besides_13 : decode cX8_besides 13 = .ok (.iload_n 1, 1) := by decide +kernel
theorem dX8_besides_14 : decode cX8_besides 14 = .ok (.iload_n 3, 1) := by decide +kernel
theorem dX8_besides_15 : decode cX8_besides 15 = .ok (.ishr, 1) := by decide +kernel
theorem dX8_besides_16 : decode cX8_besides 16 = .ok (.iconst 1, 1) := by decide +kernel
theorem dX8_besides_17 : decode cX8_besides 17 = .ok (.iand, 1) := by decide +kernel
theorem dX8_besides_18 : decode cX8_besides 18 = .ok (.iconst 1, 1) := by decide +kernel
theorem dX8_besides_19 : decode cX8_besides 19 = .ok (.if_icmp .ne 12, 3) := by decide +kernel
theorem dX8_besides_22 : decode cX8_besides 22 = .ok (.aload_n 0, 1) := by decide +kernel
theorem dX8_besides_23 : decode cX8_besides 23 = .ok (.getfield 41, 3) := by decide +kernel
theorem dX8_besides_26 : decode cX8_besides 26 = .ok (.iload_n 3, 1) := by decide +kernel
theorem dX8_besides_27 : decode cX8_besides 27 = .ok (.iaload, 1) := by decide +kernel
theorem dX8_besides_28 : decode cX8_besides 28 = .ok (.goto 4, 3) := by decide +kernel
theorem dX8_besides_31 : decode cX8_besides 31 = .ok (.iconst 0, 1) := by decide +kernel
theorem dX8_besides_32 : decode cX8_besides 32 = .ok (.ior, 1) := by decide +kernel
theorem dX8_besides_33 : decode cX8_besides 33 = .ok (.istore_n 2, 1) := by decide +kernel
theorem dX8_besides_34 : decode cX8_besides 34 = .ok (.iinc 3 1, 3) := by decide +kernel
theorem dX8_besides_37 : decode cX8_besides 37 = .ok (.goto (-33), 3) := by decide +kernel
theorem dX8_besides_40 : decode cX8_besides 40 = .ok (.iload_n 2, 1) := by decide +kernel
theorem dX8_besides_41 : decode cX8_besides 41 = .ok (.ireturn, 1) := by decide +kernel
set_option maxRecDepth 20000 in
theorem ggX8_hiddenHours_X8_begin : GoodIn wsX8_hiddenHours wsX8_begin := goodIn_r _ [7, 8, 9, 10, 11, 12, 66, 67, 68, 69, 70, 71, 72, 73, 74, 75, 76, 77, 78, 79, 80, 81, 82, 83, 84, 85, 86, 87, 88, 89, 90, 91, 92, 93, 94, 95, 96, 97, 98, 99, 100, 101, 102] (by decide +kernel) (by decide +kernel)
set_option maxRecDepth 20000 in
theorem gX8_hiddenHours_X8_begin : GoodIn wsX8_hiddenHours (wsV RX8 125 RX8 yX8_begin wsX8_begin) := goodIn_app (goodIn_of _ (by decide +kernel)) ggX8_hiddenHours_X8_begin
set_option maxRecDepth 20000 in
theorem ggX8_hiddenHours_X8_dark : GoodIn wsX8_hiddenHours wsX8_dark := goodIn_r _ [16, 17, 18, 19, 20, 6, 21, 8, 9, 22, 23, 24, 25, 26, 27, 66, 67, 68, 69, 70, 71, 72, 73, 74, 75, 76, 77, 78, 79, 80, 81, 82, 83, 84, 85, 86, 87, 88, 89, 90, 91, 92, 93, 94, 95, 96, 97, 98, 99, 100, 101, 102] (by decide +kernel) (by decide +kernel)
set_option maxRecDepth 20000 in
theorem gX8_hiddenHours_X8_dark : GoodIn wsX8_hiddenHours (wsV RX8 288 RX8 yX8_dark wsX8_dark) := goodIn_app (goodIn_of _ (by decide +kernel)) ggX8_hiddenHours_X8_dark
set_option maxRecDepth 20000 in
theorem ggX8_hiddenHours_X8_goes : GoodIn wsX8_hiddenHours wsX8_goes := goodIn_r _ [31, 8, 32, 9, 12, 33, 34, 35, 6, 36, 27, 37, 38, 39, 40, 41, 42, 43, 44, 45, 46, 47, 48, 49, 22, 23, 24, 25, 26, 50, 51, 52, 53, 54, 55, 56, 17, 57, 58, 59, 60, 61, 66, 67, 68, 69, 70, 71, 72, 73, 74, 75, 76, 77, 78, 79, 80, 81, 82, 83, 84, 85, 86, 87, 88, 89, 90, 91, 92, 93, 94, 95, 96, 97, 98, 99, 100, 101, 102] (by decide +kernel) (by decide +kernel)
set_option maxRecDepth 20000 in
theorem gX8_hiddenHours_X8_goes : GoodIn wsX8_hiddenHours (wsV RX8 128 RX8 yX8_goes wsX8_goes) := goodIn_app (goodIn_of _ (by decide +kernel)) ggX8_hiddenHours_X8_goes
set_option maxRecDepth 20000 in
theorem ggX8_hiddenHours_X8_besides : GoodIn wsX8_hiddenHours wsX8_besides := goodIn_r _ [65, 17, 45, 66, 67, 68, 69, 70, 71, 72, 73, 74, 75, 76, 77, 78, 79, 80, 81, 82, 83, 84, 85, 86, 87, 88, 89, 90, 91, 92, 93, 94, 95, 96, 97, 98, 99, 100, 101, 102] (by decide +kernel) (by decide +kernel)
set_option maxRecDepth 20000 in
theorem gX8_hiddenHours_X8_besides : GoodIn wsX8_hiddenHours (wsV RX8 311 RX8 yX8_besides wsX8_besides) := goodIn_app (goodIn_of _ (by decide +kernel)) ggX8_hiddenHours_X8_besides
theorem dX8_hiddenHours_0 : decode cX8_hiddenHours 0 = .ok (.aload_n 0, 1) := by decide +kernel
theorem dX8_hiddenHours_1 : decode cX8_hiddenHours 1 = .ok (.invokevirtual 125, 3) := by decide +kernel
theorem dX8_hiddenHours_4 : decode cX8_hiddenHours 4 = .ok (.iconst 0, 1) := by decide +kernel
theorem dX8_hiddenHours_5 : decode cX8_hiddenHours 5 = .ok (.istore_n 3, 1) := by decide +kernel
theorem dX8_hiddenHours_6 : decode cX8_hiddenHours 6 = .ok (.iload_n 3, 1) := by decide +kernel
theorem dX8_hiddenHours_7 : decode cX8_hiddenHours 7 = .ok (.bipush 24, 2) := by decide +kernel
theorem dX8_hiddenHours_9 : decode cX8_hiddenHours 9 = .ok (.if_icmp .gt 23, 3) := by decide +kernel
theorem dX8_hiddenHours_12 : decode cX8_hiddenHours 12 = .ok (.aload_n 0, 1) := by decide +kernel
theorem dX8_hiddenHours_13 : decode cX8_hiddenHours 13 = .ok (.getfield 85, 3) := by decide +kernel
theorem dX8_hiddenHours_16 : decode cX8_hiddenHours 16 = .ok (.iload_n 3, 1) := by decide +kernel
theorem dX8_hiddenHours_17 : decode cX8_hiddenHours 17 = .ok (.aload_n 0, 1) := by decide +kernel
theorem dX8_hiddenHours_18 : decode cX8_hiddenHours 18 = .ok (.invokevirtual 288, 3) := by decide +kernel
theorem dX8_hiddenHours_21 : decode cX8_hiddenHours 21 = .ok (.iastore, 1) := by decide +kernel
theorem dX8_hiddenHours_22 : decode cX8_hiddenHours 22 = .ok (.aload_n 0, 1) := by decide +kernel
theorem dX8_hiddenHours_23 : decode cX8_hiddenHours 23 = .ok (.invokevirtual 128, 3) := by decide +kernel
theorem dX8_hiddenHours_26 : decode cX8_hiddenHours 26 = .ok (.iinc 3 1, 3) := by decide +kernel
theorem dX8_hiddenHours_29 : decode cX8_hiddenHours 29 = .ok (.goto (-23), 3) := by decide +kernel
theorem dX8_hiddenHours_32 : decode cX8_hiddenHours 32 = .ok (.iconst 1, 1) := by decide +kernel
theorem dX8_hiddenHours_33 : decode cX8_hiddenHours 33 = .ok (.iload_n 1, 1) := by decide +kernel
theorem dX8_hiddenHours_34 : decode cX8_hiddenHours 34 = .ok (.ishl, 1) := by decide +kernel
theorem dX8_hiddenHours_35 : decode cX8_hiddenHours 35 = .ok (.aload_n 0, 1) := by decide +kernel
theorem dX8_hiddenHours_36 : decode cX8_hiddenHours 36 = .ok (.getfield 85, 3) := by decide +kernel
theorem dX8_hiddenHours_39 : decode cX8_hiddenHours 39 = .ok (.iconst 0, 1) := by decide +kernel
theorem dX8_hiddenHours_40 : decode cX8_hiddenHours 40 = .ok (.iaload, 1) := by decide +kernel
theorem dX8_hiddenHours_41 : decode cX8_hiddenHours 41 = .ok (.iand, 1) := by decide +kernel
theorem dX8_hiddenHours_42 : decode cX8_hiddenHours 42 = .ok (.istore_n 3, 1) := by decide +kernel
theorem dX8_hiddenHours_43 : decode cX8_hiddenHours 43 = .ok (.iconst 0, 1) := by decide +kernel
theorem dX8_hiddenHours_44 : decode cX8_hiddenHours 44 = .ok (.istore 4, 2) := by decide +kernel
theorem dX8_hiddenHours_46 : decode cX8_hiddenHours 46 = .ok (.iload_n 3, 1) := by decide +kernel
theorem dX8_hiddenHours_47 : decode cX8_hiddenHours 47 = .ok (.iload_n 2, 1) := by decide +kernel
theorem dX8_hiddenHours_48 : decode cX8_hiddenHours 48 = .ok (.ishr, 1) := by decide +kernel
theorem dX8_hiddenHours_49 : decode cX8_hiddenHours 49 = .ok (.iconst 1, 1) := by decide +kernel
theorem dX8_hiddenHours_50 : decode cX8_hiddenHours 50 = .ok (.iand, 1) := by decide +kernel
theorem dX8_hiddenHours_51 : decode cX8_hiddenHours 51 = .ok (.ifCond .ne 30, 3) := by decide +kernel
theorem dX8_hiddenHours_54 : decode cX8_hiddenHours 54 = .ok (.iload 4, 2) := by decide +kernel
theorem dX8_hiddenHours_56 : decode cX8_hiddenHours 56 = .ok (.bipush 24, 2) := by decide +kernel
theorem dX8_hiddenHours_58 : decode cX8_hiddenHours 58 = .ok (.if_icmp .ge 23, 3) := by decide +kernel
theorem dX8_hiddenHours_61 : decode cX8_hiddenHours 61 = .ok (.iinc 4 1, 3) := by decide +kernel
theorem dX8_hiddenHours_64 : decode cX8_hiddenHours 64 = .ok (.aload_n 0, 1) := by decide +kernel
theorem dX8_hiddenHours_65 : decode cX8_hiddenHours 65 = .ok (.iload_n 3, 1) := by decide +kernel
theorem dX8_hiddenHours_66 : decode cX8_hiddenHours 66 = .ok (.invokevirtual 311, 3) := by decide +kernel
theorem dX8_hiddenHours_69 : decode cX8_hiddenHours 69 = .ok (.aload_n 0, 1) := by decide +kernel
theorem dX8_hiddenHours_70 : decode cX8_hiddenHours 70 = .ok (.getfield 85, 3) := by decide +kernel
theorem dX8_hiddenHours_73 : decode cX8_hiddenHours 73 = .ok (.iload 4, 2) := by decide +kernel
theorem dX8_hiddenHours_75 : decode cX8_hiddenHours 75 = .ok (.iaload, 1) := by decide +kernel
theorem dX8_hiddenHours_76 : decode cX8_hiddenHours 76 = .ok (.iand, 1) := by decide +kernel
theorem dX8_hiddenHours_77 : decode cX8_hiddenHours 77 = .ok (.istore_n 3, 1) := by decide +kernel
theorem dX8_hiddenHours_78 : decode cX8_hiddenHours 78 = .ok (.goto (-32), 3) := by decide +kernel
theorem dX8_hiddenHours_81 : decode cX8_hiddenHours 81 = .ok (.iload_n 3, 1) := by decide +kernel
theorem dX8_hiddenHours_82 : decode cX8_hiddenHours 82 = .ok (.iload_n 2, 1) := by decide +kernel
theorem dX8_hiddenHours_83 : decode cX8_hiddenHours 83 = .ok (.ishr, 1) := by decide +kernel
theorem dX8_hiddenHours_84 : decode cX8_hiddenHours 84 = .ok (.iconst 1, 1) := by decide +kernel
theorem dX8_hiddenHours_85 : decode cX8_hiddenHours 85 = .ok (.iand, 1) := by decide +kernel
theorem dX8_hiddenHours_86 : decode cX8_hiddenHours 86 = .ok (.ifCond .ne 5, 3) := by decide +kernel
theorem dX8_hiddenHours_89 : decode cX8_hiddenHours 89 = .ok (.iconst (-1), 1) := by decide +kernel
theorem dX8_hiddenHours_90 : decode cX8_hiddenHours 90 = .ok (.ireturn, 1) := by decide +kernel
theorem dX8_hiddenHours_91 : decode cX8_hiddenHours 91 = .ok (.aload_n 0, 1) := by decide +kernel
theorem dX8_hiddenHours_92 : decode cX8_hiddenHours 92 = .ok (.getfield 88, 3) := by decide +kernel
theorem dX8_hiddenHours_95 : decode cX8_hiddenHours 95 = .ok (.iload 4, 2) := by decide +kernel
theorem dX8_hiddenHours_97 : decode cX8_hiddenHours 97 = .ok (.iconst 1, 1) := by decide +kernel
theorem dX8_hiddenHours_98 : decode cX8_hiddenHours 98 = .ok (.iload_n 2, 1) := by decide +kernel
theorem dX8_hiddenHours_99 : decode cX8_hiddenHours 99 = .ok (.ishl, 1) := by decide +kernel
theorem dX8_hiddenHours_100 : decode cX8_hiddenHours 100 = .ok (.iastore, 1) := by decide +kernel
theorem dX8_hiddenHours_101 : decode cX8_hiddenHours 101 = .ok (.iload 4, 2) := by decide +kernel
theorem dX8_hiddenHours_103 : decode cX8_hiddenHours 103 = .ok (.iconst 1, 1) := by decide +kernel
theorem dX8_hiddenHours_104 : decode cX8_hiddenHours 104 = .ok (.isub, 1) := by decide +kernel
theorem dX8_hiddenHours_105 : decode cX8_hiddenHours 105 = .ok (.istore 5, 2) := by decide +kernel
theorem dX8_hiddenHours_107 : decode cX8_hiddenHours 107 = .ok (.iload 5, 2) := by decide +kernel
theorem dX8_hiddenHours_109 : decode cX8_hiddenHours 109 = .ok (.ifCond .lt 37, 3) := by decide +kernel
theorem dX8_hiddenHours_112 : decode cX8_hiddenHours 112 = .ok (.aload_n 0, 1) := by decide +kernel
theorem dX8_hiddenHours_113 : decode cX8_hiddenHours 113 = .ok (.getfield 88, 3) := by decide +kernel
theorem dX8_hiddenHours_116 : decode cX8_hiddenHours 116 = .ok (.iload 5, 2) := by decide +kernel
theorem dX8_hiddenHours_118 : decode cX8_hiddenHours 118 = .ok (.aload_n 0, 1) := by decide +kernel
theorem dX8_hiddenHours_119 : decode cX8_hiddenHours 119 = .ok (.aload_n 0, 1) := by decide +kernel
theorem dX8_hiddenHours_120 : decode cX8_hiddenHours 120 = .ok (.getfield 88, 3) := by decide +kernel
theorem dX8_hiddenHours_123 : decode cX8_hiddenHours 123 = .ok (.iload 5, 2) := by decide +kernel
theorem dX8_hiddenHours_125 : decode cX8_hiddenHours 125 = .ok (.iconst 1, 1) := by decide +kernel
theorem dX8_hiddenHours_126 : decode cX8_hiddenHours 126 = .ok (.iadd, 1) := by decide +kernel
theorem dX8_hiddenHours_127 : decode cX8_hiddenHours 127 = .ok (.iaload, 1) := by decide +kernel
theorem dX8_hiddenHours_128 : decode cX8_hiddenHours 128 = .ok (.invokevirtual 311, 3) := by decide +kernel
theorem dX8_hiddenHours_131 : decode cX8_hiddenHours 131 = .ok (.aload_n 0, 1) := by decide +kernel
theorem dX8_hiddenHours_132 : decode cX8_hiddenHours 132 = .ok (.getfield 85, 3) := by decide +kernel
theorem dX8_hiddenHours_135 : decode cX8_hiddenHours 135 = .ok (.iload 5, 2) := by decide +kernel
theorem dX8_hiddenHours_137 : decode cX8_hiddenHours 137 = .ok (.iaload, 1) := by decide +kernel
theorem dX8_hiddenHours_138 : decode cX8_hiddenHours 138 = .ok (.iand, 1) := by decide +kernel
theorem dX8_hiddenHours_139 : decode cX8_hiddenHours 139 = .ok (.iastore, 1) := by decide +kernel
theorem dX8_hiddenHours_140 : decode cX8_hiddenHours 140 = .ok (.iinc 5 (-1), 3) := by decide +kernel
theorem dX8_hiddenHours_143 : decode cX8_hiddenHours 143 = .ok (.goto (-36), 3) := by decide +kernel
theorem dX8_hiddenHours_146 : decode cX8_hiddenHours 146 = .ok (.iload 4, 2) := by decide +kernel
theorem dX8_hiddenHours_148 : decode cX8_hiddenHours 148 = .ok (.ireturn, 1) := by decide +kernel
set_option maxRecDepth 20000 in
theorem ggX8_hidden_X8_isPlace : GoodIn wsX8_hidden wsX8_isPlace := goodIn_r _ [6, 7, 8, 9, 5, 10, 79, 80, 81, 82, 83, 84, 85, 86, 87, 88, 89, 90, 91, 92, 93, 94, 95, 96, 97, 98, 99, 100, 101, 102, 103, 104, 105, 106, 107, 108, 109, 110, 111, 112, 113, 114, 115] (by decide +kernel) (by decide +kernel)
set_option maxRecDepth 20000 in
theorem gX8_hidden_X8_isPlace : GoodIn wsX8_hidden (wsV RX8 133 RX8 yX8_isPlace wsX8_isPlace) := goodIn_app (goodIn_of _ (by decide +kernel)) ggX8_hidden_X8_isPlace
set_option maxRecDepth 20000 in
theorem ggX8_hidden_X8_refuse : GoodIn wsX8_hidden wsX8_refuse := goodIn_r _ [14, 15, 79, 80, 81, 82, 83, 84, 85, 86, 87, 88, 89, 90, 91, 92, 93, 94, 95, 96, 97, 98, 99, 100, 101, 102, 103, 104, 105, 106, 107, 108, 109, 110, 111, 112, 113, 114, 115] (by decide +kernel) (by decide +kernel)
set_option maxRecDepth 20000 in
theorem gX8_hidden_X8_refuse : GoodIn wsX8_hidden (wsV RX8 104 RX8 yX8_refuse wsX8_refuse) := goodIn_app (goodIn_of _ (by decide +kernel)) ggX8_hidden_X8_refuse
set_option maxRecDepth 20000 in
theorem ggX8_hidden_X8_hiddenHours : GoodIn wsX8_hidden wsX8_hiddenHours := goodIn_r _ [19, 20, 1, 21, 22, 23, 5, 24, 25, 26, 27, 28, 29, 30, 31, 32, 33, 7, 34, 35, 36, 37, 38, 39, 40, 41, 42, 43, 44, 45, 46, 47, 48, 49, 50, 51, 52, 53, 54, 55, 56, 57, 58, 59, 60, 61, 62, 63, 64, 65, 8, 9, 10, 66, 67, 68, 69, 70, 71, 72, 73, 74, 75, 76, 77, 78, 79, 80, 81, 82, 83, 84, 85, 86, 87, 88, 89, 90, 91, 92, 93, 94, 95, 96, 97, 98, 99, 100, 101, 102, 103, 104, 105, 106, 107, 108, 109, 110, 111, 112, 113, 114, 115] (by decide +kernel) (by decide +kernel)
set_option maxRecDepth 20000 in
theorem gX8_hidden_X8_hiddenHours : GoodIn wsX8_hidden (wsV RX8 314 RX8 yX8_hiddenHours wsX8_hiddenHours) := goodIn_app (goodIn_of _ (by decide +kernel)) ggX8_hidden_X8_hiddenHours
set_option maxRecDepth 20000 in
theorem ggX8_hidden_X8_besides : GoodIn wsX8_hidden wsX8_besides := goodIn_r _ [78, 7, 61, 79, 80, 81, 82, 83, 84, 85, 86, 87, 88, 89, 90, 91, 92, 93, 94, 95, 96, 97, 98, 99, 100, 101, 102, 103, 104, 105, 106, 107, 108, 109, 110, 111, 112, 113, 114, 115] (by decide +kernel) (by decide +kernel)
set_option maxRecDepth 20000 in
theorem gX8_hidden_X8_besides : GoodIn wsX8_hidden (wsV RX8 311 RX8 yX8_besides wsX8_besides) := goodIn_app (goodIn_of _ (by decide +kernel)) ggX8_hidden_X8_besides
theorem dX8_hidden_0 : decode cX8_hidden 0 = .ok (.aload_n 0, 1) := by decide +kernel
theorem dX8_hidden_1 : decode cX8_hidden 1 = .ok (.iload_n 1, 1) := by decide +kernel
theorem dX8_hidden_2 : decode cX8_hidden 2 = .ok (.invokevirtual 133, 3) := by decide +kernel
theorem dX8_hidden_5 : decode cX8_hidden 5 = .ok (.ifCond .eq 16, 3) := by decide +kernel
theorem dX8_hidden_8 : decode cX8_hidden 8 = .ok (.aload_n 0, 1) := by decide +kernel
theorem dX8_hidden_9 : decode cX8_hidden 9 = .ok (.iload_n 2, 1) := by decide +kernel
theorem dX8_hidden_10 : decode cX8_hidden 10 = .ok (.invokevirtual 133, 3) := by decide +kernel
theorem dX8_hidden_13 : decode cX8_hidden 13 = .ok (.ifCond .eq 8, 3) := by decide +kernel
theorem dX8_hidden_16 : decode cX8_hidden 16 = .ok (.iload_n 3, 1) := by decide +kernel
theorem dX8_hidden_17 : decode cX8_hidden 17 = .ok (.iconst (-1), 1) := by decide +kernel
theorem dX8_hidden_18 : decode cX8_hidden 18 = .ok (.if_icmp .ge 10, 3) := by decide +kernel
theorem dX8_hidden_21 : decode cX8_hidden 21 = .ok (.aload_n 0, 1) := by decide +kernel
theorem dX8_hidden_22 : decode cX8_hidden 22 = .ok (.bipush (-2), 2) := by decide +kernel
theorem dX8_hidden_24 : decode cX8_hidden 24 = .ok (.invokevirtual 104, 3) := by decide +kernel
theorem dX8_hidden_27 : decode cX8_hidden 27 = .ok (.ireturn, 1) := by decide +kernel
theorem dX8_hidden_28 : decode cX8_hidden 28 = .ok (.aload_n 0, 1) := by decide +kernel
theorem dX8_hidden_29 : decode cX8_hidden 29 = .ok (.iload_n 1, 1) := by decide +kernel
theorem dX8_hidden_30 : decode cX8_hidden 30 = .ok (.iload_n 2, 1) := by decide +kernel
theorem dX8_hidden_31 : decode cX8_hidden 31 = .ok (.invokevirtual 314, 3) := by decide +kernel
theorem dX8_hidden_34 : decode cX8_hidden 34 = .ok (.istore 4, 2) := by decide +kernel
theorem dX8_hidden_36 : decode cX8_hidden 36 = .ok (.iload_n 3, 1) := by decide +kernel
theorem dX8_hidden_37 : decode cX8_hidden 37 = .ok (.iconst (-1), 1) := by decide +kernel
theorem dX8_hidden_38 : decode cX8_hidden 38 = .ok (.if_icmp .ne 6, 3) := by decide +kernel
theorem dX8_hidden_41 : decode cX8_hidden 41 = .ok (.iload 4, 2) := by decide +kernel
theorem dX8_hidden_43 : decode cX8_hidden 43 = .ok (.ireturn, 1) := by decide +kernel
theorem dX8_hidden_44 : decode cX8_hidden 44 = .ok (.iload_n 3, 1) := by decide +kernel
theorem dX8_hidden_45 : decode cX8_hidden 45 = .ok (.iload 4, 2) := by decide +kernel
theorem dX8_hidden_47 : decode cX8_hidden 47 = .ok (.if_icmp .le 10, 3) := by decide +kernel
theorem dX8_hidden_50 : decode cX8_hidden 50 = .ok (.aload_n 0, 1) := by decide +kernel
theorem dX8_hidden_51 : decode cX8_hidden 51 = .ok (.bipush (-5), 2) := by decide +kernel
theorem dX8_hidden_53 : decode cX8_hidden 53 = .ok (.invokevirtual 104, 3) := by decide +kernel
theorem dX8_hidden_56 : decode cX8_hidden 56 = .ok (.ireturn, 1) := by decide +kernel
theorem dX8_hidden_57 : decode cX8_hidden 57 = .ok (.iload_n 1, 1) := by decide +kernel
theorem dX8_hidden_58 : decode cX8_hidden 58 = .ok (.istore 5, 2) := by decide +kernel
theorem dX8_hidden_60 : decode cX8_hidden 60 = .ok (.iconst 1, 1) := by decide +kernel
theorem dX8_hidden_61 : decode cX8_hidden 61 = .ok (.istore 6, 2) := by decide +kernel
theorem dX8_hidden_63 : decode cX8_hidden 63 = .ok (.iload 6, 2) := by decide +kernel
theorem dX8_hidden_65 : decode cX8_hidden 65 = .ok (.iload_n 3, 1) := by decide +kernel
theorem dX8_hidden_66 : decode cX8_hidden 66 = .ok (.if_icmp .gt 46, 3) := by decide +kernel
theorem dX8_hidden_69 : decode cX8_hidden 69 = .ok (.aload_n 0, 1) := by decide +kernel
theorem dX8_hidden_70 : decode cX8_hidden 70 = .ok (.iconst 1, 1) := by decide +kernel
theorem dX8_hidden_71 : decode cX8_hidden 71 = .ok (.iload 5, 2) := by decide +kernel
theorem dX8_hidden_73 : decode cX8_hidden 73 = .ok (.ishl, 1) := by decide +kernel
theorem dX8_hidden_74 : decode cX8_hidden 74 = .ok (.invokevirtual 311, 3) := by decide +kernel
theorem dX8_hidden_77 : decode cX8_hidden 77 = .ok (.aload_n 0, 1) := by decide +kernel
theorem dX8_hidden_78 : decode cX8_hidden 78 = .ok (.getfield 88, 3) := by decide +kernel
theorem dX8_hidden_81 : decode cX8_hidden 81 = .ok (.iload 6, 2) := by decide +kernel
theorem dX8_hidden_83 : decode cX8_hidden 83 = .ok (.iaload, 1) := by decide +kernel
theorem dX8_hidden_84 : decode cX8_hidden 84 = .ok (.iand, 1) := by decide +kernel
theorem dX8_hidden_85 : decode cX8_hidden 85 = .ok (.istore 7, 2) := by decide +kernel
theorem dX8_hidden_87 : decode cX8_hidden 87 = .ok (.iconst 0, 1) := by decide +kernel
theorem dX8_hidden_88 : decode cX8_hidden 88 = .ok (.istore 5, 2) := by decide +kernel
theorem dX8_hidden_90 : decode cX8_hidden 90 = .ok (.iload 7, 2) := by decide +kernel
theorem dX8_hidden_92 : decode cX8_hidden 92 = .ok (.iload 5, 2) := by decide +kernel
theorem dX8_hidden_94 : decode cX8_hidden 94 = .ok (.ishr, 1) := by decide +kernel
theorem dX8_hidden_95 : decode cX8_hidden 95 = .ok (.iconst 1, 1) := by decide +kernel
theorem dX8_hidden_96 : decode cX8_hidden 96 = .ok (.iand, 1) := by decide +kernel
theorem dX8_hidden_97 : decode cX8_hidden 97 = .ok (.ifCond .ne 9, 3) := by decide +kernel
theorem dX8_hidden_100 : decode cX8_hidden 100 = .ok (.iinc 5 1, 3) := by decide +kernel
theorem dX8_hidden_103 : decode cX8_hidden 103 = .ok (.goto (-13), 3) := by decide +kernel
theorem dX8_hidden_106 : decode cX8_hidden 106 = .ok (.iinc 6 1, 3) := by decide +kernel
theorem dX8_hidden_109 : decode cX8_hidden 109 = .ok (.goto (-46), 3) := by decide +kernel
theorem dX8_hidden_112 : decode cX8_hidden 112 = .ok (.iload 5, 2) := by decide +kernel
theorem dX8_hidden_114 : decode cX8_hidden 114 = .ok (.ireturn, 1) := by decide +kernel
theorem dX8_below_0 : decode cX8_below 0 = .ok (.aload_n 0, 1) := by decide +kernel
theorem dX8_below_1 : decode cX8_below 1 = .ok (.aload_n 0, 1) := by decide +kernel
theorem dX8_below_2 : decode cX8_below 2 = .ok (.getfield 62, 3) := by decide +kernel
theorem dX8_below_5 : decode cX8_below 5 = .ok (.ldc_w 317, 3) := by decide +kernel
theorem dX8_below_8 : decode cX8_below 8 = .ok (.imul, 1) := by decide +kernel
theorem dX8_below_9 : decode cX8_below 9 = .ok (.sipush 12345, 3) := by decide +kernel
theorem dX8_below_12 : decode cX8_below 12 = .ok (.iadd, 1) := by decide +kernel
theorem dX8_below_13 : decode cX8_below 13 = .ok (.putfield 62, 3) := by decide +kernel
theorem dX8_below_16 : decode cX8_below 16 = .ok (.aload_n 0, 1) := by decide +kernel
theorem dX8_below_17 : decode cX8_below 17 = .ok (.getfield 62, 3) := by decide +kernel
theorem dX8_below_20 : decode cX8_below 20 = .ok (.bipush 16, 2) := by decide +kernel
theorem dX8_below_22 : decode cX8_below 22 = .ok (.iushr, 1) := by decide +kernel
theorem dX8_below_23 : decode cX8_below 23 = .ok (.iload_n 1, 1) := by decide +kernel
theorem dX8_below_24 : decode cX8_below 24 = .ok (.irem, 1) := by decide +kernel
theorem dX8_below_25 : decode cX8_below 25 = .ok (.ireturn, 1) := by decide +kernel
theorem dX8_stays_0 : decode cX8_stays 0 = .ok (.iconst 0, 1) := by decide +kernel
theorem dX8_stays_1 : decode cX8_stays 1 = .ok (.istore_n 1, 1) := by decide +kernel
theorem dX8_stays_2 : decode cX8_stays 2 = .ok (.iload_n 1, 1) := by decide +kernel
theorem dX8_stays_3 : decode cX8_stays 3 = .ok (.aload_n 0, 1) := by decide +kernel
theorem dX8_stays_4 : decode cX8_stays 4 = .ok (.getfield 95, 3) := by decide +kernel
theorem dX8_stays_7 : decode cX8_stays 7 = .ok (.if_icmp .ge 21, 3) := by decide +kernel
theorem dX8_stays_10 : decode cX8_stays 10 = .ok (.aload_n 0, 1) := by decide +kernel
theorem dX8_stays_11 : decode cX8_stays 11 = .ok (.getfield 56, 3) := by decide +kernel
theorem dX8_stays_14 : decode cX8_stays 14 = .ok (.iload_n 1, 1) := by decide +kernel
theorem dX8_stays_15 : decode cX8_stays 15 = .ok (.aload_n 0, 1) := by decide +kernel
theorem dX8_stays_16 : decode cX8_stays 16 = .ok (.getfield 71, 3) := by decide +kernel
theorem dX8_stays_19 : decode cX8_stays 19 = .ok (.iload_n 1, 1) := by decide +kernel
theorem dX8_stays_20 : decode cX8_stays 20 = .ok (.iaload, 1) := by decide +kernel
theorem dX8_stays_21 : decode cX8_stays 21 = .ok (.iastore, 1) := by decide +kernel
theorem dX8_stays_22 : decode cX8_stays 22 = .ok (.iinc 1 1, 3) := by decide +kernel
theorem dX8_stays_25 : decode cX8_stays 25 = .ok (.goto (-23), 3) := by decide +kernel
theorem dX8_stays_28 : decode cX8_stays 28 = .ok (.aload_n 0, 1) := by decide +kernel
theorem dX8_stays_29 : decode cX8_stays 29 = .ok (.aload_n 0, 1) := by decide +kernel
theorem dX8_stays_30 : decode cX8_stays 30 = .ok (.getfield 254, 3) := by decide +kernel
theorem dX8_stays_33 : decode cX8_stays 33 = .ok (.putfield 153, 3) := by decide +kernel
theorem dX8_stays_36 : decode cX8_stays 36 = .ok (.return_, 1) := by decide +kernel
set_option maxRecDepth 20000 in
theorem ggX8_hours_X8_in : GoodIn wsX8_hours wsX8_in := goodIn_r _ [5] (by decide +kernel) (by decide +kernel)
set_option maxRecDepth 20000 in
theorem gX8_hours_X8_in : GoodIn wsX8_hours (va_wsS RX8 91 yX8_in wsX8_in) := goodIn_app (goodIn_of _ (by decide +kernel)) ggX8_hours_X8_in
set_option maxRecDepth 20000 in
theorem ggX8_hours_X8_refuse : GoodIn wsX8_hours wsX8_refuse := goodIn_r _ [9, 10, 70, 71, 72, 73, 74, 75, 76, 77, 78, 79, 80, 81, 82, 83, 84, 85, 86, 87, 88, 89, 90, 91, 92, 93, 94, 95, 96, 97, 98, 99, 100, 101, 102, 103, 104, 105, 106] (by decide +kernel) (by decide +kernel)
set_option maxRecDepth 20000 in
theorem gX8_hours_X8_refuse : GoodIn wsX8_hours (wsV RX8 104 RX8 yX8_refuse wsX8_refuse) := goodIn_app (goodIn_of _ (by decide +kernel)) ggX8_hours_X8_refuse
set_option maxRecDepth 20000 in
theorem ggX8_hours_X8_goesOn : GoodIn wsX8_hours wsX8_goesOn := goodIn_r _ [14, 15, 16, 17, 4, 18, 19, 20, 21, 22, 23, 24, 25, 26, 27, 28, 29, 30, 31, 32, 33, 34, 35, 36, 37, 38, 39, 40, 41, 42, 43, 44, 45, 46, 47, 48, 49, 50, 51, 2, 3, 5, 52, 53, 54, 55, 56, 57, 58, 59, 60, 61, 70, 71, 72, 73, 74, 75, 76, 77, 78, 79, 80, 81, 82, 83, 84, 85, 86, 87, 88, 89, 90, 91, 92, 93, 94, 95, 96, 97, 98, 99, 100, 101, 102, 103, 104, 105, 106] (by decide +kernel) (by decide +kernel)
set_option maxRecDepth 20000 in
theorem gX8_hours_X8_goesOn : GoodIn wsX8_hours (wsV RX8 282 RX8 yX8_goesOn wsX8_goesOn) := goodIn_app (goodIn_of _ (by decide +kernel)) ggX8_hours_X8_goesOn
set_option maxRecDepth 20000 in
theorem ggX8_hours_X8_stays : GoodIn wsX8_hours wsX8_stays := goodIn_r _ [65, 19, 21, 20, 23, 22, 70, 71, 72, 73, 74, 75, 76, 77, 78, 79, 80, 81, 82, 83, 84, 85, 86, 87, 88, 89, 90, 91, 92, 93, 94, 95, 96, 97, 98, 99, 100, 101, 102, 103, 104, 105, 106] (by decide +kernel) (by decide +kernel)
set_option maxRecDepth 20000 in
theorem gX8_hours_X8_stays : GoodIn wsX8_hours (wsV RX8 318 RX8 yX8_stays wsX8_stays) := goodIn_app (goodIn_of _ (by decide +kernel)) ggX8_hours_X8_stays
set_option maxRecDepth 20000 in
theorem ggX8_hours_X8_light : GoodIn wsX8_hours wsX8_light := goodIn_r _ [69, 56, 19, 20, 47, 48, 49, 4, 50, 51, 33, 70, 71, 72, 73, 74, 75, 76, 77, 78, 79, 80, 81, 82, 83, 84, 85, 86, 87, 88, 89, 90, 91, 92, 93, 94, 95, 96, 97, 98, 99, 100, 101, 102, 103, 104, 105, 106] (by decide +kernel) (by decide +kernel)
set_option maxRecDepth 20000 in
theorem gX8_hours_X8_light : GoodIn wsX8_hours (wsV RX8 274 RX8 yX8_light wsX8_light) := goodIn_app (goodIn_of _ (by decide +kernel)) ggX8_hours_X8_light
