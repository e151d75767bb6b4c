theorem dX7_bestOf_4 : decode cX7_bestOf 4 = .ok (.istore_n 3, 1) := by decide +kernel
theorem dX7_bestOf_5 : decode cX7_bestOf 5 = .ok (.aload_n 0, 1) := by decide +kernel
theorem dX7_bestOf_6 : decode cX7_bestOf 6 = .ok (.iload_n 1, 1) := by decide +kernel
theorem dX7_bestOf_7 : decode cX7_bestOf 7 = .ok (.iconst 2, 1) := by decide +kernel
theorem dX7_bestOf_8 : decode cX7_bestOf 8 = .ok (.invokevirtual 155, 3) := by decide +kernel
theorem dX7_bestOf_11 : decode cX7_bestOf 11 = .ok (.istore 4, 2) := by decide +kernel
theorem dX7_bestOf_13 : decode cX7_bestOf 13 = .ok (.iload 4, 2) := by decide +kernel
theorem dX7_bestOf_15 : decode cX7_bestOf 15 = .ok (.aload_n 0, 1) := by decide +kernel
theorem dX7_bestOf_16 : decode cX7_bestOf 16 = .ok (.iload_n 1, 1) := by decide +kernel
theorem dX7_bestOf_17 : decode cX7_bestOf 17 = .ok (.iconst 3, 1) := by decide +kernel
theorem dX7_bestOf_18 : decode cX7_bestOf 18 = .ok (.invokevirtual 155, 3) := by decide +kernel
theorem dX7_bestOf_21 : decode cX7_bestOf 21 = .ok (.if_icmp .gt 52, 3) := by decide +kernel
theorem dX7_bestOf_24 : decode cX7_bestOf 24 = .ok (.aload_n 0, 1) := by decide +kernel
theorem dX7_bestOf_25 : decode cX7_bestOf 25 = .ok (.iload_n 1, 1) := by decide +kernel
theorem dX7_bestOf_26 : decode cX7_bestOf 26 = .ok (.iload 4, 2) := by decide +kernel
theorem dX7_bestOf_28 : decode cX7_bestOf 28 = .ok (.invokevirtual 191, 3) := by decide +kernel
theorem dX7_bestOf_31 : decode cX7_bestOf 31 = .ok (.ifCond .le 6, 3) := by decide +kernel
theorem dX7_bestOf_34 : decode cX7_bestOf 34 = .ok (.goto 33, 3) := by decide +kernel
theorem dX7_bestOf_37 : decode cX7_bestOf 37 = .ok (.aload_n 0, 1) := by decide +kernel
theorem dX7_bestOf_38 : decode cX7_bestOf 38 = .ok (.iload_n 1, 1) := by decide +kernel
theorem dX7_bestOf_39 : decode cX7_bestOf 39 = .ok (.iload 4, 2) := by decide +kernel
theorem dX7_bestOf_41 : decode cX7_bestOf 41 = .ok (.invokevirtual 194, 3) := by decide +kernel
theorem dX7_bestOf_44 : decode cX7_bestOf 44 = .ok (.istore 5, 2) := by decide +kernel
theorem dX7_bestOf_46 : decode cX7_bestOf 46 = .ok (.iload_n 2, 1) := by decide +kernel
theorem dX7_bestOf_47 : decode cX7_bestOf 47 = .ok (.bipush (-2), 2) := by decide +kernel
theorem dX7_bestOf_49 : decode cX7_bestOf 49 = .ok (.if_icmp .eq 12, 3) := by decide +kernel
theorem dX7_bestOf_52 : decode cX7_bestOf 52 = .ok (.iload 5, 2) := by decide +kernel
theorem dX7_bestOf_54 : decode cX7_bestOf 54 = .ok (.iload_n 3, 1) := by decide +kernel
theorem dX7_bestOf_55 : decode cX7_bestOf 55 = .ok (.if_icmp .lt 6, 3) := by decide +kernel
theorem dX7_bestOf_58 : decode cX7_bestOf 58 = .ok (.goto 9, 3) := by decide +kernel
theorem dX7_bestOf_61 : decode cX7_bestOf 61 = .ok (.iload 5, 2) := by decide +kernel
theorem dX7_bestOf_63 : decode cX7_bestOf 63 = .ok (.istore_n 3, 1) := by decide +kernel
theorem dX7_bestOf_64 : decode cX7_bestOf 64 = .ok (.iload 4, 2) := by decide +kernel
theorem dX7_bestOf_66 : decode cX7_bestOf 66 = .ok (.istore_n 2, 1) := by decide +kernel
theorem dX7_bestOf_67 : decode cX7_bestOf 67 = .ok (.iinc 4 1, 3) := by decide +kernel
theorem dX7_bestOf_70 : decode cX7_bestOf 70 = .ok (.goto (-57), 3) := by decide +kernel
theorem dX7_bestOf_73 : decode cX7_bestOf 73 = .ok (.iload_n 2, 1) := by decide +kernel
theorem dX7_bestOf_74 : decode cX7_bestOf 74 = .ok (.ireturn, 1) := by decide +kernel
set_option maxRecDepth 20000 in
theorem ggX7_betterNow_X7_shortfall : GoodIn wsX7_betterNow wsX7_shortfall := goodIn_r _ [6, 7, 8, 9, 5, 10, 1, 11, 12, 13, 14, 15, 16, 17, 18, 19, 20, 21, 22, 23, 24, 25, 26, 27, 28, 29, 30, 31, 32, 33, 34, 35, 36, 37, 38, 39, 40, 41, 42, 43, 44, 45, 58, 59, 60, 61, 62, 63, 64, 65, 66, 67, 68, 69, 70, 71, 72, 73, 74, 75, 76, 77, 78, 79, 80] (by decide +kernel) (by decide +kernel)
set_option maxRecDepth 20000 in
theorem gX7_betterNow_X7_shortfall : GoodIn wsX7_betterNow (wsV RX7 187 RX7 yX7_shortfall wsX7_shortfall) := goodIn_app (goodIn_of _ (by decide +kernel)) ggX7_betterNow_X7_shortfall
set_option maxRecDepth 20000 in
theorem ggX7_betterNow_X7_its : GoodIn wsX7_betterNow wsX7_its := goodIn_r _ [37, 1, 58, 59, 60, 61, 62, 63, 64, 65, 66, 67, 68, 69, 70, 71, 72, 73, 74, 75, 76, 77, 78, 79, 80] (by decide +kernel) (by decide +kernel)
set_option maxRecDepth 20000 in
theorem gX7_betterNow_X7_its : GoodIn wsX7_betterNow (wsV RX7 155 RX7 yX7_its wsX7_its) := goodIn_app (goodIn_of _ (by decide +kernel)) ggX7_betterNow_X7_its
set_option maxRecDepth 20000 in
theorem ggX7_betterNow_X7_placeOf : GoodIn wsX7_betterNow wsX7_placeOf := goodIn_r _ [45, 34, 35, 36, 5, 37, 1, 58, 59, 60, 61, 62, 63, 64, 65, 66, 67, 68, 69, 70, 71, 72, 73, 74, 75, 76, 77, 78, 79, 80] (by decide +kernel) (by decide +kernel)
set_option maxRecDepth 20000 in
theorem gX7_betterNow_X7_placeOf : GoodIn wsX7_betterNow (wsV RX7 162 RX7 yX7_placeOf wsX7_placeOf) := goodIn_app (goodIn_of _ (by decide +kernel)) ggX7_betterNow_X7_placeOf
set_option maxRecDepth 20000 in
theorem ggX7_betterNow_X7_whyNot : GoodIn wsX7_betterNow wsX7_whyNot := goodIn_r _ [49, 1, 34, 35, 36, 5, 37, 31, 32, 33, 42, 43, 44, 45, 58, 59, 60, 61, 62, 63, 64, 65, 66, 67, 68, 69, 70, 71, 72, 73, 74, 75, 76, 77, 78, 79, 80] (by decide +kernel) (by decide +kernel)
set_option maxRecDepth 20000 in
theorem gX7_betterNow_X7_whyNot : GoodIn wsX7_betterNow (wsV RX7 191 RX7 yX7_whyNot wsX7_whyNot) := goodIn_app (goodIn_of _ (by decide +kernel)) ggX7_betterNow_X7_whyNot
set_option maxRecDepth 20000 in
theorem ggX7_betterNow_X7_scoreAt : GoodIn wsX7_betterNow wsX7_scoreAt := goodIn_r _ [53, 42, 43, 44, 5, 45, 34, 35, 36, 37, 1, 54, 55, 56, 57, 2, 3, 4, 6, 7, 8, 9, 10, 11, 12, 13, 14, 15, 16, 17, 18, 19, 20, 21, 22, 23, 24, 25, 26, 27, 28, 29, 30, 31, 32, 33, 38, 39, 40, 41, 58, 59, 60, 61, 62, 63, 64, 65, 66, 67, 68, 69, 70, 71, 72, 73, 74, 75, 76, 77, 78, 79, 80] (by decide +kernel) (by decide +kernel)
set_option maxRecDepth 20000 in
theorem gX7_betterNow_X7_scoreAt : GoodIn wsX7_betterNow (wsV RX7 194 RX7 yX7_scoreAt wsX7_scoreAt) := goodIn_app (goodIn_of _ (by decide +kernel)) ggX7_betterNow_X7_scoreAt
theorem dX7_betterNow_0 : decode cX7_betterNow 0 = .ok (.aload_n 0, 1) := by decide +kernel
theorem dX7_betterNow_1 : decode cX7_betterNow 1 = .ok (.invokevirtual 187, 3) := by decide +kernel
theorem dX7_betterNow_4 : decode cX7_betterNow 4 = .ok (.istore_n 1, 1) := by decide +kernel
theorem dX7_betterNow_5 : decode cX7_betterNow 5 = .ok (.bipush (-2), 2) := by decide +kernel
theorem dX7_betterNow_7 : decode cX7_betterNow 7 = .ok (.istore_n 2, 1) := by decide +kernel
theorem dX7_betterNow_8 : decode cX7_betterNow 8 = .ok (.iconst 0, 1) := by decide +kernel
theorem dX7_betterNow_9 : decode cX7_betterNow 9 = .ok (.istore_n 3, 1) := by decide +kernel
theorem dX7_betterNow_10 : decode cX7_betterNow 10 = .ok (.iload_n 3, 1) := by decide +kernel
theorem dX7_betterNow_11 : decode cX7_betterNow 11 = .ok (.aload_n 0, 1) := by decide +kernel
theorem dX7_betterNow_12 : decode cX7_betterNow 12 = .ok (.getfield 74, 3) := by decide +kernel
theorem dX7_betterNow_15 : decode cX7_betterNow 15 = .ok (.iconst 3, 1) := by decide +kernel
theorem dX7_betterNow_16 : decode cX7_betterNow 16 = .ok (.iaload, 1) := by decide +kernel
theorem dX7_betterNow_17 : decode cX7_betterNow 17 = .ok (.if_icmp .ge 95, 3) := by decide +kernel
theorem dX7_betterNow_20 : decode cX7_betterNow 20 = .ok (.aload_n 0, 1) := by decide +kernel
theorem dX7_betterNow_21 : decode cX7_betterNow 21 = .ok (.iload_n 3, 1) := by decide +kernel
theorem dX7_betterNow_22 : decode cX7_betterNow 22 = .ok (.iconst 2, 1) := by decide +kernel
theorem dX7_betterNow_23 : decode cX7_betterNow 23 = .ok (.invokevirtual 155, 3) := by decide +kernel
theorem dX7_betterNow_26 : decode cX7_betterNow 26 = .ok (.istore 4, 2) := by decide +kernel
theorem dX7_betterNow_28 : decode cX7_betterNow 28 = .ok (.iload 4, 2) := by decide +kernel
theorem dX7_betterNow_30 : decode cX7_betterNow 30 = .ok (.aload_n 0, 1) := by decide +kernel
theorem dX7_betterNow_31 : decode cX7_betterNow 31 = .ok (.iload_n 3, 1) := by decide +kernel
theorem dX7_betterNow_32 : decode cX7_betterNow 32 = .ok (.iconst 3, 1) := by decide +kernel
theorem dX7_betterNow_33 : decode cX7_betterNow 33 = .ok (.invokevirtual 155, 3) := by decide +kernel
theorem dX7_betterNow_36 : decode cX7_betterNow 36 = .ok (.if_icmp .gt 70, 3) := by decide +kernel
theorem dX7_betterNow_39 : decode cX7_betterNow 39 = .ok (.aload_n 0, 1) := by decide +kernel
theorem dX7_betterNow_40 : decode cX7_betterNow 40 = .ok (.iload_n 3, 1) := by decide +kernel
theorem dX7_betterNow_41 : decode cX7_betterNow 41 = .ok (.invokevirtual 162, 3) := by decide +kernel
theorem dX7_betterNow_44 : decode cX7_betterNow 44 = .ok (.iconst (-1), 1) := by decide +kernel
theorem dX7_betterNow_45 : decode cX7_betterNow 45 = .ok (.if_icmp .eq 61, 3) := by decide +kernel
theorem dX7_betterNow_48 : decode cX7_betterNow 48 = .ok (.iload 4, 2) := by decide +kernel
theorem dX7_betterNow_50 : decode cX7_betterNow 50 = .ok (.aload_n 0, 1) := by decide +kernel
theorem dX7_betterNow_51 : decode cX7_betterNow 51 = .ok (.iload_n 3, 1) := by decide +kernel
theorem dX7_betterNow_52 : decode cX7_betterNow 52 = .ok (.invokevirtual 162, 3) := by decide +kernel
theorem dX7_betterNow_55 : decode cX7_betterNow 55 = .ok (.if_icmp .eq 45, 3) := by decide +kernel
theorem dX7_betterNow_58 : decode cX7_betterNow 58 = .ok (.aload_n 0, 1) := by decide +kernel
theorem dX7_betterNow_59 : decode cX7_betterNow 59 = .ok (.iload_n 3, 1) := by decide +kernel
theorem dX7_betterNow_60 : decode cX7_betterNow 60 = .ok (.iload 4, 2) := by decide +kernel
theorem dX7_betterNow_62 : decode cX7_betterNow 62 = .ok (.invokevirtual 191, 3) := by decide +kernel
theorem dX7_betterNow_65 : decode cX7_betterNow 65 = .ok (.ifCond .le 6, 3) := by decide +kernel
theorem dX7_betterNow_68 : decode cX7_betterNow 68 = .ok (.goto 32, 3) := by decide +kernel
theorem dX7_betterNow_71 : decode cX7_betterNow 71 = .ok (.aload_n 0, 1) := by decide +kernel
theorem dX7_betterNow_72 : decode cX7_betterNow 72 = .ok (.iload_n 3, 1) := by decide +kernel
theorem dX7_betterNow_73 : decode cX7_betterNow 73 = .ok (.iload 4, 2) := by decide +kernel
theorem dX7_betterNow_75 : decode cX7_betterNow 75 = .ok (.invokevirtual 194, 3) := by decide +kernel
theorem dX7_betterNow_78 : decode cX7_betterNow 78 = .ok (.istore 5, 2) := by decide +kernel
theorem dX7_betterNow_80 : decode cX7_betterNow 80 = .ok (.iload 5, 2) := by decide +kernel
theorem dX7_betterNow_82 : decode cX7_betterNow 82 = .ok (.iload_n 1, 1) := by decide +kernel
theorem dX7_betterNow_83 : decode cX7_betterNow 83 = .ok (.if_icmp .lt 6, 3) := by decide +kernel
theorem dX7_betterNow_86 : decode cX7_betterNow 86 = .ok (.goto 14, 3) := by decide +kernel
theorem dX7_betterNow_89 : decode cX7_betterNow 89 = .ok (.iload 5, 2) := by decide +kernel
theorem dX7_betterNow_91 : decode cX7_betterNow 91 = .ok (.istore_n 1, 1) := by decide +kernel
theorem dX7_betterNow_92 : decode cX7_betterNow 92 = .ok (.bipush 100, 2) := by decide +kernel
theorem dX7_betterNow_94 : decode cX7_betterNow 94 = .ok (.iload_n 3, 1) := by decide +kernel
theorem dX7_betterNow_95 : decode cX7_betterNow 95 = .ok (.imul, 1) := by decide +kernel
theorem dX7_betterNow_96 : decode cX7_betterNow 96 = .ok (.iload 4, 2) := by decide +kernel
theorem dX7_betterNow_98 : decode cX7_betterNow 98 = .ok (.iadd, 1) := by decide +kernel
theorem dX7_betterNow_99 : decode cX7_betterNow 99 = .ok (.istore_n 2, 1) := by decide +kernel
theorem dX7_betterNow_100 : decode cX7_betterNow 100 = .ok (.iinc 4 1, 3) := by decide +kernel
theorem dX7_betterNow_103 : decode cX7_betterNow 103 = .ok (.goto (-75), 3) := by decide +kernel
theorem dX7_betterNow_106 : decode cX7_betterNow 106 = .ok (.iinc 3 1, 3) := by decide +kernel
theorem dX7_betterNow_109 : decode cX7_betterNow 109 = .ok (.goto (-99), 3) := by decide +kernel
theorem dX7_betterNow_112 : decode cX7_betterNow 112 = .ok (.iload_n 2, 1) := by decide +kernel
theorem dX7_betterNow_113 : decode cX7_betterNow 113 = .ok (.ireturn, 1) := by decide +kernel
set_option maxRecDepth 20000 in
theorem ggX7_placed_X7_placeOf : GoodIn wsX7_placed wsX7_placeOf := goodIn_r _ [6, 7, 8, 9, 5, 10, 1, 11, 12, 13, 14, 15, 16, 17, 18, 19, 20, 21, 22, 23, 24, 25, 26, 27, 28, 29, 30, 31, 32, 33] (by decide +kernel) (by decide +kernel)
set_option maxRecDepth 20000 in
theorem gX7_placed_X7_placeOf : GoodIn wsX7_placed (wsV RX7 162 RX7 yX7_placeOf wsX7_placeOf) := goodIn_app (goodIn_of _ (by decide +kernel)) ggX7_placed_X7_placeOf
theorem dX7_placed_0 : decode cX7_placed 0 = .ok (.iconst 0, 1) := by decide +kernel
theorem dX7_placed_1 : decode cX7_placed 1 = .ok (.istore_n 1, 1) := by decide +kernel
theorem dX7_placed_2 : decode cX7_placed 2 = .ok (.iconst 0, 1) := by decide +kernel
theorem dX7_placed_3 : decode cX7_placed 3 = .ok (.istore_n 2, 1) := by decide +kernel
theorem dX7_placed_4 : decode cX7_placed 4 = .ok (.iload_n 2, 1) := by decide +kernel
theorem dX7_placed_5 : decode cX7_placed 5 = .ok (.aload_n 0, 1) := by decide +kernel
theorem dX7_placed_6 : decode cX7_placed 6 = .ok (.getfield 74, 3) := by decide +kernel
theorem dX7_placed_9 : decode cX7_placed 9 = .ok (.iconst 3, 1) := by decide +kernel
theorem dX7_placed_10 : decode cX7_placed 10 = .ok (.iaload, 1) := by decide +kernel
theorem dX7_placed_11 : decode cX7_placed 11 = .ok (.if_icmp .ge 21, 3) := by decide +kernel
theorem dX7_placed_14 : decode cX7_placed 14 = .ok (.aload_n 0, 1) := by decide +kernel
theorem dX7_placed_15 : decode cX7_placed 15 = .ok (.iload_n 2, 1) := by decide +kernel
theorem dX7_placed_16 : decode cX7_placed 16 = .ok (.invokevirtual 162, 3) := by decide +kernel
theorem dX7_placed_19 : decode cX7_placed 19 = .ok (.iconst (-1), 1) := by decide +kernel
theorem dX7_placed_20 : decode cX7_placed 20 = .ok (.if_icmp .eq 6, 3) := by decide +kernel
theorem dX7_placed_23 : decode cX7_placed 23 = .ok (.iinc 1 1, 3) := by decide +kernel
theorem dX7_placed_26 : decode cX7_placed 26 = .ok (.iinc 2 1, 3) := by decide +kernel
theorem dX7_placed_29 : decode cX7_placed 29 = .ok (.goto (-25), 3) := by decide +kernel
theorem dX7_placed_32 : decode cX7_placed 32 = .ok (.iload_n 1, 1) := by decide +kernel
theorem dX7_placed_33 : decode cX7_placed 33 = .ok (.ireturn, 1) := by decide +kernel
set_option maxRecDepth 20000 in
theorem ggX7_now_X7_placed : GoodIn wsX7_now wsX7_placed := goodIn_r _ [9, 2, 10, 11, 12, 8, 13, 14, 15, 16, 17, 53, 54, 55, 56, 57, 58, 59, 60, 61, 62, 63, 64, 65, 66, 67, 68, 69, 70, 71, 72, 73, 74, 75] (by decide +kernel) (by decide +kernel)
set_option maxRecDepth 20000 in
theorem gX7_now_X7_placed : GoodIn wsX7_now (wsV RX7 197 RX7 yX7_placed wsX7_placed) := goodIn_app (goodIn_of _ (by decide +kernel)) ggX7_now_X7_placed
set_option maxRecDepth 20000 in
theorem ggX7_now_X7_shortfall : GoodIn wsX7_now wsX7_shortfall := goodIn_r _ [21, 22, 23, 24, 8, 25, 2, 26, 27, 28, 29, 30, 31, 32, 33, 34, 35, 36, 37, 38, 39, 40, 41, 42, 43, 44, 45, 46, 47, 48, 14, 15, 16, 17, 49, 50, 51, 52, 10, 11, 12, 13, 53, 54, 55, 56, 57, 58, 59, 60, 61, 62, 63, 64, 65, 66, 67, 68, 69, 70, 71, 72, 73, 74, 75] (by decide +kernel) (by decide +kernel)
set_option maxRecDepth 20000 in
theorem gX7_now_X7_shortfall : GoodIn wsX7_now (wsV RX7 187 RX7 yX7_shortfall wsX7_shortfall) := goodIn_app (goodIn_of _ (by decide +kernel)) ggX7_now_X7_shortfall
theorem dX7_now_0 : decode cX7_now 0 = .ok (.aload_n 0, 1) := by decide +kernel
theorem dX7_now_1 : decode cX7_now 1 = .ok (.iconst 0, 1) := by decide +kernel
theorem dX7_now_2 : decode cX7_now 2 = .ok (.putfield 1, 3) := by decide +kernel
theorem dX7_now_5 : decode cX7_now 5 = .ok (.iload_n 1, 1) := by decide +kernel
theorem dX7_now_6 : decode cX7_now 6 = .ok (.tableswitch 94 0 7 #[46, 53, 60, 67, 72, 77, 84, 89], 46) := by decide +kernel
theorem dX7_now_52 : decode cX7_now 52 = .ok (.aload_n 0, 1) := by decide +kernel
theorem dX7_now_53 : decode cX7_now 53 = .ok (.getfield 74, 3) := by decide +kernel
theorem dX7_now_56 : decode cX7_now 56 = .ok (.iconst 0, 1) := by decide +kernel
theorem dX7_now_57 : decode cX7_now 57 = .ok (.iaload, 1) := by decide +kernel
theorem dX7_now_58 : decode cX7_now 58 = .ok (.ireturn, 1) := by decide +kernel
theorem dX7_now_59 : decode cX7_now 59 = .ok (.aload_n 0, 1) := by decide +kernel
theorem dX7_now_60 : decode cX7_now 60 = .ok (.getfield 74, 3) := by decide +kernel
theorem dX7_now_63 : decode cX7_now 63 = .ok (.iconst 2, 1) := by decide +kernel
theorem dX7_now_64 : decode cX7_now 64 = .ok (.iaload, 1) := by decide +kernel
theorem dX7_now_65 : decode cX7_now 65 = .ok (.ireturn, 1) := by decide +kernel
theorem dX7_now_66 : decode cX7_now 66 = .ok (.aload_n 0, 1) := by decide +kernel
theorem dX7_now_67 : decode cX7_now 67 = .ok (.getfield 74, 3) := by decide +kernel
theorem dX7_now_70 : decode cX7_now 70 = .ok (.iconst 3, 1) := by decide +kernel
theorem dX7_now_71 : decode cX7_now 71 = .ok (.iaload, 1) := by decide +kernel
theorem dX7_now_72 : decode cX7_now 72 = .ok (.ireturn, 1) := by decide +kernel
theorem dX7_now_73 : decode cX7_now 73 = .ok (.aload_n 0, 1) := by decide +kernel
theorem dX7_now_74 : decode cX7_now 74 = .ok (.invokevirtual 197, 3) := by decide +kernel
theorem dX7_now_77 : decode cX7_now 77 = .ok (.ireturn, 1) := by decide +kernel
theorem dX7_now_78 : decode cX7_now 78 = .ok (.aload_n 0, 1) := by decide +kernel
theorem dX7_now_79 : decode cX7_now 79 = .ok (.invokevirtual 187, 3) := by decide +kernel
theorem dX7_now_82 : decode cX7_now 82 = .ok (.ireturn, 1) := by decide +kernel
theorem dX7_now_83 : decode cX7_now 83 = .ok (.aload_n 0, 1) := by decide +kernel
theorem dX7_now_84 : decode cX7_now 84 = .ok (.getfield 74, 3) := by decide +kernel
theorem dX7_now_87 : decode cX7_now 87 = .ok (.iconst 1, 1) := by decide +kernel
theorem dX7_now_88 : decode cX7_now 88 = .ok (.iaload, 1) := by decide +kernel
theorem dX7_now_89 : decode cX7_now 89 = .ok (.ireturn, 1) := by decide +kernel
theorem dX7_now_90 : decode cX7_now 90 = .ok (.aload_n 0, 1) := by decide +kernel
theorem dX7_now_91 : decode cX7_now 91 = .ok (.getfield 152, 3) := by decide +kernel
theorem dX7_now_94 : decode cX7_now 94 = .ok (.ireturn, 1) := by decide +kernel
theorem dX7_now_95 : decode cX7_now 95 = .ok (.aload_n 0, 1) := by decide +kernel
theorem dX7_now_96 : decode cX7_now 96 = .ok (.getfield 11, 3) := by decide +kernel
theorem dX7_now_99 : decode cX7_now 99 = .ok (.ireturn, 1) := by decide +kernel
theorem dX7_now_100 : decode cX7_now 100 = .ok (.iconst (-1), 1) := by decide +kernel
theorem dX7_now_101 : decode cX7_now 101 = .ok (.ireturn, 1) := by decide +kernel
set_option maxRecDepth 20000 in
theorem ggX7_shift_X7_isIn : GoodIn wsX7_shift wsX7_isIn := goodIn_r _ [6] (by decide +kernel) (by decide +kernel)
set_option maxRecDepth 20000 in
theorem gX7_shift_X7_isIn : GoodIn wsX7_shift (va_wsS RX7 102 yX7_isIn wsX7_isIn) := goodIn_app (goodIn_of _ (by decide +kernel)) ggX7_shift_X7_isIn
set_option maxRecDepth 20000 in
theorem ggX7_shift_X7_refuse : GoodIn wsX7_shift wsX7_refuse := goodIn_r _ [10, 1, 15, 16, 17, 18, 19, 20, 21, 22, 23, 24, 25, 26, 27, 28, 29, 30, 31, 32, 33, 34, 35, 36, 37] (by decide +kernel) (by decide +kernel)
set_option maxRecDepth 20000 in
theorem gX7_shift_X7_refuse : GoodIn wsX7_shift (wsV RX7 200 RX7 yX7_refuse wsX7_refuse) := goodIn_app (goodIn_of _ (by decide +kernel)) ggX7_shift_X7_refuse
set_option maxRecDepth 20000 in
theorem ggX7_shift_X7_duty : GoodIn wsX7_shift wsX7_duty := goodIn_r _ [14, 2, 15, 16, 17, 18, 19, 20, 21, 22, 23, 24, 25, 26, 27, 28, 29, 30, 31, 32, 33, 34, 35, 36, 37] (by decide +kernel) (by decide +kernel)
set_option maxRecDepth 20000 in
theorem gX7_shift_X7_duty : GoodIn wsX7_shift (wsV RX7 159 RX7 yX7_duty wsX7_duty) := goodIn_app (goodIn_of _ (by decide +kernel)) ggX7_shift_X7_duty
theorem dX7_shift_0 : decode cX7_shift 0 = .ok (.aload_n 0, 1) := by decide +kernel
theorem dX7_shift_1 : decode cX7_shift 1 = .ok (.iconst 0, 1) := by decide +kernel
theorem dX7_shift_2 : decode cX7_shift 2 = .ok (.putfield 1, 3) := by decide +kernel
theorem dX7_shift_5 : decode cX7_shift 5 = .ok (.iload_n 1, 1) := by decide +kernel
theorem dX7_shift_6 : decode cX7_shift 6 = .ok (.iconst 0, 1) := by decide +kernel
theorem dX7_shift_7 : decode cX7_shift 7 = .ok (.aload_n 0, 1) := by decide +kernel
theorem dX7_shift_8 : decode cX7_shift 8 = .ok (.getfield 74, 3) := by decide +kernel
theorem dX7_shift_11 : decode cX7_shift 11 = .ok (.iconst 2, 1) := by decide +kernel
theorem dX7_shift_12 : decode cX7_shift 12 = .ok (.iaload, 1) := by decide +kernel
theorem dX7_shift_13 : decode cX7_shift 13 = .ok (.iconst 1, 1) := by decide +kernel
theorem dX7_shift_14 : decode cX7_shift 14 = .ok (.isub, 1) := by decide +kernel
theorem dX7_shift_15 : decode cX7_shift 15 = .ok (.invokestatic 102, 3) := by decide +kernel
theorem dX7_shift_18 : decode cX7_shift 18 = .ok (.ifCond .eq 12, 3) := by decide +kernel
theorem dX7_shift_21 : decode cX7_shift 21 = .ok (.iload_n 2, 1) := by decide +kernel
theorem dX7_shift_22 : decode cX7_shift 22 = .ok (.iconst 0, 1) := by decide +kernel
theorem dX7_shift_23 : decode cX7_shift 23 = .ok (.iconst 4, 1) := by decide +kernel
theorem dX7_shift_24 : decode cX7_shift 24 = .ok (.invokestatic 102, 3) := by decide +kernel
theorem dX7_shift_27 : decode cX7_shift 27 = .ok (.ifCond .ne 8, 3) := by decide +kernel
theorem dX7_shift_30 : decode cX7_shift 30 = .ok (.aload_n 0, 1) := by decide +kernel
theorem dX7_shift_31 : decode cX7_shift 31 = .ok (.invokevirtual 200, 3) := by decide +kernel
theorem dX7_shift_34 : decode cX7_shift 34 = .ok (.ireturn, 1) := by decide +kernel
theorem dX7_shift_35 : decode cX7_shift 35 = .ok (.iload_n 2, 1) := by decide +kernel
theorem dX7_shift_36 : decode cX7_shift 36 = .ok (.iconst 4, 1) := by decide +kernel
theorem dX7_shift_37 : decode cX7_shift 37 = .ok (.if_icmp .ne 16, 3) := by decide +kernel
theorem dX7_shift_40 : decode cX7_shift 40 = .ok (.aload_n 0, 1) := by decide +kernel
theorem dX7_shift_41 : decode cX7_shift 41 = .ok (.iload_n 1, 1) := by decide +kernel
theorem dX7_shift_42 : decode cX7_shift 42 = .ok (.iconst 3, 1) := by decide +kernel
theorem dX7_shift_43 : decode cX7_shift 43 = .ok (.invokevirtual 159, 3) := by decide +kernel
theorem dX7_shift_46 : decode cX7_shift 46 = .ok (.ifCond .ne 7, 3) := by decide +kernel
theorem dX7_shift_49 : decode cX7_shift 49 = .ok (.iconst (-1), 1) := by decide +kernel
theorem dX7_shift_50 : decode cX7_shift 50 = .ok (.goto 9, 3) := by decide +kernel
theorem dX7_shift_53 : decode cX7_shift 53 = .ok (.aload_n 0, 1) := by decide +kernel
theorem dX7_shift_54 : decode cX7_shift 54 = .ok (.iload_n 1, 1) := by decide +kernel
theorem dX7_shift_55 : decode cX7_shift 55 = .ok (.iload_n 2, 1) := by decide +kernel
theorem dX7_shift_56 : decode cX7_shift 56 = .ok (.invokevirtual 159, 3) := by decide +kernel
theorem dX7_shift_59 : decode cX7_shift 59 = .ok (.ireturn, 1) := by decide +kernel
set_option maxRecDepth 20000 in
theorem ggX7_pause_X7_isPause : GoodIn wsX7_pause wsX7_isPause := goodIn_r _ [6, 7, 8, 9, 5, 10, 23, 24, 25, 26, 27, 28, 29, 30, 31, 32, 33, 34, 35, 36, 37, 38, 39, 40, 41, 42, 43, 44, 45] (by decide +kernel) (by decide +kernel)
set_option maxRecDepth 20000 in
theorem gX7_pause_X7_isPause : GoodIn wsX7_pause (wsV RX7 203 RX7 yX7_isPause wsX7_isPause) := goodIn_app (goodIn_of _ (by decide +kernel)) ggX7_pause_X7_isPause
set_option maxRecDepth 20000 in
theorem ggX7_pause_X7_isIn : GoodIn wsX7_pause wsX7_isIn := goodIn_r _ [10] (by decide +kernel) (by decide +kernel)
set_option maxRecDepth 20000 in
theorem gX7_pause_X7_isIn : GoodIn wsX7_pause (va_wsS RX7 102 yX7_isIn wsX7_isIn) := goodIn_app (goodIn_of _ (by decide +kernel)) ggX7_pause_X7_isIn
set_option maxRecDepth 20000 in
theorem ggX7_pause_X7_refuse : GoodIn wsX7_pause wsX7_refuse := goodIn_r _ [14, 1, 23, 24, 25, 26, 27, 28, 29, 30, 31, 32, 33, 34, 35, 36, 37, 38, 39, 40, 41, 42, 43, 44, 45] (by decide +kernel) (by decide +kernel)
set_option maxRecDepth 20000 in
theorem gX7_pause_X7_refuse : GoodIn wsX7_pause (wsV RX7 200 RX7 yX7_refuse wsX7_refuse) := goodIn_app (goodIn_of _ (by decide +kernel)) ggX7_pause_X7_refuse
set_option maxRecDepth 20000 in
theorem ggX7_pause_X7_placeOf : GoodIn wsX7_pause wsX7_placeOf := goodIn_r _ [18, 19, 20, 21, 5, 22, 7, 23, 24, 25, 26, 27, 28, 29, 30, 31, 32, 33, 34, 35, 36, 37, 38, 39, 40, 41, 42, 43, 44, 45] (by decide +kernel) (by decide +kernel)
set_option maxRecDepth 20000 in
theorem gX7_pause_X7_placeOf : GoodIn wsX7_pause (wsV RX7 162 RX7 yX7_placeOf wsX7_placeOf) := goodIn_app (goodIn_of _ (by decide +kernel)) ggX7_pause_X7_placeOf
set_option maxRecDepth 20000 in
theorem ggX7_pause_X7_its : GoodIn wsX7_pause wsX7_its := goodIn_r _ [22, 7, 23, 24, 25, 26, 27, 28, 29, 30, 31, 32, 33, 34, 35, 36, 37, 38, 39, 40, 41, 42, 43, 44, 45] (by decide +kernel) (by decide +kernel)
set_option maxRecDepth 20000 in
theorem gX7_pause_X7_its : GoodIn wsX7_pause (wsV RX7 155 RX7 yX7_its wsX7_its) := goodIn_app (goodIn_of _ (by decide +kernel)) ggX7_pause_X7_its
theorem dX7_pause_0 : decode cX7_pause 0 = .ok (.aload_n 0, 1) := by decide +kernel
theorem dX7_pause_1 : decode cX7_pause 1 = .ok (.iconst 0, 1) := by decide +kernel
theorem dX7_pause_2 : decode cX7_pause 2 = .ok (.putfield 1, 3) := by decide +kernel
theorem dX7_pause_5 : decode cX7_pause 5 = .ok (.aload_n 0, 1) := by decide +kernel
theorem dX7_pause_6 : decode cX7_pause 6 = .ok (.iload_n 1, 1) := by decide +kernel
theorem dX7_pause_7 : decode cX7_pause 7 = .ok (.invokevirtual 203, 3) := by decide +kernel
theorem dX7_pause_10 : decode cX7_pause 10 = .ok (.ifCond .eq 12, 3) := by decide +kernel
theorem dX7_pause_13 : decode cX7_pause 13 = .ok (.iload_n 2, 1) := by decide +kernel
theorem dX7_pause_14 : decode cX7_pause 14 = .ok (.iconst 0, 1) := by decide +kernel
theorem dX7_pause_15 : decode cX7_pause 15 = .ok (.iconst 4, 1) := by decide +kernel
theorem dX7_pause_16 : decode cX7_pause 16 = .ok (.invokestatic 102, 3) := by decide +kernel
theorem dX7_pause_19 : decode cX7_pause 19 = .ok (.ifCond .ne 8, 3) := by decide +kernel
theorem dX7_pause_22 : decode cX7_pause 22 = .ok (.aload_n 0, 1) := by decide +kernel
theorem dX7_pause_23 : decode cX7_pause 23 = .ok (.invokevirtual 200, 3) := by decide +kernel
theorem dX7_pause_26 : decode cX7_pause 26 = .ok (.ireturn, 1) := by decide +kernel
theorem dX7_pause_27 : decode cX7_pause 27 = .ok (.iload_n 2, 1) := by decide +kernel
theorem dX7_pause_28 : decode cX7_pause 28 = .ok (.iconst 4, 1) := by decide +kernel
theorem dX7_pause_29 : decode cX7_pause 29 = .ok (.if_icmp .ne 11, 3) := by decide +kernel
theorem dX7_pause_32 : decode cX7_pause 32 = .ok (.aload_n 0, 1) := by decide +kernel
theorem dX7_pause_33 : decode cX7_pause 33 = .ok (.iload_n 1, 1) := by decide +kernel
theorem dX7_pause_34 : decode cX7_pause 34 = .ok (.invokevirtual 162, 3) := by decide +kernel
theorem dX7_pause_37 : decode cX7_pause 37 = .ok (.goto 9, 3) := by decide +kernel
theorem dX7_pause_40 : decode cX7_pause 40 = .ok (.aload_n 0, 1) := by decide +kernel
theorem dX7_pause_41 : decode cX7_pause 41 = .ok (.iload_n 1, 1) := by decide +kernel
theorem dX7_pause_42 : decode cX7_pause 42 = .ok (.iload_n 2, 1) := by decide +kernel
theorem dX7_pause_43 : decode cX7_pause 43 = .ok (.invokevirtual 155, 3) := by decide +kernel
theorem dX7_pause_46 : decode cX7_pause 46 = .ok (.ireturn, 1) := by decide +kernel
set_option maxRecDepth 20000 in
theorem ggX7_slot_X7_isPost : GoodIn wsX7_slot wsX7_isPost := goodIn_r _ [6, 7, 8, 9, 5, 10, 46, 47, 48, 49, 50, 51, 52, 53, 54, 55, 56, 57, 58, 59, 60, 61, 62, 63, 64, 65, 66, 67, 68] (by decide +kernel) (by decide +kernel)
set_option maxRecDepth 20000 in
theorem gX7_slot_X7_isPost : GoodIn wsX7_slot (wsV RX7 206 RX7 yX7_isPost wsX7_isPost) := goodIn_app (goodIn_of _ (by decide +kernel)) ggX7_slot_X7_isPost
set_option maxRecDepth 20000 in
theorem ggX7_slot_X7_isSlot : GoodIn wsX7_slot wsX7_isSlot := goodIn_r _ [13, 8, 9, 5, 10] (by decide +kernel) (by decide +kernel)
set_option maxRecDepth 20000 in
theorem gX7_slot_X7_isSlot : GoodIn wsX7_slot (va_wsS RX7 209 yX7_isSlot wsX7_isSlot) := goodIn_app (goodIn_of _ (by decide +kernel)) ggX7_slot_X7_isSlot
set_option maxRecDepth 20000 in
theorem ggX7_slot_X7_needOf : GoodIn wsX7_slot wsX7_needOf := goodIn_r _ [17, 7, 46, 47, 48, 49, 50, 51, 52, 53, 54, 55, 56, 57, 58, 59, 60, 61, 62, 63, 64, 65, 66, 67, 68] (by decide +kernel) (by decide +kernel)
set_option maxRecDepth 20000 in
theorem gX7_slot_X7_needOf : GoodIn wsX7_slot (wsV RX7 171 RX7 yX7_needOf wsX7_needOf) := goodIn_app (goodIn_of _ (by decide +kernel)) ggX7_slot_X7_needOf
set_option maxRecDepth 20000 in
theorem ggX7_slot_X7_coverOf : GoodIn wsX7_slot wsX7_coverOf := goodIn_r _ [21, 7, 22, 23, 24, 5, 25, 26, 27, 28, 29, 8, 9, 10, 30, 31, 32, 33, 34, 35, 36, 37, 38, 39, 40, 41, 46, 47, 48, 49, 50, 51, 52, 53, 54, 55, 56, 57, 58, 59, 60, 61, 62, 63, 64, 65, 66, 67, 68] (by decide +kernel) (by decide +kernel)
set_option maxRecDepth 20000 in
theorem gX7_slot_X7_coverOf : GoodIn wsX7_slot (wsV RX7 174 RX7 yX7_coverOf wsX7_coverOf) := goodIn_app (goodIn_of _ (by decide +kernel)) ggX7_slot_X7_coverOf
set_option maxRecDepth 20000 in
theorem ggX7_slot_X7_shortOf : GoodIn wsX7_slot wsX7_shortOf := goodIn_r _ [45, 14, 15, 16, 5, 17, 7, 18, 19, 20, 21, 22, 23, 24, 25, 26, 27, 28, 29, 8, 9, 10, 30, 31, 32, 33, 34, 35, 36, 37, 38, 39, 40, 41, 46, 47, 48, 49, 50, 51, 52, 53, 54, 55, 56, 57, 58, 59, 60, 61, 62, 63, 64, 65, 66, 67, 68] (by decide +kernel) (by decide +kernel)
set_option maxRecDepth 20000 in
theorem gX7_slot_X7_shortOf : GoodIn wsX7_slot (wsV RX7 177 RX7 yX7_shortOf wsX7_shortOf) := goodIn_app (goodIn_of _ (by decide +kernel)) ggX7_slot_X7_shortOf
theorem dX7_slot_0 : decode cX7_slot 0 = .ok (.aload_n 0, 1) := by decide +kernel
theorem dX7_slot_1 : decode cX7_slot 1 = .ok (.iconst 0, 1) := by decide +kernel
theorem dX7_slot_2 : decode cX7_slot 2 = .ok (.putfield 1, 3) := by decide +kernel
theorem dX7_slot_5 : decode cX7_slot 5 = .ok (.aload_n 0, 1) := by decide +kernel
theorem dX7_slot_6 : decode cX7_slot 6 = .ok (.iload_n 1, 1) := by decide +kernel
theorem dX7_slot_7 : decode cX7_slot 7 = .ok (.invokevirtual 206, 3) := by decide +kernel
theorem dX7_slot_10 : decode cX7_slot 10 = .ok (.ifCond .eq 10, 3) := by decide +kernel
theorem dX7_slot_13 : decode cX7_slot 13 = .ok (.iload_n 2, 1) := by decide +kernel
theorem dX7_slot_14 : decode cX7_slot 14 = .ok (.invokestatic 209, 3) := by decide +kernel
theorem dX7_slot_17 : decode cX7_slot 17 = .ok (.ifCond .ne 5, 3) := by decide +kernel
theorem dX7_slot_20 : decode cX7_slot 20 = .ok (.iconst (-1), 1) := by decide +kernel
theorem dX7_slot_21 : decode cX7_slot 21 = .ok (.ireturn, 1) := by decide +kernel
theorem dX7_slot_22 : decode cX7_slot 22 = .ok (.iload_n 3, 1) := by decide +kernel
theorem dX7_slot_23 : decode cX7_slot 23 = .ok (.ifCond .ne 12, 3) := by decide +kernel
theorem dX7_slot_26 : decode cX7_slot 26 = .ok (.aload_n 0, 1) := by decide +kernel
theorem dX7_slot_27 : decode cX7_slot 27 = .ok (.iload_n 1, 1) := by decide +kernel
theorem dX7_slot_28 : decode cX7_slot 28 = .ok (.iload_n 2, 1) := by decide +kernel
theorem dX7_slot_29 : decode cX7_slot 29 = .ok (.invokevirtual 171, 3) := by decide +kernel
theorem dX7_slot_32 : decode cX7_slot 32 = .ok (.goto 32, 3) := by decide +kernel
theorem dX7_slot_35 : decode cX7_slot 35 = .ok (.iload_n 3, 1) := by decide +kernel
theorem dX7_slot_36 : decode cX7_slot 36 = .ok (.iconst 1, 1) := by decide +kernel
theorem dX7_slot_37 : decode cX7_slot 37 = .ok (.if_icmp .ne 12, 3) := by decide +kernel
theorem dX7_slot_40 : decode cX7_slot 40 = .ok (.aload_n 0, 1) := by decide +kernel
theorem dX7_slot_41 : decode cX7_slot 41 = .ok (.iload_n 1, 1) := by decide +kernel
theorem dX7_slot_42 : decode cX7_slot 42 = .ok (.iload_n 2, 1) := by decide +kernel
theorem dX7_slot_43 : decode cX7_slot 43 = .ok (.invokevirtual 174, 3) := by decide +kernel
theorem dX7_slot_46 : decode cX7_slot 46 = .ok (.goto 18, 3) := by decide +kernel
theorem dX7_slot_49 : decode cX7_slot 49 = .ok (.iload_n 3, 1) := by decide +kernel
theorem dX7_slot_50 : decode cX7_slot 50 = .ok (.iconst 2, 1) := by decide +kernel
theorem dX7_slot_51 : decode cX7_slot 51 = .ok (.if_icmp .ne 12, 3) := by decide +kernel
theorem dX7_slot_54 : decode cX7_slot 54 = .ok (.aload_n 0, 1) := by decide +kernel
theorem dX7_slot_55 : decode cX7_slot 55 = .ok (.iload_n 1, 1) := by decide +kernel
theorem dX7_slot_56 : decode cX7_slot 56 = .ok (.iload_n 2, 1) := by decide +kernel
theorem dX7_slot_57 : decode cX7_slot 57 = .ok (.invokevirtual 177, 3) := by decide +kernel
theorem dX7_slot_60 : decode cX7_slot 60 = .ok (.goto 4, 3) := by decide +kernel
theorem dX7_slot_63 : decode cX7_slot 63 = .ok (.iconst (-1), 1) := by decide +kernel
theorem dX7_slot_64 : decode cX7_slot 64 = .ok (.ireturn, 1) := by decide +kernel
set_option maxRecDepth 20000 in
theorem ggX7_why_X7_isPause : GoodIn wsX7_why wsX7_isPause := goodIn_r _ [6, 7, 8, 9, 5, 10, 26, 27, 28, 29, 30, 31, 32, 33, 34, 35, 36, 37, 38, 39, 40, 41, 42, 43, 44, 45, 46, 47, 48] (by decide +kernel) (by decide +kernel)
set_option maxRecDepth 20000 in
theorem gX7_why_X7_isPause : GoodIn wsX7_why (wsV RX7 203 RX7 yX7_isPause wsX7_isPause) := goodIn_app (goodIn_of _ (by decide +kernel)) ggX7_why_X7_isPause
set_option maxRecDepth 20000 in
theorem ggX7_why_X7_isSlot : GoodIn wsX7_why wsX7_isSlot := goodIn_r _ [13, 8, 9, 5, 10] (by decide +kernel) (by decide +kernel)
set_option maxRecDepth 20000 in
theorem gX7_why_X7_isSlot : GoodIn wsX7_why (va_wsS RX7 209 yX7_isSlot wsX7_isSlot) := goodIn_app (goodIn_of _ (by decide +kernel)) ggX7_why_X7_isSlot
set_option maxRecDepth 20000 in
theorem ggX7_why_X7_whyNot : GoodIn wsX7_why wsX7_whyNot := goodIn_r _ [17, 7, 18, 19, 20, 5, 21, 8, 9, 10, 22, 23, 24, 25, 26, 27, 28, 29, 30, 31, 32, 33, 34, 35, 36, 37, 38, 39, 40, 41, 42, 43, 44, 45, 46, 47, 48] (by decide +kernel) (by decide +kernel)
set_option maxRecDepth 20000 in
theorem gX7_why_X7_whyNot : GoodIn wsX7_why (wsV RX7 191 RX7 yX7_whyNot wsX7_whyNot) := goodIn_app (goodIn_of _ (by decide +kernel)) ggX7_why_X7_whyNot
theorem dX7_why_0 : decode cX7_why 0 = .ok (.aload_n 0, 1) := by decide +kernel
theorem dX7_why_1 : decode cX7_why 1 = .ok (.iconst 0, 1) := by decide +kernel
theorem dX7_why_2 : decode cX7_why 2 = .ok (.putfield 1, 3) := by decide +kernel
theorem dX7_why_5 : decode cX7_why 5 = .ok (.aload_n 0, 1) := by decide +kernel
theorem dX7_why_6 : decode cX7_why 6 = .ok (.iload_n 1, 1) := by decide +kernel
theorem dX7_why_7 : decode cX7_why 7 = .ok (.invokevirtual 203, 3) := by decide +kernel
theorem dX7_why_10 : decode cX7_why 10 = .ok (.ifCond .eq 19, 3) := by decide +kernel
theorem dX7_why_13 : decode cX7_why 13 = .ok (.iload_n 2, 1) := by decide +kernel
theorem dX7_why_14 : decode cX7_why 14 = .ok (.invokestatic 209, 3) := by decide +kernel
theorem dX7_why_17 : decode cX7_why 17 = .ok (.ifCond .eq 12, 3) := by decide +kernel
theorem dX7_why_20 : decode cX7_why 20 = .ok (.aload_n 0, 1) := by decide +kernel
theorem dX7_why_21 : decode cX7_why 21 = .ok (.iload_n 1, 1) := by decide +kernel
theorem dX7_why_22 : decode cX7_why 22 = .ok (.iload_n 2, 1) := by decide +kernel
theorem dX7_why_23 : decode cX7_why 23 = .ok (.invokevirtual 191, 3) := by decide +kernel
theorem dX7_why_26 : decode cX7_why 26 = .ok (.goto 4, 3) := by decide +kernel
theorem dX7_why_29 : decode cX7_why 29 = .ok (.iconst (-1), 1) := by decide +kernel
theorem dX7_why_30 : decode cX7_why 30 = .ok (.ireturn, 1) := by decide +kernel
set_option maxRecDepth 20000 in
theorem ggX7_would_X7_isPause : GoodIn wsX7_would wsX7_isPause := goodIn_r _ [6, 7, 8, 9, 5, 10, 66, 67, 68, 69, 70, 71, 72, 73, 74, 75, 76, 77, 78, 79, 80, 81, 82, 83, 84, 85, 86, 87, 88] (by decide +kernel) (by decide +kernel)
set_option maxRecDepth 20000 in
theorem gX7_would_X7_isPause : GoodIn wsX7_would (wsV RX7 203 RX7 yX7_isPause wsX7_isPause) := goodIn_app (goodIn_of _ (by decide +kernel)) ggX7_would_X7_isPause
set_option maxRecDepth 20000 in
theorem ggX7_would_X7_isSlot : GoodIn wsX7_would wsX7_isSlot := goodIn_r _ [13, 8, 9, 5, 10] (by decide +kernel) (by decide +kernel)
set_option maxRecDepth 20000 in
theorem gX7_would_X7_isSlot : GoodIn wsX7_would (va_wsS RX7 209 yX7_isSlot wsX7_isSlot) := goodIn_app (goodIn_of _ (by decide +kernel)) ggX7_would_X7_isSlot
set_option maxRecDepth 20000 in
theorem ggX7_would_X7_whyNot : GoodIn wsX7_would wsX7_whyNot := goodIn_r _ [17, 7, 18, 19, 20, 5, 21, 8, 9, 10, 22, 23, 24, 25, 66, 67, 68, 69, 70, 71, 72, 73, 74, 75, 76, 77, 78, 79, 80, 81, 82, 83, 84, 85, 86, 87, 88] (by decide +kernel) (by decide +kernel)
set_option maxRecDepth 20000 in
theorem gX7_would_X7_whyNot : GoodIn wsX7_would (wsV RX7 191 RX7 yX7_whyNot wsX7_whyNot) := goodIn_app (goodIn_of _ (by decide +kernel)) ggX7_would_X7_whyNot
set_option maxRecDepth 20000 in
theorem ggX7_would_X7_scoreAt : GoodIn wsX7_would wsX7_scoreAt := goodIn_r _ [29, 22, 23, 24, 5, 25, 18, 19, 20, 21, 7, 30, 31, 32, 33, 34, 35, 36, 37, 38, 39, 40, 41, 42, 43, 44, 45, 46, 47, 48, 49, 50, 51, 52, 53, 54, 55, 56, 57, 58, 59, 60, 61, 8, 9, 10, 62, 63, 64, 65, 66, 67, 68, 69, 70, 71, 72, 73, 74, 75, 76, 77, 78, 79, 80, 81, 82, 83, 84, 85, 86, 87, 88] (by decide +kernel) (by decide +kernel)
set_option maxRecDepth 20000 in
theorem gX7_would_X7_scoreAt : GoodIn wsX7_would (wsV RX7 194 RX7 yX7_scoreAt wsX7_scoreAt) := goodIn_app (goodIn_of _ (by decide +kernel)) ggX7_would_X7_scoreAt
theorem dX7_would_0 : decode cX7_would 0 = .ok (.aload_n 0, 1) := by decide +kernel
theorem dX7_would_1 : decode cX7_would 1 = .ok (.iconst 0, 1) := by decide +kernel
theorem dX7_would_2 : decode cX7_would 2 = .ok (.putfield 1, 3) := by decide +kernel
theorem dX7_would_5 : decode cX7_would 5 = .ok (.aload_n 0, 1) := by decide +kernel
theorem dX7_would_6 : decode cX7_would 6 = .ok (.iload_n 1, 1) := by decide +kernel
theorem dX7_would_7 : decode cX7_would 7 = .ok (.invokevirtual 203, 3) := by decide +kernel
theorem dX7_would_10 : decode cX7_would 10 = .ok (.ifCond .eq 28, 3) := by decide +kernel
theorem dX7_would_13 : decode cX7_would 13 = .ok (.iload_n 2, 1) := by decide +kernel
theorem dX7_would_14 : decode cX7_would 14 = .ok (.invokestatic 209, 3) := by decide +kernel
theorem dX7_would_17 : decode cX7_would 17 = .ok (.ifCond .eq 21, 3) := by decide +kernel
theorem dX7_would_20 : decode cX7_would 20 = .ok (.aload_n 0, 1) := by decide +kernel
theorem dX7_would_21 : decode cX7_would 21 = .ok (.iload_n 1, 1) := by decide +kernel
theorem dX7_would_22 : decode cX7_would 22 = .ok (.iload_n 2, 1) := by decide +kernel
theorem dX7_would_23 : decode cX7_would 23 = .ok (.invokevirtual 191, 3) := by decide +kernel
theorem dX7_would_26 : decode cX7_would 26 = .ok (.ifCond .ne 12, 3) := by decide +kernel
theorem dX7_would_29 : decode cX7_would 29 = .ok (.aload_n 0, 1) := by decide +kernel
theorem dX7_would_30 : decode cX7_would 30 = .ok (.iload_n 1, 1) := by decide +kernel
theorem dX7_would_31 : decode cX7_would 31 = .ok (.iload_n 2, 1) := by decide +kernel
theorem dX7_would_32 : decode cX7_would 32 = .ok (.invokevirtual 194, 3) := by decide +kernel
theorem dX7_would_35 : decode cX7_would 35 = .ok (.goto 4, 3) := by decide +kernel
theorem dX7_would_38 : decode cX7_would 38 = .ok (.iconst (-1), 1) := by decide +kernel
theorem dX7_would_39 : decode cX7_would 39 = .ok (.ireturn, 1) := by decide +kernel
set_option maxRecDepth 20000 in
theorem ggX7_best_X7_isPause : GoodIn wsX7_best wsX7_isPause := goodIn_r _ [6, 7, 8, 9, 5, 10, 67, 68, 69, 70, 71, 72, 73, 74, 75, 76, 77, 78, 79, 80, 81, 82, 83, 84, 85, 86, 87, 88, 89] (by decide +kernel) (by decide +kernel)
set_option maxRecDepth 20000 in
theorem gX7_best_X7_isPause : GoodIn wsX7_best (wsV RX7 203 RX7 yX7_isPause wsX7_isPause) := goodIn_app (goodIn_of _ (by decide +kernel)) ggX7_best_X7_isPause
set_option maxRecDepth 20000 in
theorem ggX7_best_X7_bestOf : GoodIn wsX7_best wsX7_bestOf := goodIn_r _ [14, 15, 16, 17, 5, 18, 7, 19, 20, 21, 22, 8, 9, 10, 23, 24, 25, 26, 27, 28, 29, 30, 31, 32, 33, 34, 35, 36, 37, 38, 39, 40, 41, 42, 43, 44, 45, 46, 47, 48, 49, 50, 51, 52, 53, 54, 55, 56, 57, 58, 59, 60, 61, 62, 63, 64, 65, 66, 67, 68, 69, 70, 71, 72, 73, 74, 75, 76, 77, 78, 79, 80, 81, 82, 83, 84, 85, 86, 87, 88, 89] (by decide +kernel) (by decide +kernel)
set_option maxRecDepth 20000 in
theorem gX7_best_X7_bestOf : GoodIn wsX7_best (wsV RX7 212 RX7 yX7_bestOf wsX7_bestOf) := goodIn_app (goodIn_of _ (by decide +kernel)) ggX7_best_X7_bestOf
theorem dX7_best_0 : decode cX7_best 0 = .ok (.aload_n 0, 1) := by decide +kernel
theorem dX7_best_1 : decode cX7_best 1 = .ok (.iconst 0, 1) := by decide +kernel
theorem dX7_best_2 : decode cX7_best 2 = .ok (.putfield 1, 3) := by decide +kernel
theorem dX7_best_5 : decode cX7_best 5 = .ok (.aload_n 0, 1) := by decide +kernel
theorem dX7_best_6 : decode cX7_best 6 = .ok (.iload_n 1, 1) := by decide +kernel
theorem dX7_best_7 : decode cX7_best 7 = .ok (.invokevirtual 203, 3) := by decide +kernel
theorem dX7_best_10 : decode cX7_best 10 = .ok (.ifCond .eq 11, 3) := by decide +kernel
theorem dX7_best_13 : decode cX7_best 13 = .ok (.aload_n 0, 1) := by decide +kernel
theorem dX7_best_14 : decode cX7_best 14 = .ok (.iload_n 1, 1) := by decide +kernel
theorem dX7_best_15 : decode cX7_best 15 = .ok (.invokevirtual 212, 3) := by decide +kernel
theorem dX7_best_18 : decode cX7_best 18 = .ok (.goto 4, 3) := by decide +kernel
theorem dX7_best_21 : decode cX7_best 21 = .ok (.iconst (-1), 1) := by decide +kernel
theorem dX7_best_22 : decode cX7_best 22 = .ok (.ireturn, 1) := by decide +kernel
set_option maxRecDepth 20000 in
theorem ggX7_better_X7_betterNow : GoodIn wsX7_better wsX7_betterNow := goodIn_r _ [6, 7, 8, 9, 10, 5, 11, 12, 13, 14, 15, 16, 17, 18, 19, 20, 21, 22, 23, 24, 25, 26, 27, 28, 29, 30, 31, 32, 33, 34, 35, 36, 37, 38, 39, 40, 41, 42, 43, 44, 45, 46, 47, 48, 49, 50, 51, 52, 53, 54, 55, 56, 57, 58, 59, 60, 61, 62, 63, 64, 65, 66, 67, 68, 69, 70, 71, 72, 73, 74, 75, 76, 77, 78, 79, 80, 81, 82, 83, 84, 85] (by decide +kernel) (by decide +kernel)
set_option maxRecDepth 20000 in
theorem gX7_better_X7_betterNow : GoodIn wsX7_better (wsV RX7 215 RX7 yX7_betterNow wsX7_betterNow) := goodIn_app (goodIn_of _ (by decide +kernel)) ggX7_better_X7_betterNow
theorem dX7_better_0 : decode cX7_better 0 = .ok (.aload_n 0, 1) := by decide +kernel
theorem dX7_better_1 : decode cX7_better 1 = .ok (.iconst 0, 1) := by decide +kernel
theorem dX7_better_2 : decode cX7_better 2 = .ok (.putfield 1, 3) := by decide +kernel
theorem dX7_better_5 : decode cX7_better 5 = .ok (.aload_n 0, 1) := by decide +kernel
theorem dX7_better_6 : decode cX7_better 6 = .ok (.invokevirtual 215, 3) := by decide +kernel
theorem dX7_better_9 : decode cX7_better 9 = .ok (.ireturn, 1) := by decide +kernel
set_option maxRecDepth 20000 in
theorem ggX7_getsSlot_X7_duty : GoodIn wsX7_getsSlot wsX7_duty := goodIn_r _ [10, 4, 18, 19, 20, 21, 22, 23, 24, 25, 26, 27, 28, 29, 30, 31, 32, 33, 34, 35, 36, 37, 38, 39, 40] (by decide +kernel) (by decide +kernel)
set_option maxRecDepth 20000 in
theorem gX7_getsSlot_X7_duty : GoodIn wsX7_getsSlot (wsV RX7 159 RX7 yX7_duty wsX7_duty) := goodIn_app (goodIn_of _ (by decide +kernel)) ggX7_getsSlot_X7_duty
set_option maxRecDepth 20000 in
theorem ggX7_getsSlot_X7_its : GoodIn wsX7_getsSlot wsX7_its := goodIn_r _ [14, 4, 18, 19, 20, 21, 22, 23, 24, 25, 26, 27, 28, 29, 30, 31, 32, 33, 34, 35, 36, 37, 38, 39, 40] (by decide +kernel) (by decide +kernel)
set_option maxRecDepth 20000 in
theorem gX7_getsSlot_X7_its : GoodIn wsX7_getsSlot (wsV RX7 155 RX7 yX7_its wsX7_its) := goodIn_app (goodIn_of _ (by decide +kernel)) ggX7_getsSlot_X7_its
set_option maxRecDepth 20000 in
theorem ggX7_getsSlot_X7_getsSlot : GoodIn wsX7_getsSlot wsX7_getsSlot := goodIn_r _ [0, 1, 2, 3, 4, 5, 6, 7, 8, 9, 10, 11, 12, 13, 14, 15, 16, 17, 18, 19, 20, 21, 22, 23, 24, 25, 26, 27, 28, 29, 30, 31, 32, 33, 34, 35, 36, 37, 38, 39, 40] (by decide +kernel) (by decide +kernel)
set_option maxRecDepth 20000 in
theorem gX7_getsSlot_X7_getsSlot : GoodIn wsX7_getsSlot (wsV RX7 218 RX7 yX7_getsSlot wsX7_getsSlot) := goodIn_app (goodIn_of _ (by decide +kernel)) ggX7_getsSlot_X7_getsSlot
theorem dX7_getsSlot_0 : decode cX7_getsSlot 0 = .ok (.aload_n 0, 1) := by decide +kernel
theorem dX7_getsSlot_1 : decode cX7_getsSlot 1 = .ok (.iload_n 1, 1) := by decide +kernel
theorem dX7_getsSlot_2 : decode cX7_getsSlot 2 = .ok (.iconst 4, 1) := by decide +kernel
theorem dX7_getsSlot_3 : decode cX7_getsSlot 3 = .ok (.invokevirtual 159, 3) := by decide +kernel
theorem dX7_getsSlot_6 : decode cX7_getsSlot 6 = .ok (.istore_n 2, 1) := by decide +kernel
theorem dX7_getsSlot_7 : decode cX7_getsSlot 7 = .ok (.aload_n 0, 1) := by decide +kernel
theorem dX7_getsSlot_8 : decode cX7_getsSlot 8 = .ok (.iload_n 2, 1) := by decide +kernel
theorem dX7_getsSlot_9 : decode cX7_getsSlot 9 = .ok (.iconst 2, 1) := by decide +kernel
theorem dX7_getsSlot_10 : decode cX7_getsSlot 10 = .ok (.invokevirtual 155, 3) := by decide +kernel
theorem dX7_getsSlot_13 : decode cX7_getsSlot 13 = .ok (.istore_n 3, 1) := by decide +kernel
theorem dX7_getsSlot_14 : decode cX7_getsSlot 14 = .ok (.iload_n 3, 1) := by decide +kernel
theorem dX7_getsSlot_15 : decode cX7_getsSlot 15 = .ok (.aload_n 0, 1) := by decide +kernel
theorem dX7_getsSlot_16 : decode cX7_getsSlot 16 = .ok (.iload_n 2, 1) := by decide +kernel
theorem dX7_getsSlot_17 : decode cX7_getsSlot 17 = .ok (.iconst 3, 1) := by decide +kernel
theorem dX7_getsSlot_18 : decode cX7_getsSlot 18 = .ok (.invokevirtual 155, 3) := by decide +kernel
theorem dX7_getsSlot_21 : decode cX7_getsSlot 21 = .ok (.if_icmp .gt 147, 3) := by decide +kernel
theorem dX7_getsSlot_24 : decode cX7_getsSlot 24 = .ok (.aload_n 0, 1) := by decide +kernel
theorem dX7_getsSlot_25 : decode cX7_getsSlot 25 = .ok (.getfield 92, 3) := by decide +kernel
theorem dX7_getsSlot_28 : decode cX7_getsSlot 28 = .ok (.iload_n 3, 1) := by decide +kernel
theorem dX7_getsSlot_29 : decode cX7_getsSlot 29 = .ok (.baload, 1) := by decide +kernel
theorem dX7_getsSlot_30 : decode cX7_getsSlot 30 = .ok (.ifCond .ne 132, 3) := by decide +kernel
theorem dX7_getsSlot_33 : decode cX7_getsSlot 33 = .ok (.aload_n 0, 1) := by decide +kernel
theorem dX7_getsSlot_34 : decode cX7_getsSlot 34 = .ok (.getfield 83, 3) := by decide +kernel
theorem dX7_getsSlot_37 : decode cX7_getsSlot 37 = .ok (.iload_n 3, 1) := by decide +kernel
theorem dX7_getsSlot_38 : decode cX7_getsSlot 38 = .ok (.iaload, 1) := by decide +kernel
theorem dX7_getsSlot_39 : decode cX7_getsSlot 39 = .ok (.ifCond .gt 6, 3) := by decide +kernel
theorem dX7_getsSlot_42 : decode cX7_getsSlot 42 = .ok (.goto 120, 3) := by decide +kernel
theorem dX7_getsSlot_45 : decode cX7_getsSlot 45 = .ok (.aload_n 0, 1) := by decide +kernel
theorem dX7_getsSlot_46 : decode cX7_getsSlot 46 = .ok (.getfield 92, 3) := by decide +kernel
theorem dX7_getsSlot_49 : decode cX7_getsSlot 49 = .ok (.iload_n 3, 1) := by decide +kernel
theorem dX7_getsSlot_50 : decode cX7_getsSlot 50 = .ok (.iconst 1, 1) := by decide +kernel
theorem dX7_getsSlot_51 : decode cX7_getsSlot 51 = .ok (.bastore, 1) := by decide +kernel
theorem dX7_getsSlot_52 : decode cX7_getsSlot 52 = .ok (.aload_n 0, 1) := by decide +kernel
theorem dX7_getsSlot_53 : decode cX7_getsSlot 53 = .ok (.getfield 86, 3) := by decide +kernel
theorem dX7_getsSlot_56 : decode cX7_getsSlot 56 = .ok (.iload_n 3, 1) := by decide +kernel
theorem dX7_getsSlot_57 : decode cX7_getsSlot 57 = .ok (.iaload, 1) := by decide +kernel
theorem dX7_getsSlot_58 : decode cX7_getsSlot 58 = .ok (.aload_n 0, 1) := by decide +kernel
theorem dX7_getsSlot_59 : decode cX7_getsSlot 59 = .ok (.getfield 83, 3) := by decide +kernel
theorem dX7_getsSlot_62 : decode cX7_getsSlot 62 = .ok (.iload_n 3, 1) := by decide +kernel
theorem dX7_getsSlot_63 : decode cX7_getsSlot 63 = .ok (.iaload, 1) := by decide +kernel
theorem dX7_getsSlot_64 : decode cX7_getsSlot 64 = .ok (.if_icmp .ge 7, 3) := by decide +kernel
theorem dX7_getsSlot_67 : decode cX7_getsSlot 67 = .ok (.iconst 1, 1) := by decide +kernel
theorem dX7_getsSlot_68 : decode cX7_getsSlot 68 = .ok (.goto 4, 3) := by decide +kernel
theorem dX7_getsSlot_71 : decode cX7_getsSlot 71 = .ok (.iconst 0, 1) := by decide +kernel
theorem dX7_getsSlot_72 : decode cX7_getsSlot 72 = .ok (.istore 4, 2) := by decide +kernel
theorem dX7_getsSlot_74 : decode cX7_getsSlot 74 = .ok (.iconst 0, 1) := by decide +kernel
theorem dX7_getsSlot_75 : decode cX7_getsSlot 75 = .ok (.istore 5, 2) := by decide +kernel
theorem dX7_getsSlot_77 : decode cX7_getsSlot 77 = .ok (.iload 5, 2) := by decide +kernel
theorem dX7_getsSlot_79 : decode cX7_getsSlot 79 = .ok (.aload_n 0, 1) := by decide +kernel
theorem dX7_getsSlot_80 : decode cX7_getsSlot 80 = .ok (.getfield 74, 3) := by decide +kernel
theorem dX7_getsSlot_83 : decode cX7_getsSlot 83 = .ok (.iconst 2, 1) := by decide +kernel
theorem dX7_getsSlot_84 : decode cX7_getsSlot 84 = .ok (.iaload, 1) := by decide +kernel
theorem dX7_getsSlot_85 : decode cX7_getsSlot 85 = .ok (.if_icmp .ge 50, 3) := by decide +kernel
theorem dX7_getsSlot_88 : decode cX7_getsSlot 88 = .ok (.iload 4, 2) := by decide +kernel
theorem dX7_getsSlot_90 : decode cX7_getsSlot 90 = .ok (.ifCond .ne 45, 3) := by decide +kernel
theorem dX7_getsSlot_93 : decode cX7_getsSlot 93 = .ok (.aload_n 0, 1) := by decide +kernel
theorem dX7_getsSlot_94 : decode cX7_getsSlot 94 = .ok (.getfield 89, 3) := by decide +kernel
theorem dX7_getsSlot_97 : decode cX7_getsSlot 97 = .ok (.iload 5, 2) := by decide +kernel
theorem dX7_getsSlot_99 : decode cX7_getsSlot 99 = .ok (.iaload, 1) := by decide +kernel
theorem dX7_getsSlot_100 : decode cX7_getsSlot 100 = .ok (.iload_n 3, 1) := by decide +kernel
theorem dX7_getsSlot_101 : decode cX7_getsSlot 101 = .ok (.if_icmp .ne 28, 3) := by decide +kernel
theorem dX7_getsSlot_104 : decode cX7_getsSlot 104 = .ok (.aload_n 0, 1) := by decide +kernel
theorem dX7_getsSlot_105 : decode cX7_getsSlot 105 = .ok (.iload 5, 2) := by decide +kernel
theorem dX7_getsSlot_107 : decode cX7_getsSlot 107 = .ok (.invokevirtual 218, 3) := by decide +kernel
theorem dX7_getsSlot_110 : decode cX7_getsSlot 110 = .ok (.ifCond .ne 6, 3) := by decide +kernel
theorem dX7_getsSlot_113 : decode cX7_getsSlot 113 = .ok (.goto 16, 3) := by decide +kernel
theorem dX7_getsSlot_116 : decode cX7_getsSlot 116 = .ok (.aload_n 0, 1) := by decide +kernel
theorem dX7_getsSlot_117 : decode cX7_getsSlot 117 = .ok (.getfield 86, 3) := by decide +kernel
theorem dX7_getsSlot_120 : decode cX7_getsSlot 120 = .ok (.iload_n 3, 1) := by decide +kernel
theorem dX7_getsSlot_121 : decode cX7_getsSlot 121 = .ok (.dup2, 1) := by decide +kernel
theorem dX7_getsSlot_122 : decode cX7_getsSlot 122 = .ok (.iaload, 1) := by decide +kernel
theorem dX7_getsSlot_123 : decode cX7_getsSlot 123 = .ok (.iconst 1, 1) := by decide +kernel
theorem dX7_getsSlot_124 : decode cX7_getsSlot 124 = .ok (.isub, 1) := by decide +kernel
theorem dX7_getsSlot_125 : decode cX7_getsSlot 125 = .ok (.iastore, 1) := by decide +kernel
theorem dX7_getsSlot_126 : decode cX7_getsSlot 126 = .ok (.iconst 1, 1) := by decide +kernel
theorem dX7_getsSlot_127 : decode cX7_getsSlot 127 = .ok (.istore 4, 2) := by decide +kernel
theorem dX7_getsSlot_129 : decode cX7_getsSlot 129 = .ok (.iinc 5 1, 3) := by decide +kernel
theorem dX7_getsSlot_132 : decode cX7_getsSlot 132 = .ok (.goto (-55), 3) := by decide +kernel
theorem dX7_getsSlot_135 : decode cX7_getsSlot 135 = .ok (.iload 4, 2) := by decide +kernel
theorem dX7_getsSlot_137 : decode cX7_getsSlot 137 = .ok (.ifCond .ne 6, 3) := by decide +kernel
theorem dX7_getsSlot_140 : decode cX7_getsSlot 140 = .ok (.goto 22, 3) := by decide +kernel
theorem dX7_getsSlot_143 : decode cX7_getsSlot 143 = .ok (.aload_n 0, 1) := by decide +kernel
theorem dX7_getsSlot_144 : decode cX7_getsSlot 144 = .ok (.getfield 86, 3) := by decide +kernel
theorem dX7_getsSlot_147 : decode cX7_getsSlot 147 = .ok (.iload_n 3, 1) := by decide +kernel
theorem dX7_getsSlot_148 : decode cX7_getsSlot 148 = .ok (.dup2, 1) := by decide +kernel
theorem dX7_getsSlot_149 : decode cX7_getsSlot 149 = .ok (.iaload, 1) := by decide +kernel
theorem dX7_getsSlot_150 : decode cX7_getsSlot 150 = .ok (.iconst 1, 1) := by decide +kernel
theorem dX7_getsSlot_151 : decode cX7_getsSlot 151 = .ok (.iadd, 1) := by decide +kernel
theorem dX7_getsSlot_152 : decode cX7_getsSlot 152 = .ok (.iastore, 1) := by decide +kernel
theorem dX7_getsSlot_153 : decode cX7_getsSlot 153 = .ok (.aload_n 0, 1) := by decide +kernel
theorem dX7_getsSlot_154 : decode cX7_getsSlot 154 = .ok (.getfield 89, 3) := by decide +kernel
theorem dX7_getsSlot_157 : decode cX7_getsSlot 157 = .ok (.iload_n 1, 1) := by decide +kernel
theorem dX7_getsSlot_158 : decode cX7_getsSlot 158 = .ok (.iload_n 3, 1) := by decide +kernel
theorem dX7_getsSlot_159 : decode cX7_getsSlot 159 = .ok (.iastore, 1) := by decide +kernel
theorem dX7_getsSlot_160 : decode cX7_getsSlot 160 = .ok (.iconst 1, 1) := by decide +kernel
theorem dX7_getsSlot_161 : decode cX7_getsSlot 161 = .ok (.ireturn, 1) := by decide +kernel
theorem dX7_getsSlot_162 : decode cX7_getsSlot 162 = .ok (.iinc 3 1, 3) := by decide +kernel
theorem dX7_getsSlot_165 : decode cX7_getsSlot 165 = .ok (.goto (-151), 3) := by decide +kernel
theorem dX7_getsSlot_168 : decode cX7_getsSlot 168 = .ok (.iconst 0, 1) := by decide +kernel
theorem dX7_getsSlot_169 : decode cX7_getsSlot 169 = .ok (.ireturn, 1) := by decide +kernel
set_option maxRecDepth 20000 in
theorem ggX7_least_X7_isPost : GoodIn wsX7_least wsX7_isPost := goodIn_r _ [11, 2, 12, 13, 10, 14, 35, 36, 37, 38, 39, 40, 41, 42, 43, 44, 45, 46, 47, 48, 49, 50, 51, 52, 53, 54, 55, 56, 57] (by decide +kernel) (by decide +kernel)
set_option maxRecDepth 20000 in
theorem gX7_least_X7_isPost : GoodIn wsX7_least (wsV RX7 206 RX7 yX7_isPost wsX7_isPost) := goodIn_app (goodIn_of _ (by decide +kernel)) ggX7_least_X7_isPost
set_option maxRecDepth 20000 in
theorem ggX7_least_X7_duty : GoodIn wsX7_least wsX7_duty := goodIn_r _ [18, 2, 35, 36, 37, 38, 39, 40, 41, 42, 43, 44, 45, 46, 47, 48, 49, 50, 51, 52, 53, 54, 55, 56, 57] (by decide +kernel) (by decide +kernel)
set_option maxRecDepth 20000 in
theorem gX7_least_X7_duty : GoodIn wsX7_least (wsV RX7 159 RX7 yX7_duty wsX7_duty) := goodIn_app (goodIn_of _ (by decide +kernel)) ggX7_least_X7_duty
set_option maxRecDepth 20000 in
theorem ggX7_least_X7_its : GoodIn wsX7_least wsX7_its := goodIn_r _ [22, 2, 35, 36, 37, 38, 39, 40, 41, 42, 43, 44, 45, 46, 47, 48, 49, 50, 51, 52, 53, 54, 55, 56, 57] (by decide +kernel) (by decide +kernel)
set_option maxRecDepth 20000 in
theorem gX7_least_X7_its : GoodIn wsX7_least (wsV RX7 155 RX7 yX7_its wsX7_its) := goodIn_app (goodIn_of _ (by decide +kernel)) ggX7_least_X7_its
set_option maxRecDepth 20000 in
theorem ggX7_least_X7_onDuty : GoodIn wsX7_least wsX7_onDuty := goodIn_r _ [26, 2, 15, 16, 17, 10, 18, 12, 13, 14, 35, 36, 37, 38, 39, 40, 41, 42, 43, 44, 45, 46, 47, 48, 49, 50, 51, 52, 53, 54, 55, 56, 57] (by decide +kernel) (by decide +kernel)
set_option maxRecDepth 20000 in
theorem gX7_least_X7_onDuty : GoodIn wsX7_least (wsV RX7 165 RX7 yX7_onDuty wsX7_onDuty) := goodIn_app (goodIn_of _ (by decide +kernel)) ggX7_least_X7_onDuty
set_option maxRecDepth 20000 in
theorem ggX7_least_X7_needOf : GoodIn wsX7_least wsX7_needOf := goodIn_r _ [30, 2, 35, 36, 37, 38, 39, 40, 41, 42, 43, 44, 45, 46, 47, 48, 49, 50, 51, 52, 53, 54, 55, 56, 57] (by decide +kernel) (by decide +kernel)
set_option maxRecDepth 20000 in
theorem gX7_least_X7_needOf : GoodIn wsX7_least (wsV RX7 171 RX7 yX7_needOf wsX7_needOf) := goodIn_app (goodIn_of _ (by decide +kernel)) ggX7_least_X7_needOf
set_option maxRecDepth 20000 in
theorem ggX7_least_X7_getsSlot : GoodIn wsX7_least wsX7_getsSlot := goodIn_r _ [34, 6, 3, 4, 2, 5, 15, 16, 17, 10, 18, 19, 20, 21, 22, 31, 32, 33, 35, 36, 37, 38, 39, 40, 41, 42, 43, 44, 45, 46, 47, 48, 49, 50, 51, 52, 53, 54, 55, 56, 57] (by decide +kernel) (by decide +kernel)
set_option maxRecDepth 20000 in
theorem gX7_least_X7_getsSlot : GoodIn wsX7_least (wsV RX7 218 RX7 yX7_getsSlot wsX7_getsSlot) := goodIn_app (goodIn_of _ (by decide +kernel)) ggX7_least_X7_getsSlot
theorem dX7_least_0 : decode cX7_least 0 = .ok (.aload_n 0, 1) := by decide +kernel
theorem dX7_least_1 : decode cX7_least 1 = .ok (.iconst 0, 1) := by decide +kernel
theorem dX7_least_2 : decode cX7_least 2 = .ok (.putfield 1, 3) := by decide +kernel
theorem dX7_least_5 : decode cX7_least 5 = .ok (.aload_n 0, 1) := by decide +kernel
theorem dX7_least_6 : decode cX7_least 6 = .ok (.iload_n 1, 1) := by decide +kernel
theorem dX7_least_7 : decode cX7_least 7 = .ok (.invokevirtual 206, 3) := by decide +kernel
theorem dX7_least_10 : decode cX7_least 10 = .ok (.ifCond .ne 5, 3) := by decide +kernel
theorem dX7_least_13 : decode cX7_least 13 = .ok (.iconst (-1), 1) := by decide +kernel
theorem dX7_least_14 : decode cX7_least 14 = .ok (.ireturn, 1) := by decide +kernel
theorem dX7_least_15 : decode cX7_least 15 = .ok (.iconst 0, 1) := by decide +kernel
theorem dX7_least_16 : decode cX7_least 16 = .ok (.istore_n 2, 1) := by decide +kernel
theorem dX7_least_17 : decode cX7_least 17 = .ok (.iload_n 2, 1) := by decide +kernel
theorem dX7_least_18 : decode cX7_least 18 = .ok (.aload_n 0, 1) := by decide +kernel
theorem dX7_least_19 : decode cX7_least 19 = .ok (.getfield 74, 3) := by decide +kernel
theorem dX7_least_22 : decode cX7_least 22 = .ok (.iconst 2, 1) := by decide +kernel
theorem dX7_least_23 : decode cX7_least 23 = .ok (.iaload, 1) := by decide +kernel
theorem dX7_least_24 : decode cX7_least 24 = .ok (.if_icmp .ge 46, 3) := by decide +kernel
theorem dX7_least_27 : decode cX7_least 27 = .ok (.aload_n 0, 1) := by decide +kernel
theorem dX7_least_28 : decode cX7_least 28 = .ok (.iload_n 2, 1) := by decide +kernel
theorem dX7_least_29 : decode cX7_least 29 = .ok (.iconst 0, 1) := by decide +kernel
theorem dX7_least_30 : decode cX7_least 30 = .ok (.invokevirtual 159, 3) := by decide +kernel
theorem dX7_least_33 : decode cX7_least 33 = .ok (.iload_n 1, 1) := by decide +kernel
theorem dX7_least_34 : decode cX7_least 34 = .ok (.if_icmp .ne 30, 3) := by decide +kernel
theorem dX7_least_37 : decode cX7_least 37 = .ok (.aload_n 0, 1) := by decide +kernel
theorem dX7_least_38 : decode cX7_least 38 = .ok (.iload_n 2, 1) := by decide +kernel
theorem dX7_least_39 : decode cX7_least 39 = .ok (.iconst 3, 1) := by decide +kernel
theorem dX7_least_40 : decode cX7_least 40 = .ok (.invokevirtual 159, 3) := by decide +kernel
theorem dX7_least_43 : decode cX7_least 43 = .ok (.iconst 1, 1) := by decide +kernel
theorem dX7_least_44 : decode cX7_least 44 = .ok (.if_icmp .ne 18, 3) := by decide +kernel
theorem dX7_least_47 : decode cX7_least 47 = .ok (.aload_n 0, 1) := by decide +kernel
theorem dX7_least_48 : decode cX7_least 48 = .ok (.aload_n 0, 1) := by decide +kernel
theorem dX7_least_49 : decode cX7_least 49 = .ok (.iload_n 2, 1) := by decide +kernel
theorem dX7_least_50 : decode cX7_least 50 = .ok (.iconst 4, 1) := by decide +kernel
theorem dX7_least_51 : decode cX7_least 51 = .ok (.invokevirtual 159, 3) := by decide +kernel
theorem dX7_least_54 : decode cX7_least 54 = .ok (.iconst 1, 1) := by decide +kernel
theorem dX7_least_55 : decode cX7_least 55 = .ok (.invokevirtual 155, 3) := by decide +kernel
theorem dX7_least_58 : decode cX7_least 58 = .ok (.iconst 1, 1) := by decide +kernel
theorem dX7_least_59 : decode cX7_least 59 = .ok (.if_icmp .eq 5, 3) := by decide +kernel
theorem dX7_least_62 : decode cX7_least 62 = .ok (.iconst (-1), 1) := by decide +kernel
theorem dX7_least_63 : decode cX7_least 63 = .ok (.ireturn, 1) := by decide +kernel
theorem dX7_least_64 : decode cX7_least 64 = .ok (.iinc 2 1, 3) := by decide +kernel
theorem dX7_least_67 : decode cX7_least 67 = .ok (.goto (-50), 3) := by decide +kernel
theorem dX7_least_70 : decode cX7_least 70 = .ok (.iconst 0, 1) := by decide +kernel
theorem dX7_least_71 : decode cX7_least 71 = .ok (.istore_n 2, 1) := by decide +kernel
theorem dX7_least_72 : decode cX7_least 72 = .ok (.iconst 0, 1) := by decide +kernel
theorem dX7_least_73 : decode cX7_least 73 = .ok (.istore_n 3, 1) := by decide +kernel
theorem dX7_least_74 : decode cX7_least 74 = .ok (.iload_n 3, 1) := by decide +kernel
theorem dX7_least_75 : decode cX7_least 75 = .ok (.bipush 48, 2) := by decide +kernel
theorem dX7_least_77 : decode cX7_least 77 = .ok (.if_icmp .ge 53, 3) := by decide +kernel
theorem dX7_least_80 : decode cX7_least 80 = .ok (.aload_n 0, 1) := by decide +kernel
theorem dX7_least_81 : decode cX7_least 81 = .ok (.getfield 83, 3) := by decide +kernel
theorem dX7_least_84 : decode cX7_least 84 = .ok (.iload_n 3, 1) := by decide +kernel
theorem dX7_least_85 : decode cX7_least 85 = .ok (.aload_n 0, 1) := by decide +kernel
theorem dX7_least_86 : decode cX7_least 86 = .ok (.iload_n 1, 1) := by decide +kernel
theorem dX7_least_87 : decode cX7_least 87 = .ok (.iload_n 3, 1) := by decide +kernel
theorem dX7_least_88 : decode cX7_least 88 = .ok (.invokevirtual 165, 3) := by decide +kernel
theorem dX7_least_91 : decode cX7_least 91 = .ok (.aload_n 0, 1) := by decide +kernel
theorem dX7_least_92 : decode cX7_least 92 = .ok (.iload_n 1, 1) := by decide +kernel
theorem dX7_least_93 : decode cX7_least 93 = .ok (.iload_n 3, 1) := by decide +kernel
theorem dX7_least_94 : decode cX7_least 94 = .ok (.invokevirtual 171, 3) := by decide +kernel
theorem dX7_least_97 : decode cX7_least 97 = .ok (.isub, 1) := by decide +kernel
theorem dX7_least_98 : decode cX7_least 98 = .ok (.iastore, 1) := by decide +kernel
theorem dX7_least_99 : decode cX7_least 99 = .ok (.aload_n 0, 1) := by decide +kernel
theorem dX7_least_100 : decode cX7_least 100 = .ok (.getfield 86, 3) := by decide +kernel
theorem dX7_least_103 : decode cX7_least 103 = .ok (.iload_n 3, 1) := by decide +kernel
theorem dX7_least_104 : decode cX7_least 104 = .ok (.iconst 0, 1) := by decide +kernel
theorem dX7_least_105 : decode cX7_least 105 = .ok (.iastore, 1) := by decide +kernel
theorem dX7_least_106 : decode cX7_least 106 = .ok (.aload_n 0, 1) := by decide +kernel
theorem dX7_least_107 : decode cX7_least 107 = .ok (.getfield 83, 3) := by decide +kernel
theorem dX7_least_110 : decode cX7_least 110 = .ok (.iload_n 3, 1) := by decide +kernel
theorem dX7_least_111 : decode cX7_least 111 = .ok (.iaload, 1) := by decide +kernel
theorem dX7_least_112 : decode cX7_least 112 = .ok (.ifCond .ge 12, 3) := by decide +kernel
theorem dX7_least_115 : decode cX7_least 115 = .ok (.iload_n 2, 1) := by decide +kernel
theorem dX7_least_116 : decode cX7_least 116 = .ok (.aload_n 0, 1) := by decide +kernel
theorem dX7_least_117 : decode cX7_least 117 = .ok (.getfield 83, 3) := by decide +kernel
theorem dX7_least_120 : decode cX7_least 120 = .ok (.iload_n 3, 1) := by decide +kernel
theorem dX7_least_121 : decode cX7_least 121 = .ok (.iaload, 1) := by decide +kernel
theorem dX7_least_122 : decode cX7_least 122 = .ok (.isub, 1) := by decide +kernel
theorem dX7_least_123 : decode cX7_least 123 = .ok (.istore_n 2, 1) := by decide +kernel
theorem dX7_least_124 : decode cX7_least 124 = .ok (.iinc 3 1, 3) := by decide +kernel
theorem dX7_least_127 : decode cX7_least 127 = .ok (.goto (-53), 3) := by decide +kernel
theorem dX7_least_130 : decode cX7_least 130 = .ok (.iconst 0, 1) := by decide +kernel
theorem dX7_least_131 : decode cX7_least 131 = .ok (.istore_n 3, 1) := by decide +kernel
theorem dX7_least_132 : decode cX7_least 132 = .ok (.iload_n 3, 1) := by decide +kernel
theorem dX7_least_133 : decode cX7_least 133 = .ok (.bipush 8, 2) := by decide +kernel
theorem dX7_least_135 : decode cX7_least 135 = .ok (.if_icmp .ge 16, 3) := by decide +kernel
theorem dX7_least_138 : decode cX7_least 138 = .ok (.aload_n 0, 1) := by decide +kernel
theorem dX7_least_139 : decode cX7_least 139 = .ok (.getfield 89, 3) := by decide +kernel
theorem dX7_least_142 : decode cX7_least 142 = .ok (.iload_n 3, 1) := by decide +kernel
theorem dX7_least_143 : decode cX7_least 143 = .ok (.iconst (-1), 1) := by decide +kernel
theorem dX7_least_144 : decode cX7_least 144 = .ok (.iastore, 1) := by decide +kernel
theorem dX7_least_145 : decode cX7_least 145 = .ok (.iinc 3 1, 3) := by decide +kernel
theorem dX7_least_148 : decode cX7_least 148 = .ok (.goto (-16), 3) := by decide +kernel
theorem dX7_least_151 : decode cX7_least 151 = .ok (.iconst 0, 1) := by decide +kernel
theorem dX7_least_152 : decode cX7_least 152 = .ok (.istore_n 3, 1) := by decide +kernel
theorem dX7_least_153 : decode cX7_least 153 = .ok (.iload_n 3, 1) := by decide +kernel
theorem dX7_least_154 : decode cX7_least 154 = .ok (.aload_n 0, 1) := by decide +kernel
theorem dX7_least_155 : decode cX7_least 155 = .ok (.getfield 74, 3) := by decide +kernel
theorem dX7_least_158 : decode cX7_least 158 = .ok (.iconst 2, 1) := by decide +kernel
theorem dX7_least_159 : decode cX7_least 159 = .ok (.iaload, 1) := by decide +kernel
theorem dX7_least_160 : decode cX7_least 160 = .ok (.if_icmp .ge 57, 3) := by decide +kernel
theorem dX7_least_163 : decode cX7_least 163 = .ok (.aload_n 0, 1) := by decide +kernel
theorem dX7_least_164 : decode cX7_least 164 = .ok (.iload_n 3, 1) := by decide +kernel
theorem dX7_least_165 : decode cX7_least 165 = .ok (.iconst 0, 1) := by decide +kernel
theorem dX7_least_166 : decode cX7_least 166 = .ok (.invokevirtual 159, 3) := by decide +kernel
theorem dX7_least_169 : decode cX7_least 169 = .ok (.iload_n 1, 1) := by decide +kernel
theorem dX7_least_170 : decode cX7_least 170 = .ok (.if_icmp .eq 6, 3) := by decide +kernel
theorem dX7_least_173 : decode cX7_least 173 = .ok (.goto 38, 3) := by decide +kernel
theorem dX7_least_176 : decode cX7_least 176 = .ok (.iconst 0, 1) := by decide +kernel
theorem dX7_least_177 : decode cX7_least 177 = .ok (.istore 4, 2) := by decide +kernel
theorem dX7_least_179 : decode cX7_least 179 = .ok (.iload 4, 2) := by decide +kernel
theorem dX7_least_181 : decode cX7_least 181 = .ok (.bipush 48, 2) := by decide +kernel
theorem dX7_least_183 : decode cX7_least 183 = .ok (.if_icmp .ge 17, 3) := by decide +kernel
theorem dX7_least_186 : decode cX7_least 186 = .ok (.aload_n 0, 1) := by decide +kernel
theorem dX7_least_187 : decode cX7_least 187 = .ok (.getfield 92, 3) := by decide +kernel
theorem dX7_least_190 : decode cX7_least 190 = .ok (.iload 4, 2) := by decide +kernel
theorem dX7_least_192 : decode cX7_least 192 = .ok (.iconst 0, 1) := by decide +kernel
theorem dX7_least_193 : decode cX7_least 193 = .ok (.bastore, 1) := by decide +kernel
theorem dX7_least_194 : decode cX7_least 194 = .ok (.iinc 4 1, 3) := by decide +kernel
theorem dX7_least_197 : decode cX7_least 197 = .ok (.goto (-18), 3) := by decide +kernel
theorem dX7_least_200 : decode cX7_least 200 = .ok (.aload_n 0, 1) := by decide +kernel
theorem dX7_least_201 : decode cX7_least 201 = .ok (.iload_n 3, 1) := by decide +kernel
theorem dX7_least_202 : decode cX7_least 202 = .ok (.invokevirtual 218, 3) := by decide +kernel
theorem dX7_least_205 : decode cX7_least 205 = .ok (.ifCond .ne 6, 3) := by decide +kernel
theorem dX7_least_208 : decode cX7_least 208 = .ok (.iinc 2 1, 3) := by decide +kernel
theorem dX7_least_211 : decode cX7_least 211 = .ok (.iinc 3 1, 3) := by decide +kernel
theorem dX7_least_214 : decode cX7_least 214 = .ok (.goto (-61), 3) := by decide +kernel
theorem dX7_least_217 : decode cX7_least 217 = .ok (.iload_n 2, 1) := by decide +kernel
theorem dX7_least_218 : decode cX7_least 218 = .ok (.ireturn, 1) := by decide +kernel
set_option maxRecDepth 20000 in
theorem ggX7_helpsAt_X7_shortOf : GoodIn wsX7_helpsAt wsX7_shortOf := goodIn_r _ [5, 6, 7, 8, 4, 9, 10, 11, 12, 13, 14, 15, 16, 17, 18, 19, 20, 21, 22, 23, 24, 25, 26, 27, 28, 29, 30, 31, 32, 33, 34, 35, 36, 37, 38, 39, 40, 41, 42, 43, 44, 45, 46, 47, 48, 49, 50, 51, 52, 53, 54, 55, 56, 57, 58, 59, 60] (by decide +kernel) (by decide +kernel)
set_option maxRecDepth 20000 in
theorem gX7_helpsAt_X7_shortOf : GoodIn wsX7_helpsAt (wsV RX7 177 RX7 yX7_shortOf wsX7_shortOf) := goodIn_app (goodIn_of _ (by decide +kernel)) ggX7_helpsAt_X7_shortOf
theorem dX7_helpsAt_0 : decode cX7_helpsAt 0 = .ok (.aload_n 0, 1) := by decide +kernel
theorem dX7_helpsAt_1 : decode cX7_helpsAt 1 = .ok (.iload_n 1, 1) := by decide +kernel
theorem dX7_helpsAt_2 : decode cX7_helpsAt 2 = .ok (.iload_n 2, 1) := by decide +kernel
theorem dX7_helpsAt_3 : decode cX7_helpsAt 3 = .ok (.invokevirtual 177, 3) := by decide +kernel
theorem dX7_helpsAt_6 : decode cX7_helpsAt 6 = .ok (.ifCond .le 7, 3) := by decide +kernel
theorem dX7_helpsAt_9 : decode cX7_helpsAt 9 = .ok (.iconst 1, 1) := by decide +kernel
theorem dX7_helpsAt_10 : decode cX7_helpsAt 10 = .ok (.goto 4, 3) := by decide +kernel
theorem dX7_helpsAt_13 : decode cX7_helpsAt 13 = .ok (.iconst 0, 1) := by decide +kernel
theorem dX7_helpsAt_14 : decode cX7_helpsAt 14 = .ok (.ireturn, 1) := by decide +kernel
set_option maxRecDepth 20000 in
theorem ggX7_stays_X7_helpsAt : GoodIn wsX7_stays wsX7_helpsAt := goodIn_r _ [6, 7, 8, 9, 5, 10, 11, 12, 13, 14, 15, 16, 17, 18, 19, 20, 21, 22, 23, 24, 25, 26, 27, 28, 29, 30, 31, 32, 33, 34, 35, 36, 37, 38, 39, 40, 41, 42, 43, 44, 45, 46, 47, 48, 49, 50, 51, 52, 53, 54, 55, 56, 57, 58, 59, 60, 61, 62, 63, 64, 65] (by decide +kernel) (by decide +kernel)
set_option maxRecDepth 20000 in
theorem gX7_stays_X7_helpsAt : GoodIn wsX7_stays (wsV RX7 221 RX7 yX7_helpsAt wsX7_helpsAt) := goodIn_app (goodIn_of _ (by decide +kernel)) ggX7_stays_X7_helpsAt
theorem dX7_stays_0 : decode cX7_stays 0 = .ok (.aload_n 0, 1) := by decide +kernel
theorem dX7_stays_1 : decode cX7_stays 1 = .ok (.iload_n 1, 1) := by decide +kernel
theorem dX7_stays_2 : decode cX7_stays 2 = .ok (.iload_n 2, 1) := by decide +kernel
theorem dX7_stays_3 : decode cX7_stays 3 = .ok (.invokevirtual 221, 3) := by decide +kernel
theorem dX7_stays_6 : decode cX7_stays 6 = .ok (.aload_n 0, 1) := by decide +kernel
theorem dX7_stays_7 : decode cX7_stays 7 = .ok (.getfield 96, 3) := by decide +kernel
theorem dX7_stays_10 : decode cX7_stays 10 = .ok (.bipush 49, 2) := by decide +kernel
theorem dX7_stays_12 : decode cX7_stays 12 = .ok (.iload_n 1, 1) := by decide +kernel
theorem dX7_stays_13 : decode cX7_stays 13 = .ok (.imul, 1) := by decide +kernel
theorem dX7_stays_14 : decode cX7_stays 14 = .ok (.iload_n 2, 1) := by decide +kernel
theorem dX7_stays_15 : decode cX7_stays 15 = .ok (.iadd, 1) := by decide +kernel
theorem dX7_stays_16 : decode cX7_stays 16 = .ok (.iconst 1, 1) := by decide +kernel
theorem dX7_stays_17 : decode cX7_stays 17 = .ok (.iadd, 1) := by decide +kernel
theorem dX7_stays_18 : decode cX7_stays 18 = .ok (.iaload, 1) := by decide +kernel
theorem dX7_stays_19 : decode cX7_stays 19 = .ok (.iadd, 1) := by decide +kernel
theorem dX7_stays_20 : decode cX7_stays 20 = .ok (.ireturn, 1) := by decide +kernel
set_option maxRecDepth 20000 in
theorem ggX7_laysHelps_X7_stays : GoodIn wsX7_laysHelps wsX7_stays := goodIn_r _ [7, 1, 8, 9, 10, 6, 11, 12, 13, 14, 15, 16, 17, 18, 19, 2, 20, 21, 22, 23, 24, 25, 26, 27, 28, 29, 30, 31, 32, 33, 34, 35, 36, 37, 38, 39, 40, 41, 42, 43, 44, 45, 46, 47, 48, 49, 50, 51, 52, 53, 54, 55, 56, 57, 58, 59, 60, 61, 62, 63, 64, 65, 66, 67, 68, 69] (by decide +kernel) (by decide +kernel)
set_option maxRecDepth 20000 in
theorem gX7_laysHelps_X7_stays : GoodIn wsX7_laysHelps (wsV RX7 224 RX7 yX7_stays wsX7_stays) := goodIn_app (goodIn_of _ (by decide +kernel)) ggX7_laysHelps_X7_stays
theorem dX7_laysHelps_0 : decode cX7_laysHelps 0 = .ok (.iconst 0, 1) := by decide +kernel
theorem dX7_laysHelps_1 : decode cX7_laysHelps 1 = .ok (.istore_n 1, 1) := by decide +kernel
theorem dX7_laysHelps_2 : decode cX7_laysHelps 2 = .ok (.iload_n 1, 1) := by decide +kernel
theorem dX7_laysHelps_3 : decode cX7_laysHelps 3 = .ok (.iconst 3, 1) := by decide +kernel
theorem dX7_laysHelps_4 : decode cX7_laysHelps 4 = .ok (.if_icmp .ge 22, 3) := by decide +kernel
theorem dX7_laysHelps_7 : decode cX7_laysHelps 7 = .ok (.aload_n 0, 1) := by decide +kernel
theorem dX7_laysHelps_8 : decode cX7_laysHelps 8 = .ok (.getfield 96, 3) := by decide +kernel
theorem dX7_laysHelps_11 : decode cX7_laysHelps 11 = .ok (.bipush 49, 2) := by decide +kernel
theorem dX7_laysHelps_13 : decode cX7_laysHelps 13 = .ok (.iload_n 1, 1) := by decide +kernel
theorem dX7_laysHelps_14 : decode cX7_laysHelps 14 = .ok (.imul, 1) := by decide +kernel
theorem dX7_laysHelps_15 : decode cX7_laysHelps 15 = .ok (.bipush 48, 2) := by decide +kernel
theorem dX7_laysHelps_17 : decode cX7_laysHelps 17 = .ok (.iadd, 1) := by decide +kernel
theorem dX7_laysHelps_18 : decode cX7_laysHelps 18 = .ok (.iconst 0, 1) := by decide +kernel
theorem dX7_laysHelps_19 : decode cX7_laysHelps 19 = .ok (.iastore, 1) := by decide +kernel
theorem dX7_laysHelps_20 : decode cX7_laysHelps 20 = .ok (.iinc 1 1, 3) := by decide +kernel
theorem dX7_laysHelps_23 : decode cX7_laysHelps 23 = .ok (.goto (-21), 3) := by decide +kernel
theorem dX7_laysHelps_26 : decode cX7_laysHelps 26 = .ok (.bipush 47, 2) := by decide +kernel
theorem dX7_laysHelps_28 : decode cX7_laysHelps 28 = .ok (.istore_n 1, 1) := by decide +kernel
theorem dX7_laysHelps_29 : decode cX7_laysHelps 29 = .ok (.iload_n 1, 1) := by decide +kernel
theorem dX7_laysHelps_30 : decode cX7_laysHelps 30 = .ok (.ifCond .lt 128, 3) := by decide +kernel
theorem dX7_laysHelps_33 : decode cX7_laysHelps 33 = .ok (.iconst 0, 1) := by decide +kernel
theorem dX7_laysHelps_34 : decode cX7_laysHelps 34 = .ok (.istore_n 2, 1) := by decide +kernel
theorem dX7_laysHelps_35 : decode cX7_laysHelps 35 = .ok (.iload_n 2, 1) := by decide +kernel
theorem dX7_laysHelps_36 : decode cX7_laysHelps 36 = .ok (.aload_n 0, 1) := by decide +kernel
theorem dX7_laysHelps_37 : decode cX7_laysHelps 37 = .ok (.getfield 74, 3) := by decide +kernel
theorem dX7_laysHelps_40 : decode cX7_laysHelps 40 = .ok (.iconst 0, 1) := by decide +kernel
theorem dX7_laysHelps_41 : decode cX7_laysHelps 41 = .ok (.iaload, 1) := by decide +kernel
theorem dX7_laysHelps_42 : decode cX7_laysHelps 42 = .ok (.if_icmp .ge 110, 3) := by decide +kernel
theorem dX7_laysHelps_45 : decode cX7_laysHelps 45 = .ok (.aload_n 0, 1) := by decide +kernel
theorem dX7_laysHelps_46 : decode cX7_laysHelps 46 = .ok (.iload_n 2, 1) := by decide +kernel
theorem dX7_laysHelps_47 : decode cX7_laysHelps 47 = .ok (.iload_n 1, 1) := by decide +kernel
theorem dX7_laysHelps_48 : decode cX7_laysHelps 48 = .ok (.invokevirtual 224, 3) := by decide +kernel
theorem dX7_laysHelps_51 : decode cX7_laysHelps 51 = .ok (.istore_n 3, 1) := by decide +kernel
theorem dX7_laysHelps_52 : decode cX7_laysHelps 52 = .ok (.iconst 0, 1) := by decide +kernel
theorem dX7_laysHelps_53 : decode cX7_laysHelps 53 = .ok (.istore 4, 2) := by decide +kernel
theorem dX7_laysHelps_55 : decode cX7_laysHelps 55 = .ok (.iload 4, 2) := by decide +kernel
theorem dX7_laysHelps_57 : decode cX7_laysHelps 57 = .ok (.aload_n 0, 1) := by decide +kernel
theorem dX7_laysHelps_58 : decode cX7_laysHelps 58 = .ok (.getfield 74, 3) := by decide +kernel
theorem dX7_laysHelps_61 : decode cX7_laysHelps 61 = .ok (.iconst 0, 1) := by decide +kernel
theorem dX7_laysHelps_62 : decode cX7_laysHelps 62 = .ok (.iaload, 1) := by decide +kernel
theorem dX7_laysHelps_63 : decode cX7_laysHelps 63 = .ok (.if_icmp .ge 71, 3) := by decide +kernel
theorem dX7_laysHelps_66 : decode cX7_laysHelps 66 = .ok (.iload_n 1, 1) := by decide +kernel
theorem dX7_laysHelps_67 : decode cX7_laysHelps 67 = .ok (.aload_n 0, 1) := by decide +kernel
theorem dX7_laysHelps_68 : decode cX7_laysHelps 68 = .ok (.getfield 74, 3) := by decide +kernel
theorem dX7_laysHelps_71 : decode cX7_laysHelps 71 = .ok (.iconst 1, 1) := by decide +kernel
theorem dX7_laysHelps_72 : decode cX7_laysHelps 72 = .ok (.iaload, 1) := by decide +kernel
theorem dX7_laysHelps_73 : decode cX7_laysHelps 73 = .ok (.iadd, 1) := by decide +kernel
theorem dX7_laysHelps_74 : decode cX7_laysHelps 74 = .ok (.bipush 48, 2) := by decide +kernel
theorem dX7_laysHelps_76 : decode cX7_laysHelps 76 = .ok (.if_icmp .gt 58, 3) := by decide +kernel
theorem dX7_laysHelps_79 : decode cX7_laysHelps 79 = .ok (.iload 4, 2) := by decide +kernel
theorem dX7_laysHelps_81 : decode cX7_laysHelps 81 = .ok (.iload_n 2, 1) := by decide +kernel
theorem dX7_laysHelps_82 : decode cX7_laysHelps 82 = .ok (.if_icmp .eq 46, 3) := by decide +kernel
theorem dX7_laysHelps_85 : decode cX7_laysHelps 85 = .ok (.aload_n 0, 1) := by decide +kernel
theorem dX7_laysHelps_86 : decode cX7_laysHelps 86 = .ok (.getfield 96, 3) := by decide +kernel
theorem dX7_laysHelps_89 : decode cX7_laysHelps 89 = .ok (.bipush 49, 2) := by decide +kernel
theorem dX7_laysHelps_91 : decode cX7_laysHelps 91 = .ok (.iload 4, 2) := by decide +kernel
theorem dX7_laysHelps_93 : decode cX7_laysHelps 93 = .ok (.imul, 1) := by decide +kernel
theorem dX7_laysHelps_94 : decode cX7_laysHelps 94 = .ok (.iload_n 1, 1) := by decide +kernel
theorem dX7_laysHelps_95 : decode cX7_laysHelps 95 = .ok (.iadd, 1) := by decide +kernel
theorem dX7_laysHelps_96 : decode cX7_laysHelps 96 = .ok (.aload_n 0, 1) := by decide +kernel
theorem dX7_laysHelps_97 : decode cX7_laysHelps 97 = .ok (.getfield 74, 3) := by decide +kernel
theorem dX7_laysHelps_100 : decode cX7_laysHelps 100 = .ok (.iconst 1, 1) := by decide +kernel
theorem dX7_laysHelps_101 : decode cX7_laysHelps 101 = .ok (.iaload, 1) := by decide +kernel
theorem dX7_laysHelps_102 : decode cX7_laysHelps 102 = .ok (.iadd, 1) := by decide +kernel
theorem dX7_laysHelps_103 : decode cX7_laysHelps 103 = .ok (.iaload, 1) := by decide +kernel
theorem dX7_laysHelps_104 : decode cX7_laysHelps 104 = .ok (.iload_n 3, 1) := by decide +kernel
theorem dX7_laysHelps_105 : decode cX7_laysHelps 105 = .ok (.if_icmp .le 23, 3) := by decide +kernel
theorem dX7_laysHelps_108 : decode cX7_laysHelps 108 = .ok (.aload_n 0, 1) := by decide +kernel
theorem dX7_laysHelps_109 : decode cX7_laysHelps 109 = .ok (.getfield 96, 3) := by decide +kernel
theorem dX7_laysHelps_112 : decode cX7_laysHelps 112 = .ok (.bipush 49, 2) := by decide +kernel
theorem dX7_laysHelps_114 : decode cX7_laysHelps 114 = .ok (.iload 4, 2) := by decide +kernel
theorem dX7_laysHelps_116 : decode cX7_laysHelps 116 = .ok (.imul, 1) := by decide +kernel
theorem dX7_laysHelps_117 : decode cX7_laysHelps 117 = .ok (.iload_n 1, 1) := by decide +kernel
theorem dX7_laysHelps_118 : decode cX7_laysHelps 118 = .ok (.iadd, 1) := by decide +kernel
theorem dX7_laysHelps_119 : decode cX7_laysHelps 119 = .ok (.aload_n 0, 1) := by decide +kernel
theorem dX7_laysHelps_120 : decode cX7_laysHelps 120 = .ok (.getfield 74, 3) := by decide +kernel
theorem dX7_laysHelps_123 : decode cX7_laysHelps 123 = .ok (.iconst 1, 1) := by decide +kernel
theorem dX7_laysHelps_124 : decode cX7_laysHelps 124 = .ok (.iaload, 1) := by decide +kernel
theorem dX7_laysHelps_125 : decode cX7_laysHelps 125 = .ok (.iadd, 1) := by decide +kernel
theorem dX7_laysHelps_126 : decode cX7_laysHelps 126 = .ok (.iaload, 1) := by decide +kernel
theorem dX7_laysHelps_127 : decode cX7_laysHelps 127 = .ok (.istore_n 3, 1) := by decide +kernel
theorem dX7_laysHelps_128 : decode cX7_laysHelps 128 = .ok (.iinc 4 1, 3) := by decide +kernel
theorem dX7_laysHelps_131 : decode cX7_laysHelps 131 = .ok (.goto (-76), 3) := by decide +kernel
theorem dX7_laysHelps_134 : decode cX7_laysHelps 134 = .ok (.aload_n 0, 1) := by decide +kernel
theorem dX7_laysHelps_135 : decode cX7_laysHelps 135 = .ok (.getfield 96, 3) := by decide +kernel
theorem dX7_laysHelps_138 : decode cX7_laysHelps 138 = .ok (.bipush 49, 2) := by decide +kernel
theorem dX7_laysHelps_140 : decode cX7_laysHelps 140 = .ok (.iload_n 2, 1) := by decide +kernel
theorem dX7_laysHelps_141 : decode cX7_laysHelps 141 = .ok (.imul, 1) := by decide +kernel
theorem dX7_laysHelps_142 : decode cX7_laysHelps 142 = .ok (.iload_n 1, 1) := by decide +kernel
theorem dX7_laysHelps_143 : decode cX7_laysHelps 143 = .ok (.iadd, 1) := by decide +kernel
theorem dX7_laysHelps_144 : decode cX7_laysHelps 144 = .ok (.iload_n 3, 1) := by decide +kernel
theorem dX7_laysHelps_145 : decode cX7_laysHelps 145 = .ok (.iastore, 1) := by decide +kernel
theorem dX7_laysHelps_146 : decode cX7_laysHelps 146 = .ok (.iinc 2 1, 3) := by decide +kernel
theorem dX7_laysHelps_149 : decode cX7_laysHelps 149 = .ok (.goto (-114), 3) := by decide +kernel
theorem dX7_laysHelps_152 : decode cX7_laysHelps 152 = .ok (.iinc 1 (-1), 3) := by decide +kernel
theorem dX7_laysHelps_155 : decode cX7_laysHelps 155 = .ok (.goto (-126), 3) := by decide +kernel
theorem dX7_laysHelps_158 : decode cX7_laysHelps 158 = .ok (.return_, 1) := by decide +kernel
set_option maxRecDepth 20000 in
theorem ggX7_wayAt_X7_stays : GoodIn wsX7_wayAt wsX7_stays := goodIn_r _ [7, 1, 8, 9, 10, 6, 11, 12, 13, 14, 15, 16, 17, 18, 19, 2, 20, 21, 22, 23, 24, 25, 26, 27, 28, 29, 30, 31, 32, 33, 34, 35, 36, 37, 38, 39, 40, 41, 42, 43, 44, 45, 46, 47, 48, 49, 50, 51, 52, 53, 54, 55, 56, 57, 58, 59, 60, 61, 62, 63, 64, 65, 66, 67, 68, 69] (by decide +kernel) (by decide +kernel)
set_option maxRecDepth 20000 in
theorem gX7_wayAt_X7_stays : GoodIn wsX7_wayAt (wsV RX7 224 RX7 yX7_stays wsX7_stays) := goodIn_app (goodIn_of _ (by decide +kernel)) ggX7_wayAt_X7_stays
theorem dX7_wayAt_0 : decode cX7_wayAt 0 = .ok (.iload_n 1, 1) := by decide +kernel
theorem dX7_wayAt_1 : decode cX7_wayAt 1 = .ok (.istore_n 3, 1) := by decide +kernel
theorem dX7_wayAt_2 : decode cX7_wayAt 2 = .ok (.iconst 0, 1) := by decide +kernel
theorem dX7_wayAt_3 : decode cX7_wayAt 3 = .ok (.istore 4, 2) := by decide +kernel
theorem dX7_wayAt_5 : decode cX7_wayAt 5 = .ok (.iload 4, 2) := by decide +kernel
theorem dX7_wayAt_7 : decode cX7_wayAt 7 = .ok (.iload_n 2, 1) := by decide +kernel
theorem dX7_wayAt_8 : decode cX7_wayAt 8 = .ok (.if_icmp .gt 115, 3) := by decide +kernel
theorem dX7_wayAt_11 : decode cX7_wayAt 11 = .ok (.aload_n 0, 1) := by decide +kernel
theorem dX7_wayAt_12 : decode cX7_wayAt 12 = .ok (.getfield 96, 3) := by decide +kernel
theorem dX7_wayAt_15 : decode cX7_wayAt 15 = .ok (.bipush 49, 2) := by decide +kernel
theorem dX7_wayAt_17 : decode cX7_wayAt 17 = .ok (.iload_n 3, 1) := by decide +kernel
theorem dX7_wayAt_18 : decode cX7_wayAt 18 = .ok (.imul, 1) := by decide +kernel
theorem dX7_wayAt_19 : decode cX7_wayAt 19 = .ok (.iload 4, 2) := by decide +kernel
theorem dX7_wayAt_21 : decode cX7_wayAt 21 = .ok (.iadd, 1) := by decide +kernel
theorem dX7_wayAt_22 : decode cX7_wayAt 22 = .ok (.iaload, 1) := by decide +kernel
theorem dX7_wayAt_23 : decode cX7_wayAt 23 = .ok (.istore 5, 2) := by decide +kernel
theorem dX7_wayAt_25 : decode cX7_wayAt 25 = .ok (.aload_n 0, 1) := by decide +kernel
theorem dX7_wayAt_26 : decode cX7_wayAt 26 = .ok (.iload_n 3, 1) := by decide +kernel
theorem dX7_wayAt_27 : decode cX7_wayAt 27 = .ok (.iload 4, 2) := by decide +kernel
theorem dX7_wayAt_29 : decode cX7_wayAt 29 = .ok (.invokevirtual 224, 3) := by decide +kernel
theorem dX7_wayAt_32 : decode cX7_wayAt 32 = .ok (.iload 5, 2) := by decide +kernel
theorem dX7_wayAt_34 : decode cX7_wayAt 34 = .ok (.if_icmp .ne 17, 3) := by decide +kernel
theorem dX7_wayAt_37 : decode cX7_wayAt 37 = .ok (.iload 4, 2) := by decide +kernel
theorem dX7_wayAt_39 : decode cX7_wayAt 39 = .ok (.iload_n 2, 1) := by decide +kernel
theorem dX7_wayAt_40 : decode cX7_wayAt 40 = .ok (.if_icmp .ne 5, 3) := by decide +kernel
theorem dX7_wayAt_43 : decode cX7_wayAt 43 = .ok (.iload_n 3, 1) := by decide +kernel
theorem dX7_wayAt_44 : decode cX7_wayAt 44 = .ok (.ireturn, 1) := by decide +kernel
theorem dX7_wayAt_45 : decode cX7_wayAt 45 = .ok (.iinc 4 1, 3) := by decide +kernel
theorem dX7_wayAt_48 : decode cX7_wayAt 48 = .ok (.goto (-43), 3) := by decide +kernel
theorem dX7_wayAt_51 : decode cX7_wayAt 51 = .ok (.iload 4, 2) := by decide +kernel
theorem dX7_wayAt_53 : decode cX7_wayAt 53 = .ok (.aload_n 0, 1) := by decide +kernel
theorem dX7_wayAt_54 : decode cX7_wayAt 54 = .ok (.getfield 74, 3) := by decide +kernel
theorem dX7_wayAt_57 : decode cX7_wayAt 57 = .ok (.iconst 1, 1) := by decide +kernel
theorem dX7_wayAt_58 : decode cX7_wayAt 58 = .ok (.iaload, 1) := by decide +kernel
theorem dX7_wayAt_59 : decode cX7_wayAt 59 = .ok (.iadd, 1) := by decide +kernel
theorem dX7_wayAt_60 : decode cX7_wayAt 60 = .ok (.istore 4, 2) := by decide +kernel
theorem dX7_wayAt_62 : decode cX7_wayAt 62 = .ok (.iload_n 2, 1) := by decide +kernel
theorem dX7_wayAt_63 : decode cX7_wayAt 63 = .ok (.iload 4, 2) := by decide +kernel
theorem dX7_wayAt_65 : decode cX7_wayAt 65 = .ok (.if_icmp .ge 6, 3) := by decide +kernel
theorem dX7_wayAt_68 : decode cX7_wayAt 68 = .ok (.bipush 9, 2) := by decide +kernel
theorem dX7_wayAt_70 : decode cX7_wayAt 70 = .ok (.ireturn, 1) := by decide +kernel
theorem dX7_wayAt_71 : decode cX7_wayAt 71 = .ok (.iconst 0, 1) := by decide +kernel
theorem dX7_wayAt_72 : decode cX7_wayAt 72 = .ok (.istore 6, 2) := by decide +kernel
theorem dX7_wayAt_74 : decode cX7_wayAt 74 = .ok (.iload 6, 2) := by decide +kernel
theorem dX7_wayAt_76 : decode cX7_wayAt 76 = .ok (.iload_n 3, 1) := by decide +kernel
theorem dX7_wayAt_77 : decode cX7_wayAt 77 = .ok (.if_icmp .eq 34, 3) := by decide +kernel
theorem dX7_wayAt_80 : decode cX7_wayAt 80 = .ok (.aload_n 0, 1) := by decide +kernel
theorem dX7_wayAt_81 : decode cX7_wayAt 81 = .ok (.getfield 96, 3) := by decide +kernel
theorem dX7_wayAt_84 : decode cX7_wayAt 84 = .ok (.bipush 49, 2) := by decide +kernel
theorem dX7_wayAt_86 : decode cX7_wayAt 86 = .ok (.iload 6, 2) := by decide +kernel
theorem dX7_wayAt_88 : decode cX7_wayAt 88 = .ok (.imul, 1) := by decide +kernel
theorem dX7_wayAt_89 : decode cX7_wayAt 89 = .ok (.iload 4, 2) := by decide +kernel
theorem dX7_wayAt_91 : decode cX7_wayAt 91 = .ok (.iadd, 1) := by decide +kernel
theorem dX7_wayAt_92 : decode cX7_wayAt 92 = .ok (.iaload, 1) := by decide +kernel
theorem dX7_wayAt_93 : decode cX7_wayAt 93 = .ok (.iload 5, 2) := by decide +kernel
theorem dX7_wayAt_95 : decode cX7_wayAt 95 = .ok (.if_icmp .ne 16, 3) := by decide +kernel
theorem dX7_wayAt_98 : decode cX7_wayAt 98 = .ok (.aload_n 0, 1) := by decide +kernel
theorem dX7_wayAt_99 : decode cX7_wayAt 99 = .ok (.iload 6, 2) := by decide +kernel
theorem dX7_wayAt_101 : decode cX7_wayAt 101 = .ok (.iload 4, 2) := by decide +kernel
theorem dX7_wayAt_103 : decode cX7_wayAt 103 = .ok (.invokevirtual 224, 3) := by decide +kernel
theorem dX7_wayAt_106 : decode cX7_wayAt 106 = .ok (.iload 5, 2) := by decide +kernel
theorem dX7_wayAt_108 : decode cX7_wayAt 108 = .ok (.if_icmp .eq 9, 3) := by decide +kernel
theorem dX7_wayAt_111 : decode cX7_wayAt 111 = .ok (.iinc 6 1, 3) := by decide +kernel
theorem dX7_wayAt_114 : decode cX7_wayAt 114 = .ok (.goto (-40), 3) := by decide +kernel
theorem dX7_wayAt_117 : decode cX7_wayAt 117 = .ok (.iload 6, 2) := by decide +kernel
theorem dX7_wayAt_119 : decode cX7_wayAt 119 = .ok (.istore_n 3, 1) := by decide +kernel
theorem dX7_wayAt_120 : decode cX7_wayAt 120 = .ok (.goto (-115), 3) := by decide +kernel
theorem dX7_wayAt_123 : decode cX7_wayAt 123 = .ok (.iload_n 3, 1) := by decide +kernel
theorem dX7_wayAt_124 : decode cX7_wayAt 124 = .ok (.ireturn, 1) := by decide +kernel
set_option maxRecDepth 20000 in
theorem ggX7_relief_X7_isPost : GoodIn wsX7_relief wsX7_isPost := goodIn_r _ [7, 8, 9, 10, 6, 11, 63, 64, 65, 66, 67, 68, 69, 70, 71, 72, 73, 74, 75, 76, 77, 78, 79, 80, 81, 82, 83, 84, 85] (by decide +kernel) (by decide +kernel)
set_option maxRecDepth 20000 in
theorem gX7_relief_X7_isPost : GoodIn wsX7_relief (wsV RX7 206 RX7 yX7_isPost wsX7_isPost) := goodIn_app (goodIn_of _ (by decide +kernel)) ggX7_relief_X7_isPost
set_option maxRecDepth 20000 in
theorem ggX7_relief_X7_isSlot : GoodIn wsX7_relief wsX7_isSlot := goodIn_r _ [14, 9, 10, 6, 11] (by decide +kernel) (by decide +kernel)
set_option maxRecDepth 20000 in
theorem gX7_relief_X7_isSlot : GoodIn wsX7_relief (va_wsS RX7 209 yX7_isSlot wsX7_isSlot) := goodIn_app (goodIn_of _ (by decide +kernel)) ggX7_relief_X7_isSlot
set_option maxRecDepth 20000 in
theorem ggX7_relief_X7_laysHelps : GoodIn wsX7_relief wsX7_laysHelps := goodIn_r _ [18, 2, 8, 19, 20, 21, 6, 22, 23, 24, 25, 26, 27, 28, 29, 30, 31, 32, 33, 34, 35, 36, 37, 38, 39, 40, 41, 42, 43, 44, 45, 46, 9, 10, 11, 47, 48, 49, 50, 51, 52, 53, 54, 55, 56, 57, 58, 63, 64, 65, 66, 67, 68, 69, 70, 71, 72, 73, 74, 75, 76, 77, 78, 79, 80, 81, 82, 83, 84, 85] (by decide +kernel) (by decide +kernel)
set_option maxRecDepth 20000 in
theorem gX7_relief_X7_laysHelps : GoodIn wsX7_relief (wsV RX7 227 RX7 yX7_laysHelps wsX7_laysHelps) := goodIn_app (goodIn_of _ (by decide +kernel)) ggX7_relief_X7_laysHelps
set_option maxRecDepth 20000 in
theorem ggX7_relief_X7_wayAt : GoodIn wsX7_relief wsX7_wayAt := goodIn_r _ [62, 2, 8, 19, 20, 21, 6, 22, 23, 24, 25, 26, 27, 28, 29, 30, 31, 32, 33, 34, 35, 36, 37, 38, 39, 40, 41, 42, 43, 44, 45, 46, 9, 10, 11, 47, 48, 49, 50, 51, 52, 53, 54, 55, 56, 57, 58, 63, 64, 65, 66, 67, 68, 69, 70, 71, 72, 73, 74, 75, 76, 77, 78, 79, 80, 81, 82, 83, 84, 85] (by decide +kernel) (by decide +kernel)
set_option maxRecDepth 20000 in
theorem gX7_relief_X7_wayAt : GoodIn wsX7_relief (wsV RX7 230 RX7 yX7_wayAt wsX7_wayAt) := goodIn_app (goodIn_of _ (by decide +kernel)) ggX7_relief_X7_wayAt
theorem dX7_relief_0 : decode cX7_relief 0 = .ok (.aload_n 0, 1) := by decide +kernel
theorem dX7_relief_1 : decode cX7_relief 1 = .ok (.iconst 0, 1) := by decide +kernel
theorem dX7_relief_2 : decode cX7_relief 2 = .ok (.putfield 1, 3) := by decide +kernel
theorem dX7_relief_5 : decode cX7_relief 5 = .ok (.aload_n 0, 1) := by decide +kernel
theorem dX7_relief_6 : decode cX7_relief 6 = .ok (.iload_n 1, 1) := by decide +kernel
theorem dX7_relief_7 : decode cX7_relief 7 = .ok (.invokevirtual 206, 3) := by decide +kernel
theorem dX7_relief_10 : decode cX7_relief 10 = .ok (.ifCond .eq 15, 3) := by decide +kernel
theorem dX7_relief_13 : decode cX7_relief 13 = .ok (.iload_n 2, 1) := by decide +kernel
theorem dX7_relief_14 : decode cX7_relief 14 = .ok (.iconst (-1), 1) := by decide +kernel
theorem dX7_relief_15 : decode cX7_relief 15 = .ok (.if_icmp .eq 12, 3) := by decide +kernel
theorem dX7_relief_18 : decode cX7_relief 18 = .ok (.iload_n 2, 1) := by decide +kernel
theorem dX7_relief_19 : decode cX7_relief 19 = .ok (.invokestatic 209, 3) := by decide +kernel
theorem dX7_relief_22 : decode cX7_relief 22 = .ok (.ifCond .ne 5, 3) := by decide +kernel
theorem dX7_relief_25 : decode cX7_relief 25 = .ok (.iconst (-1), 1) := by decide +kernel
theorem dX7_relief_26 : decode cX7_relief 26 = .ok (.ireturn, 1) := by decide +kernel
theorem dX7_relief_27 : decode cX7_relief 27 = .ok (.aload_n 0, 1) := by decide +kernel
theorem dX7_relief_28 : decode cX7_relief 28 = .ok (.invokevirtual 227, 3) := by decide +kernel
theorem dX7_relief_31 : decode cX7_relief 31 = .ok (.iload_n 2, 1) := by decide +kernel
theorem dX7_relief_32 : decode cX7_relief 32 = .ok (.iconst (-1), 1) := by decide +kernel
theorem dX7_relief_33 : decode cX7_relief 33 = .ok (.if_icmp .ne 15, 3) := by decide +kernel
theorem dX7_relief_36 : decode cX7_relief 36 = .ok (.aload_n 0, 1) := by decide +kernel
theorem dX7_relief_37 : decode cX7_relief 37 = .ok (.getfield 96, 3) := by decide +kernel
theorem dX7_relief_40 : decode cX7_relief 40 = .ok (.bipush 49, 2) := by decide +kernel
theorem dX7_relief_42 : decode cX7_relief 42 = .ok (.iload_n 1, 1) := by decide +kernel
theorem dX7_relief_43 : decode cX7_relief 43 = .ok (.imul, 1) := by decide +kernel
theorem dX7_relief_44 : decode cX7_relief 44 = .ok (.iaload, 1) := by decide +kernel
theorem dX7_relief_45 : decode cX7_relief 45 = .ok (.goto 9, 3) := by decide +kernel
theorem dX7_relief_48 : decode cX7_relief 48 = .ok (.aload_n 0, 1) := by decide +kernel
theorem dX7_relief_49 : decode cX7_relief 49 = .ok (.iload_n 1, 1) := by decide +kernel
theorem dX7_relief_50 : decode cX7_relief 50 = .ok (.iload_n 2, 1) := by decide +kernel
theorem dX7_relief_51 : decode cX7_relief 51 = .ok (.invokevirtual 230, 3) := by decide +kernel
theorem dX7_relief_54 : decode cX7_relief 54 = .ok (.ireturn, 1) := by decide +kernel
set_option maxRecDepth 20000 in
theorem ggX7_worst_X7_shortIn : GoodIn wsX7_worst wsX7_shortIn := goodIn_r _ [6, 7, 8, 9, 10, 5, 11, 12, 13, 14, 15, 16, 17, 18, 19, 20, 21, 22, 23, 24, 25, 26, 27, 28, 29, 30, 31, 32, 33, 34, 35, 36, 37, 38, 39, 40, 41, 42, 43, 44, 45, 46, 47, 48, 49, 50, 51, 52, 53, 54, 55, 56, 57, 58, 59, 60, 61, 62, 63, 64, 65] (by decide +kernel) (by decide +kernel)
set_option maxRecDepth 20000 in
theorem gX7_worst_X7_shortIn : GoodIn wsX7_worst (wsV RX7 180 RX7 yX7_shortIn wsX7_shortIn) := goodIn_app (goodIn_of _ (by decide +kernel)) ggX7_worst_X7_shortIn
theorem dX7_worst_0 : decode cX7_worst 0 = .ok (.aload_n 0, 1) := by decide +kernel
theorem dX7_worst_1 : decode cX7_worst 1 = .ok (.iconst 0, 1) := by decide +kernel
theorem dX7_worst_2 : decode cX7_worst 2 = .ok (.putfield 1, 3) := by decide +kernel
theorem dX7_worst_5 : decode cX7_worst 5 = .ok (.iconst (-1), 1) := by decide +kernel
theorem dX7_worst_6 : decode cX7_worst 6 = .ok (.istore_n 1, 1) := by decide +kernel
theorem dX7_worst_7 : decode cX7_worst 7 = .ok (.iconst 0, 1) := by decide +kernel
theorem dX7_worst_8 : decode cX7_worst 8 = .ok (.istore_n 2, 1) := by decide +kernel
theorem dX7_worst_9 : decode cX7_worst 9 = .ok (.iconst 0, 1) := by decide +kernel
theorem dX7_worst_10 : decode cX7_worst 10 = .ok (.istore_n 3, 1) := by decide +kernel
theorem dX7_worst_11 : decode cX7_worst 11 = .ok (.iload_n 3, 1) := by decide +kernel
theorem dX7_worst_12 : decode cX7_worst 12 = .ok (.bipush 48, 2) := by decide +kernel
theorem dX7_worst_14 : decode cX7_worst 14 = .ok (.if_icmp .ge 29, 3) := by decide +kernel
theorem dX7_worst_17 : decode cX7_worst 17 = .ok (.aload_n 0, 1) := by decide +kernel
theorem dX7_worst_18 : decode cX7_worst 18 = .ok (.iload_n 3, 1) := by decide +kernel
theorem dX7_worst_19 : decode cX7_worst 19 = .ok (.invokevirtual 180, 3) := by decide +kernel
theorem dX7_worst_22 : decode cX7_worst 22 = .ok (.iload_n 2, 1) := by decide +kernel
theorem dX7_worst_23 : decode cX7_worst 23 = .ok (.if_icmp .gt 6, 3) := by decide +kernel
theorem dX7_worst_26 : decode cX7_worst 26 = .ok (.goto 11, 3) := by decide +kernel
theorem dX7_worst_29 : decode cX7_worst 29 = .ok (.aload_n 0, 1) := by decide +kernel
theorem dX7_worst_30 : decode cX7_worst 30 = .ok (.iload_n 3, 1) := by decide +kernel
theorem dX7_worst_31 : decode cX7_worst 31 = .ok (.invokevirtual 180, 3) := by decide +kernel
theorem dX7_worst_34 : decode cX7_worst 34 = .ok (.istore_n 2, 1) := by decide +kernel
theorem dX7_worst_35 : decode cX7_worst 35 = .ok (.iload_n 3, 1) := by decide +kernel
theorem dX7_worst_36 : decode cX7_worst 36 = .ok (.istore_n 1, 1) := by decide +kernel
theorem dX7_worst_37 : decode cX7_worst 37 = .ok (.iinc 3 1, 3) := by decide +kernel
theorem dX7_worst_40 : decode cX7_worst 40 = .ok (.goto (-29), 3) := by decide +kernel
theorem dX7_worst_43 : decode cX7_worst 43 = .ok (.iload_n 1, 1) := by decide +kernel
theorem dX7_worst_44 : decode cX7_worst 44 = .ok (.ireturn, 1) := by decide +kernel
theorem dX7_snap_0 : decode cX7_snap 0 = .ok (.aload_n 0, 1) := by decide +kernel
theorem dX7_snap_1 : decode cX7_snap 1 = .ok (.getfield 152, 3) := by decide +kernel
theorem dX7_snap_4 : decode cX7_snap 4 = .ok (.bipush 10, 2) := by decide +kernel
theorem dX7_snap_6 : decode cX7_snap 6 = .ok (.if_icmp .ne 44, 3) := by decide +kernel
theorem dX7_snap_9 : decode cX7_snap 9 = .ok (.iconst 0, 1) := by decide +kernel
theorem dX7_snap_10 : decode cX7_snap 10 = .ok (.istore_n 1, 1) := by decide +kernel
theorem dX7_snap_11 : decode cX7_snap 11 = .ok (.iload_n 1, 1) := by decide +kernel
theorem dX7_snap_12 : decode cX7_snap 12 = .ok (.sipush 2772, 3) := by decide +kernel
theorem dX7_snap_15 : decode cX7_snap 15 = .ok (.if_icmp .ge 25, 3) := by decide +kernel
theorem dX7_snap_18 : decode cX7_snap 18 = .ok (.aload_n 0, 1) := by decide +kernel
theorem dX7_snap_19 : decode cX7_snap 19 = .ok (.getfield 80, 3) := by decide +kernel
theorem dX7_snap_22 : decode cX7_snap 22 = .ok (.iload_n 1, 1) := by decide +kernel
theorem dX7_snap_23 : decode cX7_snap 23 = .ok (.aload_n 0, 1) := by decide +kernel
theorem dX7_snap_24 : decode cX7_snap 24 = .ok (.getfield 80, 3) := by decide +kernel
theorem dX7_snap_27 : decode cX7_snap 27 = .ok (.iload_n 1, 1) := by decide +kernel
theorem dX7_snap_28 : decode cX7_snap 28 = .ok (.sipush 308, 3) := by decide +kernel
theorem dX7_snap_31 : decode cX7_snap 31 = .ok (.iadd, 1) := by decide +kernel
theorem dX7_snap_32 : decode cX7_snap 32 = .ok (.iaload, 1) := by decide +kernel
theorem dX7_snap_33 : decode cX7_snap 33 = .ok (.iastore, 1) := by decide +kernel
theorem dX7_snap_34 : decode cX7_snap 34 = .ok (.iinc 1 1, 3) := by decide +kernel
theorem dX7_snap_37 : decode cX7_snap 37 = .ok (.goto (-26), 3) := by decide +kernel
theorem dX7_snap_40 : decode cX7_snap 40 = .ok (.aload_n 0, 1) := by decide +kernel
theorem dX7_snap_41 : decode cX7_snap 41 = .ok (.dup, 1) := by decide +kernel
theorem dX7_snap_42 : decode cX7_snap 42 = .ok (.getfield 152, 3) := by decide +kernel
theorem dX7_snap_45 : decode cX7_snap 45 = .ok (.iconst 1, 1) := by decide +kernel
theorem dX7_snap_46 : decode cX7_snap 46 = .ok (.isub, 1) := by decide +kernel
theorem dX7_snap_47 : decode cX7_snap 47 = .ok (.putfield 152, 3) := by decide +kernel
theorem dX7_snap_50 : decode cX7_snap 50 = .ok (.iconst 0, 1) := by decide +kernel
theorem dX7_snap_51 : decode cX7_snap 51 = .ok (.istore_n 1, 1) := by decide +kernel
theorem dX7_snap_52 : decode cX7_snap 52 = .ok (.iload_n 1, 1) := by decide +kernel
theorem dX7_snap_53 : decode cX7_snap 53 = .ok (.sipush 308, 3) := by decide +kernel
theorem dX7_snap_56 : decode cX7_snap 56 = .ok (.if_icmp .ge 30, 3) := by decide +kernel
theorem dX7_snap_59 : decode cX7_snap 59 = .ok (.aload_n 0, 1) := by decide +kernel
theorem dX7_snap_60 : decode cX7_snap 60 = .ok (.getfield 80, 3) := by decide +kernel
theorem dX7_snap_63 : decode cX7_snap 63 = .ok (.sipush 308, 3) := by decide +kernel
theorem dX7_snap_66 : decode cX7_snap 66 = .ok (.aload_n 0, 1) := by decide +kernel
theorem dX7_snap_67 : decode cX7_snap 67 = .ok (.getfield 152, 3) := by decide +kernel
theorem dX7_snap_70 : decode cX7_snap 70 = .ok (.imul, 1) := by decide +kernel
theorem dX7_snap_71 : decode cX7_snap 71 = .ok (.iload_n 1, 1) := by decide +kernel
theorem dX7_snap_72 : decode cX7_snap 72 = .ok (.iadd, 1) := by decide +kernel
theorem dX7_snap_73 : decode cX7_snap 73 = .ok (.aload_n 0, 1) := by decide +kernel
theorem dX7_snap_74 : decode cX7_snap 74 = .ok (.getfield 74, 3) := by decide +kernel
theorem dX7_snap_77 : decode cX7_snap 77 = .ok (.iload_n 1, 1) := by decide +kernel
theorem dX7_snap_78 : decode cX7_snap 78 = .ok (.iaload, 1) := by decide +kernel
theorem dX7_snap_79 : decode cX7_snap 79 = .ok (.iastore, 1) := by decide +kernel
theorem dX7_snap_80 : decode cX7_snap 80 = .ok (.iinc 1 1, 3) := by decide +kernel
theorem dX7_snap_83 : decode cX7_snap 83 = .ok (.goto (-31), 3) := by decide +kernel
theorem dX7_snap_86 : decode cX7_snap 86 = .ok (.aload_n 0, 1) := by decide +kernel
theorem dX7_snap_87 : decode cX7_snap 87 = .ok (.dup, 1) := by decide +kernel
theorem dX7_snap_88 : decode cX7_snap 88 = .ok (.getfield 152, 3) := by decide +kernel
theorem dX7_snap_91 : decode cX7_snap 91 = .ok (.iconst 1, 1) := by decide +kernel
theorem dX7_snap_92 : decode cX7_snap 92 = .ok (.iadd, 1) := by decide +kernel
theorem dX7_snap_93 : decode cX7_snap 93 = .ok (.putfield 152, 3) := by decide +kernel
theorem dX7_snap_96 : decode cX7_snap 96 = .ok (.return_, 1) := by decide +kernel
set_option maxRecDepth 20000 in
theorem ggX7_place_X7_isPause : GoodIn wsX7_place wsX7_isPause := goodIn_r _ [6, 7, 8, 9, 5, 10, 36, 37, 38, 39, 40, 41, 42, 43, 44, 45, 46, 47, 48, 49, 50, 51, 52, 53, 54, 55, 56, 57, 58] (by decide +kernel) (by decide +kernel)
set_option maxRecDepth 20000 in
theorem gX7_place_X7_isPause : GoodIn wsX7_place (wsV RX7 203 RX7 yX7_isPause wsX7_isPause) := goodIn_app (goodIn_of _ (by decide +kernel)) ggX7_place_X7_isPause
set_option maxRecDepth 20000 in
theorem ggX7_place_X7_isSlot : GoodIn wsX7_place wsX7_isSlot := goodIn_r _ [13, 8, 9, 5, 10] (by decide +kernel) (by decide +kernel)
set_option maxRecDepth 20000 in
theorem gX7_place_X7_isSlot : GoodIn wsX7_place (va_wsS RX7 209 yX7_isSlot wsX7_isSlot) := goodIn_app (goodIn_of _ (by decide +kernel)) ggX7_place_X7_isSlot
set_option maxRecDepth 20000 in
theorem ggX7_place_X7_placeOf : GoodIn wsX7_place wsX7_placeOf := goodIn_r _ [17, 18, 19, 20, 5, 21, 7, 36, 37, 38, 39, 40, 41, 42, 43, 44, 45, 46, 47, 48, 49, 50, 51, 52, 53, 54, 55, 56, 57, 58] (by decide +kernel) (by decide +kernel)
set_option maxRecDepth 20000 in
theorem gX7_place_X7_placeOf : GoodIn wsX7_place (wsV RX7 162 RX7 yX7_placeOf wsX7_placeOf) := goodIn_app (goodIn_of _ (by decide +kernel)) ggX7_place_X7_placeOf
set_option maxRecDepth 20000 in
theorem ggX7_place_X7_whyNot : GoodIn wsX7_place wsX7_whyNot := goodIn_r _ [25, 7, 18, 19, 20, 5, 21, 8, 9, 10, 14, 15, 16, 17, 36, 37, 38, 39, 40, 41, 42, 43, 44, 45, 46, 47, 48, 49, 50, 51, 52, 53, 54, 55, 56, 57, 58] (by decide +kernel) (by decide +kernel)
set_option maxRecDepth 20000 in
theorem gX7_place_X7_whyNot : GoodIn wsX7_place (wsV RX7 191 RX7 yX7_whyNot wsX7_whyNot) := goodIn_app (goodIn_of _ (by decide +kernel)) ggX7_place_X7_whyNot
set_option maxRecDepth 20000 in
theorem ggX7_place_X7_snap : GoodIn wsX7_place wsX7_snap := goodIn_r _ [29, 30, 31, 7, 36, 37, 38, 39, 40, 41, 42, 43, 44, 45, 46, 47, 48, 49, 50, 51, 52, 53, 54, 55, 56, 57, 58] (by decide +kernel) (by decide +kernel)
set_option maxRecDepth 20000 in
theorem gX7_place_X7_snap : GoodIn wsX7_place (wsV RX7 233 RX7 yX7_snap wsX7_snap) := goodIn_app (goodIn_of _ (by decide +kernel)) ggX7_place_X7_snap
set_option maxRecDepth 20000 in
theorem ggX7_place_X7_lies : GoodIn wsX7_place wsX7_lies := goodIn_r _ [35, 7, 36, 37, 38, 39, 40, 41, 42, 43, 44, 45, 46, 47, 48, 49, 50, 51, 52, 53, 54, 55, 56, 57, 58] (by decide +kernel) (by decide +kernel)
set_option maxRecDepth 20000 in
theorem gX7_place_X7_lies : GoodIn wsX7_place (wsV RX7 183 RX7 yX7_lies wsX7_lies) := goodIn_app (goodIn_of _ (by decide +kernel)) ggX7_place_X7_lies
theorem dX7_place_0 : decode cX7_place 0 = .ok (.aload_n 0, 1) := by decide +kernel
theorem dX7_place_1 : decode cX7_place 1 = .ok (.iconst 0, 1) := by decide +kernel
theorem dX7_place_2 : decode cX7_place 2 = .ok (.putfield 1, 3) := by decide +kernel
theorem dX7_place_5 : decode cX7_place 5 = .ok (.aload_n 0, 1) := by decide +kernel
theorem dX7_place_6 : decode cX7_place 6 = .ok (.iload_n 1, 1) := by decide +kernel
theorem dX7_place_7 : decode cX7_place 7 = .ok (.invokevirtual 203, 3) := by decide +kernel
theorem dX7_place_10 : decode cX7_place 10 = .ok (.ifCond .eq 19, 3) := by decide +kernel
theorem dX7_place_13 : decode cX7_place 13 = .ok (.iload_n 2, 1) := by decide +kernel
theorem dX7_place_14 : decode cX7_place 14 = .ok (.invokestatic 209, 3) := by decide +kernel
theorem dX7_place_17 : decode cX7_place 17 = .ok (.ifCond .eq 12, 3) := by decide +kernel
theorem dX7_place_20 : decode cX7_place 20 = .ok (.aload_n 0, 1) := by decide +kernel
theorem dX7_place_21 : decode cX7_place 21 = .ok (.iload_n 1, 1) := by decide +kernel
theorem dX7_place_22 : decode cX7_place 22 = .ok (.invokevirtual 162, 3) := by decide +kernel
theorem dX7_place_25 : decode cX7_place 25 = .ok (.iload_n 2, 1) := by decide +kernel
theorem dX7_place_26 : decode cX7_place 26 = .ok (.if_icmp .ne 5, 3) := by decide +kernel
theorem dX7_place_29 : decode cX7_place 29 = .ok (.iconst (-1), 1) := by decide +kernel
theorem dX7_place_30 : decode cX7_place 30 = .ok (.ireturn, 1) := by decide +kernel
theorem dX7_place_31 : decode cX7_place 31 = .ok (.aload_n 0, 1) := by decide +kernel
theorem dX7_place_32 : decode cX7_place 32 = .ok (.iload_n 1, 1) := by decide +kernel
theorem dX7_place_33 : decode cX7_place 33 = .ok (.iload_n 2, 1) := by decide +kernel
theorem dX7_place_34 : decode cX7_place 34 = .ok (.invokevirtual 191, 3) := by decide +kernel
theorem dX7_place_37 : decode cX7_place 37 = .ok (.istore_n 3, 1) := by decide +kernel
theorem dX7_place_38 : decode cX7_place 38 = .ok (.iload_n 3, 1) := by decide +kernel
theorem dX7_place_39 : decode cX7_place 39 = .ok (.ifCond .le 5, 3) := by decide +kernel
theorem dX7_place_42 : decode cX7_place 42 = .ok (.iload_n 3, 1) := by decide +kernel
theorem dX7_place_43 : decode cX7_place 43 = .ok (.ireturn, 1) := by decide +kernel
theorem dX7_place_44 : decode cX7_place 44 = .ok (.aload_n 0, 1) := by decide +kernel
theorem dX7_place_45 : decode cX7_place 45 = .ok (.invokevirtual 233, 3) := by decide +kernel
theorem dX7_place_48 : decode cX7_place 48 = .ok (.aload_n 0, 1) := by decide +kernel
theorem dX7_place_49 : decode cX7_place 49 = .ok (.iload_n 1, 1) := by decide +kernel
theorem dX7_place_50 : decode cX7_place 50 = .ok (.iload_n 2, 1) := by decide +kernel
theorem dX7_place_51 : decode cX7_place 51 = .ok (.invokevirtual 183, 3) := by decide +kernel
theorem dX7_place_54 : decode cX7_place 54 = .ok (.iconst 0, 1) := by decide +kernel
theorem dX7_place_55 : decode cX7_place 55 = .ok (.ireturn, 1) := by decide +kernel
set_option maxRecDepth 20000 in
theorem ggX7_take_X7_isPause : GoodIn wsX7_take wsX7_isPause := goodIn_r _ [6, 7, 8, 9, 5, 10, 29, 30, 31, 32, 33, 34, 35, 36, 37, 38, 39, 40, 41, 42, 43, 44, 45, 46, 47, 48, 49, 50, 51] (by decide +kernel) (by decide +kernel)
set_option maxRecDepth 20000 in
theorem gX7_take_X7_isPause : GoodIn wsX7_take (wsV RX7 203 RX7 yX7_isPause wsX7_isPause) := goodIn_app (goodIn_of _ (by decide +kernel)) ggX7_take_X7_isPause
set_option maxRecDepth 20000 in
theorem ggX7_take_X7_placeOf : GoodIn wsX7_take wsX7_placeOf := goodIn_r _ [14, 15, 16, 17, 5, 18, 7, 29, 30, 31, 32, 33, 34, 35, 36, 37, 38, 39, 40, 41, 42, 43, 44, 45, 46, 47, 48, 49, 50, 51] (by decide +kernel) (by decide +kernel)
set_option maxRecDepth 20000 in
theorem gX7_take_X7_placeOf : GoodIn wsX7_take (wsV RX7 162 RX7 yX7_placeOf wsX7_placeOf) := goodIn_app (goodIn_of _ (by decide +kernel)) ggX7_take_X7_placeOf
set_option maxRecDepth 20000 in
theorem ggX7_take_X7_snap : GoodIn wsX7_take wsX7_snap := goodIn_r _ [22, 23, 24, 7, 29, 30, 31, 32, 33, 34, 35, 36, 37, 38, 39, 40, 41, 42, 43, 44, 45, 46, 47, 48, 49, 50, 51] (by decide +kernel) (by decide +kernel)
set_option maxRecDepth 20000 in
theorem gX7_take_X7_snap : GoodIn wsX7_take (wsV RX7 233 RX7 yX7_snap wsX7_snap) := goodIn_app (goodIn_of _ (by decide +kernel)) ggX7_take_X7_snap
set_option maxRecDepth 20000 in
theorem ggX7_take_X7_lies : GoodIn wsX7_take wsX7_lies := goodIn_r _ [28, 7, 29, 30, 31, 32, 33, 34, 35, 36, 37, 38, 39, 40, 41, 42, 43, 44, 45, 46, 47, 48, 49, 50, 51] (by decide +kernel) (by decide +kernel)
set_option maxRecDepth 20000 in
theorem gX7_take_X7_lies : GoodIn wsX7_take (wsV RX7 183 RX7 yX7_lies wsX7_lies) := goodIn_app (goodIn_of _ (by decide +kernel)) ggX7_take_X7_lies
theorem dX7_take_0 : decode cX7_take 0 = .ok (.aload_n 0, 1) := by decide +kernel
theorem dX7_take_1 : decode cX7_take 1 = .ok (.iconst 0, 1) := by decide +kernel
theorem dX7_take_2 : decode cX7_take 2 = .ok (.putfield 1, 3) := by decide +kernel
theorem dX7_take_5 : decode cX7_take 5 = .ok (.aload_n 0, 1) := by decide +kernel
theorem dX7_take_6 : decode cX7_take 6 = .ok (.iload_n 1, 1) := by decide +kernel
theorem dX7_take_7 : decode cX7_take 7 = .ok (.invokevirtual 203, 3) := by decide +kernel
theorem dX7_take_10 : decode cX7_take 10 = .ok (.ifCond .eq 12, 3) := by decide +kernel
theorem dX7_take_13 : decode cX7_take 13 = .ok (.aload_n 0, 1) := by decide +kernel
theorem dX7_take_14 : decode cX7_take 14 = .ok (.iload_n 1, 1) := by decide +kernel
theorem dX7_take_15 : decode cX7_take 15 = .ok (.invokevirtual 162, 3) := by decide +kernel
theorem dX7_take_18 : decode cX7_take 18 = .ok (.iconst (-1), 1) := by decide +kernel
theorem dX7_take_19 : decode cX7_take 19 = .ok (.if_icmp .ne 5, 3) := by decide +kernel
theorem dX7_take_22 : decode cX7_take 22 = .ok (.iconst (-1), 1) := by decide +kernel
theorem dX7_take_23 : decode cX7_take 23 = .ok (.ireturn, 1) := by decide +kernel
theorem dX7_take_24 : decode cX7_take 24 = .ok (.aload_n 0, 1) := by decide +kernel
theorem dX7_take_25 : decode cX7_take 25 = .ok (.invokevirtual 233, 3) := by decide +kernel
theorem dX7_take_28 : decode cX7_take 28 = .ok (.aload_n 0, 1) := by decide +kernel
theorem dX7_take_29 : decode cX7_take 29 = .ok (.iload_n 1, 1) := by decide +kernel
theorem dX7_take_30 : decode cX7_take 30 = .ok (.invokevirtual 162, 3) := by decide +kernel
theorem dX7_take_33 : decode cX7_take 33 = .ok (.istore_n 2, 1) := by decide +kernel
theorem dX7_take_34 : decode cX7_take 34 = .ok (.aload_n 0, 1) := by decide +kernel
theorem dX7_take_35 : decode cX7_take 35 = .ok (.iload_n 1, 1) := by decide +kernel
theorem dX7_take_36 : decode cX7_take 36 = .ok (.iconst (-1), 1) := by decide +kernel
theorem dX7_take_37 : decode cX7_take 37 = .ok (.invokevirtual 183, 3) := by decide +kernel
theorem dX7_take_40 : decode cX7_take 40 = .ok (.iload_n 2, 1) := by decide +kernel
theorem dX7_take_41 : decode cX7_take 41 = .ok (.ireturn, 1) := by decide +kernel
set_option maxRecDepth 20000 in
theorem ggX7_fill_X7_snap : GoodIn wsX7_fill wsX7_snap := goodIn_r _ [7, 8, 9, 2, 69, 70, 71, 72, 73, 74, 75, 76, 77, 78, 79, 80, 81, 82, 83, 84, 85, 86, 87, 88, 89, 90, 91] (by decide +kernel) (by decide +kernel)
