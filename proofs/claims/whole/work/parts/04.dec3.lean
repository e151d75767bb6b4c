set_option maxRecDepth 20000 in
theorem ggX7_five_X7_four : GoodIn wsX7_five wsX7_four := goodIn_r _ [6, 7, 8, 9, 5, 10, 1, 2] (by decide +kernel) (by decide +kernel)
set_option maxRecDepth 20000 in
theorem gX7_five_X7_four : GoodIn wsX7_five (va_wsS RX7 58 yX7_four wsX7_four) := goodIn_app (goodIn_of _ (by decide +kernel)) ggX7_five_X7_four
theorem dX7_five_0 : decode cX7_five 0 = .ok (.ldc2_w 48, 3) := by decide +kernel
theorem dX7_five_3 : decode cX7_five 3 = .ok (.iload_n 0, 1) := by decide +kernel
theorem dX7_five_4 : decode cX7_five 4 = .ok (.iload_n 1, 1) := by decide +kernel
theorem dX7_five_5 : decode cX7_five 5 = .ok (.iload_n 2, 1) := by decide +kernel
theorem dX7_five_6 : decode cX7_five 6 = .ok (.iload_n 3, 1) := by decide +kernel
theorem dX7_five_7 : decode cX7_five 7 = .ok (.invokestatic 58, 3) := by decide +kernel
theorem dX7_five_10 : decode cX7_five 10 = .ok (.lmul, 1) := by decide +kernel
theorem dX7_five_11 : decode cX7_five 11 = .ok (.iload 4, 2) := by decide +kernel
theorem dX7_five_13 : decode cX7_five 13 = .ok (.i2l, 1) := by decide +kernel
theorem dX7_five_14 : decode cX7_five 14 = .ok (.ladd, 1) := by decide +kernel
theorem dX7_five_15 : decode cX7_five 15 = .ok (.ldc2_w 50, 3) := by decide +kernel
theorem dX7_five_18 : decode cX7_five 18 = .ok (.lsub, 1) := by decide +kernel
theorem dX7_five_19 : decode cX7_five 19 = .ok (.lreturn, 1) := by decide +kernel
theorem dX7_isWord_0 : decode cX7_isWord 0 = .ok (.aload_n 0, 1) := by decide +kernel
theorem dX7_isWord_1 : decode cX7_isWord 1 = .ok (.getfield 27, 3) := by decide +kernel
theorem dX7_isWord_4 : decode cX7_isWord 4 = .ok (.iconst 2, 1) := by decide +kernel
theorem dX7_isWord_5 : decode cX7_isWord 5 = .ok (.if_icmp .ne 16, 3) := by decide +kernel
theorem dX7_isWord_8 : decode cX7_isWord 8 = .ok (.aload_n 0, 1) := by decide +kernel
theorem dX7_isWord_9 : decode cX7_isWord 9 = .ok (.getfield 37, 3) := by decide +kernel
theorem dX7_isWord_12 : decode cX7_isWord 12 = .ok (.lload_n 1, 1) := by decide +kernel
theorem dX7_isWord_13 : decode cX7_isWord 13 = .ok (.lcmp, 1) := by decide +kernel
theorem dX7_isWord_14 : decode cX7_isWord 14 = .ok (.ifCond .ne 7, 3) := by decide +kernel
theorem dX7_isWord_17 : decode cX7_isWord 17 = .ok (.iconst 1, 1) := by decide +kernel
theorem dX7_isWord_18 : decode cX7_isWord 18 = .ok (.goto 4, 3) := by decide +kernel
theorem dX7_isWord_21 : decode cX7_isWord 21 = .ok (.iconst 0, 1) := by decide +kernel
theorem dX7_isWord_22 : decode cX7_isWord 22 = .ok (.ireturn, 1) := by decide +kernel
theorem dX7_bad_0 : decode cX7_bad 0 = .ok (.aload_n 0, 1) := by decide +kernel
theorem dX7_bad_1 : decode cX7_bad 1 = .ok (.aload_n 0, 1) := by decide +kernel
theorem dX7_bad_2 : decode cX7_bad 2 = .ok (.getfield 27, 3) := by decide +kernel
theorem dX7_bad_5 : decode cX7_bad 5 = .ok (.iconst 1, 1) := by decide +kernel
theorem dX7_bad_6 : decode cX7_bad 6 = .ok (.if_icmp .ne 7, 3) := by decide +kernel
theorem dX7_bad_9 : decode cX7_bad 9 = .ok (.iconst 1, 1) := by decide +kernel
theorem dX7_bad_10 : decode cX7_bad 10 = .ok (.goto 4, 3) := by decide +kernel
theorem dX7_bad_13 : decode cX7_bad 13 = .ok (.iload_n 1, 1) := by decide +kernel
theorem dX7_bad_14 : decode cX7_bad 14 = .ok (.putfield 62, 3) := by decide +kernel
theorem dX7_bad_17 : decode cX7_bad 17 = .ok (.aload_n 0, 1) := by decide +kernel
theorem dX7_bad_18 : decode cX7_bad 18 = .ok (.aload_n 0, 1) := by decide +kernel
theorem dX7_bad_19 : decode cX7_bad 19 = .ok (.getfield 24, 3) := by decide +kernel
theorem dX7_bad_22 : decode cX7_bad 22 = .ok (.putfield 65, 3) := by decide +kernel
theorem dX7_bad_25 : decode cX7_bad 25 = .ok (.iconst 0, 1) := by decide +kernel
theorem dX7_bad_26 : decode cX7_bad 26 = .ok (.ireturn, 1) := by decide +kernel
theorem dX7_init_0 : decode cX7_init 0 = .ok (.aload_n 0, 1) := by decide +kernel
theorem dX7_init_1 : decode cX7_init 1 = .ok (.invokespecial 68, 3) := by decide +kernel
theorem dX7_init_4 : decode cX7_init 4 = .ok (.aload_n 0, 1) := by decide +kernel
theorem dX7_init_5 : decode cX7_init 5 = .ok (.sipush 640, 3) := by decide +kernel
theorem dX7_init_8 : decode cX7_init 8 = .ok (.newarray .int, 2) := by decide +kernel
theorem dX7_init_10 : decode cX7_init 10 = .ok (.putfield 7, 3) := by decide +kernel
theorem dX7_init_13 : decode cX7_init 13 = .ok (.aload_n 0, 1) := by decide +kernel
theorem dX7_init_14 : decode cX7_init 14 = .ok (.sipush 308, 3) := by decide +kernel
theorem dX7_init_17 : decode cX7_init 17 = .ok (.newarray .int, 2) := by decide +kernel
theorem dX7_init_19 : decode cX7_init 19 = .ok (.putfield 74, 3) := by decide +kernel
theorem dX7_init_22 : decode cX7_init 22 = .ok (.aload_n 0, 1) := by decide +kernel
theorem dX7_init_23 : decode cX7_init 23 = .ok (.sipush 308, 3) := by decide +kernel
theorem dX7_init_26 : decode cX7_init 26 = .ok (.newarray .int, 2) := by decide +kernel
theorem dX7_init_28 : decode cX7_init 28 = .ok (.putfield 77, 3) := by decide +kernel
theorem dX7_init_31 : decode cX7_init 31 = .ok (.aload_n 0, 1) := by decide +kernel
theorem dX7_init_32 : decode cX7_init 32 = .ok (.sipush 3080, 3) := by decide +kernel
theorem dX7_init_35 : decode cX7_init 35 = .ok (.newarray .int, 2) := by decide +kernel
theorem dX7_init_37 : decode cX7_init 37 = .ok (.putfield 80, 3) := by decide +kernel
theorem dX7_init_40 : decode cX7_init 40 = .ok (.aload_n 0, 1) := by decide +kernel
theorem dX7_init_41 : decode cX7_init 41 = .ok (.bipush 48, 2) := by decide +kernel
theorem dX7_init_43 : decode cX7_init 43 = .ok (.newarray .int, 2) := by decide +kernel
theorem dX7_init_45 : decode cX7_init 45 = .ok (.putfield 83, 3) := by decide +kernel
theorem dX7_init_48 : decode cX7_init 48 = .ok (.aload_n 0, 1) := by decide +kernel
theorem dX7_init_49 : decode cX7_init 49 = .ok (.bipush 48, 2) := by decide +kernel
theorem dX7_init_51 : decode cX7_init 51 = .ok (.newarray .int, 2) := by decide +kernel
theorem dX7_init_53 : decode cX7_init 53 = .ok (.putfield 86, 3) := by decide +kernel
theorem dX7_init_56 : decode cX7_init 56 = .ok (.aload_n 0, 1) := by decide +kernel
theorem dX7_init_57 : decode cX7_init 57 = .ok (.bipush 8, 2) := by decide +kernel
theorem dX7_init_59 : decode cX7_init 59 = .ok (.newarray .int, 2) := by decide +kernel
theorem dX7_init_61 : decode cX7_init 61 = .ok (.putfield 89, 3) := by decide +kernel
theorem dX7_init_64 : decode cX7_init 64 = .ok (.aload_n 0, 1) := by decide +kernel
theorem dX7_init_65 : decode cX7_init 65 = .ok (.bipush 48, 2) := by decide +kernel
theorem dX7_init_67 : decode cX7_init 67 = .ok (.newarray .boolean, 2) := by decide +kernel
theorem dX7_init_69 : decode cX7_init 69 = .ok (.putfield 92, 3) := by decide +kernel
theorem dX7_init_72 : decode cX7_init 72 = .ok (.aload_n 0, 1) := by decide +kernel
theorem dX7_init_73 : decode cX7_init 73 = .ok (.sipush 147, 3) := by decide +kernel
theorem dX7_init_76 : decode cX7_init 76 = .ok (.newarray .int, 2) := by decide +kernel
theorem dX7_init_78 : decode cX7_init 78 = .ok (.putfield 96, 3) := by decide +kernel
theorem dX7_init_81 : decode cX7_init 81 = .ok (.aload_n 0, 1) := by decide +kernel
theorem dX7_init_82 : decode cX7_init 82 = .ok (.getfield 74, 3) := by decide +kernel
theorem dX7_init_85 : decode cX7_init 85 = .ok (.iconst 0, 1) := by decide +kernel
theorem dX7_init_86 : decode cX7_init 86 = .ok (.iconst 1, 1) := by decide +kernel
theorem dX7_init_87 : decode cX7_init 87 = .ok (.iastore, 1) := by decide +kernel
theorem dX7_init_88 : decode cX7_init 88 = .ok (.aload_n 0, 1) := by decide +kernel
theorem dX7_init_89 : decode cX7_init 89 = .ok (.getfield 74, 3) := by decide +kernel
theorem dX7_init_92 : decode cX7_init 92 = .ok (.iconst 1, 1) := by decide +kernel
theorem dX7_init_93 : decode cX7_init 93 = .ok (.iconst 1, 1) := by decide +kernel
theorem dX7_init_94 : decode cX7_init 94 = .ok (.iastore, 1) := by decide +kernel
theorem dX7_init_95 : decode cX7_init 95 = .ok (.return_, 1) := by decide +kernel
set_option maxRecDepth 20000 in
theorem ggX7_takes_X7_bad : GoodIn wsX7_takes wsX7_bad := goodIn_r _ [8, 1, 9, 10, 11, 35, 36, 37, 38, 39, 40, 41, 42, 43, 44, 45, 46, 47, 48, 49, 50, 51, 52, 53, 54, 55, 56, 57] (by decide +kernel) (by decide +kernel)
set_option maxRecDepth 20000 in
theorem gX7_takes_X7_bad : GoodIn wsX7_takes (wsV RX7 99 RX7 yX7_bad wsX7_bad) := goodIn_app (goodIn_of _ (by decide +kernel)) ggX7_takes_X7_bad
set_option maxRecDepth 20000 in
theorem ggX7_takes_X7_isIn : GoodIn wsX7_takes wsX7_isIn := goodIn_r _ [14] (by decide +kernel) (by decide +kernel)
set_option maxRecDepth 20000 in
theorem gX7_takes_X7_isIn : GoodIn wsX7_takes (va_wsS RX7 102 yX7_isIn wsX7_isIn) := goodIn_app (goodIn_of _ (by decide +kernel)) ggX7_takes_X7_isIn
set_option maxRecDepth 20000 in
theorem ggX7_takes_X7_go : GoodIn wsX7_takes wsX7_go := goodIn_r _ [18, 19, 20, 21, 10, 1, 22, 2, 23, 24, 25, 26, 7, 27, 28, 29, 30, 31, 32, 33, 34, 35, 36, 37, 38, 39, 40, 41, 42, 43, 44, 45, 46, 47, 48, 49, 50, 51, 52, 53, 54, 55, 56, 57] (by decide +kernel) (by decide +kernel)
set_option maxRecDepth 20000 in
theorem gX7_takes_X7_go : GoodIn wsX7_takes (wsV RX7 109 RX7 yX7_go wsX7_go) := goodIn_app (goodIn_of _ (by decide +kernel)) ggX7_takes_X7_go
theorem dX7_takes_0 : decode cX7_takes 0 = .ok (.aload_n 0, 1) := by decide +kernel
theorem dX7_takes_1 : decode cX7_takes 1 = .ok (.getfield 27, 3) := by decide +kernel
theorem dX7_takes_4 : decode cX7_takes 4 = .ok (.iconst 3, 1) := by decide +kernel
theorem dX7_takes_5 : decode cX7_takes 5 = .ok (.if_icmp .eq 9, 3) := by decide +kernel
theorem dX7_takes_8 : decode cX7_takes 8 = .ok (.aload_n 0, 1) := by decide +kernel
theorem dX7_takes_9 : decode cX7_takes 9 = .ok (.iconst 1, 1) := by decide +kernel
theorem dX7_takes_10 : decode cX7_takes 10 = .ok (.invokevirtual 99, 3) := by decide +kernel
theorem dX7_takes_13 : decode cX7_takes 13 = .ok (.ireturn, 1) := by decide +kernel
theorem dX7_takes_14 : decode cX7_takes 14 = .ok (.aload_n 0, 1) := by decide +kernel
theorem dX7_takes_15 : decode cX7_takes 15 = .ok (.getfield 41, 3) := by decide +kernel
theorem dX7_takes_18 : decode cX7_takes 18 = .ok (.iload_n 1, 1) := by decide +kernel
theorem dX7_takes_19 : decode cX7_takes 19 = .ok (.iload_n 2, 1) := by decide +kernel
theorem dX7_takes_20 : decode cX7_takes 20 = .ok (.invokestatic 102, 3) := by decide +kernel
theorem dX7_takes_23 : decode cX7_takes 23 = .ok (.ifCond .ne 9, 3) := by decide +kernel
theorem dX7_takes_26 : decode cX7_takes 26 = .ok (.aload_n 0, 1) := by decide +kernel
theorem dX7_takes_27 : decode cX7_takes 27 = .ok (.iconst 2, 1) := by decide +kernel
theorem dX7_takes_28 : decode cX7_takes 28 = .ok (.invokevirtual 99, 3) := by decide +kernel
theorem dX7_takes_31 : decode cX7_takes 31 = .ok (.ireturn, 1) := by decide +kernel
theorem dX7_takes_32 : decode cX7_takes 32 = .ok (.aload_n 0, 1) := by decide +kernel
theorem dX7_takes_33 : decode cX7_takes 33 = .ok (.aload_n 0, 1) := by decide +kernel
theorem dX7_takes_34 : decode cX7_takes 34 = .ok (.getfield 41, 3) := by decide +kernel
theorem dX7_takes_37 : decode cX7_takes 37 = .ok (.putfield 106, 3) := by decide +kernel
theorem dX7_takes_40 : decode cX7_takes 40 = .ok (.aload_n 0, 1) := by decide +kernel
theorem dX7_takes_41 : decode cX7_takes 41 = .ok (.invokevirtual 109, 3) := by decide +kernel
theorem dX7_takes_44 : decode cX7_takes 44 = .ok (.iconst 1, 1) := by decide +kernel
theorem dX7_takes_45 : decode cX7_takes 45 = .ok (.ireturn, 1) := by decide +kernel
set_option maxRecDepth 20000 in
theorem ggX7_told_X7_takes : GoodIn wsX7_told wsX7_takes := goodIn_r _ [7, 8, 9, 2, 10, 11, 12, 6, 13, 14, 15, 16, 17, 18, 19, 20, 21, 22, 23, 24, 25, 26, 27, 28, 29, 30, 31, 32, 33, 34, 35, 36, 37, 38, 39, 40, 41, 42, 43, 44, 45, 46, 47, 48, 49, 50, 51, 52, 53, 54, 55, 56, 57, 58, 59, 60, 61, 62] (by decide +kernel) (by decide +kernel)
set_option maxRecDepth 20000 in
theorem gX7_told_X7_takes : GoodIn wsX7_told (wsV RX7 112 RX7 yX7_takes wsX7_takes) := goodIn_app (goodIn_of _ (by decide +kernel)) ggX7_told_X7_takes
theorem dX7_told_0 : decode cX7_told 0 = .ok (.aload_n 0, 1) := by decide +kernel
theorem dX7_told_1 : decode cX7_told 1 = .ok (.iload_n 2, 1) := by decide +kernel
theorem dX7_told_2 : decode cX7_told 2 = .ok (.iload_n 3, 1) := by decide +kernel
theorem dX7_told_3 : decode cX7_told 3 = .ok (.invokevirtual 112, 3) := by decide +kernel
theorem dX7_told_6 : decode cX7_told 6 = .ok (.ifCond .ne 5, 3) := by decide +kernel
theorem dX7_told_9 : decode cX7_told 9 = .ok (.iconst 0, 1) := by decide +kernel
theorem dX7_told_10 : decode cX7_told 10 = .ok (.ireturn, 1) := by decide +kernel
theorem dX7_told_11 : decode cX7_told 11 = .ok (.aload_n 0, 1) := by decide +kernel
theorem dX7_told_12 : decode cX7_told 12 = .ok (.getfield 77, 3) := by decide +kernel
theorem dX7_told_15 : decode cX7_told 15 = .ok (.iload_n 1, 1) := by decide +kernel
theorem dX7_told_16 : decode cX7_told 16 = .ok (.aload_n 0, 1) := by decide +kernel
theorem dX7_told_17 : decode cX7_told 17 = .ok (.getfield 106, 3) := by decide +kernel
theorem dX7_told_20 : decode cX7_told 20 = .ok (.iastore, 1) := by decide +kernel
theorem dX7_told_21 : decode cX7_told 21 = .ok (.iconst 1, 1) := by decide +kernel
theorem dX7_told_22 : decode cX7_told 22 = .ok (.ireturn, 1) := by decide +kernel
set_option maxRecDepth 20000 in
theorem ggX7_readEnd_X7_bad : GoodIn wsX7_readEnd wsX7_bad := goodIn_r _ [6, 1, 7, 8, 9, 31, 32, 33, 34, 35, 36, 37, 38, 39, 40, 41, 42, 43, 44, 45, 46, 47, 48, 49, 50, 51, 52, 53] (by decide +kernel) (by decide +kernel)
set_option maxRecDepth 20000 in
theorem gX7_readEnd_X7_bad : GoodIn wsX7_readEnd (wsV RX7 99 RX7 yX7_bad wsX7_bad) := goodIn_app (goodIn_of _ (by decide +kernel)) ggX7_readEnd_X7_bad
set_option maxRecDepth 20000 in
theorem ggX7_readEnd_X7_go : GoodIn wsX7_readEnd wsX7_go := goodIn_r _ [13, 14, 15, 16, 8, 1, 17, 18, 19, 20, 21, 22, 5, 23, 24, 25, 26, 27, 28, 29, 30, 31, 32, 33, 34, 35, 36, 37, 38, 39, 40, 41, 42, 43, 44, 45, 46, 47, 48, 49, 50, 51, 52, 53] (by decide +kernel) (by decide +kernel)
set_option maxRecDepth 20000 in
theorem gX7_readEnd_X7_go : GoodIn wsX7_readEnd (wsV RX7 109 RX7 yX7_go wsX7_go) := goodIn_app (goodIn_of _ (by decide +kernel)) ggX7_readEnd_X7_go
theorem dX7_readEnd_0 : decode cX7_readEnd 0 = .ok (.aload_n 0, 1) := by decide +kernel
theorem dX7_readEnd_1 : decode cX7_readEnd 1 = .ok (.getfield 27, 3) := by decide +kernel
theorem dX7_readEnd_4 : decode cX7_readEnd 4 = .ok (.iconst 4, 1) := by decide +kernel
theorem dX7_readEnd_5 : decode cX7_readEnd 5 = .ok (.if_icmp .eq 9, 3) := by decide +kernel
theorem dX7_readEnd_8 : decode cX7_readEnd 8 = .ok (.aload_n 0, 1) := by decide +kernel
theorem dX7_readEnd_9 : decode cX7_readEnd 9 = .ok (.iconst 1, 1) := by decide +kernel
theorem dX7_readEnd_10 : decode cX7_readEnd 10 = .ok (.invokevirtual 99, 3) := by decide +kernel
theorem dX7_readEnd_13 : decode cX7_readEnd 13 = .ok (.ireturn, 1) := by decide +kernel
theorem dX7_readEnd_14 : decode cX7_readEnd 14 = .ok (.aload_n 0, 1) := by decide +kernel
theorem dX7_readEnd_15 : decode cX7_readEnd 15 = .ok (.invokevirtual 109, 3) := by decide +kernel
theorem dX7_readEnd_18 : decode cX7_readEnd 18 = .ok (.iconst 1, 1) := by decide +kernel
theorem dX7_readEnd_19 : decode cX7_readEnd 19 = .ok (.ireturn, 1) := by decide +kernel
set_option maxRecDepth 20000 in
theorem ggX7_readPosts_X7_five : GoodIn wsX7_readPosts wsX7_five := goodIn_r _ [4, 5, 6, 7, 8, 3, 9, 10, 11, 12, 13] (by decide +kernel) (by decide +kernel)
set_option maxRecDepth 20000 in
theorem gX7_readPosts_X7_five : GoodIn wsX7_readPosts (va_wsS RX7 116 yX7_five wsX7_five) := goodIn_app (goodIn_of _ (by decide +kernel)) ggX7_readPosts_X7_five
set_option maxRecDepth 20000 in
theorem ggX7_readPosts_X7_isWord : GoodIn wsX7_readPosts wsX7_isWord := goodIn_r _ [17, 18, 19, 62, 63, 64, 65, 66, 67, 68, 69, 70, 71, 72, 73, 74, 75, 76, 77, 78, 79, 80, 81, 82, 83, 84] (by decide +kernel) (by decide +kernel)
set_option maxRecDepth 20000 in
theorem gX7_readPosts_X7_isWord : GoodIn wsX7_readPosts (wsV RX7 120 RX7 yX7_isWord wsX7_isWord) := goodIn_app (goodIn_of _ (by decide +kernel)) ggX7_readPosts_X7_isWord
set_option maxRecDepth 20000 in
theorem ggX7_readPosts_X7_bad : GoodIn wsX7_readPosts wsX7_bad := goodIn_r _ [23, 18, 24, 25, 26, 62, 63, 64, 65, 66, 67, 68, 69, 70, 71, 72, 73, 74, 75, 76, 77, 78, 79, 80, 81, 82, 83, 84] (by decide +kernel) (by decide +kernel)
set_option maxRecDepth 20000 in
theorem gX7_readPosts_X7_bad : GoodIn wsX7_readPosts (wsV RX7 99 RX7 yX7_bad wsX7_bad) := goodIn_app (goodIn_of _ (by decide +kernel)) ggX7_readPosts_X7_bad
set_option maxRecDepth 20000 in
theorem ggX7_readPosts_X7_go : GoodIn wsX7_readPosts wsX7_go := goodIn_r _ [30, 31, 32, 33, 25, 18, 19, 34, 5, 6, 35, 36, 3, 37, 38, 39, 40, 41, 42, 43, 44, 62, 63, 64, 65, 66, 67, 68, 69, 70, 71, 72, 73, 74, 75, 76, 77, 78, 79, 80, 81, 82, 83, 84] (by decide +kernel) (by decide +kernel)
set_option maxRecDepth 20000 in
theorem gX7_readPosts_X7_go : GoodIn wsX7_readPosts (wsV RX7 109 RX7 yX7_go wsX7_go) := goodIn_app (goodIn_of _ (by decide +kernel)) ggX7_readPosts_X7_go
set_option maxRecDepth 20000 in
theorem ggX7_readPosts_X7_told : GoodIn wsX7_readPosts wsX7_told := goodIn_r _ [48, 49, 50, 51, 52, 53, 3, 54, 18, 34, 20, 21, 22, 23, 24, 25, 26, 55, 56, 57, 27, 28, 29, 30, 31, 32, 33, 19, 5, 6, 35, 36, 37, 38, 39, 40, 41, 42, 43, 44, 62, 63, 64, 65, 66, 67, 68, 69, 70, 71, 72, 73, 74, 75, 76, 77, 78, 79, 80, 81, 82, 83, 84] (by decide +kernel) (by decide +kernel)
set_option maxRecDepth 20000 in
theorem gX7_readPosts_X7_told : GoodIn wsX7_readPosts (wsV RX7 124 RX7 yX7_told wsX7_told) := goodIn_app (goodIn_of _ (by decide +kernel)) ggX7_readPosts_X7_told
set_option maxRecDepth 20000 in
theorem ggX7_readPosts_X7_readEnd : GoodIn wsX7_readPosts wsX7_readEnd := goodIn_r _ [61, 18, 20, 21, 22, 3, 23, 24, 25, 26, 27, 28, 29, 30, 31, 32, 33, 19, 34, 5, 6, 35, 36, 37, 38, 39, 40, 41, 42, 43, 44, 62, 63, 64, 65, 66, 67, 68, 69, 70, 71, 72, 73, 74, 75, 76, 77, 78, 79, 80, 81, 82, 83, 84] (by decide +kernel) (by decide +kernel)
set_option maxRecDepth 20000 in
theorem gX7_readPosts_X7_readEnd : GoodIn wsX7_readPosts (wsV RX7 127 RX7 yX7_readEnd wsX7_readEnd) := goodIn_app (goodIn_of _ (by decide +kernel)) ggX7_readPosts_X7_readEnd
theorem dX7_readPosts_0 : decode cX7_readPosts 0 = .ok (.aload_n 0, 1) := by decide +kernel
theorem dX7_readPosts_1 : decode cX7_readPosts 1 = .ok (.bipush 112, 2) := by decide +kernel
theorem dX7_readPosts_3 : decode cX7_readPosts 3 = .ok (.bipush 111, 2) := by decide +kernel
theorem dX7_readPosts_5 : decode cX7_readPosts 5 = .ok (.bipush 115, 2) := by decide +kernel
theorem dX7_readPosts_7 : decode cX7_readPosts 7 = .ok (.bipush 116, 2) := by decide +kernel
theorem dX7_readPosts_9 : decode cX7_readPosts 9 = .ok (.bipush 115, 2) := by decide +kernel
theorem dX7_readPosts_11 : decode cX7_readPosts 11 = .ok (.invokestatic 116, 3) := by decide +kernel
theorem dX7_readPosts_14 : decode cX7_readPosts 14 = .ok (.invokevirtual 120, 3) := by decide +kernel
theorem dX7_readPosts_17 : decode cX7_readPosts 17 = .ok (.ifCond .ne 9, 3) := by decide +kernel
theorem dX7_readPosts_20 : decode cX7_readPosts 20 = .ok (.aload_n 0, 1) := by decide +kernel
theorem dX7_readPosts_21 : decode cX7_readPosts 21 = .ok (.iconst 1, 1) := by decide +kernel
theorem dX7_readPosts_22 : decode cX7_readPosts 22 = .ok (.invokevirtual 99, 3) := by decide +kernel
theorem dX7_readPosts_25 : decode cX7_readPosts 25 = .ok (.ireturn, 1) := by decide +kernel
theorem dX7_readPosts_26 : decode cX7_readPosts 26 = .ok (.aload_n 0, 1) := by decide +kernel
theorem dX7_readPosts_27 : decode cX7_readPosts 27 = .ok (.invokevirtual 109, 3) := by decide +kernel
theorem dX7_readPosts_30 : decode cX7_readPosts 30 = .ok (.aload_n 0, 1) := by decide +kernel
theorem dX7_readPosts_31 : decode cX7_readPosts 31 = .ok (.iconst 0, 1) := by decide +kernel
theorem dX7_readPosts_32 : decode cX7_readPosts 32 = .ok (.iconst 1, 1) := by decide +kernel
theorem dX7_readPosts_33 : decode cX7_readPosts 33 = .ok (.iconst 3, 1) := by decide +kernel
theorem dX7_readPosts_34 : decode cX7_readPosts 34 = .ok (.invokevirtual 124, 3) := by decide +kernel
theorem dX7_readPosts_37 : decode cX7_readPosts 37 = .ok (.ifCond .eq 24, 3) := by decide +kernel
theorem dX7_readPosts_40 : decode cX7_readPosts 40 = .ok (.aload_n 0, 1) := by decide +kernel
theorem dX7_readPosts_41 : decode cX7_readPosts 41 = .ok (.iconst 1, 1) := by decide +kernel
theorem dX7_readPosts_42 : decode cX7_readPosts 42 = .ok (.iconst 1, 1) := by decide +kernel
theorem dX7_readPosts_43 : decode cX7_readPosts 43 = .ok (.iconst 4, 1) := by decide +kernel
theorem dX7_readPosts_44 : decode cX7_readPosts 44 = .ok (.invokevirtual 124, 3) := by decide +kernel
theorem dX7_readPosts_47 : decode cX7_readPosts 47 = .ok (.ifCond .eq 14, 3) := by decide +kernel
theorem dX7_readPosts_50 : decode cX7_readPosts 50 = .ok (.aload_n 0, 1) := by decide +kernel
theorem dX7_readPosts_51 : decode cX7_readPosts 51 = .ok (.invokevirtual 127, 3) := by decide +kernel
theorem dX7_readPosts_54 : decode cX7_readPosts 54 = .ok (.ifCond .eq 7, 3) := by decide +kernel
theorem dX7_readPosts_57 : decode cX7_readPosts 57 = .ok (.iconst 1, 1) := by decide +kernel
theorem dX7_readPosts_58 : decode cX7_readPosts 58 = .ok (.goto 4, 3) := by decide +kernel
theorem dX7_readPosts_61 : decode cX7_readPosts 61 = .ok (.iconst 0, 1) := by decide +kernel
theorem dX7_readPosts_62 : decode cX7_readPosts 62 = .ok (.ireturn, 1) := by decide +kernel
set_option maxRecDepth 20000 in
theorem ggX7_readNeed_X7_bad : GoodIn wsX7_readNeed wsX7_bad := goodIn_r _ [8, 9, 10, 11, 12, 45, 46, 47, 48, 49, 50, 51, 52, 53, 54, 55, 56, 57, 58, 59, 60, 61, 62, 63, 64, 65, 66, 67] (by decide +kernel) (by decide +kernel)
set_option maxRecDepth 20000 in
theorem gX7_readNeed_X7_bad : GoodIn wsX7_readNeed (wsV RX7 99 RX7 yX7_bad wsX7_bad) := goodIn_app (goodIn_of _ (by decide +kernel)) ggX7_readNeed_X7_bad
set_option maxRecDepth 20000 in
theorem ggX7_readNeed_X7_go : GoodIn wsX7_readNeed wsX7_go := goodIn_r _ [16, 17, 18, 19, 11, 9, 20, 21, 22, 23, 24, 25, 7, 26, 27, 28, 29, 30, 31, 32, 33, 45, 46, 47, 48, 49, 50, 51, 52, 53, 54, 55, 56, 57, 58, 59, 60, 61, 62, 63, 64, 65, 66, 67] (by decide +kernel) (by decide +kernel)
set_option maxRecDepth 20000 in
theorem gX7_readNeed_X7_go : GoodIn wsX7_readNeed (wsV RX7 109 RX7 yX7_go wsX7_go) := goodIn_app (goodIn_of _ (by decide +kernel)) ggX7_readNeed_X7_go
set_option maxRecDepth 20000 in
theorem ggX7_readNeed_X7_takes : GoodIn wsX7_readNeed wsX7_takes := goodIn_r _ [37, 9, 21, 3, 4, 5, 6, 7, 8, 10, 11, 12, 38, 39, 40, 13, 14, 15, 16, 17, 18, 19, 20, 22, 23, 24, 25, 26, 27, 28, 29, 30, 31, 32, 33, 45, 46, 47, 48, 49, 50, 51, 52, 53, 54, 55, 56, 57, 58, 59, 60, 61, 62, 63, 64, 65, 66, 67] (by decide +kernel) (by decide +kernel)
set_option maxRecDepth 20000 in
theorem gX7_readNeed_X7_takes : GoodIn wsX7_readNeed (wsV RX7 112 RX7 yX7_takes wsX7_takes) := goodIn_app (goodIn_of _ (by decide +kernel)) ggX7_readNeed_X7_takes
set_option maxRecDepth 20000 in
theorem ggX7_readNeed_X7_readEnd : GoodIn wsX7_readNeed wsX7_readEnd := goodIn_r _ [44, 9, 4, 5, 6, 7, 8, 10, 11, 12, 13, 14, 15, 16, 17, 18, 19, 20, 21, 22, 23, 24, 25, 26, 27, 28, 29, 30, 31, 32, 33, 45, 46, 47, 48, 49, 50, 51, 52, 53, 54, 55, 56, 57, 58, 59, 60, 61, 62, 63, 64, 65, 66, 67] (by decide +kernel) (by decide +kernel)
set_option maxRecDepth 20000 in
theorem gX7_readNeed_X7_readEnd : GoodIn wsX7_readNeed (wsV RX7 127 RX7 yX7_readEnd wsX7_readEnd) := goodIn_app (goodIn_of _ (by decide +kernel)) ggX7_readNeed_X7_readEnd
theorem dX7_readNeed_0 : decode cX7_readNeed 0 = .ok (.aload_n 0, 1) := by decide +kernel
theorem dX7_readNeed_1 : decode cX7_readNeed 1 = .ok (.getfield 131, 3) := by decide +kernel
theorem dX7_readNeed_4 : decode cX7_readNeed 4 = .ok (.bipush 10, 2) := by decide +kernel
theorem dX7_readNeed_6 : decode cX7_readNeed 6 = .ok (.if_icmp .ne 9, 3) := by decide +kernel
theorem dX7_readNeed_9 : decode cX7_readNeed 9 = .ok (.aload_n 0, 1) := by decide +kernel
theorem dX7_readNeed_10 : decode cX7_readNeed 10 = .ok (.iconst 3, 1) := by decide +kernel
theorem dX7_readNeed_11 : decode cX7_readNeed 11 = .ok (.invokevirtual 99, 3) := by decide +kernel
theorem dX7_readNeed_14 : decode cX7_readNeed 14 = .ok (.ireturn, 1) := by decide +kernel
theorem dX7_readNeed_15 : decode cX7_readNeed 15 = .ok (.aload_n 0, 1) := by decide +kernel
theorem dX7_readNeed_16 : decode cX7_readNeed 16 = .ok (.invokevirtual 109, 3) := by decide +kernel
theorem dX7_readNeed_19 : decode cX7_readNeed 19 = .ok (.aload_n 0, 1) := by decide +kernel
theorem dX7_readNeed_20 : decode cX7_readNeed 20 = .ok (.iconst 0, 1) := by decide +kernel
theorem dX7_readNeed_21 : decode cX7_readNeed 21 = .ok (.aload_n 0, 1) := by decide +kernel
theorem dX7_readNeed_22 : decode cX7_readNeed 22 = .ok (.getfield 77, 3) := by decide +kernel
theorem dX7_readNeed_25 : decode cX7_readNeed 25 = .ok (.iconst 0, 1) := by decide +kernel
theorem dX7_readNeed_26 : decode cX7_readNeed 26 = .ok (.iaload, 1) := by decide +kernel
theorem dX7_readNeed_27 : decode cX7_readNeed 27 = .ok (.iconst 1, 1) := by decide +kernel
theorem dX7_readNeed_28 : decode cX7_readNeed 28 = .ok (.isub, 1) := by decide +kernel
theorem dX7_readNeed_29 : decode cX7_readNeed 29 = .ok (.invokevirtual 112, 3) := by decide +kernel
theorem dX7_readNeed_32 : decode cX7_readNeed 32 = .ok (.ifCond .ne 5, 3) := by decide +kernel
theorem dX7_readNeed_35 : decode cX7_readNeed 35 = .ok (.iconst 0, 1) := by decide +kernel
theorem dX7_readNeed_36 : decode cX7_readNeed 36 = .ok (.ireturn, 1) := by decide +kernel
theorem dX7_readNeed_37 : decode cX7_readNeed 37 = .ok (.aload_n 0, 1) := by decide +kernel
theorem dX7_readNeed_38 : decode cX7_readNeed 38 = .ok (.getfield 106, 3) := by decide +kernel
theorem dX7_readNeed_41 : decode cX7_readNeed 41 = .ok (.istore_n 1, 1) := by decide +kernel
theorem dX7_readNeed_42 : decode cX7_readNeed 42 = .ok (.aload_n 0, 1) := by decide +kernel
theorem dX7_readNeed_43 : decode cX7_readNeed 43 = .ok (.iconst 0, 1) := by decide +kernel
theorem dX7_readNeed_44 : decode cX7_readNeed 44 = .ok (.bipush 47, 2) := by decide +kernel
theorem dX7_readNeed_46 : decode cX7_readNeed 46 = .ok (.invokevirtual 112, 3) := by decide +kernel
theorem dX7_readNeed_49 : decode cX7_readNeed 49 = .ok (.ifCond .ne 5, 3) := by decide +kernel
theorem dX7_readNeed_52 : decode cX7_readNeed 52 = .ok (.iconst 0, 1) := by decide +kernel
theorem dX7_readNeed_53 : decode cX7_readNeed 53 = .ok (.ireturn, 1) := by decide +kernel
theorem dX7_readNeed_54 : decode cX7_readNeed 54 = .ok (.aload_n 0, 1) := by decide +kernel
theorem dX7_readNeed_55 : decode cX7_readNeed 55 = .ok (.getfield 106, 3) := by decide +kernel
theorem dX7_readNeed_58 : decode cX7_readNeed 58 = .ok (.istore_n 2, 1) := by decide +kernel
theorem dX7_readNeed_59 : decode cX7_readNeed 59 = .ok (.aload_n 0, 1) := by decide +kernel
theorem dX7_readNeed_60 : decode cX7_readNeed 60 = .ok (.iload_n 2, 1) := by decide +kernel
theorem dX7_readNeed_61 : decode cX7_readNeed 61 = .ok (.bipush 47, 2) := by decide +kernel
theorem dX7_readNeed_63 : decode cX7_readNeed 63 = .ok (.invokevirtual 112, 3) := by decide +kernel
theorem dX7_readNeed_66 : decode cX7_readNeed 66 = .ok (.ifCond .ne 5, 3) := by decide +kernel
theorem dX7_readNeed_69 : decode cX7_readNeed 69 = .ok (.iconst 0, 1) := by decide +kernel
theorem dX7_readNeed_70 : decode cX7_readNeed 70 = .ok (.ireturn, 1) := by decide +kernel
theorem dX7_readNeed_71 : decode cX7_readNeed 71 = .ok (.aload_n 0, 1) := by decide +kernel
theorem dX7_readNeed_72 : decode cX7_readNeed 72 = .ok (.getfield 106, 3) := by decide +kernel
theorem dX7_readNeed_75 : decode cX7_readNeed 75 = .ok (.istore_n 3, 1) := by decide +kernel
theorem dX7_readNeed_76 : decode cX7_readNeed 76 = .ok (.aload_n 0, 1) := by decide +kernel
theorem dX7_readNeed_77 : decode cX7_readNeed 77 = .ok (.iconst 0, 1) := by decide +kernel
theorem dX7_readNeed_78 : decode cX7_readNeed 78 = .ok (.bipush 9, 2) := by decide +kernel
theorem dX7_readNeed_80 : decode cX7_readNeed 80 = .ok (.invokevirtual 112, 3) := by decide +kernel
theorem dX7_readNeed_83 : decode cX7_readNeed 83 = .ok (.ifCond .ne 5, 3) := by decide +kernel
theorem dX7_readNeed_86 : decode cX7_readNeed 86 = .ok (.iconst 0, 1) := by decide +kernel
theorem dX7_readNeed_87 : decode cX7_readNeed 87 = .ok (.ireturn, 1) := by decide +kernel
theorem dX7_readNeed_88 : decode cX7_readNeed 88 = .ok (.iload_n 2, 1) := by decide +kernel
theorem dX7_readNeed_89 : decode cX7_readNeed 89 = .ok (.istore 4, 2) := by decide +kernel
theorem dX7_readNeed_91 : decode cX7_readNeed 91 = .ok (.iload 4, 2) := by decide +kernel
theorem dX7_readNeed_93 : decode cX7_readNeed 93 = .ok (.iload_n 3, 1) := by decide +kernel
theorem dX7_readNeed_94 : decode cX7_readNeed 94 = .ok (.if_icmp .gt 30, 3) := by decide +kernel
theorem dX7_readNeed_97 : decode cX7_readNeed 97 = .ok (.aload_n 0, 1) := by decide +kernel
theorem dX7_readNeed_98 : decode cX7_readNeed 98 = .ok (.getfield 77, 3) := by decide +kernel
theorem dX7_readNeed_101 : decode cX7_readNeed 101 = .ok (.iconst 4, 1) := by decide +kernel
theorem dX7_readNeed_102 : decode cX7_readNeed 102 = .ok (.bipush 48, 2) := by decide +kernel
theorem dX7_readNeed_104 : decode cX7_readNeed 104 = .ok (.iload_n 1, 1) := by decide +kernel
theorem dX7_readNeed_105 : decode cX7_readNeed 105 = .ok (.imul, 1) := by decide +kernel
theorem dX7_readNeed_106 : decode cX7_readNeed 106 = .ok (.iadd, 1) := by decide +kernel
theorem dX7_readNeed_107 : decode cX7_readNeed 107 = .ok (.iload 4, 2) := by decide +kernel
theorem dX7_readNeed_109 : decode cX7_readNeed 109 = .ok (.iadd, 1) := by decide +kernel
theorem dX7_readNeed_110 : decode cX7_readNeed 110 = .ok (.dup2, 1) := by decide +kernel
theorem dX7_readNeed_111 : decode cX7_readNeed 111 = .ok (.iaload, 1) := by decide +kernel
theorem dX7_readNeed_112 : decode cX7_readNeed 112 = .ok (.aload_n 0, 1) := by decide +kernel
theorem dX7_readNeed_113 : decode cX7_readNeed 113 = .ok (.getfield 106, 3) := by decide +kernel
theorem dX7_readNeed_116 : decode cX7_readNeed 116 = .ok (.iadd, 1) := by decide +kernel
theorem dX7_readNeed_117 : decode cX7_readNeed 117 = .ok (.iastore, 1) := by decide +kernel
theorem dX7_readNeed_118 : decode cX7_readNeed 118 = .ok (.iinc 4 1, 3) := by decide +kernel
theorem dX7_readNeed_121 : decode cX7_readNeed 121 = .ok (.goto (-30), 3) := by decide +kernel
theorem dX7_readNeed_124 : decode cX7_readNeed 124 = .ok (.aload_n 0, 1) := by decide +kernel
theorem dX7_readNeed_125 : decode cX7_readNeed 125 = .ok (.dup, 1) := by decide +kernel
theorem dX7_readNeed_126 : decode cX7_readNeed 126 = .ok (.getfield 131, 3) := by decide +kernel
theorem dX7_readNeed_129 : decode cX7_readNeed 129 = .ok (.iconst 1, 1) := by decide +kernel
theorem dX7_readNeed_130 : decode cX7_readNeed 130 = .ok (.iadd, 1) := by decide +kernel
theorem dX7_readNeed_131 : decode cX7_readNeed 131 = .ok (.putfield 131, 3) := by decide +kernel
theorem dX7_readNeed_134 : decode cX7_readNeed 134 = .ok (.aload_n 0, 1) := by decide +kernel
theorem dX7_readNeed_135 : decode cX7_readNeed 135 = .ok (.invokevirtual 127, 3) := by decide +kernel
theorem dX7_readNeed_138 : decode cX7_readNeed 138 = .ok (.ireturn, 1) := by decide +kernel
set_option maxRecDepth 20000 in
theorem ggX7_readPause_X7_bad : GoodIn wsX7_readPause wsX7_bad := goodIn_r _ [6, 7, 8, 9, 10, 44, 45, 46, 47, 48, 49, 50, 51, 52, 53, 54, 55, 56, 57, 58, 59, 60, 61, 62, 63, 64, 65, 66] (by decide +kernel) (by decide +kernel)
set_option maxRecDepth 20000 in
theorem gX7_readPause_X7_bad : GoodIn wsX7_readPause (wsV RX7 99 RX7 yX7_bad wsX7_bad) := goodIn_app (goodIn_of _ (by decide +kernel)) ggX7_readPause_X7_bad
set_option maxRecDepth 20000 in
theorem ggX7_readPause_X7_go : GoodIn wsX7_readPause wsX7_go := goodIn_r _ [14, 15, 16, 17, 9, 7, 18, 19, 20, 21, 22, 23, 5, 24, 25, 26, 27, 28, 29, 30, 31, 44, 45, 46, 47, 48, 49, 50, 51, 52, 53, 54, 55, 56, 57, 58, 59, 60, 61, 62, 63, 64, 65, 66] (by decide +kernel) (by decide +kernel)
set_option maxRecDepth 20000 in
theorem gX7_readPause_X7_go : GoodIn wsX7_readPause (wsV RX7 109 RX7 yX7_go wsX7_go) := goodIn_app (goodIn_of _ (by decide +kernel)) ggX7_readPause_X7_go
set_option maxRecDepth 20000 in
theorem ggX7_readPause_X7_told : GoodIn wsX7_readPause wsX7_told := goodIn_r _ [35, 1, 36, 37, 38, 39, 5, 40, 7, 19, 2, 3, 4, 6, 8, 9, 10, 41, 42, 43, 11, 12, 13, 14, 15, 16, 17, 18, 20, 21, 22, 23, 24, 25, 26, 27, 28, 29, 30, 31, 44, 45, 46, 47, 48, 49, 50, 51, 52, 53, 54, 55, 56, 57, 58, 59, 60, 61, 62, 63, 64, 65, 66] (by decide +kernel) (by decide +kernel)
set_option maxRecDepth 20000 in
theorem gX7_readPause_X7_told : GoodIn wsX7_readPause (wsV RX7 124 RX7 yX7_told wsX7_told) := goodIn_app (goodIn_of _ (by decide +kernel)) ggX7_readPause_X7_told
theorem dX7_readPause_0 : decode cX7_readPause 0 = .ok (.aload_n 0, 1) := by decide +kernel
theorem dX7_readPause_1 : decode cX7_readPause 1 = .ok (.getfield 77, 3) := by decide +kernel
theorem dX7_readPause_4 : decode cX7_readPause 4 = .ok (.iload_n 1, 1) := by decide +kernel
theorem dX7_readPause_5 : decode cX7_readPause 5 = .ok (.iconst 3, 1) := by decide +kernel
theorem dX7_readPause_6 : decode cX7_readPause 6 = .ok (.iadd, 1) := by decide +kernel
theorem dX7_readPause_7 : decode cX7_readPause 7 = .ok (.iaload, 1) := by decide +kernel
theorem dX7_readPause_8 : decode cX7_readPause 8 = .ok (.iconst 3, 1) := by decide +kernel
theorem dX7_readPause_9 : decode cX7_readPause 9 = .ok (.if_icmp .ne 9, 3) := by decide +kernel
theorem dX7_readPause_12 : decode cX7_readPause 12 = .ok (.aload_n 0, 1) := by decide +kernel
theorem dX7_readPause_13 : decode cX7_readPause 13 = .ok (.iconst 3, 1) := by decide +kernel
theorem dX7_readPause_14 : decode cX7_readPause 14 = .ok (.invokevirtual 99, 3) := by decide +kernel
theorem dX7_readPause_17 : decode cX7_readPause 17 = .ok (.ireturn, 1) := by decide +kernel
theorem dX7_readPause_18 : decode cX7_readPause 18 = .ok (.aload_n 0, 1) := by decide +kernel
theorem dX7_readPause_19 : decode cX7_readPause 19 = .ok (.invokevirtual 109, 3) := by decide +kernel
theorem dX7_readPause_22 : decode cX7_readPause 22 = .ok (.sipush 188, 3) := by decide +kernel
theorem dX7_readPause_25 : decode cX7_readPause 25 = .ok (.iconst 5, 1) := by decide +kernel
theorem dX7_readPause_26 : decode cX7_readPause 26 = .ok (.aload_n 0, 1) := by decide +kernel
theorem dX7_readPause_27 : decode cX7_readPause 27 = .ok (.getfield 77, 3) := by decide +kernel
theorem dX7_readPause_30 : decode cX7_readPause 30 = .ok (.iconst 3, 1) := by decide +kernel
theorem dX7_readPause_31 : decode cX7_readPause 31 = .ok (.iaload, 1) := by decide +kernel
theorem dX7_readPause_32 : decode cX7_readPause 32 = .ok (.imul, 1) := by decide +kernel
theorem dX7_readPause_33 : decode cX7_readPause 33 = .ok (.iadd, 1) := by decide +kernel
theorem dX7_readPause_34 : decode cX7_readPause 34 = .ok (.istore_n 2, 1) := by decide +kernel
theorem dX7_readPause_35 : decode cX7_readPause 35 = .ok (.aload_n 0, 1) := by decide +kernel
theorem dX7_readPause_36 : decode cX7_readPause 36 = .ok (.iload_n 2, 1) := by decide +kernel
theorem dX7_readPause_37 : decode cX7_readPause 37 = .ok (.iconst 1, 1) := by decide +kernel
theorem dX7_readPause_38 : decode cX7_readPause 38 = .ok (.iadd, 1) := by decide +kernel
theorem dX7_readPause_39 : decode cX7_readPause 39 = .ok (.iconst 1, 1) := by decide +kernel
theorem dX7_readPause_40 : decode cX7_readPause 40 = .ok (.iconst 4, 1) := by decide +kernel
theorem dX7_readPause_41 : decode cX7_readPause 41 = .ok (.invokevirtual 124, 3) := by decide +kernel
theorem dX7_readPause_44 : decode cX7_readPause 44 = .ok (.ifCond .eq 66, 3) := by decide +kernel
theorem dX7_readPause_47 : decode cX7_readPause 47 = .ok (.aload_n 0, 1) := by decide +kernel
theorem dX7_readPause_48 : decode cX7_readPause 48 = .ok (.iload_n 2, 1) := by decide +kernel
theorem dX7_readPause_49 : decode cX7_readPause 49 = .ok (.iconst 2, 1) := by decide +kernel
theorem dX7_readPause_50 : decode cX7_readPause 50 = .ok (.iadd, 1) := by decide +kernel
theorem dX7_readPause_51 : decode cX7_readPause 51 = .ok (.aload_n 0, 1) := by decide +kernel
theorem dX7_readPause_52 : decode cX7_readPause 52 = .ok (.getfield 77, 3) := by decide +kernel
theorem dX7_readPause_55 : decode cX7_readPause 55 = .ok (.iload_n 1, 1) := by decide +kernel
theorem dX7_readPause_56 : decode cX7_readPause 56 = .ok (.iconst 1, 1) := by decide +kernel
theorem dX7_readPause_57 : decode cX7_readPause 57 = .ok (.iadd, 1) := by decide +kernel
theorem dX7_readPause_58 : decode cX7_readPause 58 = .ok (.iaload, 1) := by decide +kernel
theorem dX7_readPause_59 : decode cX7_readPause 59 = .ok (.aload_n 0, 1) := by decide +kernel
theorem dX7_readPause_60 : decode cX7_readPause 60 = .ok (.getfield 77, 3) := by decide +kernel
theorem dX7_readPause_63 : decode cX7_readPause 63 = .ok (.iload_n 1, 1) := by decide +kernel
theorem dX7_readPause_64 : decode cX7_readPause 64 = .ok (.iconst 2, 1) := by decide +kernel
theorem dX7_readPause_65 : decode cX7_readPause 65 = .ok (.iadd, 1) := by decide +kernel
theorem dX7_readPause_66 : decode cX7_readPause 66 = .ok (.iaload, 1) := by decide +kernel
theorem dX7_readPause_67 : decode cX7_readPause 67 = .ok (.invokevirtual 124, 3) := by decide +kernel
theorem dX7_readPause_70 : decode cX7_readPause 70 = .ok (.ifCond .eq 40, 3) := by decide +kernel
theorem dX7_readPause_73 : decode cX7_readPause 73 = .ok (.aload_n 0, 1) := by decide +kernel
theorem dX7_readPause_74 : decode cX7_readPause 74 = .ok (.iload_n 2, 1) := by decide +kernel
theorem dX7_readPause_75 : decode cX7_readPause 75 = .ok (.iconst 3, 1) := by decide +kernel
theorem dX7_readPause_76 : decode cX7_readPause 76 = .ok (.iadd, 1) := by decide +kernel
theorem dX7_readPause_77 : decode cX7_readPause 77 = .ok (.aload_n 0, 1) := by decide +kernel
theorem dX7_readPause_78 : decode cX7_readPause 78 = .ok (.getfield 77, 3) := by decide +kernel
theorem dX7_readPause_81 : decode cX7_readPause 81 = .ok (.iload_n 2, 1) := by decide +kernel
theorem dX7_readPause_82 : decode cX7_readPause 82 = .ok (.iconst 2, 1) := by decide +kernel
theorem dX7_readPause_83 : decode cX7_readPause 83 = .ok (.iadd, 1) := by decide +kernel
theorem dX7_readPause_84 : decode cX7_readPause 84 = .ok (.iaload, 1) := by decide +kernel
theorem dX7_readPause_85 : decode cX7_readPause 85 = .ok (.aload_n 0, 1) := by decide +kernel
theorem dX7_readPause_86 : decode cX7_readPause 86 = .ok (.getfield 77, 3) := by decide +kernel
theorem dX7_readPause_89 : decode cX7_readPause 89 = .ok (.iload_n 1, 1) := by decide +kernel
theorem dX7_readPause_90 : decode cX7_readPause 90 = .ok (.iconst 2, 1) := by decide +kernel
theorem dX7_readPause_91 : decode cX7_readPause 91 = .ok (.iadd, 1) := by decide +kernel
theorem dX7_readPause_92 : decode cX7_readPause 92 = .ok (.iaload, 1) := by decide +kernel
theorem dX7_readPause_93 : decode cX7_readPause 93 = .ok (.aload_n 0, 1) := by decide +kernel
theorem dX7_readPause_94 : decode cX7_readPause 94 = .ok (.getfield 77, 3) := by decide +kernel
theorem dX7_readPause_97 : decode cX7_readPause 97 = .ok (.iload_n 2, 1) := by decide +kernel
theorem dX7_readPause_98 : decode cX7_readPause 98 = .ok (.iconst 1, 1) := by decide +kernel
theorem dX7_readPause_99 : decode cX7_readPause 99 = .ok (.iadd, 1) := by decide +kernel
theorem dX7_readPause_100 : decode cX7_readPause 100 = .ok (.iaload, 1) := by decide +kernel
theorem dX7_readPause_101 : decode cX7_readPause 101 = .ok (.isub, 1) := by decide +kernel
theorem dX7_readPause_102 : decode cX7_readPause 102 = .ok (.iconst 1, 1) := by decide +kernel
theorem dX7_readPause_103 : decode cX7_readPause 103 = .ok (.iadd, 1) := by decide +kernel
theorem dX7_readPause_104 : decode cX7_readPause 104 = .ok (.invokevirtual 124, 3) := by decide +kernel
theorem dX7_readPause_107 : decode cX7_readPause 107 = .ok (.ifCond .ne 5, 3) := by decide +kernel
theorem dX7_readPause_110 : decode cX7_readPause 110 = .ok (.iconst 0, 1) := by decide +kernel
theorem dX7_readPause_111 : decode cX7_readPause 111 = .ok (.ireturn, 1) := by decide +kernel
theorem dX7_readPause_112 : decode cX7_readPause 112 = .ok (.aload_n 0, 1) := by decide +kernel
theorem dX7_readPause_113 : decode cX7_readPause 113 = .ok (.getfield 77, 3) := by decide +kernel
theorem dX7_readPause_116 : decode cX7_readPause 116 = .ok (.iload_n 2, 1) := by decide +kernel
theorem dX7_readPause_117 : decode cX7_readPause 117 = .ok (.iconst 0, 1) := by decide +kernel
theorem dX7_readPause_118 : decode cX7_readPause 118 = .ok (.iadd, 1) := by decide +kernel
theorem dX7_readPause_119 : decode cX7_readPause 119 = .ok (.aload_n 0, 1) := by decide +kernel
theorem dX7_readPause_120 : decode cX7_readPause 120 = .ok (.getfield 77, 3) := by decide +kernel
theorem dX7_readPause_123 : decode cX7_readPause 123 = .ok (.iconst 2, 1) := by decide +kernel
theorem dX7_readPause_124 : decode cX7_readPause 124 = .ok (.iaload, 1) := by decide +kernel
theorem dX7_readPause_125 : decode cX7_readPause 125 = .ok (.iastore, 1) := by decide +kernel
theorem dX7_readPause_126 : decode cX7_readPause 126 = .ok (.aload_n 0, 1) := by decide +kernel
theorem dX7_readPause_127 : decode cX7_readPause 127 = .ok (.getfield 77, 3) := by decide +kernel
theorem dX7_readPause_130 : decode cX7_readPause 130 = .ok (.iload_n 1, 1) := by decide +kernel
theorem dX7_readPause_131 : decode cX7_readPause 131 = .ok (.iconst 3, 1) := by decide +kernel
theorem dX7_readPause_132 : decode cX7_readPause 132 = .ok (.iadd, 1) := by decide +kernel
theorem dX7_readPause_133 : decode cX7_readPause 133 = .ok (.dup2, 1) := by decide +kernel
theorem dX7_readPause_134 : decode cX7_readPause 134 = .ok (.iaload, 1) := by decide +kernel
theorem dX7_readPause_135 : decode cX7_readPause 135 = .ok (.iconst 1, 1) := by decide +kernel
theorem dX7_readPause_136 : decode cX7_readPause 136 = .ok (.iadd, 1) := by decide +kernel
theorem dX7_readPause_137 : decode cX7_readPause 137 = .ok (.iastore, 1) := by decide +kernel
theorem dX7_readPause_138 : decode cX7_readPause 138 = .ok (.aload_n 0, 1) := by decide +kernel
theorem dX7_readPause_139 : decode cX7_readPause 139 = .ok (.getfield 77, 3) := by decide +kernel
theorem dX7_readPause_142 : decode cX7_readPause 142 = .ok (.iconst 3, 1) := by decide +kernel
theorem dX7_readPause_143 : decode cX7_readPause 143 = .ok (.dup2, 1) := by decide +kernel
theorem dX7_readPause_144 : decode cX7_readPause 144 = .ok (.iaload, 1) := by decide +kernel
theorem dX7_readPause_145 : decode cX7_readPause 145 = .ok (.iconst 1, 1) := by decide +kernel
theorem dX7_readPause_146 : decode cX7_readPause 146 = .ok (.iadd, 1) := by decide +kernel
theorem dX7_readPause_147 : decode cX7_readPause 147 = .ok (.iastore, 1) := by decide +kernel
theorem dX7_readPause_148 : decode cX7_readPause 148 = .ok (.iconst 1, 1) := by decide +kernel
theorem dX7_readPause_149 : decode cX7_readPause 149 = .ok (.ireturn, 1) := by decide +kernel
set_option maxRecDepth 20000 in
theorem ggX7_readShift_X7_bad : GoodIn wsX7_readShift wsX7_bad := goodIn_r _ [6, 7, 8, 9, 10, 66, 67, 68, 69, 70, 71, 72, 73, 74, 75, 76, 77, 78, 79, 80, 81, 82, 83, 84, 85, 86, 87, 88] (by decide +kernel) (by decide +kernel)
set_option maxRecDepth 20000 in
theorem gX7_readShift_X7_bad : GoodIn wsX7_readShift (wsV RX7 99 RX7 yX7_bad wsX7_bad) := goodIn_app (goodIn_of _ (by decide +kernel)) ggX7_readShift_X7_bad
set_option maxRecDepth 20000 in
theorem ggX7_readShift_X7_go : GoodIn wsX7_readShift wsX7_go := goodIn_r _ [14, 15, 16, 17, 9, 7, 18, 19, 20, 21, 22, 23, 5, 24, 25, 26, 27, 28, 29, 30, 31, 66, 67, 68, 69, 70, 71, 72, 73, 74, 75, 76, 77, 78, 79, 80, 81, 82, 83, 84, 85, 86, 87, 88] (by decide +kernel) (by decide +kernel)
set_option maxRecDepth 20000 in
theorem gX7_readShift_X7_go : GoodIn wsX7_readShift (wsV RX7 109 RX7 yX7_go wsX7_go) := goodIn_app (goodIn_of _ (by decide +kernel)) ggX7_readShift_X7_go
set_option maxRecDepth 20000 in
theorem ggX7_readShift_X7_told : GoodIn wsX7_readShift wsX7_told := goodIn_r _ [35, 1, 36, 37, 38, 39, 5, 40, 7, 19, 2, 3, 4, 6, 8, 9, 10, 41, 42, 43, 11, 12, 13, 14, 15, 16, 17, 18, 20, 21, 22, 23, 24, 25, 26, 27, 28, 29, 30, 31, 66, 67, 68, 69, 70, 71, 72, 73, 74, 75, 76, 77, 78, 79, 80, 81, 82, 83, 84, 85, 86, 87, 88] (by decide +kernel) (by decide +kernel)
set_option maxRecDepth 20000 in
theorem gX7_readShift_X7_told : GoodIn wsX7_readShift (wsV RX7 124 RX7 yX7_told wsX7_told) := goodIn_app (goodIn_of _ (by decide +kernel)) ggX7_readShift_X7_told
set_option maxRecDepth 20000 in
theorem ggX7_readShift_X7_five : GoodIn wsX7_readShift wsX7_five := goodIn_r _ [46, 20, 21, 47, 48, 5, 49, 50, 51, 52, 53] (by decide +kernel) (by decide +kernel)
set_option maxRecDepth 20000 in
theorem gX7_readShift_X7_five : GoodIn wsX7_readShift (va_wsS RX7 116 yX7_five wsX7_five) := goodIn_app (goodIn_of _ (by decide +kernel)) ggX7_readShift_X7_five
set_option maxRecDepth 20000 in
theorem ggX7_readShift_X7_isWord : GoodIn wsX7_readShift wsX7_isWord := goodIn_r _ [57, 7, 18, 66, 67, 68, 69, 70, 71, 72, 73, 74, 75, 76, 77, 78, 79, 80, 81, 82, 83, 84, 85, 86, 87, 88] (by decide +kernel) (by decide +kernel)
set_option maxRecDepth 20000 in
theorem gX7_readShift_X7_isWord : GoodIn wsX7_readShift (wsV RX7 120 RX7 yX7_isWord wsX7_isWord) := goodIn_app (goodIn_of _ (by decide +kernel)) ggX7_readShift_X7_isWord
set_option maxRecDepth 20000 in
theorem ggX7_readShift_X7_readPause : GoodIn wsX7_readShift wsX7_readPause := goodIn_r _ [61, 1, 2, 3, 4, 5, 6, 7, 8, 9, 10, 11, 12, 13, 14, 15, 16, 17, 18, 19, 20, 21, 22, 23, 24, 25, 26, 27, 28, 29, 30, 31, 32, 33, 34, 35, 36, 37, 38, 39, 40, 41, 42, 43, 66, 67, 68, 69, 70, 71, 72, 73, 74, 75, 76, 77, 78, 79, 80, 81, 82, 83, 84, 85, 86, 87, 88] (by decide +kernel) (by decide +kernel)
set_option maxRecDepth 20000 in
theorem gX7_readShift_X7_readPause : GoodIn wsX7_readShift (wsV RX7 134 RX7 yX7_readPause wsX7_readPause) := goodIn_app (goodIn_of _ (by decide +kernel)) ggX7_readShift_X7_readPause
set_option maxRecDepth 20000 in
theorem ggX7_readShift_X7_readEnd : GoodIn wsX7_readShift wsX7_readEnd := goodIn_r _ [65, 7, 2, 3, 4, 5, 6, 8, 9, 10, 11, 12, 13, 14, 15, 16, 17, 18, 19, 20, 21, 22, 23, 24, 25, 26, 27, 28, 29, 30, 31, 66, 67, 68, 69, 70, 71, 72, 73, 74, 75, 76, 77, 78, 79, 80, 81, 82, 83, 84, 85, 86, 87, 88] (by decide +kernel) (by decide +kernel)
set_option maxRecDepth 20000 in
theorem gX7_readShift_X7_readEnd : GoodIn wsX7_readShift (wsV RX7 127 RX7 yX7_readEnd wsX7_readEnd) := goodIn_app (goodIn_of _ (by decide +kernel)) ggX7_readShift_X7_readEnd
theorem dX7_readShift_0 : decode cX7_readShift 0 = .ok (.aload_n 0, 1) := by decide +kernel
theorem dX7_readShift_1 : decode cX7_readShift 1 = .ok (.getfield 77, 3) := by decide +kernel
theorem dX7_readShift_4 : decode cX7_readShift 4 = .ok (.iconst 2, 1) := by decide +kernel
theorem dX7_readShift_5 : decode cX7_readShift 5 = .ok (.iaload, 1) := by decide +kernel
theorem dX7_readShift_6 : decode cX7_readShift 6 = .ok (.bipush 8, 2) := by decide +kernel
theorem dX7_readShift_8 : decode cX7_readShift 8 = .ok (.if_icmp .ne 9, 3) := by decide +kernel
theorem dX7_readShift_11 : decode cX7_readShift 11 = .ok (.aload_n 0, 1) := by decide +kernel
theorem dX7_readShift_12 : decode cX7_readShift 12 = .ok (.iconst 3, 1) := by decide +kernel
theorem dX7_readShift_13 : decode cX7_readShift 13 = .ok (.invokevirtual 99, 3) := by decide +kernel
theorem dX7_readShift_16 : decode cX7_readShift 16 = .ok (.ireturn, 1) := by decide +kernel
theorem dX7_readShift_17 : decode cX7_readShift 17 = .ok (.aload_n 0, 1) := by decide +kernel
theorem dX7_readShift_18 : decode cX7_readShift 18 = .ok (.invokevirtual 109, 3) := by decide +kernel
theorem dX7_readShift_21 : decode cX7_readShift 21 = .ok (.sipush 148, 3) := by decide +kernel
theorem dX7_readShift_24 : decode cX7_readShift 24 = .ok (.iconst 5, 1) := by decide +kernel
theorem dX7_readShift_25 : decode cX7_readShift 25 = .ok (.aload_n 0, 1) := by decide +kernel
theorem dX7_readShift_26 : decode cX7_readShift 26 = .ok (.getfield 77, 3) := by decide +kernel
theorem dX7_readShift_29 : decode cX7_readShift 29 = .ok (.iconst 2, 1) := by decide +kernel
theorem dX7_readShift_30 : decode cX7_readShift 30 = .ok (.iaload, 1) := by decide +kernel
theorem dX7_readShift_31 : decode cX7_readShift 31 = .ok (.imul, 1) := by decide +kernel
theorem dX7_readShift_32 : decode cX7_readShift 32 = .ok (.iadd, 1) := by decide +kernel
theorem dX7_readShift_33 : decode cX7_readShift 33 = .ok (.istore_n 1, 1) := by decide +kernel
theorem dX7_readShift_34 : decode cX7_readShift 34 = .ok (.aload_n 0, 1) := by decide +kernel
theorem dX7_readShift_35 : decode cX7_readShift 35 = .ok (.iload_n 1, 1) := by decide +kernel
theorem dX7_readShift_36 : decode cX7_readShift 36 = .ok (.iconst 0, 1) := by decide +kernel
theorem dX7_readShift_37 : decode cX7_readShift 37 = .ok (.iadd, 1) := by decide +kernel
theorem dX7_readShift_38 : decode cX7_readShift 38 = .ok (.iconst 0, 1) := by decide +kernel
theorem dX7_readShift_39 : decode cX7_readShift 39 = .ok (.aload_n 0, 1) := by decide +kernel
theorem dX7_readShift_40 : decode cX7_readShift 40 = .ok (.getfield 77, 3) := by decide +kernel
theorem dX7_readShift_43 : decode cX7_readShift 43 = .ok (.iconst 0, 1) := by decide +kernel
theorem dX7_readShift_44 : decode cX7_readShift 44 = .ok (.iaload, 1) := by decide +kernel
theorem dX7_readShift_45 : decode cX7_readShift 45 = .ok (.iconst 1, 1) := by decide +kernel
theorem dX7_readShift_46 : decode cX7_readShift 46 = .ok (.isub, 1) := by decide +kernel
theorem dX7_readShift_47 : decode cX7_readShift 47 = .ok (.invokevirtual 124, 3) := by decide +kernel
theorem dX7_readShift_50 : decode cX7_readShift 50 = .ok (.ifCond .eq 36, 3) := by decide +kernel
theorem dX7_readShift_53 : decode cX7_readShift 53 = .ok (.aload_n 0, 1) := by decide +kernel
theorem dX7_readShift_54 : decode cX7_readShift 54 = .ok (.iload_n 1, 1) := by decide +kernel
theorem dX7_readShift_55 : decode cX7_readShift 55 = .ok (.iconst 1, 1) := by decide +kernel
theorem dX7_readShift_56 : decode cX7_readShift 56 = .ok (.iadd, 1) := by decide +kernel
theorem dX7_readShift_57 : decode cX7_readShift 57 = .ok (.iconst 0, 1) := by decide +kernel
theorem dX7_readShift_58 : decode cX7_readShift 58 = .ok (.bipush 47, 2) := by decide +kernel
theorem dX7_readShift_60 : decode cX7_readShift 60 = .ok (.invokevirtual 124, 3) := by decide +kernel
theorem dX7_readShift_63 : decode cX7_readShift 63 = .ok (.ifCond .eq 23, 3) := by decide +kernel
theorem dX7_readShift_66 : decode cX7_readShift 66 = .ok (.aload_n 0, 1) := by decide +kernel
theorem dX7_readShift_67 : decode cX7_readShift 67 = .ok (.iload_n 1, 1) := by decide +kernel
theorem dX7_readShift_68 : decode cX7_readShift 68 = .ok (.iconst 2, 1) := by decide +kernel
theorem dX7_readShift_69 : decode cX7_readShift 69 = .ok (.iadd, 1) := by decide +kernel
theorem dX7_readShift_70 : decode cX7_readShift 70 = .ok (.aload_n 0, 1) := by decide +kernel
theorem dX7_readShift_71 : decode cX7_readShift 71 = .ok (.getfield 77, 3) := by decide +kernel
theorem dX7_readShift_74 : decode cX7_readShift 74 = .ok (.iload_n 1, 1) := by decide +kernel
theorem dX7_readShift_75 : decode cX7_readShift 75 = .ok (.iconst 1, 1) := by decide +kernel
theorem dX7_readShift_76 : decode cX7_readShift 76 = .ok (.iadd, 1) := by decide +kernel
theorem dX7_readShift_77 : decode cX7_readShift 77 = .ok (.iaload, 1) := by decide +kernel
theorem dX7_readShift_78 : decode cX7_readShift 78 = .ok (.bipush 47, 2) := by decide +kernel
theorem dX7_readShift_80 : decode cX7_readShift 80 = .ok (.invokevirtual 124, 3) := by decide +kernel
theorem dX7_readShift_83 : decode cX7_readShift 83 = .ok (.ifCond .ne 5, 3) := by decide +kernel
theorem dX7_readShift_86 : decode cX7_readShift 86 = .ok (.iconst 0, 1) := by decide +kernel
theorem dX7_readShift_87 : decode cX7_readShift 87 = .ok (.ireturn, 1) := by decide +kernel
theorem dX7_readShift_88 : decode cX7_readShift 88 = .ok (.aload_n 0, 1) := by decide +kernel
theorem dX7_readShift_89 : decode cX7_readShift 89 = .ok (.getfield 77, 3) := by decide +kernel
theorem dX7_readShift_92 : decode cX7_readShift 92 = .ok (.iload_n 1, 1) := by decide +kernel
theorem dX7_readShift_93 : decode cX7_readShift 93 = .ok (.iconst 4, 1) := by decide +kernel
theorem dX7_readShift_94 : decode cX7_readShift 94 = .ok (.iadd, 1) := by decide +kernel
theorem dX7_readShift_95 : decode cX7_readShift 95 = .ok (.aload_n 0, 1) := by decide +kernel
theorem dX7_readShift_96 : decode cX7_readShift 96 = .ok (.getfield 77, 3) := by decide +kernel
theorem dX7_readShift_99 : decode cX7_readShift 99 = .ok (.iconst 3, 1) := by decide +kernel
theorem dX7_readShift_100 : decode cX7_readShift 100 = .ok (.iaload, 1) := by decide +kernel
theorem dX7_readShift_101 : decode cX7_readShift 101 = .ok (.iastore, 1) := by decide +kernel
theorem dX7_readShift_102 : decode cX7_readShift 102 = .ok (.aload_n 0, 1) := by decide +kernel
theorem dX7_readShift_103 : decode cX7_readShift 103 = .ok (.bipush 112, 2) := by decide +kernel
theorem dX7_readShift_105 : decode cX7_readShift 105 = .ok (.bipush 97, 2) := by decide +kernel
theorem dX7_readShift_107 : decode cX7_readShift 107 = .ok (.bipush 117, 2) := by decide +kernel
theorem dX7_readShift_109 : decode cX7_readShift 109 = .ok (.bipush 115, 2) := by decide +kernel
theorem dX7_readShift_111 : decode cX7_readShift 111 = .ok (.bipush 101, 2) := by decide +kernel
theorem dX7_readShift_113 : decode cX7_readShift 113 = .ok (.invokestatic 116, 3) := by decide +kernel
theorem dX7_readShift_116 : decode cX7_readShift 116 = .ok (.invokevirtual 120, 3) := by decide +kernel
theorem dX7_readShift_119 : decode cX7_readShift 119 = .ok (.ifCond .eq 13, 3) := by decide +kernel
theorem dX7_readShift_122 : decode cX7_readShift 122 = .ok (.aload_n 0, 1) := by decide +kernel
theorem dX7_readShift_123 : decode cX7_readShift 123 = .ok (.iload_n 1, 1) := by decide +kernel
theorem dX7_readShift_124 : decode cX7_readShift 124 = .ok (.invokevirtual 134, 3) := by decide +kernel
theorem dX7_readShift_127 : decode cX7_readShift 127 = .ok (.ifCond .ne (-25), 3) := by decide +kernel
theorem dX7_readShift_130 : decode cX7_readShift 130 = .ok (.iconst 0, 1) := by decide +kernel
theorem dX7_readShift_131 : decode cX7_readShift 131 = .ok (.ireturn, 1) := by decide +kernel
theorem dX7_readShift_132 : decode cX7_readShift 132 = .ok (.aload_n 0, 1) := by decide +kernel
theorem dX7_readShift_133 : decode cX7_readShift 133 = .ok (.getfield 77, 3) := by decide +kernel
theorem dX7_readShift_136 : decode cX7_readShift 136 = .ok (.iconst 2, 1) := by decide +kernel
theorem dX7_readShift_137 : decode cX7_readShift 137 = .ok (.dup2, 1) := by decide +kernel
theorem dX7_readShift_138 : decode cX7_readShift 138 = .ok (.iaload, 1) := by decide +kernel
theorem dX7_readShift_139 : decode cX7_readShift 139 = .ok (.iconst 1, 1) := by decide +kernel
theorem dX7_readShift_140 : decode cX7_readShift 140 = .ok (.iadd, 1) := by decide +kernel
theorem dX7_readShift_141 : decode cX7_readShift 141 = .ok (.iastore, 1) := by decide +kernel
theorem dX7_readShift_142 : decode cX7_readShift 142 = .ok (.aload_n 0, 1) := by decide +kernel
theorem dX7_readShift_143 : decode cX7_readShift 143 = .ok (.invokevirtual 127, 3) := by decide +kernel
theorem dX7_readShift_146 : decode cX7_readShift 146 = .ok (.ireturn, 1) := by decide +kernel
set_option maxRecDepth 20000 in
theorem ggX7_readWhole_X7_readPosts : GoodIn wsX7_readWhole wsX7_readPosts := goodIn_r _ [7, 8, 9, 6, 10, 11, 12, 13, 14, 15, 16, 17, 18, 19, 20, 21, 22, 23, 2, 24, 25, 26, 27, 28, 29, 30, 31, 32, 33, 34, 35, 36, 37, 38, 39, 40, 41, 42, 43, 44, 45, 46, 47, 48, 49, 50, 51, 52, 53, 54, 55, 56, 57, 58, 59, 60, 61, 62, 63, 64, 65, 66, 80, 81, 82, 83, 84, 85, 86, 87, 88, 89, 90, 91, 92, 93, 94, 95, 96, 97, 98, 99, 100, 101, 102] (by decide +kernel) (by decide +kernel)
set_option maxRecDepth 20000 in
theorem gX7_readWhole_X7_readPosts : GoodIn wsX7_readWhole (wsV RX7 137 RX7 yX7_readPosts wsX7_readPosts) := goodIn_app (goodIn_of _ (by decide +kernel)) ggX7_readWhole_X7_readPosts
set_option maxRecDepth 20000 in
theorem ggX7_readWhole_X7_four : GoodIn wsX7_readWhole wsX7_four := goodIn_r _ [15, 16, 17, 18, 6, 19, 11, 12] (by decide +kernel) (by decide +kernel)
set_option maxRecDepth 20000 in
theorem gX7_readWhole_X7_four : GoodIn wsX7_readWhole (va_wsS RX7 58 yX7_four wsX7_four) := goodIn_app (goodIn_of _ (by decide +kernel)) ggX7_readWhole_X7_four
set_option maxRecDepth 20000 in
theorem ggX7_readWhole_X7_isWord : GoodIn wsX7_readWhole wsX7_isWord := goodIn_r _ [23, 2, 24, 80, 81, 82, 83, 84, 85, 86, 87, 88, 89, 90, 91, 92, 93, 94, 95, 96, 97, 98, 99, 100, 101, 102] (by decide +kernel) (by decide +kernel)
set_option maxRecDepth 20000 in
theorem gX7_readWhole_X7_isWord : GoodIn wsX7_readWhole (wsV RX7 120 RX7 yX7_isWord wsX7_isWord) := goodIn_app (goodIn_of _ (by decide +kernel)) ggX7_readWhole_X7_isWord
set_option maxRecDepth 20000 in
theorem ggX7_readWhole_X7_readNeed : GoodIn wsX7_readWhole wsX7_readNeed := goodIn_r _ [70, 71, 54, 55, 25, 26, 27, 6, 28, 2, 29, 30, 31, 32, 33, 34, 35, 36, 37, 38, 24, 39, 11, 12, 40, 41, 42, 43, 44, 45, 46, 47, 48, 49, 56, 57, 58, 59, 60, 61, 62, 63, 64, 65, 66, 80, 81, 82, 83, 84, 85, 86, 87, 88, 89, 90, 91, 92, 93, 94, 95, 96, 97, 98, 99, 100, 101, 102] (by decide +kernel) (by decide +kernel)
set_option maxRecDepth 20000 in
theorem gX7_readWhole_X7_readNeed : GoodIn wsX7_readWhole (wsV RX7 143 RX7 yX7_readNeed wsX7_readNeed) := goodIn_app (goodIn_of _ (by decide +kernel)) ggX7_readWhole_X7_readNeed
set_option maxRecDepth 20000 in
theorem ggX7_readWhole_X7_five : GoodIn wsX7_readWhole wsX7_five := goodIn_r _ [10, 11, 12, 13, 14, 6, 15, 16, 17, 18, 19] (by decide +kernel) (by decide +kernel)
set_option maxRecDepth 20000 in
theorem gX7_readWhole_X7_five : GoodIn wsX7_readWhole (va_wsS RX7 116 yX7_five wsX7_five) := goodIn_app (goodIn_of _ (by decide +kernel)) ggX7_readWhole_X7_five
set_option maxRecDepth 20000 in
theorem ggX7_readWhole_X7_readShift : GoodIn wsX7_readWhole wsX7_readShift := goodIn_r _ [75, 54, 25, 26, 27, 6, 28, 2, 29, 30, 31, 32, 33, 34, 35, 36, 37, 38, 24, 39, 11, 12, 40, 41, 42, 43, 44, 45, 46, 47, 48, 49, 50, 51, 52, 53, 55, 56, 57, 58, 59, 60, 61, 62, 8, 9, 10, 13, 14, 15, 16, 17, 18, 19, 20, 21, 22, 23, 76, 77, 78, 79, 63, 64, 65, 66, 80, 81, 82, 83, 84, 85, 86, 87, 88, 89, 90, 91, 92, 93, 94, 95, 96, 97, 98, 99, 100, 101, 102] (by decide +kernel) (by decide +kernel)
set_option maxRecDepth 20000 in
theorem gX7_readWhole_X7_readShift : GoodIn wsX7_readWhole (wsV RX7 146 RX7 yX7_readShift wsX7_readShift) := goodIn_app (goodIn_of _ (by decide +kernel)) ggX7_readWhole_X7_readShift
set_option maxRecDepth 20000 in
theorem ggX7_readWhole_X7_bad : GoodIn wsX7_readWhole wsX7_bad := goodIn_r _ [28, 2, 29, 30, 31, 80, 81, 82, 83, 84, 85, 86, 87, 88, 89, 90, 91, 92, 93, 94, 95, 96, 97, 98, 99, 100, 101, 102] (by decide +kernel) (by decide +kernel)
set_option maxRecDepth 20000 in
theorem gX7_readWhole_X7_bad : GoodIn wsX7_readWhole (wsV RX7 99 RX7 yX7_bad wsX7_bad) := goodIn_app (goodIn_of _ (by decide +kernel)) ggX7_readWhole_X7_bad
theorem dX7_readWhole_0 : decode cX7_readWhole 0 = .ok (.aload_n 0, 1) := by decide +kernel
theorem dX7_readWhole_1 : decode cX7_readWhole 1 = .ok (.invokevirtual 137, 3) := by decide +kernel
theorem dX7_readWhole_4 : decode cX7_readWhole 4 = .ok (.ifCond .ne 5, 3) := by decide +kernel
theorem dX7_readWhole_7 : decode cX7_readWhole 7 = .ok (.iconst 0, 1) := by decide +kernel
theorem dX7_readWhole_8 : decode cX7_readWhole 8 = .ok (.ireturn, 1) := by decide +kernel
theorem dX7_readWhole_9 : decode cX7_readWhole 9 = .ok (.aload_n 0, 1) := by decide +kernel
theorem dX7_readWhole_10 : decode cX7_readWhole 10 = .ok (.dup, 1) := by decide +kernel
theorem dX7_readWhole_11 : decode cX7_readWhole 11 = .ok (.getfield 140, 3) := by decide +kernel
theorem dX7_readWhole_14 : decode cX7_readWhole 14 = .ok (.iconst 1, 1) := by decide +kernel
theorem dX7_readWhole_15 : decode cX7_readWhole 15 = .ok (.iadd, 1) := by decide +kernel
theorem dX7_readWhole_16 : decode cX7_readWhole 16 = .ok (.putfield 140, 3) := by decide +kernel
theorem dX7_readWhole_19 : decode cX7_readWhole 19 = .ok (.aload_n 0, 1) := by decide +kernel
theorem dX7_readWhole_20 : decode cX7_readWhole 20 = .ok (.bipush 110, 2) := by decide +kernel
theorem dX7_readWhole_22 : decode cX7_readWhole 22 = .ok (.bipush 101, 2) := by decide +kernel
theorem dX7_readWhole_24 : decode cX7_readWhole 24 = .ok (.bipush 101, 2) := by decide +kernel
theorem dX7_readWhole_26 : decode cX7_readWhole 26 = .ok (.bipush 100, 2) := by decide +kernel
theorem dX7_readWhole_28 : decode cX7_readWhole 28 = .ok (.invokestatic 58, 3) := by decide +kernel
theorem dX7_readWhole_31 : decode cX7_readWhole 31 = .ok (.invokevirtual 120, 3) := by decide +kernel
theorem dX7_readWhole_34 : decode cX7_readWhole 34 = .ok (.ifCond .eq 25, 3) := by decide +kernel
theorem dX7_readWhole_37 : decode cX7_readWhole 37 = .ok (.aload_n 0, 1) := by decide +kernel
theorem dX7_readWhole_38 : decode cX7_readWhole 38 = .ok (.invokevirtual 143, 3) := by decide +kernel
theorem dX7_readWhole_41 : decode cX7_readWhole 41 = .ok (.ifCond .ne 5, 3) := by decide +kernel
theorem dX7_readWhole_44 : decode cX7_readWhole 44 = .ok (.iconst 0, 1) := by decide +kernel
theorem dX7_readWhole_45 : decode cX7_readWhole 45 = .ok (.ireturn, 1) := by decide +kernel
theorem dX7_readWhole_46 : decode cX7_readWhole 46 = .ok (.aload_n 0, 1) := by decide +kernel
theorem dX7_readWhole_47 : decode cX7_readWhole 47 = .ok (.dup, 1) := by decide +kernel
theorem dX7_readWhole_48 : decode cX7_readWhole 48 = .ok (.getfield 140, 3) := by decide +kernel
theorem dX7_readWhole_51 : decode cX7_readWhole 51 = .ok (.iconst 1, 1) := by decide +kernel
theorem dX7_readWhole_52 : decode cX7_readWhole 52 = .ok (.iadd, 1) := by decide +kernel
theorem dX7_readWhole_53 : decode cX7_readWhole 53 = .ok (.putfield 140, 3) := by decide +kernel
theorem dX7_readWhole_56 : decode cX7_readWhole 56 = .ok (.goto (-37), 3) := by decide +kernel
theorem dX7_readWhole_59 : decode cX7_readWhole 59 = .ok (.aload_n 0, 1) := by decide +kernel
theorem dX7_readWhole_60 : decode cX7_readWhole 60 = .ok (.bipush 115, 2) := by decide +kernel
theorem dX7_readWhole_62 : decode cX7_readWhole 62 = .ok (.bipush 104, 2) := by decide +kernel
theorem dX7_readWhole_64 : decode cX7_readWhole 64 = .ok (.bipush 105, 2) := by decide +kernel
theorem dX7_readWhole_66 : decode cX7_readWhole 66 = .ok (.bipush 102, 2) := by decide +kernel
theorem dX7_readWhole_68 : decode cX7_readWhole 68 = .ok (.bipush 116, 2) := by decide +kernel
theorem dX7_readWhole_70 : decode cX7_readWhole 70 = .ok (.invokestatic 116, 3) := by decide +kernel
theorem dX7_readWhole_73 : decode cX7_readWhole 73 = .ok (.invokevirtual 120, 3) := by decide +kernel
theorem dX7_readWhole_76 : decode cX7_readWhole 76 = .ok (.ifCond .eq 25, 3) := by decide +kernel
theorem dX7_readWhole_79 : decode cX7_readWhole 79 = .ok (.aload_n 0, 1) := by decide +kernel
theorem dX7_readWhole_80 : decode cX7_readWhole 80 = .ok (.invokevirtual 146, 3) := by decide +kernel
theorem dX7_readWhole_83 : decode cX7_readWhole 83 = .ok (.ifCond .ne 5, 3) := by decide +kernel
theorem dX7_readWhole_86 : decode cX7_readWhole 86 = .ok (.iconst 0, 1) := by decide +kernel
theorem dX7_readWhole_87 : decode cX7_readWhole 87 = .ok (.ireturn, 1) := by decide +kernel
theorem dX7_readWhole_88 : decode cX7_readWhole 88 = .ok (.aload_n 0, 1) := by decide +kernel
theorem dX7_readWhole_89 : decode cX7_readWhole 89 = .ok (.dup, 1) := by decide +kernel
theorem dX7_readWhole_90 : decode cX7_readWhole 90 = .ok (.getfield 140, 3) := by decide +kernel
theorem dX7_readWhole_93 : decode cX7_readWhole 93 = .ok (.iconst 1, 1) := by decide +kernel
theorem dX7_readWhole_94 : decode cX7_readWhole 94 = .ok (.iadd, 1) := by decide +kernel
theorem dX7_readWhole_95 : decode cX7_readWhole 95 = .ok (.putfield 140, 3) := by decide +kernel
theorem dX7_readWhole_98 : decode cX7_readWhole 98 = .ok (.goto (-39), 3) := by decide +kernel
theorem dX7_readWhole_101 : decode cX7_readWhole 101 = .ok (.aload_n 0, 1) := by decide +kernel
theorem dX7_readWhole_102 : decode cX7_readWhole 102 = .ok (.getfield 27, 3) := by decide +kernel
theorem dX7_readWhole_105 : decode cX7_readWhole 105 = .ok (.ifCond .eq 11, 3) := by decide +kernel
theorem dX7_readWhole_108 : decode cX7_readWhole 108 = .ok (.aload_n 0, 1) := by decide +kernel
theorem dX7_readWhole_109 : decode cX7_readWhole 109 = .ok (.iconst 1, 1) := by decide +kernel
theorem dX7_readWhole_110 : decode cX7_readWhole 110 = .ok (.invokevirtual 99, 3) := by decide +kernel
theorem dX7_readWhole_113 : decode cX7_readWhole 113 = .ok (.ifCond .eq 7, 3) := by decide +kernel
theorem dX7_readWhole_116 : decode cX7_readWhole 116 = .ok (.iconst 1, 1) := by decide +kernel
theorem dX7_readWhole_117 : decode cX7_readWhole 117 = .ok (.goto 4, 3) := by decide +kernel
theorem dX7_readWhole_120 : decode cX7_readWhole 120 = .ok (.iconst 0, 1) := by decide +kernel
theorem dX7_readWhole_121 : decode cX7_readWhole 121 = .ok (.ireturn, 1) := by decide +kernel
set_option maxRecDepth 20000 in
theorem ggX7_text_X7_go : GoodIn wsX7_text wsX7_go := goodIn_r _ [16, 5, 3, 17, 18, 19, 20, 21, 22, 23, 24, 25, 15, 26, 27, 28, 29, 30, 31, 32, 33, 88, 89, 90, 91, 92, 93, 94, 95, 96, 97, 98, 99, 100, 101, 102, 103, 104, 105, 106, 107, 108, 109, 110] (by decide +kernel) (by decide +kernel)
set_option maxRecDepth 20000 in
theorem gX7_text_X7_go : GoodIn wsX7_text (wsV RX7 109 RX7 yX7_go wsX7_go) := goodIn_app (goodIn_of _ (by decide +kernel)) ggX7_text_X7_go
set_option maxRecDepth 20000 in
theorem ggX7_text_X7_readWhole : GoodIn wsX7_text wsX7_readWhole := goodIn_r _ [37, 7, 19, 38, 39, 40, 15, 41, 42, 43, 44, 22, 23, 45, 46, 47, 48, 49, 50, 51, 52, 53, 54, 55, 20, 56, 57, 58, 59, 4, 18, 9, 12, 13, 14, 16, 5, 3, 17, 21, 24, 25, 26, 27, 28, 29, 30, 31, 32, 33, 60, 61, 62, 63, 8, 64, 65, 66, 67, 68, 69, 70, 71, 72, 73, 74, 75, 76, 77, 78, 79, 6, 80, 81, 82, 83, 84, 85, 86, 87, 88, 89, 90, 91, 92, 93, 94, 95, 96, 97, 98, 99, 100, 101, 102, 103, 104, 105, 106, 107, 108, 109, 110] (by decide +kernel) (by decide +kernel)
set_option maxRecDepth 20000 in
theorem gX7_text_X7_readWhole : GoodIn wsX7_text (wsV RX7 149 RX7 yX7_readWhole wsX7_readWhole) := goodIn_app (goodIn_of _ (by decide +kernel)) ggX7_text_X7_readWhole
theorem dX7_text_0 : decode cX7_text 0 = .ok (.aload_n 0, 1) := by decide +kernel
theorem dX7_text_1 : decode cX7_text 1 = .ok (.iconst 0, 1) := by decide +kernel
theorem dX7_text_2 : decode cX7_text 2 = .ok (.putfield 1, 3) := by decide +kernel
theorem dX7_text_5 : decode cX7_text 5 = .ok (.aload_n 0, 1) := by decide +kernel
theorem dX7_text_6 : decode cX7_text 6 = .ok (.aload_n 0, 1) := by decide +kernel
theorem dX7_text_7 : decode cX7_text 7 = .ok (.getfield 11, 3) := by decide +kernel
theorem dX7_text_10 : decode cX7_text 10 = .ok (.putfield 18, 3) := by decide +kernel
theorem dX7_text_13 : decode cX7_text 13 = .ok (.aload_n 0, 1) := by decide +kernel
theorem dX7_text_14 : decode cX7_text 14 = .ok (.iconst 0, 1) := by decide +kernel
theorem dX7_text_15 : decode cX7_text 15 = .ok (.putfield 11, 3) := by decide +kernel
theorem dX7_text_18 : decode cX7_text 18 = .ok (.aload_n 0, 1) := by decide +kernel
theorem dX7_text_19 : decode cX7_text 19 = .ok (.iconst 0, 1) := by decide +kernel
theorem dX7_text_20 : decode cX7_text 20 = .ok (.putfield 62, 3) := by decide +kernel
theorem dX7_text_23 : decode cX7_text 23 = .ok (.aload_n 0, 1) := by decide +kernel
theorem dX7_text_24 : decode cX7_text 24 = .ok (.iconst 0, 1) := by decide +kernel
theorem dX7_text_25 : decode cX7_text 25 = .ok (.putfield 21, 3) := by decide +kernel
theorem dX7_text_28 : decode cX7_text 28 = .ok (.aload_n 0, 1) := by decide +kernel
theorem dX7_text_29 : decode cX7_text 29 = .ok (.iconst 0, 1) := by decide +kernel
theorem dX7_text_30 : decode cX7_text 30 = .ok (.putfield 131, 3) := by decide +kernel
theorem dX7_text_33 : decode cX7_text 33 = .ok (.aload_n 0, 1) := by decide +kernel
theorem dX7_text_34 : decode cX7_text 34 = .ok (.iconst 0, 1) := by decide +kernel
theorem dX7_text_35 : decode cX7_text 35 = .ok (.putfield 140, 3) := by decide +kernel
theorem dX7_text_38 : decode cX7_text 38 = .ok (.iconst 0, 1) := by decide +kernel
theorem dX7_text_39 : decode cX7_text 39 = .ok (.istore_n 1, 1) := by decide +kernel
theorem dX7_text_40 : decode cX7_text 40 = .ok (.iload_n 1, 1) := by decide +kernel
theorem dX7_text_41 : decode cX7_text 41 = .ok (.sipush 308, 3) := by decide +kernel
theorem dX7_text_44 : decode cX7_text 44 = .ok (.if_icmp .ge 16, 3) := by decide +kernel
theorem dX7_text_47 : decode cX7_text 47 = .ok (.aload_n 0, 1) := by decide +kernel
theorem dX7_text_48 : decode cX7_text 48 = .ok (.getfield 77, 3) := by decide +kernel
theorem dX7_text_51 : decode cX7_text 51 = .ok (.iload_n 1, 1) := by decide +kernel
theorem dX7_text_52 : decode cX7_text 52 = .ok (.iconst 0, 1) := by decide +kernel
theorem dX7_text_53 : decode cX7_text 53 = .ok (.iastore, 1) := by decide +kernel
theorem dX7_text_54 : decode cX7_text 54 = .ok (.iinc 1 1, 3) := by decide +kernel
theorem dX7_text_57 : decode cX7_text 57 = .ok (.goto (-17), 3) := by decide +kernel
theorem dX7_text_60 : decode cX7_text 60 = .ok (.aload_n 0, 1) := by decide +kernel
theorem dX7_text_61 : decode cX7_text 61 = .ok (.invokevirtual 109, 3) := by decide +kernel
theorem dX7_text_64 : decode cX7_text 64 = .ok (.aload_n 0, 1) := by decide +kernel
theorem dX7_text_65 : decode cX7_text 65 = .ok (.invokevirtual 149, 3) := by decide +kernel
theorem dX7_text_68 : decode cX7_text 68 = .ok (.ifCond .ne 10, 3) := by decide +kernel
theorem dX7_text_71 : decode cX7_text 71 = .ok (.iconst (-1), 1) := by decide +kernel
theorem dX7_text_72 : decode cX7_text 72 = .ok (.aload_n 0, 1) := by decide +kernel
theorem dX7_text_73 : decode cX7_text 73 = .ok (.getfield 65, 3) := by decide +kernel
theorem dX7_text_76 : decode cX7_text 76 = .ok (.isub, 1) := by decide +kernel
theorem dX7_text_77 : decode cX7_text 77 = .ok (.ireturn, 1) := by decide +kernel
theorem dX7_text_78 : decode cX7_text 78 = .ok (.iconst 0, 1) := by decide +kernel
theorem dX7_text_79 : decode cX7_text 79 = .ok (.istore_n 1, 1) := by decide +kernel
theorem dX7_text_80 : decode cX7_text 80 = .ok (.iload_n 1, 1) := by decide +kernel
theorem dX7_text_81 : decode cX7_text 81 = .ok (.sipush 308, 3) := by decide +kernel
theorem dX7_text_84 : decode cX7_text 84 = .ok (.if_icmp .ge 21, 3) := by decide +kernel
theorem dX7_text_87 : decode cX7_text 87 = .ok (.aload_n 0, 1) := by decide +kernel
theorem dX7_text_88 : decode cX7_text 88 = .ok (.getfield 74, 3) := by decide +kernel
theorem dX7_text_91 : decode cX7_text 91 = .ok (.iload_n 1, 1) := by decide +kernel
theorem dX7_text_92 : decode cX7_text 92 = .ok (.aload_n 0, 1) := by decide +kernel
theorem dX7_text_93 : decode cX7_text 93 = .ok (.getfield 77, 3) := by decide +kernel
theorem dX7_text_96 : decode cX7_text 96 = .ok (.iload_n 1, 1) := by decide +kernel
theorem dX7_text_97 : decode cX7_text 97 = .ok (.iaload, 1) := by decide +kernel
theorem dX7_text_98 : decode cX7_text 98 = .ok (.iastore, 1) := by decide +kernel
theorem dX7_text_99 : decode cX7_text 99 = .ok (.iinc 1 1, 3) := by decide +kernel
theorem dX7_text_102 : decode cX7_text 102 = .ok (.goto (-22), 3) := by decide +kernel
theorem dX7_text_105 : decode cX7_text 105 = .ok (.aload_n 0, 1) := by decide +kernel
theorem dX7_text_106 : decode cX7_text 106 = .ok (.iconst 0, 1) := by decide +kernel
theorem dX7_text_107 : decode cX7_text 107 = .ok (.putfield 152, 3) := by decide +kernel
theorem dX7_text_110 : decode cX7_text 110 = .ok (.aload_n 0, 1) := by decide +kernel
theorem dX7_text_111 : decode cX7_text 111 = .ok (.getfield 140, 3) := by decide +kernel
theorem dX7_text_114 : decode cX7_text 114 = .ok (.ireturn, 1) := by decide +kernel
theorem dX7_fault_0 : decode cX7_fault 0 = .ok (.aload_n 0, 1) := by decide +kernel
theorem dX7_fault_1 : decode cX7_fault 1 = .ok (.iconst 0, 1) := by decide +kernel
theorem dX7_fault_2 : decode cX7_fault 2 = .ok (.putfield 1, 3) := by decide +kernel
theorem dX7_fault_5 : decode cX7_fault 5 = .ok (.aload_n 0, 1) := by decide +kernel
theorem dX7_fault_6 : decode cX7_fault 6 = .ok (.getfield 62, 3) := by decide +kernel
theorem dX7_fault_9 : decode cX7_fault 9 = .ok (.ireturn, 1) := by decide +kernel
set_option maxRecDepth 20000 in
theorem ggX7_isPost_X7_isIn : GoodIn wsX7_isPost wsX7_isIn := goodIn_r _ [5] (by decide +kernel) (by decide +kernel)
set_option maxRecDepth 20000 in
theorem gX7_isPost_X7_isIn : GoodIn wsX7_isPost (va_wsS RX7 102 yX7_isIn wsX7_isIn) := goodIn_app (goodIn_of _ (by decide +kernel)) ggX7_isPost_X7_isIn
theorem dX7_isPost_0 : decode cX7_isPost 0 = .ok (.iload_n 1, 1) := by decide +kernel
theorem dX7_isPost_1 : decode cX7_isPost 1 = .ok (.iconst 0, 1) := by decide +kernel
theorem dX7_isPost_2 : decode cX7_isPost 2 = .ok (.aload_n 0, 1) := by decide +kernel
theorem dX7_isPost_3 : decode cX7_isPost 3 = .ok (.getfield 74, 3) := by decide +kernel
theorem dX7_isPost_6 : decode cX7_isPost 6 = .ok (.iconst 0, 1) := by decide +kernel
theorem dX7_isPost_7 : decode cX7_isPost 7 = .ok (.iaload, 1) := by decide +kernel
theorem dX7_isPost_8 : decode cX7_isPost 8 = .ok (.iconst 1, 1) := by decide +kernel
theorem dX7_isPost_9 : decode cX7_isPost 9 = .ok (.isub, 1) := by decide +kernel
theorem dX7_isPost_10 : decode cX7_isPost 10 = .ok (.invokestatic 102, 3) := by decide +kernel
theorem dX7_isPost_13 : decode cX7_isPost 13 = .ok (.ireturn, 1) := by decide +kernel
set_option maxRecDepth 20000 in
theorem ggX7_isSlot_X7_isIn : GoodIn wsX7_isSlot wsX7_isIn := goodIn_r _ [4] (by decide +kernel) (by decide +kernel)
set_option maxRecDepth 20000 in
theorem gX7_isSlot_X7_isIn : GoodIn wsX7_isSlot (va_wsS RX7 102 yX7_isIn wsX7_isIn) := goodIn_app (goodIn_of _ (by decide +kernel)) ggX7_isSlot_X7_isIn
theorem dX7_isSlot_0 : decode cX7_isSlot 0 = .ok (.iload_n 0, 1) := by decide +kernel
theorem dX7_isSlot_1 : decode cX7_isSlot 1 = .ok (.iconst 0, 1) := by decide +kernel
theorem dX7_isSlot_2 : decode cX7_isSlot 2 = .ok (.bipush 47, 2) := by decide +kernel
theorem dX7_isSlot_4 : decode cX7_isSlot 4 = .ok (.invokestatic 102, 3) := by decide +kernel
theorem dX7_isSlot_7 : decode cX7_isSlot 7 = .ok (.ireturn, 1) := by decide +kernel
set_option maxRecDepth 20000 in
theorem ggX7_isPause_X7_isIn : GoodIn wsX7_isPause wsX7_isIn := goodIn_r _ [5] (by decide +kernel) (by decide +kernel)
set_option maxRecDepth 20000 in
theorem gX7_isPause_X7_isIn : GoodIn wsX7_isPause (va_wsS RX7 102 yX7_isIn wsX7_isIn) := goodIn_app (goodIn_of _ (by decide +kernel)) ggX7_isPause_X7_isIn
theorem dX7_isPause_0 : decode cX7_isPause 0 = .ok (.iload_n 1, 1) := by decide +kernel
theorem dX7_isPause_1 : decode cX7_isPause 1 = .ok (.iconst 0, 1) := by decide +kernel
theorem dX7_isPause_2 : decode cX7_isPause 2 = .ok (.aload_n 0, 1) := by decide +kernel
theorem dX7_isPause_3 : decode cX7_isPause 3 = .ok (.getfield 74, 3) := by decide +kernel
theorem dX7_isPause_6 : decode cX7_isPause 6 = .ok (.iconst 3, 1) := by decide +kernel
theorem dX7_isPause_7 : decode cX7_isPause 7 = .ok (.iaload, 1) := by decide +kernel
theorem dX7_isPause_8 : decode cX7_isPause 8 = .ok (.iconst 1, 1) := by decide +kernel
theorem dX7_isPause_9 : decode cX7_isPause 9 = .ok (.isub, 1) := by decide +kernel
theorem dX7_isPause_10 : decode cX7_isPause 10 = .ok (.invokestatic 102, 3) := by decide +kernel
theorem dX7_isPause_13 : decode cX7_isPause 13 = .ok (.ireturn, 1) := by decide +kernel
theorem dX7_duty_0 : decode cX7_duty 0 = .ok (.aload_n 0, 1) := by decide +kernel
theorem dX7_duty_1 : decode cX7_duty 1 = .ok (.getfield 74, 3) := by decide +kernel
theorem dX7_duty_4 : decode cX7_duty 4 = .ok (.sipush 148, 3) := by decide +kernel
theorem dX7_duty_7 : decode cX7_duty 7 = .ok (.iconst 5, 1) := by decide +kernel
theorem dX7_duty_8 : decode cX7_duty 8 = .ok (.iload_n 1, 1) := by decide +kernel
theorem dX7_duty_9 : decode cX7_duty 9 = .ok (.imul, 1) := by decide +kernel
theorem dX7_duty_10 : decode cX7_duty 10 = .ok (.iadd, 1) := by decide +kernel
theorem dX7_duty_11 : decode cX7_duty 11 = .ok (.iload_n 2, 1) := by decide +kernel
theorem dX7_duty_12 : decode cX7_duty 12 = .ok (.iadd, 1) := by decide +kernel
theorem dX7_duty_13 : decode cX7_duty 13 = .ok (.iaload, 1) := by decide +kernel
theorem dX7_duty_14 : decode cX7_duty 14 = .ok (.ireturn, 1) := by decide +kernel
theorem dX7_its_0 : decode cX7_its 0 = .ok (.aload_n 0, 1) := by decide +kernel
theorem dX7_its_1 : decode cX7_its 1 = .ok (.getfield 74, 3) := by decide +kernel
theorem dX7_its_4 : decode cX7_its 4 = .ok (.sipush 188, 3) := by decide +kernel
theorem dX7_its_7 : decode cX7_its 7 = .ok (.iconst 5, 1) := by decide +kernel
theorem dX7_its_8 : decode cX7_its 8 = .ok (.iload_n 1, 1) := by decide +kernel
theorem dX7_its_9 : decode cX7_its 9 = .ok (.imul, 1) := by decide +kernel
theorem dX7_its_10 : decode cX7_its 10 = .ok (.iadd, 1) := by decide +kernel
theorem dX7_its_11 : decode cX7_its 11 = .ok (.iload_n 2, 1) := by decide +kernel
theorem dX7_its_12 : decode cX7_its 12 = .ok (.iadd, 1) := by decide +kernel
theorem dX7_its_13 : decode cX7_its 13 = .ok (.iaload, 1) := by decide +kernel
theorem dX7_its_14 : decode cX7_its 14 = .ok (.ireturn, 1) := by decide +kernel
set_option maxRecDepth 20000 in
theorem ggX7_placeOf_X7_its : GoodIn wsX7_placeOf wsX7_its := goodIn_r _ [5, 6, 7, 8, 9, 10, 11, 12, 13, 14, 15, 16, 17, 18, 19, 20, 21, 22, 23, 24, 25, 26, 27, 28, 29] (by decide +kernel) (by decide +kernel)
set_option maxRecDepth 20000 in
theorem gX7_placeOf_X7_its : GoodIn wsX7_placeOf (wsV RX7 155 RX7 yX7_its wsX7_its) := goodIn_app (goodIn_of _ (by decide +kernel)) ggX7_placeOf_X7_its
theorem dX7_placeOf_0 : decode cX7_placeOf 0 = .ok (.aload_n 0, 1) := by decide +kernel
theorem dX7_placeOf_1 : decode cX7_placeOf 1 = .ok (.iload_n 1, 1) := by decide +kernel
theorem dX7_placeOf_2 : decode cX7_placeOf 2 = .ok (.iconst 4, 1) := by decide +kernel
theorem dX7_placeOf_3 : decode cX7_placeOf 3 = .ok (.invokevirtual 155, 3) := by decide +kernel
theorem dX7_placeOf_6 : decode cX7_placeOf 6 = .ok (.iconst 1, 1) := by decide +kernel
theorem dX7_placeOf_7 : decode cX7_placeOf 7 = .ok (.isub, 1) := by decide +kernel
theorem dX7_placeOf_8 : decode cX7_placeOf 8 = .ok (.ireturn, 1) := by decide +kernel
theorem dX7_lies_0 : decode cX7_lies 0 = .ok (.aload_n 0, 1) := by decide +kernel
theorem dX7_lies_1 : decode cX7_lies 1 = .ok (.getfield 74, 3) := by decide +kernel
theorem dX7_lies_4 : decode cX7_lies 4 = .ok (.sipush 188, 3) := by decide +kernel
theorem dX7_lies_7 : decode cX7_lies 7 = .ok (.iconst 5, 1) := by decide +kernel
theorem dX7_lies_8 : decode cX7_lies 8 = .ok (.iload_n 1, 1) := by decide +kernel
theorem dX7_lies_9 : decode cX7_lies 9 = .ok (.imul, 1) := by decide +kernel
theorem dX7_lies_10 : decode cX7_lies 10 = .ok (.iadd, 1) := by decide +kernel
theorem dX7_lies_11 : decode cX7_lies 11 = .ok (.iconst 4, 1) := by decide +kernel
theorem dX7_lies_12 : decode cX7_lies 12 = .ok (.iadd, 1) := by decide +kernel
theorem dX7_lies_13 : decode cX7_lies 13 = .ok (.iload_n 2, 1) := by decide +kernel
theorem dX7_lies_14 : decode cX7_lies 14 = .ok (.iconst 1, 1) := by decide +kernel
theorem dX7_lies_15 : decode cX7_lies 15 = .ok (.iadd, 1) := by decide +kernel
theorem dX7_lies_16 : decode cX7_lies 16 = .ok (.iastore, 1) := by decide +kernel
theorem dX7_lies_17 : decode cX7_lies 17 = .ok (.return_, 1) := by decide +kernel
theorem dX7_needOf_0 : decode cX7_needOf 0 = .ok (.aload_n 0, 1) := by decide +kernel
theorem dX7_needOf_1 : decode cX7_needOf 1 = .ok (.getfield 74, 3) := by decide +kernel
theorem dX7_needOf_4 : decode cX7_needOf 4 = .ok (.iconst 4, 1) := by decide +kernel
theorem dX7_needOf_5 : decode cX7_needOf 5 = .ok (.bipush 48, 2) := by decide +kernel
theorem dX7_needOf_7 : decode cX7_needOf 7 = .ok (.iload_n 1, 1) := by decide +kernel
theorem dX7_needOf_8 : decode cX7_needOf 8 = .ok (.imul, 1) := by decide +kernel
theorem dX7_needOf_9 : decode cX7_needOf 9 = .ok (.iadd, 1) := by decide +kernel
theorem dX7_needOf_10 : decode cX7_needOf 10 = .ok (.iload_n 2, 1) := by decide +kernel
theorem dX7_needOf_11 : decode cX7_needOf 11 = .ok (.iadd, 1) := by decide +kernel
theorem dX7_needOf_12 : decode cX7_needOf 12 = .ok (.iaload, 1) := by decide +kernel
theorem dX7_needOf_13 : decode cX7_needOf 13 = .ok (.ireturn, 1) := by decide +kernel
set_option maxRecDepth 20000 in
theorem ggX7_onDuty_X7_duty : GoodIn wsX7_onDuty wsX7_duty := goodIn_r _ [6, 1, 10, 11, 12, 13, 14, 15, 16, 17, 18, 19, 20, 21, 22, 23, 24, 25, 26, 27, 28, 29, 30, 31, 32] (by decide +kernel) (by decide +kernel)
set_option maxRecDepth 20000 in
theorem gX7_onDuty_X7_duty : GoodIn wsX7_onDuty (wsV RX7 159 RX7 yX7_duty wsX7_duty) := goodIn_app (goodIn_of _ (by decide +kernel)) ggX7_onDuty_X7_duty
set_option maxRecDepth 20000 in
theorem ggX7_onDuty_X7_isIn : GoodIn wsX7_onDuty wsX7_isIn := goodIn_r _ [9] (by decide +kernel) (by decide +kernel)
set_option maxRecDepth 20000 in
theorem gX7_onDuty_X7_isIn : GoodIn wsX7_onDuty (va_wsS RX7 102 yX7_isIn wsX7_isIn) := goodIn_app (goodIn_of _ (by decide +kernel)) ggX7_onDuty_X7_isIn
theorem dX7_onDuty_0 : decode cX7_onDuty 0 = .ok (.iconst 0, 1) := by decide +kernel
theorem dX7_onDuty_1 : decode cX7_onDuty 1 = .ok (.istore_n 3, 1) := by decide +kernel
theorem dX7_onDuty_2 : decode cX7_onDuty 2 = .ok (.iconst 0, 1) := by decide +kernel
theorem dX7_onDuty_3 : decode cX7_onDuty 3 = .ok (.istore 4, 2) := by decide +kernel
theorem dX7_onDuty_5 : decode cX7_onDuty 5 = .ok (.iload 4, 2) := by decide +kernel
theorem dX7_onDuty_7 : decode cX7_onDuty 7 = .ok (.aload_n 0, 1) := by decide +kernel
theorem dX7_onDuty_8 : decode cX7_onDuty 8 = .ok (.getfield 74, 3) := by decide +kernel
theorem dX7_onDuty_11 : decode cX7_onDuty 11 = .ok (.iconst 2, 1) := by decide +kernel
theorem dX7_onDuty_12 : decode cX7_onDuty 12 = .ok (.iaload, 1) := by decide +kernel
theorem dX7_onDuty_13 : decode cX7_onDuty 13 = .ok (.if_icmp .ge 44, 3) := by decide +kernel
theorem dX7_onDuty_16 : decode cX7_onDuty 16 = .ok (.aload_n 0, 1) := by decide +kernel
theorem dX7_onDuty_17 : decode cX7_onDuty 17 = .ok (.iload 4, 2) := by decide +kernel
theorem dX7_onDuty_19 : decode cX7_onDuty 19 = .ok (.iconst 0, 1) := by decide +kernel
theorem dX7_onDuty_20 : decode cX7_onDuty 20 = .ok (.invokevirtual 159, 3) := by decide +kernel
theorem dX7_onDuty_23 : decode cX7_onDuty 23 = .ok (.iload_n 1, 1) := by decide +kernel
theorem dX7_onDuty_24 : decode cX7_onDuty 24 = .ok (.if_icmp .ne 27, 3) := by decide +kernel
theorem dX7_onDuty_27 : decode cX7_onDuty 27 = .ok (.iload_n 2, 1) := by decide +kernel
theorem dX7_onDuty_28 : decode cX7_onDuty 28 = .ok (.aload_n 0, 1) := by decide +kernel
theorem dX7_onDuty_29 : decode cX7_onDuty 29 = .ok (.iload 4, 2) := by decide +kernel
theorem dX7_onDuty_31 : decode cX7_onDuty 31 = .ok (.iconst 1, 1) := by decide +kernel
theorem dX7_onDuty_32 : decode cX7_onDuty 32 = .ok (.invokevirtual 159, 3) := by decide +kernel
theorem dX7_onDuty_35 : decode cX7_onDuty 35 = .ok (.aload_n 0, 1) := by decide +kernel
theorem dX7_onDuty_36 : decode cX7_onDuty 36 = .ok (.iload 4, 2) := by decide +kernel
theorem dX7_onDuty_38 : decode cX7_onDuty 38 = .ok (.iconst 2, 1) := by decide +kernel
theorem dX7_onDuty_39 : decode cX7_onDuty 39 = .ok (.invokevirtual 159, 3) := by decide +kernel
theorem dX7_onDuty_42 : decode cX7_onDuty 42 = .ok (.invokestatic 102, 3) := by decide +kernel
theorem dX7_onDuty_45 : decode cX7_onDuty 45 = .ok (.ifCond .eq 6, 3) := by decide +kernel
theorem dX7_onDuty_48 : decode cX7_onDuty 48 = .ok (.iinc 3 1, 3) := by decide +kernel
theorem dX7_onDuty_51 : decode cX7_onDuty 51 = .ok (.iinc 4 1, 3) := by decide +kernel
theorem dX7_onDuty_54 : decode cX7_onDuty 54 = .ok (.goto (-49), 3) := by decide +kernel
theorem dX7_onDuty_57 : decode cX7_onDuty 57 = .ok (.iload_n 3, 1) := by decide +kernel
theorem dX7_onDuty_58 : decode cX7_onDuty 58 = .ok (.ireturn, 1) := by decide +kernel
set_option maxRecDepth 20000 in
theorem ggX7_isPausing_X7_placeOf : GoodIn wsX7_isPausing wsX7_placeOf := goodIn_r _ [5, 6, 7, 8, 4, 9, 10, 14, 15, 16, 17, 18, 19, 20, 21, 22, 23, 24, 25, 26, 27, 28, 29, 30, 31, 32, 33, 34, 35, 36] (by decide +kernel) (by decide +kernel)
set_option maxRecDepth 20000 in
theorem gX7_isPausing_X7_placeOf : GoodIn wsX7_isPausing (wsV RX7 162 RX7 yX7_placeOf wsX7_placeOf) := goodIn_app (goodIn_of _ (by decide +kernel)) ggX7_isPausing_X7_placeOf
set_option maxRecDepth 20000 in
theorem ggX7_isPausing_X7_its : GoodIn wsX7_isPausing wsX7_its := goodIn_r _ [9, 10, 14, 15, 16, 17, 18, 19, 20, 21, 22, 23, 24, 25, 26, 27, 28, 29, 30, 31, 32, 33, 34, 35, 36] (by decide +kernel) (by decide +kernel)
set_option maxRecDepth 20000 in
theorem gX7_isPausing_X7_its : GoodIn wsX7_isPausing (wsV RX7 155 RX7 yX7_its wsX7_its) := goodIn_app (goodIn_of _ (by decide +kernel)) ggX7_isPausing_X7_its
set_option maxRecDepth 20000 in
theorem ggX7_isPausing_X7_isIn : GoodIn wsX7_isPausing wsX7_isIn := goodIn_r _ [13] (by decide +kernel) (by decide +kernel)
set_option maxRecDepth 20000 in
theorem gX7_isPausing_X7_isIn : GoodIn wsX7_isPausing (va_wsS RX7 102 yX7_isIn wsX7_isIn) := goodIn_app (goodIn_of _ (by decide +kernel)) ggX7_isPausing_X7_isIn
theorem dX7_isPausing_0 : decode cX7_isPausing 0 = .ok (.aload_n 0, 1) := by decide +kernel
theorem dX7_isPausing_1 : decode cX7_isPausing 1 = .ok (.iload_n 1, 1) := by decide +kernel
theorem dX7_isPausing_2 : decode cX7_isPausing 2 = .ok (.invokevirtual 162, 3) := by decide +kernel
theorem dX7_isPausing_5 : decode cX7_isPausing 5 = .ok (.iconst (-1), 1) := by decide +kernel
theorem dX7_isPausing_6 : decode cX7_isPausing 6 = .ok (.if_icmp .eq 33, 3) := by decide +kernel
theorem dX7_isPausing_9 : decode cX7_isPausing 9 = .ok (.iload_n 2, 1) := by decide +kernel
theorem dX7_isPausing_10 : decode cX7_isPausing 10 = .ok (.aload_n 0, 1) := by decide +kernel
theorem dX7_isPausing_11 : decode cX7_isPausing 11 = .ok (.iload_n 1, 1) := by decide +kernel
theorem dX7_isPausing_12 : decode cX7_isPausing 12 = .ok (.invokevirtual 162, 3) := by decide +kernel
theorem dX7_isPausing_15 : decode cX7_isPausing 15 = .ok (.aload_n 0, 1) := by decide +kernel
theorem dX7_isPausing_16 : decode cX7_isPausing 16 = .ok (.iload_n 1, 1) := by decide +kernel
theorem dX7_isPausing_17 : decode cX7_isPausing 17 = .ok (.invokevirtual 162, 3) := by decide +kernel
theorem dX7_isPausing_20 : decode cX7_isPausing 20 = .ok (.aload_n 0, 1) := by decide +kernel
theorem dX7_isPausing_21 : decode cX7_isPausing 21 = .ok (.iload_n 1, 1) := by decide +kernel
theorem dX7_isPausing_22 : decode cX7_isPausing 22 = .ok (.iconst 1, 1) := by decide +kernel
theorem dX7_isPausing_23 : decode cX7_isPausing 23 = .ok (.invokevirtual 155, 3) := by decide +kernel
theorem dX7_isPausing_26 : decode cX7_isPausing 26 = .ok (.iadd, 1) := by decide +kernel
theorem dX7_isPausing_27 : decode cX7_isPausing 27 = .ok (.iconst 1, 1) := by decide +kernel
theorem dX7_isPausing_28 : decode cX7_isPausing 28 = .ok (.isub, 1) := by decide +kernel
theorem dX7_isPausing_29 : decode cX7_isPausing 29 = .ok (.invokestatic 102, 3) := by decide +kernel
theorem dX7_isPausing_32 : decode cX7_isPausing 32 = .ok (.ifCond .eq 7, 3) := by decide +kernel
theorem dX7_isPausing_35 : decode cX7_isPausing 35 = .ok (.iconst 1, 1) := by decide +kernel
theorem dX7_isPausing_36 : decode cX7_isPausing 36 = .ok (.goto 4, 3) := by decide +kernel
theorem dX7_isPausing_39 : decode cX7_isPausing 39 = .ok (.iconst 0, 1) := by decide +kernel
theorem dX7_isPausing_40 : decode cX7_isPausing 40 = .ok (.ireturn, 1) := by decide +kernel
set_option maxRecDepth 20000 in
theorem ggX7_coverOf_X7_onDuty : GoodIn wsX7_coverOf wsX7_onDuty := goodIn_r _ [6, 1, 7, 8, 9, 5, 10, 11, 12, 13, 26, 27, 28, 29, 30, 31, 32, 33, 34, 35, 36, 37, 38, 39, 40, 41, 42, 43, 44, 45, 46, 47, 48] (by decide +kernel) (by decide +kernel)
set_option maxRecDepth 20000 in
theorem gX7_coverOf_X7_onDuty : GoodIn wsX7_coverOf (wsV RX7 165 RX7 yX7_onDuty wsX7_onDuty) := goodIn_app (goodIn_of _ (by decide +kernel)) ggX7_coverOf_X7_onDuty
set_option maxRecDepth 20000 in
theorem ggX7_coverOf_X7_its : GoodIn wsX7_coverOf wsX7_its := goodIn_r _ [17, 1, 26, 27, 28, 29, 30, 31, 32, 33, 34, 35, 36, 37, 38, 39, 40, 41, 42, 43, 44, 45, 46, 47, 48] (by decide +kernel) (by decide +kernel)
set_option maxRecDepth 20000 in
theorem gX7_coverOf_X7_its : GoodIn wsX7_coverOf (wsV RX7 155 RX7 yX7_its wsX7_its) := goodIn_app (goodIn_of _ (by decide +kernel)) ggX7_coverOf_X7_its
set_option maxRecDepth 20000 in
theorem ggX7_coverOf_X7_duty : GoodIn wsX7_coverOf wsX7_duty := goodIn_r _ [10, 1, 26, 27, 28, 29, 30, 31, 32, 33, 34, 35, 36, 37, 38, 39, 40, 41, 42, 43, 44, 45, 46, 47, 48] (by decide +kernel) (by decide +kernel)
set_option maxRecDepth 20000 in
theorem gX7_coverOf_X7_duty : GoodIn wsX7_coverOf (wsV RX7 159 RX7 yX7_duty wsX7_duty) := goodIn_app (goodIn_of _ (by decide +kernel)) ggX7_coverOf_X7_duty
set_option maxRecDepth 20000 in
theorem ggX7_coverOf_X7_isPausing : GoodIn wsX7_coverOf wsX7_isPausing := goodIn_r _ [21, 22, 23, 24, 5, 25, 14, 15, 16, 17, 1, 11, 12, 13, 26, 27, 28, 29, 30, 31, 32, 33, 34, 35, 36, 37, 38, 39, 40, 41, 42, 43, 44, 45, 46, 47, 48] (by decide +kernel) (by decide +kernel)
set_option maxRecDepth 20000 in
theorem gX7_coverOf_X7_isPausing : GoodIn wsX7_coverOf (wsV RX7 168 RX7 yX7_isPausing wsX7_isPausing) := goodIn_app (goodIn_of _ (by decide +kernel)) ggX7_coverOf_X7_isPausing
theorem dX7_coverOf_0 : decode cX7_coverOf 0 = .ok (.aload_n 0, 1) := by decide +kernel
theorem dX7_coverOf_1 : decode cX7_coverOf 1 = .ok (.iload_n 1, 1) := by decide +kernel
theorem dX7_coverOf_2 : decode cX7_coverOf 2 = .ok (.iload_n 2, 1) := by decide +kernel
theorem dX7_coverOf_3 : decode cX7_coverOf 3 = .ok (.invokevirtual 165, 3) := by decide +kernel
theorem dX7_coverOf_6 : decode cX7_coverOf 6 = .ok (.istore_n 3, 1) := by decide +kernel
theorem dX7_coverOf_7 : decode cX7_coverOf 7 = .ok (.iconst 0, 1) := by decide +kernel
theorem dX7_coverOf_8 : decode cX7_coverOf 8 = .ok (.istore 4, 2) := by decide +kernel
theorem dX7_coverOf_10 : decode cX7_coverOf 10 = .ok (.iload 4, 2) := by decide +kernel
theorem dX7_coverOf_12 : decode cX7_coverOf 12 = .ok (.aload_n 0, 1) := by decide +kernel
theorem dX7_coverOf_13 : decode cX7_coverOf 13 = .ok (.getfield 74, 3) := by decide +kernel
theorem dX7_coverOf_16 : decode cX7_coverOf 16 = .ok (.iconst 3, 1) := by decide +kernel
theorem dX7_coverOf_17 : decode cX7_coverOf 17 = .ok (.iaload, 1) := by decide +kernel
theorem dX7_coverOf_18 : decode cX7_coverOf 18 = .ok (.if_icmp .ge 38, 3) := by decide +kernel
theorem dX7_coverOf_21 : decode cX7_coverOf 21 = .ok (.aload_n 0, 1) := by decide +kernel
theorem dX7_coverOf_22 : decode cX7_coverOf 22 = .ok (.aload_n 0, 1) := by decide +kernel
theorem dX7_coverOf_23 : decode cX7_coverOf 23 = .ok (.iload 4, 2) := by decide +kernel
theorem dX7_coverOf_25 : decode cX7_coverOf 25 = .ok (.iconst 0, 1) := by decide +kernel
theorem dX7_coverOf_26 : decode cX7_coverOf 26 = .ok (.invokevirtual 155, 3) := by decide +kernel
theorem dX7_coverOf_29 : decode cX7_coverOf 29 = .ok (.iconst 0, 1) := by decide +kernel
theorem dX7_coverOf_30 : decode cX7_coverOf 30 = .ok (.invokevirtual 159, 3) := by decide +kernel
theorem dX7_coverOf_33 : decode cX7_coverOf 33 = .ok (.iload_n 1, 1) := by decide +kernel
theorem dX7_coverOf_34 : decode cX7_coverOf 34 = .ok (.if_icmp .ne 16, 3) := by decide +kernel
theorem dX7_coverOf_37 : decode cX7_coverOf 37 = .ok (.aload_n 0, 1) := by decide +kernel
theorem dX7_coverOf_38 : decode cX7_coverOf 38 = .ok (.iload 4, 2) := by decide +kernel
theorem dX7_coverOf_40 : decode cX7_coverOf 40 = .ok (.iload_n 2, 1) := by decide +kernel
theorem dX7_coverOf_41 : decode cX7_coverOf 41 = .ok (.invokevirtual 168, 3) := by decide +kernel
theorem dX7_coverOf_44 : decode cX7_coverOf 44 = .ok (.ifCond .eq 6, 3) := by decide +kernel
theorem dX7_coverOf_47 : decode cX7_coverOf 47 = .ok (.iinc 3 (-1), 3) := by decide +kernel
theorem dX7_coverOf_50 : decode cX7_coverOf 50 = .ok (.iinc 4 1, 3) := by decide +kernel
theorem dX7_coverOf_53 : decode cX7_coverOf 53 = .ok (.goto (-43), 3) := by decide +kernel
theorem dX7_coverOf_56 : decode cX7_coverOf 56 = .ok (.iload_n 3, 1) := by decide +kernel
theorem dX7_coverOf_57 : decode cX7_coverOf 57 = .ok (.ireturn, 1) := by decide +kernel
set_option maxRecDepth 20000 in
theorem ggX7_shortOf_X7_needOf : GoodIn wsX7_shortOf wsX7_needOf := goodIn_r _ [5, 6, 34, 35, 36, 37, 38, 39, 40, 41, 42, 43, 44, 45, 46, 47, 48, 49, 50, 51, 52, 53, 54, 55, 56] (by decide +kernel) (by decide +kernel)
set_option maxRecDepth 20000 in
theorem gX7_shortOf_X7_needOf : GoodIn wsX7_shortOf (wsV RX7 171 RX7 yX7_needOf wsX7_needOf) := goodIn_app (goodIn_of _ (by decide +kernel)) ggX7_shortOf_X7_needOf
set_option maxRecDepth 20000 in
theorem ggX7_shortOf_X7_coverOf : GoodIn wsX7_shortOf wsX7_coverOf := goodIn_r _ [10, 6, 11, 12, 13, 4, 14, 15, 16, 17, 18, 19, 20, 21, 22, 23, 24, 25, 26, 27, 28, 29, 30, 31, 32, 33, 34, 35, 36, 37, 38, 39, 40, 41, 42, 43, 44, 45, 46, 47, 48, 49, 50, 51, 52, 53, 54, 55, 56] (by decide +kernel) (by decide +kernel)
set_option maxRecDepth 20000 in
theorem gX7_shortOf_X7_coverOf : GoodIn wsX7_shortOf (wsV RX7 174 RX7 yX7_coverOf wsX7_coverOf) := goodIn_app (goodIn_of _ (by decide +kernel)) ggX7_shortOf_X7_coverOf
theorem dX7_shortOf_0 : decode cX7_shortOf 0 = .ok (.aload_n 0, 1) := by decide +kernel
theorem dX7_shortOf_1 : decode cX7_shortOf 1 = .ok (.iload_n 1, 1) := by decide +kernel
theorem dX7_shortOf_2 : decode cX7_shortOf 2 = .ok (.iload_n 2, 1) := by decide +kernel
theorem dX7_shortOf_3 : decode cX7_shortOf 3 = .ok (.invokevirtual 171, 3) := by decide +kernel
theorem dX7_shortOf_6 : decode cX7_shortOf 6 = .ok (.aload_n 0, 1) := by decide +kernel
theorem dX7_shortOf_7 : decode cX7_shortOf 7 = .ok (.iload_n 1, 1) := by decide +kernel
theorem dX7_shortOf_8 : decode cX7_shortOf 8 = .ok (.iload_n 2, 1) := by decide +kernel
theorem dX7_shortOf_9 : decode cX7_shortOf 9 = .ok (.invokevirtual 174, 3) := by decide +kernel
theorem dX7_shortOf_12 : decode cX7_shortOf 12 = .ok (.isub, 1) := by decide +kernel
theorem dX7_shortOf_13 : decode cX7_shortOf 13 = .ok (.istore_n 3, 1) := by decide +kernel
theorem dX7_shortOf_14 : decode cX7_shortOf 14 = .ok (.iload_n 3, 1) := by decide +kernel
theorem dX7_shortOf_15 : decode cX7_shortOf 15 = .ok (.ifCond .ge 7, 3) := by decide +kernel
theorem dX7_shortOf_18 : decode cX7_shortOf 18 = .ok (.iconst 0, 1) := by decide +kernel
theorem dX7_shortOf_19 : decode cX7_shortOf 19 = .ok (.goto 4, 3) := by decide +kernel
theorem dX7_shortOf_22 : decode cX7_shortOf 22 = .ok (.iload_n 3, 1) := by decide +kernel
theorem dX7_shortOf_23 : decode cX7_shortOf 23 = .ok (.ireturn, 1) := by decide +kernel
set_option maxRecDepth 20000 in
theorem ggX7_shortIn_X7_shortOf : GoodIn wsX7_shortIn wsX7_shortOf := goodIn_r _ [6, 7, 8, 9, 5, 10, 1, 11, 12, 13, 14, 15, 16, 17, 18, 19, 20, 21, 22, 23, 24, 25, 26, 27, 28, 29, 30, 31, 32, 33, 34, 35, 36, 37, 38, 39, 40, 41, 42, 43, 44, 45, 46, 47, 48, 49, 50, 51, 52, 53, 54, 55, 56, 57, 58, 59, 60] (by decide +kernel) (by decide +kernel)
set_option maxRecDepth 20000 in
theorem gX7_shortIn_X7_shortOf : GoodIn wsX7_shortIn (wsV RX7 177 RX7 yX7_shortOf wsX7_shortOf) := goodIn_app (goodIn_of _ (by decide +kernel)) ggX7_shortIn_X7_shortOf
theorem dX7_shortIn_0 : decode cX7_shortIn 0 = .ok (.iconst 0, 1) := by decide +kernel
theorem dX7_shortIn_1 : decode cX7_shortIn 1 = .ok (.istore_n 2, 1) := by decide +kernel
theorem dX7_shortIn_2 : decode cX7_shortIn 2 = .ok (.iconst 0, 1) := by decide +kernel
theorem dX7_shortIn_3 : decode cX7_shortIn 3 = .ok (.istore_n 3, 1) := by decide +kernel
theorem dX7_shortIn_4 : decode cX7_shortIn 4 = .ok (.iload_n 3, 1) := by decide +kernel
theorem dX7_shortIn_5 : decode cX7_shortIn 5 = .ok (.aload_n 0, 1) := by decide +kernel
theorem dX7_shortIn_6 : decode cX7_shortIn 6 = .ok (.getfield 74, 3) := by decide +kernel
theorem dX7_shortIn_9 : decode cX7_shortIn 9 = .ok (.iconst 0, 1) := by decide +kernel
theorem dX7_shortIn_10 : decode cX7_shortIn 10 = .ok (.iaload, 1) := by decide +kernel
theorem dX7_shortIn_11 : decode cX7_shortIn 11 = .ok (.if_icmp .ge 18, 3) := by decide +kernel
theorem dX7_shortIn_14 : decode cX7_shortIn 14 = .ok (.iload_n 2, 1) := by decide +kernel
theorem dX7_shortIn_15 : decode cX7_shortIn 15 = .ok (.aload_n 0, 1) := by decide +kernel
theorem dX7_shortIn_16 : decode cX7_shortIn 16 = .ok (.iload_n 3, 1) := by decide +kernel
theorem dX7_shortIn_17 : decode cX7_shortIn 17 = .ok (.iload_n 1, 1) := by decide +kernel
theorem dX7_shortIn_18 : decode cX7_shortIn 18 = .ok (.invokevirtual 177, 3) := by decide +kernel
theorem dX7_shortIn_21 : decode cX7_shortIn 21 = .ok (.iadd, 1) := by decide +kernel
theorem dX7_shortIn_22 : decode cX7_shortIn 22 = .ok (.istore_n 2, 1) := by decide +kernel
theorem dX7_shortIn_23 : decode cX7_shortIn 23 = .ok (.iinc 3 1, 3) := by decide +kernel
theorem dX7_shortIn_26 : decode cX7_shortIn 26 = .ok (.goto (-22), 3) := by decide +kernel
theorem dX7_shortIn_29 : decode cX7_shortIn 29 = .ok (.iload_n 2, 1) := by decide +kernel
theorem dX7_shortIn_30 : decode cX7_shortIn 30 = .ok (.ireturn, 1) := by decide +kernel
set_option maxRecDepth 20000 in
theorem ggX7_shortfall_X7_shortIn : GoodIn wsX7_shortfall wsX7_shortIn := goodIn_r _ [5, 6, 7, 8, 9, 4, 10, 11, 12, 13, 14, 15, 16, 17, 18, 19, 20, 21, 22, 23, 24, 25, 26, 27, 28, 29, 30, 31, 32, 33, 34, 35, 36, 37, 38, 39, 40, 41, 42, 43, 44, 45, 46, 47, 48, 49, 50, 51, 52, 53, 54, 55, 56, 57, 58, 59, 60, 61, 62, 63, 64] (by decide +kernel) (by decide +kernel)
set_option maxRecDepth 20000 in
theorem gX7_shortfall_X7_shortIn : GoodIn wsX7_shortfall (wsV RX7 180 RX7 yX7_shortIn wsX7_shortIn) := goodIn_app (goodIn_of _ (by decide +kernel)) ggX7_shortfall_X7_shortIn
theorem dX7_shortfall_0 : decode cX7_shortfall 0 = .ok (.iconst 0, 1) := by decide +kernel
theorem dX7_shortfall_1 : decode cX7_shortfall 1 = .ok (.istore_n 1, 1) := by decide +kernel
theorem dX7_shortfall_2 : decode cX7_shortfall 2 = .ok (.iconst 0, 1) := by decide +kernel
theorem dX7_shortfall_3 : decode cX7_shortfall 3 = .ok (.istore_n 2, 1) := by decide +kernel
theorem dX7_shortfall_4 : decode cX7_shortfall 4 = .ok (.iload_n 2, 1) := by decide +kernel
theorem dX7_shortfall_5 : decode cX7_shortfall 5 = .ok (.bipush 48, 2) := by decide +kernel
theorem dX7_shortfall_7 : decode cX7_shortfall 7 = .ok (.if_icmp .ge 17, 3) := by decide +kernel
theorem dX7_shortfall_10 : decode cX7_shortfall 10 = .ok (.iload_n 1, 1) := by decide +kernel
theorem dX7_shortfall_11 : decode cX7_shortfall 11 = .ok (.aload_n 0, 1) := by decide +kernel
theorem dX7_shortfall_12 : decode cX7_shortfall 12 = .ok (.iload_n 2, 1) := by decide +kernel
theorem dX7_shortfall_13 : decode cX7_shortfall 13 = .ok (.invokevirtual 180, 3) := by decide +kernel
theorem dX7_shortfall_16 : decode cX7_shortfall 16 = .ok (.iadd, 1) := by decide +kernel
theorem dX7_shortfall_17 : decode cX7_shortfall 17 = .ok (.istore_n 1, 1) := by decide +kernel
theorem dX7_shortfall_18 : decode cX7_shortfall 18 = .ok (.iinc 2 1, 3) := by decide +kernel
theorem dX7_shortfall_21 : decode cX7_shortfall 21 = .ok (.goto (-17), 3) := by decide +kernel
theorem dX7_shortfall_24 : decode cX7_shortfall 24 = .ok (.iload_n 1, 1) := by decide +kernel
theorem dX7_shortfall_25 : decode cX7_shortfall 25 = .ok (.ireturn, 1) := by decide +kernel
set_option maxRecDepth 20000 in
theorem ggX7_whyNot_X7_its : GoodIn wsX7_whyNot wsX7_its := goodIn_r _ [6, 1, 14, 15, 16, 17, 18, 19, 20, 21, 22, 23, 24, 25, 26, 27, 28, 29, 30, 31, 32, 33, 34, 35, 36] (by decide +kernel) (by decide +kernel)
set_option maxRecDepth 20000 in
theorem gX7_whyNot_X7_its : GoodIn wsX7_whyNot (wsV RX7 155 RX7 yX7_its wsX7_its) := goodIn_app (goodIn_of _ (by decide +kernel)) ggX7_whyNot_X7_its
set_option maxRecDepth 20000 in
theorem ggX7_whyNot_X7_isIn : GoodIn wsX7_whyNot wsX7_isIn := goodIn_r _ [9] (by decide +kernel) (by decide +kernel)
set_option maxRecDepth 20000 in
theorem gX7_whyNot_X7_isIn : GoodIn wsX7_whyNot (va_wsS RX7 102 yX7_isIn wsX7_isIn) := goodIn_app (goodIn_of _ (by decide +kernel)) ggX7_whyNot_X7_isIn
set_option maxRecDepth 20000 in
theorem ggX7_whyNot_X7_placeOf : GoodIn wsX7_whyNot wsX7_placeOf := goodIn_r _ [13, 2, 3, 4, 5, 6, 1, 14, 15, 16, 17, 18, 19, 20, 21, 22, 23, 24, 25, 26, 27, 28, 29, 30, 31, 32, 33, 34, 35, 36] (by decide +kernel) (by decide +kernel)
set_option maxRecDepth 20000 in
theorem gX7_whyNot_X7_placeOf : GoodIn wsX7_whyNot (wsV RX7 162 RX7 yX7_placeOf wsX7_placeOf) := goodIn_app (goodIn_of _ (by decide +kernel)) ggX7_whyNot_X7_placeOf
theorem dX7_whyNot_0 : decode cX7_whyNot 0 = .ok (.iload_n 2, 1) := by decide +kernel
theorem dX7_whyNot_1 : decode cX7_whyNot 1 = .ok (.aload_n 0, 1) := by decide +kernel
theorem dX7_whyNot_2 : decode cX7_whyNot 2 = .ok (.iload_n 1, 1) := by decide +kernel
theorem dX7_whyNot_3 : decode cX7_whyNot 3 = .ok (.iconst 2, 1) := by decide +kernel
theorem dX7_whyNot_4 : decode cX7_whyNot 4 = .ok (.invokevirtual 155, 3) := by decide +kernel
theorem dX7_whyNot_7 : decode cX7_whyNot 7 = .ok (.aload_n 0, 1) := by decide +kernel
theorem dX7_whyNot_8 : decode cX7_whyNot 8 = .ok (.iload_n 1, 1) := by decide +kernel
theorem dX7_whyNot_9 : decode cX7_whyNot 9 = .ok (.iconst 3, 1) := by decide +kernel
theorem dX7_whyNot_10 : decode cX7_whyNot 10 = .ok (.invokevirtual 155, 3) := by decide +kernel
theorem dX7_whyNot_13 : decode cX7_whyNot 13 = .ok (.invokestatic 102, 3) := by decide +kernel
theorem dX7_whyNot_16 : decode cX7_whyNot 16 = .ok (.ifCond .ne 5, 3) := by decide +kernel
theorem dX7_whyNot_19 : decode cX7_whyNot 19 = .ok (.iconst 1, 1) := by decide +kernel
theorem dX7_whyNot_20 : decode cX7_whyNot 20 = .ok (.ireturn, 1) := by decide +kernel
theorem dX7_whyNot_21 : decode cX7_whyNot 21 = .ok (.iconst 0, 1) := by decide +kernel
theorem dX7_whyNot_22 : decode cX7_whyNot 22 = .ok (.istore_n 3, 1) := by decide +kernel
theorem dX7_whyNot_23 : decode cX7_whyNot 23 = .ok (.iload_n 3, 1) := by decide +kernel
theorem dX7_whyNot_24 : decode cX7_whyNot 24 = .ok (.aload_n 0, 1) := by decide +kernel
theorem dX7_whyNot_25 : decode cX7_whyNot 25 = .ok (.getfield 74, 3) := by decide +kernel
theorem dX7_whyNot_28 : decode cX7_whyNot 28 = .ok (.iconst 3, 1) := by decide +kernel
theorem dX7_whyNot_29 : decode cX7_whyNot 29 = .ok (.iaload, 1) := by decide +kernel
theorem dX7_whyNot_30 : decode cX7_whyNot 30 = .ok (.if_icmp .ge 75, 3) := by decide +kernel
theorem dX7_whyNot_33 : decode cX7_whyNot 33 = .ok (.iload_n 3, 1) := by decide +kernel
theorem dX7_whyNot_34 : decode cX7_whyNot 34 = .ok (.iload_n 1, 1) := by decide +kernel
theorem dX7_whyNot_35 : decode cX7_whyNot 35 = .ok (.if_icmp .eq 64, 3) := by decide +kernel
theorem dX7_whyNot_38 : decode cX7_whyNot 38 = .ok (.aload_n 0, 1) := by decide +kernel
theorem dX7_whyNot_39 : decode cX7_whyNot 39 = .ok (.iload_n 3, 1) := by decide +kernel
theorem dX7_whyNot_40 : decode cX7_whyNot 40 = .ok (.iconst 0, 1) := by decide +kernel
theorem dX7_whyNot_41 : decode cX7_whyNot 41 = .ok (.invokevirtual 155, 3) := by decide +kernel
theorem dX7_whyNot_44 : decode cX7_whyNot 44 = .ok (.aload_n 0, 1) := by decide +kernel
theorem dX7_whyNot_45 : decode cX7_whyNot 45 = .ok (.iload_n 1, 1) := by decide +kernel
theorem dX7_whyNot_46 : decode cX7_whyNot 46 = .ok (.iconst 0, 1) := by decide +kernel
theorem dX7_whyNot_47 : decode cX7_whyNot 47 = .ok (.invokevirtual 155, 3) := by decide +kernel
theorem dX7_whyNot_50 : decode cX7_whyNot 50 = .ok (.if_icmp .ne 49, 3) := by decide +kernel
theorem dX7_whyNot_53 : decode cX7_whyNot 53 = .ok (.aload_n 0, 1) := by decide +kernel
theorem dX7_whyNot_54 : decode cX7_whyNot 54 = .ok (.iload_n 3, 1) := by decide +kernel
theorem dX7_whyNot_55 : decode cX7_whyNot 55 = .ok (.invokevirtual 162, 3) := by decide +kernel
theorem dX7_whyNot_58 : decode cX7_whyNot 58 = .ok (.iconst (-1), 1) := by decide +kernel
theorem dX7_whyNot_59 : decode cX7_whyNot 59 = .ok (.if_icmp .ne 6, 3) := by decide +kernel
theorem dX7_whyNot_62 : decode cX7_whyNot 62 = .ok (.goto 37, 3) := by decide +kernel
theorem dX7_whyNot_65 : decode cX7_whyNot 65 = .ok (.iload_n 2, 1) := by decide +kernel
theorem dX7_whyNot_66 : decode cX7_whyNot 66 = .ok (.aload_n 0, 1) := by decide +kernel
theorem dX7_whyNot_67 : decode cX7_whyNot 67 = .ok (.iload_n 3, 1) := by decide +kernel
theorem dX7_whyNot_68 : decode cX7_whyNot 68 = .ok (.invokevirtual 162, 3) := by decide +kernel
theorem dX7_whyNot_71 : decode cX7_whyNot 71 = .ok (.aload_n 0, 1) := by decide +kernel
theorem dX7_whyNot_72 : decode cX7_whyNot 72 = .ok (.iload_n 3, 1) := by decide +kernel
theorem dX7_whyNot_73 : decode cX7_whyNot 73 = .ok (.iconst 1, 1) := by decide +kernel
theorem dX7_whyNot_74 : decode cX7_whyNot 74 = .ok (.invokevirtual 155, 3) := by decide +kernel
theorem dX7_whyNot_77 : decode cX7_whyNot 77 = .ok (.iadd, 1) := by decide +kernel
theorem dX7_whyNot_78 : decode cX7_whyNot 78 = .ok (.if_icmp .gt 21, 3) := by decide +kernel
theorem dX7_whyNot_81 : decode cX7_whyNot 81 = .ok (.aload_n 0, 1) := by decide +kernel
theorem dX7_whyNot_82 : decode cX7_whyNot 82 = .ok (.iload_n 3, 1) := by decide +kernel
theorem dX7_whyNot_83 : decode cX7_whyNot 83 = .ok (.invokevirtual 162, 3) := by decide +kernel
theorem dX7_whyNot_86 : decode cX7_whyNot 86 = .ok (.iload_n 2, 1) := by decide +kernel
theorem dX7_whyNot_87 : decode cX7_whyNot 87 = .ok (.aload_n 0, 1) := by decide +kernel
theorem dX7_whyNot_88 : decode cX7_whyNot 88 = .ok (.iload_n 1, 1) := by decide +kernel
theorem dX7_whyNot_89 : decode cX7_whyNot 89 = .ok (.iconst 1, 1) := by decide +kernel
theorem dX7_whyNot_90 : decode cX7_whyNot 90 = .ok (.invokevirtual 155, 3) := by decide +kernel
theorem dX7_whyNot_93 : decode cX7_whyNot 93 = .ok (.iadd, 1) := by decide +kernel
theorem dX7_whyNot_94 : decode cX7_whyNot 94 = .ok (.if_icmp .gt 5, 3) := by decide +kernel
theorem dX7_whyNot_97 : decode cX7_whyNot 97 = .ok (.iconst 2, 1) := by decide +kernel
theorem dX7_whyNot_98 : decode cX7_whyNot 98 = .ok (.ireturn, 1) := by decide +kernel
theorem dX7_whyNot_99 : decode cX7_whyNot 99 = .ok (.iinc 3 1, 3) := by decide +kernel
theorem dX7_whyNot_102 : decode cX7_whyNot 102 = .ok (.goto (-79), 3) := by decide +kernel
theorem dX7_whyNot_105 : decode cX7_whyNot 105 = .ok (.iconst 0, 1) := by decide +kernel
theorem dX7_whyNot_106 : decode cX7_whyNot 106 = .ok (.ireturn, 1) := by decide +kernel
set_option maxRecDepth 20000 in
theorem ggX7_scoreAt_X7_placeOf : GoodIn wsX7_scoreAt wsX7_placeOf := goodIn_r _ [5, 6, 7, 8, 4, 9, 10, 50, 51, 52, 53, 54, 55, 56, 57, 58, 59, 60, 61, 62, 63, 64, 65, 66, 67, 68, 69, 70, 71, 72] (by decide +kernel) (by decide +kernel)
set_option maxRecDepth 20000 in
theorem gX7_scoreAt_X7_placeOf : GoodIn wsX7_scoreAt (wsV RX7 162 RX7 yX7_placeOf wsX7_placeOf) := goodIn_app (goodIn_of _ (by decide +kernel)) ggX7_scoreAt_X7_placeOf
set_option maxRecDepth 20000 in
theorem ggX7_scoreAt_X7_lies : GoodIn wsX7_scoreAt wsX7_lies := goodIn_r _ [14, 10, 50, 51, 52, 53, 54, 55, 56, 57, 58, 59, 60, 61, 62, 63, 64, 65, 66, 67, 68, 69, 70, 71, 72] (by decide +kernel) (by decide +kernel)
set_option maxRecDepth 20000 in
theorem gX7_scoreAt_X7_lies : GoodIn wsX7_scoreAt (wsV RX7 183 RX7 yX7_lies wsX7_lies) := goodIn_app (goodIn_of _ (by decide +kernel)) ggX7_scoreAt_X7_lies
set_option maxRecDepth 20000 in
theorem ggX7_scoreAt_X7_shortfall : GoodIn wsX7_scoreAt wsX7_shortfall := goodIn_r _ [18, 19, 20, 21, 4, 22, 10, 23, 24, 25, 26, 27, 28, 29, 30, 31, 32, 33, 34, 35, 36, 37, 38, 39, 40, 41, 42, 43, 44, 45, 6, 7, 8, 9, 46, 47, 48, 49, 1, 2, 3, 5, 50, 51, 52, 53, 54, 55, 56, 57, 58, 59, 60, 61, 62, 63, 64, 65, 66, 67, 68, 69, 70, 71, 72] (by decide +kernel) (by decide +kernel)
set_option maxRecDepth 20000 in
theorem gX7_scoreAt_X7_shortfall : GoodIn wsX7_scoreAt (wsV RX7 187 RX7 yX7_shortfall wsX7_shortfall) := goodIn_app (goodIn_of _ (by decide +kernel)) ggX7_scoreAt_X7_shortfall
theorem dX7_scoreAt_0 : decode cX7_scoreAt 0 = .ok (.aload_n 0, 1) := by decide +kernel
theorem dX7_scoreAt_1 : decode cX7_scoreAt 1 = .ok (.iload_n 1, 1) := by decide +kernel
theorem dX7_scoreAt_2 : decode cX7_scoreAt 2 = .ok (.invokevirtual 162, 3) := by decide +kernel
theorem dX7_scoreAt_5 : decode cX7_scoreAt 5 = .ok (.istore_n 3, 1) := by decide +kernel
theorem dX7_scoreAt_6 : decode cX7_scoreAt 6 = .ok (.aload_n 0, 1) := by decide +kernel
theorem dX7_scoreAt_7 : decode cX7_scoreAt 7 = .ok (.iload_n 1, 1) := by decide +kernel
theorem dX7_scoreAt_8 : decode cX7_scoreAt 8 = .ok (.iload_n 2, 1) := by decide +kernel
theorem dX7_scoreAt_9 : decode cX7_scoreAt 9 = .ok (.invokevirtual 183, 3) := by decide +kernel
theorem dX7_scoreAt_12 : decode cX7_scoreAt 12 = .ok (.aload_n 0, 1) := by decide +kernel
theorem dX7_scoreAt_13 : decode cX7_scoreAt 13 = .ok (.invokevirtual 187, 3) := by decide +kernel
theorem dX7_scoreAt_16 : decode cX7_scoreAt 16 = .ok (.istore 4, 2) := by decide +kernel
theorem dX7_scoreAt_18 : decode cX7_scoreAt 18 = .ok (.aload_n 0, 1) := by decide +kernel
theorem dX7_scoreAt_19 : decode cX7_scoreAt 19 = .ok (.iload_n 1, 1) := by decide +kernel
theorem dX7_scoreAt_20 : decode cX7_scoreAt 20 = .ok (.iload_n 3, 1) := by decide +kernel
theorem dX7_scoreAt_21 : decode cX7_scoreAt 21 = .ok (.invokevirtual 183, 3) := by decide +kernel
theorem dX7_scoreAt_24 : decode cX7_scoreAt 24 = .ok (.iload 4, 2) := by decide +kernel
theorem dX7_scoreAt_26 : decode cX7_scoreAt 26 = .ok (.ireturn, 1) := by decide +kernel
set_option maxRecDepth 20000 in
theorem ggX7_bestOf_X7_its : GoodIn wsX7_bestOf wsX7_its := goodIn_r _ [5, 6, 58, 59, 60, 61, 62, 63, 64, 65, 66, 67, 68, 69, 70, 71, 72, 73, 74, 75, 76, 77, 78, 79, 80] (by decide +kernel) (by decide +kernel)
set_option maxRecDepth 20000 in
theorem gX7_bestOf_X7_its : GoodIn wsX7_bestOf (wsV RX7 155 RX7 yX7_its wsX7_its) := goodIn_app (goodIn_of _ (by decide +kernel)) ggX7_bestOf_X7_its
set_option maxRecDepth 20000 in
theorem ggX7_bestOf_X7_whyNot : GoodIn wsX7_bestOf wsX7_whyNot := goodIn_r _ [10, 6, 1, 2, 3, 4, 5, 11, 12, 13, 14, 15, 16, 17, 58, 59, 60, 61, 62, 63, 64, 65, 66, 67, 68, 69, 70, 71, 72, 73, 74, 75, 76, 77, 78, 79, 80] (by decide +kernel) (by decide +kernel)
set_option maxRecDepth 20000 in
theorem gX7_bestOf_X7_whyNot : GoodIn wsX7_bestOf (wsV RX7 191 RX7 yX7_whyNot wsX7_whyNot) := goodIn_app (goodIn_of _ (by decide +kernel)) ggX7_bestOf_X7_whyNot
set_option maxRecDepth 20000 in
theorem ggX7_bestOf_X7_scoreAt : GoodIn wsX7_bestOf wsX7_scoreAt := goodIn_r _ [21, 14, 15, 16, 4, 17, 1, 2, 3, 5, 6, 22, 23, 24, 25, 26, 27, 28, 29, 30, 31, 32, 33, 34, 35, 36, 37, 38, 39, 40, 41, 42, 43, 44, 45, 46, 47, 48, 49, 50, 51, 52, 53, 11, 12, 13, 54, 55, 56, 57, 58, 59, 60, 61, 62, 63, 64, 65, 66, 67, 68, 69, 70, 71, 72, 73, 74, 75, 76, 77, 78, 79, 80] (by decide +kernel) (by decide +kernel)
set_option maxRecDepth 20000 in
theorem gX7_bestOf_X7_scoreAt : GoodIn wsX7_bestOf (wsV RX7 194 RX7 yX7_scoreAt wsX7_scoreAt) := goodIn_app (goodIn_of _ (by decide +kernel)) ggX7_bestOf_X7_scoreAt
theorem dX7_bestOf_0 : decode cX7_bestOf 0 = .ok (.bipush (-2), 2) := by decide +kernel
theorem dX7_bestOf_2 : decode cX7_bestOf 2 = .ok (.istore_n 2, 1) := by decide +kernel
theorem dX7_bestOf_3 : decode cX7_bestOf 3 = .ok (.iconst 0, 1) := by decide +kernel
