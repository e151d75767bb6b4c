theorem dX2_acceptWord_81 : decode cX2_acceptWord 81 = .ok (.putfield 28, 3) := by decide +kernel
theorem dX2_acceptWord_84 : decode cX2_acceptWord 84 = .ok (.aload_n 0, 1) := by decide +kernel
theorem dX2_acceptWord_85 : decode cX2_acceptWord 85 = .ok (.aload_n 0, 1) := by decide +kernel
theorem dX2_acceptWord_86 : decode cX2_acceptWord 86 = .ok (.getfield 15, 3) := by decide +kernel
theorem dX2_acceptWord_89 : decode cX2_acceptWord 89 = .ok (.invokevirtual 120, 3) := by decide +kernel
theorem dX2_acceptWord_92 : decode cX2_acceptWord 92 = .ok (.bipush 7, 2) := by decide +kernel
theorem dX2_acceptWord_94 : decode cX2_acceptWord 94 = .ok (.invokevirtual 114, 3) := by decide +kernel
theorem dX2_acceptWord_97 : decode cX2_acceptWord 97 = .ok (.ireturn, 1) := by decide +kernel
theorem dX2_acceptWord_98 : decode cX2_acceptWord 98 = .ok (.aload_n 0, 1) := by decide +kernel
theorem dX2_acceptWord_99 : decode cX2_acceptWord 99 = .ok (.getfield 24, 3) := by decide +kernel
theorem dX2_acceptWord_102 : decode cX2_acceptWord 102 = .ok (.iconst 3, 1) := by decide +kernel
theorem dX2_acceptWord_103 : decode cX2_acceptWord 103 = .ok (.if_icmp .ne 26, 3) := by decide +kernel
theorem dX2_acceptWord_106 : decode cX2_acceptWord 106 = .ok (.aload_n 0, 1) := by decide +kernel
theorem dX2_acceptWord_107 : decode cX2_acceptWord 107 = .ok (.ldc 123, 2) := by decide +kernel
theorem dX2_acceptWord_109 : decode cX2_acceptWord 109 = .ok (.invokevirtual 104, 3) := by decide +kernel
theorem dX2_acceptWord_112 : decode cX2_acceptWord 112 = .ok (.ifCond .eq 17, 3) := by decide +kernel
theorem dX2_acceptWord_115 : decode cX2_acceptWord 115 = .ok (.aload_n 0, 1) := by decide +kernel
theorem dX2_acceptWord_116 : decode cX2_acceptWord 116 = .ok (.aload_n 0, 1) := by decide +kernel
theorem dX2_acceptWord_117 : decode cX2_acceptWord 117 = .ok (.getfield 15, 3) := by decide +kernel
theorem dX2_acceptWord_120 : decode cX2_acceptWord 120 = .ok (.invokevirtual 125, 3) := by decide +kernel
theorem dX2_acceptWord_123 : decode cX2_acceptWord 123 = .ok (.bipush 11, 2) := by decide +kernel
theorem dX2_acceptWord_125 : decode cX2_acceptWord 125 = .ok (.invokevirtual 114, 3) := by decide +kernel
theorem dX2_acceptWord_128 : decode cX2_acceptWord 128 = .ok (.ireturn, 1) := by decide +kernel
theorem dX2_acceptWord_129 : decode cX2_acceptWord 129 = .ok (.iconst 1, 1) := by decide +kernel
theorem dX2_acceptWord_130 : decode cX2_acceptWord 130 = .ok (.ireturn, 1) := by decide +kernel
theorem dX2_beginPart_0 : decode cX2_beginPart 0 = .ok (.aload_n 0, 1) := by decide +kernel
theorem dX2_beginPart_1 : decode cX2_beginPart 1 = .ok (.iload_n 2, 1) := by decide +kernel
theorem dX2_beginPart_2 : decode cX2_beginPart 2 = .ok (.putfield 24, 3) := by decide +kernel
theorem dX2_beginPart_5 : decode cX2_beginPart 5 = .ok (.iload_n 1, 1) := by decide +kernel
theorem dX2_beginPart_6 : decode cX2_beginPart 6 = .ok (.ifCond .eq 7, 3) := by decide +kernel
theorem dX2_beginPart_9 : decode cX2_beginPart 9 = .ok (.iconst 3, 1) := by decide +kernel
theorem dX2_beginPart_10 : decode cX2_beginPart 10 = .ok (.goto 4, 3) := by decide +kernel
theorem dX2_beginPart_13 : decode cX2_beginPart 13 = .ok (.iconst 0, 1) := by decide +kernel
theorem dX2_beginPart_14 : decode cX2_beginPart 14 = .ok (.ireturn, 1) := by decide +kernel
theorem dX2_acceptSign_0 : decode cX2_acceptSign 0 = .ok (.aload_n 0, 1) := by decide +kernel
theorem dX2_acceptSign_1 : decode cX2_acceptSign 1 = .ok (.getfield 24, 3) := by decide +kernel
theorem dX2_acceptSign_4 : decode cX2_acceptSign 4 = .ok (.iconst 4, 1) := by decide +kernel
theorem dX2_acceptSign_5 : decode cX2_acceptSign 5 = .ok (.if_icmp .eq 13, 3) := by decide +kernel
theorem dX2_acceptSign_8 : decode cX2_acceptSign 8 = .ok (.aload_n 0, 1) := by decide +kernel
theorem dX2_acceptSign_9 : decode cX2_acceptSign 9 = .ok (.getfield 24, 3) := by decide +kernel
theorem dX2_acceptSign_12 : decode cX2_acceptSign 12 = .ok (.iconst 3, 1) := by decide +kernel
theorem dX2_acceptSign_13 : decode cX2_acceptSign 13 = .ok (.if_icmp .eq 5, 3) := by decide +kernel
theorem dX2_acceptSign_16 : decode cX2_acceptSign 16 = .ok (.iconst 1, 1) := by decide +kernel
theorem dX2_acceptSign_17 : decode cX2_acceptSign 17 = .ok (.ireturn, 1) := by decide +kernel
theorem dX2_acceptSign_18 : decode cX2_acceptSign 18 = .ok (.aload_n 0, 1) := by decide +kernel
theorem dX2_acceptSign_19 : decode cX2_acceptSign 19 = .ok (.getfield 15, 3) := by decide +kernel
theorem dX2_acceptSign_22 : decode cX2_acceptSign 22 = .ok (.dup, 1) := by decide +kernel
theorem dX2_acceptSign_23 : decode cX2_acceptSign 23 = .ok (.getfield 128, 3) := by decide +kernel
theorem dX2_acceptSign_26 : decode cX2_acceptSign 26 = .ok (.iconst 1, 1) := by decide +kernel
theorem dX2_acceptSign_27 : decode cX2_acceptSign 27 = .ok (.iadd, 1) := by decide +kernel
theorem dX2_acceptSign_28 : decode cX2_acceptSign 28 = .ok (.putfield 128, 3) := by decide +kernel
theorem dX2_acceptSign_31 : decode cX2_acceptSign 31 = .ok (.aload_n 0, 1) := by decide +kernel
theorem dX2_acceptSign_32 : decode cX2_acceptSign 32 = .ok (.aload_n 0, 1) := by decide +kernel
theorem dX2_acceptSign_33 : decode cX2_acceptSign 33 = .ok (.getfield 28, 3) := by decide +kernel
theorem dX2_acceptSign_36 : decode cX2_acceptSign 36 = .ok (.ifCond .eq 7, 3) := by decide +kernel
theorem dX2_acceptSign_39 : decode cX2_acceptSign 39 = .ok (.iconst 2, 1) := by decide +kernel
theorem dX2_acceptSign_40 : decode cX2_acceptSign 40 = .ok (.goto 4, 3) := by decide +kernel
theorem dX2_acceptSign_43 : decode cX2_acceptSign 43 = .ok (.iconst 1, 1) := by decide +kernel
theorem dX2_acceptSign_44 : decode cX2_acceptSign 44 = .ok (.putfield 24, 3) := by decide +kernel
theorem dX2_acceptSign_47 : decode cX2_acceptSign 47 = .ok (.iconst 0, 1) := by decide +kernel
theorem dX2_acceptSign_48 : decode cX2_acceptSign 48 = .ok (.ireturn, 1) := by decide +kernel
set_option maxRecDepth 20000 in
theorem ggX2_acceptNumber_X2_lowestNumber : GoodIn wsX2_acceptNumber wsX2_lowestNumber := goodIn_r _ [6, 1, 7, 8, 65, 66, 67, 68, 69, 70, 71, 72, 73, 74, 75, 76, 77] (by decide +kernel) (by decide +kernel)
set_option maxRecDepth 20000 in
theorem gX2_acceptNumber_X2_lowestNumber : GoodIn wsX2_acceptNumber (wsV RX2 131 RX2 yX2_lowestNumber wsX2_lowestNumber) := goodIn_app (goodIn_of _ (by decide +kernel)) ggX2_acceptNumber_X2_lowestNumber
set_option maxRecDepth 20000 in
theorem ggX2_acceptNumber_X2_highestNumber : GoodIn wsX2_acceptNumber wsX2_highestNumber := goodIn_r _ [12, 1, 13, 14, 15, 16, 65, 66, 67, 68, 69, 70, 71, 72, 73, 74, 75, 76, 77, 78, 79, 80, 81, 82, 83, 84, 85, 86, 87, 88, 89, 90, 91, 92, 93, 94] (by decide +kernel) (by decide +kernel)
set_option maxRecDepth 20000 in
theorem gX2_acceptNumber_X2_highestNumber : GoodIn wsX2_acceptNumber (wsV RX2 134 RX2 yX2_highestNumber wsX2_highestNumber) := goodIn_app (goodIn_of _ (by decide +kernel)) ggX2_acceptNumber_X2_highestNumber
set_option maxRecDepth 20000 in
theorem ggX2_acceptNumber_X2_keepNumber : GoodIn wsX2_acceptNumber wsX2_keepNumber := goodIn_r _ [20, 1, 13, 14, 21, 22, 7, 15, 23, 16, 8, 24, 25, 26, 27, 28, 29, 30, 31, 32, 33, 34, 35, 36, 37, 38, 39, 40, 41, 42, 43, 44, 45, 46, 47, 48, 49, 50, 51, 52, 53, 54, 55, 56, 57, 58, 59, 60, 61, 62, 63, 64, 65, 66, 67, 68, 69, 70, 71, 72, 73, 74, 75, 76, 77, 78, 79, 80, 81, 82, 83, 84, 85, 86, 87, 88, 89, 90, 91, 92, 93, 94] (by decide +kernel) (by decide +kernel)
set_option maxRecDepth 20000 in
theorem gX2_acceptNumber_X2_keepNumber : GoodIn wsX2_acceptNumber (wsV RX2 137 RX2 yX2_keepNumber wsX2_keepNumber) := goodIn_app (goodIn_of _ (by decide +kernel)) ggX2_acceptNumber_X2_keepNumber
theorem dX2_acceptNumber_0 : decode cX2_acceptNumber 0 = .ok (.aload_n 0, 1) := by decide +kernel
theorem dX2_acceptNumber_1 : decode cX2_acceptNumber 1 = .ok (.getfield 24, 3) := by decide +kernel
theorem dX2_acceptNumber_4 : decode cX2_acceptNumber 4 = .ok (.iconst 5, 1) := by decide +kernel
theorem dX2_acceptNumber_5 : decode cX2_acceptNumber 5 = .ok (.if_icmp .ge 5, 3) := by decide +kernel
theorem dX2_acceptNumber_8 : decode cX2_acceptNumber 8 = .ok (.iconst 1, 1) := by decide +kernel
theorem dX2_acceptNumber_9 : decode cX2_acceptNumber 9 = .ok (.ireturn, 1) := by decide +kernel
theorem dX2_acceptNumber_10 : decode cX2_acceptNumber 10 = .ok (.iload_n 1, 1) := by decide +kernel
theorem dX2_acceptNumber_11 : decode cX2_acceptNumber 11 = .ok (.aload_n 0, 1) := by decide +kernel
theorem dX2_acceptNumber_12 : decode cX2_acceptNumber 12 = .ok (.invokevirtual 131, 3) := by decide +kernel
theorem dX2_acceptNumber_15 : decode cX2_acceptNumber 15 = .ok (.if_icmp .lt 11, 3) := by decide +kernel
theorem dX2_acceptNumber_18 : decode cX2_acceptNumber 18 = .ok (.iload_n 1, 1) := by decide +kernel
theorem dX2_acceptNumber_19 : decode cX2_acceptNumber 19 = .ok (.aload_n 0, 1) := by decide +kernel
theorem dX2_acceptNumber_20 : decode cX2_acceptNumber 20 = .ok (.invokevirtual 134, 3) := by decide +kernel
theorem dX2_acceptNumber_23 : decode cX2_acceptNumber 23 = .ok (.if_icmp .le 5, 3) := by decide +kernel
theorem dX2_acceptNumber_26 : decode cX2_acceptNumber 26 = .ok (.iconst 2, 1) := by decide +kernel
theorem dX2_acceptNumber_27 : decode cX2_acceptNumber 27 = .ok (.ireturn, 1) := by decide +kernel
theorem dX2_acceptNumber_28 : decode cX2_acceptNumber 28 = .ok (.aload_n 0, 1) := by decide +kernel
theorem dX2_acceptNumber_29 : decode cX2_acceptNumber 29 = .ok (.iload_n 1, 1) := by decide +kernel
theorem dX2_acceptNumber_30 : decode cX2_acceptNumber 30 = .ok (.invokevirtual 137, 3) := by decide +kernel
theorem dX2_acceptNumber_33 : decode cX2_acceptNumber 33 = .ok (.iconst 0, 1) := by decide +kernel
theorem dX2_acceptNumber_34 : decode cX2_acceptNumber 34 = .ok (.ireturn, 1) := by decide +kernel
theorem dX2_lowestNumber_0 : decode cX2_lowestNumber 0 = .ok (.aload_n 0, 1) := by decide +kernel
theorem dX2_lowestNumber_1 : decode cX2_lowestNumber 1 = .ok (.getfield 24, 3) := by decide +kernel
theorem dX2_lowestNumber_4 : decode cX2_lowestNumber 4 = .ok (.tableswitch 64 5 13 #[52, 52, 64, 64, 54, 64, 52, 54, 59], 52) := by decide +kernel
theorem dX2_lowestNumber_56 : decode cX2_lowestNumber 56 = .ok (.iconst 1, 1) := by decide +kernel
theorem dX2_lowestNumber_57 : decode cX2_lowestNumber 57 = .ok (.ireturn, 1) := by decide +kernel
theorem dX2_lowestNumber_58 : decode cX2_lowestNumber 58 = .ok (.aload_n 0, 1) := by decide +kernel
theorem dX2_lowestNumber_59 : decode cX2_lowestNumber 59 = .ok (.getfield 141, 3) := by decide +kernel
theorem dX2_lowestNumber_62 : decode cX2_lowestNumber 62 = .ok (.ireturn, 1) := by decide +kernel
theorem dX2_lowestNumber_63 : decode cX2_lowestNumber 63 = .ok (.aload_n 0, 1) := by decide +kernel
theorem dX2_lowestNumber_64 : decode cX2_lowestNumber 64 = .ok (.getfield 144, 3) := by decide +kernel
theorem dX2_lowestNumber_67 : decode cX2_lowestNumber 67 = .ok (.ireturn, 1) := by decide +kernel
theorem dX2_lowestNumber_68 : decode cX2_lowestNumber 68 = .ok (.iconst 0, 1) := by decide +kernel
theorem dX2_lowestNumber_69 : decode cX2_lowestNumber 69 = .ok (.ireturn, 1) := by decide +kernel
theorem dX2_highestNumber_0 : decode cX2_highestNumber 0 = .ok (.aload_n 0, 1) := by decide +kernel
theorem dX2_highestNumber_1 : decode cX2_highestNumber 1 = .ok (.getfield 24, 3) := by decide +kernel
theorem dX2_highestNumber_4 : decode cX2_highestNumber 4 = .ok (.tableswitch 88 5 13 #[52, 54, 56, 88, 88, 66, 69, 71, 76], 52) := by decide +kernel
theorem dX2_highestNumber_56 : decode cX2_highestNumber 56 = .ok (.iconst 3, 1) := by decide +kernel
theorem dX2_highestNumber_57 : decode cX2_highestNumber 57 = .ok (.ireturn, 1) := by decide +kernel
theorem dX2_highestNumber_58 : decode cX2_highestNumber 58 = .ok (.iconst 4, 1) := by decide +kernel
theorem dX2_highestNumber_59 : decode cX2_highestNumber 59 = .ok (.ireturn, 1) := by decide +kernel
theorem dX2_highestNumber_60 : decode cX2_highestNumber 60 = .ok (.aload_n 0, 1) := by decide +kernel
theorem dX2_highestNumber_61 : decode cX2_highestNumber 61 = .ok (.getfield 15, 3) := by decide +kernel
theorem dX2_highestNumber_64 : decode cX2_highestNumber 64 = .ok (.getfield 147, 3) := by decide +kernel
theorem dX2_highestNumber_67 : decode cX2_highestNumber 67 = .ok (.iconst 1, 1) := by decide +kernel
theorem dX2_highestNumber_68 : decode cX2_highestNumber 68 = .ok (.isub, 1) := by decide +kernel
theorem dX2_highestNumber_69 : decode cX2_highestNumber 69 = .ok (.ireturn, 1) := by decide +kernel
theorem dX2_highestNumber_70 : decode cX2_highestNumber 70 = .ok (.bipush 9, 2) := by decide +kernel
theorem dX2_highestNumber_72 : decode cX2_highestNumber 72 = .ok (.ireturn, 1) := by decide +kernel
theorem dX2_highestNumber_73 : decode cX2_highestNumber 73 = .ok (.iconst 4, 1) := by decide +kernel
theorem dX2_highestNumber_74 : decode cX2_highestNumber 74 = .ok (.ireturn, 1) := by decide +kernel
theorem dX2_highestNumber_75 : decode cX2_highestNumber 75 = .ok (.aload_n 0, 1) := by decide +kernel
theorem dX2_highestNumber_76 : decode cX2_highestNumber 76 = .ok (.getfield 149, 3) := by decide +kernel
theorem dX2_highestNumber_79 : decode cX2_highestNumber 79 = .ok (.ireturn, 1) := by decide +kernel
theorem dX2_highestNumber_80 : decode cX2_highestNumber 80 = .ok (.aload_n 0, 1) := by decide +kernel
theorem dX2_highestNumber_81 : decode cX2_highestNumber 81 = .ok (.getfield 149, 3) := by decide +kernel
theorem dX2_highestNumber_84 : decode cX2_highestNumber 84 = .ok (.aload_n 0, 1) := by decide +kernel
theorem dX2_highestNumber_85 : decode cX2_highestNumber 85 = .ok (.getfield 152, 3) := by decide +kernel
theorem dX2_highestNumber_88 : decode cX2_highestNumber 88 = .ok (.isub, 1) := by decide +kernel
theorem dX2_highestNumber_89 : decode cX2_highestNumber 89 = .ok (.iconst 1, 1) := by decide +kernel
theorem dX2_highestNumber_90 : decode cX2_highestNumber 90 = .ok (.iadd, 1) := by decide +kernel
theorem dX2_highestNumber_91 : decode cX2_highestNumber 91 = .ok (.ireturn, 1) := by decide +kernel
theorem dX2_highestNumber_92 : decode cX2_highestNumber 92 = .ok (.bipush 47, 2) := by decide +kernel
theorem dX2_highestNumber_94 : decode cX2_highestNumber 94 = .ok (.ireturn, 1) := by decide +kernel
set_option maxRecDepth 20000 in
theorem ggX2_keepNumber_X1_addShift : GoodIn wsX2_keepNumber wsX1_addShift := goodIn_r _ [15, 16, 17, 18, 19, 20, 21, 22, 23, 24, 25, 26, 14, 27, 28, 29, 30, 31, 32, 33, 65, 66, 67, 68, 69, 70, 71, 72, 73, 74, 75, 76, 77, 78, 79, 80, 81] (by decide +kernel) (by decide +kernel)
set_option maxRecDepth 20000 in
theorem gX2_keepNumber_X1_addShift : GoodIn wsX2_keepNumber (wsV RX2 159 RX1 yX1_addShift wsX1_addShift) := goodIn_app (goodIn_of _ (by decide +kernel)) ggX2_keepNumber_X1_addShift
set_option maxRecDepth 20000 in
theorem ggX2_keepNumber_X1_addNeed : GoodIn wsX2_keepNumber wsX1_addNeed := goodIn_r _ [37, 38, 39, 28, 29, 30, 31, 32, 14, 33, 65, 66, 67, 68, 69, 70, 71, 72, 73, 74, 75, 76, 77, 78, 79, 80, 81] (by decide +kernel) (by decide +kernel)
set_option maxRecDepth 20000 in
theorem gX2_keepNumber_X1_addNeed : GoodIn wsX2_keepNumber (wsV RX2 163 RX1 yX1_addNeed wsX1_addNeed) := goodIn_app (goodIn_of _ (by decide +kernel)) ggX2_keepNumber_X1_addNeed
set_option maxRecDepth 20000 in
theorem ggX2_keepNumber_X1_addPause : GoodIn wsX2_keepNumber wsX1_addPause := goodIn_r _ [43, 44, 22, 17, 45, 46, 47, 20, 48, 49, 50, 14, 51, 65, 66, 67, 68, 69, 70, 71, 72, 73, 74, 75, 76, 77, 78, 79, 80, 81] (by decide +kernel) (by decide +kernel)
set_option maxRecDepth 20000 in
theorem gX2_keepNumber_X1_addPause : GoodIn wsX2_keepNumber (wsV RX2 167 RX1 yX1_addPause wsX1_addPause) := goodIn_app (goodIn_of _ (by decide +kernel)) ggX2_keepNumber_X1_addPause
theorem dX2_keepNumber_0 : decode cX2_keepNumber 0 = .ok (.aload_n 0, 1) := by decide +kernel
theorem dX2_keepNumber_1 : decode cX2_keepNumber 1 = .ok (.getfield 24, 3) := by decide +kernel
theorem dX2_keepNumber_4 : decode cX2_keepNumber 4 = .ok (.tableswitch 216 5 12 #[48, 65, 81, 95, 109, 160, 188, 202], 48) := by decide +kernel
theorem dX2_keepNumber_52 : decode cX2_keepNumber 52 = .ok (.aload_n 0, 1) := by decide +kernel
theorem dX2_keepNumber_53 : decode cX2_keepNumber 53 = .ok (.getfield 15, 3) := by decide +kernel
theorem dX2_keepNumber_56 : decode cX2_keepNumber 56 = .ok (.iload_n 1, 1) := by decide +kernel
theorem dX2_keepNumber_57 : decode cX2_keepNumber 57 = .ok (.putfield 147, 3) := by decide +kernel
theorem dX2_keepNumber_60 : decode cX2_keepNumber 60 = .ok (.aload_n 0, 1) := by decide +kernel
theorem dX2_keepNumber_61 : decode cX2_keepNumber 61 = .ok (.bipush 6, 2) := by decide +kernel
theorem dX2_keepNumber_63 : decode cX2_keepNumber 63 = .ok (.putfield 24, 3) := by decide +kernel
theorem dX2_keepNumber_66 : decode cX2_keepNumber 66 = .ok (.goto 175, 3) := by decide +kernel
theorem dX2_keepNumber_69 : decode cX2_keepNumber 69 = .ok (.aload_n 0, 1) := by decide +kernel
theorem dX2_keepNumber_70 : decode cX2_keepNumber 70 = .ok (.getfield 15, 3) := by decide +kernel
theorem dX2_keepNumber_73 : decode cX2_keepNumber 73 = .ok (.iload_n 1, 1) := by decide +kernel
theorem dX2_keepNumber_74 : decode cX2_keepNumber 74 = .ok (.putfield 153, 3) := by decide +kernel
theorem dX2_keepNumber_77 : decode cX2_keepNumber 77 = .ok (.aload_n 0, 1) := by decide +kernel
theorem dX2_keepNumber_78 : decode cX2_keepNumber 78 = .ok (.iconst 4, 1) := by decide +kernel
theorem dX2_keepNumber_79 : decode cX2_keepNumber 79 = .ok (.putfield 24, 3) := by decide +kernel
theorem dX2_keepNumber_82 : decode cX2_keepNumber 82 = .ok (.goto 159, 3) := by decide +kernel
theorem dX2_keepNumber_85 : decode cX2_keepNumber 85 = .ok (.aload_n 0, 1) := by decide +kernel
theorem dX2_keepNumber_86 : decode cX2_keepNumber 86 = .ok (.iload_n 1, 1) := by decide +kernel
theorem dX2_keepNumber_87 : decode cX2_keepNumber 87 = .ok (.putfield 156, 3) := by decide +kernel
theorem dX2_keepNumber_90 : decode cX2_keepNumber 90 = .ok (.aload_n 0, 1) := by decide +kernel
theorem dX2_keepNumber_91 : decode cX2_keepNumber 91 = .ok (.bipush 8, 2) := by decide +kernel
theorem dX2_keepNumber_93 : decode cX2_keepNumber 93 = .ok (.putfield 24, 3) := by decide +kernel
theorem dX2_keepNumber_96 : decode cX2_keepNumber 96 = .ok (.goto 145, 3) := by decide +kernel
theorem dX2_keepNumber_99 : decode cX2_keepNumber 99 = .ok (.aload_n 0, 1) := by decide +kernel
theorem dX2_keepNumber_100 : decode cX2_keepNumber 100 = .ok (.iload_n 1, 1) := by decide +kernel
theorem dX2_keepNumber_101 : decode cX2_keepNumber 101 = .ok (.putfield 141, 3) := by decide +kernel
theorem dX2_keepNumber_104 : decode cX2_keepNumber 104 = .ok (.aload_n 0, 1) := by decide +kernel
theorem dX2_keepNumber_105 : decode cX2_keepNumber 105 = .ok (.bipush 9, 2) := by decide +kernel
theorem dX2_keepNumber_107 : decode cX2_keepNumber 107 = .ok (.putfield 24, 3) := by decide +kernel
theorem dX2_keepNumber_110 : decode cX2_keepNumber 110 = .ok (.goto 131, 3) := by decide +kernel
theorem dX2_keepNumber_113 : decode cX2_keepNumber 113 = .ok (.aload_n 0, 1) := by decide +kernel
theorem dX2_keepNumber_114 : decode cX2_keepNumber 114 = .ok (.iload_n 1, 1) := by decide +kernel
theorem dX2_keepNumber_115 : decode cX2_keepNumber 115 = .ok (.putfield 149, 3) := by decide +kernel
theorem dX2_keepNumber_118 : decode cX2_keepNumber 118 = .ok (.aload_n 0, 1) := by decide +kernel
theorem dX2_keepNumber_119 : decode cX2_keepNumber 119 = .ok (.aload_n 0, 1) := by decide +kernel
theorem dX2_keepNumber_120 : decode cX2_keepNumber 120 = .ok (.getfield 28, 3) := by decide +kernel
theorem dX2_keepNumber_123 : decode cX2_keepNumber 123 = .ok (.ifCond .eq 7, 3) := by decide +kernel
theorem dX2_keepNumber_126 : decode cX2_keepNumber 126 = .ok (.iconst 3, 1) := by decide +kernel
theorem dX2_keepNumber_127 : decode cX2_keepNumber 127 = .ok (.goto 5, 3) := by decide +kernel
theorem dX2_keepNumber_130 : decode cX2_keepNumber 130 = .ok (.bipush 10, 2) := by decide +kernel
theorem dX2_keepNumber_132 : decode cX2_keepNumber 132 = .ok (.putfield 24, 3) := by decide +kernel
theorem dX2_keepNumber_135 : decode cX2_keepNumber 135 = .ok (.aload_n 0, 1) := by decide +kernel
theorem dX2_keepNumber_136 : decode cX2_keepNumber 136 = .ok (.getfield 28, 3) := by decide +kernel
theorem dX2_keepNumber_139 : decode cX2_keepNumber 139 = .ok (.ifCond .eq 102, 3) := by decide +kernel
theorem dX2_keepNumber_142 : decode cX2_keepNumber 142 = .ok (.aload_n 0, 1) := by decide +kernel
theorem dX2_keepNumber_143 : decode cX2_keepNumber 143 = .ok (.getfield 15, 3) := by decide +kernel
theorem dX2_keepNumber_146 : decode cX2_keepNumber 146 = .ok (.aload_n 0, 1) := by decide +kernel
theorem dX2_keepNumber_147 : decode cX2_keepNumber 147 = .ok (.getfield 156, 3) := by decide +kernel
theorem dX2_keepNumber_150 : decode cX2_keepNumber 150 = .ok (.aload_n 0, 1) := by decide +kernel
theorem dX2_keepNumber_151 : decode cX2_keepNumber 151 = .ok (.getfield 141, 3) := by decide +kernel
theorem dX2_keepNumber_154 : decode cX2_keepNumber 154 = .ok (.aload_n 0, 1) := by decide +kernel
theorem dX2_keepNumber_155 : decode cX2_keepNumber 155 = .ok (.getfield 149, 3) := by decide +kernel
theorem dX2_keepNumber_158 : decode cX2_keepNumber 158 = .ok (.invokevirtual 159, 3) := by decide +kernel
theorem dX2_keepNumber_161 : decode cX2_keepNumber 161 = .ok (.goto 80, 3) := by decide +kernel
theorem dX2_keepNumber_164 : decode cX2_keepNumber 164 = .ok (.aload_n 0, 1) := by decide +kernel
theorem dX2_keepNumber_165 : decode cX2_keepNumber 165 = .ok (.getfield 15, 3) := by decide +kernel
theorem dX2_keepNumber_168 : decode cX2_keepNumber 168 = .ok (.aload_n 0, 1) := by decide +kernel
theorem dX2_keepNumber_169 : decode cX2_keepNumber 169 = .ok (.getfield 156, 3) := by decide +kernel
theorem dX2_keepNumber_172 : decode cX2_keepNumber 172 = .ok (.aload_n 0, 1) := by decide +kernel
theorem dX2_keepNumber_173 : decode cX2_keepNumber 173 = .ok (.getfield 141, 3) := by decide +kernel
theorem dX2_keepNumber_176 : decode cX2_keepNumber 176 = .ok (.aload_n 0, 1) := by decide +kernel
theorem dX2_keepNumber_177 : decode cX2_keepNumber 177 = .ok (.getfield 149, 3) := by decide +kernel
theorem dX2_keepNumber_180 : decode cX2_keepNumber 180 = .ok (.iload_n 1, 1) := by decide +kernel
theorem dX2_keepNumber_181 : decode cX2_keepNumber 181 = .ok (.invokevirtual 163, 3) := by decide +kernel
theorem dX2_keepNumber_184 : decode cX2_keepNumber 184 = .ok (.aload_n 0, 1) := by decide +kernel
theorem dX2_keepNumber_185 : decode cX2_keepNumber 185 = .ok (.iconst 4, 1) := by decide +kernel
theorem dX2_keepNumber_186 : decode cX2_keepNumber 186 = .ok (.putfield 24, 3) := by decide +kernel
theorem dX2_keepNumber_189 : decode cX2_keepNumber 189 = .ok (.goto 52, 3) := by decide +kernel
theorem dX2_keepNumber_192 : decode cX2_keepNumber 192 = .ok (.aload_n 0, 1) := by decide +kernel
theorem dX2_keepNumber_193 : decode cX2_keepNumber 193 = .ok (.iload_n 1, 1) := by decide +kernel
theorem dX2_keepNumber_194 : decode cX2_keepNumber 194 = .ok (.putfield 152, 3) := by decide +kernel
theorem dX2_keepNumber_197 : decode cX2_keepNumber 197 = .ok (.aload_n 0, 1) := by decide +kernel
theorem dX2_keepNumber_198 : decode cX2_keepNumber 198 = .ok (.bipush 12, 2) := by decide +kernel
theorem dX2_keepNumber_200 : decode cX2_keepNumber 200 = .ok (.putfield 24, 3) := by decide +kernel
theorem dX2_keepNumber_203 : decode cX2_keepNumber 203 = .ok (.goto 38, 3) := by decide +kernel
theorem dX2_keepNumber_206 : decode cX2_keepNumber 206 = .ok (.aload_n 0, 1) := by decide +kernel
theorem dX2_keepNumber_207 : decode cX2_keepNumber 207 = .ok (.iload_n 1, 1) := by decide +kernel
theorem dX2_keepNumber_208 : decode cX2_keepNumber 208 = .ok (.putfield 144, 3) := by decide +kernel
theorem dX2_keepNumber_211 : decode cX2_keepNumber 211 = .ok (.aload_n 0, 1) := by decide +kernel
theorem dX2_keepNumber_212 : decode cX2_keepNumber 212 = .ok (.bipush 13, 2) := by decide +kernel
theorem dX2_keepNumber_214 : decode cX2_keepNumber 214 = .ok (.putfield 24, 3) := by decide +kernel
theorem dX2_keepNumber_217 : decode cX2_keepNumber 217 = .ok (.goto 24, 3) := by decide +kernel
theorem dX2_keepNumber_220 : decode cX2_keepNumber 220 = .ok (.aload_n 0, 1) := by decide +kernel
theorem dX2_keepNumber_221 : decode cX2_keepNumber 221 = .ok (.getfield 15, 3) := by decide +kernel
theorem dX2_keepNumber_224 : decode cX2_keepNumber 224 = .ok (.aload_n 0, 1) := by decide +kernel
theorem dX2_keepNumber_225 : decode cX2_keepNumber 225 = .ok (.getfield 152, 3) := by decide +kernel
theorem dX2_keepNumber_228 : decode cX2_keepNumber 228 = .ok (.aload_n 0, 1) := by decide +kernel
theorem dX2_keepNumber_229 : decode cX2_keepNumber 229 = .ok (.getfield 144, 3) := by decide +kernel
theorem dX2_keepNumber_232 : decode cX2_keepNumber 232 = .ok (.iload_n 1, 1) := by decide +kernel
theorem dX2_keepNumber_233 : decode cX2_keepNumber 233 = .ok (.invokevirtual 167, 3) := by decide +kernel
theorem dX2_keepNumber_236 : decode cX2_keepNumber 236 = .ok (.aload_n 0, 1) := by decide +kernel
theorem dX2_keepNumber_237 : decode cX2_keepNumber 237 = .ok (.iconst 3, 1) := by decide +kernel
theorem dX2_keepNumber_238 : decode cX2_keepNumber 238 = .ok (.putfield 24, 3) := by decide +kernel
theorem dX2_keepNumber_241 : decode cX2_keepNumber 241 = .ok (.return_, 1) := by decide +kernel
set_option maxRecDepth 20000 in
theorem ggX3_init_J7_fill_53178 : GoodIn wsX3_init wsJ7_fill_53178 := goodIn_r _ [11] (by decide +kernel) (by decide +kernel)
set_option maxRecDepth 20000 in
theorem gX3_init_J7_fill_53178 : GoodIn wsX3_init (va_wsS RX3 22 yJ7_fill_53178 wsJ7_fill_53178) := goodIn_app (goodIn_of _ (by decide +kernel)) ggX3_init_J7_fill_53178
theorem dX3_init_0 : decode cX3_init 0 = .ok (.aload_n 0, 1) := by decide +kernel
theorem dX3_init_1 : decode cX3_init 1 = .ok (.invokespecial 3, 3) := by decide +kernel
theorem dX3_init_4 : decode cX3_init 4 = .ok (.aload_n 0, 1) := by decide +kernel
theorem dX3_init_5 : decode cX3_init 5 = .ok (.aload_n 1, 1) := by decide +kernel
theorem dX3_init_6 : decode cX3_init 6 = .ok (.putfield 9, 3) := by decide +kernel
theorem dX3_init_9 : decode cX3_init 9 = .ok (.aload_n 0, 1) := by decide +kernel
theorem dX3_init_10 : decode cX3_init 10 = .ok (.bipush 24, 2) := by decide +kernel
theorem dX3_init_12 : decode cX3_init 12 = .ok (.newarray .int, 2) := by decide +kernel
theorem dX3_init_14 : decode cX3_init 14 = .ok (.putfield 15, 3) := by decide +kernel
theorem dX3_init_17 : decode cX3_init 17 = .ok (.aload_n 0, 1) := by decide +kernel
theorem dX3_init_18 : decode cX3_init 18 = .ok (.sipush 144, 3) := by decide +kernel
theorem dX3_init_21 : decode cX3_init 21 = .ok (.newarray .int, 2) := by decide +kernel
theorem dX3_init_23 : decode cX3_init 23 = .ok (.putfield 19, 3) := by decide +kernel
theorem dX3_init_26 : decode cX3_init 26 = .ok (.aload_n 0, 1) := by decide +kernel
theorem dX3_init_27 : decode cX3_init 27 = .ok (.getfield 15, 3) := by decide +kernel
theorem dX3_init_30 : decode cX3_init 30 = .ok (.iconst (-1), 1) := by decide +kernel
theorem dX3_init_31 : decode cX3_init 31 = .ok (.invokestatic 22, 3) := by decide +kernel
theorem dX3_init_34 : decode cX3_init 34 = .ok (.return_, 1) := by decide +kernel
set_option maxRecDepth 20000 in
theorem ggX3_clear_J7_fill_53178 : GoodIn wsX3_clear wsJ7_fill_53178 := goodIn_r _ [5] (by decide +kernel) (by decide +kernel)
set_option maxRecDepth 20000 in
theorem gX3_clear_J7_fill_53178 : GoodIn wsX3_clear (va_wsS RX3 22 yJ7_fill_53178 wsJ7_fill_53178) := goodIn_app (goodIn_of _ (by decide +kernel)) ggX3_clear_J7_fill_53178
set_option maxRecDepth 20000 in
theorem ggX3_clear_X3_recount : GoodIn wsX3_clear wsX3_recount := goodIn_r _ [10, 11, 12, 13, 14, 15, 16, 17, 18, 19, 1, 20, 21, 22, 9, 23, 24, 25, 26, 27, 28, 29, 30, 31, 32, 33, 34, 35, 36, 37, 38, 39, 40, 41, 42, 43, 44, 45, 46, 47, 48, 49, 50, 51, 52, 53, 54, 55, 56, 57, 58, 59, 60, 61, 62, 63, 64] (by decide +kernel) (by decide +kernel)
set_option maxRecDepth 20000 in
theorem gX3_clear_X3_recount : GoodIn wsX3_clear (wsV RX3 28 RX3 yX3_recount wsX3_recount) := goodIn_app (goodIn_of _ (by decide +kernel)) ggX3_clear_X3_recount
theorem dX3_clear_0 : decode cX3_clear 0 = .ok (.aload_n 0, 1) := by decide +kernel
theorem dX3_clear_1 : decode cX3_clear 1 = .ok (.getfield 15, 3) := by decide +kernel
theorem dX3_clear_4 : decode cX3_clear 4 = .ok (.iconst (-1), 1) := by decide +kernel
theorem dX3_clear_5 : decode cX3_clear 5 = .ok (.invokestatic 22, 3) := by decide +kernel
theorem dX3_clear_8 : decode cX3_clear 8 = .ok (.aload_n 0, 1) := by decide +kernel
theorem dX3_clear_9 : decode cX3_clear 9 = .ok (.invokevirtual 28, 3) := by decide +kernel
theorem dX3_clear_12 : decode cX3_clear 12 = .ok (.return_, 1) := by decide +kernel
set_option maxRecDepth 20000 in
theorem ggX3_recount_X3_shortOf : GoodIn wsX3_recount wsX3_shortOf := goodIn_r _ [15, 1, 16, 3, 17, 18, 19, 20, 36, 37, 38, 39, 40, 41, 42, 43, 44, 45, 46, 47, 48, 49, 50, 51, 52, 53, 54, 55, 56] (by decide +kernel) (by decide +kernel)
set_option maxRecDepth 20000 in
theorem gX3_recount_X3_shortOf : GoodIn wsX3_recount (wsV RX3 46 RX3 yX3_shortOf wsX3_shortOf) := goodIn_app (goodIn_of _ (by decide +kernel)) ggX3_recount_X3_shortOf
set_option maxRecDepth 20000 in
theorem ggX3_recount_X3_leavePost : GoodIn wsX3_recount wsX3_leavePost := goodIn_r _ [24, 1, 25, 16, 3, 8, 26, 27, 28, 29, 30, 31, 32, 33, 34, 35, 36, 37, 38, 39, 40, 41, 42, 43, 44, 45, 46, 47, 48, 49, 50, 51, 52, 53, 54, 55, 56] (by decide +kernel) (by decide +kernel)
set_option maxRecDepth 20000 in
theorem gX3_recount_X3_leavePost : GoodIn wsX3_recount (wsV RX3 53 RX3 yX3_leavePost wsX3_leavePost) := goodIn_app (goodIn_of _ (by decide +kernel)) ggX3_recount_X3_leavePost
theorem dX3_recount_0 : decode cX3_recount 0 = .ok (.aload_n 0, 1) := by decide +kernel
theorem dX3_recount_1 : decode cX3_recount 1 = .ok (.getfield 9, 3) := by decide +kernel
theorem dX3_recount_4 : decode cX3_recount 4 = .ok (.getfield 31, 3) := by decide +kernel
theorem dX3_recount_7 : decode cX3_recount 7 = .ok (.iconst 0, 1) := by decide +kernel
theorem dX3_recount_8 : decode cX3_recount 8 = .ok (.aload_n 0, 1) := by decide +kernel
theorem dX3_recount_9 : decode cX3_recount 9 = .ok (.getfield 19, 3) := by decide +kernel
theorem dX3_recount_12 : decode cX3_recount 12 = .ok (.iconst 0, 1) := by decide +kernel
theorem dX3_recount_13 : decode cX3_recount 13 = .ok (.sipush 144, 3) := by decide +kernel
theorem dX3_recount_16 : decode cX3_recount 16 = .ok (.invokestatic 36, 3) := by decide +kernel
theorem dX3_recount_19 : decode cX3_recount 19 = .ok (.aload_n 0, 1) := by decide +kernel
theorem dX3_recount_20 : decode cX3_recount 20 = .ok (.iconst 0, 1) := by decide +kernel
theorem dX3_recount_21 : decode cX3_recount 21 = .ok (.putfield 42, 3) := by decide +kernel
theorem dX3_recount_24 : decode cX3_recount 24 = .ok (.iconst 0, 1) := by decide +kernel
theorem dX3_recount_25 : decode cX3_recount 25 = .ok (.istore_n 1, 1) := by decide +kernel
theorem dX3_recount_26 : decode cX3_recount 26 = .ok (.iload_n 1, 1) := by decide +kernel
theorem dX3_recount_27 : decode cX3_recount 27 = .ok (.sipush 144, 3) := by decide +kernel
theorem dX3_recount_30 : decode cX3_recount 30 = .ok (.if_icmp .ge 23, 3) := by decide +kernel
theorem dX3_recount_33 : decode cX3_recount 33 = .ok (.aload_n 0, 1) := by decide +kernel
theorem dX3_recount_34 : decode cX3_recount 34 = .ok (.dup, 1) := by decide +kernel
theorem dX3_recount_35 : decode cX3_recount 35 = .ok (.getfield 42, 3) := by decide +kernel
theorem dX3_recount_38 : decode cX3_recount 38 = .ok (.aload_n 0, 1) := by decide +kernel
theorem dX3_recount_39 : decode cX3_recount 39 = .ok (.iload_n 1, 1) := by decide +kernel
theorem dX3_recount_40 : decode cX3_recount 40 = .ok (.invokevirtual 46, 3) := by decide +kernel
theorem dX3_recount_43 : decode cX3_recount 43 = .ok (.iadd, 1) := by decide +kernel
theorem dX3_recount_44 : decode cX3_recount 44 = .ok (.putfield 42, 3) := by decide +kernel
theorem dX3_recount_47 : decode cX3_recount 47 = .ok (.iinc 1 1, 3) := by decide +kernel
theorem dX3_recount_50 : decode cX3_recount 50 = .ok (.goto (-24), 3) := by decide +kernel
theorem dX3_recount_53 : decode cX3_recount 53 = .ok (.iconst 0, 1) := by decide +kernel
theorem dX3_recount_54 : decode cX3_recount 54 = .ok (.istore_n 1, 1) := by decide +kernel
theorem dX3_recount_55 : decode cX3_recount 55 = .ok (.iload_n 1, 1) := by decide +kernel
theorem dX3_recount_56 : decode cX3_recount 56 = .ok (.aload_n 0, 1) := by decide +kernel
theorem dX3_recount_57 : decode cX3_recount 57 = .ok (.getfield 9, 3) := by decide +kernel
theorem dX3_recount_60 : decode cX3_recount 60 = .ok (.getfield 50, 3) := by decide +kernel
theorem dX3_recount_63 : decode cX3_recount 63 = .ok (.if_icmp .ge 30, 3) := by decide +kernel
theorem dX3_recount_66 : decode cX3_recount 66 = .ok (.aload_n 0, 1) := by decide +kernel
theorem dX3_recount_67 : decode cX3_recount 67 = .ok (.getfield 15, 3) := by decide +kernel
theorem dX3_recount_70 : decode cX3_recount 70 = .ok (.iload_n 1, 1) := by decide +kernel
theorem dX3_recount_71 : decode cX3_recount 71 = .ok (.iaload, 1) := by decide +kernel
theorem dX3_recount_72 : decode cX3_recount 72 = .ok (.iconst (-1), 1) := by decide +kernel
theorem dX3_recount_73 : decode cX3_recount 73 = .ok (.if_icmp .eq 14, 3) := by decide +kernel
theorem dX3_recount_76 : decode cX3_recount 76 = .ok (.aload_n 0, 1) := by decide +kernel
theorem dX3_recount_77 : decode cX3_recount 77 = .ok (.iload_n 1, 1) := by decide +kernel
theorem dX3_recount_78 : decode cX3_recount 78 = .ok (.aload_n 0, 1) := by decide +kernel
theorem dX3_recount_79 : decode cX3_recount 79 = .ok (.getfield 15, 3) := by decide +kernel
theorem dX3_recount_82 : decode cX3_recount 82 = .ok (.iload_n 1, 1) := by decide +kernel
theorem dX3_recount_83 : decode cX3_recount 83 = .ok (.iaload, 1) := by decide +kernel
theorem dX3_recount_84 : decode cX3_recount 84 = .ok (.invokevirtual 53, 3) := by decide +kernel
theorem dX3_recount_87 : decode cX3_recount 87 = .ok (.iinc 1 1, 3) := by decide +kernel
theorem dX3_recount_90 : decode cX3_recount 90 = .ok (.goto (-35), 3) := by decide +kernel
theorem dX3_recount_93 : decode cX3_recount 93 = .ok (.return_, 1) := by decide +kernel
theorem dX3_shortOf_0 : decode cX3_shortOf 0 = .ok (.aload_n 0, 1) := by decide +kernel
theorem dX3_shortOf_1 : decode cX3_shortOf 1 = .ok (.getfield 9, 3) := by decide +kernel
theorem dX3_shortOf_4 : decode cX3_shortOf 4 = .ok (.getfield 57, 3) := by decide +kernel
theorem dX3_shortOf_7 : decode cX3_shortOf 7 = .ok (.iload_n 1, 1) := by decide +kernel
theorem dX3_shortOf_8 : decode cX3_shortOf 8 = .ok (.iaload, 1) := by decide +kernel
theorem dX3_shortOf_9 : decode cX3_shortOf 9 = .ok (.aload_n 0, 1) := by decide +kernel
theorem dX3_shortOf_10 : decode cX3_shortOf 10 = .ok (.getfield 19, 3) := by decide +kernel
theorem dX3_shortOf_13 : decode cX3_shortOf 13 = .ok (.iload_n 1, 1) := by decide +kernel
theorem dX3_shortOf_14 : decode cX3_shortOf 14 = .ok (.iaload, 1) := by decide +kernel
theorem dX3_shortOf_15 : decode cX3_shortOf 15 = .ok (.isub, 1) := by decide +kernel
theorem dX3_shortOf_16 : decode cX3_shortOf 16 = .ok (.iconst 0, 1) := by decide +kernel
theorem dX3_shortOf_17 : decode cX3_shortOf 17 = .ok (.invokestatic 60, 3) := by decide +kernel
theorem dX3_shortOf_20 : decode cX3_shortOf 20 = .ok (.ireturn, 1) := by decide +kernel
theorem dX3_countPlaced_0 : decode cX3_countPlaced 0 = .ok (.iconst 0, 1) := by decide +kernel
theorem dX3_countPlaced_1 : decode cX3_countPlaced 1 = .ok (.istore_n 1, 1) := by decide +kernel
theorem dX3_countPlaced_2 : decode cX3_countPlaced 2 = .ok (.iconst 0, 1) := by decide +kernel
theorem dX3_countPlaced_3 : decode cX3_countPlaced 3 = .ok (.istore_n 2, 1) := by decide +kernel
theorem dX3_countPlaced_4 : decode cX3_countPlaced 4 = .ok (.iload_n 2, 1) := by decide +kernel
theorem dX3_countPlaced_5 : decode cX3_countPlaced 5 = .ok (.aload_n 0, 1) := by decide +kernel
theorem dX3_countPlaced_6 : decode cX3_countPlaced 6 = .ok (.getfield 9, 3) := by decide +kernel
theorem dX3_countPlaced_9 : decode cX3_countPlaced 9 = .ok (.getfield 50, 3) := by decide +kernel
theorem dX3_countPlaced_12 : decode cX3_countPlaced 12 = .ok (.if_icmp .ge 22, 3) := by decide +kernel
theorem dX3_countPlaced_15 : decode cX3_countPlaced 15 = .ok (.aload_n 0, 1) := by decide +kernel
theorem dX3_countPlaced_16 : decode cX3_countPlaced 16 = .ok (.getfield 15, 3) := by decide +kernel
theorem dX3_countPlaced_19 : decode cX3_countPlaced 19 = .ok (.iload_n 2, 1) := by decide +kernel
theorem dX3_countPlaced_20 : decode cX3_countPlaced 20 = .ok (.iaload, 1) := by decide +kernel
theorem dX3_countPlaced_21 : decode cX3_countPlaced 21 = .ok (.iconst (-1), 1) := by decide +kernel
theorem dX3_countPlaced_22 : decode cX3_countPlaced 22 = .ok (.if_icmp .eq 6, 3) := by decide +kernel
theorem dX3_countPlaced_25 : decode cX3_countPlaced 25 = .ok (.iinc 1 1, 3) := by decide +kernel
theorem dX3_countPlaced_28 : decode cX3_countPlaced 28 = .ok (.iinc 2 1, 3) := by decide +kernel
theorem dX3_countPlaced_31 : decode cX3_countPlaced 31 = .ok (.goto (-27), 3) := by decide +kernel
theorem dX3_countPlaced_34 : decode cX3_countPlaced 34 = .ok (.iload_n 1, 1) := by decide +kernel
theorem dX3_countPlaced_35 : decode cX3_countPlaced 35 = .ok (.ireturn, 1) := by decide +kernel
set_option maxRecDepth 20000 in
theorem ggX3_moveTo_X3_lift : GoodIn wsX3_moveTo wsX3_lift := goodIn_r _ [6, 1, 7, 8, 9, 10, 11, 12, 13, 5, 14, 15, 16, 17, 18, 19, 20, 21, 22, 23, 24, 25, 30, 31, 32, 33, 34, 35, 36, 37, 38, 39, 40, 41, 42, 43, 44, 45, 46, 47, 48, 49, 50] (by decide +kernel) (by decide +kernel)
set_option maxRecDepth 20000 in
theorem gX3_moveTo_X3_lift : GoodIn wsX3_moveTo (wsV RX3 66 RX3 yX3_lift wsX3_lift) := goodIn_app (goodIn_of _ (by decide +kernel)) ggX3_moveTo_X3_lift
set_option maxRecDepth 20000 in
theorem ggX3_moveTo_X3_leavePost : GoodIn wsX3_moveTo wsX3_leavePost := goodIn_r _ [29, 8, 9, 15, 10, 7, 16, 17, 18, 19, 20, 21, 22, 23, 24, 25, 30, 31, 32, 33, 34, 35, 36, 37, 38, 39, 40, 41, 42, 43, 44, 45, 46, 47, 48, 49, 50] (by decide +kernel) (by decide +kernel)
set_option maxRecDepth 20000 in
theorem gX3_moveTo_X3_leavePost : GoodIn wsX3_moveTo (wsV RX3 53 RX3 yX3_leavePost wsX3_leavePost) := goodIn_app (goodIn_of _ (by decide +kernel)) ggX3_moveTo_X3_leavePost
theorem dX3_moveTo_0 : decode cX3_moveTo 0 = .ok (.aload_n 0, 1) := by decide +kernel
theorem dX3_moveTo_1 : decode cX3_moveTo 1 = .ok (.iload_n 1, 1) := by decide +kernel
theorem dX3_moveTo_2 : decode cX3_moveTo 2 = .ok (.invokevirtual 66, 3) := by decide +kernel
theorem dX3_moveTo_5 : decode cX3_moveTo 5 = .ok (.aload_n 0, 1) := by decide +kernel
theorem dX3_moveTo_6 : decode cX3_moveTo 6 = .ok (.iload_n 1, 1) := by decide +kernel
theorem dX3_moveTo_7 : decode cX3_moveTo 7 = .ok (.iload_n 2, 1) := by decide +kernel
theorem dX3_moveTo_8 : decode cX3_moveTo 8 = .ok (.invokevirtual 53, 3) := by decide +kernel
theorem dX3_moveTo_11 : decode cX3_moveTo 11 = .ok (.aload_n 0, 1) := by decide +kernel
theorem dX3_moveTo_12 : decode cX3_moveTo 12 = .ok (.getfield 15, 3) := by decide +kernel
theorem dX3_moveTo_15 : decode cX3_moveTo 15 = .ok (.iload_n 1, 1) := by decide +kernel
theorem dX3_moveTo_16 : decode cX3_moveTo 16 = .ok (.iload_n 2, 1) := by decide +kernel
theorem dX3_moveTo_17 : decode cX3_moveTo 17 = .ok (.iastore, 1) := by decide +kernel
theorem dX3_moveTo_18 : decode cX3_moveTo 18 = .ok (.return_, 1) := by decide +kernel
set_option maxRecDepth 20000 in
theorem ggX3_lift_X3_shortfallWithout : GoodIn wsX3_lift wsX3_shortfallWithout := goodIn_r _ [10, 1, 2, 3, 4, 11, 5, 12, 13, 14, 15, 16, 17, 18, 19, 20, 21, 22, 23, 24, 25, 26, 27, 28, 29, 30, 31, 32, 33, 34, 35, 36, 37, 38, 39, 40, 41, 42] (by decide +kernel) (by decide +kernel)
set_option maxRecDepth 20000 in
theorem gX3_lift_X3_shortfallWithout : GoodIn wsX3_lift (wsV RX3 70 RX3 yX3_shortfallWithout wsX3_shortfallWithout) := goodIn_app (goodIn_of _ (by decide +kernel)) ggX3_lift_X3_shortfallWithout
set_option maxRecDepth 20000 in
theorem ggX3_lift_X1_cellOfPause : GoodIn wsX3_lift wsX1_cellOfPause := goodIn_r _ [16, 17, 18, 19, 20, 21, 26, 27, 28, 29, 30, 31, 32, 33, 34, 35, 36, 37, 38, 39, 40, 41, 42] (by decide +kernel) (by decide +kernel)
set_option maxRecDepth 20000 in
theorem gX3_lift_X1_cellOfPause : GoodIn wsX3_lift (wsV RX3 73 RX1 yX1_cellOfPause wsX1_cellOfPause) := goodIn_app (goodIn_of _ (by decide +kernel)) ggX3_lift_X1_cellOfPause
theorem dX3_lift_0 : decode cX3_lift 0 = .ok (.aload_n 0, 1) := by decide +kernel
theorem dX3_lift_1 : decode cX3_lift 1 = .ok (.getfield 15, 3) := by decide +kernel
theorem dX3_lift_4 : decode cX3_lift 4 = .ok (.iload_n 1, 1) := by decide +kernel
theorem dX3_lift_5 : decode cX3_lift 5 = .ok (.iaload, 1) := by decide +kernel
theorem dX3_lift_6 : decode cX3_lift 6 = .ok (.iconst (-1), 1) := by decide +kernel
theorem dX3_lift_7 : decode cX3_lift 7 = .ok (.if_icmp .ne 4, 3) := by decide +kernel
theorem dX3_lift_10 : decode cX3_lift 10 = .ok (.return_, 1) := by decide +kernel
theorem dX3_lift_11 : decode cX3_lift 11 = .ok (.aload_n 0, 1) := by decide +kernel
theorem dX3_lift_12 : decode cX3_lift 12 = .ok (.aload_n 0, 1) := by decide +kernel
theorem dX3_lift_13 : decode cX3_lift 13 = .ok (.iload_n 1, 1) := by decide +kernel
theorem dX3_lift_14 : decode cX3_lift 14 = .ok (.invokevirtual 70, 3) := by decide +kernel
theorem dX3_lift_17 : decode cX3_lift 17 = .ok (.putfield 42, 3) := by decide +kernel
theorem dX3_lift_20 : decode cX3_lift 20 = .ok (.aload_n 0, 1) := by decide +kernel
theorem dX3_lift_21 : decode cX3_lift 21 = .ok (.getfield 9, 3) := by decide +kernel
theorem dX3_lift_24 : decode cX3_lift 24 = .ok (.iload_n 1, 1) := by decide +kernel
theorem dX3_lift_25 : decode cX3_lift 25 = .ok (.aload_n 0, 1) := by decide +kernel
theorem dX3_lift_26 : decode cX3_lift 26 = .ok (.getfield 15, 3) := by decide +kernel
theorem dX3_lift_29 : decode cX3_lift 29 = .ok (.iload_n 1, 1) := by decide +kernel
theorem dX3_lift_30 : decode cX3_lift 30 = .ok (.iaload, 1) := by decide +kernel
theorem dX3_lift_31 : decode cX3_lift 31 = .ok (.invokevirtual 73, 3) := by decide +kernel
theorem dX3_lift_34 : decode cX3_lift 34 = .ok (.istore_n 2, 1) := by decide +kernel
theorem dX3_lift_35 : decode cX3_lift 35 = .ok (.iload_n 2, 1) := by decide +kernel
theorem dX3_lift_36 : decode cX3_lift 36 = .ok (.istore_n 3, 1) := by decide +kernel
theorem dX3_lift_37 : decode cX3_lift 37 = .ok (.iload_n 3, 1) := by decide +kernel
theorem dX3_lift_38 : decode cX3_lift 38 = .ok (.iload_n 2, 1) := by decide +kernel
theorem dX3_lift_39 : decode cX3_lift 39 = .ok (.aload_n 0, 1) := by decide +kernel
theorem dX3_lift_40 : decode cX3_lift 40 = .ok (.getfield 9, 3) := by decide +kernel
theorem dX3_lift_43 : decode cX3_lift 43 = .ok (.getfield 76, 3) := by decide +kernel
theorem dX3_lift_46 : decode cX3_lift 46 = .ok (.iload_n 1, 1) := by decide +kernel
theorem dX3_lift_47 : decode cX3_lift 47 = .ok (.iaload, 1) := by decide +kernel
theorem dX3_lift_48 : decode cX3_lift 48 = .ok (.iadd, 1) := by decide +kernel
theorem dX3_lift_49 : decode cX3_lift 49 = .ok (.if_icmp .ge 19, 3) := by decide +kernel
theorem dX3_lift_52 : decode cX3_lift 52 = .ok (.aload_n 0, 1) := by decide +kernel
theorem dX3_lift_53 : decode cX3_lift 53 = .ok (.getfield 19, 3) := by decide +kernel
theorem dX3_lift_56 : decode cX3_lift 56 = .ok (.iload_n 3, 1) := by decide +kernel
theorem dX3_lift_57 : decode cX3_lift 57 = .ok (.dup2, 1) := by decide +kernel
theorem dX3_lift_58 : decode cX3_lift 58 = .ok (.iaload, 1) := by decide +kernel
theorem dX3_lift_59 : decode cX3_lift 59 = .ok (.iconst 1, 1) := by decide +kernel
theorem dX3_lift_60 : decode cX3_lift 60 = .ok (.iadd, 1) := by decide +kernel
theorem dX3_lift_61 : decode cX3_lift 61 = .ok (.iastore, 1) := by decide +kernel
theorem dX3_lift_62 : decode cX3_lift 62 = .ok (.iinc 3 1, 3) := by decide +kernel
theorem dX3_lift_65 : decode cX3_lift 65 = .ok (.goto (-28), 3) := by decide +kernel
theorem dX3_lift_68 : decode cX3_lift 68 = .ok (.aload_n 0, 1) := by decide +kernel
theorem dX3_lift_69 : decode cX3_lift 69 = .ok (.getfield 15, 3) := by decide +kernel
theorem dX3_lift_72 : decode cX3_lift 72 = .ok (.iload_n 1, 1) := by decide +kernel
theorem dX3_lift_73 : decode cX3_lift 73 = .ok (.iconst (-1), 1) := by decide +kernel
theorem dX3_lift_74 : decode cX3_lift 74 = .ok (.iastore, 1) := by decide +kernel
theorem dX3_lift_75 : decode cX3_lift 75 = .ok (.return_, 1) := by decide +kernel
set_option maxRecDepth 20000 in
theorem ggX3_leavePost_X1_cellOfPause : GoodIn wsX3_leavePost wsX1_cellOfPause := goodIn_r _ [10, 11, 12, 13, 14, 15, 20, 21, 22, 23, 24, 25, 26, 27, 28, 29, 30, 31, 32, 33, 34, 35, 36] (by decide +kernel) (by decide +kernel)
set_option maxRecDepth 20000 in
theorem gX3_leavePost_X1_cellOfPause : GoodIn wsX3_leavePost (wsV RX3 73 RX1 yX1_cellOfPause wsX1_cellOfPause) := goodIn_app (goodIn_of _ (by decide +kernel)) ggX3_leavePost_X1_cellOfPause
theorem dX3_leavePost_0 : decode cX3_leavePost 0 = .ok (.aload_n 0, 1) := by decide +kernel
theorem dX3_leavePost_1 : decode cX3_leavePost 1 = .ok (.getfield 9, 3) := by decide +kernel
theorem dX3_leavePost_4 : decode cX3_leavePost 4 = .ok (.iload_n 1, 1) := by decide +kernel
theorem dX3_leavePost_5 : decode cX3_leavePost 5 = .ok (.iload_n 2, 1) := by decide +kernel
theorem dX3_leavePost_6 : decode cX3_leavePost 6 = .ok (.invokevirtual 73, 3) := by decide +kernel
theorem dX3_leavePost_9 : decode cX3_leavePost 9 = .ok (.istore_n 3, 1) := by decide +kernel
theorem dX3_leavePost_10 : decode cX3_leavePost 10 = .ok (.iload_n 3, 1) := by decide +kernel
theorem dX3_leavePost_11 : decode cX3_leavePost 11 = .ok (.istore 4, 2) := by decide +kernel
theorem dX3_leavePost_13 : decode cX3_leavePost 13 = .ok (.iload 4, 2) := by decide +kernel
theorem dX3_leavePost_15 : decode cX3_leavePost 15 = .ok (.iload_n 3, 1) := by decide +kernel
theorem dX3_leavePost_16 : decode cX3_leavePost 16 = .ok (.aload_n 0, 1) := by decide +kernel
theorem dX3_leavePost_17 : decode cX3_leavePost 17 = .ok (.getfield 9, 3) := by decide +kernel
theorem dX3_leavePost_20 : decode cX3_leavePost 20 = .ok (.getfield 76, 3) := by decide +kernel
theorem dX3_leavePost_23 : decode cX3_leavePost 23 = .ok (.iload_n 1, 1) := by decide +kernel
theorem dX3_leavePost_24 : decode cX3_leavePost 24 = .ok (.iaload, 1) := by decide +kernel
theorem dX3_leavePost_25 : decode cX3_leavePost 25 = .ok (.iadd, 1) := by decide +kernel
theorem dX3_leavePost_26 : decode cX3_leavePost 26 = .ok (.if_icmp .ge 50, 3) := by decide +kernel
theorem dX3_leavePost_29 : decode cX3_leavePost 29 = .ok (.aload_n 0, 1) := by decide +kernel
theorem dX3_leavePost_30 : decode cX3_leavePost 30 = .ok (.getfield 9, 3) := by decide +kernel
theorem dX3_leavePost_33 : decode cX3_leavePost 33 = .ok (.getfield 57, 3) := by decide +kernel
theorem dX3_leavePost_36 : decode cX3_leavePost 36 = .ok (.iload 4, 2) := by decide +kernel
theorem dX3_leavePost_38 : decode cX3_leavePost 38 = .ok (.iaload, 1) := by decide +kernel
theorem dX3_leavePost_39 : decode cX3_leavePost 39 = .ok (.aload_n 0, 1) := by decide +kernel
theorem dX3_leavePost_40 : decode cX3_leavePost 40 = .ok (.getfield 19, 3) := by decide +kernel
theorem dX3_leavePost_43 : decode cX3_leavePost 43 = .ok (.iload 4, 2) := by decide +kernel
theorem dX3_leavePost_45 : decode cX3_leavePost 45 = .ok (.iaload, 1) := by decide +kernel
theorem dX3_leavePost_46 : decode cX3_leavePost 46 = .ok (.if_icmp .lt 13, 3) := by decide +kernel
theorem dX3_leavePost_49 : decode cX3_leavePost 49 = .ok (.aload_n 0, 1) := by decide +kernel
theorem dX3_leavePost_50 : decode cX3_leavePost 50 = .ok (.dup, 1) := by decide +kernel
theorem dX3_leavePost_51 : decode cX3_leavePost 51 = .ok (.getfield 42, 3) := by decide +kernel
theorem dX3_leavePost_54 : decode cX3_leavePost 54 = .ok (.iconst 1, 1) := by decide +kernel
theorem dX3_leavePost_55 : decode cX3_leavePost 55 = .ok (.iadd, 1) := by decide +kernel
theorem dX3_leavePost_56 : decode cX3_leavePost 56 = .ok (.putfield 42, 3) := by decide +kernel
theorem dX3_leavePost_59 : decode cX3_leavePost 59 = .ok (.aload_n 0, 1) := by decide +kernel
theorem dX3_leavePost_60 : decode cX3_leavePost 60 = .ok (.getfield 19, 3) := by decide +kernel
theorem dX3_leavePost_63 : decode cX3_leavePost 63 = .ok (.iload 4, 2) := by decide +kernel
theorem dX3_leavePost_65 : decode cX3_leavePost 65 = .ok (.dup2, 1) := by decide +kernel
theorem dX3_leavePost_66 : decode cX3_leavePost 66 = .ok (.iaload, 1) := by decide +kernel
theorem dX3_leavePost_67 : decode cX3_leavePost 67 = .ok (.iconst 1, 1) := by decide +kernel
theorem dX3_leavePost_68 : decode cX3_leavePost 68 = .ok (.isub, 1) := by decide +kernel
theorem dX3_leavePost_69 : decode cX3_leavePost 69 = .ok (.iastore, 1) := by decide +kernel
theorem dX3_leavePost_70 : decode cX3_leavePost 70 = .ok (.iinc 4 1, 3) := by decide +kernel
theorem dX3_leavePost_73 : decode cX3_leavePost 73 = .ok (.goto (-60), 3) := by decide +kernel
theorem dX3_leavePost_76 : decode cX3_leavePost 76 = .ok (.return_, 1) := by decide +kernel
set_option maxRecDepth 20000 in
theorem ggX3_reasonAgainst_X3_touches : GoodIn wsX3_reasonAgainst wsX3_touches := goodIn_r _ [12, 13, 1, 7, 14, 15, 16, 17, 18, 19, 20, 21, 22, 23, 24, 25, 26, 27, 28, 29, 30, 31, 32, 33, 34] (by decide +kernel) (by decide +kernel)
set_option maxRecDepth 20000 in
theorem gX3_reasonAgainst_X3_touches : GoodIn wsX3_reasonAgainst (wsV RX3 94 RX3 yX3_touches wsX3_touches) := goodIn_app (goodIn_of _ (by decide +kernel)) ggX3_reasonAgainst_X3_touches
theorem dX3_reasonAgainst_0 : decode cX3_reasonAgainst 0 = .ok (.iload_n 2, 1) := by decide +kernel
theorem dX3_reasonAgainst_1 : decode cX3_reasonAgainst 1 = .ok (.aload_n 0, 1) := by decide +kernel
theorem dX3_reasonAgainst_2 : decode cX3_reasonAgainst 2 = .ok (.getfield 9, 3) := by decide +kernel
theorem dX3_reasonAgainst_5 : decode cX3_reasonAgainst 5 = .ok (.getfield 79, 3) := by decide +kernel
theorem dX3_reasonAgainst_8 : decode cX3_reasonAgainst 8 = .ok (.iload_n 1, 1) := by decide +kernel
theorem dX3_reasonAgainst_9 : decode cX3_reasonAgainst 9 = .ok (.iaload, 1) := by decide +kernel
theorem dX3_reasonAgainst_10 : decode cX3_reasonAgainst 10 = .ok (.if_icmp .lt 16, 3) := by decide +kernel
theorem dX3_reasonAgainst_13 : decode cX3_reasonAgainst 13 = .ok (.iload_n 2, 1) := by decide +kernel
theorem dX3_reasonAgainst_14 : decode cX3_reasonAgainst 14 = .ok (.aload_n 0, 1) := by decide +kernel
theorem dX3_reasonAgainst_15 : decode cX3_reasonAgainst 15 = .ok (.getfield 9, 3) := by decide +kernel
theorem dX3_reasonAgainst_18 : decode cX3_reasonAgainst 18 = .ok (.getfield 82, 3) := by decide +kernel
theorem dX3_reasonAgainst_21 : decode cX3_reasonAgainst 21 = .ok (.iload_n 1, 1) := by decide +kernel
theorem dX3_reasonAgainst_22 : decode cX3_reasonAgainst 22 = .ok (.iaload, 1) := by decide +kernel
theorem dX3_reasonAgainst_23 : decode cX3_reasonAgainst 23 = .ok (.if_icmp .le 5, 3) := by decide +kernel
theorem dX3_reasonAgainst_26 : decode cX3_reasonAgainst 26 = .ok (.iconst 1, 1) := by decide +kernel
theorem dX3_reasonAgainst_27 : decode cX3_reasonAgainst 27 = .ok (.ireturn, 1) := by decide +kernel
theorem dX3_reasonAgainst_28 : decode cX3_reasonAgainst 28 = .ok (.aload_n 0, 1) := by decide +kernel
theorem dX3_reasonAgainst_29 : decode cX3_reasonAgainst 29 = .ok (.getfield 9, 3) := by decide +kernel
theorem dX3_reasonAgainst_32 : decode cX3_reasonAgainst 32 = .ok (.getfield 85, 3) := by decide +kernel
theorem dX3_reasonAgainst_35 : decode cX3_reasonAgainst 35 = .ok (.iload_n 1, 1) := by decide +kernel
theorem dX3_reasonAgainst_36 : decode cX3_reasonAgainst 36 = .ok (.iaload, 1) := by decide +kernel
theorem dX3_reasonAgainst_37 : decode cX3_reasonAgainst 37 = .ok (.istore_n 3, 1) := by decide +kernel
theorem dX3_reasonAgainst_38 : decode cX3_reasonAgainst 38 = .ok (.aload_n 0, 1) := by decide +kernel
theorem dX3_reasonAgainst_39 : decode cX3_reasonAgainst 39 = .ok (.getfield 9, 3) := by decide +kernel
theorem dX3_reasonAgainst_42 : decode cX3_reasonAgainst 42 = .ok (.getfield 88, 3) := by decide +kernel
theorem dX3_reasonAgainst_45 : decode cX3_reasonAgainst 45 = .ok (.iload_n 3, 1) := by decide +kernel
theorem dX3_reasonAgainst_46 : decode cX3_reasonAgainst 46 = .ok (.iaload, 1) := by decide +kernel
theorem dX3_reasonAgainst_47 : decode cX3_reasonAgainst 47 = .ok (.istore 4, 2) := by decide +kernel
theorem dX3_reasonAgainst_49 : decode cX3_reasonAgainst 49 = .ok (.iload 4, 2) := by decide +kernel
theorem dX3_reasonAgainst_51 : decode cX3_reasonAgainst 51 = .ok (.istore 5, 2) := by decide +kernel
theorem dX3_reasonAgainst_53 : decode cX3_reasonAgainst 53 = .ok (.iload 5, 2) := by decide +kernel
theorem dX3_reasonAgainst_55 : decode cX3_reasonAgainst 55 = .ok (.iload 4, 2) := by decide +kernel
theorem dX3_reasonAgainst_57 : decode cX3_reasonAgainst 57 = .ok (.aload_n 0, 1) := by decide +kernel
theorem dX3_reasonAgainst_58 : decode cX3_reasonAgainst 58 = .ok (.getfield 9, 3) := by decide +kernel
theorem dX3_reasonAgainst_61 : decode cX3_reasonAgainst 61 = .ok (.getfield 91, 3) := by decide +kernel
theorem dX3_reasonAgainst_64 : decode cX3_reasonAgainst 64 = .ok (.iload_n 3, 1) := by decide +kernel
theorem dX3_reasonAgainst_65 : decode cX3_reasonAgainst 65 = .ok (.iaload, 1) := by decide +kernel
theorem dX3_reasonAgainst_66 : decode cX3_reasonAgainst 66 = .ok (.iadd, 1) := by decide +kernel
theorem dX3_reasonAgainst_67 : decode cX3_reasonAgainst 67 = .ok (.if_icmp .ge 38, 3) := by decide +kernel
theorem dX3_reasonAgainst_70 : decode cX3_reasonAgainst 70 = .ok (.iload 5, 2) := by decide +kernel
theorem dX3_reasonAgainst_72 : decode cX3_reasonAgainst 72 = .ok (.iload_n 1, 1) := by decide +kernel
theorem dX3_reasonAgainst_73 : decode cX3_reasonAgainst 73 = .ok (.if_icmp .eq 26, 3) := by decide +kernel
theorem dX3_reasonAgainst_76 : decode cX3_reasonAgainst 76 = .ok (.aload_n 0, 1) := by decide +kernel
theorem dX3_reasonAgainst_77 : decode cX3_reasonAgainst 77 = .ok (.iload 5, 2) := by decide +kernel
theorem dX3_reasonAgainst_79 : decode cX3_reasonAgainst 79 = .ok (.iload_n 2, 1) := by decide +kernel
theorem dX3_reasonAgainst_80 : decode cX3_reasonAgainst 80 = .ok (.iload_n 2, 1) := by decide +kernel
theorem dX3_reasonAgainst_81 : decode cX3_reasonAgainst 81 = .ok (.aload_n 0, 1) := by decide +kernel
theorem dX3_reasonAgainst_82 : decode cX3_reasonAgainst 82 = .ok (.getfield 9, 3) := by decide +kernel
theorem dX3_reasonAgainst_85 : decode cX3_reasonAgainst 85 = .ok (.getfield 76, 3) := by decide +kernel
theorem dX3_reasonAgainst_88 : decode cX3_reasonAgainst 88 = .ok (.iload_n 1, 1) := by decide +kernel
theorem dX3_reasonAgainst_89 : decode cX3_reasonAgainst 89 = .ok (.iaload, 1) := by decide +kernel
theorem dX3_reasonAgainst_90 : decode cX3_reasonAgainst 90 = .ok (.iadd, 1) := by decide +kernel
theorem dX3_reasonAgainst_91 : decode cX3_reasonAgainst 91 = .ok (.invokevirtual 94, 3) := by decide +kernel
theorem dX3_reasonAgainst_94 : decode cX3_reasonAgainst 94 = .ok (.ifCond .eq 5, 3) := by decide +kernel
theorem dX3_reasonAgainst_97 : decode cX3_reasonAgainst 97 = .ok (.iconst 2, 1) := by decide +kernel
theorem dX3_reasonAgainst_98 : decode cX3_reasonAgainst 98 = .ok (.ireturn, 1) := by decide +kernel
theorem dX3_reasonAgainst_99 : decode cX3_reasonAgainst 99 = .ok (.iinc 5 1, 3) := by decide +kernel
theorem dX3_reasonAgainst_102 : decode cX3_reasonAgainst 102 = .ok (.goto (-49), 3) := by decide +kernel
theorem dX3_reasonAgainst_105 : decode cX3_reasonAgainst 105 = .ok (.iconst 0, 1) := by decide +kernel
theorem dX3_reasonAgainst_106 : decode cX3_reasonAgainst 106 = .ok (.ireturn, 1) := by decide +kernel
theorem dX3_touches_0 : decode cX3_touches 0 = .ok (.aload_n 0, 1) := by decide +kernel
theorem dX3_touches_1 : decode cX3_touches 1 = .ok (.getfield 15, 3) := by decide +kernel
theorem dX3_touches_4 : decode cX3_touches 4 = .ok (.iload_n 1, 1) := by decide +kernel
theorem dX3_touches_5 : decode cX3_touches 5 = .ok (.iaload, 1) := by decide +kernel
theorem dX3_touches_6 : decode cX3_touches 6 = .ok (.istore 4, 2) := by decide +kernel
theorem dX3_touches_8 : decode cX3_touches 8 = .ok (.iload 4, 2) := by decide +kernel
theorem dX3_touches_10 : decode cX3_touches 10 = .ok (.iconst (-1), 1) := by decide +kernel
theorem dX3_touches_11 : decode cX3_touches 11 = .ok (.if_icmp .eq 29, 3) := by decide +kernel
theorem dX3_touches_14 : decode cX3_touches 14 = .ok (.iload_n 2, 1) := by decide +kernel
theorem dX3_touches_15 : decode cX3_touches 15 = .ok (.iload 4, 2) := by decide +kernel
theorem dX3_touches_17 : decode cX3_touches 17 = .ok (.aload_n 0, 1) := by decide +kernel
theorem dX3_touches_18 : decode cX3_touches 18 = .ok (.getfield 9, 3) := by decide +kernel
theorem dX3_touches_21 : decode cX3_touches 21 = .ok (.getfield 76, 3) := by decide +kernel
theorem dX3_touches_24 : decode cX3_touches 24 = .ok (.iload_n 1, 1) := by decide +kernel
theorem dX3_touches_25 : decode cX3_touches 25 = .ok (.iaload, 1) := by decide +kernel
theorem dX3_touches_26 : decode cX3_touches 26 = .ok (.iadd, 1) := by decide +kernel
theorem dX3_touches_27 : decode cX3_touches 27 = .ok (.if_icmp .gt 13, 3) := by decide +kernel
theorem dX3_touches_30 : decode cX3_touches 30 = .ok (.iload 4, 2) := by decide +kernel
theorem dX3_touches_32 : decode cX3_touches 32 = .ok (.iload_n 3, 1) := by decide +kernel
theorem dX3_touches_33 : decode cX3_touches 33 = .ok (.if_icmp .gt 7, 3) := by decide +kernel
theorem dX3_touches_36 : decode cX3_touches 36 = .ok (.iconst 1, 1) := by decide +kernel
theorem dX3_touches_37 : decode cX3_touches 37 = .ok (.goto 4, 3) := by decide +kernel
theorem dX3_touches_40 : decode cX3_touches 40 = .ok (.iconst 0, 1) := by decide +kernel
theorem dX3_touches_41 : decode cX3_touches 41 = .ok (.ireturn, 1) := by decide +kernel
set_option maxRecDepth 20000 in
theorem ggX3_shortfallWithout_X1_cellOfPause : GoodIn wsX3_shortfallWithout wsX1_cellOfPause := goodIn_r _ [11, 12, 13, 14, 15, 16, 21, 22, 23, 24, 25, 26, 27, 28, 29, 30, 31, 32, 33, 34, 35, 36, 37] (by decide +kernel) (by decide +kernel)
set_option maxRecDepth 20000 in
theorem gX3_shortfallWithout_X1_cellOfPause : GoodIn wsX3_shortfallWithout (wsV RX3 73 RX1 yX1_cellOfPause wsX1_cellOfPause) := goodIn_app (goodIn_of _ (by decide +kernel)) ggX3_shortfallWithout_X1_cellOfPause
theorem dX3_shortfallWithout_0 : decode cX3_shortfallWithout 0 = .ok (.aload_n 0, 1) := by decide +kernel
theorem dX3_shortfallWithout_1 : decode cX3_shortfallWithout 1 = .ok (.getfield 15, 3) := by decide +kernel
theorem dX3_shortfallWithout_4 : decode cX3_shortfallWithout 4 = .ok (.iload_n 1, 1) := by decide +kernel
theorem dX3_shortfallWithout_5 : decode cX3_shortfallWithout 5 = .ok (.iaload, 1) := by decide +kernel
theorem dX3_shortfallWithout_6 : decode cX3_shortfallWithout 6 = .ok (.istore_n 2, 1) := by decide +kernel
theorem dX3_shortfallWithout_7 : decode cX3_shortfallWithout 7 = .ok (.iload_n 2, 1) := by decide +kernel
theorem dX3_shortfallWithout_8 : decode cX3_shortfallWithout 8 = .ok (.iconst (-1), 1) := by decide +kernel
theorem dX3_shortfallWithout_9 : decode cX3_shortfallWithout 9 = .ok (.if_icmp .ne 8, 3) := by decide +kernel
theorem dX3_shortfallWithout_12 : decode cX3_shortfallWithout 12 = .ok (.aload_n 0, 1) := by decide +kernel
theorem dX3_shortfallWithout_13 : decode cX3_shortfallWithout 13 = .ok (.getfield 42, 3) := by decide +kernel
theorem dX3_shortfallWithout_16 : decode cX3_shortfallWithout 16 = .ok (.ireturn, 1) := by decide +kernel
theorem dX3_shortfallWithout_17 : decode cX3_shortfallWithout 17 = .ok (.aload_n 0, 1) := by decide +kernel
theorem dX3_shortfallWithout_18 : decode cX3_shortfallWithout 18 = .ok (.getfield 9, 3) := by decide +kernel
theorem dX3_shortfallWithout_21 : decode cX3_shortfallWithout 21 = .ok (.iload_n 1, 1) := by decide +kernel
theorem dX3_shortfallWithout_22 : decode cX3_shortfallWithout 22 = .ok (.iload_n 2, 1) := by decide +kernel
theorem dX3_shortfallWithout_23 : decode cX3_shortfallWithout 23 = .ok (.invokevirtual 73, 3) := by decide +kernel
theorem dX3_shortfallWithout_26 : decode cX3_shortfallWithout 26 = .ok (.istore_n 3, 1) := by decide +kernel
theorem dX3_shortfallWithout_27 : decode cX3_shortfallWithout 27 = .ok (.aload_n 0, 1) := by decide +kernel
theorem dX3_shortfallWithout_28 : decode cX3_shortfallWithout 28 = .ok (.getfield 42, 3) := by decide +kernel
theorem dX3_shortfallWithout_31 : decode cX3_shortfallWithout 31 = .ok (.istore 4, 2) := by decide +kernel
theorem dX3_shortfallWithout_33 : decode cX3_shortfallWithout 33 = .ok (.iload_n 3, 1) := by decide +kernel
theorem dX3_shortfallWithout_34 : decode cX3_shortfallWithout 34 = .ok (.istore 5, 2) := by decide +kernel
theorem dX3_shortfallWithout_36 : decode cX3_shortfallWithout 36 = .ok (.iload 5, 2) := by decide +kernel
theorem dX3_shortfallWithout_38 : decode cX3_shortfallWithout 38 = .ok (.iload_n 3, 1) := by decide +kernel
theorem dX3_shortfallWithout_39 : decode cX3_shortfallWithout 39 = .ok (.aload_n 0, 1) := by decide +kernel
theorem dX3_shortfallWithout_40 : decode cX3_shortfallWithout 40 = .ok (.getfield 9, 3) := by decide +kernel
theorem dX3_shortfallWithout_43 : decode cX3_shortfallWithout 43 = .ok (.getfield 76, 3) := by decide +kernel
theorem dX3_shortfallWithout_46 : decode cX3_shortfallWithout 46 = .ok (.iload_n 1, 1) := by decide +kernel
theorem dX3_shortfallWithout_47 : decode cX3_shortfallWithout 47 = .ok (.iaload, 1) := by decide +kernel
theorem dX3_shortfallWithout_48 : decode cX3_shortfallWithout 48 = .ok (.iadd, 1) := by decide +kernel
theorem dX3_shortfallWithout_49 : decode cX3_shortfallWithout 49 = .ok (.if_icmp .ge 32, 3) := by decide +kernel
theorem dX3_shortfallWithout_52 : decode cX3_shortfallWithout 52 = .ok (.aload_n 0, 1) := by decide +kernel
theorem dX3_shortfallWithout_53 : decode cX3_shortfallWithout 53 = .ok (.getfield 9, 3) := by decide +kernel
theorem dX3_shortfallWithout_56 : decode cX3_shortfallWithout 56 = .ok (.getfield 57, 3) := by decide +kernel
theorem dX3_shortfallWithout_59 : decode cX3_shortfallWithout 59 = .ok (.iload 5, 2) := by decide +kernel
theorem dX3_shortfallWithout_61 : decode cX3_shortfallWithout 61 = .ok (.iaload, 1) := by decide +kernel
theorem dX3_shortfallWithout_62 : decode cX3_shortfallWithout 62 = .ok (.aload_n 0, 1) := by decide +kernel
theorem dX3_shortfallWithout_63 : decode cX3_shortfallWithout 63 = .ok (.getfield 19, 3) := by decide +kernel
theorem dX3_shortfallWithout_66 : decode cX3_shortfallWithout 66 = .ok (.iload 5, 2) := by decide +kernel
theorem dX3_shortfallWithout_68 : decode cX3_shortfallWithout 68 = .ok (.iaload, 1) := by decide +kernel
theorem dX3_shortfallWithout_69 : decode cX3_shortfallWithout 69 = .ok (.if_icmp .le 6, 3) := by decide +kernel
theorem dX3_shortfallWithout_72 : decode cX3_shortfallWithout 72 = .ok (.iinc 4 (-1), 3) := by decide +kernel
theorem dX3_shortfallWithout_75 : decode cX3_shortfallWithout 75 = .ok (.iinc 5 1, 3) := by decide +kernel
theorem dX3_shortfallWithout_78 : decode cX3_shortfallWithout 78 = .ok (.goto (-42), 3) := by decide +kernel
theorem dX3_shortfallWithout_81 : decode cX3_shortfallWithout 81 = .ok (.iload 4, 2) := by decide +kernel
theorem dX3_shortfallWithout_83 : decode cX3_shortfallWithout 83 = .ok (.ireturn, 1) := by decide +kernel
set_option maxRecDepth 20000 in
theorem ggX3_lossAt_X1_cellOfPause : GoodIn wsX3_lossAt wsX1_cellOfPause := goodIn_r _ [10, 11, 12, 13, 14, 15, 20, 21, 22, 23, 24, 25, 26, 27, 28, 29, 30, 31, 32, 33, 34, 35, 36] (by decide +kernel) (by decide +kernel)
set_option maxRecDepth 20000 in
theorem gX3_lossAt_X1_cellOfPause : GoodIn wsX3_lossAt (wsV RX3 73 RX1 yX1_cellOfPause wsX1_cellOfPause) := goodIn_app (goodIn_of _ (by decide +kernel)) ggX3_lossAt_X1_cellOfPause
theorem dX3_lossAt_0 : decode cX3_lossAt 0 = .ok (.aload_n 0, 1) := by decide +kernel
theorem dX3_lossAt_1 : decode cX3_lossAt 1 = .ok (.getfield 9, 3) := by decide +kernel
theorem dX3_lossAt_4 : decode cX3_lossAt 4 = .ok (.getfield 76, 3) := by decide +kernel
theorem dX3_lossAt_7 : decode cX3_lossAt 7 = .ok (.iload_n 1, 1) := by decide +kernel
theorem dX3_lossAt_8 : decode cX3_lossAt 8 = .ok (.iaload, 1) := by decide +kernel
theorem dX3_lossAt_9 : decode cX3_lossAt 9 = .ok (.istore_n 3, 1) := by decide +kernel
theorem dX3_lossAt_10 : decode cX3_lossAt 10 = .ok (.aload_n 0, 1) := by decide +kernel
theorem dX3_lossAt_11 : decode cX3_lossAt 11 = .ok (.getfield 9, 3) := by decide +kernel
theorem dX3_lossAt_14 : decode cX3_lossAt 14 = .ok (.iload_n 1, 1) := by decide +kernel
theorem dX3_lossAt_15 : decode cX3_lossAt 15 = .ok (.iload_n 2, 1) := by decide +kernel
theorem dX3_lossAt_16 : decode cX3_lossAt 16 = .ok (.invokevirtual 73, 3) := by decide +kernel
theorem dX3_lossAt_19 : decode cX3_lossAt 19 = .ok (.istore 4, 2) := by decide +kernel
theorem dX3_lossAt_21 : decode cX3_lossAt 21 = .ok (.aload_n 0, 1) := by decide +kernel
theorem dX3_lossAt_22 : decode cX3_lossAt 22 = .ok (.getfield 15, 3) := by decide +kernel
theorem dX3_lossAt_25 : decode cX3_lossAt 25 = .ok (.iload_n 1, 1) := by decide +kernel
theorem dX3_lossAt_26 : decode cX3_lossAt 26 = .ok (.iaload, 1) := by decide +kernel
theorem dX3_lossAt_27 : decode cX3_lossAt 27 = .ok (.istore 5, 2) := by decide +kernel
theorem dX3_lossAt_29 : decode cX3_lossAt 29 = .ok (.iload 5, 2) := by decide +kernel
theorem dX3_lossAt_31 : decode cX3_lossAt 31 = .ok (.iconst (-1), 1) := by decide +kernel
theorem dX3_lossAt_32 : decode cX3_lossAt 32 = .ok (.if_icmp .ne 7, 3) := by decide +kernel
theorem dX3_lossAt_35 : decode cX3_lossAt 35 = .ok (.iconst (-1), 1) := by decide +kernel
theorem dX3_lossAt_36 : decode cX3_lossAt 36 = .ok (.goto 13, 3) := by decide +kernel
theorem dX3_lossAt_39 : decode cX3_lossAt 39 = .ok (.aload_n 0, 1) := by decide +kernel
theorem dX3_lossAt_40 : decode cX3_lossAt 40 = .ok (.getfield 9, 3) := by decide +kernel
theorem dX3_lossAt_43 : decode cX3_lossAt 43 = .ok (.iload_n 1, 1) := by decide +kernel
theorem dX3_lossAt_44 : decode cX3_lossAt 44 = .ok (.iload 5, 2) := by decide +kernel
theorem dX3_lossAt_46 : decode cX3_lossAt 46 = .ok (.invokevirtual 73, 3) := by decide +kernel
theorem dX3_lossAt_49 : decode cX3_lossAt 49 = .ok (.istore 6, 2) := by decide +kernel
theorem dX3_lossAt_51 : decode cX3_lossAt 51 = .ok (.iconst 0, 1) := by decide +kernel
theorem dX3_lossAt_52 : decode cX3_lossAt 52 = .ok (.istore 7, 2) := by decide +kernel
theorem dX3_lossAt_54 : decode cX3_lossAt 54 = .ok (.iload 4, 2) := by decide +kernel
theorem dX3_lossAt_56 : decode cX3_lossAt 56 = .ok (.istore 8, 2) := by decide +kernel
theorem dX3_lossAt_58 : decode cX3_lossAt 58 = .ok (.iload 8, 2) := by decide +kernel
theorem dX3_lossAt_60 : decode cX3_lossAt 60 = .ok (.iload 4, 2) := by decide +kernel
theorem dX3_lossAt_62 : decode cX3_lossAt 62 = .ok (.iload_n 3, 1) := by decide +kernel
theorem dX3_lossAt_63 : decode cX3_lossAt 63 = .ok (.iadd, 1) := by decide +kernel
theorem dX3_lossAt_64 : decode cX3_lossAt 64 = .ok (.if_icmp .ge 72, 3) := by decide +kernel
theorem dX3_lossAt_67 : decode cX3_lossAt 67 = .ok (.iload 6, 2) := by decide +kernel
theorem dX3_lossAt_69 : decode cX3_lossAt 69 = .ok (.iconst (-1), 1) := by decide +kernel
theorem dX3_lossAt_70 : decode cX3_lossAt 70 = .ok (.if_icmp .eq 23, 3) := by decide +kernel
theorem dX3_lossAt_73 : decode cX3_lossAt 73 = .ok (.iload 8, 2) := by decide +kernel
theorem dX3_lossAt_75 : decode cX3_lossAt 75 = .ok (.iload 6, 2) := by decide +kernel
theorem dX3_lossAt_77 : decode cX3_lossAt 77 = .ok (.if_icmp .lt 16, 3) := by decide +kernel
theorem dX3_lossAt_80 : decode cX3_lossAt 80 = .ok (.iload 8, 2) := by decide +kernel
theorem dX3_lossAt_82 : decode cX3_lossAt 82 = .ok (.iload 6, 2) := by decide +kernel
theorem dX3_lossAt_84 : decode cX3_lossAt 84 = .ok (.iload_n 3, 1) := by decide +kernel
theorem dX3_lossAt_85 : decode cX3_lossAt 85 = .ok (.iadd, 1) := by decide +kernel
theorem dX3_lossAt_86 : decode cX3_lossAt 86 = .ok (.if_icmp .ge 7, 3) := by decide +kernel
theorem dX3_lossAt_89 : decode cX3_lossAt 89 = .ok (.iconst 1, 1) := by decide +kernel
theorem dX3_lossAt_90 : decode cX3_lossAt 90 = .ok (.goto 4, 3) := by decide +kernel
theorem dX3_lossAt_93 : decode cX3_lossAt 93 = .ok (.iconst 0, 1) := by decide +kernel
theorem dX3_lossAt_94 : decode cX3_lossAt 94 = .ok (.istore 9, 2) := by decide +kernel
theorem dX3_lossAt_96 : decode cX3_lossAt 96 = .ok (.aload_n 0, 1) := by decide +kernel
theorem dX3_lossAt_97 : decode cX3_lossAt 97 = .ok (.getfield 9, 3) := by decide +kernel
theorem dX3_lossAt_100 : decode cX3_lossAt 100 = .ok (.getfield 57, 3) := by decide +kernel
theorem dX3_lossAt_103 : decode cX3_lossAt 103 = .ok (.iload 8, 2) := by decide +kernel
theorem dX3_lossAt_105 : decode cX3_lossAt 105 = .ok (.iaload, 1) := by decide +kernel
theorem dX3_lossAt_106 : decode cX3_lossAt 106 = .ok (.aload_n 0, 1) := by decide +kernel
theorem dX3_lossAt_107 : decode cX3_lossAt 107 = .ok (.getfield 19, 3) := by decide +kernel
theorem dX3_lossAt_110 : decode cX3_lossAt 110 = .ok (.iload 8, 2) := by decide +kernel
theorem dX3_lossAt_112 : decode cX3_lossAt 112 = .ok (.iaload, 1) := by decide +kernel
theorem dX3_lossAt_113 : decode cX3_lossAt 113 = .ok (.iload 9, 2) := by decide +kernel
theorem dX3_lossAt_115 : decode cX3_lossAt 115 = .ok (.ifCond .eq 7, 3) := by decide +kernel
theorem dX3_lossAt_118 : decode cX3_lossAt 118 = .ok (.iconst 1, 1) := by decide +kernel
theorem dX3_lossAt_119 : decode cX3_lossAt 119 = .ok (.goto 4, 3) := by decide +kernel
theorem dX3_lossAt_122 : decode cX3_lossAt 122 = .ok (.iconst 0, 1) := by decide +kernel
theorem dX3_lossAt_123 : decode cX3_lossAt 123 = .ok (.iadd, 1) := by decide +kernel
theorem dX3_lossAt_124 : decode cX3_lossAt 124 = .ok (.if_icmp .lt 6, 3) := by decide +kernel
theorem dX3_lossAt_127 : decode cX3_lossAt 127 = .ok (.iinc 7 1, 3) := by decide +kernel
theorem dX3_lossAt_130 : decode cX3_lossAt 130 = .ok (.iinc 8 1, 3) := by decide +kernel
theorem dX3_lossAt_133 : decode cX3_lossAt 133 = .ok (.goto (-75), 3) := by decide +kernel
theorem dX3_lossAt_136 : decode cX3_lossAt 136 = .ok (.iload 7, 2) := by decide +kernel
theorem dX3_lossAt_138 : decode cX3_lossAt 138 = .ok (.ireturn, 1) := by decide +kernel
set_option maxRecDepth 20000 in
theorem ggX3_findBestSlot_X3_reasonAgainst : GoodIn wsX3_findBestSlot wsX3_reasonAgainst := goodIn_r _ [8, 1, 2, 3, 9, 10, 11, 12, 13, 14, 15, 7, 16, 17, 34, 35, 36, 37, 38, 39, 40, 41, 42, 43, 44, 45, 46, 47, 48, 49, 50, 51, 52, 53, 54] (by decide +kernel) (by decide +kernel)
set_option maxRecDepth 20000 in
theorem gX3_findBestSlot_X3_reasonAgainst : GoodIn wsX3_findBestSlot (wsV RX3 98 RX3 yX3_reasonAgainst wsX3_reasonAgainst) := goodIn_app (goodIn_of _ (by decide +kernel)) ggX3_findBestSlot_X3_reasonAgainst
set_option maxRecDepth 20000 in
theorem ggX3_findBestSlot_X3_lossAt : GoodIn wsX3_findBestSlot wsX3_lossAt := goodIn_r _ [21, 1, 12, 17, 22, 23, 24, 25, 26, 27, 28, 29, 30, 31, 32, 33, 34, 35, 36, 37, 38, 39, 40, 41, 42, 43, 44, 45, 46, 47, 48, 49, 50, 51, 52, 53, 54] (by decide +kernel) (by decide +kernel)
set_option maxRecDepth 20000 in
theorem gX3_findBestSlot_X3_lossAt : GoodIn wsX3_findBestSlot (wsV RX3 101 RX3 yX3_lossAt wsX3_lossAt) := goodIn_app (goodIn_of _ (by decide +kernel)) ggX3_findBestSlot_X3_lossAt
theorem dX3_findBestSlot_0 : decode cX3_findBestSlot 0 = .ok (.bipush (-2), 2) := by decide +kernel
theorem dX3_findBestSlot_2 : decode cX3_findBestSlot 2 = .ok (.istore_n 2, 1) := by decide +kernel
theorem dX3_findBestSlot_3 : decode cX3_findBestSlot 3 = .ok (.iconst 0, 1) := by decide +kernel
theorem dX3_findBestSlot_4 : decode cX3_findBestSlot 4 = .ok (.istore_n 3, 1) := by decide +kernel
theorem dX3_findBestSlot_5 : decode cX3_findBestSlot 5 = .ok (.aload_n 0, 1) := by decide +kernel
theorem dX3_findBestSlot_6 : decode cX3_findBestSlot 6 = .ok (.getfield 9, 3) := by decide +kernel
theorem dX3_findBestSlot_9 : decode cX3_findBestSlot 9 = .ok (.getfield 79, 3) := by decide +kernel
theorem dX3_findBestSlot_12 : decode cX3_findBestSlot 12 = .ok (.iload_n 1, 1) := by decide +kernel
theorem dX3_findBestSlot_13 : decode cX3_findBestSlot 13 = .ok (.iaload, 1) := by decide +kernel
theorem dX3_findBestSlot_14 : decode cX3_findBestSlot 14 = .ok (.istore 4, 2) := by decide +kernel
theorem dX3_findBestSlot_16 : decode cX3_findBestSlot 16 = .ok (.iload 4, 2) := by decide +kernel
theorem dX3_findBestSlot_18 : decode cX3_findBestSlot 18 = .ok (.aload_n 0, 1) := by decide +kernel
theorem dX3_findBestSlot_19 : decode cX3_findBestSlot 19 = .ok (.getfield 9, 3) := by decide +kernel
theorem dX3_findBestSlot_22 : decode cX3_findBestSlot 22 = .ok (.getfield 82, 3) := by decide +kernel
theorem dX3_findBestSlot_25 : decode cX3_findBestSlot 25 = .ok (.iload_n 1, 1) := by decide +kernel
theorem dX3_findBestSlot_26 : decode cX3_findBestSlot 26 = .ok (.iaload, 1) := by decide +kernel
theorem dX3_findBestSlot_27 : decode cX3_findBestSlot 27 = .ok (.if_icmp .gt 46, 3) := by decide +kernel
theorem dX3_findBestSlot_30 : decode cX3_findBestSlot 30 = .ok (.aload_n 0, 1) := by decide +kernel
theorem dX3_findBestSlot_31 : decode cX3_findBestSlot 31 = .ok (.iload_n 1, 1) := by decide +kernel
theorem dX3_findBestSlot_32 : decode cX3_findBestSlot 32 = .ok (.iload 4, 2) := by decide +kernel
theorem dX3_findBestSlot_34 : decode cX3_findBestSlot 34 = .ok (.invokevirtual 98, 3) := by decide +kernel
theorem dX3_findBestSlot_37 : decode cX3_findBestSlot 37 = .ok (.ifCond .ne 30, 3) := by decide +kernel
theorem dX3_findBestSlot_40 : decode cX3_findBestSlot 40 = .ok (.aload_n 0, 1) := by decide +kernel
theorem dX3_findBestSlot_41 : decode cX3_findBestSlot 41 = .ok (.iload_n 1, 1) := by decide +kernel
theorem dX3_findBestSlot_42 : decode cX3_findBestSlot 42 = .ok (.iload 4, 2) := by decide +kernel
theorem dX3_findBestSlot_44 : decode cX3_findBestSlot 44 = .ok (.invokevirtual 101, 3) := by decide +kernel
theorem dX3_findBestSlot_47 : decode cX3_findBestSlot 47 = .ok (.istore 5, 2) := by decide +kernel
theorem dX3_findBestSlot_49 : decode cX3_findBestSlot 49 = .ok (.iload_n 2, 1) := by decide +kernel
theorem dX3_findBestSlot_50 : decode cX3_findBestSlot 50 = .ok (.bipush (-2), 2) := by decide +kernel
theorem dX3_findBestSlot_52 : decode cX3_findBestSlot 52 = .ok (.if_icmp .eq 9, 3) := by decide +kernel
theorem dX3_findBestSlot_55 : decode cX3_findBestSlot 55 = .ok (.iload 5, 2) := by decide +kernel
theorem dX3_findBestSlot_57 : decode cX3_findBestSlot 57 = .ok (.iload_n 3, 1) := by decide +kernel
theorem dX3_findBestSlot_58 : decode cX3_findBestSlot 58 = .ok (.if_icmp .ge 9, 3) := by decide +kernel
theorem dX3_findBestSlot_61 : decode cX3_findBestSlot 61 = .ok (.iload 4, 2) := by decide +kernel
theorem dX3_findBestSlot_63 : decode cX3_findBestSlot 63 = .ok (.istore_n 2, 1) := by decide +kernel
theorem dX3_findBestSlot_64 : decode cX3_findBestSlot 64 = .ok (.iload 5, 2) := by decide +kernel
theorem dX3_findBestSlot_66 : decode cX3_findBestSlot 66 = .ok (.istore_n 3, 1) := by decide +kernel
theorem dX3_findBestSlot_67 : decode cX3_findBestSlot 67 = .ok (.iinc 4 1, 3) := by decide +kernel
theorem dX3_findBestSlot_70 : decode cX3_findBestSlot 70 = .ok (.goto (-54), 3) := by decide +kernel
theorem dX3_findBestSlot_73 : decode cX3_findBestSlot 73 = .ok (.iload_n 2, 1) := by decide +kernel
theorem dX3_findBestSlot_74 : decode cX3_findBestSlot 74 = .ok (.ireturn, 1) := by decide +kernel
set_option maxRecDepth 20000 in
theorem ggX3_findBestMove_X3_findBestSlot : GoodIn wsX3_findBestMove wsX3_findBestSlot := goodIn_r _ [9, 2, 10, 11, 12, 13, 14, 8, 15, 16, 17, 18, 19, 20, 21, 22, 23, 4, 24, 25, 26, 27, 28, 29, 30, 31, 32, 33, 34, 35, 36, 37, 38, 39, 44, 45, 46, 47, 48, 49, 50, 51, 52, 53, 54, 55, 56, 57, 58, 59, 60, 61, 62, 63, 64] (by decide +kernel) (by decide +kernel)
set_option maxRecDepth 20000 in
theorem gX3_findBestMove_X3_findBestSlot : GoodIn wsX3_findBestMove (wsV RX3 104 RX3 yX3_findBestSlot wsX3_findBestSlot) := goodIn_app (goodIn_of _ (by decide +kernel)) ggX3_findBestMove_X3_findBestSlot
set_option maxRecDepth 20000 in
theorem ggX3_findBestMove_X3_shortfallWithout : GoodIn wsX3_findBestMove wsX3_shortfallWithout := goodIn_r _ [43, 4, 1, 2, 19, 28, 29, 30, 31, 32, 33, 34, 35, 36, 37, 38, 39, 44, 45, 46, 47, 48, 49, 50, 51, 52, 53, 54, 55, 56, 57, 58, 59, 60, 61, 62, 63, 64] (by decide +kernel) (by decide +kernel)
set_option maxRecDepth 20000 in
theorem gX3_findBestMove_X3_shortfallWithout : GoodIn wsX3_findBestMove (wsV RX3 70 RX3 yX3_shortfallWithout wsX3_shortfallWithout) := goodIn_app (goodIn_of _ (by decide +kernel)) ggX3_findBestMove_X3_shortfallWithout
set_option maxRecDepth 20000 in
theorem ggX3_findBestMove_X3_lossAt : GoodIn wsX3_findBestMove wsX3_lossAt := goodIn_r _ [27, 2, 19, 4, 28, 29, 30, 31, 32, 33, 34, 35, 36, 37, 38, 39, 44, 45, 46, 47, 48, 49, 50, 51, 52, 53, 54, 55, 56, 57, 58, 59, 60, 61, 62, 63, 64] (by decide +kernel) (by decide +kernel)
set_option maxRecDepth 20000 in
theorem gX3_findBestMove_X3_lossAt : GoodIn wsX3_findBestMove (wsV RX3 101 RX3 yX3_lossAt wsX3_lossAt) := goodIn_app (goodIn_of _ (by decide +kernel)) ggX3_findBestMove_X3_lossAt
theorem dX3_findBestMove_0 : decode cX3_findBestMove 0 = .ok (.bipush (-2), 2) := by decide +kernel
theorem dX3_findBestMove_2 : decode cX3_findBestMove 2 = .ok (.istore_n 1, 1) := by decide +kernel
theorem dX3_findBestMove_3 : decode cX3_findBestMove 3 = .ok (.aload_n 0, 1) := by decide +kernel
theorem dX3_findBestMove_4 : decode cX3_findBestMove 4 = .ok (.getfield 42, 3) := by decide +kernel
theorem dX3_findBestMove_7 : decode cX3_findBestMove 7 = .ok (.istore_n 2, 1) := by decide +kernel
theorem dX3_findBestMove_8 : decode cX3_findBestMove 8 = .ok (.iconst 0, 1) := by decide +kernel
theorem dX3_findBestMove_9 : decode cX3_findBestMove 9 = .ok (.istore_n 3, 1) := by decide +kernel
theorem dX3_findBestMove_10 : decode cX3_findBestMove 10 = .ok (.iload_n 3, 1) := by decide +kernel
theorem dX3_findBestMove_11 : decode cX3_findBestMove 11 = .ok (.aload_n 0, 1) := by decide +kernel
theorem dX3_findBestMove_12 : decode cX3_findBestMove 12 = .ok (.getfield 9, 3) := by decide +kernel
theorem dX3_findBestMove_15 : decode cX3_findBestMove 15 = .ok (.getfield 50, 3) := by decide +kernel
theorem dX3_findBestMove_18 : decode cX3_findBestMove 18 = .ok (.if_icmp .ge 70, 3) := by decide +kernel
theorem dX3_findBestMove_21 : decode cX3_findBestMove 21 = .ok (.aload_n 0, 1) := by decide +kernel
theorem dX3_findBestMove_22 : decode cX3_findBestMove 22 = .ok (.getfield 15, 3) := by decide +kernel
theorem dX3_findBestMove_25 : decode cX3_findBestMove 25 = .ok (.iload_n 3, 1) := by decide +kernel
theorem dX3_findBestMove_26 : decode cX3_findBestMove 26 = .ok (.iaload, 1) := by decide +kernel
theorem dX3_findBestMove_27 : decode cX3_findBestMove 27 = .ok (.iconst (-1), 1) := by decide +kernel
theorem dX3_findBestMove_28 : decode cX3_findBestMove 28 = .ok (.if_icmp .ne 8, 3) := by decide +kernel
theorem dX3_findBestMove_31 : decode cX3_findBestMove 31 = .ok (.bipush (-2), 2) := by decide +kernel
theorem dX3_findBestMove_33 : decode cX3_findBestMove 33 = .ok (.goto 8, 3) := by decide +kernel
theorem dX3_findBestMove_36 : decode cX3_findBestMove 36 = .ok (.aload_n 0, 1) := by decide +kernel
theorem dX3_findBestMove_37 : decode cX3_findBestMove 37 = .ok (.iload_n 3, 1) := by decide +kernel
theorem dX3_findBestMove_38 : decode cX3_findBestMove 38 = .ok (.invokevirtual 104, 3) := by decide +kernel
theorem dX3_findBestMove_41 : decode cX3_findBestMove 41 = .ok (.istore 4, 2) := by decide +kernel
theorem dX3_findBestMove_43 : decode cX3_findBestMove 43 = .ok (.iload 4, 2) := by decide +kernel
theorem dX3_findBestMove_45 : decode cX3_findBestMove 45 = .ok (.bipush (-2), 2) := by decide +kernel
theorem dX3_findBestMove_47 : decode cX3_findBestMove 47 = .ok (.if_icmp .eq 35, 3) := by decide +kernel
theorem dX3_findBestMove_50 : decode cX3_findBestMove 50 = .ok (.aload_n 0, 1) := by decide +kernel
theorem dX3_findBestMove_51 : decode cX3_findBestMove 51 = .ok (.iload_n 3, 1) := by decide +kernel
theorem dX3_findBestMove_52 : decode cX3_findBestMove 52 = .ok (.invokevirtual 70, 3) := by decide +kernel
theorem dX3_findBestMove_55 : decode cX3_findBestMove 55 = .ok (.aload_n 0, 1) := by decide +kernel
theorem dX3_findBestMove_56 : decode cX3_findBestMove 56 = .ok (.iload_n 3, 1) := by decide +kernel
theorem dX3_findBestMove_57 : decode cX3_findBestMove 57 = .ok (.iload 4, 2) := by decide +kernel
theorem dX3_findBestMove_59 : decode cX3_findBestMove 59 = .ok (.invokevirtual 101, 3) := by decide +kernel
theorem dX3_findBestMove_62 : decode cX3_findBestMove 62 = .ok (.iadd, 1) := by decide +kernel
theorem dX3_findBestMove_63 : decode cX3_findBestMove 63 = .ok (.istore 5, 2) := by decide +kernel
theorem dX3_findBestMove_65 : decode cX3_findBestMove 65 = .ok (.iload 5, 2) := by decide +kernel
theorem dX3_findBestMove_67 : decode cX3_findBestMove 67 = .ok (.iload_n 2, 1) := by decide +kernel
theorem dX3_findBestMove_68 : decode cX3_findBestMove 68 = .ok (.if_icmp .ge 14, 3) := by decide +kernel
theorem dX3_findBestMove_71 : decode cX3_findBestMove 71 = .ok (.iload_n 3, 1) := by decide +kernel
theorem dX3_findBestMove_72 : decode cX3_findBestMove 72 = .ok (.bipush 100, 2) := by decide +kernel
theorem dX3_findBestMove_74 : decode cX3_findBestMove 74 = .ok (.imul, 1) := by decide +kernel
theorem dX3_findBestMove_75 : decode cX3_findBestMove 75 = .ok (.iload 4, 2) := by decide +kernel
theorem dX3_findBestMove_77 : decode cX3_findBestMove 77 = .ok (.iadd, 1) := by decide +kernel
theorem dX3_findBestMove_78 : decode cX3_findBestMove 78 = .ok (.istore_n 1, 1) := by decide +kernel
theorem dX3_findBestMove_79 : decode cX3_findBestMove 79 = .ok (.iload 5, 2) := by decide +kernel
theorem dX3_findBestMove_81 : decode cX3_findBestMove 81 = .ok (.istore_n 2, 1) := by decide +kernel
theorem dX3_findBestMove_82 : decode cX3_findBestMove 82 = .ok (.iinc 3 1, 3) := by decide +kernel
theorem dX3_findBestMove_85 : decode cX3_findBestMove 85 = .ok (.goto (-75), 3) := by decide +kernel
theorem dX3_findBestMove_88 : decode cX3_findBestMove 88 = .ok (.iload_n 1, 1) := by decide +kernel
theorem dX3_findBestMove_89 : decode cX3_findBestMove 89 = .ok (.ireturn, 1) := by decide +kernel
set_option maxRecDepth 20000 in
theorem ggX3_findWorstSlot_X6_cellOf : GoodIn wsX3_findWorstSlot wsX6_cellOf := goodIn_r _ [5] (by decide +kernel) (by decide +kernel)
set_option maxRecDepth 20000 in
theorem gX3_findWorstSlot_X6_cellOf_n110 : GoodIn wsX3_findWorstSlot (wsX6_cellOf) := ggX3_findWorstSlot_X6_cellOf
set_option maxRecDepth 20000 in
theorem ggX3_findWorstSlot_X3_shortOf : GoodIn wsX3_findWorstSlot wsX3_shortOf := goodIn_r _ [10, 1, 11, 12, 13, 14, 15, 16, 17, 18, 19, 20, 21, 22, 23, 24, 25, 26, 27, 28, 29, 30, 31, 32, 33, 34, 35, 36, 37] (by decide +kernel) (by decide +kernel)
set_option maxRecDepth 20000 in
theorem gX3_findWorstSlot_X3_shortOf : GoodIn wsX3_findWorstSlot (wsV RX3 46 RX3 yX3_shortOf wsX3_shortOf) := goodIn_app (goodIn_of _ (by decide +kernel)) ggX3_findWorstSlot_X3_shortOf
theorem dX3_findWorstSlot_0 : decode cX3_findWorstSlot 0 = .ok (.iconst (-1), 1) := by decide +kernel
theorem dX3_findWorstSlot_1 : decode cX3_findWorstSlot 1 = .ok (.istore_n 1, 1) := by decide +kernel
theorem dX3_findWorstSlot_2 : decode cX3_findWorstSlot 2 = .ok (.iconst 0, 1) := by decide +kernel
theorem dX3_findWorstSlot_3 : decode cX3_findWorstSlot 3 = .ok (.istore_n 2, 1) := by decide +kernel
theorem dX3_findWorstSlot_4 : decode cX3_findWorstSlot 4 = .ok (.iconst 0, 1) := by decide +kernel
theorem dX3_findWorstSlot_5 : decode cX3_findWorstSlot 5 = .ok (.istore_n 3, 1) := by decide +kernel
theorem dX3_findWorstSlot_6 : decode cX3_findWorstSlot 6 = .ok (.iload_n 3, 1) := by decide +kernel
theorem dX3_findWorstSlot_7 : decode cX3_findWorstSlot 7 = .ok (.bipush 48, 2) := by decide +kernel
theorem dX3_findWorstSlot_9 : decode cX3_findWorstSlot 9 = .ok (.if_icmp .ge 59, 3) := by decide +kernel
theorem dX3_findWorstSlot_12 : decode cX3_findWorstSlot 12 = .ok (.iconst 0, 1) := by decide +kernel
theorem dX3_findWorstSlot_13 : decode cX3_findWorstSlot 13 = .ok (.istore 4, 2) := by decide +kernel
theorem dX3_findWorstSlot_15 : decode cX3_findWorstSlot 15 = .ok (.iconst 0, 1) := by decide +kernel
theorem dX3_findWorstSlot_16 : decode cX3_findWorstSlot 16 = .ok (.istore 5, 2) := by decide +kernel
theorem dX3_findWorstSlot_18 : decode cX3_findWorstSlot 18 = .ok (.iload 5, 2) := by decide +kernel
theorem dX3_findWorstSlot_20 : decode cX3_findWorstSlot 20 = .ok (.aload_n 0, 1) := by decide +kernel
theorem dX3_findWorstSlot_21 : decode cX3_findWorstSlot 21 = .ok (.getfield 9, 3) := by decide +kernel
theorem dX3_findWorstSlot_24 : decode cX3_findWorstSlot 24 = .ok (.getfield 107, 3) := by decide +kernel
theorem dX3_findWorstSlot_27 : decode cX3_findWorstSlot 27 = .ok (.if_icmp .ge 24, 3) := by decide +kernel
theorem dX3_findWorstSlot_30 : decode cX3_findWorstSlot 30 = .ok (.iload 4, 2) := by decide +kernel
theorem dX3_findWorstSlot_32 : decode cX3_findWorstSlot 32 = .ok (.aload_n 0, 1) := by decide +kernel
theorem dX3_findWorstSlot_33 : decode cX3_findWorstSlot 33 = .ok (.iload 5, 2) := by decide +kernel
theorem dX3_findWorstSlot_35 : decode cX3_findWorstSlot 35 = .ok (.iload_n 3, 1) := by decide +kernel
theorem dX3_findWorstSlot_36 : decode cX3_findWorstSlot 36 = .ok (.invokestatic 110, 3) := by decide +kernel
theorem dX3_findWorstSlot_39 : decode cX3_findWorstSlot 39 = .ok (.invokevirtual 46, 3) := by decide +kernel
theorem dX3_findWorstSlot_42 : decode cX3_findWorstSlot 42 = .ok (.iadd, 1) := by decide +kernel
theorem dX3_findWorstSlot_43 : decode cX3_findWorstSlot 43 = .ok (.istore 4, 2) := by decide +kernel
theorem dX3_findWorstSlot_45 : decode cX3_findWorstSlot 45 = .ok (.iinc 5 1, 3) := by decide +kernel
theorem dX3_findWorstSlot_48 : decode cX3_findWorstSlot 48 = .ok (.goto (-30), 3) := by decide +kernel
theorem dX3_findWorstSlot_51 : decode cX3_findWorstSlot 51 = .ok (.iload 4, 2) := by decide +kernel
theorem dX3_findWorstSlot_53 : decode cX3_findWorstSlot 53 = .ok (.iload_n 2, 1) := by decide +kernel
theorem dX3_findWorstSlot_54 : decode cX3_findWorstSlot 54 = .ok (.if_icmp .le 8, 3) := by decide +kernel
theorem dX3_findWorstSlot_57 : decode cX3_findWorstSlot 57 = .ok (.iload_n 3, 1) := by decide +kernel
theorem dX3_findWorstSlot_58 : decode cX3_findWorstSlot 58 = .ok (.istore_n 1, 1) := by decide +kernel
theorem dX3_findWorstSlot_59 : decode cX3_findWorstSlot 59 = .ok (.iload 4, 2) := by decide +kernel
theorem dX3_findWorstSlot_61 : decode cX3_findWorstSlot 61 = .ok (.istore_n 2, 1) := by decide +kernel
theorem dX3_findWorstSlot_62 : decode cX3_findWorstSlot 62 = .ok (.iinc 3 1, 3) := by decide +kernel
theorem dX3_findWorstSlot_65 : decode cX3_findWorstSlot 65 = .ok (.goto (-59), 3) := by decide +kernel
theorem dX3_findWorstSlot_68 : decode cX3_findWorstSlot 68 = .ok (.iload_n 1, 1) := by decide +kernel
theorem dX3_findWorstSlot_69 : decode cX3_findWorstSlot 69 = .ok (.ireturn, 1) := by decide +kernel
theorem dX4_init_0 : decode cX4_init 0 = .ok (.aload_n 0, 1) := by decide +kernel
theorem dX4_init_1 : decode cX4_init 1 = .ok (.invokespecial 3, 3) := by decide +kernel
theorem dX4_init_4 : decode cX4_init 4 = .ok (.aload_n 0, 1) := by decide +kernel
theorem dX4_init_5 : decode cX4_init 5 = .ok (.sipush 640, 3) := by decide +kernel
theorem dX4_init_8 : decode cX4_init 8 = .ok (.newarray .byte, 2) := by decide +kernel
theorem dX4_init_10 : decode cX4_init 10 = .ok (.putfield 11, 3) := by decide +kernel
theorem dX4_init_13 : decode cX4_init 13 = .ok (.aload_n 0, 1) := by decide +kernel
theorem dX4_init_14 : decode cX4_init 14 = .ok (.iconst 0, 1) := by decide +kernel
theorem dX4_init_15 : decode cX4_init 15 = .ok (.putfield 15, 3) := by decide +kernel
theorem dX4_init_18 : decode cX4_init 18 = .ok (.return_, 1) := by decide +kernel
theorem dX4_hasRoomForFeed_0 : decode cX4_hasRoomForFeed 0 = .ok (.aload_n 0, 1) := by decide +kernel
theorem dX4_hasRoomForFeed_1 : decode cX4_hasRoomForFeed 1 = .ok (.getfield 15, 3) := by decide +kernel
theorem dX4_hasRoomForFeed_4 : decode cX4_hasRoomForFeed 4 = .ok (.bipush 20, 2) := by decide +kernel
theorem dX4_hasRoomForFeed_6 : decode cX4_hasRoomForFeed 6 = .ok (.iadd, 1) := by decide +kernel
theorem dX4_hasRoomForFeed_7 : decode cX4_hasRoomForFeed 7 = .ok (.sipush 640, 3) := by decide +kernel
theorem dX4_hasRoomForFeed_10 : decode cX4_hasRoomForFeed 10 = .ok (.if_icmp .gt 7, 3) := by decide +kernel
theorem dX4_hasRoomForFeed_13 : decode cX4_hasRoomForFeed 13 = .ok (.iconst 1, 1) := by decide +kernel
theorem dX4_hasRoomForFeed_14 : decode cX4_hasRoomForFeed 14 = .ok (.goto 4, 3) := by decide +kernel
theorem dX4_hasRoomForFeed_17 : decode cX4_hasRoomForFeed 17 = .ok (.iconst 0, 1) := by decide +kernel
theorem dX4_hasRoomForFeed_18 : decode cX4_hasRoomForFeed 18 = .ok (.ireturn, 1) := by decide +kernel
theorem dX4_append_0 : decode cX4_append 0 = .ok (.bipush 24, 2) := by decide +kernel
theorem dX4_append_2 : decode cX4_append 2 = .ok (.istore_n 2, 1) := by decide +kernel
theorem dX4_append_3 : decode cX4_append 3 = .ok (.iload_n 2, 1) := by decide +kernel
theorem dX4_append_4 : decode cX4_append 4 = .ok (.ifCond .lt 42, 3) := by decide +kernel
theorem dX4_append_7 : decode cX4_append 7 = .ok (.aload_n 0, 1) := by decide +kernel
theorem dX4_append_8 : decode cX4_append 8 = .ok (.getfield 15, 3) := by decide +kernel
theorem dX4_append_11 : decode cX4_append 11 = .ok (.sipush 640, 3) := by decide +kernel
theorem dX4_append_14 : decode cX4_append 14 = .ok (.if_icmp .ge 32, 3) := by decide +kernel
theorem dX4_append_17 : decode cX4_append 17 = .ok (.aload_n 0, 1) := by decide +kernel
theorem dX4_append_18 : decode cX4_append 18 = .ok (.getfield 11, 3) := by decide +kernel
theorem dX4_append_21 : decode cX4_append 21 = .ok (.aload_n 0, 1) := by decide +kernel
theorem dX4_append_22 : decode cX4_append 22 = .ok (.getfield 15, 3) := by decide +kernel
theorem dX4_append_25 : decode cX4_append 25 = .ok (.iload_n 1, 1) := by decide +kernel
theorem dX4_append_26 : decode cX4_append 26 = .ok (.iload_n 2, 1) := by decide +kernel
theorem dX4_append_27 : decode cX4_append 27 = .ok (.ishr, 1) := by decide +kernel
theorem dX4_append_28 : decode cX4_append 28 = .ok (.i2b, 1) := by decide +kernel
theorem dX4_append_29 : decode cX4_append 29 = .ok (.bastore, 1) := by decide +kernel
theorem dX4_append_30 : decode cX4_append 30 = .ok (.aload_n 0, 1) := by decide +kernel
theorem dX4_append_31 : decode cX4_append 31 = .ok (.dup, 1) := by decide +kernel
theorem dX4_append_32 : decode cX4_append 32 = .ok (.getfield 15, 3) := by decide +kernel
theorem dX4_append_35 : decode cX4_append 35 = .ok (.iconst 1, 1) := by decide +kernel
theorem dX4_append_36 : decode cX4_append 36 = .ok (.iadd, 1) := by decide +kernel
theorem dX4_append_37 : decode cX4_append 37 = .ok (.putfield 15, 3) := by decide +kernel
theorem dX4_append_40 : decode cX4_append 40 = .ok (.iinc 2 (-8), 3) := by decide +kernel
theorem dX4_append_43 : decode cX4_append 43 = .ok (.goto (-40), 3) := by decide +kernel
theorem dX4_append_46 : decode cX4_append 46 = .ok (.return_, 1) := by decide +kernel
theorem dX4_cutTo_0 : decode cX4_cutTo 0 = .ok (.iload_n 1, 1) := by decide +kernel
theorem dX4_cutTo_1 : decode cX4_cutTo 1 = .ok (.ifCond .lt 11, 3) := by decide +kernel
theorem dX4_cutTo_4 : decode cX4_cutTo 4 = .ok (.iload_n 1, 1) := by decide +kernel
theorem dX4_cutTo_5 : decode cX4_cutTo 5 = .ok (.aload_n 0, 1) := by decide +kernel
theorem dX4_cutTo_6 : decode cX4_cutTo 6 = .ok (.getfield 15, 3) := by decide +kernel
theorem dX4_cutTo_9 : decode cX4_cutTo 9 = .ok (.if_icmp .le 5, 3) := by decide +kernel
theorem dX4_cutTo_12 : decode cX4_cutTo 12 = .ok (.iconst 0, 1) := by decide +kernel
theorem dX4_cutTo_13 : decode cX4_cutTo 13 = .ok (.ireturn, 1) := by decide +kernel
theorem dX4_cutTo_14 : decode cX4_cutTo 14 = .ok (.aload_n 0, 1) := by decide +kernel
theorem dX4_cutTo_15 : decode cX4_cutTo 15 = .ok (.iload_n 1, 1) := by decide +kernel
theorem dX4_cutTo_16 : decode cX4_cutTo 16 = .ok (.putfield 15, 3) := by decide +kernel
theorem dX4_cutTo_19 : decode cX4_cutTo 19 = .ok (.iconst 1, 1) := by decide +kernel
theorem dX4_cutTo_20 : decode cX4_cutTo 20 = .ok (.ireturn, 1) := by decide +kernel
theorem dX4_byteAt_0 : decode cX4_byteAt 0 = .ok (.iload_n 1, 1) := by decide +kernel
theorem dX4_byteAt_1 : decode cX4_byteAt 1 = .ok (.ifCond .lt 24, 3) := by decide +kernel
theorem dX4_byteAt_4 : decode cX4_byteAt 4 = .ok (.iload_n 1, 1) := by decide +kernel
theorem dX4_byteAt_5 : decode cX4_byteAt 5 = .ok (.aload_n 0, 1) := by decide +kernel
theorem dX4_byteAt_6 : decode cX4_byteAt 6 = .ok (.getfield 15, 3) := by decide +kernel
theorem dX4_byteAt_9 : decode cX4_byteAt 9 = .ok (.if_icmp .ge 16, 3) := by decide +kernel
theorem dX4_byteAt_12 : decode cX4_byteAt 12 = .ok (.aload_n 0, 1) := by decide +kernel
theorem dX4_byteAt_13 : decode cX4_byteAt 13 = .ok (.getfield 11, 3) := by decide +kernel
theorem dX4_byteAt_16 : decode cX4_byteAt 16 = .ok (.iload_n 1, 1) := by decide +kernel
theorem dX4_byteAt_17 : decode cX4_byteAt 17 = .ok (.baload, 1) := by decide +kernel
theorem dX4_byteAt_18 : decode cX4_byteAt 18 = .ok (.sipush 255, 3) := by decide +kernel
theorem dX4_byteAt_21 : decode cX4_byteAt 21 = .ok (.iand, 1) := by decide +kernel
theorem dX4_byteAt_22 : decode cX4_byteAt 22 = .ok (.goto 4, 3) := by decide +kernel
theorem dX4_byteAt_25 : decode cX4_byteAt 25 = .ok (.iconst (-1), 1) := by decide +kernel
theorem dX4_byteAt_26 : decode cX4_byteAt 26 = .ok (.ireturn, 1) := by decide +kernel
theorem dX5_init_0 : decode cX5_init 0 = .ok (.aload_n 0, 1) := by decide +kernel
theorem dX5_init_1 : decode cX5_init 1 = .ok (.invokespecial 3, 3) := by decide +kernel
theorem dX5_init_4 : decode cX5_init 4 = .ok (.aload_n 0, 1) := by decide +kernel
theorem dX5_init_5 : decode cX5_init 5 = .ok (.aload_n 1, 1) := by decide +kernel
theorem dX5_init_6 : decode cX5_init 6 = .ok (.putfield 9, 3) := by decide +kernel
theorem dX5_init_9 : decode cX5_init 9 = .ok (.aload_n 0, 1) := by decide +kernel
theorem dX5_init_10 : decode cX5_init 10 = .ok (.aload_n 2, 1) := by decide +kernel
theorem dX5_init_11 : decode cX5_init 11 = .ok (.putfield 15, 3) := by decide +kernel
theorem dX5_init_14 : decode cX5_init 14 = .ok (.aload_n 0, 1) := by decide +kernel
theorem dX5_init_15 : decode cX5_init 15 = .ok (.sipush 144, 3) := by decide +kernel
theorem dX5_init_18 : decode cX5_init 18 = .ok (.newarray .int, 2) := by decide +kernel
theorem dX5_init_20 : decode cX5_init 20 = .ok (.putfield 19, 3) := by decide +kernel
theorem dX5_init_23 : decode cX5_init 23 = .ok (.aload_n 0, 1) := by decide +kernel
theorem dX5_init_24 : decode cX5_init 24 = .ok (.sipush 144, 3) := by decide +kernel
theorem dX5_init_27 : decode cX5_init 27 = .ok (.newarray .int, 2) := by decide +kernel
theorem dX5_init_29 : decode cX5_init 29 = .ok (.putfield 23, 3) := by decide +kernel
theorem dX5_init_32 : decode cX5_init 32 = .ok (.return_, 1) := by decide +kernel
set_option maxRecDepth 20000 in
theorem ggX5_plotWays_X6_cellOf : GoodIn wsX5_plotWays wsX6_cellOf := goodIn_r _ [9] (by decide +kernel) (by decide +kernel)
set_option maxRecDepth 20000 in
theorem gX5_plotWays_X6_cellOf_n32 : GoodIn wsX5_plotWays (wsX6_cellOf) := ggX5_plotWays_X6_cellOf
set_option maxRecDepth 20000 in
theorem ggX5_plotWays_X3_shortOf : GoodIn wsX5_plotWays wsX3_shortOf := goodIn_r _ [14, 15, 16, 17, 18, 19, 20, 21, 50, 51, 52, 53, 33, 34, 35, 36, 37, 38, 39, 40, 41, 42, 43, 44, 45, 46, 47, 48, 49] (by decide +kernel) (by decide +kernel)
set_option maxRecDepth 20000 in
theorem gX5_plotWays_X3_shortOf : GoodIn wsX5_plotWays (wsV RX5 36 RX3 yX3_shortOf wsX3_shortOf) := goodIn_app (goodIn_of _ (by decide +kernel)) ggX5_plotWays_X3_shortOf
set_option maxRecDepth 20000 in
theorem ggX5_plotWays_X5_helpAt : GoodIn wsX5_plotWays wsX5_helpAt := goodIn_r _ [26, 4, 27, 8, 28, 7, 9, 29, 30, 31, 32] (by decide +kernel) (by decide +kernel)
set_option maxRecDepth 20000 in
theorem gX5_plotWays_X5_helpAt : GoodIn wsX5_plotWays (wsV RX5 42 RX5 yX5_helpAt wsX5_helpAt) := goodIn_app (goodIn_of _ (by decide +kernel)) ggX5_plotWays_X5_helpAt
theorem dX5_plotWays_0 : decode cX5_plotWays 0 = .ok (.bipush 47, 2) := by decide +kernel
theorem dX5_plotWays_2 : decode cX5_plotWays 2 = .ok (.istore_n 1, 1) := by decide +kernel
theorem dX5_plotWays_3 : decode cX5_plotWays 3 = .ok (.iload_n 1, 1) := by decide +kernel
theorem dX5_plotWays_4 : decode cX5_plotWays 4 = .ok (.ifCond .lt 147, 3) := by decide +kernel
theorem dX5_plotWays_7 : decode cX5_plotWays 7 = .ok (.iconst 0, 1) := by decide +kernel
theorem dX5_plotWays_8 : decode cX5_plotWays 8 = .ok (.istore_n 2, 1) := by decide +kernel
theorem dX5_plotWays_9 : decode cX5_plotWays 9 = .ok (.iload_n 2, 1) := by decide +kernel
theorem dX5_plotWays_10 : decode cX5_plotWays 10 = .ok (.aload_n 0, 1) := by decide +kernel
theorem dX5_plotWays_11 : decode cX5_plotWays 11 = .ok (.getfield 9, 3) := by decide +kernel
theorem dX5_plotWays_14 : decode cX5_plotWays 14 = .ok (.getfield 26, 3) := by decide +kernel
theorem dX5_plotWays_17 : decode cX5_plotWays 17 = .ok (.if_icmp .ge 128, 3) := by decide +kernel
theorem dX5_plotWays_20 : decode cX5_plotWays 20 = .ok (.iload_n 2, 1) := by decide +kernel
theorem dX5_plotWays_21 : decode cX5_plotWays 21 = .ok (.iload_n 1, 1) := by decide +kernel
theorem dX5_plotWays_22 : decode cX5_plotWays 22 = .ok (.invokestatic 32, 3) := by decide +kernel
theorem dX5_plotWays_25 : decode cX5_plotWays 25 = .ok (.istore_n 3, 1) := by decide +kernel
theorem dX5_plotWays_26 : decode cX5_plotWays 26 = .ok (.aload_n 0, 1) := by decide +kernel
theorem dX5_plotWays_27 : decode cX5_plotWays 27 = .ok (.getfield 15, 3) := by decide +kernel
theorem dX5_plotWays_30 : decode cX5_plotWays 30 = .ok (.iload_n 3, 1) := by decide +kernel
theorem dX5_plotWays_31 : decode cX5_plotWays 31 = .ok (.invokevirtual 36, 3) := by decide +kernel
theorem dX5_plotWays_34 : decode cX5_plotWays 34 = .ok (.ifCond .le 7, 3) := by decide +kernel
theorem dX5_plotWays_37 : decode cX5_plotWays 37 = .ok (.iconst 1, 1) := by decide +kernel
theorem dX5_plotWays_38 : decode cX5_plotWays 38 = .ok (.goto 4, 3) := by decide +kernel
theorem dX5_plotWays_41 : decode cX5_plotWays 41 = .ok (.iconst 0, 1) := by decide +kernel
theorem dX5_plotWays_42 : decode cX5_plotWays 42 = .ok (.istore 4, 2) := by decide +kernel
theorem dX5_plotWays_44 : decode cX5_plotWays 44 = .ok (.aload_n 0, 1) := by decide +kernel
theorem dX5_plotWays_45 : decode cX5_plotWays 45 = .ok (.getfield 19, 3) := by decide +kernel
theorem dX5_plotWays_48 : decode cX5_plotWays 48 = .ok (.iload_n 3, 1) := by decide +kernel
theorem dX5_plotWays_49 : decode cX5_plotWays 49 = .ok (.iload 4, 2) := by decide +kernel
theorem dX5_plotWays_51 : decode cX5_plotWays 51 = .ok (.aload_n 0, 1) := by decide +kernel
theorem dX5_plotWays_52 : decode cX5_plotWays 52 = .ok (.iload_n 2, 1) := by decide +kernel
theorem dX5_plotWays_53 : decode cX5_plotWays 53 = .ok (.iload_n 1, 1) := by decide +kernel
theorem dX5_plotWays_54 : decode cX5_plotWays 54 = .ok (.iconst 1, 1) := by decide +kernel
theorem dX5_plotWays_55 : decode cX5_plotWays 55 = .ok (.iadd, 1) := by decide +kernel
theorem dX5_plotWays_56 : decode cX5_plotWays 56 = .ok (.invokevirtual 42, 3) := by decide +kernel
theorem dX5_plotWays_59 : decode cX5_plotWays 59 = .ok (.iadd, 1) := by decide +kernel
theorem dX5_plotWays_60 : decode cX5_plotWays 60 = .ok (.iastore, 1) := by decide +kernel
theorem dX5_plotWays_61 : decode cX5_plotWays 61 = .ok (.aload_n 0, 1) := by decide +kernel
theorem dX5_plotWays_62 : decode cX5_plotWays 62 = .ok (.getfield 23, 3) := by decide +kernel
theorem dX5_plotWays_65 : decode cX5_plotWays 65 = .ok (.iload_n 3, 1) := by decide +kernel
theorem dX5_plotWays_66 : decode cX5_plotWays 66 = .ok (.iload_n 2, 1) := by decide +kernel
theorem dX5_plotWays_67 : decode cX5_plotWays 67 = .ok (.iastore, 1) := by decide +kernel
theorem dX5_plotWays_68 : decode cX5_plotWays 68 = .ok (.iconst 0, 1) := by decide +kernel
theorem dX5_plotWays_69 : decode cX5_plotWays 69 = .ok (.istore 5, 2) := by decide +kernel
theorem dX5_plotWays_71 : decode cX5_plotWays 71 = .ok (.iload 5, 2) := by decide +kernel
theorem dX5_plotWays_73 : decode cX5_plotWays 73 = .ok (.aload_n 0, 1) := by decide +kernel
theorem dX5_plotWays_74 : decode cX5_plotWays 74 = .ok (.getfield 9, 3) := by decide +kernel
theorem dX5_plotWays_77 : decode cX5_plotWays 77 = .ok (.getfield 26, 3) := by decide +kernel
theorem dX5_plotWays_80 : decode cX5_plotWays 80 = .ok (.if_icmp .ge 59, 3) := by decide +kernel
theorem dX5_plotWays_83 : decode cX5_plotWays 83 = .ok (.aload_n 0, 1) := by decide +kernel
theorem dX5_plotWays_84 : decode cX5_plotWays 84 = .ok (.iload 5, 2) := by decide +kernel
theorem dX5_plotWays_86 : decode cX5_plotWays 86 = .ok (.iload_n 1, 1) := by decide +kernel
theorem dX5_plotWays_87 : decode cX5_plotWays 87 = .ok (.aload_n 0, 1) := by decide +kernel
theorem dX5_plotWays_88 : decode cX5_plotWays 88 = .ok (.getfield 9, 3) := by decide +kernel
theorem dX5_plotWays_91 : decode cX5_plotWays 91 = .ok (.getfield 45, 3) := by decide +kernel
theorem dX5_plotWays_94 : decode cX5_plotWays 94 = .ok (.iadd, 1) := by decide +kernel
theorem dX5_plotWays_95 : decode cX5_plotWays 95 = .ok (.invokevirtual 42, 3) := by decide +kernel
theorem dX5_plotWays_98 : decode cX5_plotWays 98 = .ok (.istore 6, 2) := by decide +kernel
theorem dX5_plotWays_100 : decode cX5_plotWays 100 = .ok (.iload 5, 2) := by decide +kernel
theorem dX5_plotWays_102 : decode cX5_plotWays 102 = .ok (.iload_n 2, 1) := by decide +kernel
theorem dX5_plotWays_103 : decode cX5_plotWays 103 = .ok (.if_icmp .eq 30, 3) := by decide +kernel
theorem dX5_plotWays_106 : decode cX5_plotWays 106 = .ok (.iload 6, 2) := by decide +kernel
theorem dX5_plotWays_108 : decode cX5_plotWays 108 = .ok (.aload_n 0, 1) := by decide +kernel
theorem dX5_plotWays_109 : decode cX5_plotWays 109 = .ok (.getfield 19, 3) := by decide +kernel
theorem dX5_plotWays_112 : decode cX5_plotWays 112 = .ok (.iload_n 3, 1) := by decide +kernel
theorem dX5_plotWays_113 : decode cX5_plotWays 113 = .ok (.iaload, 1) := by decide +kernel
theorem dX5_plotWays_114 : decode cX5_plotWays 114 = .ok (.if_icmp .le 19, 3) := by decide +kernel
theorem dX5_plotWays_117 : decode cX5_plotWays 117 = .ok (.aload_n 0, 1) := by decide +kernel
theorem dX5_plotWays_118 : decode cX5_plotWays 118 = .ok (.getfield 19, 3) := by decide +kernel
theorem dX5_plotWays_121 : decode cX5_plotWays 121 = .ok (.iload_n 3, 1) := by decide +kernel
theorem dX5_plotWays_122 : decode cX5_plotWays 122 = .ok (.iload 6, 2) := by decide +kernel
theorem dX5_plotWays_124 : decode cX5_plotWays 124 = .ok (.iastore, 1) := by decide +kernel
theorem dX5_plotWays_125 : decode cX5_plotWays 125 = .ok (.aload_n 0, 1) := by decide +kernel
theorem dX5_plotWays_126 : decode cX5_plotWays 126 = .ok (.getfield 23, 3) := by decide +kernel
theorem dX5_plotWays_129 : decode cX5_plotWays 129 = .ok (.iload_n 3, 1) := by decide +kernel
theorem dX5_plotWays_130 : decode cX5_plotWays 130 = .ok (.iload 5, 2) := by decide +kernel
theorem dX5_plotWays_132 : decode cX5_plotWays 132 = .ok (.iastore, 1) := by decide +kernel
theorem dX5_plotWays_133 : decode cX5_plotWays 133 = .ok (.iinc 5 1, 3) := by decide +kernel
theorem dX5_plotWays_136 : decode cX5_plotWays 136 = .ok (.goto (-65), 3) := by decide +kernel
theorem dX5_plotWays_139 : decode cX5_plotWays 139 = .ok (.iinc 2 1, 3) := by decide +kernel
theorem dX5_plotWays_142 : decode cX5_plotWays 142 = .ok (.goto (-133), 3) := by decide +kernel
theorem dX5_plotWays_145 : decode cX5_plotWays 145 = .ok (.iinc 1 (-1), 3) := by decide +kernel
theorem dX5_plotWays_148 : decode cX5_plotWays 148 = .ok (.goto (-145), 3) := by decide +kernel
theorem dX5_plotWays_151 : decode cX5_plotWays 151 = .ok (.return_, 1) := by decide +kernel
set_option maxRecDepth 20000 in
theorem ggX5_helpAt_X6_isSlot : GoodIn wsX5_helpAt wsX6_isSlot := goodIn_r _ [4] (by decide +kernel) (by decide +kernel)
set_option maxRecDepth 20000 in
theorem gX5_helpAt_X6_isSlot_n48 : GoodIn wsX5_helpAt (wsX6_isSlot) := ggX5_helpAt_X6_isSlot
set_option maxRecDepth 20000 in
theorem ggX5_helpAt_X6_cellOf : GoodIn wsX5_helpAt wsX6_cellOf := goodIn_r _ [6] (by decide +kernel) (by decide +kernel)
set_option maxRecDepth 20000 in
theorem gX5_helpAt_X6_cellOf_n32 : GoodIn wsX5_helpAt (wsX6_cellOf) := ggX5_helpAt_X6_cellOf
theorem dX5_helpAt_0 : decode cX5_helpAt 0 = .ok (.iload_n 2, 1) := by decide +kernel
theorem dX5_helpAt_1 : decode cX5_helpAt 1 = .ok (.invokestatic 48, 3) := by decide +kernel
theorem dX5_helpAt_4 : decode cX5_helpAt 4 = .ok (.ifCond .eq 16, 3) := by decide +kernel
theorem dX5_helpAt_7 : decode cX5_helpAt 7 = .ok (.aload_n 0, 1) := by decide +kernel
theorem dX5_helpAt_8 : decode cX5_helpAt 8 = .ok (.getfield 19, 3) := by decide +kernel
theorem dX5_helpAt_11 : decode cX5_helpAt 11 = .ok (.iload_n 1, 1) := by decide +kernel
theorem dX5_helpAt_12 : decode cX5_helpAt 12 = .ok (.iload_n 2, 1) := by decide +kernel
theorem dX5_helpAt_13 : decode cX5_helpAt 13 = .ok (.invokestatic 32, 3) := by decide +kernel
theorem dX5_helpAt_16 : decode cX5_helpAt 16 = .ok (.iaload, 1) := by decide +kernel
theorem dX5_helpAt_17 : decode cX5_helpAt 17 = .ok (.goto 4, 3) := by decide +kernel
theorem dX5_helpAt_20 : decode cX5_helpAt 20 = .ok (.iconst 0, 1) := by decide +kernel
theorem dX5_helpAt_21 : decode cX5_helpAt 21 = .ok (.ireturn, 1) := by decide +kernel
set_option maxRecDepth 20000 in
theorem ggX5_helpFrom_X6_cellOf : GoodIn wsX5_helpFrom wsX6_cellOf := goodIn_r _ [4] (by decide +kernel) (by decide +kernel)
set_option maxRecDepth 20000 in
theorem gX5_helpFrom_X6_cellOf_n32 : GoodIn wsX5_helpFrom (wsX6_cellOf) := ggX5_helpFrom_X6_cellOf
theorem dX5_helpFrom_0 : decode cX5_helpFrom 0 = .ok (.aload_n 0, 1) := by decide +kernel
theorem dX5_helpFrom_1 : decode cX5_helpFrom 1 = .ok (.getfield 19, 3) := by decide +kernel
theorem dX5_helpFrom_4 : decode cX5_helpFrom 4 = .ok (.iload_n 1, 1) := by decide +kernel
theorem dX5_helpFrom_5 : decode cX5_helpFrom 5 = .ok (.iconst 0, 1) := by decide +kernel
theorem dX5_helpFrom_6 : decode cX5_helpFrom 6 = .ok (.invokestatic 32, 3) := by decide +kernel
theorem dX5_helpFrom_9 : decode cX5_helpFrom 9 = .ok (.iaload, 1) := by decide +kernel
theorem dX5_helpFrom_10 : decode cX5_helpFrom 10 = .ok (.ireturn, 1) := by decide +kernel
set_option maxRecDepth 20000 in
theorem ggX5_postOnWay_X6_cellOf : GoodIn wsX5_postOnWay wsX6_cellOf := goodIn_r _ [6] (by decide +kernel) (by decide +kernel)
set_option maxRecDepth 20000 in
theorem gX5_postOnWay_X6_cellOf_n32 : GoodIn wsX5_postOnWay (wsX6_cellOf) := ggX5_postOnWay_X6_cellOf
theorem dX5_postOnWay_0 : decode cX5_postOnWay 0 = .ok (.iload_n 1, 1) := by decide +kernel
theorem dX5_postOnWay_1 : decode cX5_postOnWay 1 = .ok (.istore_n 3, 1) := by decide +kernel
theorem dX5_postOnWay_2 : decode cX5_postOnWay 2 = .ok (.iconst 0, 1) := by decide +kernel
theorem dX5_postOnWay_3 : decode cX5_postOnWay 3 = .ok (.istore 4, 2) := by decide +kernel
theorem dX5_postOnWay_5 : decode cX5_postOnWay 5 = .ok (.iconst 0, 1) := by decide +kernel
theorem dX5_postOnWay_6 : decode cX5_postOnWay 6 = .ok (.istore 5, 2) := by decide +kernel
theorem dX5_postOnWay_8 : decode cX5_postOnWay 8 = .ok (.iload 5, 2) := by decide +kernel
theorem dX5_postOnWay_10 : decode cX5_postOnWay 10 = .ok (.iload_n 2, 1) := by decide +kernel
theorem dX5_postOnWay_11 : decode cX5_postOnWay 11 = .ok (.if_icmp .gt 57, 3) := by decide +kernel
theorem dX5_postOnWay_14 : decode cX5_postOnWay 14 = .ok (.iload 5, 2) := by decide +kernel
theorem dX5_postOnWay_16 : decode cX5_postOnWay 16 = .ok (.bipush 48, 2) := by decide +kernel
theorem dX5_postOnWay_18 : decode cX5_postOnWay 18 = .ok (.if_icmp .ge 50, 3) := by decide +kernel
theorem dX5_postOnWay_21 : decode cX5_postOnWay 21 = .ok (.aload_n 0, 1) := by decide +kernel
theorem dX5_postOnWay_22 : decode cX5_postOnWay 22 = .ok (.getfield 23, 3) := by decide +kernel
theorem dX5_postOnWay_25 : decode cX5_postOnWay 25 = .ok (.iload_n 3, 1) := by decide +kernel
theorem dX5_postOnWay_26 : decode cX5_postOnWay 26 = .ok (.iload 5, 2) := by decide +kernel
theorem dX5_postOnWay_28 : decode cX5_postOnWay 28 = .ok (.invokestatic 32, 3) := by decide +kernel
theorem dX5_postOnWay_31 : decode cX5_postOnWay 31 = .ok (.iaload, 1) := by decide +kernel
theorem dX5_postOnWay_32 : decode cX5_postOnWay 32 = .ok (.istore 6, 2) := by decide +kernel
theorem dX5_postOnWay_34 : decode cX5_postOnWay 34 = .ok (.iload 5, 2) := by decide +kernel
theorem dX5_postOnWay_36 : decode cX5_postOnWay 36 = .ok (.iload 4, 2) := by decide +kernel
theorem dX5_postOnWay_38 : decode cX5_postOnWay 38 = .ok (.if_icmp .lt 24, 3) := by decide +kernel
theorem dX5_postOnWay_41 : decode cX5_postOnWay 41 = .ok (.iload 6, 2) := by decide +kernel
theorem dX5_postOnWay_43 : decode cX5_postOnWay 43 = .ok (.iload_n 3, 1) := by decide +kernel
theorem dX5_postOnWay_44 : decode cX5_postOnWay 44 = .ok (.if_icmp .eq 18, 3) := by decide +kernel
theorem dX5_postOnWay_47 : decode cX5_postOnWay 47 = .ok (.iload 6, 2) := by decide +kernel
theorem dX5_postOnWay_49 : decode cX5_postOnWay 49 = .ok (.istore_n 3, 1) := by decide +kernel
theorem dX5_postOnWay_50 : decode cX5_postOnWay 50 = .ok (.iload 5, 2) := by decide +kernel
theorem dX5_postOnWay_52 : decode cX5_postOnWay 52 = .ok (.aload_n 0, 1) := by decide +kernel
theorem dX5_postOnWay_53 : decode cX5_postOnWay 53 = .ok (.getfield 9, 3) := by decide +kernel
theorem dX5_postOnWay_56 : decode cX5_postOnWay 56 = .ok (.getfield 45, 3) := by decide +kernel
theorem dX5_postOnWay_59 : decode cX5_postOnWay 59 = .ok (.iadd, 1) := by decide +kernel
theorem dX5_postOnWay_60 : decode cX5_postOnWay 60 = .ok (.istore 4, 2) := by decide +kernel
theorem dX5_postOnWay_62 : decode cX5_postOnWay 62 = .ok (.iinc 5 1, 3) := by decide +kernel
theorem dX5_postOnWay_65 : decode cX5_postOnWay 65 = .ok (.goto (-57), 3) := by decide +kernel
theorem dX5_postOnWay_68 : decode cX5_postOnWay 68 = .ok (.iload_n 2, 1) := by decide +kernel
theorem dX5_postOnWay_69 : decode cX5_postOnWay 69 = .ok (.iload 4, 2) := by decide +kernel
theorem dX5_postOnWay_71 : decode cX5_postOnWay 71 = .ok (.if_icmp .ge 8, 3) := by decide +kernel
theorem dX5_postOnWay_74 : decode cX5_postOnWay 74 = .ok (.bipush 9, 2) := by decide +kernel
theorem dX5_postOnWay_76 : decode cX5_postOnWay 76 = .ok (.goto 4, 3) := by decide +kernel
theorem dX5_postOnWay_79 : decode cX5_postOnWay 79 = .ok (.iload_n 3, 1) := by decide +kernel
theorem dX5_postOnWay_80 : decode cX5_postOnWay 80 = .ok (.ireturn, 1) := by decide +kernel
set_option maxRecDepth 20000 in
theorem ggX6_init_X4_init : GoodIn wsX6_init wsX4_init := goodIn_r _ [32, 33, 2, 3, 34, 35, 36, 85, 86] (by decide +kernel) (by decide +kernel)
set_option maxRecDepth 20000 in
theorem gX6_init_X4_init : GoodIn wsX6_init (wsX4_init) := ggX6_init_X4_init
set_option maxRecDepth 20000 in
theorem ggX6_init_X1_init : GoodIn wsX6_init wsX1_init := goodIn_r _ [39, 40, 2, 3, 41, 42, 43, 44, 45, 46, 47, 48, 49, 50, 51, 52, 53, 54, 95, 96, 97, 98, 99, 100, 101, 102, 103, 104, 105, 106, 107, 108, 109, 110, 111] (by decide +kernel) (by decide +kernel)
set_option maxRecDepth 20000 in
theorem gX6_init_X1_init : GoodIn wsX6_init (wsX1_init) := ggX6_init_X1_init
set_option maxRecDepth 20000 in
theorem ggX6_init_X2_init : GoodIn wsX6_init wsX2_init := goodIn_r _ [57, 58, 2, 3, 59, 60, 112, 113, 114, 115, 116, 117, 118, 119, 120, 121, 122, 123, 124] (by decide +kernel) (by decide +kernel)
set_option maxRecDepth 20000 in
theorem gX6_init_X2_init : GoodIn wsX6_init (wsX2_init) := ggX6_init_X2_init
set_option maxRecDepth 20000 in
theorem ggX6_init_X3_init : GoodIn wsX6_init wsX3_init := goodIn_r _ [63, 64, 2, 3, 65, 43, 66, 67, 68, 69, 70, 71, 125, 126, 127, 128] (by decide +kernel) (by decide +kernel)
