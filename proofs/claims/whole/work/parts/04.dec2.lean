set_option maxRecDepth 20000 in
theorem gX6_init_X3_init : GoodIn wsX6_init (wsX3_init) := ggX6_init_X3_init
set_option maxRecDepth 20000 in
theorem ggX6_init_X5_init : GoodIn wsX6_init wsX5_init := goodIn_r _ [74, 75, 2, 3, 76, 77, 43, 78, 79, 129, 130, 131, 132] (by decide +kernel) (by decide +kernel)
set_option maxRecDepth 20000 in
theorem gX6_init_X5_init : GoodIn wsX6_init (wsX5_init) := ggX6_init_X5_init
set_option maxRecDepth 20000 in
theorem ggX6_init_X0_init : GoodIn wsX6_init wsX0_init := goodIn_r _ [82, 83, 2, 3, 43, 84, 133, 134, 135] (by decide +kernel) (by decide +kernel)
set_option maxRecDepth 20000 in
theorem gX6_init_X0_init : GoodIn wsX6_init (wsX0_init) := ggX6_init_X0_init
theorem dX6_init_0 : decode cX6_init 0 = .ok (.aload_n 0, 1) := by decide +kernel
theorem dX6_init_1 : decode cX6_init 1 = .ok (.invokespecial 1, 3) := by decide +kernel
theorem dX6_init_4 : decode cX6_init 4 = .ok (.aload_n 0, 1) := by decide +kernel
theorem dX6_init_5 : decode cX6_init 5 = .ok (.new 7, 3) := by decide +kernel
theorem dX6_init_8 : decode cX6_init 8 = .ok (.dup, 1) := by decide +kernel
theorem dX6_init_9 : decode cX6_init 9 = .ok (.invokespecial 9, 3) := by decide +kernel
theorem dX6_init_12 : decode cX6_init 12 = .ok (.putfield 10, 3) := by decide +kernel
theorem dX6_init_15 : decode cX6_init 15 = .ok (.aload_n 0, 1) := by decide +kernel
theorem dX6_init_16 : decode cX6_init 16 = .ok (.new 16, 3) := by decide +kernel
theorem dX6_init_19 : decode cX6_init 19 = .ok (.dup, 1) := by decide +kernel
theorem dX6_init_20 : decode cX6_init 20 = .ok (.invokespecial 18, 3) := by decide +kernel
theorem dX6_init_23 : decode cX6_init 23 = .ok (.putfield 19, 3) := by decide +kernel
theorem dX6_init_26 : decode cX6_init 26 = .ok (.aload_n 0, 1) := by decide +kernel
theorem dX6_init_27 : decode cX6_init 27 = .ok (.new 16, 3) := by decide +kernel
theorem dX6_init_30 : decode cX6_init 30 = .ok (.dup, 1) := by decide +kernel
theorem dX6_init_31 : decode cX6_init 31 = .ok (.invokespecial 18, 3) := by decide +kernel
theorem dX6_init_34 : decode cX6_init 34 = .ok (.putfield 23, 3) := by decide +kernel
theorem dX6_init_37 : decode cX6_init 37 = .ok (.aload_n 0, 1) := by decide +kernel
theorem dX6_init_38 : decode cX6_init 38 = .ok (.new 26, 3) := by decide +kernel
theorem dX6_init_41 : decode cX6_init 41 = .ok (.dup, 1) := by decide +kernel
theorem dX6_init_42 : decode cX6_init 42 = .ok (.aload_n 0, 1) := by decide +kernel
theorem dX6_init_43 : decode cX6_init 43 = .ok (.getfield 10, 3) := by decide +kernel
theorem dX6_init_46 : decode cX6_init 46 = .ok (.aload_n 0, 1) := by decide +kernel
theorem dX6_init_47 : decode cX6_init 47 = .ok (.getfield 19, 3) := by decide +kernel
theorem dX6_init_50 : decode cX6_init 50 = .ok (.invokespecial 28, 3) := by decide +kernel
theorem dX6_init_53 : decode cX6_init 53 = .ok (.putfield 31, 3) := by decide +kernel
theorem dX6_init_56 : decode cX6_init 56 = .ok (.aload_n 0, 1) := by decide +kernel
theorem dX6_init_57 : decode cX6_init 57 = .ok (.new 35, 3) := by decide +kernel
theorem dX6_init_60 : decode cX6_init 60 = .ok (.dup, 1) := by decide +kernel
theorem dX6_init_61 : decode cX6_init 61 = .ok (.aload_n 0, 1) := by decide +kernel
theorem dX6_init_62 : decode cX6_init 62 = .ok (.getfield 23, 3) := by decide +kernel
theorem dX6_init_65 : decode cX6_init 65 = .ok (.invokespecial 37, 3) := by decide +kernel
theorem dX6_init_68 : decode cX6_init 68 = .ok (.putfield 40, 3) := by decide +kernel
theorem dX6_init_71 : decode cX6_init 71 = .ok (.aload_n 0, 1) := by decide +kernel
theorem dX6_init_72 : decode cX6_init 72 = .ok (.new 44, 3) := by decide +kernel
theorem dX6_init_75 : decode cX6_init 75 = .ok (.dup, 1) := by decide +kernel
theorem dX6_init_76 : decode cX6_init 76 = .ok (.aload_n 0, 1) := by decide +kernel
theorem dX6_init_77 : decode cX6_init 77 = .ok (.getfield 23, 3) := by decide +kernel
theorem dX6_init_80 : decode cX6_init 80 = .ok (.aload_n 0, 1) := by decide +kernel
theorem dX6_init_81 : decode cX6_init 81 = .ok (.getfield 40, 3) := by decide +kernel
theorem dX6_init_84 : decode cX6_init 84 = .ok (.invokespecial 46, 3) := by decide +kernel
theorem dX6_init_87 : decode cX6_init 87 = .ok (.putfield 49, 3) := by decide +kernel
theorem dX6_init_90 : decode cX6_init 90 = .ok (.aload_n 0, 1) := by decide +kernel
theorem dX6_init_91 : decode cX6_init 91 = .ok (.new 53, 3) := by decide +kernel
theorem dX6_init_94 : decode cX6_init 94 = .ok (.dup, 1) := by decide +kernel
theorem dX6_init_95 : decode cX6_init 95 = .ok (.invokespecial 55, 3) := by decide +kernel
theorem dX6_init_98 : decode cX6_init 98 = .ok (.putfield 56, 3) := by decide +kernel
theorem dX6_init_101 : decode cX6_init 101 = .ok (.aload_n 0, 1) := by decide +kernel
theorem dX6_init_102 : decode cX6_init 102 = .ok (.iconst 0, 1) := by decide +kernel
theorem dX6_init_103 : decode cX6_init 103 = .ok (.putfield 60, 3) := by decide +kernel
theorem dX6_init_106 : decode cX6_init 106 = .ok (.return_, 1) := by decide +kernel
set_option maxRecDepth 20000 in
theorem ggX6_feed_X4_hasRoomForFeed : GoodIn wsX6_feed wsX4_hasRoomForFeed := goodIn_r _ [7, 8, 22, 23] (by decide +kernel) (by decide +kernel)
set_option maxRecDepth 20000 in
theorem gX6_feed_X4_hasRoomForFeed : GoodIn wsX6_feed (wsV RX6 64 RX4 yX4_hasRoomForFeed wsX4_hasRoomForFeed) := goodIn_app (goodIn_of _ (by decide +kernel)) ggX6_feed_X4_hasRoomForFeed
set_option maxRecDepth 20000 in
theorem ggX6_feed_X4_append : GoodIn wsX6_feed wsX4_append := goodIn_r _ [12, 8, 13, 22, 23] (by decide +kernel) (by decide +kernel)
set_option maxRecDepth 20000 in
theorem gX6_feed_X4_append : GoodIn wsX6_feed (wsV RX6 68 RX4 yX4_append wsX4_append) := goodIn_app (goodIn_of _ (by decide +kernel)) ggX6_feed_X4_append
theorem dX6_feed_0 : decode cX6_feed 0 = .ok (.aload_n 0, 1) := by decide +kernel
theorem dX6_feed_1 : decode cX6_feed 1 = .ok (.getfield 10, 3) := by decide +kernel
theorem dX6_feed_4 : decode cX6_feed 4 = .ok (.invokevirtual 64, 3) := by decide +kernel
theorem dX6_feed_7 : decode cX6_feed 7 = .ok (.ifCond .ne 5, 3) := by decide +kernel
theorem dX6_feed_10 : decode cX6_feed 10 = .ok (.iconst (-1), 1) := by decide +kernel
theorem dX6_feed_11 : decode cX6_feed 11 = .ok (.ireturn, 1) := by decide +kernel
theorem dX6_feed_12 : decode cX6_feed 12 = .ok (.aload_n 0, 1) := by decide +kernel
theorem dX6_feed_13 : decode cX6_feed 13 = .ok (.getfield 10, 3) := by decide +kernel
theorem dX6_feed_16 : decode cX6_feed 16 = .ok (.iload_n 1, 1) := by decide +kernel
theorem dX6_feed_17 : decode cX6_feed 17 = .ok (.invokevirtual 68, 3) := by decide +kernel
theorem dX6_feed_20 : decode cX6_feed 20 = .ok (.aload_n 0, 1) := by decide +kernel
theorem dX6_feed_21 : decode cX6_feed 21 = .ok (.getfield 10, 3) := by decide +kernel
theorem dX6_feed_24 : decode cX6_feed 24 = .ok (.iload_n 2, 1) := by decide +kernel
theorem dX6_feed_25 : decode cX6_feed 25 = .ok (.invokevirtual 68, 3) := by decide +kernel
theorem dX6_feed_28 : decode cX6_feed 28 = .ok (.aload_n 0, 1) := by decide +kernel
theorem dX6_feed_29 : decode cX6_feed 29 = .ok (.getfield 10, 3) := by decide +kernel
theorem dX6_feed_32 : decode cX6_feed 32 = .ok (.iload_n 3, 1) := by decide +kernel
theorem dX6_feed_33 : decode cX6_feed 33 = .ok (.invokevirtual 68, 3) := by decide +kernel
theorem dX6_feed_36 : decode cX6_feed 36 = .ok (.aload_n 0, 1) := by decide +kernel
theorem dX6_feed_37 : decode cX6_feed 37 = .ok (.getfield 10, 3) := by decide +kernel
theorem dX6_feed_40 : decode cX6_feed 40 = .ok (.iload 4, 2) := by decide +kernel
theorem dX6_feed_42 : decode cX6_feed 42 = .ok (.invokevirtual 68, 3) := by decide +kernel
theorem dX6_feed_45 : decode cX6_feed 45 = .ok (.aload_n 0, 1) := by decide +kernel
theorem dX6_feed_46 : decode cX6_feed 46 = .ok (.getfield 10, 3) := by decide +kernel
theorem dX6_feed_49 : decode cX6_feed 49 = .ok (.iload 5, 2) := by decide +kernel
theorem dX6_feed_51 : decode cX6_feed 51 = .ok (.invokevirtual 68, 3) := by decide +kernel
theorem dX6_feed_54 : decode cX6_feed 54 = .ok (.aload_n 0, 1) := by decide +kernel
theorem dX6_feed_55 : decode cX6_feed 55 = .ok (.getfield 10, 3) := by decide +kernel
theorem dX6_feed_58 : decode cX6_feed 58 = .ok (.getfield 72, 3) := by decide +kernel
theorem dX6_feed_61 : decode cX6_feed 61 = .ok (.ireturn, 1) := by decide +kernel
set_option maxRecDepth 20000 in
theorem ggX6_end_X4_cutTo : GoodIn wsX6_end wsX4_cutTo := goodIn_r _ [6, 7, 16, 17] (by decide +kernel) (by decide +kernel)
set_option maxRecDepth 20000 in
theorem gX6_end_X4_cutTo : GoodIn wsX6_end (wsV RX6 75 RX4 yX4_cutTo wsX4_cutTo) := goodIn_app (goodIn_of _ (by decide +kernel)) ggX6_end_X4_cutTo
theorem dX6_end_0 : decode cX6_end 0 = .ok (.aload_n 0, 1) := by decide +kernel
theorem dX6_end_1 : decode cX6_end 1 = .ok (.getfield 10, 3) := by decide +kernel
theorem dX6_end_4 : decode cX6_end 4 = .ok (.iload_n 1, 1) := by decide +kernel
theorem dX6_end_5 : decode cX6_end 5 = .ok (.invokevirtual 75, 3) := by decide +kernel
theorem dX6_end_8 : decode cX6_end 8 = .ok (.ireturn, 1) := by decide +kernel
set_option maxRecDepth 20000 in
theorem ggX6_text_X2_readAll : GoodIn wsX6_text wsX2_readAll := goodIn_r _ [14, 15, 16, 17, 18, 19, 20, 21, 22, 23, 24, 25, 26, 27, 28, 29, 30, 31, 32, 33, 34, 35, 36, 37, 38, 39, 40, 41, 13, 42, 43, 44, 45, 46, 47, 48, 49, 50, 51, 52, 53, 54, 55, 56, 57, 58, 59, 60, 61, 62, 63, 64, 65, 66, 67, 68, 69, 70, 71, 72, 73, 74, 75, 76, 77, 78, 79, 80, 81, 82, 83, 84, 85, 86, 87, 88, 89, 90, 91, 92, 93, 94, 95, 96, 97, 98, 99, 100, 101, 102, 103, 104, 105, 106, 107, 108, 109, 110, 111, 112, 113, 114, 115, 116, 117, 118, 119, 120, 121, 122, 123, 124, 125, 126, 127, 128, 129, 130, 131, 132, 133, 134, 135, 136, 137, 138, 139, 140, 141, 142, 143, 144, 145, 146, 147, 148, 149, 150, 151, 152, 153, 154, 155, 156, 157, 158, 159, 160, 161, 162, 163, 164, 165, 166, 167, 168, 169, 170, 171, 172, 173, 174, 175, 176, 177, 178, 179, 180, 181, 182, 183, 184, 185, 186, 187, 188, 189, 190, 191, 192, 193, 194, 195, 196, 197, 198, 199, 200, 201, 202, 203, 204, 205, 206, 207, 208, 209, 210, 211, 212, 213, 214, 276, 277, 278, 279, 280, 281, 282, 283, 284, 285, 286, 287, 288, 289, 290, 291, 292, 293, 294, 295, 296, 297, 298, 299, 300, 301, 302, 303, 304, 305, 306, 307] (by decide +kernel) (by decide +kernel)
set_option maxRecDepth 20000 in
theorem gX6_text_X2_readAll : GoodIn wsX6_text (wsV RX6 79 RX2 yX2_readAll wsX2_readAll) := goodIn_app (goodIn_of _ (by decide +kernel)) ggX6_text_X2_readAll
set_option maxRecDepth 20000 in
theorem ggX6_text_X4_cutTo : GoodIn wsX6_text wsX4_cutTo := goodIn_r _ [218, 54, 306, 307] (by decide +kernel) (by decide +kernel)
set_option maxRecDepth 20000 in
theorem gX6_text_X4_cutTo : GoodIn wsX6_text (wsV RX6 75 RX4 yX4_cutTo wsX4_cutTo) := goodIn_app (goodIn_of _ (by decide +kernel)) ggX6_text_X4_cutTo
set_option maxRecDepth 20000 in
theorem ggX6_text_X1_become : GoodIn wsX6_text wsX1_become := goodIn_r _ [222, 27, 28, 29, 30, 31, 32, 33, 223, 224, 225, 226, 34, 182, 183, 184, 150, 185, 201, 202, 203, 204, 289, 290, 291, 292, 293, 294, 295, 296, 297, 298, 299, 300, 301, 302, 303, 304, 305] (by decide +kernel) (by decide +kernel)
set_option maxRecDepth 20000 in
theorem gX6_text_X1_become : GoodIn wsX6_text (wsV RX6 86 RX1 yX1_become wsX1_become) := goodIn_app (goodIn_of _ (by decide +kernel)) ggX6_text_X1_become
set_option maxRecDepth 20000 in
theorem ggX6_text_X3_clear : GoodIn wsX6_text wsX3_clear := goodIn_r _ [231, 232, 233, 36, 37, 38, 234, 235, 236, 230, 237, 238, 239, 240, 241, 224, 225, 226, 242, 243, 244, 245, 246, 247, 248, 249, 250, 251, 252, 253, 254, 255, 256, 257, 258, 259, 260, 25, 261, 182, 201, 187, 188, 189, 308, 309, 310, 311, 289, 290, 291, 292, 293, 294, 295, 296, 297, 298, 299, 300, 301, 302, 303, 304, 305] (by decide +kernel) (by decide +kernel)
set_option maxRecDepth 20000 in
theorem gX6_text_X3_clear : GoodIn wsX6_text (wsV RX6 89 RX3 yX3_clear wsX3_clear) := goodIn_app (goodIn_of _ (by decide +kernel)) ggX6_text_X3_clear
set_option maxRecDepth 20000 in
theorem ggX6_text_X0_clear : GoodIn wsX6_text wsX0_clear := goodIn_r _ [266, 267, 312, 313, 314] (by decide +kernel) (by decide +kernel)
set_option maxRecDepth 20000 in
theorem gX6_text_X0_clear : GoodIn wsX6_text (wsV RX6 92 RX0 yX0_clear wsX0_clear) := goodIn_app (goodIn_of _ (by decide +kernel)) ggX6_text_X0_clear
theorem dX6_text_0 : decode cX6_text 0 = .ok (.aload_n 0, 1) := by decide +kernel
theorem dX6_text_1 : decode cX6_text 1 = .ok (.getfield 31, 3) := by decide +kernel
theorem dX6_text_4 : decode cX6_text 4 = .ok (.invokevirtual 79, 3) := by decide +kernel
theorem dX6_text_7 : decode cX6_text 7 = .ok (.istore_n 1, 1) := by decide +kernel
theorem dX6_text_8 : decode cX6_text 8 = .ok (.aload_n 0, 1) := by decide +kernel
theorem dX6_text_9 : decode cX6_text 9 = .ok (.aload_n 0, 1) := by decide +kernel
theorem dX6_text_10 : decode cX6_text 10 = .ok (.getfield 31, 3) := by decide +kernel
theorem dX6_text_13 : decode cX6_text 13 = .ok (.getfield 83, 3) := by decide +kernel
theorem dX6_text_16 : decode cX6_text 16 = .ok (.putfield 60, 3) := by decide +kernel
theorem dX6_text_19 : decode cX6_text 19 = .ok (.aload_n 0, 1) := by decide +kernel
theorem dX6_text_20 : decode cX6_text 20 = .ok (.getfield 10, 3) := by decide +kernel
theorem dX6_text_23 : decode cX6_text 23 = .ok (.iconst 0, 1) := by decide +kernel
theorem dX6_text_24 : decode cX6_text 24 = .ok (.invokevirtual 75, 3) := by decide +kernel
theorem dX6_text_27 : decode cX6_text 27 = .ok (.pop, 1) := by decide +kernel
theorem dX6_text_28 : decode cX6_text 28 = .ok (.iload_n 1, 1) := by decide +kernel
theorem dX6_text_29 : decode cX6_text 29 = .ok (.iconst (-1), 1) := by decide +kernel
theorem dX6_text_30 : decode cX6_text 30 = .ok (.if_icmp .eq 7, 3) := by decide +kernel
theorem dX6_text_33 : decode cX6_text 33 = .ok (.iconst (-1), 1) := by decide +kernel
theorem dX6_text_34 : decode cX6_text 34 = .ok (.iload_n 1, 1) := by decide +kernel
theorem dX6_text_35 : decode cX6_text 35 = .ok (.isub, 1) := by decide +kernel
theorem dX6_text_36 : decode cX6_text 36 = .ok (.ireturn, 1) := by decide +kernel
theorem dX6_text_37 : decode cX6_text 37 = .ok (.aload_n 0, 1) := by decide +kernel
theorem dX6_text_38 : decode cX6_text 38 = .ok (.getfield 23, 3) := by decide +kernel
theorem dX6_text_41 : decode cX6_text 41 = .ok (.aload_n 0, 1) := by decide +kernel
theorem dX6_text_42 : decode cX6_text 42 = .ok (.getfield 19, 3) := by decide +kernel
theorem dX6_text_45 : decode cX6_text 45 = .ok (.invokevirtual 86, 3) := by decide +kernel
theorem dX6_text_48 : decode cX6_text 48 = .ok (.aload_n 0, 1) := by decide +kernel
theorem dX6_text_49 : decode cX6_text 49 = .ok (.getfield 40, 3) := by decide +kernel
theorem dX6_text_52 : decode cX6_text 52 = .ok (.invokevirtual 89, 3) := by decide +kernel
theorem dX6_text_55 : decode cX6_text 55 = .ok (.aload_n 0, 1) := by decide +kernel
theorem dX6_text_56 : decode cX6_text 56 = .ok (.getfield 56, 3) := by decide +kernel
theorem dX6_text_59 : decode cX6_text 59 = .ok (.invokevirtual 92, 3) := by decide +kernel
theorem dX6_text_62 : decode cX6_text 62 = .ok (.aload_n 0, 1) := by decide +kernel
theorem dX6_text_63 : decode cX6_text 63 = .ok (.getfield 23, 3) := by decide +kernel
theorem dX6_text_66 : decode cX6_text 66 = .ok (.getfield 93, 3) := by decide +kernel
theorem dX6_text_69 : decode cX6_text 69 = .ok (.ireturn, 1) := by decide +kernel
theorem dX6_fault_0 : decode cX6_fault 0 = .ok (.aload_n 0, 1) := by decide +kernel
theorem dX6_fault_1 : decode cX6_fault 1 = .ok (.getfield 60, 3) := by decide +kernel
theorem dX6_fault_4 : decode cX6_fault 4 = .ok (.ireturn, 1) := by decide +kernel
set_option maxRecDepth 20000 in
theorem ggX6_now_X3_countPlaced : GoodIn wsX6_now wsX3_countPlaced := goodIn_r _ [16, 17, 18, 19, 45, 46, 47, 48, 28, 29, 30, 31, 32, 33, 34, 35, 36, 37, 38, 39, 40, 41, 42, 43, 44] (by decide +kernel) (by decide +kernel)
set_option maxRecDepth 20000 in
theorem gX6_now_X3_countPlaced : GoodIn wsX6_now (wsV RX6 105 RX3 yX3_countPlaced wsX3_countPlaced) := goodIn_app (goodIn_of _ (by decide +kernel)) ggX6_now_X3_countPlaced
theorem dX6_now_0 : decode cX6_now 0 = .ok (.iload_n 1, 1) := by decide +kernel
theorem dX6_now_1 : decode cX6_now 1 = .ok (.tableswitch 111 0 7 #[47, 55, 63, 71, 79, 87, 95, 103], 47) := by decide +kernel
theorem dX6_now_48 : decode cX6_now 48 = .ok (.aload_n 0, 1) := by decide +kernel
theorem dX6_now_49 : decode cX6_now 49 = .ok (.getfield 23, 3) := by decide +kernel
theorem dX6_now_52 : decode cX6_now 52 = .ok (.getfield 96, 3) := by decide +kernel
theorem dX6_now_55 : decode cX6_now 55 = .ok (.ireturn, 1) := by decide +kernel
theorem dX6_now_56 : decode cX6_now 56 = .ok (.aload_n 0, 1) := by decide +kernel
theorem dX6_now_57 : decode cX6_now 57 = .ok (.getfield 23, 3) := by decide +kernel
theorem dX6_now_60 : decode cX6_now 60 = .ok (.getfield 99, 3) := by decide +kernel
theorem dX6_now_63 : decode cX6_now 63 = .ok (.ireturn, 1) := by decide +kernel
theorem dX6_now_64 : decode cX6_now 64 = .ok (.aload_n 0, 1) := by decide +kernel
theorem dX6_now_65 : decode cX6_now 65 = .ok (.getfield 23, 3) := by decide +kernel
theorem dX6_now_68 : decode cX6_now 68 = .ok (.getfield 102, 3) := by decide +kernel
theorem dX6_now_71 : decode cX6_now 71 = .ok (.ireturn, 1) := by decide +kernel
theorem dX6_now_72 : decode cX6_now 72 = .ok (.aload_n 0, 1) := by decide +kernel
theorem dX6_now_73 : decode cX6_now 73 = .ok (.getfield 40, 3) := by decide +kernel
theorem dX6_now_76 : decode cX6_now 76 = .ok (.invokevirtual 105, 3) := by decide +kernel
theorem dX6_now_79 : decode cX6_now 79 = .ok (.ireturn, 1) := by decide +kernel
theorem dX6_now_80 : decode cX6_now 80 = .ok (.aload_n 0, 1) := by decide +kernel
theorem dX6_now_81 : decode cX6_now 81 = .ok (.getfield 40, 3) := by decide +kernel
theorem dX6_now_84 : decode cX6_now 84 = .ok (.getfield 108, 3) := by decide +kernel
theorem dX6_now_87 : decode cX6_now 87 = .ok (.ireturn, 1) := by decide +kernel
theorem dX6_now_88 : decode cX6_now 88 = .ok (.aload_n 0, 1) := by decide +kernel
theorem dX6_now_89 : decode cX6_now 89 = .ok (.getfield 23, 3) := by decide +kernel
theorem dX6_now_92 : decode cX6_now 92 = .ok (.getfield 111, 3) := by decide +kernel
theorem dX6_now_95 : decode cX6_now 95 = .ok (.ireturn, 1) := by decide +kernel
theorem dX6_now_96 : decode cX6_now 96 = .ok (.aload_n 0, 1) := by decide +kernel
theorem dX6_now_97 : decode cX6_now 97 = .ok (.getfield 56, 3) := by decide +kernel
theorem dX6_now_100 : decode cX6_now 100 = .ok (.getfield 114, 3) := by decide +kernel
theorem dX6_now_103 : decode cX6_now 103 = .ok (.ireturn, 1) := by decide +kernel
theorem dX6_now_104 : decode cX6_now 104 = .ok (.aload_n 0, 1) := by decide +kernel
theorem dX6_now_105 : decode cX6_now 105 = .ok (.getfield 10, 3) := by decide +kernel
theorem dX6_now_108 : decode cX6_now 108 = .ok (.getfield 72, 3) := by decide +kernel
theorem dX6_now_111 : decode cX6_now 111 = .ok (.ireturn, 1) := by decide +kernel
theorem dX6_now_112 : decode cX6_now 112 = .ok (.iconst (-1), 1) := by decide +kernel
theorem dX6_now_113 : decode cX6_now 113 = .ok (.ireturn, 1) := by decide +kernel
set_option maxRecDepth 20000 in
theorem ggX6_shift_X1_hasShift : GoodIn wsX6_shift wsX1_hasShift := goodIn_r _ [13, 14, 23, 24, 25, 26, 27, 28, 29, 30, 31, 32, 33, 34, 35, 36, 37, 38, 39] (by decide +kernel) (by decide +kernel)
set_option maxRecDepth 20000 in
theorem gX6_shift_X1_hasShift : GoodIn wsX6_shift (wsV RX6 117 RX1 yX1_hasShift wsX1_hasShift) := goodIn_app (goodIn_of _ (by decide +kernel)) ggX6_shift_X1_hasShift
theorem dX6_shift_0 : decode cX6_shift 0 = .ok (.aload_n 0, 1) := by decide +kernel
theorem dX6_shift_1 : decode cX6_shift 1 = .ok (.getfield 23, 3) := by decide +kernel
theorem dX6_shift_4 : decode cX6_shift 4 = .ok (.iload_n 1, 1) := by decide +kernel
theorem dX6_shift_5 : decode cX6_shift 5 = .ok (.invokevirtual 117, 3) := by decide +kernel
theorem dX6_shift_8 : decode cX6_shift 8 = .ok (.ifCond .ne 13, 3) := by decide +kernel
theorem dX6_shift_11 : decode cX6_shift 11 = .ok (.new 120, 3) := by decide +kernel
theorem dX6_shift_14 : decode cX6_shift 14 = .ok (.dup, 1) := by decide +kernel
theorem dX6_shift_15 : decode cX6_shift 15 = .ok (.ldc 122, 2) := by decide +kernel
theorem dX6_shift_17 : decode cX6_shift 17 = .ok (.invokespecial 124, 3) := by decide +kernel
theorem dX6_shift_20 : decode cX6_shift 20 = .ok (.athrow, 1) := by decide +kernel
theorem dX6_shift_21 : decode cX6_shift 21 = .ok (.iload_n 2, 1) := by decide +kernel
theorem dX6_shift_22 : decode cX6_shift 22 = .ok (.tableswitch 100 0 4 #[34, 44, 54, 64, 74], 34) := by decide +kernel
theorem dX6_shift_56 : decode cX6_shift 56 = .ok (.aload_n 0, 1) := by decide +kernel
theorem dX6_shift_57 : decode cX6_shift 57 = .ok (.getfield 23, 3) := by decide +kernel
theorem dX6_shift_60 : decode cX6_shift 60 = .ok (.getfield 127, 3) := by decide +kernel
theorem dX6_shift_63 : decode cX6_shift 63 = .ok (.iload_n 1, 1) := by decide +kernel
theorem dX6_shift_64 : decode cX6_shift 64 = .ok (.iaload, 1) := by decide +kernel
theorem dX6_shift_65 : decode cX6_shift 65 = .ok (.ireturn, 1) := by decide +kernel
theorem dX6_shift_66 : decode cX6_shift 66 = .ok (.aload_n 0, 1) := by decide +kernel
theorem dX6_shift_67 : decode cX6_shift 67 = .ok (.getfield 23, 3) := by decide +kernel
theorem dX6_shift_70 : decode cX6_shift 70 = .ok (.getfield 131, 3) := by decide +kernel
theorem dX6_shift_73 : decode cX6_shift 73 = .ok (.iload_n 1, 1) := by decide +kernel
theorem dX6_shift_74 : decode cX6_shift 74 = .ok (.iaload, 1) := by decide +kernel
theorem dX6_shift_75 : decode cX6_shift 75 = .ok (.ireturn, 1) := by decide +kernel
theorem dX6_shift_76 : decode cX6_shift 76 = .ok (.aload_n 0, 1) := by decide +kernel
theorem dX6_shift_77 : decode cX6_shift 77 = .ok (.getfield 23, 3) := by decide +kernel
theorem dX6_shift_80 : decode cX6_shift 80 = .ok (.getfield 134, 3) := by decide +kernel
theorem dX6_shift_83 : decode cX6_shift 83 = .ok (.iload_n 1, 1) := by decide +kernel
theorem dX6_shift_84 : decode cX6_shift 84 = .ok (.iaload, 1) := by decide +kernel
theorem dX6_shift_85 : decode cX6_shift 85 = .ok (.ireturn, 1) := by decide +kernel
theorem dX6_shift_86 : decode cX6_shift 86 = .ok (.aload_n 0, 1) := by decide +kernel
theorem dX6_shift_87 : decode cX6_shift 87 = .ok (.getfield 23, 3) := by decide +kernel
theorem dX6_shift_90 : decode cX6_shift 90 = .ok (.getfield 137, 3) := by decide +kernel
theorem dX6_shift_93 : decode cX6_shift 93 = .ok (.iload_n 1, 1) := by decide +kernel
theorem dX6_shift_94 : decode cX6_shift 94 = .ok (.iaload, 1) := by decide +kernel
theorem dX6_shift_95 : decode cX6_shift 95 = .ok (.ireturn, 1) := by decide +kernel
theorem dX6_shift_96 : decode cX6_shift 96 = .ok (.aload_n 0, 1) := by decide +kernel
theorem dX6_shift_97 : decode cX6_shift 97 = .ok (.getfield 23, 3) := by decide +kernel
theorem dX6_shift_100 : decode cX6_shift 100 = .ok (.getfield 137, 3) := by decide +kernel
theorem dX6_shift_103 : decode cX6_shift 103 = .ok (.iload_n 1, 1) := by decide +kernel
theorem dX6_shift_104 : decode cX6_shift 104 = .ok (.iaload, 1) := by decide +kernel
theorem dX6_shift_105 : decode cX6_shift 105 = .ok (.ifCond .ne 7, 3) := by decide +kernel
theorem dX6_shift_108 : decode cX6_shift 108 = .ok (.iconst (-1), 1) := by decide +kernel
theorem dX6_shift_109 : decode cX6_shift 109 = .ok (.goto 12, 3) := by decide +kernel
theorem dX6_shift_112 : decode cX6_shift 112 = .ok (.aload_n 0, 1) := by decide +kernel
theorem dX6_shift_113 : decode cX6_shift 113 = .ok (.getfield 23, 3) := by decide +kernel
theorem dX6_shift_116 : decode cX6_shift 116 = .ok (.getfield 140, 3) := by decide +kernel
theorem dX6_shift_119 : decode cX6_shift 119 = .ok (.iload_n 1, 1) := by decide +kernel
theorem dX6_shift_120 : decode cX6_shift 120 = .ok (.iaload, 1) := by decide +kernel
theorem dX6_shift_121 : decode cX6_shift 121 = .ok (.ireturn, 1) := by decide +kernel
theorem dX6_shift_122 : decode cX6_shift 122 = .ok (.new 120, 3) := by decide +kernel
theorem dX6_shift_125 : decode cX6_shift 125 = .ok (.dup, 1) := by decide +kernel
theorem dX6_shift_126 : decode cX6_shift 126 = .ok (.ldc 143, 2) := by decide +kernel
theorem dX6_shift_128 : decode cX6_shift 128 = .ok (.invokespecial 124, 3) := by decide +kernel
theorem dX6_shift_131 : decode cX6_shift 131 = .ok (.athrow, 1) := by decide +kernel
set_option maxRecDepth 20000 in
theorem ggX6_pause_X1_hasPause : GoodIn wsX6_pause wsX1_hasPause := goodIn_r _ [14, 15, 24, 25, 26, 27, 28, 29, 30, 31, 32, 33, 34, 35, 36, 37, 38, 39, 40] (by decide +kernel) (by decide +kernel)
set_option maxRecDepth 20000 in
theorem gX6_pause_X1_hasPause : GoodIn wsX6_pause (wsV RX6 145 RX1 yX1_hasPause wsX1_hasPause) := goodIn_app (goodIn_of _ (by decide +kernel)) ggX6_pause_X1_hasPause
theorem dX6_pause_0 : decode cX6_pause 0 = .ok (.aload_n 0, 1) := by decide +kernel
theorem dX6_pause_1 : decode cX6_pause 1 = .ok (.getfield 23, 3) := by decide +kernel
theorem dX6_pause_4 : decode cX6_pause 4 = .ok (.iload_n 1, 1) := by decide +kernel
theorem dX6_pause_5 : decode cX6_pause 5 = .ok (.invokevirtual 145, 3) := by decide +kernel
theorem dX6_pause_8 : decode cX6_pause 8 = .ok (.ifCond .ne 13, 3) := by decide +kernel
theorem dX6_pause_11 : decode cX6_pause 11 = .ok (.new 120, 3) := by decide +kernel
theorem dX6_pause_14 : decode cX6_pause 14 = .ok (.dup, 1) := by decide +kernel
theorem dX6_pause_15 : decode cX6_pause 15 = .ok (.ldc 148, 2) := by decide +kernel
theorem dX6_pause_17 : decode cX6_pause 17 = .ok (.invokespecial 124, 3) := by decide +kernel
theorem dX6_pause_20 : decode cX6_pause 20 = .ok (.athrow, 1) := by decide +kernel
theorem dX6_pause_21 : decode cX6_pause 21 = .ok (.iload_n 2, 1) := by decide +kernel
theorem dX6_pause_22 : decode cX6_pause 22 = .ok (.tableswitch 84 0 4 #[34, 44, 54, 64, 74], 34) := by decide +kernel
theorem dX6_pause_56 : decode cX6_pause 56 = .ok (.aload_n 0, 1) := by decide +kernel
theorem dX6_pause_57 : decode cX6_pause 57 = .ok (.getfield 23, 3) := by decide +kernel
theorem dX6_pause_60 : decode cX6_pause 60 = .ok (.getfield 150, 3) := by decide +kernel
theorem dX6_pause_63 : decode cX6_pause 63 = .ok (.iload_n 1, 1) := by decide +kernel
theorem dX6_pause_64 : decode cX6_pause 64 = .ok (.iaload, 1) := by decide +kernel
theorem dX6_pause_65 : decode cX6_pause 65 = .ok (.ireturn, 1) := by decide +kernel
theorem dX6_pause_66 : decode cX6_pause 66 = .ok (.aload_n 0, 1) := by decide +kernel
theorem dX6_pause_67 : decode cX6_pause 67 = .ok (.getfield 23, 3) := by decide +kernel
theorem dX6_pause_70 : decode cX6_pause 70 = .ok (.getfield 153, 3) := by decide +kernel
theorem dX6_pause_73 : decode cX6_pause 73 = .ok (.iload_n 1, 1) := by decide +kernel
theorem dX6_pause_74 : decode cX6_pause 74 = .ok (.iaload, 1) := by decide +kernel
theorem dX6_pause_75 : decode cX6_pause 75 = .ok (.ireturn, 1) := by decide +kernel
theorem dX6_pause_76 : decode cX6_pause 76 = .ok (.aload_n 0, 1) := by decide +kernel
theorem dX6_pause_77 : decode cX6_pause 77 = .ok (.getfield 23, 3) := by decide +kernel
theorem dX6_pause_80 : decode cX6_pause 80 = .ok (.getfield 156, 3) := by decide +kernel
theorem dX6_pause_83 : decode cX6_pause 83 = .ok (.iload_n 1, 1) := by decide +kernel
theorem dX6_pause_84 : decode cX6_pause 84 = .ok (.iaload, 1) := by decide +kernel
theorem dX6_pause_85 : decode cX6_pause 85 = .ok (.ireturn, 1) := by decide +kernel
theorem dX6_pause_86 : decode cX6_pause 86 = .ok (.aload_n 0, 1) := by decide +kernel
theorem dX6_pause_87 : decode cX6_pause 87 = .ok (.getfield 23, 3) := by decide +kernel
theorem dX6_pause_90 : decode cX6_pause 90 = .ok (.getfield 159, 3) := by decide +kernel
theorem dX6_pause_93 : decode cX6_pause 93 = .ok (.iload_n 1, 1) := by decide +kernel
theorem dX6_pause_94 : decode cX6_pause 94 = .ok (.iaload, 1) := by decide +kernel
theorem dX6_pause_95 : decode cX6_pause 95 = .ok (.ireturn, 1) := by decide +kernel
theorem dX6_pause_96 : decode cX6_pause 96 = .ok (.aload_n 0, 1) := by decide +kernel
theorem dX6_pause_97 : decode cX6_pause 97 = .ok (.getfield 40, 3) := by decide +kernel
theorem dX6_pause_100 : decode cX6_pause 100 = .ok (.getfield 162, 3) := by decide +kernel
theorem dX6_pause_103 : decode cX6_pause 103 = .ok (.iload_n 1, 1) := by decide +kernel
theorem dX6_pause_104 : decode cX6_pause 104 = .ok (.iaload, 1) := by decide +kernel
theorem dX6_pause_105 : decode cX6_pause 105 = .ok (.ireturn, 1) := by decide +kernel
theorem dX6_pause_106 : decode cX6_pause 106 = .ok (.new 120, 3) := by decide +kernel
theorem dX6_pause_109 : decode cX6_pause 109 = .ok (.dup, 1) := by decide +kernel
theorem dX6_pause_110 : decode cX6_pause 110 = .ok (.ldc 165, 2) := by decide +kernel
theorem dX6_pause_112 : decode cX6_pause 112 = .ok (.invokespecial 124, 3) := by decide +kernel
theorem dX6_pause_115 : decode cX6_pause 115 = .ok (.athrow, 1) := by decide +kernel
set_option maxRecDepth 20000 in
theorem ggX6_slot_X1_hasPost : GoodIn wsX6_slot wsX1_hasPost := goodIn_r _ [9, 10, 38, 39, 40, 41, 42, 43, 44, 45, 46, 47, 48, 49, 50, 51, 52, 53, 54] (by decide +kernel) (by decide +kernel)
set_option maxRecDepth 20000 in
theorem gX6_slot_X1_hasPost : GoodIn wsX6_slot (wsV RX6 167 RX1 yX1_hasPost wsX1_hasPost) := goodIn_app (goodIn_of _ (by decide +kernel)) ggX6_slot_X1_hasPost
set_option maxRecDepth 20000 in
theorem ggX6_slot_X6_isSlot : GoodIn wsX6_slot wsX6_isSlot := goodIn_r _ [14] (by decide +kernel) (by decide +kernel)
set_option maxRecDepth 20000 in
theorem gX6_slot_X6_isSlot : GoodIn wsX6_slot (va_wsS RX6 170 yX6_isSlot wsX6_isSlot) := goodIn_app (goodIn_of _ (by decide +kernel)) ggX6_slot_X6_isSlot
set_option maxRecDepth 20000 in
theorem ggX6_slot_X6_cellOf : GoodIn wsX6_slot wsX6_cellOf := goodIn_r _ [17] (by decide +kernel) (by decide +kernel)
set_option maxRecDepth 20000 in
theorem gX6_slot_X6_cellOf : GoodIn wsX6_slot (va_wsS RX6 173 yX6_cellOf wsX6_cellOf) := goodIn_app (goodIn_of _ (by decide +kernel)) ggX6_slot_X6_cellOf
set_option maxRecDepth 20000 in
theorem ggX6_slot_X3_shortOf : GoodIn wsX6_slot wsX3_shortOf := goodIn_r _ [22, 23, 24, 25, 26, 27, 28, 29, 55, 56, 57, 58, 38, 39, 40, 41, 42, 43, 44, 45, 46, 47, 48, 49, 50, 51, 52, 53, 54] (by decide +kernel) (by decide +kernel)
set_option maxRecDepth 20000 in
theorem gX6_slot_X3_shortOf : GoodIn wsX6_slot (wsV RX6 183 RX3 yX3_shortOf wsX3_shortOf) := goodIn_app (goodIn_of _ (by decide +kernel)) ggX6_slot_X3_shortOf
theorem dX6_slot_0 : decode cX6_slot 0 = .ok (.aload_n 0, 1) := by decide +kernel
theorem dX6_slot_1 : decode cX6_slot 1 = .ok (.getfield 23, 3) := by decide +kernel
theorem dX6_slot_4 : decode cX6_slot 4 = .ok (.iload_n 1, 1) := by decide +kernel
theorem dX6_slot_5 : decode cX6_slot 5 = .ok (.invokevirtual 167, 3) := by decide +kernel
theorem dX6_slot_8 : decode cX6_slot 8 = .ok (.ifCond .eq 10, 3) := by decide +kernel
theorem dX6_slot_11 : decode cX6_slot 11 = .ok (.iload_n 2, 1) := by decide +kernel
theorem dX6_slot_12 : decode cX6_slot 12 = .ok (.invokestatic 170, 3) := by decide +kernel
theorem dX6_slot_15 : decode cX6_slot 15 = .ok (.ifCond .ne 5, 3) := by decide +kernel
theorem dX6_slot_18 : decode cX6_slot 18 = .ok (.iconst (-1), 1) := by decide +kernel
theorem dX6_slot_19 : decode cX6_slot 19 = .ok (.ireturn, 1) := by decide +kernel
theorem dX6_slot_20 : decode cX6_slot 20 = .ok (.iload_n 1, 1) := by decide +kernel
theorem dX6_slot_21 : decode cX6_slot 21 = .ok (.iload_n 2, 1) := by decide +kernel
theorem dX6_slot_22 : decode cX6_slot 22 = .ok (.invokestatic 173, 3) := by decide +kernel
theorem dX6_slot_25 : decode cX6_slot 25 = .ok (.istore 4, 2) := by decide +kernel
theorem dX6_slot_27 : decode cX6_slot 27 = .ok (.iload_n 3, 1) := by decide +kernel
theorem dX6_slot_28 : decode cX6_slot 28 = .ok (.tableswitch 60 0 2 #[28, 39, 50], 28) := by decide +kernel
theorem dX6_slot_56 : decode cX6_slot 56 = .ok (.aload_n 0, 1) := by decide +kernel
theorem dX6_slot_57 : decode cX6_slot 57 = .ok (.getfield 23, 3) := by decide +kernel
theorem dX6_slot_60 : decode cX6_slot 60 = .ok (.getfield 177, 3) := by decide +kernel
theorem dX6_slot_63 : decode cX6_slot 63 = .ok (.iload 4, 2) := by decide +kernel
theorem dX6_slot_65 : decode cX6_slot 65 = .ok (.iaload, 1) := by decide +kernel
theorem dX6_slot_66 : decode cX6_slot 66 = .ok (.ireturn, 1) := by decide +kernel
theorem dX6_slot_67 : decode cX6_slot 67 = .ok (.aload_n 0, 1) := by decide +kernel
theorem dX6_slot_68 : decode cX6_slot 68 = .ok (.getfield 40, 3) := by decide +kernel
theorem dX6_slot_71 : decode cX6_slot 71 = .ok (.getfield 180, 3) := by decide +kernel
theorem dX6_slot_74 : decode cX6_slot 74 = .ok (.iload 4, 2) := by decide +kernel
theorem dX6_slot_76 : decode cX6_slot 76 = .ok (.iaload, 1) := by decide +kernel
theorem dX6_slot_77 : decode cX6_slot 77 = .ok (.ireturn, 1) := by decide +kernel
theorem dX6_slot_78 : decode cX6_slot 78 = .ok (.aload_n 0, 1) := by decide +kernel
theorem dX6_slot_79 : decode cX6_slot 79 = .ok (.getfield 40, 3) := by decide +kernel
theorem dX6_slot_82 : decode cX6_slot 82 = .ok (.iload 4, 2) := by decide +kernel
theorem dX6_slot_84 : decode cX6_slot 84 = .ok (.invokevirtual 183, 3) := by decide +kernel
theorem dX6_slot_87 : decode cX6_slot 87 = .ok (.ireturn, 1) := by decide +kernel
theorem dX6_slot_88 : decode cX6_slot 88 = .ok (.iconst (-1), 1) := by decide +kernel
theorem dX6_slot_89 : decode cX6_slot 89 = .ok (.ireturn, 1) := by decide +kernel
set_option maxRecDepth 20000 in
theorem ggX6_why_X1_hasPause : GoodIn wsX6_why wsX1_hasPause := goodIn_r _ [7, 8, 38, 39, 40, 41, 42, 43, 44, 45, 46, 47, 48, 49, 50, 51, 52, 53, 54] (by decide +kernel) (by decide +kernel)
set_option maxRecDepth 20000 in
theorem gX6_why_X1_hasPause : GoodIn wsX6_why (wsV RX6 145 RX1 yX1_hasPause wsX1_hasPause) := goodIn_app (goodIn_of _ (by decide +kernel)) ggX6_why_X1_hasPause
set_option maxRecDepth 20000 in
theorem ggX6_why_X6_isSlot : GoodIn wsX6_why wsX6_isSlot := goodIn_r _ [12] (by decide +kernel) (by decide +kernel)
set_option maxRecDepth 20000 in
theorem gX6_why_X6_isSlot : GoodIn wsX6_why (va_wsS RX6 170 yX6_isSlot wsX6_isSlot) := goodIn_app (goodIn_of _ (by decide +kernel)) ggX6_why_X6_isSlot
set_option maxRecDepth 20000 in
theorem ggX6_why_X3_reasonAgainst : GoodIn wsX6_why wsX3_reasonAgainst := goodIn_r _ [17, 18, 19, 20, 21, 22, 23, 24, 25, 26, 27, 16, 28, 29, 55, 56, 57, 58, 38, 39, 40, 41, 42, 43, 44, 45, 46, 47, 48, 49, 50, 51, 52, 53, 54] (by decide +kernel) (by decide +kernel)
set_option maxRecDepth 20000 in
theorem gX6_why_X3_reasonAgainst : GoodIn wsX6_why (wsV RX6 187 RX3 yX3_reasonAgainst wsX3_reasonAgainst) := goodIn_app (goodIn_of _ (by decide +kernel)) ggX6_why_X3_reasonAgainst
theorem dX6_why_0 : decode cX6_why 0 = .ok (.aload_n 0, 1) := by decide +kernel
theorem dX6_why_1 : decode cX6_why 1 = .ok (.getfield 23, 3) := by decide +kernel
theorem dX6_why_4 : decode cX6_why 4 = .ok (.iload_n 1, 1) := by decide +kernel
theorem dX6_why_5 : decode cX6_why 5 = .ok (.invokevirtual 145, 3) := by decide +kernel
theorem dX6_why_8 : decode cX6_why 8 = .ok (.ifCond .eq 10, 3) := by decide +kernel
theorem dX6_why_11 : decode cX6_why 11 = .ok (.iload_n 2, 1) := by decide +kernel
theorem dX6_why_12 : decode cX6_why 12 = .ok (.invokestatic 170, 3) := by decide +kernel
theorem dX6_why_15 : decode cX6_why 15 = .ok (.ifCond .ne 5, 3) := by decide +kernel
theorem dX6_why_18 : decode cX6_why 18 = .ok (.iconst (-1), 1) := by decide +kernel
theorem dX6_why_19 : decode cX6_why 19 = .ok (.ireturn, 1) := by decide +kernel
theorem dX6_why_20 : decode cX6_why 20 = .ok (.aload_n 0, 1) := by decide +kernel
theorem dX6_why_21 : decode cX6_why 21 = .ok (.getfield 40, 3) := by decide +kernel
theorem dX6_why_24 : decode cX6_why 24 = .ok (.iload_n 1, 1) := by decide +kernel
theorem dX6_why_25 : decode cX6_why 25 = .ok (.iload_n 2, 1) := by decide +kernel
theorem dX6_why_26 : decode cX6_why 26 = .ok (.invokevirtual 187, 3) := by decide +kernel
theorem dX6_why_29 : decode cX6_why 29 = .ok (.ireturn, 1) := by decide +kernel
set_option maxRecDepth 20000 in
theorem ggX6_would_X1_hasPause : GoodIn wsX6_would wsX1_hasPause := goodIn_r _ [7, 8, 57, 58, 59, 60, 61, 62, 63, 64, 65, 66, 67, 68, 69, 70, 71, 72, 73] (by decide +kernel) (by decide +kernel)
set_option maxRecDepth 20000 in
theorem gX6_would_X1_hasPause : GoodIn wsX6_would (wsV RX6 145 RX1 yX1_hasPause wsX1_hasPause) := goodIn_app (goodIn_of _ (by decide +kernel)) ggX6_would_X1_hasPause
set_option maxRecDepth 20000 in
theorem ggX6_would_X6_isSlot : GoodIn wsX6_would wsX6_isSlot := goodIn_r _ [12] (by decide +kernel) (by decide +kernel)
set_option maxRecDepth 20000 in
theorem gX6_would_X6_isSlot : GoodIn wsX6_would (va_wsS RX6 170 yX6_isSlot wsX6_isSlot) := goodIn_app (goodIn_of _ (by decide +kernel)) ggX6_would_X6_isSlot
set_option maxRecDepth 20000 in
theorem ggX6_would_X3_reasonAgainst : GoodIn wsX6_would wsX3_reasonAgainst := goodIn_r _ [17, 18, 19, 20, 21, 22, 23, 24, 25, 26, 27, 16, 28, 29, 74, 75, 76, 77, 57, 58, 59, 60, 61, 62, 63, 64, 65, 66, 67, 68, 69, 70, 71, 72, 73] (by decide +kernel) (by decide +kernel)
set_option maxRecDepth 20000 in
theorem gX6_would_X3_reasonAgainst : GoodIn wsX6_would (wsV RX6 187 RX3 yX3_reasonAgainst wsX3_reasonAgainst) := goodIn_app (goodIn_of _ (by decide +kernel)) ggX6_would_X3_reasonAgainst
set_option maxRecDepth 20000 in
theorem ggX6_would_X3_shortfallWithout : GoodIn wsX6_would wsX3_shortfallWithout := goodIn_r _ [33, 29, 34, 18, 24, 35, 36, 37, 38, 39, 6, 40, 41, 42, 43, 11, 44, 74, 75, 76, 77, 57, 58, 59, 60, 61, 62, 63, 64, 65, 66, 67, 68, 69, 70, 71, 72, 73] (by decide +kernel) (by decide +kernel)
set_option maxRecDepth 20000 in
theorem gX6_would_X3_shortfallWithout : GoodIn wsX6_would (wsV RX6 190 RX3 yX3_shortfallWithout wsX3_shortfallWithout) := goodIn_app (goodIn_of _ (by decide +kernel)) ggX6_would_X3_shortfallWithout
set_option maxRecDepth 20000 in
theorem ggX6_would_X3_lossAt : GoodIn wsX6_would wsX3_lossAt := goodIn_r _ [48, 18, 24, 29, 35, 36, 37, 38, 39, 6, 40, 41, 42, 43, 11, 44, 74, 75, 76, 77, 57, 58, 59, 60, 61, 62, 63, 64, 65, 66, 67, 68, 69, 70, 71, 72, 73] (by decide +kernel) (by decide +kernel)
set_option maxRecDepth 20000 in
theorem gX6_would_X3_lossAt : GoodIn wsX6_would (wsV RX6 193 RX3 yX3_lossAt wsX3_lossAt) := goodIn_app (goodIn_of _ (by decide +kernel)) ggX6_would_X3_lossAt
theorem dX6_would_0 : decode cX6_would 0 = .ok (.aload_n 0, 1) := by decide +kernel
theorem dX6_would_1 : decode cX6_would 1 = .ok (.getfield 23, 3) := by decide +kernel
theorem dX6_would_4 : decode cX6_would 4 = .ok (.iload_n 1, 1) := by decide +kernel
theorem dX6_would_5 : decode cX6_would 5 = .ok (.invokevirtual 145, 3) := by decide +kernel
theorem dX6_would_8 : decode cX6_would 8 = .ok (.ifCond .eq 22, 3) := by decide +kernel
theorem dX6_would_11 : decode cX6_would 11 = .ok (.iload_n 2, 1) := by decide +kernel
theorem dX6_would_12 : decode cX6_would 12 = .ok (.invokestatic 170, 3) := by decide +kernel
theorem dX6_would_15 : decode cX6_would 15 = .ok (.ifCond .eq 15, 3) := by decide +kernel
theorem dX6_would_18 : decode cX6_would 18 = .ok (.aload_n 0, 1) := by decide +kernel
theorem dX6_would_19 : decode cX6_would 19 = .ok (.getfield 40, 3) := by decide +kernel
theorem dX6_would_22 : decode cX6_would 22 = .ok (.iload_n 1, 1) := by decide +kernel
theorem dX6_would_23 : decode cX6_would 23 = .ok (.iload_n 2, 1) := by decide +kernel
theorem dX6_would_24 : decode cX6_would 24 = .ok (.invokevirtual 187, 3) := by decide +kernel
theorem dX6_would_27 : decode cX6_would 27 = .ok (.ifCond .eq 5, 3) := by decide +kernel
theorem dX6_would_30 : decode cX6_would 30 = .ok (.iconst (-1), 1) := by decide +kernel
theorem dX6_would_31 : decode cX6_would 31 = .ok (.ireturn, 1) := by decide +kernel
theorem dX6_would_32 : decode cX6_would 32 = .ok (.aload_n 0, 1) := by decide +kernel
theorem dX6_would_33 : decode cX6_would 33 = .ok (.getfield 40, 3) := by decide +kernel
theorem dX6_would_36 : decode cX6_would 36 = .ok (.iload_n 1, 1) := by decide +kernel
theorem dX6_would_37 : decode cX6_would 37 = .ok (.invokevirtual 190, 3) := by decide +kernel
theorem dX6_would_40 : decode cX6_would 40 = .ok (.aload_n 0, 1) := by decide +kernel
theorem dX6_would_41 : decode cX6_would 41 = .ok (.getfield 40, 3) := by decide +kernel
theorem dX6_would_44 : decode cX6_would 44 = .ok (.iload_n 1, 1) := by decide +kernel
theorem dX6_would_45 : decode cX6_would 45 = .ok (.iload_n 2, 1) := by decide +kernel
theorem dX6_would_46 : decode cX6_would 46 = .ok (.invokevirtual 193, 3) := by decide +kernel
theorem dX6_would_49 : decode cX6_would 49 = .ok (.iadd, 1) := by decide +kernel
theorem dX6_would_50 : decode cX6_would 50 = .ok (.ireturn, 1) := by decide +kernel
set_option maxRecDepth 20000 in
theorem ggX6_best_X1_hasPause : GoodIn wsX6_best wsX1_hasPause := goodIn_r _ [7, 8, 53, 54, 55, 56, 57, 58, 59, 60, 61, 62, 63, 64, 65, 66, 67, 68, 69] (by decide +kernel) (by decide +kernel)
set_option maxRecDepth 20000 in
theorem gX6_best_X1_hasPause : GoodIn wsX6_best (wsV RX6 145 RX1 yX1_hasPause wsX1_hasPause) := goodIn_app (goodIn_of _ (by decide +kernel)) ggX6_best_X1_hasPause
set_option maxRecDepth 20000 in
theorem ggX6_best_X3_findBestSlot : GoodIn wsX6_best wsX3_findBestSlot := goodIn_r _ [13, 14, 15, 16, 17, 18, 19, 12, 20, 21, 22, 23, 24, 25, 26, 27, 28, 29, 30, 31, 32, 33, 34, 35, 36, 37, 38, 6, 39, 40, 41, 42, 43, 44, 70, 71, 72, 73, 53, 54, 55, 56, 57, 58, 59, 60, 61, 62, 63, 64, 65, 66, 67, 68, 69] (by decide +kernel) (by decide +kernel)
set_option maxRecDepth 20000 in
theorem gX6_best_X3_findBestSlot : GoodIn wsX6_best (wsV RX6 196 RX3 yX3_findBestSlot wsX3_findBestSlot) := goodIn_app (goodIn_of _ (by decide +kernel)) ggX6_best_X3_findBestSlot
theorem dX6_best_0 : decode cX6_best 0 = .ok (.aload_n 0, 1) := by decide +kernel
theorem dX6_best_1 : decode cX6_best 1 = .ok (.getfield 23, 3) := by decide +kernel
theorem dX6_best_4 : decode cX6_best 4 = .ok (.iload_n 1, 1) := by decide +kernel
theorem dX6_best_5 : decode cX6_best 5 = .ok (.invokevirtual 145, 3) := by decide +kernel
theorem dX6_best_8 : decode cX6_best 8 = .ok (.ifCond .eq 14, 3) := by decide +kernel
theorem dX6_best_11 : decode cX6_best 11 = .ok (.aload_n 0, 1) := by decide +kernel
theorem dX6_best_12 : decode cX6_best 12 = .ok (.getfield 40, 3) := by decide +kernel
theorem dX6_best_15 : decode cX6_best 15 = .ok (.iload_n 1, 1) := by decide +kernel
theorem dX6_best_16 : decode cX6_best 16 = .ok (.invokevirtual 196, 3) := by decide +kernel
theorem dX6_best_19 : decode cX6_best 19 = .ok (.goto 4, 3) := by decide +kernel
theorem dX6_best_22 : decode cX6_best 22 = .ok (.iconst (-1), 1) := by decide +kernel
theorem dX6_best_23 : decode cX6_best 23 = .ok (.ireturn, 1) := by decide +kernel
set_option maxRecDepth 20000 in
theorem ggX6_better_X3_findBestMove : GoodIn wsX6_better wsX3_findBestMove := goodIn_r _ [6, 7, 8, 9, 10, 11, 12, 13, 5, 14, 15, 16, 17, 18, 19, 20, 21, 22, 23, 24, 25, 26, 27, 28, 29, 30, 31, 32, 33, 34, 35, 36, 37, 38, 39, 40, 41, 42, 43, 44, 45, 46, 47, 48, 57, 58, 59, 60, 61, 62, 63, 64, 65, 66, 67, 68, 69, 70, 71, 72, 73, 74, 75, 76, 77] (by decide +kernel) (by decide +kernel)
set_option maxRecDepth 20000 in
theorem gX6_better_X3_findBestMove : GoodIn wsX6_better (wsV RX6 199 RX3 yX3_findBestMove wsX3_findBestMove) := goodIn_app (goodIn_of _ (by decide +kernel)) ggX6_better_X3_findBestMove
theorem dX6_better_0 : decode cX6_better 0 = .ok (.aload_n 0, 1) := by decide +kernel
theorem dX6_better_1 : decode cX6_better 1 = .ok (.getfield 40, 3) := by decide +kernel
theorem dX6_better_4 : decode cX6_better 4 = .ok (.invokevirtual 199, 3) := by decide +kernel
theorem dX6_better_7 : decode cX6_better 7 = .ok (.ireturn, 1) := by decide +kernel
set_option maxRecDepth 20000 in
theorem ggX6_least_X1_hasPost : GoodIn wsX6_least wsX1_hasPost := goodIn_r _ [6, 7, 40, 41, 42, 43, 44, 45, 46, 47, 48, 49, 50, 51, 52, 53, 54, 55, 56] (by decide +kernel) (by decide +kernel)
set_option maxRecDepth 20000 in
theorem gX6_least_X1_hasPost : GoodIn wsX6_least (wsV RX6 167 RX1 yX1_hasPost wsX1_hasPost) := goodIn_app (goodIn_of _ (by decide +kernel)) ggX6_least_X1_hasPost
set_option maxRecDepth 20000 in
theorem ggX6_least_X1_hasShortPausesAlone : GoodIn wsX6_least wsX1_hasShortPausesAlone := goodIn_r _ [11, 12, 13, 14, 15, 16, 40, 41, 42, 43, 44, 45, 46, 47, 48, 49, 50, 51, 52, 53, 54, 55, 56] (by decide +kernel) (by decide +kernel)
set_option maxRecDepth 20000 in
theorem gX6_least_X1_hasShortPausesAlone : GoodIn wsX6_least (wsV RX6 202 RX1 yX1_hasShortPausesAlone wsX1_hasShortPausesAlone) := goodIn_app (goodIn_of _ (by decide +kernel)) ggX6_least_X1_hasShortPausesAlone
set_option maxRecDepth 20000 in
theorem ggX6_least_X1_leastShortfallOf : GoodIn wsX6_least wsX1_leastShortfallOf := goodIn_r _ [20, 21, 22, 12, 13, 23, 24, 25, 26, 27, 28, 5, 29, 16, 30, 31, 40, 41, 42, 43, 44, 45, 46, 47, 48, 49, 50, 51, 52, 53, 54, 55, 56] (by decide +kernel) (by decide +kernel)
set_option maxRecDepth 20000 in
theorem gX6_least_X1_leastShortfallOf : GoodIn wsX6_least (wsV RX6 205 RX1 yX1_leastShortfallOf wsX1_leastShortfallOf) := goodIn_app (goodIn_of _ (by decide +kernel)) ggX6_least_X1_leastShortfallOf
theorem dX6_least_0 : decode cX6_least 0 = .ok (.aload_n 0, 1) := by decide +kernel
theorem dX6_least_1 : decode cX6_least 1 = .ok (.getfield 23, 3) := by decide +kernel
theorem dX6_least_4 : decode cX6_least 4 = .ok (.iload_n 1, 1) := by decide +kernel
theorem dX6_least_5 : decode cX6_least 5 = .ok (.invokevirtual 167, 3) := by decide +kernel
theorem dX6_least_8 : decode cX6_least 8 = .ok (.ifCond .eq 25, 3) := by decide +kernel
theorem dX6_least_11 : decode cX6_least 11 = .ok (.aload_n 0, 1) := by decide +kernel
theorem dX6_least_12 : decode cX6_least 12 = .ok (.getfield 23, 3) := by decide +kernel
theorem dX6_least_15 : decode cX6_least 15 = .ok (.iload_n 1, 1) := by decide +kernel
theorem dX6_least_16 : decode cX6_least 16 = .ok (.invokevirtual 202, 3) := by decide +kernel
theorem dX6_least_19 : decode cX6_least 19 = .ok (.ifCond .eq 14, 3) := by decide +kernel
theorem dX6_least_22 : decode cX6_least 22 = .ok (.aload_n 0, 1) := by decide +kernel
theorem dX6_least_23 : decode cX6_least 23 = .ok (.getfield 23, 3) := by decide +kernel
theorem dX6_least_26 : decode cX6_least 26 = .ok (.iload_n 1, 1) := by decide +kernel
theorem dX6_least_27 : decode cX6_least 27 = .ok (.invokevirtual 205, 3) := by decide +kernel
theorem dX6_least_30 : decode cX6_least 30 = .ok (.goto 4, 3) := by decide +kernel
theorem dX6_least_33 : decode cX6_least 33 = .ok (.iconst (-1), 1) := by decide +kernel
theorem dX6_least_34 : decode cX6_least 34 = .ok (.ireturn, 1) := by decide +kernel
set_option maxRecDepth 20000 in
theorem ggX6_relief_X1_hasPost : GoodIn wsX6_relief wsX1_hasPost := goodIn_r _ [7, 8, 58, 59, 60, 61, 62, 63, 64, 65, 66, 67, 68, 69, 70, 71, 72, 73, 74] (by decide +kernel) (by decide +kernel)
set_option maxRecDepth 20000 in
theorem gX6_relief_X1_hasPost : GoodIn wsX6_relief (wsV RX6 167 RX1 yX1_hasPost wsX1_hasPost) := goodIn_app (goodIn_of _ (by decide +kernel)) ggX6_relief_X1_hasPost
set_option maxRecDepth 20000 in
theorem ggX6_relief_X6_isSlot : GoodIn wsX6_relief wsX6_isSlot := goodIn_r _ [12] (by decide +kernel) (by decide +kernel)
set_option maxRecDepth 20000 in
theorem gX6_relief_X6_isSlot : GoodIn wsX6_relief (va_wsS RX6 170 yX6_isSlot wsX6_isSlot) := goodIn_app (goodIn_of _ (by decide +kernel)) ggX6_relief_X6_isSlot
set_option maxRecDepth 20000 in
theorem ggX6_relief_X5_plotWays : GoodIn wsX6_relief wsX5_plotWays := goodIn_r _ [17, 18, 19, 20, 21, 22, 23, 24, 11, 25, 26, 27, 28, 29, 30, 31, 32, 33, 34, 35, 36, 37, 38, 39, 40, 16, 41, 10, 12, 75, 76, 77, 78, 58, 59, 60, 61, 62, 63, 64, 65, 66, 67, 68, 69, 70, 71, 72, 73, 74, 79, 80, 81, 82] (by decide +kernel) (by decide +kernel)
set_option maxRecDepth 20000 in
theorem gX6_relief_X5_plotWays : GoodIn wsX6_relief (wsV RX6 208 RX5 yX5_plotWays wsX5_plotWays) := goodIn_app (goodIn_of _ (by decide +kernel)) ggX6_relief_X5_plotWays
set_option maxRecDepth 20000 in
theorem ggX6_relief_X5_helpFrom : GoodIn wsX6_relief wsX5_helpFrom := goodIn_r _ [45, 21, 24, 11, 25, 75, 76, 77, 78] (by decide +kernel) (by decide +kernel)
set_option maxRecDepth 20000 in
theorem gX6_relief_X5_helpFrom : GoodIn wsX6_relief (wsV RX6 211 RX5 yX5_helpFrom wsX5_helpFrom) := goodIn_app (goodIn_of _ (by decide +kernel)) ggX6_relief_X5_helpFrom
set_option maxRecDepth 20000 in
theorem ggX6_relief_X5_postOnWay : GoodIn wsX6_relief wsX5_postOnWay := goodIn_r _ [49, 22, 18, 23, 24, 11, 25, 75, 76, 77, 78, 58, 59, 60, 61, 62, 63, 64, 65, 66, 67, 68, 69, 70, 71, 72, 73, 74] (by decide +kernel) (by decide +kernel)
set_option maxRecDepth 20000 in
theorem gX6_relief_X5_postOnWay : GoodIn wsX6_relief (wsV RX6 214 RX5 yX5_postOnWay wsX5_postOnWay) := goodIn_app (goodIn_of _ (by decide +kernel)) ggX6_relief_X5_postOnWay
theorem dX6_relief_0 : decode cX6_relief 0 = .ok (.aload_n 0, 1) := by decide +kernel
theorem dX6_relief_1 : decode cX6_relief 1 = .ok (.getfield 23, 3) := by decide +kernel
theorem dX6_relief_4 : decode cX6_relief 4 = .ok (.iload_n 1, 1) := by decide +kernel
theorem dX6_relief_5 : decode cX6_relief 5 = .ok (.invokevirtual 167, 3) := by decide +kernel
theorem dX6_relief_8 : decode cX6_relief 8 = .ok (.ifCond .eq 15, 3) := by decide +kernel
theorem dX6_relief_11 : decode cX6_relief 11 = .ok (.iload_n 2, 1) := by decide +kernel
theorem dX6_relief_12 : decode cX6_relief 12 = .ok (.iconst (-1), 1) := by decide +kernel
theorem dX6_relief_13 : decode cX6_relief 13 = .ok (.if_icmp .eq 12, 3) := by decide +kernel
theorem dX6_relief_16 : decode cX6_relief 16 = .ok (.iload_n 2, 1) := by decide +kernel
theorem dX6_relief_17 : decode cX6_relief 17 = .ok (.invokestatic 170, 3) := by decide +kernel
theorem dX6_relief_20 : decode cX6_relief 20 = .ok (.ifCond .ne 5, 3) := by decide +kernel
theorem dX6_relief_23 : decode cX6_relief 23 = .ok (.iconst (-1), 1) := by decide +kernel
theorem dX6_relief_24 : decode cX6_relief 24 = .ok (.ireturn, 1) := by decide +kernel
theorem dX6_relief_25 : decode cX6_relief 25 = .ok (.aload_n 0, 1) := by decide +kernel
theorem dX6_relief_26 : decode cX6_relief 26 = .ok (.getfield 49, 3) := by decide +kernel
theorem dX6_relief_29 : decode cX6_relief 29 = .ok (.invokevirtual 208, 3) := by decide +kernel
theorem dX6_relief_32 : decode cX6_relief 32 = .ok (.iload_n 2, 1) := by decide +kernel
theorem dX6_relief_33 : decode cX6_relief 33 = .ok (.iconst (-1), 1) := by decide +kernel
theorem dX6_relief_34 : decode cX6_relief 34 = .ok (.if_icmp .ne 14, 3) := by decide +kernel
theorem dX6_relief_37 : decode cX6_relief 37 = .ok (.aload_n 0, 1) := by decide +kernel
theorem dX6_relief_38 : decode cX6_relief 38 = .ok (.getfield 49, 3) := by decide +kernel
theorem dX6_relief_41 : decode cX6_relief 41 = .ok (.iload_n 1, 1) := by decide +kernel
theorem dX6_relief_42 : decode cX6_relief 42 = .ok (.invokevirtual 211, 3) := by decide +kernel
theorem dX6_relief_45 : decode cX6_relief 45 = .ok (.goto 12, 3) := by decide +kernel
theorem dX6_relief_48 : decode cX6_relief 48 = .ok (.aload_n 0, 1) := by decide +kernel
theorem dX6_relief_49 : decode cX6_relief 49 = .ok (.getfield 49, 3) := by decide +kernel
theorem dX6_relief_52 : decode cX6_relief 52 = .ok (.iload_n 1, 1) := by decide +kernel
theorem dX6_relief_53 : decode cX6_relief 53 = .ok (.iload_n 2, 1) := by decide +kernel
theorem dX6_relief_54 : decode cX6_relief 54 = .ok (.invokevirtual 214, 3) := by decide +kernel
theorem dX6_relief_57 : decode cX6_relief 57 = .ok (.ireturn, 1) := by decide +kernel
set_option maxRecDepth 20000 in
theorem ggX6_worst_X3_findWorstSlot : GoodIn wsX6_worst wsX3_findWorstSlot := goodIn_r _ [6, 7, 8, 9, 10, 11, 12, 13, 14, 5, 15, 16, 17, 18, 19, 20, 21, 30, 31, 32, 33, 34, 35, 36, 37, 38, 39, 40, 41, 42, 43, 44, 45, 46, 47, 48, 49, 50] (by decide +kernel) (by decide +kernel)
set_option maxRecDepth 20000 in
theorem gX6_worst_X3_findWorstSlot : GoodIn wsX6_worst (wsV RX6 217 RX3 yX3_findWorstSlot wsX3_findWorstSlot) := goodIn_app (goodIn_of _ (by decide +kernel)) ggX6_worst_X3_findWorstSlot
theorem dX6_worst_0 : decode cX6_worst 0 = .ok (.aload_n 0, 1) := by decide +kernel
theorem dX6_worst_1 : decode cX6_worst 1 = .ok (.getfield 40, 3) := by decide +kernel
theorem dX6_worst_4 : decode cX6_worst 4 = .ok (.invokevirtual 217, 3) := by decide +kernel
theorem dX6_worst_7 : decode cX6_worst 7 = .ok (.ireturn, 1) := by decide +kernel
set_option maxRecDepth 20000 in
theorem ggX6_place_X1_hasPause : GoodIn wsX6_place wsX1_hasPause := goodIn_r _ [9, 10, 87, 88, 89, 90, 91, 92, 93, 94, 95, 96, 97, 98, 99, 100, 101, 102, 103] (by decide +kernel) (by decide +kernel)
set_option maxRecDepth 20000 in
theorem gX6_place_X1_hasPause : GoodIn wsX6_place (wsV RX6 145 RX1 yX1_hasPause wsX1_hasPause) := goodIn_app (goodIn_of _ (by decide +kernel)) ggX6_place_X1_hasPause
set_option maxRecDepth 20000 in
theorem ggX6_place_X6_isSlot : GoodIn wsX6_place wsX6_isSlot := goodIn_r _ [14] (by decide +kernel) (by decide +kernel)
set_option maxRecDepth 20000 in
theorem gX6_place_X6_isSlot : GoodIn wsX6_place (va_wsS RX6 170 yX6_isSlot wsX6_isSlot) := goodIn_app (goodIn_of _ (by decide +kernel)) ggX6_place_X6_isSlot
set_option maxRecDepth 20000 in
theorem ggX6_place_X3_reasonAgainst : GoodIn wsX6_place wsX3_reasonAgainst := goodIn_r _ [19, 20, 21, 22, 23, 24, 25, 26, 27, 28, 29, 18, 30, 31, 83, 84, 85, 86, 87, 88, 89, 90, 91, 92, 93, 94, 95, 96, 97, 98, 99, 100, 101, 102, 103] (by decide +kernel) (by decide +kernel)
set_option maxRecDepth 20000 in
theorem gX6_place_X3_reasonAgainst : GoodIn wsX6_place (wsV RX6 187 RX3 yX3_reasonAgainst wsX3_reasonAgainst) := goodIn_app (goodIn_of _ (by decide +kernel)) ggX6_place_X3_reasonAgainst
set_option maxRecDepth 20000 in
theorem ggX6_place_X0_keep : GoodIn wsX6_place wsX0_keep := goodIn_r _ [36, 37, 38, 39, 40, 41, 42, 43, 44, 45, 46, 47, 104, 105, 106] (by decide +kernel) (by decide +kernel)
set_option maxRecDepth 20000 in
theorem gX6_place_X0_keep : GoodIn wsX6_place (wsV RX6 220 RX0 yX0_keep wsX0_keep) := goodIn_app (goodIn_of _ (by decide +kernel)) ggX6_place_X0_keep
set_option maxRecDepth 20000 in
theorem ggX6_place_X3_moveTo : GoodIn wsX6_place wsX3_moveTo := goodIn_r _ [51, 31, 52, 53, 54, 18, 55, 56, 20, 26, 57, 58, 59, 60, 61, 62, 63, 64, 65, 8, 66, 67, 68, 69, 13, 70, 71, 72, 73, 74, 83, 84, 85, 86, 87, 88, 89, 90, 91, 92, 93, 94, 95, 96, 97, 98, 99, 100, 101, 102, 103] (by decide +kernel) (by decide +kernel)
set_option maxRecDepth 20000 in
theorem gX6_place_X3_moveTo : GoodIn wsX6_place (wsV RX6 224 RX3 yX3_moveTo wsX3_moveTo) := goodIn_app (goodIn_of _ (by decide +kernel)) ggX6_place_X3_moveTo
theorem dX6_place_0 : decode cX6_place 0 = .ok (.aload_n 0, 1) := by decide +kernel
theorem dX6_place_1 : decode cX6_place 1 = .ok (.getfield 23, 3) := by decide +kernel
theorem dX6_place_4 : decode cX6_place 4 = .ok (.iload_n 1, 1) := by decide +kernel
theorem dX6_place_5 : decode cX6_place 5 = .ok (.invokevirtual 145, 3) := by decide +kernel
theorem dX6_place_8 : decode cX6_place 8 = .ok (.ifCond .eq 23, 3) := by decide +kernel
theorem dX6_place_11 : decode cX6_place 11 = .ok (.iload_n 2, 1) := by decide +kernel
theorem dX6_place_12 : decode cX6_place 12 = .ok (.invokestatic 170, 3) := by decide +kernel
theorem dX6_place_15 : decode cX6_place 15 = .ok (.ifCond .eq 16, 3) := by decide +kernel
theorem dX6_place_18 : decode cX6_place 18 = .ok (.aload_n 0, 1) := by decide +kernel
theorem dX6_place_19 : decode cX6_place 19 = .ok (.getfield 40, 3) := by decide +kernel
theorem dX6_place_22 : decode cX6_place 22 = .ok (.getfield 162, 3) := by decide +kernel
theorem dX6_place_25 : decode cX6_place 25 = .ok (.iload_n 1, 1) := by decide +kernel
theorem dX6_place_26 : decode cX6_place 26 = .ok (.iaload, 1) := by decide +kernel
theorem dX6_place_27 : decode cX6_place 27 = .ok (.iload_n 2, 1) := by decide +kernel
theorem dX6_place_28 : decode cX6_place 28 = .ok (.if_icmp .ne 5, 3) := by decide +kernel
theorem dX6_place_31 : decode cX6_place 31 = .ok (.iconst (-1), 1) := by decide +kernel
theorem dX6_place_32 : decode cX6_place 32 = .ok (.ireturn, 1) := by decide +kernel
theorem dX6_place_33 : decode cX6_place 33 = .ok (.aload_n 0, 1) := by decide +kernel
theorem dX6_place_34 : decode cX6_place 34 = .ok (.getfield 40, 3) := by decide +kernel
theorem dX6_place_37 : decode cX6_place 37 = .ok (.iload_n 1, 1) := by decide +kernel
theorem dX6_place_38 : decode cX6_place 38 = .ok (.iload_n 2, 1) := by decide +kernel
theorem dX6_place_39 : decode cX6_place 39 = .ok (.invokevirtual 187, 3) := by decide +kernel
theorem dX6_place_42 : decode cX6_place 42 = .ok (.istore_n 3, 1) := by decide +kernel
theorem dX6_place_43 : decode cX6_place 43 = .ok (.iload_n 3, 1) := by decide +kernel
theorem dX6_place_44 : decode cX6_place 44 = .ok (.ifCond .eq 5, 3) := by decide +kernel
theorem dX6_place_47 : decode cX6_place 47 = .ok (.iload_n 3, 1) := by decide +kernel
theorem dX6_place_48 : decode cX6_place 48 = .ok (.ireturn, 1) := by decide +kernel
theorem dX6_place_49 : decode cX6_place 49 = .ok (.aload_n 0, 1) := by decide +kernel
theorem dX6_place_50 : decode cX6_place 50 = .ok (.getfield 56, 3) := by decide +kernel
theorem dX6_place_53 : decode cX6_place 53 = .ok (.aload_n 0, 1) := by decide +kernel
theorem dX6_place_54 : decode cX6_place 54 = .ok (.getfield 40, 3) := by decide +kernel
theorem dX6_place_57 : decode cX6_place 57 = .ok (.getfield 162, 3) := by decide +kernel
theorem dX6_place_60 : decode cX6_place 60 = .ok (.invokevirtual 220, 3) := by decide +kernel
theorem dX6_place_63 : decode cX6_place 63 = .ok (.aload_n 0, 1) := by decide +kernel
theorem dX6_place_64 : decode cX6_place 64 = .ok (.getfield 40, 3) := by decide +kernel
theorem dX6_place_67 : decode cX6_place 67 = .ok (.iload_n 1, 1) := by decide +kernel
theorem dX6_place_68 : decode cX6_place 68 = .ok (.iload_n 2, 1) := by decide +kernel
theorem dX6_place_69 : decode cX6_place 69 = .ok (.invokevirtual 224, 3) := by decide +kernel
theorem dX6_place_72 : decode cX6_place 72 = .ok (.iconst 0, 1) := by decide +kernel
theorem dX6_place_73 : decode cX6_place 73 = .ok (.ireturn, 1) := by decide +kernel
set_option maxRecDepth 20000 in
theorem ggX6_take_X1_hasPause : GoodIn wsX6_take wsX1_hasPause := goodIn_r _ [9, 10, 63, 64, 65, 66, 67, 68, 69, 70, 71, 72, 73, 74, 75, 76, 77, 78, 79] (by decide +kernel) (by decide +kernel)
set_option maxRecDepth 20000 in
theorem gX6_take_X1_hasPause : GoodIn wsX6_take (wsV RX6 145 RX1 yX1_hasPause wsX1_hasPause) := goodIn_app (goodIn_of _ (by decide +kernel)) ggX6_take_X1_hasPause
set_option maxRecDepth 20000 in
theorem ggX6_take_X0_keep : GoodIn wsX6_take wsX0_keep := goodIn_r _ [15, 16, 17, 18, 19, 20, 21, 22, 23, 24, 25, 26, 80, 81, 82] (by decide +kernel) (by decide +kernel)
set_option maxRecDepth 20000 in
theorem gX6_take_X0_keep : GoodIn wsX6_take (wsV RX6 220 RX0 yX0_keep wsX0_keep) := goodIn_app (goodIn_of _ (by decide +kernel)) ggX6_take_X0_keep
set_option maxRecDepth 20000 in
theorem ggX6_take_X3_lift : GoodIn wsX6_take wsX3_lift := goodIn_r _ [31, 32, 33, 34, 35, 36, 37, 38, 39, 30, 40, 41, 42, 43, 44, 8, 45, 46, 47, 48, 49, 50, 59, 60, 61, 62, 63, 64, 65, 66, 67, 68, 69, 70, 71, 72, 73, 74, 75, 76, 77, 78, 79] (by decide +kernel) (by decide +kernel)
set_option maxRecDepth 20000 in
theorem gX6_take_X3_lift : GoodIn wsX6_take (wsV RX6 228 RX3 yX3_lift wsX3_lift) := goodIn_app (goodIn_of _ (by decide +kernel)) ggX6_take_X3_lift
theorem dX6_take_0 : decode cX6_take 0 = .ok (.aload_n 0, 1) := by decide +kernel
theorem dX6_take_1 : decode cX6_take 1 = .ok (.getfield 23, 3) := by decide +kernel
theorem dX6_take_4 : decode cX6_take 4 = .ok (.iload_n 1, 1) := by decide +kernel
theorem dX6_take_5 : decode cX6_take 5 = .ok (.invokevirtual 145, 3) := by decide +kernel
theorem dX6_take_8 : decode cX6_take 8 = .ok (.ifCond .eq 16, 3) := by decide +kernel
theorem dX6_take_11 : decode cX6_take 11 = .ok (.aload_n 0, 1) := by decide +kernel
theorem dX6_take_12 : decode cX6_take 12 = .ok (.getfield 40, 3) := by decide +kernel
theorem dX6_take_15 : decode cX6_take 15 = .ok (.getfield 162, 3) := by decide +kernel
theorem dX6_take_18 : decode cX6_take 18 = .ok (.iload_n 1, 1) := by decide +kernel
theorem dX6_take_19 : decode cX6_take 19 = .ok (.iaload, 1) := by decide +kernel
theorem dX6_take_20 : decode cX6_take 20 = .ok (.iconst (-1), 1) := by decide +kernel
theorem dX6_take_21 : decode cX6_take 21 = .ok (.if_icmp .ne 5, 3) := by decide +kernel
theorem dX6_take_24 : decode cX6_take 24 = .ok (.iconst (-1), 1) := by decide +kernel
theorem dX6_take_25 : decode cX6_take 25 = .ok (.ireturn, 1) := by decide +kernel
theorem dX6_take_26 : decode cX6_take 26 = .ok (.aload_n 0, 1) := by decide +kernel
theorem dX6_take_27 : decode cX6_take 27 = .ok (.getfield 56, 3) := by decide +kernel
theorem dX6_take_30 : decode cX6_take 30 = .ok (.aload_n 0, 1) := by decide +kernel
theorem dX6_take_31 : decode cX6_take 31 = .ok (.getfield 40, 3) := by decide +kernel
theorem dX6_take_34 : decode cX6_take 34 = .ok (.getfield 162, 3) := by decide +kernel
theorem dX6_take_37 : decode cX6_take 37 = .ok (.invokevirtual 220, 3) := by decide +kernel
theorem dX6_take_40 : decode cX6_take 40 = .ok (.aload_n 0, 1) := by decide +kernel
theorem dX6_take_41 : decode cX6_take 41 = .ok (.getfield 40, 3) := by decide +kernel
theorem dX6_take_44 : decode cX6_take 44 = .ok (.getfield 162, 3) := by decide +kernel
theorem dX6_take_47 : decode cX6_take 47 = .ok (.iload_n 1, 1) := by decide +kernel
theorem dX6_take_48 : decode cX6_take 48 = .ok (.iaload, 1) := by decide +kernel
theorem dX6_take_49 : decode cX6_take 49 = .ok (.istore_n 2, 1) := by decide +kernel
theorem dX6_take_50 : decode cX6_take 50 = .ok (.aload_n 0, 1) := by decide +kernel
theorem dX6_take_51 : decode cX6_take 51 = .ok (.getfield 40, 3) := by decide +kernel
theorem dX6_take_54 : decode cX6_take 54 = .ok (.iload_n 1, 1) := by decide +kernel
theorem dX6_take_55 : decode cX6_take 55 = .ok (.invokevirtual 228, 3) := by decide +kernel
theorem dX6_take_58 : decode cX6_take 58 = .ok (.iload_n 2, 1) := by decide +kernel
theorem dX6_take_59 : decode cX6_take 59 = .ok (.ireturn, 1) := by decide +kernel
set_option maxRecDepth 20000 in
theorem ggX6_fill_X0_keep : GoodIn wsX6_fill wsX0_keep := goodIn_r _ [10, 11, 12, 13, 14, 15, 16, 17, 18, 19, 20, 21, 105, 106, 107] (by decide +kernel) (by decide +kernel)
set_option maxRecDepth 20000 in
theorem gX6_fill_X0_keep : GoodIn wsX6_fill (wsV RX6 220 RX0 yX0_keep wsX0_keep) := goodIn_app (goodIn_of _ (by decide +kernel)) ggX6_fill_X0_keep
set_option maxRecDepth 20000 in
theorem ggX6_fill_X3_findBestSlot : GoodIn wsX6_fill wsX3_findBestSlot := goodIn_r _ [26, 27, 28, 29, 30, 31, 32, 25, 33, 34, 35, 36, 37, 38, 39, 40, 41, 42, 43, 44, 45, 46, 47, 48, 49, 50, 51, 52, 53, 54, 55, 56, 57, 58, 84, 85, 86, 87, 88, 89, 90, 91, 92, 93, 94, 95, 96, 97, 98, 99, 100, 101, 102, 103, 104] (by decide +kernel) (by decide +kernel)
set_option maxRecDepth 20000 in
theorem gX6_fill_X3_findBestSlot : GoodIn wsX6_fill (wsV RX6 196 RX3 yX3_findBestSlot wsX3_findBestSlot) := goodIn_app (goodIn_of _ (by decide +kernel)) ggX6_fill_X3_findBestSlot
set_option maxRecDepth 20000 in
theorem ggX6_fill_X3_moveTo : GoodIn wsX6_fill wsX3_moveTo := goodIn_r _ [62, 42, 63, 64, 65, 25, 66, 67, 27, 37, 48, 68, 69, 70, 71, 47, 49, 50, 51, 52, 53, 54, 55, 56, 57, 58, 72, 73, 74, 75, 84, 85, 86, 87, 88, 89, 90, 91, 92, 93, 94, 95, 96, 97, 98, 99, 100, 101, 102, 103, 104] (by decide +kernel) (by decide +kernel)
set_option maxRecDepth 20000 in
theorem gX6_fill_X3_moveTo : GoodIn wsX6_fill (wsV RX6 224 RX3 yX3_moveTo wsX3_moveTo) := goodIn_app (goodIn_of _ (by decide +kernel)) ggX6_fill_X3_moveTo
theorem dX6_fill_0 : decode cX6_fill 0 = .ok (.aload_n 0, 1) := by decide +kernel
theorem dX6_fill_1 : decode cX6_fill 1 = .ok (.getfield 56, 3) := by decide +kernel
theorem dX6_fill_4 : decode cX6_fill 4 = .ok (.aload_n 0, 1) := by decide +kernel
theorem dX6_fill_5 : decode cX6_fill 5 = .ok (.getfield 40, 3) := by decide +kernel
theorem dX6_fill_8 : decode cX6_fill 8 = .ok (.getfield 162, 3) := by decide +kernel
theorem dX6_fill_11 : decode cX6_fill 11 = .ok (.invokevirtual 220, 3) := by decide +kernel
theorem dX6_fill_14 : decode cX6_fill 14 = .ok (.iconst 0, 1) := by decide +kernel
theorem dX6_fill_15 : decode cX6_fill 15 = .ok (.istore_n 1, 1) := by decide +kernel
theorem dX6_fill_16 : decode cX6_fill 16 = .ok (.iconst 0, 1) := by decide +kernel
theorem dX6_fill_17 : decode cX6_fill 17 = .ok (.istore_n 2, 1) := by decide +kernel
theorem dX6_fill_18 : decode cX6_fill 18 = .ok (.iload_n 2, 1) := by decide +kernel
theorem dX6_fill_19 : decode cX6_fill 19 = .ok (.aload_n 0, 1) := by decide +kernel
theorem dX6_fill_20 : decode cX6_fill 20 = .ok (.getfield 23, 3) := by decide +kernel
theorem dX6_fill_23 : decode cX6_fill 23 = .ok (.getfield 102, 3) := by decide +kernel
theorem dX6_fill_26 : decode cX6_fill 26 = .ok (.if_icmp .ge 49, 3) := by decide +kernel
theorem dX6_fill_29 : decode cX6_fill 29 = .ok (.aload_n 0, 1) := by decide +kernel
theorem dX6_fill_30 : decode cX6_fill 30 = .ok (.getfield 40, 3) := by decide +kernel
theorem dX6_fill_33 : decode cX6_fill 33 = .ok (.getfield 162, 3) := by decide +kernel
theorem dX6_fill_36 : decode cX6_fill 36 = .ok (.iload_n 2, 1) := by decide +kernel
theorem dX6_fill_37 : decode cX6_fill 37 = .ok (.iaload, 1) := by decide +kernel
theorem dX6_fill_38 : decode cX6_fill 38 = .ok (.iconst (-1), 1) := by decide +kernel
theorem dX6_fill_39 : decode cX6_fill 39 = .ok (.if_icmp .ne 30, 3) := by decide +kernel
theorem dX6_fill_42 : decode cX6_fill 42 = .ok (.aload_n 0, 1) := by decide +kernel
theorem dX6_fill_43 : decode cX6_fill 43 = .ok (.getfield 40, 3) := by decide +kernel
theorem dX6_fill_46 : decode cX6_fill 46 = .ok (.iload_n 2, 1) := by decide +kernel
theorem dX6_fill_47 : decode cX6_fill 47 = .ok (.invokevirtual 196, 3) := by decide +kernel
theorem dX6_fill_50 : decode cX6_fill 50 = .ok (.istore_n 3, 1) := by decide +kernel
theorem dX6_fill_51 : decode cX6_fill 51 = .ok (.iload_n 3, 1) := by decide +kernel
theorem dX6_fill_52 : decode cX6_fill 52 = .ok (.bipush (-2), 2) := by decide +kernel
theorem dX6_fill_54 : decode cX6_fill 54 = .ok (.if_icmp .eq 15, 3) := by decide +kernel
theorem dX6_fill_57 : decode cX6_fill 57 = .ok (.aload_n 0, 1) := by decide +kernel
theorem dX6_fill_58 : decode cX6_fill 58 = .ok (.getfield 40, 3) := by decide +kernel
theorem dX6_fill_61 : decode cX6_fill 61 = .ok (.iload_n 2, 1) := by decide +kernel
theorem dX6_fill_62 : decode cX6_fill 62 = .ok (.iload_n 3, 1) := by decide +kernel
theorem dX6_fill_63 : decode cX6_fill 63 = .ok (.invokevirtual 224, 3) := by decide +kernel
theorem dX6_fill_66 : decode cX6_fill 66 = .ok (.iinc 1 1, 3) := by decide +kernel
theorem dX6_fill_69 : decode cX6_fill 69 = .ok (.iinc 2 1, 3) := by decide +kernel
theorem dX6_fill_72 : decode cX6_fill 72 = .ok (.goto (-54), 3) := by decide +kernel
theorem dX6_fill_75 : decode cX6_fill 75 = .ok (.iload_n 1, 1) := by decide +kernel
theorem dX6_fill_76 : decode cX6_fill 76 = .ok (.ireturn, 1) := by decide +kernel
set_option maxRecDepth 20000 in
theorem ggX6_settle_X3_findBestMove : GoodIn wsX6_settle wsX3_findBestMove := goodIn_r _ [8, 9, 10, 11, 12, 13, 14, 15, 7, 16, 17, 18, 19, 20, 21, 22, 23, 24, 25, 26, 27, 28, 29, 30, 31, 32, 33, 34, 35, 36, 37, 38, 39, 40, 41, 42, 43, 44, 45, 46, 47, 48, 49, 50, 87, 88, 89, 90, 91, 92, 93, 94, 95, 96, 97, 98, 99, 100, 101, 102, 103, 104, 105, 106, 107] (by decide +kernel) (by decide +kernel)
set_option maxRecDepth 20000 in
theorem gX6_settle_X3_findBestMove : GoodIn wsX6_settle (wsV RX6 199 RX3 yX3_findBestMove wsX3_findBestMove) := goodIn_app (goodIn_of _ (by decide +kernel)) ggX6_settle_X3_findBestMove
set_option maxRecDepth 20000 in
theorem ggX6_settle_X0_keep : GoodIn wsX6_settle wsX0_keep := goodIn_r _ [55, 56, 57, 58, 59, 60, 61, 62, 63, 64, 65, 66, 108, 109, 110] (by decide +kernel) (by decide +kernel)
set_option maxRecDepth 20000 in
theorem gX6_settle_X0_keep : GoodIn wsX6_settle (wsV RX6 220 RX0 yX0_keep wsX0_keep) := goodIn_app (goodIn_of _ (by decide +kernel)) ggX6_settle_X0_keep
set_option maxRecDepth 20000 in
theorem ggX6_settle_X3_moveTo : GoodIn wsX6_settle wsX3_moveTo := goodIn_r _ [70, 12, 71, 72, 73, 7, 74, 9, 10, 26, 36, 47, 48, 49, 50, 35, 37, 38, 39, 40, 41, 42, 43, 44, 45, 46, 75, 76, 77, 78, 87, 88, 89, 90, 91, 92, 93, 94, 95, 96, 97, 98, 99, 100, 101, 102, 103, 104, 105, 106, 107] (by decide +kernel) (by decide +kernel)
set_option maxRecDepth 20000 in
theorem gX6_settle_X3_moveTo : GoodIn wsX6_settle (wsV RX6 224 RX3 yX3_moveTo wsX3_moveTo) := goodIn_app (goodIn_of _ (by decide +kernel)) ggX6_settle_X3_moveTo
theorem dX6_settle_0 : decode cX6_settle 0 = .ok (.aload_n 0, 1) := by decide +kernel
theorem dX6_settle_1 : decode cX6_settle 1 = .ok (.getfield 40, 3) := by decide +kernel
theorem dX6_settle_4 : decode cX6_settle 4 = .ok (.invokevirtual 199, 3) := by decide +kernel
theorem dX6_settle_7 : decode cX6_settle 7 = .ok (.istore_n 1, 1) := by decide +kernel
theorem dX6_settle_8 : decode cX6_settle 8 = .ok (.iload_n 1, 1) := by decide +kernel
theorem dX6_settle_9 : decode cX6_settle 9 = .ok (.bipush (-2), 2) := by decide +kernel
theorem dX6_settle_11 : decode cX6_settle 11 = .ok (.if_icmp .ne 5, 3) := by decide +kernel
theorem dX6_settle_14 : decode cX6_settle 14 = .ok (.iconst (-1), 1) := by decide +kernel
theorem dX6_settle_15 : decode cX6_settle 15 = .ok (.ireturn, 1) := by decide +kernel
theorem dX6_settle_16 : decode cX6_settle 16 = .ok (.aload_n 0, 1) := by decide +kernel
theorem dX6_settle_17 : decode cX6_settle 17 = .ok (.getfield 56, 3) := by decide +kernel
theorem dX6_settle_20 : decode cX6_settle 20 = .ok (.aload_n 0, 1) := by decide +kernel
theorem dX6_settle_21 : decode cX6_settle 21 = .ok (.getfield 40, 3) := by decide +kernel
theorem dX6_settle_24 : decode cX6_settle 24 = .ok (.getfield 162, 3) := by decide +kernel
theorem dX6_settle_27 : decode cX6_settle 27 = .ok (.invokevirtual 220, 3) := by decide +kernel
theorem dX6_settle_30 : decode cX6_settle 30 = .ok (.iconst 0, 1) := by decide +kernel
theorem dX6_settle_31 : decode cX6_settle 31 = .ok (.istore_n 2, 1) := by decide +kernel
theorem dX6_settle_32 : decode cX6_settle 32 = .ok (.iload_n 2, 1) := by decide +kernel
theorem dX6_settle_33 : decode cX6_settle 33 = .ok (.bipush 40, 2) := by decide +kernel
theorem dX6_settle_35 : decode cX6_settle 35 = .ok (.if_icmp .ge 38, 3) := by decide +kernel
theorem dX6_settle_38 : decode cX6_settle 38 = .ok (.iload_n 1, 1) := by decide +kernel
theorem dX6_settle_39 : decode cX6_settle 39 = .ok (.bipush (-2), 2) := by decide +kernel
theorem dX6_settle_41 : decode cX6_settle 41 = .ok (.if_icmp .eq 32, 3) := by decide +kernel
theorem dX6_settle_44 : decode cX6_settle 44 = .ok (.aload_n 0, 1) := by decide +kernel
theorem dX6_settle_45 : decode cX6_settle 45 = .ok (.getfield 40, 3) := by decide +kernel
theorem dX6_settle_48 : decode cX6_settle 48 = .ok (.iload_n 1, 1) := by decide +kernel
theorem dX6_settle_49 : decode cX6_settle 49 = .ok (.bipush 100, 2) := by decide +kernel
theorem dX6_settle_51 : decode cX6_settle 51 = .ok (.idiv, 1) := by decide +kernel
theorem dX6_settle_52 : decode cX6_settle 52 = .ok (.iload_n 1, 1) := by decide +kernel
theorem dX6_settle_53 : decode cX6_settle 53 = .ok (.bipush 100, 2) := by decide +kernel
theorem dX6_settle_55 : decode cX6_settle 55 = .ok (.irem, 1) := by decide +kernel
theorem dX6_settle_56 : decode cX6_settle 56 = .ok (.invokevirtual 224, 3) := by decide +kernel
theorem dX6_settle_59 : decode cX6_settle 59 = .ok (.iinc 2 1, 3) := by decide +kernel
theorem dX6_settle_62 : decode cX6_settle 62 = .ok (.aload_n 0, 1) := by decide +kernel
theorem dX6_settle_63 : decode cX6_settle 63 = .ok (.getfield 40, 3) := by decide +kernel
theorem dX6_settle_66 : decode cX6_settle 66 = .ok (.invokevirtual 199, 3) := by decide +kernel
theorem dX6_settle_69 : decode cX6_settle 69 = .ok (.istore_n 1, 1) := by decide +kernel
theorem dX6_settle_70 : decode cX6_settle 70 = .ok (.goto (-38), 3) := by decide +kernel
theorem dX6_settle_73 : decode cX6_settle 73 = .ok (.iload_n 2, 1) := by decide +kernel
theorem dX6_settle_74 : decode cX6_settle 74 = .ok (.ireturn, 1) := by decide +kernel
set_option maxRecDepth 20000 in
theorem ggX6_undo_X0_bringBack : GoodIn wsX6_undo wsX0_bringBack := goodIn_r _ [9, 10, 11, 12, 13, 14, 15, 16, 61, 62, 63] (by decide +kernel) (by decide +kernel)
set_option maxRecDepth 20000 in
theorem gX6_undo_X0_bringBack : GoodIn wsX6_undo (wsV RX6 231 RX0 yX0_bringBack wsX0_bringBack) := goodIn_app (goodIn_of _ (by decide +kernel)) ggX6_undo_X0_bringBack
set_option maxRecDepth 20000 in
theorem ggX6_undo_X3_recount : GoodIn wsX6_undo wsX3_recount := goodIn_r _ [21, 22, 23, 24, 25, 14, 15, 16, 26, 27, 28, 29, 30, 31, 20, 32, 33, 34, 35, 36, 37, 38, 39, 40, 41, 42, 43, 44, 45, 46, 47, 48, 49, 50, 51, 52, 64, 65, 66, 67, 68, 69, 70, 71, 72, 73, 74, 75, 76, 77, 78, 79, 80, 81, 82, 83, 84] (by decide +kernel) (by decide +kernel)
set_option maxRecDepth 20000 in
theorem gX6_undo_X3_recount : GoodIn wsX6_undo (wsV RX6 234 RX3 yX3_recount wsX3_recount) := goodIn_app (goodIn_of _ (by decide +kernel)) ggX6_undo_X3_recount
theorem dX6_undo_0 : decode cX6_undo 0 = .ok (.aload_n 0, 1) := by decide +kernel
theorem dX6_undo_1 : decode cX6_undo 1 = .ok (.getfield 56, 3) := by decide +kernel
theorem dX6_undo_4 : decode cX6_undo 4 = .ok (.getfield 114, 3) := by decide +kernel
theorem dX6_undo_7 : decode cX6_undo 7 = .ok (.ifCond .ne 5, 3) := by decide +kernel
theorem dX6_undo_10 : decode cX6_undo 10 = .ok (.iconst (-1), 1) := by decide +kernel
theorem dX6_undo_11 : decode cX6_undo 11 = .ok (.ireturn, 1) := by decide +kernel
theorem dX6_undo_12 : decode cX6_undo 12 = .ok (.aload_n 0, 1) := by decide +kernel
theorem dX6_undo_13 : decode cX6_undo 13 = .ok (.getfield 56, 3) := by decide +kernel
theorem dX6_undo_16 : decode cX6_undo 16 = .ok (.aload_n 0, 1) := by decide +kernel
theorem dX6_undo_17 : decode cX6_undo 17 = .ok (.getfield 40, 3) := by decide +kernel
theorem dX6_undo_20 : decode cX6_undo 20 = .ok (.getfield 162, 3) := by decide +kernel
theorem dX6_undo_23 : decode cX6_undo 23 = .ok (.invokevirtual 231, 3) := by decide +kernel
theorem dX6_undo_26 : decode cX6_undo 26 = .ok (.aload_n 0, 1) := by decide +kernel
theorem dX6_undo_27 : decode cX6_undo 27 = .ok (.getfield 40, 3) := by decide +kernel
theorem dX6_undo_30 : decode cX6_undo 30 = .ok (.invokevirtual 234, 3) := by decide +kernel
theorem dX6_undo_33 : decode cX6_undo 33 = .ok (.aload_n 0, 1) := by decide +kernel
theorem dX6_undo_34 : decode cX6_undo 34 = .ok (.getfield 56, 3) := by decide +kernel
theorem dX6_undo_37 : decode cX6_undo 37 = .ok (.getfield 114, 3) := by decide +kernel
theorem dX6_undo_40 : decode cX6_undo 40 = .ok (.ireturn, 1) := by decide +kernel
theorem dX6_isSlot_0 : decode cX6_isSlot 0 = .ok (.iload_n 0, 1) := by decide +kernel
theorem dX6_isSlot_1 : decode cX6_isSlot 1 = .ok (.ifCond .lt 13, 3) := by decide +kernel
theorem dX6_isSlot_4 : decode cX6_isSlot 4 = .ok (.iload_n 0, 1) := by decide +kernel
theorem dX6_isSlot_5 : decode cX6_isSlot 5 = .ok (.bipush 48, 2) := by decide +kernel
theorem dX6_isSlot_7 : decode cX6_isSlot 7 = .ok (.if_icmp .ge 7, 3) := by decide +kernel
theorem dX6_isSlot_10 : decode cX6_isSlot 10 = .ok (.iconst 1, 1) := by decide +kernel
theorem dX6_isSlot_11 : decode cX6_isSlot 11 = .ok (.goto 4, 3) := by decide +kernel
theorem dX6_isSlot_14 : decode cX6_isSlot 14 = .ok (.iconst 0, 1) := by decide +kernel
theorem dX6_isSlot_15 : decode cX6_isSlot 15 = .ok (.ireturn, 1) := by decide +kernel
theorem dX6_cellOf_0 : decode cX6_cellOf 0 = .ok (.iload_n 0, 1) := by decide +kernel
theorem dX6_cellOf_1 : decode cX6_cellOf 1 = .ok (.bipush 48, 2) := by decide +kernel
theorem dX6_cellOf_3 : decode cX6_cellOf 3 = .ok (.imul, 1) := by decide +kernel
theorem dX6_cellOf_4 : decode cX6_cellOf 4 = .ok (.iload_n 1, 1) := by decide +kernel
theorem dX6_cellOf_5 : decode cX6_cellOf 5 = .ok (.iadd, 1) := by decide +kernel
theorem dX6_cellOf_6 : decode cX6_cellOf 6 = .ok (.ireturn, 1) := by decide +kernel
theorem dX7_thrown_0 : decode cX7_thrown 0 = .ok (.aload_n 0, 1) := by decide +kernel
theorem dX7_thrown_1 : decode cX7_thrown 1 = .ok (.getfield 1, 3) := by decide +kernel
theorem dX7_thrown_4 : decode cX7_thrown 4 = .ok (.ireturn, 1) := by decide +kernel
theorem dX7_refuse_0 : decode cX7_refuse 0 = .ok (.aload_n 0, 1) := by decide +kernel
theorem dX7_refuse_1 : decode cX7_refuse 1 = .ok (.iconst 1, 1) := by decide +kernel
theorem dX7_refuse_2 : decode cX7_refuse 2 = .ok (.putfield 1, 3) := by decide +kernel
theorem dX7_refuse_5 : decode cX7_refuse 5 = .ok (.iconst 0, 1) := by decide +kernel
theorem dX7_refuse_6 : decode cX7_refuse 6 = .ok (.ireturn, 1) := by decide +kernel
theorem dX7_isIn_0 : decode cX7_isIn 0 = .ok (.iload_n 0, 1) := by decide +kernel
theorem dX7_isIn_1 : decode cX7_isIn 1 = .ok (.iload_n 1, 1) := by decide +kernel
theorem dX7_isIn_2 : decode cX7_isIn 2 = .ok (.if_icmp .lt 12, 3) := by decide +kernel
theorem dX7_isIn_5 : decode cX7_isIn 5 = .ok (.iload_n 0, 1) := by decide +kernel
theorem dX7_isIn_6 : decode cX7_isIn 6 = .ok (.iload_n 2, 1) := by decide +kernel
theorem dX7_isIn_7 : decode cX7_isIn 7 = .ok (.if_icmp .gt 7, 3) := by decide +kernel
theorem dX7_isIn_10 : decode cX7_isIn 10 = .ok (.iconst 1, 1) := by decide +kernel
theorem dX7_isIn_11 : decode cX7_isIn 11 = .ok (.goto 4, 3) := by decide +kernel
theorem dX7_isIn_14 : decode cX7_isIn 14 = .ok (.iconst 0, 1) := by decide +kernel
theorem dX7_isIn_15 : decode cX7_isIn 15 = .ok (.ireturn, 1) := by decide +kernel
theorem dX7_lays_0 : decode cX7_lays 0 = .ok (.bipush 24, 2) := by decide +kernel
theorem dX7_lays_2 : decode cX7_lays 2 = .ok (.istore_n 2, 1) := by decide +kernel
theorem dX7_lays_3 : decode cX7_lays 3 = .ok (.iload_n 2, 1) := by decide +kernel
theorem dX7_lays_4 : decode cX7_lays 4 = .ok (.ifCond .lt 35, 3) := by decide +kernel
theorem dX7_lays_7 : decode cX7_lays 7 = .ok (.aload_n 0, 1) := by decide +kernel
theorem dX7_lays_8 : decode cX7_lays 8 = .ok (.getfield 7, 3) := by decide +kernel
theorem dX7_lays_11 : decode cX7_lays 11 = .ok (.aload_n 0, 1) := by decide +kernel
theorem dX7_lays_12 : decode cX7_lays 12 = .ok (.getfield 11, 3) := by decide +kernel
theorem dX7_lays_15 : decode cX7_lays 15 = .ok (.iload_n 1, 1) := by decide +kernel
theorem dX7_lays_16 : decode cX7_lays 16 = .ok (.iload_n 2, 1) := by decide +kernel
theorem dX7_lays_17 : decode cX7_lays 17 = .ok (.iushr, 1) := by decide +kernel
theorem dX7_lays_18 : decode cX7_lays 18 = .ok (.sipush 255, 3) := by decide +kernel
theorem dX7_lays_21 : decode cX7_lays 21 = .ok (.iand, 1) := by decide +kernel
theorem dX7_lays_22 : decode cX7_lays 22 = .ok (.iastore, 1) := by decide +kernel
theorem dX7_lays_23 : decode cX7_lays 23 = .ok (.aload_n 0, 1) := by decide +kernel
theorem dX7_lays_24 : decode cX7_lays 24 = .ok (.dup, 1) := by decide +kernel
theorem dX7_lays_25 : decode cX7_lays 25 = .ok (.getfield 11, 3) := by decide +kernel
theorem dX7_lays_28 : decode cX7_lays 28 = .ok (.iconst 1, 1) := by decide +kernel
theorem dX7_lays_29 : decode cX7_lays 29 = .ok (.iadd, 1) := by decide +kernel
theorem dX7_lays_30 : decode cX7_lays 30 = .ok (.putfield 11, 3) := by decide +kernel
theorem dX7_lays_33 : decode cX7_lays 33 = .ok (.iinc 2 (-8), 3) := by decide +kernel
theorem dX7_lays_36 : decode cX7_lays 36 = .ok (.goto (-33), 3) := by decide +kernel
theorem dX7_lays_39 : decode cX7_lays 39 = .ok (.return_, 1) := by decide +kernel
set_option maxRecDepth 20000 in
theorem ggX7_feed_X7_lays : GoodIn wsX7_feed wsX7_lays := goodIn_r _ [7, 8, 2, 9, 10, 11, 12, 13, 14, 15, 16, 17, 18, 19, 20, 21, 22, 23, 24, 25, 26, 27, 28, 29, 30, 31] (by decide +kernel) (by decide +kernel)
set_option maxRecDepth 20000 in
theorem gX7_feed_X7_lays : GoodIn wsX7_feed (wsV RX7 14 RX7 yX7_lays wsX7_lays) := goodIn_app (goodIn_of _ (by decide +kernel)) ggX7_feed_X7_lays
theorem dX7_feed_0 : decode cX7_feed 0 = .ok (.aload_n 0, 1) := by decide +kernel
theorem dX7_feed_1 : decode cX7_feed 1 = .ok (.iconst 0, 1) := by decide +kernel
theorem dX7_feed_2 : decode cX7_feed 2 = .ok (.putfield 1, 3) := by decide +kernel
theorem dX7_feed_5 : decode cX7_feed 5 = .ok (.aload_n 0, 1) := by decide +kernel
theorem dX7_feed_6 : decode cX7_feed 6 = .ok (.getfield 11, 3) := by decide +kernel
theorem dX7_feed_9 : decode cX7_feed 9 = .ok (.bipush 20, 2) := by decide +kernel
theorem dX7_feed_11 : decode cX7_feed 11 = .ok (.iadd, 1) := by decide +kernel
theorem dX7_feed_12 : decode cX7_feed 12 = .ok (.sipush 640, 3) := by decide +kernel
theorem dX7_feed_15 : decode cX7_feed 15 = .ok (.if_icmp .le 5, 3) := by decide +kernel
theorem dX7_feed_18 : decode cX7_feed 18 = .ok (.iconst (-1), 1) := by decide +kernel
theorem dX7_feed_19 : decode cX7_feed 19 = .ok (.ireturn, 1) := by decide +kernel
theorem dX7_feed_20 : decode cX7_feed 20 = .ok (.aload_n 0, 1) := by decide +kernel
theorem dX7_feed_21 : decode cX7_feed 21 = .ok (.iload_n 1, 1) := by decide +kernel
theorem dX7_feed_22 : decode cX7_feed 22 = .ok (.invokevirtual 14, 3) := by decide +kernel
theorem dX7_feed_25 : decode cX7_feed 25 = .ok (.aload_n 0, 1) := by decide +kernel
theorem dX7_feed_26 : decode cX7_feed 26 = .ok (.iload_n 2, 1) := by decide +kernel
theorem dX7_feed_27 : decode cX7_feed 27 = .ok (.invokevirtual 14, 3) := by decide +kernel
theorem dX7_feed_30 : decode cX7_feed 30 = .ok (.aload_n 0, 1) := by decide +kernel
theorem dX7_feed_31 : decode cX7_feed 31 = .ok (.iload_n 3, 1) := by decide +kernel
theorem dX7_feed_32 : decode cX7_feed 32 = .ok (.invokevirtual 14, 3) := by decide +kernel
theorem dX7_feed_35 : decode cX7_feed 35 = .ok (.aload_n 0, 1) := by decide +kernel
theorem dX7_feed_36 : decode cX7_feed 36 = .ok (.iload 4, 2) := by decide +kernel
theorem dX7_feed_38 : decode cX7_feed 38 = .ok (.invokevirtual 14, 3) := by decide +kernel
theorem dX7_feed_41 : decode cX7_feed 41 = .ok (.aload_n 0, 1) := by decide +kernel
theorem dX7_feed_42 : decode cX7_feed 42 = .ok (.iload 5, 2) := by decide +kernel
theorem dX7_feed_44 : decode cX7_feed 44 = .ok (.invokevirtual 14, 3) := by decide +kernel
theorem dX7_feed_47 : decode cX7_feed 47 = .ok (.aload_n 0, 1) := by decide +kernel
theorem dX7_feed_48 : decode cX7_feed 48 = .ok (.getfield 11, 3) := by decide +kernel
theorem dX7_feed_51 : decode cX7_feed 51 = .ok (.ireturn, 1) := by decide +kernel
theorem dX7_end_0 : decode cX7_end 0 = .ok (.aload_n 0, 1) := by decide +kernel
theorem dX7_end_1 : decode cX7_end 1 = .ok (.iconst 0, 1) := by decide +kernel
theorem dX7_end_2 : decode cX7_end 2 = .ok (.putfield 1, 3) := by decide +kernel
theorem dX7_end_5 : decode cX7_end 5 = .ok (.iload_n 1, 1) := by decide +kernel
theorem dX7_end_6 : decode cX7_end 6 = .ok (.ifCond .lt 11, 3) := by decide +kernel
theorem dX7_end_9 : decode cX7_end 9 = .ok (.iload_n 1, 1) := by decide +kernel
theorem dX7_end_10 : decode cX7_end 10 = .ok (.aload_n 0, 1) := by decide +kernel
theorem dX7_end_11 : decode cX7_end 11 = .ok (.getfield 11, 3) := by decide +kernel
theorem dX7_end_14 : decode cX7_end 14 = .ok (.if_icmp .le 5, 3) := by decide +kernel
theorem dX7_end_17 : decode cX7_end 17 = .ok (.iconst 0, 1) := by decide +kernel
theorem dX7_end_18 : decode cX7_end 18 = .ok (.ireturn, 1) := by decide +kernel
theorem dX7_end_19 : decode cX7_end 19 = .ok (.aload_n 0, 1) := by decide +kernel
theorem dX7_end_20 : decode cX7_end 20 = .ok (.iload_n 1, 1) := by decide +kernel
theorem dX7_end_21 : decode cX7_end 21 = .ok (.putfield 11, 3) := by decide +kernel
theorem dX7_end_24 : decode cX7_end 24 = .ok (.iconst 1, 1) := by decide +kernel
theorem dX7_end_25 : decode cX7_end 25 = .ok (.ireturn, 1) := by decide +kernel
theorem dX7_tapeAt_0 : decode cX7_tapeAt 0 = .ok (.iload_n 1, 1) := by decide +kernel
theorem dX7_tapeAt_1 : decode cX7_tapeAt 1 = .ok (.aload_n 0, 1) := by decide +kernel
theorem dX7_tapeAt_2 : decode cX7_tapeAt 2 = .ok (.getfield 18, 3) := by decide +kernel
theorem dX7_tapeAt_5 : decode cX7_tapeAt 5 = .ok (.if_icmp .ge 12, 3) := by decide +kernel
theorem dX7_tapeAt_8 : decode cX7_tapeAt 8 = .ok (.aload_n 0, 1) := by decide +kernel
theorem dX7_tapeAt_9 : decode cX7_tapeAt 9 = .ok (.getfield 7, 3) := by decide +kernel
theorem dX7_tapeAt_12 : decode cX7_tapeAt 12 = .ok (.iload_n 1, 1) := by decide +kernel
theorem dX7_tapeAt_13 : decode cX7_tapeAt 13 = .ok (.iaload, 1) := by decide +kernel
theorem dX7_tapeAt_14 : decode cX7_tapeAt 14 = .ok (.goto 4, 3) := by decide +kernel
theorem dX7_tapeAt_17 : decode cX7_tapeAt 17 = .ok (.iconst 0, 1) := by decide +kernel
theorem dX7_tapeAt_18 : decode cX7_tapeAt 18 = .ok (.ireturn, 1) := by decide +kernel
theorem dX7_isDigit_0 : decode cX7_isDigit 0 = .ok (.iload_n 0, 1) := by decide +kernel
theorem dX7_isDigit_1 : decode cX7_isDigit 1 = .ok (.bipush 48, 2) := by decide +kernel
theorem dX7_isDigit_3 : decode cX7_isDigit 3 = .ok (.if_icmp .lt 13, 3) := by decide +kernel
theorem dX7_isDigit_6 : decode cX7_isDigit 6 = .ok (.iload_n 0, 1) := by decide +kernel
theorem dX7_isDigit_7 : decode cX7_isDigit 7 = .ok (.bipush 57, 2) := by decide +kernel
theorem dX7_isDigit_9 : decode cX7_isDigit 9 = .ok (.if_icmp .gt 7, 3) := by decide +kernel
theorem dX7_isDigit_12 : decode cX7_isDigit 12 = .ok (.iconst 1, 1) := by decide +kernel
theorem dX7_isDigit_13 : decode cX7_isDigit 13 = .ok (.goto 4, 3) := by decide +kernel
theorem dX7_isDigit_16 : decode cX7_isDigit 16 = .ok (.iconst 0, 1) := by decide +kernel
theorem dX7_isDigit_17 : decode cX7_isDigit 17 = .ok (.ireturn, 1) := by decide +kernel
theorem dX7_isLetter_0 : decode cX7_isLetter 0 = .ok (.iload_n 0, 1) := by decide +kernel
theorem dX7_isLetter_1 : decode cX7_isLetter 1 = .ok (.bipush 97, 2) := by decide +kernel
theorem dX7_isLetter_3 : decode cX7_isLetter 3 = .ok (.if_icmp .lt 13, 3) := by decide +kernel
theorem dX7_isLetter_6 : decode cX7_isLetter 6 = .ok (.iload_n 0, 1) := by decide +kernel
theorem dX7_isLetter_7 : decode cX7_isLetter 7 = .ok (.bipush 122, 2) := by decide +kernel
theorem dX7_isLetter_9 : decode cX7_isLetter 9 = .ok (.if_icmp .gt 7, 3) := by decide +kernel
theorem dX7_isLetter_12 : decode cX7_isLetter 12 = .ok (.iconst 1, 1) := by decide +kernel
theorem dX7_isLetter_13 : decode cX7_isLetter 13 = .ok (.goto 4, 3) := by decide +kernel
theorem dX7_isLetter_16 : decode cX7_isLetter 16 = .ok (.iconst 0, 1) := by decide +kernel
theorem dX7_isLetter_17 : decode cX7_isLetter 17 = .ok (.ireturn, 1) := by decide +kernel
set_option maxRecDepth 20000 in
theorem ggX7_go_X7_isLetter : GoodIn wsX7_go wsX7_isLetter := goodIn_r _ [13] (by decide +kernel) (by decide +kernel)
set_option maxRecDepth 20000 in
theorem gX7_go_X7_isLetter : GoodIn wsX7_go (va_wsS RX7 30 yX7_isLetter wsX7_isLetter) := goodIn_app (goodIn_of _ (by decide +kernel)) ggX7_go_X7_isLetter
set_option maxRecDepth 20000 in
theorem ggX7_go_X7_isDigit : GoodIn wsX7_go wsX7_isDigit := goodIn_r _ [16] (by decide +kernel) (by decide +kernel)
set_option maxRecDepth 20000 in
theorem gX7_go_X7_isDigit : GoodIn wsX7_go (va_wsS RX7 34 yX7_isDigit wsX7_isDigit) := goodIn_app (goodIn_of _ (by decide +kernel)) ggX7_go_X7_isDigit
set_option maxRecDepth 20000 in
theorem ggX7_go_X7_tapeAt : GoodIn wsX7_go wsX7_tapeAt := goodIn_r _ [20, 2, 3, 21, 22, 23, 24, 25, 26, 27, 28, 29, 30, 31, 32, 33, 34, 35, 36, 37, 38, 39, 40, 41, 42, 43] (by decide +kernel) (by decide +kernel)
set_option maxRecDepth 20000 in
theorem gX7_go_X7_tapeAt : GoodIn wsX7_go (wsV RX7 44 RX7 yX7_tapeAt wsX7_tapeAt) := goodIn_app (goodIn_of _ (by decide +kernel)) ggX7_go_X7_tapeAt
theorem dX7_go_0 : decode cX7_go 0 = .ok (.aload_n 0, 1) := by decide +kernel
theorem dX7_go_1 : decode cX7_go 1 = .ok (.getfield 21, 3) := by decide +kernel
theorem dX7_go_4 : decode cX7_go 4 = .ok (.aload_n 0, 1) := by decide +kernel
theorem dX7_go_5 : decode cX7_go 5 = .ok (.getfield 18, 3) := by decide +kernel
theorem dX7_go_8 : decode cX7_go 8 = .ok (.if_icmp .ge 44, 3) := by decide +kernel
theorem dX7_go_11 : decode cX7_go 11 = .ok (.aload_n 0, 1) := by decide +kernel
theorem dX7_go_12 : decode cX7_go 12 = .ok (.getfield 7, 3) := by decide +kernel
theorem dX7_go_15 : decode cX7_go 15 = .ok (.aload_n 0, 1) := by decide +kernel
theorem dX7_go_16 : decode cX7_go 16 = .ok (.getfield 21, 3) := by decide +kernel
theorem dX7_go_19 : decode cX7_go 19 = .ok (.iaload, 1) := by decide +kernel
theorem dX7_go_20 : decode cX7_go 20 = .ok (.bipush 32, 2) := by decide +kernel
theorem dX7_go_22 : decode cX7_go 22 = .ok (.if_icmp .eq 17, 3) := by decide +kernel
theorem dX7_go_25 : decode cX7_go 25 = .ok (.aload_n 0, 1) := by decide +kernel
theorem dX7_go_26 : decode cX7_go 26 = .ok (.getfield 7, 3) := by decide +kernel
theorem dX7_go_29 : decode cX7_go 29 = .ok (.aload_n 0, 1) := by decide +kernel
theorem dX7_go_30 : decode cX7_go 30 = .ok (.getfield 21, 3) := by decide +kernel
theorem dX7_go_33 : decode cX7_go 33 = .ok (.iaload, 1) := by decide +kernel
theorem dX7_go_34 : decode cX7_go 34 = .ok (.bipush 10, 2) := by decide +kernel
theorem dX7_go_36 : decode cX7_go 36 = .ok (.if_icmp .ne 16, 3) := by decide +kernel
theorem dX7_go_39 : decode cX7_go 39 = .ok (.aload_n 0, 1) := by decide +kernel
theorem dX7_go_40 : decode cX7_go 40 = .ok (.dup, 1) := by decide +kernel
theorem dX7_go_41 : decode cX7_go 41 = .ok (.getfield 21, 3) := by decide +kernel
theorem dX7_go_44 : decode cX7_go 44 = .ok (.iconst 1, 1) := by decide +kernel
theorem dX7_go_45 : decode cX7_go 45 = .ok (.iadd, 1) := by decide +kernel
theorem dX7_go_46 : decode cX7_go 46 = .ok (.putfield 21, 3) := by decide +kernel
theorem dX7_go_49 : decode cX7_go 49 = .ok (.goto (-49), 3) := by decide +kernel
theorem dX7_go_52 : decode cX7_go 52 = .ok (.aload_n 0, 1) := by decide +kernel
theorem dX7_go_53 : decode cX7_go 53 = .ok (.aload_n 0, 1) := by decide +kernel
theorem dX7_go_54 : decode cX7_go 54 = .ok (.getfield 21, 3) := by decide +kernel
theorem dX7_go_57 : decode cX7_go 57 = .ok (.putfield 24, 3) := by decide +kernel
theorem dX7_go_60 : decode cX7_go 60 = .ok (.aload_n 0, 1) := by decide +kernel
theorem dX7_go_61 : decode cX7_go 61 = .ok (.getfield 18, 3) := by decide +kernel
theorem dX7_go_64 : decode cX7_go 64 = .ok (.sipush 600, 3) := by decide +kernel
theorem dX7_go_67 : decode cX7_go 67 = .ok (.if_icmp .le 26, 3) := by decide +kernel
theorem dX7_go_70 : decode cX7_go 70 = .ok (.aload_n 0, 1) := by decide +kernel
theorem dX7_go_71 : decode cX7_go 71 = .ok (.getfield 24, 3) := by decide +kernel
theorem dX7_go_74 : decode cX7_go 74 = .ok (.sipush 600, 3) := by decide +kernel
theorem dX7_go_77 : decode cX7_go 77 = .ok (.if_icmp .lt 16, 3) := by decide +kernel
theorem dX7_go_80 : decode cX7_go 80 = .ok (.aload_n 0, 1) := by decide +kernel
theorem dX7_go_81 : decode cX7_go 81 = .ok (.sipush 600, 3) := by decide +kernel
theorem dX7_go_84 : decode cX7_go 84 = .ok (.putfield 24, 3) := by decide +kernel
theorem dX7_go_87 : decode cX7_go 87 = .ok (.aload_n 0, 1) := by decide +kernel
theorem dX7_go_88 : decode cX7_go 88 = .ok (.iconst 1, 1) := by decide +kernel
theorem dX7_go_89 : decode cX7_go 89 = .ok (.putfield 27, 3) := by decide +kernel
theorem dX7_go_92 : decode cX7_go 92 = .ok (.return_, 1) := by decide +kernel
theorem dX7_go_93 : decode cX7_go 93 = .ok (.aload_n 0, 1) := by decide +kernel
theorem dX7_go_94 : decode cX7_go 94 = .ok (.getfield 21, 3) := by decide +kernel
theorem dX7_go_97 : decode cX7_go 97 = .ok (.aload_n 0, 1) := by decide +kernel
theorem dX7_go_98 : decode cX7_go 98 = .ok (.getfield 18, 3) := by decide +kernel
theorem dX7_go_101 : decode cX7_go 101 = .ok (.if_icmp .lt 9, 3) := by decide +kernel
theorem dX7_go_104 : decode cX7_go 104 = .ok (.aload_n 0, 1) := by decide +kernel
theorem dX7_go_105 : decode cX7_go 105 = .ok (.iconst 0, 1) := by decide +kernel
theorem dX7_go_106 : decode cX7_go 106 = .ok (.putfield 27, 3) := by decide +kernel
theorem dX7_go_109 : decode cX7_go 109 = .ok (.return_, 1) := by decide +kernel
theorem dX7_go_110 : decode cX7_go 110 = .ok (.aload_n 0, 1) := by decide +kernel
theorem dX7_go_111 : decode cX7_go 111 = .ok (.getfield 7, 3) := by decide +kernel
theorem dX7_go_114 : decode cX7_go 114 = .ok (.aload_n 0, 1) := by decide +kernel
theorem dX7_go_115 : decode cX7_go 115 = .ok (.getfield 21, 3) := by decide +kernel
theorem dX7_go_118 : decode cX7_go 118 = .ok (.iaload, 1) := by decide +kernel
theorem dX7_go_119 : decode cX7_go 119 = .ok (.istore_n 1, 1) := by decide +kernel
theorem dX7_go_120 : decode cX7_go 120 = .ok (.iload_n 1, 1) := by decide +kernel
theorem dX7_go_121 : decode cX7_go 121 = .ok (.invokestatic 30, 3) := by decide +kernel
theorem dX7_go_124 : decode cX7_go 124 = .ok (.ifCond .ne 36, 3) := by decide +kernel
theorem dX7_go_127 : decode cX7_go 127 = .ok (.iload_n 1, 1) := by decide +kernel
theorem dX7_go_128 : decode cX7_go 128 = .ok (.invokestatic 34, 3) := by decide +kernel
theorem dX7_go_131 : decode cX7_go 131 = .ok (.ifCond .ne 29, 3) := by decide +kernel
theorem dX7_go_134 : decode cX7_go 134 = .ok (.aload_n 0, 1) := by decide +kernel
theorem dX7_go_135 : decode cX7_go 135 = .ok (.iload_n 1, 1) := by decide +kernel
theorem dX7_go_136 : decode cX7_go 136 = .ok (.bipush 59, 2) := by decide +kernel
theorem dX7_go_138 : decode cX7_go 138 = .ok (.if_icmp .ne 7, 3) := by decide +kernel
theorem dX7_go_141 : decode cX7_go 141 = .ok (.iconst 4, 1) := by decide +kernel
theorem dX7_go_142 : decode cX7_go 142 = .ok (.goto 4, 3) := by decide +kernel
theorem dX7_go_145 : decode cX7_go 145 = .ok (.iconst 1, 1) := by decide +kernel
theorem dX7_go_146 : decode cX7_go 146 = .ok (.putfield 27, 3) := by decide +kernel
theorem dX7_go_149 : decode cX7_go 149 = .ok (.aload_n 0, 1) := by decide +kernel
theorem dX7_go_150 : decode cX7_go 150 = .ok (.dup, 1) := by decide +kernel
theorem dX7_go_151 : decode cX7_go 151 = .ok (.getfield 21, 3) := by decide +kernel
theorem dX7_go_154 : decode cX7_go 154 = .ok (.iconst 1, 1) := by decide +kernel
theorem dX7_go_155 : decode cX7_go 155 = .ok (.iadd, 1) := by decide +kernel
theorem dX7_go_156 : decode cX7_go 156 = .ok (.putfield 21, 3) := by decide +kernel
theorem dX7_go_159 : decode cX7_go 159 = .ok (.return_, 1) := by decide +kernel
theorem dX7_go_160 : decode cX7_go 160 = .ok (.iload_n 1, 1) := by decide +kernel
theorem dX7_go_161 : decode cX7_go 161 = .ok (.invokestatic 30, 3) := by decide +kernel
theorem dX7_go_164 : decode cX7_go 164 = .ok (.istore_n 2, 1) := by decide +kernel
theorem dX7_go_165 : decode cX7_go 165 = .ok (.iconst 1, 1) := by decide +kernel
theorem dX7_go_166 : decode cX7_go 166 = .ok (.istore_n 3, 1) := by decide +kernel
theorem dX7_go_167 : decode cX7_go 167 = .ok (.aload_n 0, 1) := by decide +kernel
theorem dX7_go_168 : decode cX7_go 168 = .ok (.lconst 0, 1) := by decide +kernel
theorem dX7_go_169 : decode cX7_go 169 = .ok (.putfield 37, 3) := by decide +kernel
theorem dX7_go_172 : decode cX7_go 172 = .ok (.aload_n 0, 1) := by decide +kernel
theorem dX7_go_173 : decode cX7_go 173 = .ok (.iconst 0, 1) := by decide +kernel
theorem dX7_go_174 : decode cX7_go 174 = .ok (.putfield 41, 3) := by decide +kernel
theorem dX7_go_177 : decode cX7_go 177 = .ok (.aload_n 0, 1) := by decide +kernel
theorem dX7_go_178 : decode cX7_go 178 = .ok (.aload_n 0, 1) := by decide +kernel
theorem dX7_go_179 : decode cX7_go 179 = .ok (.getfield 21, 3) := by decide +kernel
theorem dX7_go_182 : decode cX7_go 182 = .ok (.invokevirtual 44, 3) := by decide +kernel
theorem dX7_go_185 : decode cX7_go 185 = .ok (.invokestatic 30, 3) := by decide +kernel
theorem dX7_go_188 : decode cX7_go 188 = .ok (.ifCond .ne 17, 3) := by decide +kernel
theorem dX7_go_191 : decode cX7_go 191 = .ok (.aload_n 0, 1) := by decide +kernel
theorem dX7_go_192 : decode cX7_go 192 = .ok (.aload_n 0, 1) := by decide +kernel
theorem dX7_go_193 : decode cX7_go 193 = .ok (.getfield 21, 3) := by decide +kernel
theorem dX7_go_196 : decode cX7_go 196 = .ok (.invokevirtual 44, 3) := by decide +kernel
theorem dX7_go_199 : decode cX7_go 199 = .ok (.invokestatic 34, 3) := by decide +kernel
theorem dX7_go_202 : decode cX7_go 202 = .ok (.ifCond .eq 110, 3) := by decide +kernel
theorem dX7_go_205 : decode cX7_go 205 = .ok (.aload_n 0, 1) := by decide +kernel
theorem dX7_go_206 : decode cX7_go 206 = .ok (.getfield 7, 3) := by decide +kernel
theorem dX7_go_209 : decode cX7_go 209 = .ok (.aload_n 0, 1) := by decide +kernel
theorem dX7_go_210 : decode cX7_go 210 = .ok (.getfield 21, 3) := by decide +kernel
theorem dX7_go_213 : decode cX7_go 213 = .ok (.iaload, 1) := by decide +kernel
theorem dX7_go_214 : decode cX7_go 214 = .ok (.istore 4, 2) := by decide +kernel
theorem dX7_go_216 : decode cX7_go 216 = .ok (.iload_n 3, 1) := by decide +kernel
theorem dX7_go_217 : decode cX7_go 217 = .ok (.ifCond .eq 16, 3) := by decide +kernel
theorem dX7_go_220 : decode cX7_go 220 = .ok (.iload 4, 2) := by decide +kernel
theorem dX7_go_222 : decode cX7_go 222 = .ok (.invokestatic 30, 3) := by decide +kernel
theorem dX7_go_225 : decode cX7_go 225 = .ok (.iload_n 2, 1) := by decide +kernel
theorem dX7_go_226 : decode cX7_go 226 = .ok (.if_icmp .ne 7, 3) := by decide +kernel
theorem dX7_go_229 : decode cX7_go 229 = .ok (.iconst 1, 1) := by decide +kernel
theorem dX7_go_230 : decode cX7_go 230 = .ok (.goto 4, 3) := by decide +kernel
theorem dX7_go_233 : decode cX7_go 233 = .ok (.iconst 0, 1) := by decide +kernel
theorem dX7_go_234 : decode cX7_go 234 = .ok (.istore_n 3, 1) := by decide +kernel
theorem dX7_go_235 : decode cX7_go 235 = .ok (.aload_n 0, 1) := by decide +kernel
theorem dX7_go_236 : decode cX7_go 236 = .ok (.getfield 21, 3) := by decide +kernel
theorem dX7_go_239 : decode cX7_go 239 = .ok (.aload_n 0, 1) := by decide +kernel
theorem dX7_go_240 : decode cX7_go 240 = .ok (.getfield 24, 3) := by decide +kernel
theorem dX7_go_243 : decode cX7_go 243 = .ok (.isub, 1) := by decide +kernel
theorem dX7_go_244 : decode cX7_go 244 = .ok (.bipush 6, 2) := by decide +kernel
theorem dX7_go_246 : decode cX7_go 246 = .ok (.if_icmp .ge 23, 3) := by decide +kernel
theorem dX7_go_249 : decode cX7_go 249 = .ok (.aload_n 0, 1) := by decide +kernel
theorem dX7_go_250 : decode cX7_go 250 = .ok (.ldc2_w 48, 3) := by decide +kernel
theorem dX7_go_253 : decode cX7_go 253 = .ok (.aload_n 0, 1) := by decide +kernel
theorem dX7_go_254 : decode cX7_go 254 = .ok (.getfield 37, 3) := by decide +kernel
theorem dX7_go_257 : decode cX7_go 257 = .ok (.lmul, 1) := by decide +kernel
theorem dX7_go_258 : decode cX7_go 258 = .ok (.iload 4, 2) := by decide +kernel
theorem dX7_go_260 : decode cX7_go 260 = .ok (.i2l, 1) := by decide +kernel
theorem dX7_go_261 : decode cX7_go 261 = .ok (.ladd, 1) := by decide +kernel
theorem dX7_go_262 : decode cX7_go 262 = .ok (.ldc2_w 50, 3) := by decide +kernel
theorem dX7_go_265 : decode cX7_go 265 = .ok (.lsub, 1) := by decide +kernel
theorem dX7_go_266 : decode cX7_go 266 = .ok (.putfield 37, 3) := by decide +kernel
theorem dX7_go_269 : decode cX7_go 269 = .ok (.aload_n 0, 1) := by decide +kernel
theorem dX7_go_270 : decode cX7_go 270 = .ok (.getfield 21, 3) := by decide +kernel
theorem dX7_go_273 : decode cX7_go 273 = .ok (.aload_n 0, 1) := by decide +kernel
theorem dX7_go_274 : decode cX7_go 274 = .ok (.getfield 24, 3) := by decide +kernel
theorem dX7_go_277 : decode cX7_go 277 = .ok (.isub, 1) := by decide +kernel
theorem dX7_go_278 : decode cX7_go 278 = .ok (.iconst 2, 1) := by decide +kernel
theorem dX7_go_279 : decode cX7_go 279 = .ok (.if_icmp .ge 20, 3) := by decide +kernel
theorem dX7_go_282 : decode cX7_go 282 = .ok (.aload_n 0, 1) := by decide +kernel
theorem dX7_go_283 : decode cX7_go 283 = .ok (.bipush 10, 2) := by decide +kernel
theorem dX7_go_285 : decode cX7_go 285 = .ok (.aload_n 0, 1) := by decide +kernel
theorem dX7_go_286 : decode cX7_go 286 = .ok (.getfield 41, 3) := by decide +kernel
theorem dX7_go_289 : decode cX7_go 289 = .ok (.imul, 1) := by decide +kernel
theorem dX7_go_290 : decode cX7_go 290 = .ok (.iload 4, 2) := by decide +kernel
theorem dX7_go_292 : decode cX7_go 292 = .ok (.iadd, 1) := by decide +kernel
theorem dX7_go_293 : decode cX7_go 293 = .ok (.bipush 48, 2) := by decide +kernel
theorem dX7_go_295 : decode cX7_go 295 = .ok (.isub, 1) := by decide +kernel
theorem dX7_go_296 : decode cX7_go 296 = .ok (.putfield 41, 3) := by decide +kernel
theorem dX7_go_299 : decode cX7_go 299 = .ok (.aload_n 0, 1) := by decide +kernel
theorem dX7_go_300 : decode cX7_go 300 = .ok (.dup, 1) := by decide +kernel
theorem dX7_go_301 : decode cX7_go 301 = .ok (.getfield 21, 3) := by decide +kernel
theorem dX7_go_304 : decode cX7_go 304 = .ok (.iconst 1, 1) := by decide +kernel
theorem dX7_go_305 : decode cX7_go 305 = .ok (.iadd, 1) := by decide +kernel
theorem dX7_go_306 : decode cX7_go 306 = .ok (.putfield 21, 3) := by decide +kernel
theorem dX7_go_309 : decode cX7_go 309 = .ok (.goto (-132), 3) := by decide +kernel
theorem dX7_go_312 : decode cX7_go 312 = .ok (.aload_n 0, 1) := by decide +kernel
theorem dX7_go_313 : decode cX7_go 313 = .ok (.iload_n 3, 1) := by decide +kernel
theorem dX7_go_314 : decode cX7_go 314 = .ok (.ifCond .eq 20, 3) := by decide +kernel
theorem dX7_go_317 : decode cX7_go 317 = .ok (.iload_n 2, 1) := by decide +kernel
theorem dX7_go_318 : decode cX7_go 318 = .ok (.ifCond .ne 20, 3) := by decide +kernel
theorem dX7_go_321 : decode cX7_go 321 = .ok (.aload_n 0, 1) := by decide +kernel
theorem dX7_go_322 : decode cX7_go 322 = .ok (.getfield 21, 3) := by decide +kernel
theorem dX7_go_325 : decode cX7_go 325 = .ok (.aload_n 0, 1) := by decide +kernel
theorem dX7_go_326 : decode cX7_go 326 = .ok (.getfield 24, 3) := by decide +kernel
theorem dX7_go_329 : decode cX7_go 329 = .ok (.isub, 1) := by decide +kernel
theorem dX7_go_330 : decode cX7_go 330 = .ok (.iconst 2, 1) := by decide +kernel
theorem dX7_go_331 : decode cX7_go 331 = .ok (.if_icmp .le 7, 3) := by decide +kernel
theorem dX7_go_334 : decode cX7_go 334 = .ok (.iconst 1, 1) := by decide +kernel
theorem dX7_go_335 : decode cX7_go 335 = .ok (.goto 12, 3) := by decide +kernel
theorem dX7_go_338 : decode cX7_go 338 = .ok (.iload_n 2, 1) := by decide +kernel
theorem dX7_go_339 : decode cX7_go 339 = .ok (.ifCond .eq 7, 3) := by decide +kernel
theorem dX7_go_342 : decode cX7_go 342 = .ok (.iconst 2, 1) := by decide +kernel
theorem dX7_go_343 : decode cX7_go 343 = .ok (.goto 4, 3) := by decide +kernel
theorem dX7_go_346 : decode cX7_go 346 = .ok (.iconst 3, 1) := by decide +kernel
theorem dX7_go_347 : decode cX7_go 347 = .ok (.putfield 27, 3) := by decide +kernel
theorem dX7_go_350 : decode cX7_go 350 = .ok (.return_, 1) := by decide +kernel
theorem dX7_two_0 : decode cX7_two 0 = .ok (.ldc2_w 48, 3) := by decide +kernel
theorem dX7_two_3 : decode cX7_two 3 = .ok (.iload_n 0, 1) := by decide +kernel
theorem dX7_two_4 : decode cX7_two 4 = .ok (.i2l, 1) := by decide +kernel
theorem dX7_two_5 : decode cX7_two 5 = .ok (.ldc2_w 50, 3) := by decide +kernel
theorem dX7_two_8 : decode cX7_two 8 = .ok (.lsub, 1) := by decide +kernel
theorem dX7_two_9 : decode cX7_two 9 = .ok (.lmul, 1) := by decide +kernel
theorem dX7_two_10 : decode cX7_two 10 = .ok (.iload_n 1, 1) := by decide +kernel
theorem dX7_two_11 : decode cX7_two 11 = .ok (.i2l, 1) := by decide +kernel
theorem dX7_two_12 : decode cX7_two 12 = .ok (.ladd, 1) := by decide +kernel
theorem dX7_two_13 : decode cX7_two 13 = .ok (.ldc2_w 50, 3) := by decide +kernel
theorem dX7_two_16 : decode cX7_two 16 = .ok (.lsub, 1) := by decide +kernel
theorem dX7_two_17 : decode cX7_two 17 = .ok (.lreturn, 1) := by decide +kernel
set_option maxRecDepth 20000 in
theorem ggX7_four_X7_two : GoodIn wsX7_four wsX7_two := goodIn_r _ [5, 6, 7] (by decide +kernel) (by decide +kernel)
set_option maxRecDepth 20000 in
theorem gX7_four_X7_two : GoodIn wsX7_four (va_wsS RX7 54 yX7_two wsX7_two) := goodIn_app (goodIn_of _ (by decide +kernel)) ggX7_four_X7_two
theorem dX7_four_0 : decode cX7_four 0 = .ok (.ldc2_w 52, 3) := by decide +kernel
theorem dX7_four_3 : decode cX7_four 3 = .ok (.iload_n 0, 1) := by decide +kernel
theorem dX7_four_4 : decode cX7_four 4 = .ok (.iload_n 1, 1) := by decide +kernel
theorem dX7_four_5 : decode cX7_four 5 = .ok (.invokestatic 54, 3) := by decide +kernel
theorem dX7_four_8 : decode cX7_four 8 = .ok (.lmul, 1) := by decide +kernel
theorem dX7_four_9 : decode cX7_four 9 = .ok (.iload_n 2, 1) := by decide +kernel
theorem dX7_four_10 : decode cX7_four 10 = .ok (.iload_n 3, 1) := by decide +kernel
theorem dX7_four_11 : decode cX7_four 11 = .ok (.invokestatic 54, 3) := by decide +kernel
theorem dX7_four_14 : decode cX7_four 14 = .ok (.ladd, 1) := by decide +kernel
theorem dX7_four_15 : decode cX7_four 15 = .ok (.lreturn, 1) := by decide +kernel
