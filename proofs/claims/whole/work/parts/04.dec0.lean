theorem dX0_init_0 : decode cX0_init 0 = .ok (.aload_n 0, 1) := by decide +kernel
theorem dX0_init_1 : decode cX0_init 1 = .ok (.invokespecial 3, 3) := by decide +kernel
theorem dX0_init_4 : decode cX0_init 4 = .ok (.aload_n 0, 1) := by decide +kernel
theorem dX0_init_5 : decode cX0_init 5 = .ok (.sipush 240, 3) := by decide +kernel
theorem dX0_init_8 : decode cX0_init 8 = .ok (.newarray .int, 2) := by decide +kernel
theorem dX0_init_10 : decode cX0_init 10 = .ok (.putfield 9, 3) := by decide +kernel
theorem dX0_init_13 : decode cX0_init 13 = .ok (.return_, 1) := by decide +kernel
theorem dX0_clear_0 : decode cX0_clear 0 = .ok (.aload_n 0, 1) := by decide +kernel
theorem dX0_clear_1 : decode cX0_clear 1 = .ok (.iconst 0, 1) := by decide +kernel
theorem dX0_clear_2 : decode cX0_clear 2 = .ok (.putfield 15, 3) := by decide +kernel
theorem dX0_clear_5 : decode cX0_clear 5 = .ok (.return_, 1) := by decide +kernel
theorem dX0_keep_0 : decode cX0_keep 0 = .ok (.aload_n 1, 1) := by decide +kernel
theorem dX0_keep_1 : decode cX0_keep 1 = .ok (.iconst 0, 1) := by decide +kernel
theorem dX0_keep_2 : decode cX0_keep 2 = .ok (.aload_n 0, 1) := by decide +kernel
theorem dX0_keep_3 : decode cX0_keep 3 = .ok (.getfield 9, 3) := by decide +kernel
theorem dX0_keep_6 : decode cX0_keep 6 = .ok (.aload_n 0, 1) := by decide +kernel
theorem dX0_keep_7 : decode cX0_keep 7 = .ok (.getfield 19, 3) := by decide +kernel
theorem dX0_keep_10 : decode cX0_keep 10 = .ok (.bipush 24, 2) := by decide +kernel
theorem dX0_keep_12 : decode cX0_keep 12 = .ok (.imul, 1) := by decide +kernel
theorem dX0_keep_13 : decode cX0_keep 13 = .ok (.bipush 24, 2) := by decide +kernel
theorem dX0_keep_15 : decode cX0_keep 15 = .ok (.invokestatic 22, 3) := by decide +kernel
theorem dX0_keep_18 : decode cX0_keep 18 = .ok (.aload_n 0, 1) := by decide +kernel
theorem dX0_keep_19 : decode cX0_keep 19 = .ok (.aload_n 0, 1) := by decide +kernel
theorem dX0_keep_20 : decode cX0_keep 20 = .ok (.getfield 19, 3) := by decide +kernel
theorem dX0_keep_23 : decode cX0_keep 23 = .ok (.bipush 9, 2) := by decide +kernel
theorem dX0_keep_25 : decode cX0_keep 25 = .ok (.if_icmp .ne 7, 3) := by decide +kernel
theorem dX0_keep_28 : decode cX0_keep 28 = .ok (.iconst 0, 1) := by decide +kernel
theorem dX0_keep_29 : decode cX0_keep 29 = .ok (.goto 9, 3) := by decide +kernel
theorem dX0_keep_32 : decode cX0_keep 32 = .ok (.aload_n 0, 1) := by decide +kernel
theorem dX0_keep_33 : decode cX0_keep 33 = .ok (.getfield 19, 3) := by decide +kernel
theorem dX0_keep_36 : decode cX0_keep 36 = .ok (.iconst 1, 1) := by decide +kernel
theorem dX0_keep_37 : decode cX0_keep 37 = .ok (.iadd, 1) := by decide +kernel
theorem dX0_keep_38 : decode cX0_keep 38 = .ok (.putfield 19, 3) := by decide +kernel
theorem dX0_keep_41 : decode cX0_keep 41 = .ok (.aload_n 0, 1) := by decide +kernel
theorem dX0_keep_42 : decode cX0_keep 42 = .ok (.aload_n 0, 1) := by decide +kernel
theorem dX0_keep_43 : decode cX0_keep 43 = .ok (.getfield 15, 3) := by decide +kernel
theorem dX0_keep_46 : decode cX0_keep 46 = .ok (.iconst 1, 1) := by decide +kernel
theorem dX0_keep_47 : decode cX0_keep 47 = .ok (.iadd, 1) := by decide +kernel
theorem dX0_keep_48 : decode cX0_keep 48 = .ok (.bipush 10, 2) := by decide +kernel
theorem dX0_keep_50 : decode cX0_keep 50 = .ok (.invokestatic 28, 3) := by decide +kernel
theorem dX0_keep_53 : decode cX0_keep 53 = .ok (.putfield 15, 3) := by decide +kernel
theorem dX0_keep_56 : decode cX0_keep 56 = .ok (.return_, 1) := by decide +kernel
theorem dX0_bringBack_0 : decode cX0_bringBack 0 = .ok (.aload_n 0, 1) := by decide +kernel
theorem dX0_bringBack_1 : decode cX0_bringBack 1 = .ok (.aload_n 0, 1) := by decide +kernel
theorem dX0_bringBack_2 : decode cX0_bringBack 2 = .ok (.getfield 19, 3) := by decide +kernel
theorem dX0_bringBack_5 : decode cX0_bringBack 5 = .ok (.ifCond .ne 8, 3) := by decide +kernel
theorem dX0_bringBack_8 : decode cX0_bringBack 8 = .ok (.bipush 9, 2) := by decide +kernel
theorem dX0_bringBack_10 : decode cX0_bringBack 10 = .ok (.goto 9, 3) := by decide +kernel
theorem dX0_bringBack_13 : decode cX0_bringBack 13 = .ok (.aload_n 0, 1) := by decide +kernel
theorem dX0_bringBack_14 : decode cX0_bringBack 14 = .ok (.getfield 19, 3) := by decide +kernel
theorem dX0_bringBack_17 : decode cX0_bringBack 17 = .ok (.iconst 1, 1) := by decide +kernel
theorem dX0_bringBack_18 : decode cX0_bringBack 18 = .ok (.isub, 1) := by decide +kernel
theorem dX0_bringBack_19 : decode cX0_bringBack 19 = .ok (.putfield 19, 3) := by decide +kernel
theorem dX0_bringBack_22 : decode cX0_bringBack 22 = .ok (.aload_n 0, 1) := by decide +kernel
theorem dX0_bringBack_23 : decode cX0_bringBack 23 = .ok (.dup, 1) := by decide +kernel
theorem dX0_bringBack_24 : decode cX0_bringBack 24 = .ok (.getfield 15, 3) := by decide +kernel
theorem dX0_bringBack_27 : decode cX0_bringBack 27 = .ok (.iconst 1, 1) := by decide +kernel
theorem dX0_bringBack_28 : decode cX0_bringBack 28 = .ok (.isub, 1) := by decide +kernel
theorem dX0_bringBack_29 : decode cX0_bringBack 29 = .ok (.putfield 15, 3) := by decide +kernel
theorem dX0_bringBack_32 : decode cX0_bringBack 32 = .ok (.aload_n 0, 1) := by decide +kernel
theorem dX0_bringBack_33 : decode cX0_bringBack 33 = .ok (.getfield 9, 3) := by decide +kernel
theorem dX0_bringBack_36 : decode cX0_bringBack 36 = .ok (.aload_n 0, 1) := by decide +kernel
theorem dX0_bringBack_37 : decode cX0_bringBack 37 = .ok (.getfield 19, 3) := by decide +kernel
theorem dX0_bringBack_40 : decode cX0_bringBack 40 = .ok (.bipush 24, 2) := by decide +kernel
theorem dX0_bringBack_42 : decode cX0_bringBack 42 = .ok (.imul, 1) := by decide +kernel
theorem dX0_bringBack_43 : decode cX0_bringBack 43 = .ok (.aload_n 1, 1) := by decide +kernel
theorem dX0_bringBack_44 : decode cX0_bringBack 44 = .ok (.iconst 0, 1) := by decide +kernel
theorem dX0_bringBack_45 : decode cX0_bringBack 45 = .ok (.bipush 24, 2) := by decide +kernel
theorem dX0_bringBack_47 : decode cX0_bringBack 47 = .ok (.invokestatic 22, 3) := by decide +kernel
theorem dX0_bringBack_50 : decode cX0_bringBack 50 = .ok (.return_, 1) := by decide +kernel
theorem dX1_init_0 : decode cX1_init 0 = .ok (.aload_n 0, 1) := by decide +kernel
theorem dX1_init_1 : decode cX1_init 1 = .ok (.invokespecial 3, 3) := by decide +kernel
theorem dX1_init_4 : decode cX1_init 4 = .ok (.aload_n 0, 1) := by decide +kernel
theorem dX1_init_5 : decode cX1_init 5 = .ok (.iconst 1, 1) := by decide +kernel
theorem dX1_init_6 : decode cX1_init 6 = .ok (.putfield 9, 3) := by decide +kernel
theorem dX1_init_9 : decode cX1_init 9 = .ok (.aload_n 0, 1) := by decide +kernel
theorem dX1_init_10 : decode cX1_init 10 = .ok (.iconst 1, 1) := by decide +kernel
theorem dX1_init_11 : decode cX1_init 11 = .ok (.putfield 15, 3) := by decide +kernel
theorem dX1_init_14 : decode cX1_init 14 = .ok (.aload_n 0, 1) := by decide +kernel
theorem dX1_init_15 : decode cX1_init 15 = .ok (.sipush 144, 3) := by decide +kernel
theorem dX1_init_18 : decode cX1_init 18 = .ok (.newarray .int, 2) := by decide +kernel
theorem dX1_init_20 : decode cX1_init 20 = .ok (.putfield 18, 3) := by decide +kernel
theorem dX1_init_23 : decode cX1_init 23 = .ok (.aload_n 0, 1) := by decide +kernel
theorem dX1_init_24 : decode cX1_init 24 = .ok (.sipush 144, 3) := by decide +kernel
theorem dX1_init_27 : decode cX1_init 27 = .ok (.newarray .int, 2) := by decide +kernel
theorem dX1_init_29 : decode cX1_init 29 = .ok (.putfield 22, 3) := by decide +kernel
theorem dX1_init_32 : decode cX1_init 32 = .ok (.aload_n 0, 1) := by decide +kernel
theorem dX1_init_33 : decode cX1_init 33 = .ok (.bipush 8, 2) := by decide +kernel
theorem dX1_init_35 : decode cX1_init 35 = .ok (.newarray .int, 2) := by decide +kernel
theorem dX1_init_37 : decode cX1_init 37 = .ok (.putfield 25, 3) := by decide +kernel
theorem dX1_init_40 : decode cX1_init 40 = .ok (.aload_n 0, 1) := by decide +kernel
theorem dX1_init_41 : decode cX1_init 41 = .ok (.bipush 8, 2) := by decide +kernel
theorem dX1_init_43 : decode cX1_init 43 = .ok (.newarray .int, 2) := by decide +kernel
theorem dX1_init_45 : decode cX1_init 45 = .ok (.putfield 28, 3) := by decide +kernel
theorem dX1_init_48 : decode cX1_init 48 = .ok (.aload_n 0, 1) := by decide +kernel
theorem dX1_init_49 : decode cX1_init 49 = .ok (.bipush 8, 2) := by decide +kernel
theorem dX1_init_51 : decode cX1_init 51 = .ok (.newarray .int, 2) := by decide +kernel
theorem dX1_init_53 : decode cX1_init 53 = .ok (.putfield 31, 3) := by decide +kernel
theorem dX1_init_56 : decode cX1_init 56 = .ok (.aload_n 0, 1) := by decide +kernel
theorem dX1_init_57 : decode cX1_init 57 = .ok (.bipush 8, 2) := by decide +kernel
theorem dX1_init_59 : decode cX1_init 59 = .ok (.newarray .int, 2) := by decide +kernel
theorem dX1_init_61 : decode cX1_init 61 = .ok (.putfield 34, 3) := by decide +kernel
theorem dX1_init_64 : decode cX1_init 64 = .ok (.aload_n 0, 1) := by decide +kernel
theorem dX1_init_65 : decode cX1_init 65 = .ok (.bipush 8, 2) := by decide +kernel
theorem dX1_init_67 : decode cX1_init 67 = .ok (.newarray .int, 2) := by decide +kernel
theorem dX1_init_69 : decode cX1_init 69 = .ok (.putfield 37, 3) := by decide +kernel
theorem dX1_init_72 : decode cX1_init 72 = .ok (.aload_n 0, 1) := by decide +kernel
theorem dX1_init_73 : decode cX1_init 73 = .ok (.bipush 24, 2) := by decide +kernel
theorem dX1_init_75 : decode cX1_init 75 = .ok (.newarray .int, 2) := by decide +kernel
theorem dX1_init_77 : decode cX1_init 77 = .ok (.putfield 40, 3) := by decide +kernel
theorem dX1_init_80 : decode cX1_init 80 = .ok (.aload_n 0, 1) := by decide +kernel
theorem dX1_init_81 : decode cX1_init 81 = .ok (.bipush 24, 2) := by decide +kernel
theorem dX1_init_83 : decode cX1_init 83 = .ok (.newarray .int, 2) := by decide +kernel
theorem dX1_init_85 : decode cX1_init 85 = .ok (.putfield 43, 3) := by decide +kernel
theorem dX1_init_88 : decode cX1_init 88 = .ok (.aload_n 0, 1) := by decide +kernel
theorem dX1_init_89 : decode cX1_init 89 = .ok (.bipush 24, 2) := by decide +kernel
theorem dX1_init_91 : decode cX1_init 91 = .ok (.newarray .int, 2) := by decide +kernel
theorem dX1_init_93 : decode cX1_init 93 = .ok (.putfield 46, 3) := by decide +kernel
theorem dX1_init_96 : decode cX1_init 96 = .ok (.aload_n 0, 1) := by decide +kernel
theorem dX1_init_97 : decode cX1_init 97 = .ok (.bipush 24, 2) := by decide +kernel
theorem dX1_init_99 : decode cX1_init 99 = .ok (.newarray .int, 2) := by decide +kernel
theorem dX1_init_101 : decode cX1_init 101 = .ok (.putfield 49, 3) := by decide +kernel
theorem dX1_init_104 : decode cX1_init 104 = .ok (.return_, 1) := by decide +kernel
set_option maxRecDepth 20000 in
theorem ggX1_clear_J7_fill_53178 : GoodIn wsX1_clear wsJ7_fill_53178 := goodIn_r _ [12] (by decide +kernel) (by decide +kernel)
set_option maxRecDepth 20000 in
theorem gX1_clear_J7_fill_53178 : GoodIn wsX1_clear (va_wsS RX1 64 yJ7_fill_53178 wsJ7_fill_53178) := goodIn_app (goodIn_of _ (by decide +kernel)) ggX1_clear_J7_fill_53178
theorem dX1_clear_0 : decode cX1_clear 0 = .ok (.aload_n 0, 1) := by decide +kernel
theorem dX1_clear_1 : decode cX1_clear 1 = .ok (.iconst 1, 1) := by decide +kernel
theorem dX1_clear_2 : decode cX1_clear 2 = .ok (.putfield 9, 3) := by decide +kernel
theorem dX1_clear_5 : decode cX1_clear 5 = .ok (.aload_n 0, 1) := by decide +kernel
theorem dX1_clear_6 : decode cX1_clear 6 = .ok (.iconst 1, 1) := by decide +kernel
theorem dX1_clear_7 : decode cX1_clear 7 = .ok (.putfield 15, 3) := by decide +kernel
theorem dX1_clear_10 : decode cX1_clear 10 = .ok (.aload_n 0, 1) := by decide +kernel
theorem dX1_clear_11 : decode cX1_clear 11 = .ok (.iconst 0, 1) := by decide +kernel
theorem dX1_clear_12 : decode cX1_clear 12 = .ok (.putfield 52, 3) := by decide +kernel
theorem dX1_clear_15 : decode cX1_clear 15 = .ok (.aload_n 0, 1) := by decide +kernel
theorem dX1_clear_16 : decode cX1_clear 16 = .ok (.iconst 0, 1) := by decide +kernel
theorem dX1_clear_17 : decode cX1_clear 17 = .ok (.putfield 55, 3) := by decide +kernel
theorem dX1_clear_20 : decode cX1_clear 20 = .ok (.aload_n 0, 1) := by decide +kernel
theorem dX1_clear_21 : decode cX1_clear 21 = .ok (.iconst 0, 1) := by decide +kernel
theorem dX1_clear_22 : decode cX1_clear 22 = .ok (.putfield 58, 3) := by decide +kernel
theorem dX1_clear_25 : decode cX1_clear 25 = .ok (.aload_n 0, 1) := by decide +kernel
theorem dX1_clear_26 : decode cX1_clear 26 = .ok (.iconst 0, 1) := by decide +kernel
theorem dX1_clear_27 : decode cX1_clear 27 = .ok (.putfield 61, 3) := by decide +kernel
theorem dX1_clear_30 : decode cX1_clear 30 = .ok (.aload_n 0, 1) := by decide +kernel
theorem dX1_clear_31 : decode cX1_clear 31 = .ok (.getfield 18, 3) := by decide +kernel
theorem dX1_clear_34 : decode cX1_clear 34 = .ok (.iconst 0, 1) := by decide +kernel
theorem dX1_clear_35 : decode cX1_clear 35 = .ok (.invokestatic 64, 3) := by decide +kernel
theorem dX1_clear_38 : decode cX1_clear 38 = .ok (.aload_n 0, 1) := by decide +kernel
theorem dX1_clear_39 : decode cX1_clear 39 = .ok (.getfield 22, 3) := by decide +kernel
theorem dX1_clear_42 : decode cX1_clear 42 = .ok (.iconst 0, 1) := by decide +kernel
theorem dX1_clear_43 : decode cX1_clear 43 = .ok (.invokestatic 64, 3) := by decide +kernel
theorem dX1_clear_46 : decode cX1_clear 46 = .ok (.return_, 1) := by decide +kernel
theorem dX1_become_0 : decode cX1_become 0 = .ok (.aload_n 0, 1) := by decide +kernel
theorem dX1_become_1 : decode cX1_become 1 = .ok (.aload_n 1, 1) := by decide +kernel
theorem dX1_become_2 : decode cX1_become 2 = .ok (.getfield 9, 3) := by decide +kernel
theorem dX1_become_5 : decode cX1_become 5 = .ok (.putfield 9, 3) := by decide +kernel
theorem dX1_become_8 : decode cX1_become 8 = .ok (.aload_n 0, 1) := by decide +kernel
theorem dX1_become_9 : decode cX1_become 9 = .ok (.aload_n 1, 1) := by decide +kernel
theorem dX1_become_10 : decode cX1_become 10 = .ok (.getfield 15, 3) := by decide +kernel
theorem dX1_become_13 : decode cX1_become 13 = .ok (.putfield 15, 3) := by decide +kernel
theorem dX1_become_16 : decode cX1_become 16 = .ok (.aload_n 0, 1) := by decide +kernel
theorem dX1_become_17 : decode cX1_become 17 = .ok (.aload_n 1, 1) := by decide +kernel
theorem dX1_become_18 : decode cX1_become 18 = .ok (.getfield 52, 3) := by decide +kernel
theorem dX1_become_21 : decode cX1_become 21 = .ok (.putfield 52, 3) := by decide +kernel
theorem dX1_become_24 : decode cX1_become 24 = .ok (.aload_n 0, 1) := by decide +kernel
theorem dX1_become_25 : decode cX1_become 25 = .ok (.aload_n 1, 1) := by decide +kernel
theorem dX1_become_26 : decode cX1_become 26 = .ok (.getfield 55, 3) := by decide +kernel
theorem dX1_become_29 : decode cX1_become 29 = .ok (.putfield 55, 3) := by decide +kernel
theorem dX1_become_32 : decode cX1_become 32 = .ok (.aload_n 0, 1) := by decide +kernel
theorem dX1_become_33 : decode cX1_become 33 = .ok (.aload_n 1, 1) := by decide +kernel
theorem dX1_become_34 : decode cX1_become 34 = .ok (.getfield 58, 3) := by decide +kernel
theorem dX1_become_37 : decode cX1_become 37 = .ok (.putfield 58, 3) := by decide +kernel
theorem dX1_become_40 : decode cX1_become 40 = .ok (.aload_n 0, 1) := by decide +kernel
theorem dX1_become_41 : decode cX1_become 41 = .ok (.aload_n 1, 1) := by decide +kernel
theorem dX1_become_42 : decode cX1_become 42 = .ok (.getfield 61, 3) := by decide +kernel
theorem dX1_become_45 : decode cX1_become 45 = .ok (.putfield 61, 3) := by decide +kernel
theorem dX1_become_48 : decode cX1_become 48 = .ok (.aload_n 1, 1) := by decide +kernel
theorem dX1_become_49 : decode cX1_become 49 = .ok (.getfield 18, 3) := by decide +kernel
theorem dX1_become_52 : decode cX1_become 52 = .ok (.iconst 0, 1) := by decide +kernel
theorem dX1_become_53 : decode cX1_become 53 = .ok (.aload_n 0, 1) := by decide +kernel
theorem dX1_become_54 : decode cX1_become 54 = .ok (.getfield 18, 3) := by decide +kernel
theorem dX1_become_57 : decode cX1_become 57 = .ok (.iconst 0, 1) := by decide +kernel
theorem dX1_become_58 : decode cX1_become 58 = .ok (.sipush 144, 3) := by decide +kernel
theorem dX1_become_61 : decode cX1_become 61 = .ok (.invokestatic 70, 3) := by decide +kernel
theorem dX1_become_64 : decode cX1_become 64 = .ok (.aload_n 1, 1) := by decide +kernel
theorem dX1_become_65 : decode cX1_become 65 = .ok (.getfield 22, 3) := by decide +kernel
theorem dX1_become_68 : decode cX1_become 68 = .ok (.iconst 0, 1) := by decide +kernel
theorem dX1_become_69 : decode cX1_become 69 = .ok (.aload_n 0, 1) := by decide +kernel
theorem dX1_become_70 : decode cX1_become 70 = .ok (.getfield 22, 3) := by decide +kernel
theorem dX1_become_73 : decode cX1_become 73 = .ok (.iconst 0, 1) := by decide +kernel
theorem dX1_become_74 : decode cX1_become 74 = .ok (.sipush 144, 3) := by decide +kernel
theorem dX1_become_77 : decode cX1_become 77 = .ok (.invokestatic 70, 3) := by decide +kernel
theorem dX1_become_80 : decode cX1_become 80 = .ok (.aload_n 1, 1) := by decide +kernel
theorem dX1_become_81 : decode cX1_become 81 = .ok (.getfield 25, 3) := by decide +kernel
theorem dX1_become_84 : decode cX1_become 84 = .ok (.iconst 0, 1) := by decide +kernel
theorem dX1_become_85 : decode cX1_become 85 = .ok (.aload_n 0, 1) := by decide +kernel
theorem dX1_become_86 : decode cX1_become 86 = .ok (.getfield 25, 3) := by decide +kernel
theorem dX1_become_89 : decode cX1_become 89 = .ok (.iconst 0, 1) := by decide +kernel
theorem dX1_become_90 : decode cX1_become 90 = .ok (.bipush 8, 2) := by decide +kernel
theorem dX1_become_92 : decode cX1_become 92 = .ok (.invokestatic 70, 3) := by decide +kernel
theorem dX1_become_95 : decode cX1_become 95 = .ok (.aload_n 1, 1) := by decide +kernel
theorem dX1_become_96 : decode cX1_become 96 = .ok (.getfield 28, 3) := by decide +kernel
theorem dX1_become_99 : decode cX1_become 99 = .ok (.iconst 0, 1) := by decide +kernel
theorem dX1_become_100 : decode cX1_become 100 = .ok (.aload_n 0, 1) := by decide +kernel
theorem dX1_become_101 : decode cX1_become 101 = .ok (.getfield 28, 3) := by decide +kernel
theorem dX1_become_104 : decode cX1_become 104 = .ok (.iconst 0, 1) := by decide +kernel
theorem dX1_become_105 : decode cX1_become 105 = .ok (.bipush 8, 2) := by decide +kernel
theorem dX1_become_107 : decode cX1_become 107 = .ok (.invokestatic 70, 3) := by decide +kernel
theorem dX1_become_110 : decode cX1_become 110 = .ok (.aload_n 1, 1) := by decide +kernel
theorem dX1_become_111 : decode cX1_become 111 = .ok (.getfield 31, 3) := by decide +kernel
theorem dX1_become_114 : decode cX1_become 114 = .ok (.iconst 0, 1) := by decide +kernel
theorem dX1_become_115 : decode cX1_become 115 = .ok (.aload_n 0, 1) := by decide +kernel
theorem dX1_become_116 : decode cX1_become 116 = .ok (.getfield 31, 3) := by decide +kernel
theorem dX1_become_119 : decode cX1_become 119 = .ok (.iconst 0, 1) := by decide +kernel
theorem dX1_become_120 : decode cX1_become 120 = .ok (.bipush 8, 2) := by decide +kernel
theorem dX1_become_122 : decode cX1_become 122 = .ok (.invokestatic 70, 3) := by decide +kernel
theorem dX1_become_125 : decode cX1_become 125 = .ok (.aload_n 1, 1) := by decide +kernel
theorem dX1_become_126 : decode cX1_become 126 = .ok (.getfield 34, 3) := by decide +kernel
theorem dX1_become_129 : decode cX1_become 129 = .ok (.iconst 0, 1) := by decide +kernel
theorem dX1_become_130 : decode cX1_become 130 = .ok (.aload_n 0, 1) := by decide +kernel
theorem dX1_become_131 : decode cX1_become 131 = .ok (.getfield 34, 3) := by decide +kernel
theorem dX1_become_134 : decode cX1_become 134 = .ok (.iconst 0, 1) := by decide +kernel
theorem dX1_become_135 : decode cX1_become 135 = .ok (.bipush 8, 2) := by decide +kernel
theorem dX1_become_137 : decode cX1_become 137 = .ok (.invokestatic 70, 3) := by decide +kernel
theorem dX1_become_140 : decode cX1_become 140 = .ok (.aload_n 1, 1) := by decide +kernel
theorem dX1_become_141 : decode cX1_become 141 = .ok (.getfield 37, 3) := by decide +kernel
theorem dX1_become_144 : decode cX1_become 144 = .ok (.iconst 0, 1) := by decide +kernel
theorem dX1_become_145 : decode cX1_become 145 = .ok (.aload_n 0, 1) := by decide +kernel
theorem dX1_become_146 : decode cX1_become 146 = .ok (.getfield 37, 3) := by decide +kernel
theorem dX1_become_149 : decode cX1_become 149 = .ok (.iconst 0, 1) := by decide +kernel
theorem dX1_become_150 : decode cX1_become 150 = .ok (.bipush 8, 2) := by decide +kernel
theorem dX1_become_152 : decode cX1_become 152 = .ok (.invokestatic 70, 3) := by decide +kernel
theorem dX1_become_155 : decode cX1_become 155 = .ok (.aload_n 1, 1) := by decide +kernel
theorem dX1_become_156 : decode cX1_become 156 = .ok (.getfield 40, 3) := by decide +kernel
theorem dX1_become_159 : decode cX1_become 159 = .ok (.iconst 0, 1) := by decide +kernel
theorem dX1_become_160 : decode cX1_become 160 = .ok (.aload_n 0, 1) := by decide +kernel
theorem dX1_become_161 : decode cX1_become 161 = .ok (.getfield 40, 3) := by decide +kernel
theorem dX1_become_164 : decode cX1_become 164 = .ok (.iconst 0, 1) := by decide +kernel
theorem dX1_become_165 : decode cX1_become 165 = .ok (.bipush 24, 2) := by decide +kernel
theorem dX1_become_167 : decode cX1_become 167 = .ok (.invokestatic 70, 3) := by decide +kernel
theorem dX1_become_170 : decode cX1_become 170 = .ok (.aload_n 1, 1) := by decide +kernel
theorem dX1_become_171 : decode cX1_become 171 = .ok (.getfield 43, 3) := by decide +kernel
theorem dX1_become_174 : decode cX1_become 174 = .ok (.iconst 0, 1) := by decide +kernel
theorem dX1_become_175 : decode cX1_become 175 = .ok (.aload_n 0, 1) := by decide +kernel
theorem dX1_become_176 : decode cX1_become 176 = .ok (.getfield 43, 3) := by decide +kernel
theorem dX1_become_179 : decode cX1_become 179 = .ok (.iconst 0, 1) := by decide +kernel
theorem dX1_become_180 : decode cX1_become 180 = .ok (.bipush 24, 2) := by decide +kernel
theorem dX1_become_182 : decode cX1_become 182 = .ok (.invokestatic 70, 3) := by decide +kernel
theorem dX1_become_185 : decode cX1_become 185 = .ok (.aload_n 1, 1) := by decide +kernel
theorem dX1_become_186 : decode cX1_become 186 = .ok (.getfield 46, 3) := by decide +kernel
theorem dX1_become_189 : decode cX1_become 189 = .ok (.iconst 0, 1) := by decide +kernel
theorem dX1_become_190 : decode cX1_become 190 = .ok (.aload_n 0, 1) := by decide +kernel
theorem dX1_become_191 : decode cX1_become 191 = .ok (.getfield 46, 3) := by decide +kernel
theorem dX1_become_194 : decode cX1_become 194 = .ok (.iconst 0, 1) := by decide +kernel
theorem dX1_become_195 : decode cX1_become 195 = .ok (.bipush 24, 2) := by decide +kernel
theorem dX1_become_197 : decode cX1_become 197 = .ok (.invokestatic 70, 3) := by decide +kernel
theorem dX1_become_200 : decode cX1_become 200 = .ok (.aload_n 1, 1) := by decide +kernel
theorem dX1_become_201 : decode cX1_become 201 = .ok (.getfield 49, 3) := by decide +kernel
theorem dX1_become_204 : decode cX1_become 204 = .ok (.iconst 0, 1) := by decide +kernel
theorem dX1_become_205 : decode cX1_become 205 = .ok (.aload_n 0, 1) := by decide +kernel
theorem dX1_become_206 : decode cX1_become 206 = .ok (.getfield 49, 3) := by decide +kernel
theorem dX1_become_209 : decode cX1_become 209 = .ok (.iconst 0, 1) := by decide +kernel
theorem dX1_become_210 : decode cX1_become 210 = .ok (.bipush 24, 2) := by decide +kernel
theorem dX1_become_212 : decode cX1_become 212 = .ok (.invokestatic 70, 3) := by decide +kernel
theorem dX1_become_215 : decode cX1_become 215 = .ok (.return_, 1) := by decide +kernel
theorem dX1_hasPost_0 : decode cX1_hasPost 0 = .ok (.iload_n 1, 1) := by decide +kernel
theorem dX1_hasPost_1 : decode cX1_hasPost 1 = .ok (.ifCond .lt 15, 3) := by decide +kernel
theorem dX1_hasPost_4 : decode cX1_hasPost 4 = .ok (.iload_n 1, 1) := by decide +kernel
theorem dX1_hasPost_5 : decode cX1_hasPost 5 = .ok (.aload_n 0, 1) := by decide +kernel
theorem dX1_hasPost_6 : decode cX1_hasPost 6 = .ok (.getfield 9, 3) := by decide +kernel
theorem dX1_hasPost_9 : decode cX1_hasPost 9 = .ok (.if_icmp .ge 7, 3) := by decide +kernel
theorem dX1_hasPost_12 : decode cX1_hasPost 12 = .ok (.iconst 1, 1) := by decide +kernel
theorem dX1_hasPost_13 : decode cX1_hasPost 13 = .ok (.goto 4, 3) := by decide +kernel
theorem dX1_hasPost_16 : decode cX1_hasPost 16 = .ok (.iconst 0, 1) := by decide +kernel
theorem dX1_hasPost_17 : decode cX1_hasPost 17 = .ok (.ireturn, 1) := by decide +kernel
theorem dX1_hasShift_0 : decode cX1_hasShift 0 = .ok (.iload_n 1, 1) := by decide +kernel
theorem dX1_hasShift_1 : decode cX1_hasShift 1 = .ok (.ifCond .lt 15, 3) := by decide +kernel
theorem dX1_hasShift_4 : decode cX1_hasShift 4 = .ok (.iload_n 1, 1) := by decide +kernel
theorem dX1_hasShift_5 : decode cX1_hasShift 5 = .ok (.aload_n 0, 1) := by decide +kernel
theorem dX1_hasShift_6 : decode cX1_hasShift 6 = .ok (.getfield 58, 3) := by decide +kernel
theorem dX1_hasShift_9 : decode cX1_hasShift 9 = .ok (.if_icmp .ge 7, 3) := by decide +kernel
theorem dX1_hasShift_12 : decode cX1_hasShift 12 = .ok (.iconst 1, 1) := by decide +kernel
theorem dX1_hasShift_13 : decode cX1_hasShift 13 = .ok (.goto 4, 3) := by decide +kernel
theorem dX1_hasShift_16 : decode cX1_hasShift 16 = .ok (.iconst 0, 1) := by decide +kernel
theorem dX1_hasShift_17 : decode cX1_hasShift 17 = .ok (.ireturn, 1) := by decide +kernel
theorem dX1_hasPause_0 : decode cX1_hasPause 0 = .ok (.iload_n 1, 1) := by decide +kernel
theorem dX1_hasPause_1 : decode cX1_hasPause 1 = .ok (.ifCond .lt 15, 3) := by decide +kernel
theorem dX1_hasPause_4 : decode cX1_hasPause 4 = .ok (.iload_n 1, 1) := by decide +kernel
theorem dX1_hasPause_5 : decode cX1_hasPause 5 = .ok (.aload_n 0, 1) := by decide +kernel
theorem dX1_hasPause_6 : decode cX1_hasPause 6 = .ok (.getfield 61, 3) := by decide +kernel
theorem dX1_hasPause_9 : decode cX1_hasPause 9 = .ok (.if_icmp .ge 7, 3) := by decide +kernel
theorem dX1_hasPause_12 : decode cX1_hasPause 12 = .ok (.iconst 1, 1) := by decide +kernel
theorem dX1_hasPause_13 : decode cX1_hasPause 13 = .ok (.goto 4, 3) := by decide +kernel
theorem dX1_hasPause_16 : decode cX1_hasPause 16 = .ok (.iconst 0, 1) := by decide +kernel
theorem dX1_hasPause_17 : decode cX1_hasPause 17 = .ok (.ireturn, 1) := by decide +kernel
theorem dX1_hasAllNeeds_0 : decode cX1_hasAllNeeds 0 = .ok (.aload_n 0, 1) := by decide +kernel
theorem dX1_hasAllNeeds_1 : decode cX1_hasAllNeeds 1 = .ok (.getfield 55, 3) := by decide +kernel
theorem dX1_hasAllNeeds_4 : decode cX1_hasAllNeeds 4 = .ok (.bipush 10, 2) := by decide +kernel
theorem dX1_hasAllNeeds_6 : decode cX1_hasAllNeeds 6 = .ok (.if_icmp .lt 7, 3) := by decide +kernel
theorem dX1_hasAllNeeds_9 : decode cX1_hasAllNeeds 9 = .ok (.iconst 1, 1) := by decide +kernel
theorem dX1_hasAllNeeds_10 : decode cX1_hasAllNeeds 10 = .ok (.goto 4, 3) := by decide +kernel
theorem dX1_hasAllNeeds_13 : decode cX1_hasAllNeeds 13 = .ok (.iconst 0, 1) := by decide +kernel
theorem dX1_hasAllNeeds_14 : decode cX1_hasAllNeeds 14 = .ok (.ireturn, 1) := by decide +kernel
theorem dX1_hasAllShifts_0 : decode cX1_hasAllShifts 0 = .ok (.aload_n 0, 1) := by decide +kernel
theorem dX1_hasAllShifts_1 : decode cX1_hasAllShifts 1 = .ok (.getfield 58, 3) := by decide +kernel
theorem dX1_hasAllShifts_4 : decode cX1_hasAllShifts 4 = .ok (.bipush 8, 2) := by decide +kernel
theorem dX1_hasAllShifts_6 : decode cX1_hasAllShifts 6 = .ok (.if_icmp .lt 7, 3) := by decide +kernel
theorem dX1_hasAllShifts_9 : decode cX1_hasAllShifts 9 = .ok (.iconst 1, 1) := by decide +kernel
theorem dX1_hasAllShifts_10 : decode cX1_hasAllShifts 10 = .ok (.goto 4, 3) := by decide +kernel
theorem dX1_hasAllShifts_13 : decode cX1_hasAllShifts 13 = .ok (.iconst 0, 1) := by decide +kernel
theorem dX1_hasAllShifts_14 : decode cX1_hasAllShifts 14 = .ok (.ireturn, 1) := by decide +kernel
theorem dX1_hasAllPausesOfLatestShift_0 : decode cX1_hasAllPausesOfLatestShift 0 = .ok (.aload_n 0, 1) := by decide +kernel
theorem dX1_hasAllPausesOfLatestShift_1 : decode cX1_hasAllPausesOfLatestShift 1 = .ok (.getfield 58, 3) := by decide +kernel
theorem dX1_hasAllPausesOfLatestShift_4 : decode cX1_hasAllPausesOfLatestShift 4 = .ok (.ifCond .eq 27, 3) := by decide +kernel
theorem dX1_hasAllPausesOfLatestShift_7 : decode cX1_hasAllPausesOfLatestShift 7 = .ok (.aload_n 0, 1) := by decide +kernel
theorem dX1_hasAllPausesOfLatestShift_8 : decode cX1_hasAllPausesOfLatestShift 8 = .ok (.getfield 61, 3) := by decide +kernel
theorem dX1_hasAllPausesOfLatestShift_11 : decode cX1_hasAllPausesOfLatestShift 11 = .ok (.bipush 24, 2) := by decide +kernel
theorem dX1_hasAllPausesOfLatestShift_13 : decode cX1_hasAllPausesOfLatestShift 13 = .ok (.if_icmp .ge 18, 3) := by decide +kernel
theorem dX1_hasAllPausesOfLatestShift_16 : decode cX1_hasAllPausesOfLatestShift 16 = .ok (.aload_n 0, 1) := by decide +kernel
theorem dX1_hasAllPausesOfLatestShift_17 : decode cX1_hasAllPausesOfLatestShift 17 = .ok (.getfield 34, 3) := by decide +kernel
theorem dX1_hasAllPausesOfLatestShift_20 : decode cX1_hasAllPausesOfLatestShift 20 = .ok (.aload_n 0, 1) := by decide +kernel
theorem dX1_hasAllPausesOfLatestShift_21 : decode cX1_hasAllPausesOfLatestShift 21 = .ok (.getfield 58, 3) := by decide +kernel
theorem dX1_hasAllPausesOfLatestShift_24 : decode cX1_hasAllPausesOfLatestShift 24 = .ok (.iconst 1, 1) := by decide +kernel
theorem dX1_hasAllPausesOfLatestShift_25 : decode cX1_hasAllPausesOfLatestShift 25 = .ok (.isub, 1) := by decide +kernel
theorem dX1_hasAllPausesOfLatestShift_26 : decode cX1_hasAllPausesOfLatestShift 26 = .ok (.iaload, 1) := by decide +kernel
theorem dX1_hasAllPausesOfLatestShift_27 : decode cX1_hasAllPausesOfLatestShift 27 = .ok (.iconst 3, 1) := by decide +kernel
theorem dX1_hasAllPausesOfLatestShift_28 : decode cX1_hasAllPausesOfLatestShift 28 = .ok (.if_icmp .lt 7, 3) := by decide +kernel
theorem dX1_hasAllPausesOfLatestShift_31 : decode cX1_hasAllPausesOfLatestShift 31 = .ok (.iconst 1, 1) := by decide +kernel
theorem dX1_hasAllPausesOfLatestShift_32 : decode cX1_hasAllPausesOfLatestShift 32 = .ok (.goto 4, 3) := by decide +kernel
theorem dX1_hasAllPausesOfLatestShift_35 : decode cX1_hasAllPausesOfLatestShift 35 = .ok (.iconst 0, 1) := by decide +kernel
theorem dX1_hasAllPausesOfLatestShift_36 : decode cX1_hasAllPausesOfLatestShift 36 = .ok (.ireturn, 1) := by decide +kernel
set_option maxRecDepth 20000 in
theorem ggX1_addNeed_X6_cellOf : GoodIn wsX1_addNeed wsX6_cellOf := goodIn_r _ [5] (by decide +kernel) (by decide +kernel)
set_option maxRecDepth 20000 in
theorem gX1_addNeed_X6_cellOf_n76 : GoodIn wsX1_addNeed (wsX6_cellOf) := ggX1_addNeed_X6_cellOf
set_option maxRecDepth 20000 in
theorem ggX1_addNeed_X1_addToCells : GoodIn wsX1_addNeed wsX1_addToCells := goodIn_r _ [9] (by decide +kernel) (by decide +kernel)
set_option maxRecDepth 20000 in
theorem gX1_addNeed_X1_addToCells : GoodIn wsX1_addNeed (va_wsS RX1 80 yX1_addToCells wsX1_addToCells) := goodIn_app (goodIn_of _ (by decide +kernel)) ggX1_addNeed_X1_addToCells
theorem dX1_addNeed_0 : decode cX1_addNeed 0 = .ok (.aload_n 0, 1) := by decide +kernel
theorem dX1_addNeed_1 : decode cX1_addNeed 1 = .ok (.dup, 1) := by decide +kernel
theorem dX1_addNeed_2 : decode cX1_addNeed 2 = .ok (.getfield 55, 3) := by decide +kernel
theorem dX1_addNeed_5 : decode cX1_addNeed 5 = .ok (.iconst 1, 1) := by decide +kernel
theorem dX1_addNeed_6 : decode cX1_addNeed 6 = .ok (.iadd, 1) := by decide +kernel
theorem dX1_addNeed_7 : decode cX1_addNeed 7 = .ok (.putfield 55, 3) := by decide +kernel
theorem dX1_addNeed_10 : decode cX1_addNeed 10 = .ok (.aload_n 0, 1) := by decide +kernel
theorem dX1_addNeed_11 : decode cX1_addNeed 11 = .ok (.getfield 18, 3) := by decide +kernel
theorem dX1_addNeed_14 : decode cX1_addNeed 14 = .ok (.iload_n 1, 1) := by decide +kernel
theorem dX1_addNeed_15 : decode cX1_addNeed 15 = .ok (.iload_n 2, 1) := by decide +kernel
theorem dX1_addNeed_16 : decode cX1_addNeed 16 = .ok (.invokestatic 76, 3) := by decide +kernel
theorem dX1_addNeed_19 : decode cX1_addNeed 19 = .ok (.iload_n 1, 1) := by decide +kernel
theorem dX1_addNeed_20 : decode cX1_addNeed 20 = .ok (.iload_n 3, 1) := by decide +kernel
theorem dX1_addNeed_21 : decode cX1_addNeed 21 = .ok (.invokestatic 76, 3) := by decide +kernel
theorem dX1_addNeed_24 : decode cX1_addNeed 24 = .ok (.iload 4, 2) := by decide +kernel
theorem dX1_addNeed_26 : decode cX1_addNeed 26 = .ok (.invokestatic 80, 3) := by decide +kernel
theorem dX1_addNeed_29 : decode cX1_addNeed 29 = .ok (.return_, 1) := by decide +kernel
set_option maxRecDepth 20000 in
theorem ggX1_addShift_X1_hasAllShifts : GoodIn wsX1_addShift wsX1_hasAllShifts := goodIn_r _ [13, 2, 20, 21, 22, 23, 24, 25, 26, 27, 28, 29, 30, 31, 32, 33, 34, 35, 36] (by decide +kernel) (by decide +kernel)
set_option maxRecDepth 20000 in
theorem gX1_addShift_X1_hasAllShifts : GoodIn wsX1_addShift (wsV RX1 84 RX1 yX1_hasAllShifts wsX1_hasAllShifts) := goodIn_app (goodIn_of _ (by decide +kernel)) ggX1_addShift_X1_hasAllShifts
set_option maxRecDepth 20000 in
theorem ggX1_addShift_X6_cellOf : GoodIn wsX1_addShift wsX6_cellOf := goodIn_r _ [16] (by decide +kernel) (by decide +kernel)
set_option maxRecDepth 20000 in
theorem gX1_addShift_X6_cellOf_n76 : GoodIn wsX1_addShift (wsX6_cellOf) := ggX1_addShift_X6_cellOf
set_option maxRecDepth 20000 in
theorem ggX1_addShift_X1_addToCells : GoodIn wsX1_addShift wsX1_addToCells := goodIn_r _ [19] (by decide +kernel) (by decide +kernel)
set_option maxRecDepth 20000 in
theorem gX1_addShift_X1_addToCells : GoodIn wsX1_addShift (va_wsS RX1 80 yX1_addToCells wsX1_addToCells) := goodIn_app (goodIn_of _ (by decide +kernel)) ggX1_addShift_X1_addToCells
theorem dX1_addShift_0 : decode cX1_addShift 0 = .ok (.aload_n 0, 1) := by decide +kernel
theorem dX1_addShift_1 : decode cX1_addShift 1 = .ok (.invokevirtual 84, 3) := by decide +kernel
theorem dX1_addShift_4 : decode cX1_addShift 4 = .ok (.ifCond .eq 4, 3) := by decide +kernel
theorem dX1_addShift_7 : decode cX1_addShift 7 = .ok (.return_, 1) := by decide +kernel
theorem dX1_addShift_8 : decode cX1_addShift 8 = .ok (.aload_n 0, 1) := by decide +kernel
theorem dX1_addShift_9 : decode cX1_addShift 9 = .ok (.getfield 25, 3) := by decide +kernel
theorem dX1_addShift_12 : decode cX1_addShift 12 = .ok (.aload_n 0, 1) := by decide +kernel
theorem dX1_addShift_13 : decode cX1_addShift 13 = .ok (.getfield 58, 3) := by decide +kernel
theorem dX1_addShift_16 : decode cX1_addShift 16 = .ok (.iload_n 1, 1) := by decide +kernel
theorem dX1_addShift_17 : decode cX1_addShift 17 = .ok (.iastore, 1) := by decide +kernel
theorem dX1_addShift_18 : decode cX1_addShift 18 = .ok (.aload_n 0, 1) := by decide +kernel
theorem dX1_addShift_19 : decode cX1_addShift 19 = .ok (.getfield 28, 3) := by decide +kernel
theorem dX1_addShift_22 : decode cX1_addShift 22 = .ok (.aload_n 0, 1) := by decide +kernel
theorem dX1_addShift_23 : decode cX1_addShift 23 = .ok (.getfield 58, 3) := by decide +kernel
theorem dX1_addShift_26 : decode cX1_addShift 26 = .ok (.iload_n 2, 1) := by decide +kernel
theorem dX1_addShift_27 : decode cX1_addShift 27 = .ok (.iastore, 1) := by decide +kernel
theorem dX1_addShift_28 : decode cX1_addShift 28 = .ok (.aload_n 0, 1) := by decide +kernel
theorem dX1_addShift_29 : decode cX1_addShift 29 = .ok (.getfield 31, 3) := by decide +kernel
theorem dX1_addShift_32 : decode cX1_addShift 32 = .ok (.aload_n 0, 1) := by decide +kernel
theorem dX1_addShift_33 : decode cX1_addShift 33 = .ok (.getfield 58, 3) := by decide +kernel
theorem dX1_addShift_36 : decode cX1_addShift 36 = .ok (.iload_n 3, 1) := by decide +kernel
theorem dX1_addShift_37 : decode cX1_addShift 37 = .ok (.iastore, 1) := by decide +kernel
theorem dX1_addShift_38 : decode cX1_addShift 38 = .ok (.aload_n 0, 1) := by decide +kernel
theorem dX1_addShift_39 : decode cX1_addShift 39 = .ok (.getfield 34, 3) := by decide +kernel
theorem dX1_addShift_42 : decode cX1_addShift 42 = .ok (.aload_n 0, 1) := by decide +kernel
theorem dX1_addShift_43 : decode cX1_addShift 43 = .ok (.getfield 58, 3) := by decide +kernel
theorem dX1_addShift_46 : decode cX1_addShift 46 = .ok (.iconst 0, 1) := by decide +kernel
theorem dX1_addShift_47 : decode cX1_addShift 47 = .ok (.iastore, 1) := by decide +kernel
theorem dX1_addShift_48 : decode cX1_addShift 48 = .ok (.aload_n 0, 1) := by decide +kernel
theorem dX1_addShift_49 : decode cX1_addShift 49 = .ok (.getfield 37, 3) := by decide +kernel
theorem dX1_addShift_52 : decode cX1_addShift 52 = .ok (.aload_n 0, 1) := by decide +kernel
theorem dX1_addShift_53 : decode cX1_addShift 53 = .ok (.getfield 58, 3) := by decide +kernel
theorem dX1_addShift_56 : decode cX1_addShift 56 = .ok (.aload_n 0, 1) := by decide +kernel
theorem dX1_addShift_57 : decode cX1_addShift 57 = .ok (.getfield 61, 3) := by decide +kernel
theorem dX1_addShift_60 : decode cX1_addShift 60 = .ok (.iastore, 1) := by decide +kernel
theorem dX1_addShift_61 : decode cX1_addShift 61 = .ok (.aload_n 0, 1) := by decide +kernel
theorem dX1_addShift_62 : decode cX1_addShift 62 = .ok (.dup, 1) := by decide +kernel
theorem dX1_addShift_63 : decode cX1_addShift 63 = .ok (.getfield 58, 3) := by decide +kernel
theorem dX1_addShift_66 : decode cX1_addShift 66 = .ok (.iconst 1, 1) := by decide +kernel
theorem dX1_addShift_67 : decode cX1_addShift 67 = .ok (.iadd, 1) := by decide +kernel
theorem dX1_addShift_68 : decode cX1_addShift 68 = .ok (.putfield 58, 3) := by decide +kernel
theorem dX1_addShift_71 : decode cX1_addShift 71 = .ok (.aload_n 0, 1) := by decide +kernel
theorem dX1_addShift_72 : decode cX1_addShift 72 = .ok (.getfield 22, 3) := by decide +kernel
theorem dX1_addShift_75 : decode cX1_addShift 75 = .ok (.iload_n 1, 1) := by decide +kernel
theorem dX1_addShift_76 : decode cX1_addShift 76 = .ok (.iload_n 2, 1) := by decide +kernel
theorem dX1_addShift_77 : decode cX1_addShift 77 = .ok (.invokestatic 76, 3) := by decide +kernel
theorem dX1_addShift_80 : decode cX1_addShift 80 = .ok (.iload_n 1, 1) := by decide +kernel
theorem dX1_addShift_81 : decode cX1_addShift 81 = .ok (.iload_n 3, 1) := by decide +kernel
theorem dX1_addShift_82 : decode cX1_addShift 82 = .ok (.invokestatic 76, 3) := by decide +kernel
theorem dX1_addShift_85 : decode cX1_addShift 85 = .ok (.iconst 1, 1) := by decide +kernel
theorem dX1_addShift_86 : decode cX1_addShift 86 = .ok (.invokestatic 80, 3) := by decide +kernel
theorem dX1_addShift_89 : decode cX1_addShift 89 = .ok (.return_, 1) := by decide +kernel
set_option maxRecDepth 20000 in
theorem ggX1_addPause_X1_hasAllPausesOfLatestShift : GoodIn wsX1_addPause wsX1_hasAllPausesOfLatestShift := goodIn_r _ [12, 3, 2, 7, 13, 14, 15, 16, 17, 18, 19, 20, 21, 22, 23, 24, 25, 26, 27, 28, 29] (by decide +kernel) (by decide +kernel)
set_option maxRecDepth 20000 in
theorem gX1_addPause_X1_hasAllPausesOfLatestShift : GoodIn wsX1_addPause (wsV RX1 88 RX1 yX1_hasAllPausesOfLatestShift wsX1_hasAllPausesOfLatestShift) := goodIn_app (goodIn_of _ (by decide +kernel)) ggX1_addPause_X1_hasAllPausesOfLatestShift
theorem dX1_addPause_0 : decode cX1_addPause 0 = .ok (.aload_n 0, 1) := by decide +kernel
theorem dX1_addPause_1 : decode cX1_addPause 1 = .ok (.invokevirtual 88, 3) := by decide +kernel
theorem dX1_addPause_4 : decode cX1_addPause 4 = .ok (.ifCond .eq 4, 3) := by decide +kernel
theorem dX1_addPause_7 : decode cX1_addPause 7 = .ok (.return_, 1) := by decide +kernel
theorem dX1_addPause_8 : decode cX1_addPause 8 = .ok (.aload_n 0, 1) := by decide +kernel
theorem dX1_addPause_9 : decode cX1_addPause 9 = .ok (.getfield 40, 3) := by decide +kernel
theorem dX1_addPause_12 : decode cX1_addPause 12 = .ok (.aload_n 0, 1) := by decide +kernel
theorem dX1_addPause_13 : decode cX1_addPause 13 = .ok (.getfield 61, 3) := by decide +kernel
theorem dX1_addPause_16 : decode cX1_addPause 16 = .ok (.aload_n 0, 1) := by decide +kernel
theorem dX1_addPause_17 : decode cX1_addPause 17 = .ok (.getfield 58, 3) := by decide +kernel
theorem dX1_addPause_20 : decode cX1_addPause 20 = .ok (.iconst 1, 1) := by decide +kernel
theorem dX1_addPause_21 : decode cX1_addPause 21 = .ok (.isub, 1) := by decide +kernel
theorem dX1_addPause_22 : decode cX1_addPause 22 = .ok (.iastore, 1) := by decide +kernel
theorem dX1_addPause_23 : decode cX1_addPause 23 = .ok (.aload_n 0, 1) := by decide +kernel
theorem dX1_addPause_24 : decode cX1_addPause 24 = .ok (.getfield 43, 3) := by decide +kernel
theorem dX1_addPause_27 : decode cX1_addPause 27 = .ok (.aload_n 0, 1) := by decide +kernel
theorem dX1_addPause_28 : decode cX1_addPause 28 = .ok (.getfield 61, 3) := by decide +kernel
theorem dX1_addPause_31 : decode cX1_addPause 31 = .ok (.iload_n 1, 1) := by decide +kernel
theorem dX1_addPause_32 : decode cX1_addPause 32 = .ok (.iastore, 1) := by decide +kernel
theorem dX1_addPause_33 : decode cX1_addPause 33 = .ok (.aload_n 0, 1) := by decide +kernel
theorem dX1_addPause_34 : decode cX1_addPause 34 = .ok (.getfield 46, 3) := by decide +kernel
theorem dX1_addPause_37 : decode cX1_addPause 37 = .ok (.aload_n 0, 1) := by decide +kernel
theorem dX1_addPause_38 : decode cX1_addPause 38 = .ok (.getfield 61, 3) := by decide +kernel
theorem dX1_addPause_41 : decode cX1_addPause 41 = .ok (.iload_n 2, 1) := by decide +kernel
theorem dX1_addPause_42 : decode cX1_addPause 42 = .ok (.iastore, 1) := by decide +kernel
theorem dX1_addPause_43 : decode cX1_addPause 43 = .ok (.aload_n 0, 1) := by decide +kernel
theorem dX1_addPause_44 : decode cX1_addPause 44 = .ok (.getfield 49, 3) := by decide +kernel
theorem dX1_addPause_47 : decode cX1_addPause 47 = .ok (.aload_n 0, 1) := by decide +kernel
theorem dX1_addPause_48 : decode cX1_addPause 48 = .ok (.getfield 61, 3) := by decide +kernel
theorem dX1_addPause_51 : decode cX1_addPause 51 = .ok (.iload_n 3, 1) := by decide +kernel
theorem dX1_addPause_52 : decode cX1_addPause 52 = .ok (.iastore, 1) := by decide +kernel
theorem dX1_addPause_53 : decode cX1_addPause 53 = .ok (.aload_n 0, 1) := by decide +kernel
theorem dX1_addPause_54 : decode cX1_addPause 54 = .ok (.getfield 34, 3) := by decide +kernel
theorem dX1_addPause_57 : decode cX1_addPause 57 = .ok (.aload_n 0, 1) := by decide +kernel
theorem dX1_addPause_58 : decode cX1_addPause 58 = .ok (.getfield 58, 3) := by decide +kernel
theorem dX1_addPause_61 : decode cX1_addPause 61 = .ok (.iconst 1, 1) := by decide +kernel
theorem dX1_addPause_62 : decode cX1_addPause 62 = .ok (.isub, 1) := by decide +kernel
theorem dX1_addPause_63 : decode cX1_addPause 63 = .ok (.dup2, 1) := by decide +kernel
theorem dX1_addPause_64 : decode cX1_addPause 64 = .ok (.iaload, 1) := by decide +kernel
theorem dX1_addPause_65 : decode cX1_addPause 65 = .ok (.iconst 1, 1) := by decide +kernel
theorem dX1_addPause_66 : decode cX1_addPause 66 = .ok (.iadd, 1) := by decide +kernel
theorem dX1_addPause_67 : decode cX1_addPause 67 = .ok (.iastore, 1) := by decide +kernel
theorem dX1_addPause_68 : decode cX1_addPause 68 = .ok (.aload_n 0, 1) := by decide +kernel
theorem dX1_addPause_69 : decode cX1_addPause 69 = .ok (.dup, 1) := by decide +kernel
theorem dX1_addPause_70 : decode cX1_addPause 70 = .ok (.getfield 61, 3) := by decide +kernel
theorem dX1_addPause_73 : decode cX1_addPause 73 = .ok (.iconst 1, 1) := by decide +kernel
theorem dX1_addPause_74 : decode cX1_addPause 74 = .ok (.iadd, 1) := by decide +kernel
theorem dX1_addPause_75 : decode cX1_addPause 75 = .ok (.putfield 61, 3) := by decide +kernel
theorem dX1_addPause_78 : decode cX1_addPause 78 = .ok (.return_, 1) := by decide +kernel
theorem dX1_addToCells_0 : decode cX1_addToCells 0 = .ok (.iload_n 1, 1) := by decide +kernel
theorem dX1_addToCells_1 : decode cX1_addToCells 1 = .ok (.istore 4, 2) := by decide +kernel
theorem dX1_addToCells_3 : decode cX1_addToCells 3 = .ok (.iload 4, 2) := by decide +kernel
theorem dX1_addToCells_5 : decode cX1_addToCells 5 = .ok (.iload_n 2, 1) := by decide +kernel
theorem dX1_addToCells_6 : decode cX1_addToCells 6 = .ok (.if_icmp .gt 24, 3) := by decide +kernel
theorem dX1_addToCells_9 : decode cX1_addToCells 9 = .ok (.iload 4, 2) := by decide +kernel
theorem dX1_addToCells_11 : decode cX1_addToCells 11 = .ok (.aload_n 0, 1) := by decide +kernel
theorem dX1_addToCells_12 : decode cX1_addToCells 12 = .ok (.arraylength, 1) := by decide +kernel
theorem dX1_addToCells_13 : decode cX1_addToCells 13 = .ok (.if_icmp .ge 17, 3) := by decide +kernel
theorem dX1_addToCells_16 : decode cX1_addToCells 16 = .ok (.aload_n 0, 1) := by decide +kernel
theorem dX1_addToCells_17 : decode cX1_addToCells 17 = .ok (.iload 4, 2) := by decide +kernel
theorem dX1_addToCells_19 : decode cX1_addToCells 19 = .ok (.dup2, 1) := by decide +kernel
theorem dX1_addToCells_20 : decode cX1_addToCells 20 = .ok (.iaload, 1) := by decide +kernel
theorem dX1_addToCells_21 : decode cX1_addToCells 21 = .ok (.iload_n 3, 1) := by decide +kernel
theorem dX1_addToCells_22 : decode cX1_addToCells 22 = .ok (.iadd, 1) := by decide +kernel
theorem dX1_addToCells_23 : decode cX1_addToCells 23 = .ok (.iastore, 1) := by decide +kernel
theorem dX1_addToCells_24 : decode cX1_addToCells 24 = .ok (.iinc 4 1, 3) := by decide +kernel
theorem dX1_addToCells_27 : decode cX1_addToCells 27 = .ok (.goto (-24), 3) := by decide +kernel
theorem dX1_addToCells_30 : decode cX1_addToCells 30 = .ok (.return_, 1) := by decide +kernel
set_option maxRecDepth 20000 in
theorem ggX1_cellOfPause_X6_cellOf : GoodIn wsX1_cellOfPause wsX6_cellOf := goodIn_r _ [5] (by decide +kernel) (by decide +kernel)
set_option maxRecDepth 20000 in
theorem gX1_cellOfPause_X6_cellOf_n76 : GoodIn wsX1_cellOfPause (wsX6_cellOf) := ggX1_cellOfPause_X6_cellOf
theorem dX1_cellOfPause_0 : decode cX1_cellOfPause 0 = .ok (.aload_n 0, 1) := by decide +kernel
theorem dX1_cellOfPause_1 : decode cX1_cellOfPause 1 = .ok (.getfield 25, 3) := by decide +kernel
theorem dX1_cellOfPause_4 : decode cX1_cellOfPause 4 = .ok (.aload_n 0, 1) := by decide +kernel
theorem dX1_cellOfPause_5 : decode cX1_cellOfPause 5 = .ok (.getfield 40, 3) := by decide +kernel
theorem dX1_cellOfPause_8 : decode cX1_cellOfPause 8 = .ok (.iload_n 1, 1) := by decide +kernel
theorem dX1_cellOfPause_9 : decode cX1_cellOfPause 9 = .ok (.iaload, 1) := by decide +kernel
theorem dX1_cellOfPause_10 : decode cX1_cellOfPause 10 = .ok (.iaload, 1) := by decide +kernel
theorem dX1_cellOfPause_11 : decode cX1_cellOfPause 11 = .ok (.iload_n 2, 1) := by decide +kernel
theorem dX1_cellOfPause_12 : decode cX1_cellOfPause 12 = .ok (.invokestatic 76, 3) := by decide +kernel
theorem dX1_cellOfPause_15 : decode cX1_cellOfPause 15 = .ok (.ireturn, 1) := by decide +kernel
theorem dX1_hasShortPausesAlone_0 : decode cX1_hasShortPausesAlone 0 = .ok (.iconst 0, 1) := by decide +kernel
theorem dX1_hasShortPausesAlone_1 : decode cX1_hasShortPausesAlone 1 = .ok (.istore_n 2, 1) := by decide +kernel
theorem dX1_hasShortPausesAlone_2 : decode cX1_hasShortPausesAlone 2 = .ok (.iload_n 2, 1) := by decide +kernel
theorem dX1_hasShortPausesAlone_3 : decode cX1_hasShortPausesAlone 3 = .ok (.aload_n 0, 1) := by decide +kernel
theorem dX1_hasShortPausesAlone_4 : decode cX1_hasShortPausesAlone 4 = .ok (.getfield 58, 3) := by decide +kernel
theorem dX1_hasShortPausesAlone_7 : decode cX1_hasShortPausesAlone 7 = .ok (.if_icmp .ge 46, 3) := by decide +kernel
theorem dX1_hasShortPausesAlone_10 : decode cX1_hasShortPausesAlone 10 = .ok (.aload_n 0, 1) := by decide +kernel
theorem dX1_hasShortPausesAlone_11 : decode cX1_hasShortPausesAlone 11 = .ok (.getfield 25, 3) := by decide +kernel
theorem dX1_hasShortPausesAlone_14 : decode cX1_hasShortPausesAlone 14 = .ok (.iload_n 2, 1) := by decide +kernel
theorem dX1_hasShortPausesAlone_15 : decode cX1_hasShortPausesAlone 15 = .ok (.iaload, 1) := by decide +kernel
theorem dX1_hasShortPausesAlone_16 : decode cX1_hasShortPausesAlone 16 = .ok (.iload_n 1, 1) := by decide +kernel
theorem dX1_hasShortPausesAlone_17 : decode cX1_hasShortPausesAlone 17 = .ok (.if_icmp .ne 30, 3) := by decide +kernel
theorem dX1_hasShortPausesAlone_20 : decode cX1_hasShortPausesAlone 20 = .ok (.aload_n 0, 1) := by decide +kernel
theorem dX1_hasShortPausesAlone_21 : decode cX1_hasShortPausesAlone 21 = .ok (.getfield 34, 3) := by decide +kernel
theorem dX1_hasShortPausesAlone_24 : decode cX1_hasShortPausesAlone 24 = .ok (.iload_n 2, 1) := by decide +kernel
theorem dX1_hasShortPausesAlone_25 : decode cX1_hasShortPausesAlone 25 = .ok (.iaload, 1) := by decide +kernel
theorem dX1_hasShortPausesAlone_26 : decode cX1_hasShortPausesAlone 26 = .ok (.iconst 1, 1) := by decide +kernel
theorem dX1_hasShortPausesAlone_27 : decode cX1_hasShortPausesAlone 27 = .ok (.if_icmp .ne 18, 3) := by decide +kernel
theorem dX1_hasShortPausesAlone_30 : decode cX1_hasShortPausesAlone 30 = .ok (.aload_n 0, 1) := by decide +kernel
theorem dX1_hasShortPausesAlone_31 : decode cX1_hasShortPausesAlone 31 = .ok (.getfield 43, 3) := by decide +kernel
theorem dX1_hasShortPausesAlone_34 : decode cX1_hasShortPausesAlone 34 = .ok (.aload_n 0, 1) := by decide +kernel
theorem dX1_hasShortPausesAlone_35 : decode cX1_hasShortPausesAlone 35 = .ok (.getfield 37, 3) := by decide +kernel
theorem dX1_hasShortPausesAlone_38 : decode cX1_hasShortPausesAlone 38 = .ok (.iload_n 2, 1) := by decide +kernel
theorem dX1_hasShortPausesAlone_39 : decode cX1_hasShortPausesAlone 39 = .ok (.iaload, 1) := by decide +kernel
theorem dX1_hasShortPausesAlone_40 : decode cX1_hasShortPausesAlone 40 = .ok (.iaload, 1) := by decide +kernel
theorem dX1_hasShortPausesAlone_41 : decode cX1_hasShortPausesAlone 41 = .ok (.iconst 1, 1) := by decide +kernel
theorem dX1_hasShortPausesAlone_42 : decode cX1_hasShortPausesAlone 42 = .ok (.if_icmp .eq 5, 3) := by decide +kernel
theorem dX1_hasShortPausesAlone_45 : decode cX1_hasShortPausesAlone 45 = .ok (.iconst 0, 1) := by decide +kernel
theorem dX1_hasShortPausesAlone_46 : decode cX1_hasShortPausesAlone 46 = .ok (.ireturn, 1) := by decide +kernel
theorem dX1_hasShortPausesAlone_47 : decode cX1_hasShortPausesAlone 47 = .ok (.iinc 2 1, 3) := by decide +kernel
theorem dX1_hasShortPausesAlone_50 : decode cX1_hasShortPausesAlone 50 = .ok (.goto (-48), 3) := by decide +kernel
theorem dX1_hasShortPausesAlone_53 : decode cX1_hasShortPausesAlone 53 = .ok (.iconst 1, 1) := by decide +kernel
theorem dX1_hasShortPausesAlone_54 : decode cX1_hasShortPausesAlone 54 = .ok (.ireturn, 1) := by decide +kernel
set_option maxRecDepth 20000 in
theorem ggX1_leastShortfallOf_X6_cellOf : GoodIn wsX1_leastShortfallOf wsX6_cellOf := goodIn_r _ [7] (by decide +kernel) (by decide +kernel)
set_option maxRecDepth 20000 in
theorem gX1_leastShortfallOf_X6_cellOf_n76 : GoodIn wsX1_leastShortfallOf (wsX6_cellOf) := ggX1_leastShortfallOf_X6_cellOf
set_option maxRecDepth 20000 in
theorem ggX1_leastShortfallOf_X1_mostUrgentShift : GoodIn wsX1_leastShortfallOf wsX1_mostUrgentShift := goodIn_r _ [12, 3, 4, 13, 14, 15, 16, 17, 18, 19, 20, 21, 22, 23, 24, 25, 26, 27, 28, 29, 30, 31, 32] (by decide +kernel) (by decide +kernel)
set_option maxRecDepth 20000 in
theorem gX1_leastShortfallOf_X1_mostUrgentShift : GoodIn wsX1_leastShortfallOf (wsV RX1 91 RX1 yX1_mostUrgentShift wsX1_mostUrgentShift) := goodIn_app (goodIn_of _ (by decide +kernel)) ggX1_leastShortfallOf_X1_mostUrgentShift
theorem dX1_leastShortfallOf_0 : decode cX1_leastShortfallOf 0 = .ok (.iconst 0, 1) := by decide +kernel
theorem dX1_leastShortfallOf_1 : decode cX1_leastShortfallOf 1 = .ok (.istore_n 2, 1) := by decide +kernel
theorem dX1_leastShortfallOf_2 : decode cX1_leastShortfallOf 2 = .ok (.iconst 0, 1) := by decide +kernel
theorem dX1_leastShortfallOf_3 : decode cX1_leastShortfallOf 3 = .ok (.istore_n 3, 1) := by decide +kernel
theorem dX1_leastShortfallOf_4 : decode cX1_leastShortfallOf 4 = .ok (.iconst 0, 1) := by decide +kernel
theorem dX1_leastShortfallOf_5 : decode cX1_leastShortfallOf 5 = .ok (.istore 4, 2) := by decide +kernel
theorem dX1_leastShortfallOf_7 : decode cX1_leastShortfallOf 7 = .ok (.iload 4, 2) := by decide +kernel
theorem dX1_leastShortfallOf_9 : decode cX1_leastShortfallOf 9 = .ok (.bipush 48, 2) := by decide +kernel
theorem dX1_leastShortfallOf_11 : decode cX1_leastShortfallOf 11 = .ok (.if_icmp .ge 86, 3) := by decide +kernel
theorem dX1_leastShortfallOf_14 : decode cX1_leastShortfallOf 14 = .ok (.aload_n 0, 1) := by decide +kernel
theorem dX1_leastShortfallOf_15 : decode cX1_leastShortfallOf 15 = .ok (.getfield 22, 3) := by decide +kernel
theorem dX1_leastShortfallOf_18 : decode cX1_leastShortfallOf 18 = .ok (.iload_n 1, 1) := by decide +kernel
theorem dX1_leastShortfallOf_19 : decode cX1_leastShortfallOf 19 = .ok (.iload 4, 2) := by decide +kernel
theorem dX1_leastShortfallOf_21 : decode cX1_leastShortfallOf 21 = .ok (.invokestatic 76, 3) := by decide +kernel
theorem dX1_leastShortfallOf_24 : decode cX1_leastShortfallOf 24 = .ok (.iaload, 1) := by decide +kernel
theorem dX1_leastShortfallOf_25 : decode cX1_leastShortfallOf 25 = .ok (.aload_n 0, 1) := by decide +kernel
theorem dX1_leastShortfallOf_26 : decode cX1_leastShortfallOf 26 = .ok (.getfield 18, 3) := by decide +kernel
theorem dX1_leastShortfallOf_29 : decode cX1_leastShortfallOf 29 = .ok (.iload_n 1, 1) := by decide +kernel
theorem dX1_leastShortfallOf_30 : decode cX1_leastShortfallOf 30 = .ok (.iload 4, 2) := by decide +kernel
theorem dX1_leastShortfallOf_32 : decode cX1_leastShortfallOf 32 = .ok (.invokestatic 76, 3) := by decide +kernel
theorem dX1_leastShortfallOf_35 : decode cX1_leastShortfallOf 35 = .ok (.iaload, 1) := by decide +kernel
theorem dX1_leastShortfallOf_36 : decode cX1_leastShortfallOf 36 = .ok (.isub, 1) := by decide +kernel
theorem dX1_leastShortfallOf_37 : decode cX1_leastShortfallOf 37 = .ok (.istore 5, 2) := by decide +kernel
theorem dX1_leastShortfallOf_39 : decode cX1_leastShortfallOf 39 = .ok (.iload 5, 2) := by decide +kernel
theorem dX1_leastShortfallOf_41 : decode cX1_leastShortfallOf 41 = .ok (.ifCond .ge 8, 3) := by decide +kernel
theorem dX1_leastShortfallOf_44 : decode cX1_leastShortfallOf 44 = .ok (.iload_n 2, 1) := by decide +kernel
theorem dX1_leastShortfallOf_45 : decode cX1_leastShortfallOf 45 = .ok (.iload 5, 2) := by decide +kernel
theorem dX1_leastShortfallOf_47 : decode cX1_leastShortfallOf 47 = .ok (.isub, 1) := by decide +kernel
theorem dX1_leastShortfallOf_48 : decode cX1_leastShortfallOf 48 = .ok (.istore_n 2, 1) := by decide +kernel
theorem dX1_leastShortfallOf_49 : decode cX1_leastShortfallOf 49 = .ok (.iconst 0, 1) := by decide +kernel
theorem dX1_leastShortfallOf_50 : decode cX1_leastShortfallOf 50 = .ok (.istore 6, 2) := by decide +kernel
theorem dX1_leastShortfallOf_52 : decode cX1_leastShortfallOf 52 = .ok (.iload 6, 2) := by decide +kernel
theorem dX1_leastShortfallOf_54 : decode cX1_leastShortfallOf 54 = .ok (.iload 5, 2) := by decide +kernel
theorem dX1_leastShortfallOf_56 : decode cX1_leastShortfallOf 56 = .ok (.if_icmp .ge 35, 3) := by decide +kernel
theorem dX1_leastShortfallOf_59 : decode cX1_leastShortfallOf 59 = .ok (.aload_n 0, 1) := by decide +kernel
theorem dX1_leastShortfallOf_60 : decode cX1_leastShortfallOf 60 = .ok (.iload_n 1, 1) := by decide +kernel
theorem dX1_leastShortfallOf_61 : decode cX1_leastShortfallOf 61 = .ok (.iload 4, 2) := by decide +kernel
theorem dX1_leastShortfallOf_63 : decode cX1_leastShortfallOf 63 = .ok (.iload_n 3, 1) := by decide +kernel
theorem dX1_leastShortfallOf_64 : decode cX1_leastShortfallOf 64 = .ok (.invokevirtual 91, 3) := by decide +kernel
theorem dX1_leastShortfallOf_67 : decode cX1_leastShortfallOf 67 = .ok (.istore 7, 2) := by decide +kernel
theorem dX1_leastShortfallOf_69 : decode cX1_leastShortfallOf 69 = .ok (.iload 7, 2) := by decide +kernel
theorem dX1_leastShortfallOf_71 : decode cX1_leastShortfallOf 71 = .ok (.iconst (-1), 1) := by decide +kernel
theorem dX1_leastShortfallOf_72 : decode cX1_leastShortfallOf 72 = .ok (.if_icmp .ne 6, 3) := by decide +kernel
theorem dX1_leastShortfallOf_75 : decode cX1_leastShortfallOf 75 = .ok (.goto 16, 3) := by decide +kernel
theorem dX1_leastShortfallOf_78 : decode cX1_leastShortfallOf 78 = .ok (.iload_n 3, 1) := by decide +kernel
theorem dX1_leastShortfallOf_79 : decode cX1_leastShortfallOf 79 = .ok (.iconst 1, 1) := by decide +kernel
theorem dX1_leastShortfallOf_80 : decode cX1_leastShortfallOf 80 = .ok (.iload 7, 2) := by decide +kernel
theorem dX1_leastShortfallOf_82 : decode cX1_leastShortfallOf 82 = .ok (.ishl, 1) := by decide +kernel
theorem dX1_leastShortfallOf_83 : decode cX1_leastShortfallOf 83 = .ok (.ior, 1) := by decide +kernel
theorem dX1_leastShortfallOf_84 : decode cX1_leastShortfallOf 84 = .ok (.istore_n 3, 1) := by decide +kernel
theorem dX1_leastShortfallOf_85 : decode cX1_leastShortfallOf 85 = .ok (.iinc 6 1, 3) := by decide +kernel
theorem dX1_leastShortfallOf_88 : decode cX1_leastShortfallOf 88 = .ok (.goto (-36), 3) := by decide +kernel
theorem dX1_leastShortfallOf_91 : decode cX1_leastShortfallOf 91 = .ok (.iinc 4 1, 3) := by decide +kernel
theorem dX1_leastShortfallOf_94 : decode cX1_leastShortfallOf 94 = .ok (.goto (-87), 3) := by decide +kernel
theorem dX1_leastShortfallOf_97 : decode cX1_leastShortfallOf 97 = .ok (.iconst 0, 1) := by decide +kernel
theorem dX1_leastShortfallOf_98 : decode cX1_leastShortfallOf 98 = .ok (.istore 4, 2) := by decide +kernel
theorem dX1_leastShortfallOf_100 : decode cX1_leastShortfallOf 100 = .ok (.iload 4, 2) := by decide +kernel
theorem dX1_leastShortfallOf_102 : decode cX1_leastShortfallOf 102 = .ok (.aload_n 0, 1) := by decide +kernel
theorem dX1_leastShortfallOf_103 : decode cX1_leastShortfallOf 103 = .ok (.getfield 58, 3) := by decide +kernel
theorem dX1_leastShortfallOf_106 : decode cX1_leastShortfallOf 106 = .ok (.if_icmp .ge 32, 3) := by decide +kernel
theorem dX1_leastShortfallOf_109 : decode cX1_leastShortfallOf 109 = .ok (.aload_n 0, 1) := by decide +kernel
theorem dX1_leastShortfallOf_110 : decode cX1_leastShortfallOf 110 = .ok (.getfield 25, 3) := by decide +kernel
theorem dX1_leastShortfallOf_113 : decode cX1_leastShortfallOf 113 = .ok (.iload 4, 2) := by decide +kernel
theorem dX1_leastShortfallOf_115 : decode cX1_leastShortfallOf 115 = .ok (.iaload, 1) := by decide +kernel
theorem dX1_leastShortfallOf_116 : decode cX1_leastShortfallOf 116 = .ok (.iload_n 1, 1) := by decide +kernel
theorem dX1_leastShortfallOf_117 : decode cX1_leastShortfallOf 117 = .ok (.if_icmp .ne 15, 3) := by decide +kernel
theorem dX1_leastShortfallOf_120 : decode cX1_leastShortfallOf 120 = .ok (.iload_n 3, 1) := by decide +kernel
theorem dX1_leastShortfallOf_121 : decode cX1_leastShortfallOf 121 = .ok (.iload 4, 2) := by decide +kernel
theorem dX1_leastShortfallOf_123 : decode cX1_leastShortfallOf 123 = .ok (.ishr, 1) := by decide +kernel
theorem dX1_leastShortfallOf_124 : decode cX1_leastShortfallOf 124 = .ok (.iconst 1, 1) := by decide +kernel
theorem dX1_leastShortfallOf_125 : decode cX1_leastShortfallOf 125 = .ok (.iand, 1) := by decide +kernel
theorem dX1_leastShortfallOf_126 : decode cX1_leastShortfallOf 126 = .ok (.ifCond .ne 6, 3) := by decide +kernel
theorem dX1_leastShortfallOf_129 : decode cX1_leastShortfallOf 129 = .ok (.iinc 2 1, 3) := by decide +kernel
theorem dX1_leastShortfallOf_132 : decode cX1_leastShortfallOf 132 = .ok (.iinc 4 1, 3) := by decide +kernel
theorem dX1_leastShortfallOf_135 : decode cX1_leastShortfallOf 135 = .ok (.goto (-35), 3) := by decide +kernel
theorem dX1_leastShortfallOf_138 : decode cX1_leastShortfallOf 138 = .ok (.iload_n 2, 1) := by decide +kernel
theorem dX1_leastShortfallOf_139 : decode cX1_leastShortfallOf 139 = .ok (.ireturn, 1) := by decide +kernel
theorem dX1_mostUrgentShift_0 : decode cX1_mostUrgentShift 0 = .ok (.iconst (-1), 1) := by decide +kernel
theorem dX1_mostUrgentShift_1 : decode cX1_mostUrgentShift 1 = .ok (.istore 4, 2) := by decide +kernel
theorem dX1_mostUrgentShift_3 : decode cX1_mostUrgentShift 3 = .ok (.bipush 48, 2) := by decide +kernel
theorem dX1_mostUrgentShift_5 : decode cX1_mostUrgentShift 5 = .ok (.istore 5, 2) := by decide +kernel
theorem dX1_mostUrgentShift_7 : decode cX1_mostUrgentShift 7 = .ok (.iconst 0, 1) := by decide +kernel
theorem dX1_mostUrgentShift_8 : decode cX1_mostUrgentShift 8 = .ok (.istore 6, 2) := by decide +kernel
theorem dX1_mostUrgentShift_10 : decode cX1_mostUrgentShift 10 = .ok (.iload 6, 2) := by decide +kernel
theorem dX1_mostUrgentShift_12 : decode cX1_mostUrgentShift 12 = .ok (.aload_n 0, 1) := by decide +kernel
theorem dX1_mostUrgentShift_13 : decode cX1_mostUrgentShift 13 = .ok (.getfield 58, 3) := by decide +kernel
theorem dX1_mostUrgentShift_16 : decode cX1_mostUrgentShift 16 = .ok (.if_icmp .ge 79, 3) := by decide +kernel
theorem dX1_mostUrgentShift_19 : decode cX1_mostUrgentShift 19 = .ok (.aload_n 0, 1) := by decide +kernel
theorem dX1_mostUrgentShift_20 : decode cX1_mostUrgentShift 20 = .ok (.getfield 25, 3) := by decide +kernel
theorem dX1_mostUrgentShift_23 : decode cX1_mostUrgentShift 23 = .ok (.iload 6, 2) := by decide +kernel
theorem dX1_mostUrgentShift_25 : decode cX1_mostUrgentShift 25 = .ok (.iaload, 1) := by decide +kernel
theorem dX1_mostUrgentShift_26 : decode cX1_mostUrgentShift 26 = .ok (.iload_n 1, 1) := by decide +kernel
theorem dX1_mostUrgentShift_27 : decode cX1_mostUrgentShift 27 = .ok (.if_icmp .ne 62, 3) := by decide +kernel
theorem dX1_mostUrgentShift_30 : decode cX1_mostUrgentShift 30 = .ok (.iload_n 3, 1) := by decide +kernel
theorem dX1_mostUrgentShift_31 : decode cX1_mostUrgentShift 31 = .ok (.iload 6, 2) := by decide +kernel
theorem dX1_mostUrgentShift_33 : decode cX1_mostUrgentShift 33 = .ok (.ishr, 1) := by decide +kernel
theorem dX1_mostUrgentShift_34 : decode cX1_mostUrgentShift 34 = .ok (.iconst 1, 1) := by decide +kernel
theorem dX1_mostUrgentShift_35 : decode cX1_mostUrgentShift 35 = .ok (.iand, 1) := by decide +kernel
theorem dX1_mostUrgentShift_36 : decode cX1_mostUrgentShift 36 = .ok (.ifCond .ne 53, 3) := by decide +kernel
theorem dX1_mostUrgentShift_39 : decode cX1_mostUrgentShift 39 = .ok (.aload_n 0, 1) := by decide +kernel
theorem dX1_mostUrgentShift_40 : decode cX1_mostUrgentShift 40 = .ok (.getfield 37, 3) := by decide +kernel
theorem dX1_mostUrgentShift_43 : decode cX1_mostUrgentShift 43 = .ok (.iload 6, 2) := by decide +kernel
theorem dX1_mostUrgentShift_45 : decode cX1_mostUrgentShift 45 = .ok (.iaload, 1) := by decide +kernel
theorem dX1_mostUrgentShift_46 : decode cX1_mostUrgentShift 46 = .ok (.istore 7, 2) := by decide +kernel
theorem dX1_mostUrgentShift_48 : decode cX1_mostUrgentShift 48 = .ok (.aload_n 0, 1) := by decide +kernel
theorem dX1_mostUrgentShift_49 : decode cX1_mostUrgentShift 49 = .ok (.getfield 49, 3) := by decide +kernel
theorem dX1_mostUrgentShift_52 : decode cX1_mostUrgentShift 52 = .ok (.iload 7, 2) := by decide +kernel
theorem dX1_mostUrgentShift_54 : decode cX1_mostUrgentShift 54 = .ok (.iaload, 1) := by decide +kernel
theorem dX1_mostUrgentShift_55 : decode cX1_mostUrgentShift 55 = .ok (.istore 8, 2) := by decide +kernel
theorem dX1_mostUrgentShift_57 : decode cX1_mostUrgentShift 57 = .ok (.aload_n 0, 1) := by decide +kernel
theorem dX1_mostUrgentShift_58 : decode cX1_mostUrgentShift 58 = .ok (.getfield 46, 3) := by decide +kernel
theorem dX1_mostUrgentShift_61 : decode cX1_mostUrgentShift 61 = .ok (.iload 7, 2) := by decide +kernel
theorem dX1_mostUrgentShift_63 : decode cX1_mostUrgentShift 63 = .ok (.iaload, 1) := by decide +kernel
theorem dX1_mostUrgentShift_64 : decode cX1_mostUrgentShift 64 = .ok (.iload_n 2, 1) := by decide +kernel
theorem dX1_mostUrgentShift_65 : decode cX1_mostUrgentShift 65 = .ok (.if_icmp .gt 24, 3) := by decide +kernel
theorem dX1_mostUrgentShift_68 : decode cX1_mostUrgentShift 68 = .ok (.iload_n 2, 1) := by decide +kernel
theorem dX1_mostUrgentShift_69 : decode cX1_mostUrgentShift 69 = .ok (.iload 8, 2) := by decide +kernel
theorem dX1_mostUrgentShift_71 : decode cX1_mostUrgentShift 71 = .ok (.if_icmp .gt 18, 3) := by decide +kernel
theorem dX1_mostUrgentShift_74 : decode cX1_mostUrgentShift 74 = .ok (.iload 8, 2) := by decide +kernel
theorem dX1_mostUrgentShift_76 : decode cX1_mostUrgentShift 76 = .ok (.iload 5, 2) := by decide +kernel
theorem dX1_mostUrgentShift_78 : decode cX1_mostUrgentShift 78 = .ok (.if_icmp .ge 11, 3) := by decide +kernel
theorem dX1_mostUrgentShift_81 : decode cX1_mostUrgentShift 81 = .ok (.iload 6, 2) := by decide +kernel
theorem dX1_mostUrgentShift_83 : decode cX1_mostUrgentShift 83 = .ok (.istore 4, 2) := by decide +kernel
theorem dX1_mostUrgentShift_85 : decode cX1_mostUrgentShift 85 = .ok (.iload 8, 2) := by decide +kernel
theorem dX1_mostUrgentShift_87 : decode cX1_mostUrgentShift 87 = .ok (.istore 5, 2) := by decide +kernel
theorem dX1_mostUrgentShift_89 : decode cX1_mostUrgentShift 89 = .ok (.iinc 6 1, 3) := by decide +kernel
theorem dX1_mostUrgentShift_92 : decode cX1_mostUrgentShift 92 = .ok (.goto (-82), 3) := by decide +kernel
theorem dX1_mostUrgentShift_95 : decode cX1_mostUrgentShift 95 = .ok (.iload 4, 2) := by decide +kernel
theorem dX1_mostUrgentShift_97 : decode cX1_mostUrgentShift 97 = .ok (.ireturn, 1) := by decide +kernel
theorem dX2_init_0 : decode cX2_init 0 = .ok (.aload_n 0, 1) := by decide +kernel
theorem dX2_init_1 : decode cX2_init 1 = .ok (.invokespecial 3, 3) := by decide +kernel
theorem dX2_init_4 : decode cX2_init 4 = .ok (.aload_n 0, 1) := by decide +kernel
theorem dX2_init_5 : decode cX2_init 5 = .ok (.aload_n 1, 1) := by decide +kernel
theorem dX2_init_6 : decode cX2_init 6 = .ok (.putfield 9, 3) := by decide +kernel
theorem dX2_init_9 : decode cX2_init 9 = .ok (.aload_n 0, 1) := by decide +kernel
theorem dX2_init_10 : decode cX2_init 10 = .ok (.aload_n 2, 1) := by decide +kernel
theorem dX2_init_11 : decode cX2_init 11 = .ok (.putfield 15, 3) := by decide +kernel
theorem dX2_init_14 : decode cX2_init 14 = .ok (.return_, 1) := by decide +kernel
set_option maxRecDepth 20000 in
theorem ggX2_readAll_X1_clear : GoodIn wsX2_readAll wsX1_clear := goodIn_r _ [12, 13, 14, 15, 16, 17, 18, 19, 20, 21, 22, 23, 24, 215, 216, 217, 218, 219, 220, 221, 222, 223, 224, 225, 226, 227, 228, 229, 230, 231] (by decide +kernel) (by decide +kernel)
set_option maxRecDepth 20000 in
theorem gX2_readAll_X1_clear : GoodIn wsX2_readAll (wsV RX2 19 RX1 yX1_clear wsX1_clear) := goodIn_app (goodIn_of _ (by decide +kernel)) ggX2_readAll_X1_clear
set_option maxRecDepth 20000 in
theorem ggX2_readAll_X2_findToken : GoodIn wsX2_readAll wsX2_findToken := goodIn_r _ [29, 4, 6, 30, 5, 31, 32, 33, 28, 34, 35, 36, 37, 38, 39, 40, 41, 42, 43, 44, 45, 46, 47, 48, 49, 50, 51, 52, 53, 54, 55, 56, 57, 58, 59, 202, 203, 204, 205, 206, 207, 208, 209, 210, 211, 212, 213, 214, 232, 233] (by decide +kernel) (by decide +kernel)
set_option maxRecDepth 20000 in
theorem gX2_readAll_X2_findToken : GoodIn wsX2_readAll (wsV RX2 37 RX2 yX2_findToken wsX2_findToken) := goodIn_app (goodIn_of _ (by decide +kernel)) ggX2_readAll_X2_findToken
set_option maxRecDepth 20000 in
theorem ggX2_readAll_X2_acceptToken : GoodIn wsX2_readAll wsX2_acceptToken := goodIn_r _ [63, 5, 64, 65, 66, 28, 67, 2, 1, 3, 68, 69, 70, 71, 4, 6, 30, 72, 73, 74, 75, 76, 77, 78, 79, 80, 81, 82, 83, 36, 37, 38, 39, 40, 41, 42, 84, 85, 86, 87, 88, 89, 90, 91, 92, 93, 94, 95, 96, 97, 98, 99, 100, 101, 102, 103, 104, 105, 106, 107, 108, 109, 110, 111, 112, 113, 114, 115, 116, 117, 118, 119, 120, 121, 122, 123, 11, 124, 16, 125, 126, 127, 128, 129, 130, 131, 132, 17, 133, 134, 135, 136, 18, 137, 138, 139, 140, 141, 142, 143, 144, 145, 146, 147, 148, 149, 150, 151, 152, 153, 154, 155, 156, 157, 158, 159, 160, 161, 162, 163, 164, 165, 166, 167, 168, 169, 170, 171, 172, 20, 173, 174, 175, 176, 177, 178, 179, 180, 181, 182, 183, 19, 184, 185, 186, 187, 188, 189, 190, 191, 192, 193, 194, 195, 196, 197, 202, 203, 204, 205, 206, 207, 208, 209, 210, 211, 212, 213, 214, 232, 233, 215, 216, 217, 218, 219, 220, 221, 222, 223, 224, 225, 226, 227, 228, 229, 230, 231] (by decide +kernel) (by decide +kernel)
set_option maxRecDepth 20000 in
theorem gX2_readAll_X2_acceptToken : GoodIn wsX2_readAll (wsV RX2 46 RX2 yX2_acceptToken wsX2_acceptToken) := goodIn_app (goodIn_of _ (by decide +kernel)) ggX2_readAll_X2_acceptToken
set_option maxRecDepth 20000 in
theorem ggX2_readAll_X2_closeText : GoodIn wsX2_readAll wsX2_closeText := goodIn_r _ [201, 7, 30, 35, 2, 202, 203, 204, 205, 206, 207, 208, 209, 210, 211, 212, 213, 214, 232, 233] (by decide +kernel) (by decide +kernel)
set_option maxRecDepth 20000 in
theorem gX2_readAll_X2_closeText : GoodIn wsX2_readAll (wsV RX2 53 RX2 yX2_closeText wsX2_closeText) := goodIn_app (goodIn_of _ (by decide +kernel)) ggX2_readAll_X2_closeText
theorem dX2_readAll_0 : decode cX2_readAll 0 = .ok (.aload_n 0, 1) := by decide +kernel
theorem dX2_readAll_1 : decode cX2_readAll 1 = .ok (.getfield 15, 3) := by decide +kernel
theorem dX2_readAll_4 : decode cX2_readAll 4 = .ok (.invokevirtual 19, 3) := by decide +kernel
theorem dX2_readAll_7 : decode cX2_readAll 7 = .ok (.aload_n 0, 1) := by decide +kernel
theorem dX2_readAll_8 : decode cX2_readAll 8 = .ok (.iconst 0, 1) := by decide +kernel
theorem dX2_readAll_9 : decode cX2_readAll 9 = .ok (.putfield 24, 3) := by decide +kernel
theorem dX2_readAll_12 : decode cX2_readAll 12 = .ok (.aload_n 0, 1) := by decide +kernel
theorem dX2_readAll_13 : decode cX2_readAll 13 = .ok (.iconst 0, 1) := by decide +kernel
theorem dX2_readAll_14 : decode cX2_readAll 14 = .ok (.putfield 28, 3) := by decide +kernel
theorem dX2_readAll_17 : decode cX2_readAll 17 = .ok (.aload_n 0, 1) := by decide +kernel
theorem dX2_readAll_18 : decode cX2_readAll 18 = .ok (.iconst 0, 1) := by decide +kernel
theorem dX2_readAll_19 : decode cX2_readAll 19 = .ok (.putfield 32, 3) := by decide +kernel
theorem dX2_readAll_22 : decode cX2_readAll 22 = .ok (.iconst 0, 1) := by decide +kernel
theorem dX2_readAll_23 : decode cX2_readAll 23 = .ok (.istore_n 1, 1) := by decide +kernel
theorem dX2_readAll_24 : decode cX2_readAll 24 = .ok (.iload_n 1, 1) := by decide +kernel
theorem dX2_readAll_25 : decode cX2_readAll 25 = .ok (.sipush 640, 3) := by decide +kernel
theorem dX2_readAll_28 : decode cX2_readAll 28 = .ok (.if_icmp .gt 54, 3) := by decide +kernel
theorem dX2_readAll_31 : decode cX2_readAll 31 = .ok (.aload_n 0, 1) := by decide +kernel
theorem dX2_readAll_32 : decode cX2_readAll 32 = .ok (.invokevirtual 37, 3) := by decide +kernel
theorem dX2_readAll_35 : decode cX2_readAll 35 = .ok (.aload_n 0, 1) := by decide +kernel
theorem dX2_readAll_36 : decode cX2_readAll 36 = .ok (.getfield 40, 3) := by decide +kernel
theorem dX2_readAll_39 : decode cX2_readAll 39 = .ok (.iconst 4, 1) := by decide +kernel
theorem dX2_readAll_40 : decode cX2_readAll 40 = .ok (.if_icmp .eq 42, 3) := by decide +kernel
theorem dX2_readAll_43 : decode cX2_readAll 43 = .ok (.aload_n 0, 1) := by decide +kernel
theorem dX2_readAll_44 : decode cX2_readAll 44 = .ok (.getfield 43, 3) := by decide +kernel
theorem dX2_readAll_47 : decode cX2_readAll 47 = .ok (.sipush 600, 3) := by decide +kernel
theorem dX2_readAll_50 : decode cX2_readAll 50 = .ok (.if_icmp .lt 6, 3) := by decide +kernel
theorem dX2_readAll_53 : decode cX2_readAll 53 = .ok (.goto 29, 3) := by decide +kernel
theorem dX2_readAll_56 : decode cX2_readAll 56 = .ok (.aload_n 0, 1) := by decide +kernel
theorem dX2_readAll_57 : decode cX2_readAll 57 = .ok (.aload_n 0, 1) := by decide +kernel
theorem dX2_readAll_58 : decode cX2_readAll 58 = .ok (.invokevirtual 46, 3) := by decide +kernel
theorem dX2_readAll_61 : decode cX2_readAll 61 = .ok (.putfield 50, 3) := by decide +kernel
theorem dX2_readAll_64 : decode cX2_readAll 64 = .ok (.aload_n 0, 1) := by decide +kernel
theorem dX2_readAll_65 : decode cX2_readAll 65 = .ok (.getfield 50, 3) := by decide +kernel
theorem dX2_readAll_68 : decode cX2_readAll 68 = .ok (.ifCond .eq 8, 3) := by decide +kernel
theorem dX2_readAll_71 : decode cX2_readAll 71 = .ok (.aload_n 0, 1) := by decide +kernel
theorem dX2_readAll_72 : decode cX2_readAll 72 = .ok (.getfield 43, 3) := by decide +kernel
theorem dX2_readAll_75 : decode cX2_readAll 75 = .ok (.ireturn, 1) := by decide +kernel
theorem dX2_readAll_76 : decode cX2_readAll 76 = .ok (.iinc 1 1, 3) := by decide +kernel
theorem dX2_readAll_79 : decode cX2_readAll 79 = .ok (.goto (-55), 3) := by decide +kernel
theorem dX2_readAll_82 : decode cX2_readAll 82 = .ok (.aload_n 0, 1) := by decide +kernel
theorem dX2_readAll_83 : decode cX2_readAll 83 = .ok (.invokevirtual 53, 3) := by decide +kernel
theorem dX2_readAll_86 : decode cX2_readAll 86 = .ok (.ireturn, 1) := by decide +kernel
theorem dX2_closeText_0 : decode cX2_closeText 0 = .ok (.aload_n 0, 1) := by decide +kernel
theorem dX2_closeText_1 : decode cX2_closeText 1 = .ok (.iconst 1, 1) := by decide +kernel
theorem dX2_closeText_2 : decode cX2_closeText 2 = .ok (.putfield 50, 3) := by decide +kernel
theorem dX2_closeText_5 : decode cX2_closeText 5 = .ok (.aload_n 0, 1) := by decide +kernel
theorem dX2_closeText_6 : decode cX2_closeText 6 = .ok (.getfield 9, 3) := by decide +kernel
theorem dX2_closeText_9 : decode cX2_closeText 9 = .ok (.getfield 56, 3) := by decide +kernel
theorem dX2_closeText_12 : decode cX2_closeText 12 = .ok (.sipush 600, 3) := by decide +kernel
theorem dX2_closeText_15 : decode cX2_closeText 15 = .ok (.if_icmp .le 7, 3) := by decide +kernel
theorem dX2_closeText_18 : decode cX2_closeText 18 = .ok (.sipush 600, 3) := by decide +kernel
theorem dX2_closeText_21 : decode cX2_closeText 21 = .ok (.ireturn, 1) := by decide +kernel
theorem dX2_closeText_22 : decode cX2_closeText 22 = .ok (.aload_n 0, 1) := by decide +kernel
theorem dX2_closeText_23 : decode cX2_closeText 23 = .ok (.getfield 24, 3) := by decide +kernel
theorem dX2_closeText_26 : decode cX2_closeText 26 = .ok (.iconst 1, 1) := by decide +kernel
theorem dX2_closeText_27 : decode cX2_closeText 27 = .ok (.if_icmp .eq 19, 3) := by decide +kernel
theorem dX2_closeText_30 : decode cX2_closeText 30 = .ok (.aload_n 0, 1) := by decide +kernel
theorem dX2_closeText_31 : decode cX2_closeText 31 = .ok (.getfield 24, 3) := by decide +kernel
theorem dX2_closeText_34 : decode cX2_closeText 34 = .ok (.iconst 2, 1) := by decide +kernel
theorem dX2_closeText_35 : decode cX2_closeText 35 = .ok (.if_icmp .eq 11, 3) := by decide +kernel
theorem dX2_closeText_38 : decode cX2_closeText 38 = .ok (.aload_n 0, 1) := by decide +kernel
theorem dX2_closeText_39 : decode cX2_closeText 39 = .ok (.getfield 9, 3) := by decide +kernel
theorem dX2_closeText_42 : decode cX2_closeText 42 = .ok (.getfield 56, 3) := by decide +kernel
theorem dX2_closeText_45 : decode cX2_closeText 45 = .ok (.ireturn, 1) := by decide +kernel
theorem dX2_closeText_46 : decode cX2_closeText 46 = .ok (.aload_n 0, 1) := by decide +kernel
theorem dX2_closeText_47 : decode cX2_closeText 47 = .ok (.iconst 0, 1) := by decide +kernel
theorem dX2_closeText_48 : decode cX2_closeText 48 = .ok (.putfield 50, 3) := by decide +kernel
theorem dX2_closeText_51 : decode cX2_closeText 51 = .ok (.iconst (-1), 1) := by decide +kernel
theorem dX2_closeText_52 : decode cX2_closeText 52 = .ok (.ireturn, 1) := by decide +kernel
set_option maxRecDepth 20000 in
theorem ggX2_findToken_X2_endOfBlanks : GoodIn wsX2_findToken wsX2_endOfBlanks := goodIn_r _ [9, 3, 10, 11, 12, 13, 14, 15, 16, 17, 18, 19, 8, 20, 35, 36, 37, 38, 39, 40, 41, 42, 43, 44, 45, 46, 47, 48, 49] (by decide +kernel) (by decide +kernel)
set_option maxRecDepth 20000 in
theorem gX2_findToken_X2_endOfBlanks : GoodIn wsX2_findToken (wsV RX2 59 RX2 yX2_endOfBlanks wsX2_endOfBlanks) := goodIn_app (goodIn_of _ (by decide +kernel)) ggX2_findToken_X2_endOfBlanks
set_option maxRecDepth 20000 in
theorem ggX2_findToken_X4_byteAt : GoodIn wsX2_findToken wsX4_byteAt := goodIn_r _ [15, 16, 17, 48, 49] (by decide +kernel) (by decide +kernel)
set_option maxRecDepth 20000 in
theorem gX2_findToken_X4_byteAt : GoodIn wsX2_findToken (wsV RX2 63 RX4 yX4_byteAt wsX4_byteAt) := goodIn_app (goodIn_of _ (by decide +kernel)) ggX2_findToken_X4_byteAt
set_option maxRecDepth 20000 in
theorem ggX2_findToken_X2_isLetter : GoodIn wsX2_findToken wsX2_isLetter := goodIn_r _ [23] (by decide +kernel) (by decide +kernel)
set_option maxRecDepth 20000 in
theorem gX2_findToken_X2_isLetter : GoodIn wsX2_findToken (va_wsS RX2 66 yX2_isLetter wsX2_isLetter) := goodIn_app (goodIn_of _ (by decide +kernel)) ggX2_findToken_X2_isLetter
set_option maxRecDepth 20000 in
theorem ggX2_findToken_X2_isDigit : GoodIn wsX2_findToken wsX2_isDigit := goodIn_r _ [26] (by decide +kernel) (by decide +kernel)
set_option maxRecDepth 20000 in
theorem gX2_findToken_X2_isDigit : GoodIn wsX2_findToken (va_wsS RX2 70 yX2_isDigit wsX2_isDigit) := goodIn_app (goodIn_of _ (by decide +kernel)) ggX2_findToken_X2_isDigit
set_option maxRecDepth 20000 in
theorem ggX2_findToken_X2_endOfRun : GoodIn wsX2_findToken wsX2_endOfRun := goodIn_r _ [30, 3, 10, 11, 12, 13, 14, 15, 16, 17, 21, 22, 8, 23, 24, 25, 26, 35, 36, 37, 38, 39, 40, 41, 42, 43, 44, 45, 46, 47, 48, 49] (by decide +kernel) (by decide +kernel)
set_option maxRecDepth 20000 in
theorem gX2_findToken_X2_endOfRun : GoodIn wsX2_findToken (wsV RX2 73 RX2 yX2_endOfRun wsX2_endOfRun) := goodIn_app (goodIn_of _ (by decide +kernel)) ggX2_findToken_X2_endOfRun
set_option maxRecDepth 20000 in
theorem ggX2_findToken_X2_kindOfRun : GoodIn wsX2_findToken wsX2_kindOfRun := goodIn_r _ [34, 2, 1, 3, 11, 12, 13, 14, 15, 16, 17, 24, 25, 8, 26, 35, 36, 37, 38, 39, 40, 41, 42, 43, 44, 45, 46, 47, 48, 49] (by decide +kernel) (by decide +kernel)
set_option maxRecDepth 20000 in
theorem gX2_findToken_X2_kindOfRun : GoodIn wsX2_findToken (wsV RX2 76 RX2 yX2_kindOfRun wsX2_kindOfRun) := goodIn_app (goodIn_of _ (by decide +kernel)) ggX2_findToken_X2_kindOfRun
theorem dX2_findToken_0 : decode cX2_findToken 0 = .ok (.aload_n 0, 1) := by decide +kernel
theorem dX2_findToken_1 : decode cX2_findToken 1 = .ok (.aload_n 0, 1) := by decide +kernel
theorem dX2_findToken_2 : decode cX2_findToken 2 = .ok (.aload_n 0, 1) := by decide +kernel
theorem dX2_findToken_3 : decode cX2_findToken 3 = .ok (.getfield 32, 3) := by decide +kernel
theorem dX2_findToken_6 : decode cX2_findToken 6 = .ok (.invokevirtual 59, 3) := by decide +kernel
theorem dX2_findToken_9 : decode cX2_findToken 9 = .ok (.putfield 43, 3) := by decide +kernel
theorem dX2_findToken_12 : decode cX2_findToken 12 = .ok (.aload_n 0, 1) := by decide +kernel
theorem dX2_findToken_13 : decode cX2_findToken 13 = .ok (.aload_n 0, 1) := by decide +kernel
theorem dX2_findToken_14 : decode cX2_findToken 14 = .ok (.getfield 43, 3) := by decide +kernel
theorem dX2_findToken_17 : decode cX2_findToken 17 = .ok (.iconst 1, 1) := by decide +kernel
theorem dX2_findToken_18 : decode cX2_findToken 18 = .ok (.iadd, 1) := by decide +kernel
theorem dX2_findToken_19 : decode cX2_findToken 19 = .ok (.putfield 32, 3) := by decide +kernel
theorem dX2_findToken_22 : decode cX2_findToken 22 = .ok (.aload_n 0, 1) := by decide +kernel
theorem dX2_findToken_23 : decode cX2_findToken 23 = .ok (.getfield 9, 3) := by decide +kernel
theorem dX2_findToken_26 : decode cX2_findToken 26 = .ok (.aload_n 0, 1) := by decide +kernel
theorem dX2_findToken_27 : decode cX2_findToken 27 = .ok (.getfield 43, 3) := by decide +kernel
theorem dX2_findToken_30 : decode cX2_findToken 30 = .ok (.invokevirtual 63, 3) := by decide +kernel
theorem dX2_findToken_33 : decode cX2_findToken 33 = .ok (.istore_n 1, 1) := by decide +kernel
theorem dX2_findToken_34 : decode cX2_findToken 34 = .ok (.iload_n 1, 1) := by decide +kernel
theorem dX2_findToken_35 : decode cX2_findToken 35 = .ok (.iconst (-1), 1) := by decide +kernel
theorem dX2_findToken_36 : decode cX2_findToken 36 = .ok (.if_icmp .ne 11, 3) := by decide +kernel
theorem dX2_findToken_39 : decode cX2_findToken 39 = .ok (.aload_n 0, 1) := by decide +kernel
theorem dX2_findToken_40 : decode cX2_findToken 40 = .ok (.iconst 4, 1) := by decide +kernel
theorem dX2_findToken_41 : decode cX2_findToken 41 = .ok (.putfield 40, 3) := by decide +kernel
theorem dX2_findToken_44 : decode cX2_findToken 44 = .ok (.goto 59, 3) := by decide +kernel
theorem dX2_findToken_47 : decode cX2_findToken 47 = .ok (.iload_n 1, 1) := by decide +kernel
theorem dX2_findToken_48 : decode cX2_findToken 48 = .ok (.bipush 59, 2) := by decide +kernel
theorem dX2_findToken_50 : decode cX2_findToken 50 = .ok (.if_icmp .ne 11, 3) := by decide +kernel
theorem dX2_findToken_53 : decode cX2_findToken 53 = .ok (.aload_n 0, 1) := by decide +kernel
theorem dX2_findToken_54 : decode cX2_findToken 54 = .ok (.iconst 3, 1) := by decide +kernel
theorem dX2_findToken_55 : decode cX2_findToken 55 = .ok (.putfield 40, 3) := by decide +kernel
theorem dX2_findToken_58 : decode cX2_findToken 58 = .ok (.goto 45, 3) := by decide +kernel
theorem dX2_findToken_61 : decode cX2_findToken 61 = .ok (.iload_n 1, 1) := by decide +kernel
theorem dX2_findToken_62 : decode cX2_findToken 62 = .ok (.invokestatic 66, 3) := by decide +kernel
theorem dX2_findToken_65 : decode cX2_findToken 65 = .ok (.ifCond .ne 10, 3) := by decide +kernel
theorem dX2_findToken_68 : decode cX2_findToken 68 = .ok (.iload_n 1, 1) := by decide +kernel
theorem dX2_findToken_69 : decode cX2_findToken 69 = .ok (.invokestatic 70, 3) := by decide +kernel
theorem dX2_findToken_72 : decode cX2_findToken 72 = .ok (.ifCond .eq 26, 3) := by decide +kernel
theorem dX2_findToken_75 : decode cX2_findToken 75 = .ok (.aload_n 0, 1) := by decide +kernel
theorem dX2_findToken_76 : decode cX2_findToken 76 = .ok (.aload_n 0, 1) := by decide +kernel
theorem dX2_findToken_77 : decode cX2_findToken 77 = .ok (.aload_n 0, 1) := by decide +kernel
theorem dX2_findToken_78 : decode cX2_findToken 78 = .ok (.getfield 32, 3) := by decide +kernel
theorem dX2_findToken_81 : decode cX2_findToken 81 = .ok (.invokevirtual 73, 3) := by decide +kernel
theorem dX2_findToken_84 : decode cX2_findToken 84 = .ok (.putfield 32, 3) := by decide +kernel
theorem dX2_findToken_87 : decode cX2_findToken 87 = .ok (.aload_n 0, 1) := by decide +kernel
theorem dX2_findToken_88 : decode cX2_findToken 88 = .ok (.aload_n 0, 1) := by decide +kernel
theorem dX2_findToken_89 : decode cX2_findToken 89 = .ok (.invokevirtual 76, 3) := by decide +kernel
theorem dX2_findToken_92 : decode cX2_findToken 92 = .ok (.putfield 40, 3) := by decide +kernel
theorem dX2_findToken_95 : decode cX2_findToken 95 = .ok (.goto 8, 3) := by decide +kernel
theorem dX2_findToken_98 : decode cX2_findToken 98 = .ok (.aload_n 0, 1) := by decide +kernel
theorem dX2_findToken_99 : decode cX2_findToken 99 = .ok (.iconst 0, 1) := by decide +kernel
theorem dX2_findToken_100 : decode cX2_findToken 100 = .ok (.putfield 40, 3) := by decide +kernel
theorem dX2_findToken_103 : decode cX2_findToken 103 = .ok (.return_, 1) := by decide +kernel
set_option maxRecDepth 20000 in
theorem ggX2_endOfBlanks_X4_byteAt : GoodIn wsX2_endOfBlanks wsX4_byteAt := goodIn_r _ [7, 8, 9, 27, 28] (by decide +kernel) (by decide +kernel)
set_option maxRecDepth 20000 in
theorem gX2_endOfBlanks_X4_byteAt : GoodIn wsX2_endOfBlanks (wsV RX2 63 RX4 yX4_byteAt wsX4_byteAt) := goodIn_app (goodIn_of _ (by decide +kernel)) ggX2_endOfBlanks_X4_byteAt
set_option maxRecDepth 20000 in
theorem ggX2_endOfBlanks_X2_isBlank : GoodIn wsX2_endOfBlanks wsX2_isBlank := goodIn_r _ [13] (by decide +kernel) (by decide +kernel)
set_option maxRecDepth 20000 in
theorem gX2_endOfBlanks_X2_isBlank : GoodIn wsX2_endOfBlanks (va_wsS RX2 79 yX2_isBlank wsX2_isBlank) := goodIn_app (goodIn_of _ (by decide +kernel)) ggX2_endOfBlanks_X2_isBlank
theorem dX2_endOfBlanks_0 : decode cX2_endOfBlanks 0 = .ok (.iload_n 1, 1) := by decide +kernel
theorem dX2_endOfBlanks_1 : decode cX2_endOfBlanks 1 = .ok (.istore_n 2, 1) := by decide +kernel
theorem dX2_endOfBlanks_2 : decode cX2_endOfBlanks 2 = .ok (.iload_n 2, 1) := by decide +kernel
theorem dX2_endOfBlanks_3 : decode cX2_endOfBlanks 3 = .ok (.aload_n 0, 1) := by decide +kernel
theorem dX2_endOfBlanks_4 : decode cX2_endOfBlanks 4 = .ok (.getfield 9, 3) := by decide +kernel
theorem dX2_endOfBlanks_7 : decode cX2_endOfBlanks 7 = .ok (.getfield 56, 3) := by decide +kernel
theorem dX2_endOfBlanks_10 : decode cX2_endOfBlanks 10 = .ok (.if_icmp .ge 23, 3) := by decide +kernel
theorem dX2_endOfBlanks_13 : decode cX2_endOfBlanks 13 = .ok (.aload_n 0, 1) := by decide +kernel
theorem dX2_endOfBlanks_14 : decode cX2_endOfBlanks 14 = .ok (.getfield 9, 3) := by decide +kernel
theorem dX2_endOfBlanks_17 : decode cX2_endOfBlanks 17 = .ok (.iload_n 2, 1) := by decide +kernel
theorem dX2_endOfBlanks_18 : decode cX2_endOfBlanks 18 = .ok (.invokevirtual 63, 3) := by decide +kernel
theorem dX2_endOfBlanks_21 : decode cX2_endOfBlanks 21 = .ok (.invokestatic 79, 3) := by decide +kernel
theorem dX2_endOfBlanks_24 : decode cX2_endOfBlanks 24 = .ok (.ifCond .eq 9, 3) := by decide +kernel
theorem dX2_endOfBlanks_27 : decode cX2_endOfBlanks 27 = .ok (.iinc 2 1, 3) := by decide +kernel
theorem dX2_endOfBlanks_30 : decode cX2_endOfBlanks 30 = .ok (.goto (-28), 3) := by decide +kernel
theorem dX2_endOfBlanks_33 : decode cX2_endOfBlanks 33 = .ok (.iload_n 2, 1) := by decide +kernel
theorem dX2_endOfBlanks_34 : decode cX2_endOfBlanks 34 = .ok (.ireturn, 1) := by decide +kernel
set_option maxRecDepth 20000 in
theorem ggX2_endOfRun_X4_byteAt : GoodIn wsX2_endOfRun wsX4_byteAt := goodIn_r _ [7, 8, 9, 30, 31] (by decide +kernel) (by decide +kernel)
set_option maxRecDepth 20000 in
theorem gX2_endOfRun_X4_byteAt : GoodIn wsX2_endOfRun (wsV RX2 63 RX4 yX4_byteAt wsX4_byteAt) := goodIn_app (goodIn_of _ (by decide +kernel)) ggX2_endOfRun_X4_byteAt
set_option maxRecDepth 20000 in
theorem ggX2_endOfRun_X2_isLetter : GoodIn wsX2_endOfRun wsX2_isLetter := goodIn_r _ [13] (by decide +kernel) (by decide +kernel)
set_option maxRecDepth 20000 in
theorem gX2_endOfRun_X2_isLetter : GoodIn wsX2_endOfRun (va_wsS RX2 66 yX2_isLetter wsX2_isLetter) := goodIn_app (goodIn_of _ (by decide +kernel)) ggX2_endOfRun_X2_isLetter
set_option maxRecDepth 20000 in
theorem ggX2_endOfRun_X2_isDigit : GoodIn wsX2_endOfRun wsX2_isDigit := goodIn_r _ [16] (by decide +kernel) (by decide +kernel)
set_option maxRecDepth 20000 in
theorem gX2_endOfRun_X2_isDigit : GoodIn wsX2_endOfRun (va_wsS RX2 70 yX2_isDigit wsX2_isDigit) := goodIn_app (goodIn_of _ (by decide +kernel)) ggX2_endOfRun_X2_isDigit
theorem dX2_endOfRun_0 : decode cX2_endOfRun 0 = .ok (.iload_n 1, 1) := by decide +kernel
theorem dX2_endOfRun_1 : decode cX2_endOfRun 1 = .ok (.istore_n 2, 1) := by decide +kernel
theorem dX2_endOfRun_2 : decode cX2_endOfRun 2 = .ok (.iload_n 2, 1) := by decide +kernel
theorem dX2_endOfRun_3 : decode cX2_endOfRun 3 = .ok (.aload_n 0, 1) := by decide +kernel
theorem dX2_endOfRun_4 : decode cX2_endOfRun 4 = .ok (.getfield 9, 3) := by decide +kernel
theorem dX2_endOfRun_7 : decode cX2_endOfRun 7 = .ok (.getfield 56, 3) := by decide +kernel
theorem dX2_endOfRun_10 : decode cX2_endOfRun 10 = .ok (.if_icmp .ge 37, 3) := by decide +kernel
theorem dX2_endOfRun_13 : decode cX2_endOfRun 13 = .ok (.aload_n 0, 1) := by decide +kernel
theorem dX2_endOfRun_14 : decode cX2_endOfRun 14 = .ok (.getfield 9, 3) := by decide +kernel
theorem dX2_endOfRun_17 : decode cX2_endOfRun 17 = .ok (.iload_n 2, 1) := by decide +kernel
theorem dX2_endOfRun_18 : decode cX2_endOfRun 18 = .ok (.invokevirtual 63, 3) := by decide +kernel
theorem dX2_endOfRun_21 : decode cX2_endOfRun 21 = .ok (.invokestatic 66, 3) := by decide +kernel
theorem dX2_endOfRun_24 : decode cX2_endOfRun 24 = .ok (.ifCond .ne 17, 3) := by decide +kernel
theorem dX2_endOfRun_27 : decode cX2_endOfRun 27 = .ok (.aload_n 0, 1) := by decide +kernel
theorem dX2_endOfRun_28 : decode cX2_endOfRun 28 = .ok (.getfield 9, 3) := by decide +kernel
theorem dX2_endOfRun_31 : decode cX2_endOfRun 31 = .ok (.iload_n 2, 1) := by decide +kernel
theorem dX2_endOfRun_32 : decode cX2_endOfRun 32 = .ok (.invokevirtual 63, 3) := by decide +kernel
theorem dX2_endOfRun_35 : decode cX2_endOfRun 35 = .ok (.invokestatic 70, 3) := by decide +kernel
theorem dX2_endOfRun_38 : decode cX2_endOfRun 38 = .ok (.ifCond .eq 9, 3) := by decide +kernel
theorem dX2_endOfRun_41 : decode cX2_endOfRun 41 = .ok (.iinc 2 1, 3) := by decide +kernel
theorem dX2_endOfRun_44 : decode cX2_endOfRun 44 = .ok (.goto (-42), 3) := by decide +kernel
theorem dX2_endOfRun_47 : decode cX2_endOfRun 47 = .ok (.iload_n 2, 1) := by decide +kernel
theorem dX2_endOfRun_48 : decode cX2_endOfRun 48 = .ok (.ireturn, 1) := by decide +kernel
set_option maxRecDepth 20000 in
theorem ggX2_kindOfRun_X4_byteAt : GoodIn wsX2_kindOfRun wsX4_byteAt := goodIn_r _ [8, 9, 10, 28, 29] (by decide +kernel) (by decide +kernel)
set_option maxRecDepth 20000 in
theorem gX2_kindOfRun_X4_byteAt : GoodIn wsX2_kindOfRun (wsV RX2 63 RX4 yX4_byteAt wsX4_byteAt) := goodIn_app (goodIn_of _ (by decide +kernel)) ggX2_kindOfRun_X4_byteAt
set_option maxRecDepth 20000 in
theorem ggX2_kindOfRun_X2_isDigit : GoodIn wsX2_kindOfRun wsX2_isDigit := goodIn_r _ [14] (by decide +kernel) (by decide +kernel)
set_option maxRecDepth 20000 in
theorem gX2_kindOfRun_X2_isDigit : GoodIn wsX2_kindOfRun (va_wsS RX2 70 yX2_isDigit wsX2_isDigit) := goodIn_app (goodIn_of _ (by decide +kernel)) ggX2_kindOfRun_X2_isDigit
theorem dX2_kindOfRun_0 : decode cX2_kindOfRun 0 = .ok (.iconst 0, 1) := by decide +kernel
theorem dX2_kindOfRun_1 : decode cX2_kindOfRun 1 = .ok (.istore_n 1, 1) := by decide +kernel
theorem dX2_kindOfRun_2 : decode cX2_kindOfRun 2 = .ok (.aload_n 0, 1) := by decide +kernel
theorem dX2_kindOfRun_3 : decode cX2_kindOfRun 3 = .ok (.getfield 43, 3) := by decide +kernel
theorem dX2_kindOfRun_6 : decode cX2_kindOfRun 6 = .ok (.istore_n 2, 1) := by decide +kernel
theorem dX2_kindOfRun_7 : decode cX2_kindOfRun 7 = .ok (.iload_n 2, 1) := by decide +kernel
theorem dX2_kindOfRun_8 : decode cX2_kindOfRun 8 = .ok (.aload_n 0, 1) := by decide +kernel
theorem dX2_kindOfRun_9 : decode cX2_kindOfRun 9 = .ok (.getfield 32, 3) := by decide +kernel
theorem dX2_kindOfRun_12 : decode cX2_kindOfRun 12 = .ok (.if_icmp .ge 26, 3) := by decide +kernel
theorem dX2_kindOfRun_15 : decode cX2_kindOfRun 15 = .ok (.aload_n 0, 1) := by decide +kernel
theorem dX2_kindOfRun_16 : decode cX2_kindOfRun 16 = .ok (.getfield 9, 3) := by decide +kernel
theorem dX2_kindOfRun_19 : decode cX2_kindOfRun 19 = .ok (.iload_n 2, 1) := by decide +kernel
theorem dX2_kindOfRun_20 : decode cX2_kindOfRun 20 = .ok (.invokevirtual 63, 3) := by decide +kernel
theorem dX2_kindOfRun_23 : decode cX2_kindOfRun 23 = .ok (.invokestatic 70, 3) := by decide +kernel
theorem dX2_kindOfRun_26 : decode cX2_kindOfRun 26 = .ok (.ifCond .eq 6, 3) := by decide +kernel
theorem dX2_kindOfRun_29 : decode cX2_kindOfRun 29 = .ok (.iinc 1 1, 3) := by decide +kernel
theorem dX2_kindOfRun_32 : decode cX2_kindOfRun 32 = .ok (.iinc 2 1, 3) := by decide +kernel
theorem dX2_kindOfRun_35 : decode cX2_kindOfRun 35 = .ok (.goto (-28), 3) := by decide +kernel
theorem dX2_kindOfRun_38 : decode cX2_kindOfRun 38 = .ok (.iload_n 1, 1) := by decide +kernel
theorem dX2_kindOfRun_39 : decode cX2_kindOfRun 39 = .ok (.ifCond .ne 5, 3) := by decide +kernel
theorem dX2_kindOfRun_42 : decode cX2_kindOfRun 42 = .ok (.iconst 1, 1) := by decide +kernel
theorem dX2_kindOfRun_43 : decode cX2_kindOfRun 43 = .ok (.ireturn, 1) := by decide +kernel
theorem dX2_kindOfRun_44 : decode cX2_kindOfRun 44 = .ok (.iload_n 1, 1) := by decide +kernel
theorem dX2_kindOfRun_45 : decode cX2_kindOfRun 45 = .ok (.aload_n 0, 1) := by decide +kernel
theorem dX2_kindOfRun_46 : decode cX2_kindOfRun 46 = .ok (.getfield 32, 3) := by decide +kernel
theorem dX2_kindOfRun_49 : decode cX2_kindOfRun 49 = .ok (.aload_n 0, 1) := by decide +kernel
theorem dX2_kindOfRun_50 : decode cX2_kindOfRun 50 = .ok (.getfield 43, 3) := by decide +kernel
theorem dX2_kindOfRun_53 : decode cX2_kindOfRun 53 = .ok (.isub, 1) := by decide +kernel
theorem dX2_kindOfRun_54 : decode cX2_kindOfRun 54 = .ok (.if_icmp .ne 12, 3) := by decide +kernel
theorem dX2_kindOfRun_57 : decode cX2_kindOfRun 57 = .ok (.iload_n 1, 1) := by decide +kernel
theorem dX2_kindOfRun_58 : decode cX2_kindOfRun 58 = .ok (.iconst 2, 1) := by decide +kernel
theorem dX2_kindOfRun_59 : decode cX2_kindOfRun 59 = .ok (.if_icmp .gt 7, 3) := by decide +kernel
theorem dX2_kindOfRun_62 : decode cX2_kindOfRun 62 = .ok (.iconst 2, 1) := by decide +kernel
theorem dX2_kindOfRun_63 : decode cX2_kindOfRun 63 = .ok (.goto 4, 3) := by decide +kernel
theorem dX2_kindOfRun_66 : decode cX2_kindOfRun 66 = .ok (.iconst 0, 1) := by decide +kernel
theorem dX2_kindOfRun_67 : decode cX2_kindOfRun 67 = .ok (.ireturn, 1) := by decide +kernel
theorem dX2_isBlank_0 : decode cX2_isBlank 0 = .ok (.iload_n 0, 1) := by decide +kernel
theorem dX2_isBlank_1 : decode cX2_isBlank 1 = .ok (.bipush 32, 2) := by decide +kernel
theorem dX2_isBlank_3 : decode cX2_isBlank 3 = .ok (.if_icmp .eq 9, 3) := by decide +kernel
theorem dX2_isBlank_6 : decode cX2_isBlank 6 = .ok (.iload_n 0, 1) := by decide +kernel
theorem dX2_isBlank_7 : decode cX2_isBlank 7 = .ok (.bipush 10, 2) := by decide +kernel
theorem dX2_isBlank_9 : decode cX2_isBlank 9 = .ok (.if_icmp .ne 7, 3) := by decide +kernel
theorem dX2_isBlank_12 : decode cX2_isBlank 12 = .ok (.iconst 1, 1) := by decide +kernel
theorem dX2_isBlank_13 : decode cX2_isBlank 13 = .ok (.goto 4, 3) := by decide +kernel
theorem dX2_isBlank_16 : decode cX2_isBlank 16 = .ok (.iconst 0, 1) := by decide +kernel
theorem dX2_isBlank_17 : decode cX2_isBlank 17 = .ok (.ireturn, 1) := by decide +kernel
theorem dX2_isLetter_0 : decode cX2_isLetter 0 = .ok (.iload_n 0, 1) := by decide +kernel
theorem dX2_isLetter_1 : decode cX2_isLetter 1 = .ok (.bipush 97, 2) := by decide +kernel
theorem dX2_isLetter_3 : decode cX2_isLetter 3 = .ok (.if_icmp .lt 13, 3) := by decide +kernel
theorem dX2_isLetter_6 : decode cX2_isLetter 6 = .ok (.iload_n 0, 1) := by decide +kernel
theorem dX2_isLetter_7 : decode cX2_isLetter 7 = .ok (.bipush 122, 2) := by decide +kernel
theorem dX2_isLetter_9 : decode cX2_isLetter 9 = .ok (.if_icmp .gt 7, 3) := by decide +kernel
theorem dX2_isLetter_12 : decode cX2_isLetter 12 = .ok (.iconst 1, 1) := by decide +kernel
theorem dX2_isLetter_13 : decode cX2_isLetter 13 = .ok (.goto 4, 3) := by decide +kernel
theorem dX2_isLetter_16 : decode cX2_isLetter 16 = .ok (.iconst 0, 1) := by decide +kernel
theorem dX2_isLetter_17 : decode cX2_isLetter 17 = .ok (.ireturn, 1) := by decide +kernel
theorem dX2_isDigit_0 : decode cX2_isDigit 0 = .ok (.iload_n 0, 1) := by decide +kernel
theorem dX2_isDigit_1 : decode cX2_isDigit 1 = .ok (.bipush 48, 2) := by decide +kernel
theorem dX2_isDigit_3 : decode cX2_isDigit 3 = .ok (.if_icmp .lt 13, 3) := by decide +kernel
theorem dX2_isDigit_6 : decode cX2_isDigit 6 = .ok (.iload_n 0, 1) := by decide +kernel
theorem dX2_isDigit_7 : decode cX2_isDigit 7 = .ok (.bipush 57, 2) := by decide +kernel
theorem dX2_isDigit_9 : decode cX2_isDigit 9 = .ok (.if_icmp .gt 7, 3) := by decide +kernel
theorem dX2_isDigit_12 : decode cX2_isDigit 12 = .ok (.iconst 1, 1) := by decide +kernel
theorem dX2_isDigit_13 : decode cX2_isDigit 13 = .ok (.goto 4, 3) := by decide +kernel
theorem dX2_isDigit_16 : decode cX2_isDigit 16 = .ok (.iconst 0, 1) := by decide +kernel
theorem dX2_isDigit_17 : decode cX2_isDigit 17 = .ok (.ireturn, 1) := by decide +kernel
set_option maxRecDepth 20000 in
theorem ggX2_isToken_J0_length_8abf5 : GoodIn wsX2_isToken wsJ0_length_8abf5 := goodIn_r _ [8, 9, 10, 11, 12, 7, 13, 14, 15] (by decide +kernel) (by decide +kernel)
set_option maxRecDepth 20000 in
theorem gX2_isToken_J0_length_8abf5 : GoodIn wsX2_isToken (wsV RX2 82 RJ0 yJ0_length_8abf5 wsJ0_length_8abf5) := goodIn_app (goodIn_of _ (by decide +kernel)) ggX2_isToken_J0_length_8abf5
set_option maxRecDepth 20000 in
theorem ggX2_isToken_X4_byteAt : GoodIn wsX2_isToken wsX4_byteAt := goodIn_r _ [20, 21, 22, 73, 74] (by decide +kernel) (by decide +kernel)
set_option maxRecDepth 20000 in
theorem gX2_isToken_X4_byteAt : GoodIn wsX2_isToken (wsV RX2 63 RX4 yX4_byteAt wsX4_byteAt) := goodIn_app (goodIn_of _ (by decide +kernel)) ggX2_isToken_X4_byteAt
set_option maxRecDepth 20000 in
theorem ggX2_isToken_J0_charAt_5068e : GoodIn wsX2_isToken wsJ0_charAt_5068e := goodIn_r _ [26, 9, 27, 28, 29, 7, 30, 14, 15, 31, 32, 33, 34, 35, 36, 37, 38, 39, 40, 41, 42, 43, 44, 45, 46, 47, 48, 49, 50, 51, 52, 53, 54, 55, 56, 57, 58, 59] (by decide +kernel) (by decide +kernel)
set_option maxRecDepth 20000 in
theorem gX2_isToken_J0_charAt_5068e : GoodIn wsX2_isToken (wsV RX2 86 RJ0 yJ0_charAt_5068e wsJ0_charAt_5068e) := goodIn_app (goodIn_of _ (by decide +kernel)) ggX2_isToken_J0_charAt_5068e
theorem dX2_isToken_0 : decode cX2_isToken 0 = .ok (.aload_n 1, 1) := by decide +kernel
theorem dX2_isToken_1 : decode cX2_isToken 1 = .ok (.invokevirtual 82, 3) := by decide +kernel
theorem dX2_isToken_4 : decode cX2_isToken 4 = .ok (.aload_n 0, 1) := by decide +kernel
theorem dX2_isToken_5 : decode cX2_isToken 5 = .ok (.getfield 32, 3) := by decide +kernel
theorem dX2_isToken_8 : decode cX2_isToken 8 = .ok (.aload_n 0, 1) := by decide +kernel
theorem dX2_isToken_9 : decode cX2_isToken 9 = .ok (.getfield 43, 3) := by decide +kernel
theorem dX2_isToken_12 : decode cX2_isToken 12 = .ok (.isub, 1) := by decide +kernel
theorem dX2_isToken_13 : decode cX2_isToken 13 = .ok (.if_icmp .eq 5, 3) := by decide +kernel
theorem dX2_isToken_16 : decode cX2_isToken 16 = .ok (.iconst 0, 1) := by decide +kernel
theorem dX2_isToken_17 : decode cX2_isToken 17 = .ok (.ireturn, 1) := by decide +kernel
theorem dX2_isToken_18 : decode cX2_isToken 18 = .ok (.iconst 0, 1) := by decide +kernel
theorem dX2_isToken_19 : decode cX2_isToken 19 = .ok (.istore_n 2, 1) := by decide +kernel
theorem dX2_isToken_20 : decode cX2_isToken 20 = .ok (.iload_n 2, 1) := by decide +kernel
theorem dX2_isToken_21 : decode cX2_isToken 21 = .ok (.aload_n 1, 1) := by decide +kernel
theorem dX2_isToken_22 : decode cX2_isToken 22 = .ok (.invokevirtual 82, 3) := by decide +kernel
theorem dX2_isToken_25 : decode cX2_isToken 25 = .ok (.if_icmp .ge 32, 3) := by decide +kernel
theorem dX2_isToken_28 : decode cX2_isToken 28 = .ok (.aload_n 0, 1) := by decide +kernel
theorem dX2_isToken_29 : decode cX2_isToken 29 = .ok (.getfield 9, 3) := by decide +kernel
theorem dX2_isToken_32 : decode cX2_isToken 32 = .ok (.aload_n 0, 1) := by decide +kernel
theorem dX2_isToken_33 : decode cX2_isToken 33 = .ok (.getfield 43, 3) := by decide +kernel
theorem dX2_isToken_36 : decode cX2_isToken 36 = .ok (.iload_n 2, 1) := by decide +kernel
theorem dX2_isToken_37 : decode cX2_isToken 37 = .ok (.iadd, 1) := by decide +kernel
theorem dX2_isToken_38 : decode cX2_isToken 38 = .ok (.invokevirtual 63, 3) := by decide +kernel
theorem dX2_isToken_41 : decode cX2_isToken 41 = .ok (.aload_n 1, 1) := by decide +kernel
theorem dX2_isToken_42 : decode cX2_isToken 42 = .ok (.iload_n 2, 1) := by decide +kernel
theorem dX2_isToken_43 : decode cX2_isToken 43 = .ok (.invokevirtual 86, 3) := by decide +kernel
theorem dX2_isToken_46 : decode cX2_isToken 46 = .ok (.if_icmp .eq 5, 3) := by decide +kernel
theorem dX2_isToken_49 : decode cX2_isToken 49 = .ok (.iconst 0, 1) := by decide +kernel
theorem dX2_isToken_50 : decode cX2_isToken 50 = .ok (.ireturn, 1) := by decide +kernel
theorem dX2_isToken_51 : decode cX2_isToken 51 = .ok (.iinc 2 1, 3) := by decide +kernel
theorem dX2_isToken_54 : decode cX2_isToken 54 = .ok (.goto (-34), 3) := by decide +kernel
theorem dX2_isToken_57 : decode cX2_isToken 57 = .ok (.iconst 1, 1) := by decide +kernel
theorem dX2_isToken_58 : decode cX2_isToken 58 = .ok (.ireturn, 1) := by decide +kernel
set_option maxRecDepth 20000 in
theorem ggX2_numberOfToken_X4_byteAt : GoodIn wsX2_numberOfToken wsX4_byteAt := goodIn_r _ [8, 9, 10, 24, 25] (by decide +kernel) (by decide +kernel)
set_option maxRecDepth 20000 in
theorem gX2_numberOfToken_X4_byteAt : GoodIn wsX2_numberOfToken (wsV RX2 63 RX4 yX4_byteAt wsX4_byteAt) := goodIn_app (goodIn_of _ (by decide +kernel)) ggX2_numberOfToken_X4_byteAt
theorem dX2_numberOfToken_0 : decode cX2_numberOfToken 0 = .ok (.iconst 0, 1) := by decide +kernel
theorem dX2_numberOfToken_1 : decode cX2_numberOfToken 1 = .ok (.istore_n 1, 1) := by decide +kernel
theorem dX2_numberOfToken_2 : decode cX2_numberOfToken 2 = .ok (.aload_n 0, 1) := by decide +kernel
theorem dX2_numberOfToken_3 : decode cX2_numberOfToken 3 = .ok (.getfield 43, 3) := by decide +kernel
theorem dX2_numberOfToken_6 : decode cX2_numberOfToken 6 = .ok (.istore_n 2, 1) := by decide +kernel
theorem dX2_numberOfToken_7 : decode cX2_numberOfToken 7 = .ok (.iload_n 2, 1) := by decide +kernel
theorem dX2_numberOfToken_8 : decode cX2_numberOfToken 8 = .ok (.aload_n 0, 1) := by decide +kernel
theorem dX2_numberOfToken_9 : decode cX2_numberOfToken 9 = .ok (.getfield 32, 3) := by decide +kernel
theorem dX2_numberOfToken_12 : decode cX2_numberOfToken 12 = .ok (.if_icmp .ge 26, 3) := by decide +kernel
theorem dX2_numberOfToken_15 : decode cX2_numberOfToken 15 = .ok (.iload_n 1, 1) := by decide +kernel
theorem dX2_numberOfToken_16 : decode cX2_numberOfToken 16 = .ok (.bipush 10, 2) := by decide +kernel
theorem dX2_numberOfToken_18 : decode cX2_numberOfToken 18 = .ok (.imul, 1) := by decide +kernel
theorem dX2_numberOfToken_19 : decode cX2_numberOfToken 19 = .ok (.aload_n 0, 1) := by decide +kernel
theorem dX2_numberOfToken_20 : decode cX2_numberOfToken 20 = .ok (.getfield 9, 3) := by decide +kernel
theorem dX2_numberOfToken_23 : decode cX2_numberOfToken 23 = .ok (.iload_n 2, 1) := by decide +kernel
theorem dX2_numberOfToken_24 : decode cX2_numberOfToken 24 = .ok (.invokevirtual 63, 3) := by decide +kernel
theorem dX2_numberOfToken_27 : decode cX2_numberOfToken 27 = .ok (.iadd, 1) := by decide +kernel
theorem dX2_numberOfToken_28 : decode cX2_numberOfToken 28 = .ok (.bipush 48, 2) := by decide +kernel
theorem dX2_numberOfToken_30 : decode cX2_numberOfToken 30 = .ok (.isub, 1) := by decide +kernel
theorem dX2_numberOfToken_31 : decode cX2_numberOfToken 31 = .ok (.istore_n 1, 1) := by decide +kernel
theorem dX2_numberOfToken_32 : decode cX2_numberOfToken 32 = .ok (.iinc 2 1, 3) := by decide +kernel
theorem dX2_numberOfToken_35 : decode cX2_numberOfToken 35 = .ok (.goto (-28), 3) := by decide +kernel
theorem dX2_numberOfToken_38 : decode cX2_numberOfToken 38 = .ok (.iload_n 1, 1) := by decide +kernel
theorem dX2_numberOfToken_39 : decode cX2_numberOfToken 39 = .ok (.ireturn, 1) := by decide +kernel
set_option maxRecDepth 20000 in
theorem ggX2_acceptToken_X2_acceptWord : GoodIn wsX2_acceptToken wsX2_acceptWord := goodIn_r _ [6, 7, 8, 9, 10, 11, 12, 5, 13, 14, 15, 16, 17, 18, 19, 20, 21, 22, 23, 24, 25, 26, 27, 28, 29, 30, 31, 32, 33, 34, 35, 36, 37, 38, 39, 40, 41, 42, 43, 44, 45, 46, 47, 48, 49, 50, 51, 52, 53, 54, 55, 56, 57, 58, 59, 60, 61, 62, 63, 64, 65, 66, 67, 68, 69, 70, 71, 72, 73, 74, 75, 76, 77, 78, 79, 80, 81, 82, 83, 84, 85, 86, 87, 88, 89, 90, 91, 92, 93, 156, 157, 158, 159, 160, 161, 162, 163, 164, 165, 166, 167, 168, 169, 170, 171, 172, 173, 174, 175, 176, 177, 178, 179, 180, 181, 182, 183, 184, 185, 186, 187] (by decide +kernel) (by decide +kernel)
set_option maxRecDepth 20000 in
theorem gX2_acceptToken_X2_acceptWord : GoodIn wsX2_acceptToken (wsV RX2 90 RX2 yX2_acceptWord wsX2_acceptWord) := goodIn_app (goodIn_of _ (by decide +kernel)) ggX2_acceptToken_X2_acceptWord
set_option maxRecDepth 20000 in
theorem ggX2_acceptToken_X2_numberOfToken : GoodIn wsX2_acceptToken wsX2_numberOfToken := goodIn_r _ [97, 15, 14, 16, 29, 30, 31, 32, 33, 34, 35, 156, 157, 158, 159, 160, 161, 162, 163, 164, 165, 166, 167, 168, 169, 170] (by decide +kernel) (by decide +kernel)
set_option maxRecDepth 20000 in
theorem gX2_acceptToken_X2_numberOfToken : GoodIn wsX2_acceptToken (wsV RX2 93 RX2 yX2_numberOfToken wsX2_numberOfToken) := goodIn_app (goodIn_of _ (by decide +kernel)) ggX2_acceptToken_X2_numberOfToken
set_option maxRecDepth 20000 in
theorem ggX2_acceptToken_X2_acceptNumber : GoodIn wsX2_acceptToken wsX2_acceptNumber := goodIn_r _ [101, 7, 102, 103, 104, 5, 105, 106, 107, 108, 109, 110, 111, 8, 112, 113, 114, 115, 116, 117, 118, 119, 120, 9, 121, 122, 123, 76, 124, 125, 87, 126, 127, 93, 128, 92, 129, 130, 84, 85, 86, 131, 132, 133, 134, 135, 136, 137, 138, 139, 140, 78, 141, 142, 143, 144, 145, 146, 147, 148, 149, 150, 89, 90, 91, 156, 157, 158, 159, 160, 161, 162, 163, 164, 165, 166, 167, 168, 171, 172, 173, 174, 175, 176, 177, 178, 179, 180, 181, 182, 183, 184, 185, 186, 187] (by decide +kernel) (by decide +kernel)
set_option maxRecDepth 20000 in
theorem gX2_acceptToken_X2_acceptNumber : GoodIn wsX2_acceptToken (wsV RX2 96 RX2 yX2_acceptNumber wsX2_acceptNumber) := goodIn_app (goodIn_of _ (by decide +kernel)) ggX2_acceptToken_X2_acceptNumber
set_option maxRecDepth 20000 in
theorem ggX2_acceptToken_X2_acceptSign : GoodIn wsX2_acceptToken wsX2_acceptSign := goodIn_r _ [154, 7, 8, 155, 9, 156, 157, 158, 159, 160, 161, 162, 163, 164, 165, 166, 167, 168, 171, 172, 173, 174, 175, 176, 177, 178, 179, 180, 181, 182, 183, 184, 185, 186, 187] (by decide +kernel) (by decide +kernel)
set_option maxRecDepth 20000 in
theorem gX2_acceptToken_X2_acceptSign : GoodIn wsX2_acceptToken (wsV RX2 99 RX2 yX2_acceptSign wsX2_acceptSign) := goodIn_app (goodIn_of _ (by decide +kernel)) ggX2_acceptToken_X2_acceptSign
theorem dX2_acceptToken_0 : decode cX2_acceptToken 0 = .ok (.aload_n 0, 1) := by decide +kernel
theorem dX2_acceptToken_1 : decode cX2_acceptToken 1 = .ok (.getfield 40, 3) := by decide +kernel
theorem dX2_acceptToken_4 : decode cX2_acceptToken 4 = .ok (.tableswitch 47 1 3 #[28, 33, 42], 28) := by decide +kernel
theorem dX2_acceptToken_32 : decode cX2_acceptToken 32 = .ok (.aload_n 0, 1) := by decide +kernel
theorem dX2_acceptToken_33 : decode cX2_acceptToken 33 = .ok (.invokevirtual 90, 3) := by decide +kernel
theorem dX2_acceptToken_36 : decode cX2_acceptToken 36 = .ok (.ireturn, 1) := by decide +kernel
theorem dX2_acceptToken_37 : decode cX2_acceptToken 37 = .ok (.aload_n 0, 1) := by decide +kernel
theorem dX2_acceptToken_38 : decode cX2_acceptToken 38 = .ok (.aload_n 0, 1) := by decide +kernel
theorem dX2_acceptToken_39 : decode cX2_acceptToken 39 = .ok (.invokevirtual 93, 3) := by decide +kernel
theorem dX2_acceptToken_42 : decode cX2_acceptToken 42 = .ok (.invokevirtual 96, 3) := by decide +kernel
theorem dX2_acceptToken_45 : decode cX2_acceptToken 45 = .ok (.ireturn, 1) := by decide +kernel
theorem dX2_acceptToken_46 : decode cX2_acceptToken 46 = .ok (.aload_n 0, 1) := by decide +kernel
theorem dX2_acceptToken_47 : decode cX2_acceptToken 47 = .ok (.invokevirtual 99, 3) := by decide +kernel
theorem dX2_acceptToken_50 : decode cX2_acceptToken 50 = .ok (.ireturn, 1) := by decide +kernel
theorem dX2_acceptToken_51 : decode cX2_acceptToken 51 = .ok (.iconst 1, 1) := by decide +kernel
theorem dX2_acceptToken_52 : decode cX2_acceptToken 52 = .ok (.ireturn, 1) := by decide +kernel
set_option maxRecDepth 20000 in
theorem ggX2_acceptWord_X2_isToken : GoodIn wsX2_acceptWord wsX2_isToken := goodIn_r _ [8, 9, 10, 11, 12, 13, 14, 15, 16, 17, 18, 19, 20, 21, 22, 23, 24, 25, 26, 27, 28, 29, 30, 31, 32, 33, 34, 35, 36, 37, 38, 39, 40, 41, 42, 43, 44, 45, 46, 47, 48, 49, 50, 51, 52, 53, 54, 55, 56, 57, 58, 59, 60, 61, 62, 63, 64, 65, 66, 67, 89, 90, 91, 92, 93, 94, 95, 96, 97, 98, 99, 100, 101, 102, 103] (by decide +kernel) (by decide +kernel)
set_option maxRecDepth 20000 in
theorem gX2_acceptWord_X2_isToken : GoodIn wsX2_acceptWord (wsV RX2 104 RX2 yX2_isToken wsX2_isToken) := goodIn_app (goodIn_of _ (by decide +kernel)) ggX2_acceptWord_X2_isToken
set_option maxRecDepth 20000 in
theorem ggX2_acceptWord_X1_hasAllNeeds : GoodIn wsX2_acceptWord wsX1_hasAllNeeds := goodIn_r _ [72, 73, 104, 105, 106, 107, 108, 109, 110, 111, 112, 113, 114, 115, 116, 117, 118, 119, 120] (by decide +kernel) (by decide +kernel)
set_option maxRecDepth 20000 in
theorem gX2_acceptWord_X1_hasAllNeeds : GoodIn wsX2_acceptWord (wsV RX2 110 RX1 yX1_hasAllNeeds wsX1_hasAllNeeds) := goodIn_app (goodIn_of _ (by decide +kernel)) ggX2_acceptWord_X1_hasAllNeeds
set_option maxRecDepth 20000 in
theorem ggX2_acceptWord_X2_beginPart : GoodIn wsX2_acceptWord wsX2_beginPart := goodIn_r _ [77, 1, 89, 90, 91, 92, 93, 94, 95, 96, 97, 98, 99, 100, 101] (by decide +kernel) (by decide +kernel)
set_option maxRecDepth 20000 in
theorem gX2_acceptWord_X2_beginPart : GoodIn wsX2_acceptWord (wsV RX2 114 RX2 yX2_beginPart wsX2_beginPart) := goodIn_app (goodIn_of _ (by decide +kernel)) ggX2_acceptWord_X2_beginPart
set_option maxRecDepth 20000 in
theorem ggX2_acceptWord_X1_hasAllShifts : GoodIn wsX2_acceptWord wsX1_hasAllShifts := goodIn_r _ [81, 82, 104, 105, 106, 107, 108, 109, 110, 111, 112, 113, 114, 115, 116, 117, 118, 119, 120] (by decide +kernel) (by decide +kernel)
set_option maxRecDepth 20000 in
theorem gX2_acceptWord_X1_hasAllShifts : GoodIn wsX2_acceptWord (wsV RX2 120 RX1 yX1_hasAllShifts wsX1_hasAllShifts) := goodIn_app (goodIn_of _ (by decide +kernel)) ggX2_acceptWord_X1_hasAllShifts
set_option maxRecDepth 20000 in
theorem ggX2_acceptWord_X1_hasAllPausesOfLatestShift : GoodIn wsX2_acceptWord wsX1_hasAllPausesOfLatestShift := goodIn_r _ [86, 82, 87, 88, 104, 105, 106, 107, 108, 109, 110, 111, 112, 113, 114, 115, 116, 117, 118, 119, 120] (by decide +kernel) (by decide +kernel)
set_option maxRecDepth 20000 in
theorem gX2_acceptWord_X1_hasAllPausesOfLatestShift : GoodIn wsX2_acceptWord (wsV RX2 125 RX1 yX1_hasAllPausesOfLatestShift wsX1_hasAllPausesOfLatestShift) := goodIn_app (goodIn_of _ (by decide +kernel)) ggX2_acceptWord_X1_hasAllPausesOfLatestShift
theorem dX2_acceptWord_0 : decode cX2_acceptWord 0 = .ok (.aload_n 0, 1) := by decide +kernel
theorem dX2_acceptWord_1 : decode cX2_acceptWord 1 = .ok (.getfield 24, 3) := by decide +kernel
theorem dX2_acceptWord_4 : decode cX2_acceptWord 4 = .ok (.ifCond .ne 19, 3) := by decide +kernel
theorem dX2_acceptWord_7 : decode cX2_acceptWord 7 = .ok (.aload_n 0, 1) := by decide +kernel
theorem dX2_acceptWord_8 : decode cX2_acceptWord 8 = .ok (.ldc 102, 2) := by decide +kernel
theorem dX2_acceptWord_10 : decode cX2_acceptWord 10 = .ok (.invokevirtual 104, 3) := by decide +kernel
theorem dX2_acceptWord_13 : decode cX2_acceptWord 13 = .ok (.ifCond .eq 10, 3) := by decide +kernel
theorem dX2_acceptWord_16 : decode cX2_acceptWord 16 = .ok (.aload_n 0, 1) := by decide +kernel
theorem dX2_acceptWord_17 : decode cX2_acceptWord 17 = .ok (.iconst 5, 1) := by decide +kernel
theorem dX2_acceptWord_18 : decode cX2_acceptWord 18 = .ok (.putfield 24, 3) := by decide +kernel
theorem dX2_acceptWord_21 : decode cX2_acceptWord 21 = .ok (.iconst 0, 1) := by decide +kernel
theorem dX2_acceptWord_22 : decode cX2_acceptWord 22 = .ok (.ireturn, 1) := by decide +kernel
theorem dX2_acceptWord_23 : decode cX2_acceptWord 23 = .ok (.aload_n 0, 1) := by decide +kernel
theorem dX2_acceptWord_24 : decode cX2_acceptWord 24 = .ok (.getfield 24, 3) := by decide +kernel
theorem dX2_acceptWord_27 : decode cX2_acceptWord 27 = .ok (.iconst 1, 1) := by decide +kernel
theorem dX2_acceptWord_28 : decode cX2_acceptWord 28 = .ok (.if_icmp .ne 26, 3) := by decide +kernel
theorem dX2_acceptWord_31 : decode cX2_acceptWord 31 = .ok (.aload_n 0, 1) := by decide +kernel
theorem dX2_acceptWord_32 : decode cX2_acceptWord 32 = .ok (.ldc 108, 2) := by decide +kernel
theorem dX2_acceptWord_34 : decode cX2_acceptWord 34 = .ok (.invokevirtual 104, 3) := by decide +kernel
theorem dX2_acceptWord_37 : decode cX2_acceptWord 37 = .ok (.ifCond .eq 17, 3) := by decide +kernel
theorem dX2_acceptWord_40 : decode cX2_acceptWord 40 = .ok (.aload_n 0, 1) := by decide +kernel
theorem dX2_acceptWord_41 : decode cX2_acceptWord 41 = .ok (.aload_n 0, 1) := by decide +kernel
theorem dX2_acceptWord_42 : decode cX2_acceptWord 42 = .ok (.getfield 15, 3) := by decide +kernel
theorem dX2_acceptWord_45 : decode cX2_acceptWord 45 = .ok (.invokevirtual 110, 3) := by decide +kernel
theorem dX2_acceptWord_48 : decode cX2_acceptWord 48 = .ok (.bipush 7, 2) := by decide +kernel
theorem dX2_acceptWord_50 : decode cX2_acceptWord 50 = .ok (.invokevirtual 114, 3) := by decide +kernel
theorem dX2_acceptWord_53 : decode cX2_acceptWord 53 = .ok (.ireturn, 1) := by decide +kernel
theorem dX2_acceptWord_54 : decode cX2_acceptWord 54 = .ok (.aload_n 0, 1) := by decide +kernel
theorem dX2_acceptWord_55 : decode cX2_acceptWord 55 = .ok (.getfield 24, 3) := by decide +kernel
theorem dX2_acceptWord_58 : decode cX2_acceptWord 58 = .ok (.iconst 1, 1) := by decide +kernel
theorem dX2_acceptWord_59 : decode cX2_acceptWord 59 = .ok (.if_icmp .eq 11, 3) := by decide +kernel
theorem dX2_acceptWord_62 : decode cX2_acceptWord 62 = .ok (.aload_n 0, 1) := by decide +kernel
theorem dX2_acceptWord_63 : decode cX2_acceptWord 63 = .ok (.getfield 24, 3) := by decide +kernel
theorem dX2_acceptWord_66 : decode cX2_acceptWord 66 = .ok (.iconst 2, 1) := by decide +kernel
theorem dX2_acceptWord_67 : decode cX2_acceptWord 67 = .ok (.if_icmp .ne 31, 3) := by decide +kernel
theorem dX2_acceptWord_70 : decode cX2_acceptWord 70 = .ok (.aload_n 0, 1) := by decide +kernel
theorem dX2_acceptWord_71 : decode cX2_acceptWord 71 = .ok (.ldc 118, 2) := by decide +kernel
theorem dX2_acceptWord_73 : decode cX2_acceptWord 73 = .ok (.invokevirtual 104, 3) := by decide +kernel
theorem dX2_acceptWord_76 : decode cX2_acceptWord 76 = .ok (.ifCond .eq 22, 3) := by decide +kernel
theorem dX2_acceptWord_79 : decode cX2_acceptWord 79 = .ok (.aload_n 0, 1) := by decide +kernel
theorem dX2_acceptWord_80 : decode cX2_acceptWord 80 = .ok (.iconst 1, 1) := by decide +kernel
