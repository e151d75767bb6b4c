/-! the law's words, without the two that the tables don't have -/
def okw (w : Cond) : Bool := decide (w ≠ .code (Bundle.initS NSE) Bundle.six 2 none) && decide (w ≠ .methodLink NSE 7 (Bundle.initS RTE))
def wsL_ok : List Cond := wsL_law.filter okw ++ wsTG
theorem gok {ws : List Cond} (h : GoodIn wsL_law ws) (h2 : ws.all okw = true) : GoodIn wsL_ok ws := fun w hw => ⟨List.mem_append_left _ (List.mem_filter.mpr ⟨(h w hw).1, List.all_eq_true.mp h2 w hw⟩), (h w hw).2⟩
theorem in_r {big : List Cond} (ws : List Cond) (ps : List Nat) (hp : ws = ps.filterMap (fun i => big[i]?)) : ∀ w ∈ ws, w ∈ big := by
  intro w hw
  rw [hp] at hw
  obtain ⟨i, -, hi⟩ := List.mem_filterMap.mp hw
  exact List.mem_of_getElem? hi
theorem in_app {big a b : List Cond} (ha : ∀ w ∈ a, w ∈ big) (hb : ∀ w ∈ b, w ∈ big) : ∀ w ∈ a ++ b, w ∈ big := fun w h => (List.mem_append.mp h).elim (ha w) (hb w)
set_option maxRecDepth 20000 in
theorem it_wsL_law0_r1 : ∀ w ∈ wsL_law0_r1, w ∈ lw_tbl := in_r _ [78, 79, 59, 816, 810, 67, 1136, 80, 81, 82, 83, 84, 85, 86, 87, 60, 299, 102, 103, 61, 301, 302, 191, 192] (by decide +kernel)
set_option maxRecDepth 20000 in
theorem it_wsL_law0_r2 : ∀ w ∈ wsL_law0_r2, w ∈ lw_tbl := in_r _ [62, 300, 238, 239, 63, 303, 263, 264, 65, 304, 282, 283, 66, 305, 306, 88, 89, 90, 91, 101, 92, 93, 104, 105] (by decide +kernel)
set_option maxRecDepth 20000 in
theorem it_wsL_law0_r3 : ∀ w ∈ wsL_law0_r3, w ∈ lw_tbl := in_r _ [106, 107, 108, 113, 190, 126, 129, 131, 133, 135, 137, 140, 143, 146, 149, 152, 193, 194, 195, 196, 197, 198, 240, 241] (by decide +kernel)
set_option maxRecDepth 20000 in
theorem it_wsL_law0_r4 : ∀ w ∈ wsL_law0_r4, w ∈ lw_tbl := in_r _ [242, 243, 247, 248, 250, 244, 245, 64, 246, 265, 266, 267, 268, 269, 270, 271, 272, 284, 285, 286, 287, 288, 817, 818] (by decide +kernel)
set_option maxRecDepth 20000 in
theorem it_wsL_law0_r5 : ∀ w ∈ wsL_law0_r5, w ∈ lw_tbl := in_r _ [819, 820, 822, 832, 833, 834, 839, 840, 841, 891, 842, 843, 324, 325, 326, 327, 94, 328, 329, 330, 331, 332, 333, 334] (by decide +kernel)
set_option maxRecDepth 20000 in
theorem it_wsL_law0_r6 : ∀ w ∈ wsL_law0_r6, w ∈ lw_tbl := in_r _ [335, 803, 804, 805, 806, 821, 823, 807, 809, 20, 811, 336, 337, 338, 339, 340, 341, 342, 343, 812, 813, 814, 815, 344] (by decide +kernel)
set_option maxRecDepth 20000 in
theorem it_wsL_law0_r7 : ∀ w ∈ wsL_law0_r7, w ∈ lw_tbl := in_r _ [345, 346, 347, 200, 118, 348, 349, 350, 351, 204, 205, 203, 201, 202, 199, 352, 353, 354, 355, 117, 120, 121, 123, 356] (by decide +kernel)
set_option maxRecDepth 20000 in
theorem it_wsL_law0_r8 : ∀ w ∈ wsL_law0_r8, w ∈ lw_tbl := in_r _ [357, 359, 0, 360, 361, 363, 1, 364, 95, 365, 366, 367, 368, 369, 370, 371, 372, 373, 374, 375, 376, 377, 378, 380] (by decide +kernel)
set_option maxRecDepth 20000 in
theorem it_wsL_law0_r9 : ∀ w ∈ wsL_law0_r9, w ∈ lw_tbl := in_r _ [2, 381, 382, 384, 3, 385, 386, 388, 4, 389, 390, 392, 5, 393, 395, 397, 6, 398, 399, 400, 401, 68, 402, 1149] (by decide +kernel)
set_option maxRecDepth 20000 in
theorem it_wsL_law0_r10 : ∀ w ∈ wsL_law0_r10, w ∈ lw_tbl := in_r _ [403, 404, 405, 406, 407, 1150, 409, 410, 411, 412, 413, 414, 415, 416, 417, 418, 69, 419, 420, 421, 422, 423, 425, 426] (by decide +kernel)
set_option maxRecDepth 20000 in
theorem it_wsL_law0_r11 : ∀ w ∈ wsL_law0_r11, w ∈ lw_tbl := in_r _ [70, 427, 428, 429, 71, 430, 431, 432, 433, 434, 435, 436, 437, 438, 439, 440, 441, 443, 445, 448, 449, 450, 451, 452] (by decide +kernel)
set_option maxRecDepth 20000 in
theorem it_wsL_law0_r12 : ∀ w ∈ wsL_law0_r12, w ∈ lw_tbl := in_r _ [454, 7, 455, 457, 458, 459, 460, 462, 463, 464, 465, 466, 468, 8, 469, 470, 472, 9, 473, 474, 476, 10, 477, 207] (by decide +kernel)
set_option maxRecDepth 20000 in
theorem it_wsL_law0_r13 : ∀ w ∈ wsL_law0_r13, w ∈ lw_tbl := in_r _ [210, 478, 480, 11, 481, 112, 208, 209, 482, 484, 12, 485, 116, 206, 486, 487, 488, 489, 490, 492, 493, 494, 495, 496] (by decide +kernel)
set_option maxRecDepth 20000 in
theorem it_wsL_law0_r14 : ∀ w ∈ wsL_law0_r14, w ∈ lw_tbl := in_r _ [497, 498, 499, 500, 501, 502, 503, 504, 505, 506, 508, 13, 509, 119, 510, 512, 14, 513, 514, 515, 516, 517, 518, 520] (by decide +kernel)
set_option maxRecDepth 20000 in
theorem it_wsL_law0_r15 : ∀ w ∈ wsL_law0_r15, w ∈ lw_tbl := in_r _ [519, 72, 521, 522, 523, 524, 525, 526, 527, 528, 130, 529, 252, 124, 530, 531, 532, 533, 127, 534, 535, 73, 536, 537] (by decide +kernel)
set_option maxRecDepth 20000 in
theorem it_wsL_law0_r16 : ∀ w ∈ wsL_law0_r16, w ∈ lw_tbl := in_r _ [539, 15, 540, 147, 541, 542, 543, 544, 545, 546, 547, 548, 290, 892, 893, 894, 895, 824, 829, 825, 837, 838, 830, 835] (by decide +kernel)
set_option maxRecDepth 20000 in
theorem it_wsL_law0_r17 : ∀ w ∈ wsL_law0_r17, w ∈ lw_tbl := in_r _ [896, 898, 21, 899, 826, 827, 831, 828, 910, 911, 900, 901, 902, 903, 904, 905, 906, 908, 22, 909, 912, 914, 23, 915] (by decide +kernel)
set_option maxRecDepth 20000 in
theorem it_wsL_law0_r18 : ∀ w ∈ wsL_law0_r18, w ∈ lw_tbl := in_r _ [916, 918, 24, 919, 920, 921, 922, 923, 924, 925, 926, 927, 928, 929, 930, 932, 25, 933, 934, 936, 26, 937, 938, 940] (by decide +kernel)
set_option maxRecDepth 20000 in
theorem it_wsL_law0_r19 : ∀ w ∈ wsL_law0_r19, w ∈ lw_tbl := in_r _ [27, 941, 836, 942, 944, 28, 945, 946, 947, 948, 949, 951, 29, 952, 953, 955, 30, 956, 957, 959, 31, 960, 961, 963] (by decide +kernel)
set_option maxRecDepth 20000 in
theorem it_wsL_law0_r20 : ∀ w ∈ wsL_law0_r20, w ∈ lw_tbl := in_r _ [32, 964, 549, 550, 551, 552, 965, 966, 967, 968, 553, 554, 555, 556, 110, 122, 125, 253, 115, 291, 557, 558, 559, 560] (by decide +kernel)
set_option maxRecDepth 20000 in
theorem it_wsL_law0_r21 : ∀ w ∈ wsL_law0_r21, w ∈ lw_tbl := in_r _ [969, 970, 971, 972, 973, 975, 33, 976, 977, 979, 34, 980, 981, 983, 35, 984, 985, 987, 36, 988, 989, 991, 37, 992] (by decide +kernel)
set_option maxRecDepth 20000 in
theorem it_wsL_law0_r22 : ∀ w ∈ wsL_law0_r22, w ∈ lw_tbl := in_r _ [993, 995, 38, 996, 997, 999, 39, 1000, 1001, 1003, 40, 1004, 1005, 1007, 41, 1008, 1009, 1011, 42, 1012, 1013, 1015, 43, 1016] (by decide +kernel)
set_option maxRecDepth 20000 in
theorem it_wsL_law0_r23 : ∀ w ∈ wsL_law0_r23, w ∈ lw_tbl := in_r _ [712, 713, 58, 714, 715, 716, 717, 718, 719, 724, 77, 132, 134, 136, 138, 141, 720, 721, 722, 723, 1017, 1018, 1019, 1020] (by decide +kernel)
set_option maxRecDepth 20000 in
theorem it_wsL_law0_r24 : ∀ w ∈ wsL_law0_r24, w ∈ lw_tbl := in_r _ [1021, 1023, 44, 1024, 799, 800, 801, 802, 790, 791, 792, 793, 794, 795, 796, 144, 148, 150, 153, 249, 578, 579, 580, 581] (by decide +kernel)
set_option maxRecDepth 20000 in
theorem it_wsL_law0_r25 : ∀ w ∈ wsL_law0_r25, w ∈ lw_tbl := in_r _ [1025, 1026, 1027, 1028, 1029, 1031, 45, 1032, 561, 562, 563, 564, 128, 251, 565, 566, 567, 568, 569, 570, 571, 572, 573, 1033] (by decide +kernel)
set_option maxRecDepth 20000 in
theorem it_wsL_law0_r26 : ∀ w ∈ wsL_law0_r26, w ∈ lw_tbl := in_r _ [1034, 1035, 1036, 1037, 1039, 46, 1040, 1041, 1042, 1043, 574, 575, 576, 577, 582, 583, 584, 585, 151, 154, 145, 142, 139, 586] (by decide +kernel)
set_option maxRecDepth 20000 in
theorem it_wsL_law0_r27 : ∀ w ∈ wsL_law0_r27, w ∈ lw_tbl := in_r _ [588, 16, 589, 1044, 1045, 1046, 1047, 1048, 1050, 47, 1051, 590, 591, 592, 593, 594, 595, 596, 597, 598, 599, 600, 601, 1052] (by decide +kernel)
set_option maxRecDepth 20000 in
theorem it_wsL_law0_r28 : ∀ w ∈ wsL_law0_r28, w ∈ lw_tbl := in_r _ [1053, 1054, 1055, 1056, 1058, 48, 1059, 1060, 1062, 49, 1063, 602, 603, 604, 605, 606, 607, 608, 609, 610, 611, 1064, 1065, 1066] (by decide +kernel)
set_option maxRecDepth 20000 in
theorem it_wsL_law0_r29 : ∀ w ∈ wsL_law0_r29, w ∈ lw_tbl := in_r _ [1067, 1068, 1070, 50, 1071, 612, 613, 614, 615, 616, 617, 618, 619, 620, 621, 1072, 1073, 1074, 1075, 1076, 1078, 51, 1079, 622] (by decide +kernel)
set_option maxRecDepth 20000 in
theorem it_wsL_law0_r30 : ∀ w ∈ wsL_law0_r30, w ∈ lw_tbl := in_r _ [623, 624, 625, 626, 627, 628, 629, 630, 631, 632, 633, 634, 636, 17, 637, 1080, 1081, 1082, 1083, 1084, 1086, 52, 1087, 638] (by decide +kernel)
set_option maxRecDepth 20000 in
theorem it_wsL_law0_r31 : ∀ w ∈ wsL_law0_r31, w ∈ lw_tbl := in_r _ [639, 640, 641, 642, 643, 644, 645, 109, 114, 647, 648, 650, 18, 651, 653, 654, 655, 656, 657, 658, 659, 660, 1088, 1089] (by decide +kernel)
set_option maxRecDepth 20000 in
theorem it_wsL_law0_r32 : ∀ w ∈ wsL_law0_r32, w ∈ lw_tbl := in_r _ [1090, 1091, 1092, 1094, 53, 1095, 1096, 1098, 54, 1099, 1100, 1102, 55, 1103, 1104, 1106, 56, 1107, 661, 662, 663, 664, 665, 666] (by decide +kernel)
set_option maxRecDepth 20000 in
theorem it_wsL_law0_r33 : ∀ w ∈ wsL_law0_r33, w ∈ lw_tbl := in_r _ [667, 668, 111, 1108, 1109, 1110, 1111, 670, 671, 672, 673, 674, 675, 676, 677, 289, 678, 679, 680, 681, 682, 683, 684, 685] (by decide +kernel)
set_option maxRecDepth 20000 in
theorem it_wsL_law0_r34 : ∀ w ∈ wsL_law0_r34, w ∈ lw_tbl := in_r _ [686, 687, 688, 689, 1112, 1113, 1114, 1115, 1116, 1118, 57, 1119, 690, 691, 692, 693, 694, 1120, 1121, 1122, 1123, 695, 696, 697] (by decide +kernel)
set_option maxRecDepth 20000 in
theorem it_wsL_law0_r35 : ∀ w ∈ wsL_law0_r35, w ∈ lw_tbl := in_r _ [698, 1124, 1125, 1126, 1127, 699, 700, 701, 702, 1128, 1129, 1130, 1131, 703, 704, 705, 706, 707, 708, 709, 710, 711, 1132, 1133] (by decide +kernel)
set_option maxRecDepth 20000 in
theorem it_wsL_law0_r36 : ∀ w ∈ wsL_law0_r36, w ∈ lw_tbl := in_r _ [1134, 1135] (by decide +kernel)
set_option maxRecDepth 20000 in
theorem it_wsX60 : ∀ w ∈ wsX60, w ∈ lw_tbl := in_r _ [307, 309, 311, 313, 315, 317, 319, 321] (by decide +kernel)
set_option maxRecDepth 20000 in
theorem it_wsX70 : ∀ w ∈ wsX70, w ∈ lw_tbl := in_r _ [844, 846, 848, 850, 852, 854, 856, 858, 860, 862, 864, 866, 868, 870, 872, 874, 876, 878, 880, 882, 884, 886, 888] (by decide +kernel)
set_option maxRecDepth 20000 in
theorem it_wsX40 : ∀ w ∈ wsX40, w ∈ lw_tbl := in_r _ [96, 98] (by decide +kernel)
set_option maxRecDepth 20000 in
theorem it_wsX10 : ∀ w ∈ wsX10, w ∈ lw_tbl := in_r _ [155, 157, 159, 161, 163, 165, 167, 169, 171, 173, 175, 177, 179, 181, 183, 185, 187] (by decide +kernel)
set_option maxRecDepth 20000 in
theorem it_wsX20 : ∀ w ∈ wsX20, w ∈ lw_tbl := in_r _ [211, 213, 215, 217, 219, 221, 223, 225, 227, 229, 231, 233, 235] (by decide +kernel)
set_option maxRecDepth 20000 in
theorem it_wsX30 : ∀ w ∈ wsX30, w ∈ lw_tbl := in_r _ [254, 256, 258, 260] (by decide +kernel)
set_option maxRecDepth 20000 in
theorem it_wsX50 : ∀ w ∈ wsX50, w ∈ lw_tbl := in_r _ [273, 275, 277, 279] (by decide +kernel)
set_option maxRecDepth 20000 in
theorem it_wsX00 : ∀ w ∈ wsX00, w ∈ lw_tbl := in_r _ [292, 294, 296] (by decide +kernel)
set_option maxRecDepth 20000 in
theorem it_wsTG : ∀ w ∈ wsTG, w ∈ lw_tbl := in_r _ [74, 746, 755, 757, 760, 762, 747, 748, 84, 85, 749, 754, 758, 778, 736, 779, 738, 780, 740, 750, 752, 742, 774, 775, 777, 742, 765, 766, 767, 768, 768, 769, 770, 771, 771, 772, 773, 774, 764, 725, 733, 734, 735, 737, 739, 741, 745, 744, 743] (by decide +kernel)
theorem it_law0 : ∀ w ∈ wsL_law0, w ∈ lw_tbl := in_app (in_app (in_app (in_app (in_app (in_app (in_app (in_app (in_app (in_app it_wsL_law0_r1 (in_app it_wsL_law0_r2 (in_app it_wsL_law0_r3 (in_app it_wsL_law0_r4 (in_app it_wsL_law0_r5 (in_app it_wsL_law0_r6 (in_app it_wsL_law0_r7 (in_app it_wsL_law0_r8 (in_app it_wsL_law0_r9 (in_app it_wsL_law0_r10 (in_app it_wsL_law0_r11 (in_app it_wsL_law0_r12 (in_app it_wsL_law0_r13 (in_app it_wsL_law0_r14 (in_app it_wsL_law0_r15 (in_app it_wsL_law0_r16 (in_app it_wsL_law0_r17 (in_app it_wsL_law0_r18 (in_app it_wsL_law0_r19 (in_app it_wsL_law0_r20 (in_app it_wsL_law0_r21 (in_app it_wsL_law0_r22 (in_app it_wsL_law0_r23 (in_app it_wsL_law0_r24 (in_app it_wsL_law0_r25 (in_app it_wsL_law0_r26 (in_app it_wsL_law0_r27 (in_app it_wsL_law0_r28 (in_app it_wsL_law0_r29 (in_app it_wsL_law0_r30 (in_app it_wsL_law0_r31 (in_app it_wsL_law0_r32 (in_app it_wsL_law0_r33 (in_app it_wsL_law0_r34 (in_app it_wsL_law0_r35 it_wsL_law0_r36))))))))))))))))))))))))))))))))))) it_wsX60) it_wsX70) it_wsX40) it_wsX10) it_wsX20) it_wsX30) it_wsX50) it_wsX00) (fun w h => absurd h List.not_mem_nil)
theorem it_tail : ∀ w ∈ ((vx_atS RX6 124 "java/util/NoSuchElementException" ["java/lang/RuntimeException", "java/lang/Exception"]).filter goodWord).filter okw, w ∈ wsTG := by decide +kernel
theorem it_ok : ∀ w ∈ wsL_ok, w ∈ lw_tbl := in_app (fun w h => by
  obtain ⟨h1, h2⟩ := List.mem_filter.mp h
  rcases List.mem_append.mp h1 with h3 | h3
  · exact it_law0 w h3
  · exact it_wsTG w (it_tail w (List.mem_filter.mpr ⟨h3, h2⟩))) it_wsTG
theorem wsTG_good {w : Cond} (h : w ∈ wsTG) : goodWord w = true := (List.mem_filter.mp h).2
set_option maxRecDepth 20000 in
theorem gl_shift0 : ∀ w ∈ va_wsS RL 46 yL_shift wsL_shiftX, (w ∈ va_wsS RL 46 yL_shift wsL_shift ∧ okw w = true) ∨ w ∈ wsTG := by decide +kernel
theorem gL_ok_shift : GoodIn wsL_ok (va_wsS RL 46 yL_shift wsL_shiftX) := fun w hw => by
  rcases gl_shift0 w hw with ⟨h1, h2⟩ | h1
  · exact ⟨List.mem_append_left _ (List.mem_filter.mpr ⟨(gL_law_L_shift w h1).1, h2⟩), (gL_law_L_shift w h1).2⟩
  · exact ⟨List.mem_append_right _ h1, good_of_word (wsTG_good h1)⟩
set_option maxRecDepth 20000 in
theorem gl_pause0 : ∀ w ∈ va_wsS RL 55 yL_pause wsL_pauseX, (w ∈ va_wsS RL 55 yL_pause wsL_pause ∧ okw w = true) ∨ w ∈ wsTG := by decide +kernel
theorem gL_ok_pause : GoodIn wsL_ok (va_wsS RL 55 yL_pause wsL_pauseX) := fun w hw => by
  rcases gl_pause0 w hw with ⟨h1, h2⟩ | h1
  · exact ⟨List.mem_append_left _ (List.mem_filter.mpr ⟨(gL_law_L_pause w h1).1, h2⟩), (gL_law_L_pause w h1).2⟩
  · exact ⟨List.mem_append_right _ h1, good_of_word (wsTG_good h1)⟩
