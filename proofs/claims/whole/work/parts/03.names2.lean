theorem zl_app {a b c : List Cond} (h1 : ∀ w ∈ a, w ∈ c) (h2 : ∀ w ∈ b, w ∈ c) : ∀ w ∈ a ++ b, w ∈ c := fun w h => (List.mem_append.mp h).elim (h1 w) (h2 w)
set_option maxRecDepth 20000 in
theorem zl_wsL_law0_r1 : ∀ w ∈ wsL_law0_r1, w ∈ lw_tbl := fun w h => (goodIn_r _ [78, 79, 63, 797, 798, 69, 1139, 80, 81, 82, 83, 84, 85, 86, 87, 64, 233, 101, 102, 65, 234, 158, 159, 67] (by decide +kernel) (by decide +kernel) w h).1
set_option maxRecDepth 20000 in
theorem zl_wsL_law0_r2 : ∀ w ∈ wsL_law0_r2, w ∈ lw_tbl := fun w h => (goodIn_r _ [235, 236, 237, 89, 90, 91, 100, 92, 104, 105, 106, 107, 108, 66, 147, 110, 111, 112, 146, 113, 115, 117, 119, 161] (by decide +kernel) (by decide +kernel) w h).1
set_option maxRecDepth 20000 in
theorem zl_wsL_law0_r3 : ∀ w ∈ wsL_law0_r3, w ∈ lw_tbl := fun w h => (goodIn_r _ [162, 163, 164, 165, 68, 197, 195, 199, 200, 212, 167, 168, 169, 170, 172, 174, 799, 800, 801, 802, 803, 804, 805, 806] (by decide +kernel) (by decide +kernel) w h).1
set_option maxRecDepth 20000 in
theorem zl_wsL_law0_r4 : ∀ w ∈ wsL_law0_r4, w ∈ lw_tbl := fun w h => (goodIn_r _ [807, 809, 812, 451, 452, 62, 453, 454, 455, 456, 457, 458, 459, 478, 73, 553, 75, 198, 177, 460, 354, 355, 461, 462] (by decide +kernel) (by decide +kernel) w h).1
set_option maxRecDepth 20000 in
theorem zl_wsL_law0_r5 : ∀ w ∈ wsL_law0_r5, w ∈ lw_tbl := fun w h => (goodIn_r _ [463, 464, 465, 466, 467, 469, 470, 471, 472, 473, 474, 176, 476, 477, 541, 542, 543, 544, 545, 271, 272, 273, 274, 546] (by decide +kernel) (by decide +kernel) w h).1
set_option maxRecDepth 20000 in
theorem zl_wsL_law0_r6 : ∀ w ∈ wsL_law0_r6, w ∈ lw_tbl := fun w h => (goodIn_r _ [547, 74, 548, 549, 550, 551, 552, 448, 449, 450, 568, 570, 11, 571, 239, 238, 572, 574, 12, 575, 576, 577, 578, 579] (by decide +kernel) (by decide +kernel) w h).1
set_option maxRecDepth 20000 in
theorem zl_wsL_law0_r7 : ∀ w ∈ wsL_law0_r7, w ∈ lw_tbl := fun w h => (goodIn_r _ [202, 204, 206, 208, 210, 580, 581, 582, 583, 178, 180, 584, 585, 586, 587, 122, 124, 126, 128, 588, 589, 590, 591, 592] (by decide +kernel) (by decide +kernel) w h).1
set_option maxRecDepth 20000 in
theorem zl_wsL_law0_r8 : ∀ w ∈ wsL_law0_r8, w ∈ lw_tbl := fun w h => (goodIn_r _ [593, 594, 595, 859, 860, 861, 862, 811, 863, 864, 865, 866, 868, 24, 869, 870, 872, 25, 873, 874, 876, 26, 877, 878] (by decide +kernel) (by decide +kernel) w h).1
set_option maxRecDepth 20000 in
theorem zl_wsL_law0_r9 : ∀ w ∈ wsL_law0_r9, w ∈ lw_tbl := fun w h => (goodIn_r _ [880, 27, 881, 882, 884, 28, 885, 886, 888, 29, 889, 808, 890, 892, 30, 893, 855, 856, 857, 858, 596, 597, 598, 599] (by decide +kernel) (by decide +kernel) w h).1
set_option maxRecDepth 20000 in
theorem zl_wsL_law0_r10 : ∀ w ∈ wsL_law0_r10, w ∈ lw_tbl := fun w h => (goodIn_r _ [600, 601, 602, 603, 605, 76, 179, 604, 894, 895, 896, 897, 255, 256, 257, 258, 898, 899, 900, 901, 620, 621, 622, 623] (by decide +kernel) (by decide +kernel) w h).1
set_option maxRecDepth 20000 in
theorem zl_wsL_law0_r11 : ∀ w ∈ wsL_law0_r11, w ∈ lw_tbl := fun w h => (goodIn_r _ [624, 625, 626, 171, 627, 902, 903, 904, 905, 906, 908, 31, 909, 910, 912, 32, 913, 628, 629, 630, 631, 632, 633, 634] (by decide +kernel) (by decide +kernel) w h).1
set_option maxRecDepth 20000 in
theorem zl_wsL_law0_r12 : ∀ w ∈ wsL_law0_r12, w ∈ lw_tbl := fun w h => (goodIn_r _ [173, 914, 915, 916, 917, 635, 636, 637, 638, 639, 640, 641, 175, 918, 919, 920, 921, 642, 643, 644, 645, 646, 647, 648] (by decide +kernel) (by decide +kernel) w h).1
set_option maxRecDepth 20000 in
theorem zl_wsL_law0_r13 : ∀ w ∈ wsL_law0_r13, w ∈ lw_tbl := fun w h => (goodIn_r _ [181, 922, 923, 924, 925, 649, 650, 651, 652, 653, 654, 655, 656, 657, 926, 927, 928, 929, 259, 260, 261, 262, 930, 931] (by decide +kernel) (by decide +kernel) w h).1
set_option maxRecDepth 20000 in
theorem zl_wsL_law0_r14 : ∀ w ∈ wsL_law0_r14, w ∈ lw_tbl := fun w h => (goodIn_r _ [932, 933, 263, 264, 265, 266, 267, 268, 269, 270, 934, 935, 936, 937, 938, 940, 33, 941, 942, 944, 34, 945, 946, 948] (by decide +kernel) (by decide +kernel) w h).1
set_option maxRecDepth 20000 in
theorem zl_wsL_law0_r15 : ∀ w ∈ wsL_law0_r15, w ∈ lw_tbl := fun w h => (goodIn_r _ [35, 949, 658, 659, 660, 661, 662, 663, 664, 438, 439, 440, 441, 442, 443, 445, 9, 446, 447, 950, 951, 952, 953, 954] (by decide +kernel) (by decide +kernel) w h).1
set_option maxRecDepth 20000 in
theorem zl_wsL_law0_r16 : ∀ w ∈ wsL_law0_r16, w ∈ lw_tbl := fun w h => (goodIn_r _ [956, 36, 957, 958, 960, 37, 961, 962, 964, 38, 965, 665, 666, 667, 668, 669, 670, 671, 966, 967, 968, 969, 275, 276] (by decide +kernel) (by decide +kernel) w h).1
set_option maxRecDepth 20000 in
theorem zl_wsL_law0_r17 : ∀ w ∈ wsL_law0_r17, w ∈ lw_tbl := fun w h => (goodIn_r _ [277, 278, 211, 970, 971, 972, 973, 279, 280, 281, 282, 201, 974, 975, 976, 977, 283, 284, 285, 286, 203, 978, 979, 980] (by decide +kernel) (by decide +kernel) w h).1
set_option maxRecDepth 20000 in
theorem zl_wsL_law0_r18 : ∀ w ∈ wsL_law0_r18, w ∈ lw_tbl := fun w h => (goodIn_r _ [981, 672, 673, 674, 675, 676, 677, 678, 94, 679, 680, 681, 682, 93, 683, 684, 685, 686, 982, 983, 984, 985, 810, 687] (by decide +kernel) (by decide +kernel) w h).1
set_option maxRecDepth 20000 in
theorem zl_wsL_law0_r19 : ∀ w ∈ wsL_law0_r19, w ∈ lw_tbl := fun w h => (goodIn_r _ [688, 689, 690, 691, 692, 693, 307, 308, 309, 310, 311, 313, 0, 314, 694, 320, 321, 322, 323, 324, 325, 986, 987, 988] (by decide +kernel) (by decide +kernel) w h).1
set_option maxRecDepth 20000 in
theorem zl_wsL_law0_r20 : ∀ w ∈ wsL_law0_r20, w ∈ lw_tbl := fun w h => (goodIn_r _ [989, 990, 992, 39, 993, 287, 288, 289, 290, 994, 995, 996, 997, 291, 292, 293, 294, 295, 296, 297, 298, 299, 300, 301] (by decide +kernel) (by decide +kernel) w h).1
set_option maxRecDepth 20000 in
theorem zl_wsL_law0_r21 : ∀ w ∈ wsL_law0_r21, w ∈ lw_tbl := fun w h => (goodIn_r _ [302, 149, 150, 303, 304, 305, 306, 315, 316, 317, 318, 327, 328, 329, 330, 332, 333, 334, 335, 336, 338, 1, 339, 340] (by decide +kernel) (by decide +kernel) w h).1
set_option maxRecDepth 20000 in
theorem zl_wsL_law0_r22 : ∀ w ∈ wsL_law0_r22, w ∈ lw_tbl := fun w h => (goodIn_r _ [342, 2, 343, 345, 346, 347, 348, 349, 351, 352, 356, 358, 3, 359, 360, 362, 4, 363, 120, 364, 365, 366, 367, 370] (by decide +kernel) (by decide +kernel) w h).1
set_option maxRecDepth 20000 in
theorem zl_wsL_law0_r23 : ∀ w ∈ wsL_law0_r23, w ∈ lw_tbl := fun w h => (goodIn_r _ [372, 5, 373, 378, 379, 77, 380, 374, 375, 376, 377, 382, 384, 6, 385, 386, 388, 7, 389, 390, 391, 392, 393, 394] (by decide +kernel) (by decide +kernel) w h).1
set_option maxRecDepth 20000 in
theorem zl_wsL_law0_r24 : ∀ w ∈ wsL_law0_r24, w ∈ lw_tbl := fun w h => (goodIn_r _ [395, 396, 397, 398, 400, 8, 401, 402, 403, 998, 999, 1000, 1001, 1002, 1004, 40, 1005, 813, 814, 1006, 1008, 41, 1009, 1010] (by decide +kernel) (by decide +kernel) w h).1
set_option maxRecDepth 20000 in
theorem zl_wsL_law0_r25 : ∀ w ∈ wsL_law0_r25, w ∈ lw_tbl := fun w h => (goodIn_r _ [1012, 42, 1013, 1014, 1016, 43, 1017, 1018, 1019, 1020, 1021, 1022, 1023, 1024, 1025, 1026, 1027, 1029, 44, 1030, 1031, 1033, 45, 1034] (by decide +kernel) (by decide +kernel) w h).1
set_option maxRecDepth 20000 in
theorem zl_wsL_law0_r26 : ∀ w ∈ wsL_law0_r26, w ∈ lw_tbl := fun w h => (goodIn_r _ [695, 696, 697, 698, 699, 700, 701, 148, 702, 704, 13, 705, 706, 707, 708, 709, 710, 711, 712, 713, 114, 116, 714, 715] (by decide +kernel) (by decide +kernel) w h).1
set_option maxRecDepth 20000 in
theorem zl_wsL_law0_r27 : ∀ w ∈ wsL_law0_r27, w ∈ lw_tbl := fun w h => (goodIn_r _ [716, 717, 718, 719, 720, 721, 722, 723, 724, 725, 727, 14, 728, 121, 729, 730, 731, 732, 733, 734, 735, 737, 15, 738] (by decide +kernel) (by decide +kernel) w h).1
set_option maxRecDepth 20000 in
theorem zl_wsL_law0_r28 : ∀ w ∈ wsL_law0_r28, w ∈ lw_tbl := fun w h => (goodIn_r _ [125, 739, 741, 16, 742, 743, 744, 745, 746, 748, 17, 749, 118, 750, 751, 753, 18, 754, 123, 755, 757, 19, 758, 127] (by decide +kernel) (by decide +kernel) w h).1
set_option maxRecDepth 20000 in
theorem zl_wsL_law0_r29 : ∀ w ∈ wsL_law0_r29, w ∈ lw_tbl := fun w h => (goodIn_r _ [759, 761, 20, 762, 763, 765, 21, 766, 767, 768, 769, 770, 771, 772, 773, 774, 776, 22, 777, 778, 779, 781, 23, 782] (by decide +kernel) (by decide +kernel) w h).1
set_option maxRecDepth 20000 in
theorem zl_wsL_law0_r30 : ∀ w ∈ wsL_law0_r30, w ∈ lw_tbl := fun w h => (goodIn_r _ [1035, 1036, 1037, 1038, 1039, 1041, 46, 1042, 1043, 1045, 47, 1046, 1047, 1049, 48, 1050, 1051, 1053, 49, 1054, 816, 1055, 1057, 50] (by decide +kernel) (by decide +kernel) w h).1
set_option maxRecDepth 20000 in
theorem zl_wsL_law0_r31 : ∀ w ∈ wsL_law0_r31, w ∈ lw_tbl := fun w h => (goodIn_r _ [1058, 1059, 1061, 51, 1062, 815, 817, 1063, 1065, 52, 1066, 1067, 1069, 53, 1070, 1071, 1073, 54, 1074, 818, 819, 1075, 1077, 55] (by decide +kernel) (by decide +kernel) w h).1
set_option maxRecDepth 20000 in
theorem zl_wsL_law0_r32 : ∀ w ∈ wsL_law0_r32, w ∈ lw_tbl := fun w h => (goodIn_r _ [1078, 1079, 1080, 1081, 1082, 1083, 1084, 1085, 1087, 56, 1088, 1089, 1091, 57, 1092, 1093, 1095, 58, 1096, 1097, 1099, 59, 1100, 783] (by decide +kernel) (by decide +kernel) w h).1
set_option maxRecDepth 20000 in
theorem zl_wsL_law0_r33 : ∀ w ∈ wsL_law0_r33, w ∈ lw_tbl := fun w h => (goodIn_r _ [784, 785, 786, 787, 788, 789, 1101, 1102, 1103, 1104, 1105, 1107, 60, 1108, 1109, 1111, 61, 1112, 404, 405, 406, 407, 205, 1113] (by decide +kernel) (by decide +kernel) w h).1
set_option maxRecDepth 20000 in
theorem zl_wsL_law0_r34 : ∀ w ∈ wsL_law0_r34, w ∈ lw_tbl := fun w h => (goodIn_r _ [1114, 1115, 1116, 408, 409, 410, 411, 207, 1117, 1118, 1119, 1120, 412, 413, 414, 415, 209, 1121, 1122, 1123, 1124, 790, 791, 792] (by decide +kernel) (by decide +kernel) w h).1
set_option maxRecDepth 20000 in
theorem zl_wsL_law0_r35 : ∀ w ∈ wsL_law0_r35, w ∈ lw_tbl := fun w h => (goodIn_r _ [793, 794, 795, 796, 1125, 1126, 1127, 1128, 416, 417, 418, 419, 1129, 1130, 1131, 1132, 420, 421, 422, 423, 424, 425, 426, 427] (by decide +kernel) (by decide +kernel) w h).1
set_option maxRecDepth 20000 in
theorem zl_wsL_law0_r36 : ∀ w ∈ wsL_law0_r36, w ∈ lw_tbl := fun w h => (goodIn_r _ [428, 429, 430, 431, 432, 433, 434, 435, 436, 437, 1133, 1134, 1135, 1136, 1137, 1138] (by decide +kernel) (by decide +kernel) w h).1
set_option maxRecDepth 20000 in
theorem zl_wsX50 : ∀ w ∈ wsX50, w ∈ lw_tbl := fun w h => (goodIn_r _ [240, 242, 244, 246, 248, 250, 252] (by decide +kernel) (by decide +kernel) w h).1
set_option maxRecDepth 20000 in
theorem zl_wsX60 : ∀ w ∈ wsX60, w ∈ lw_tbl := fun w h => (goodIn_r _ [820, 822, 824, 826, 828, 830, 832, 834, 836, 838, 840, 842, 844, 846, 848, 850, 852] (by decide +kernel) (by decide +kernel) w h).1
set_option maxRecDepth 20000 in
theorem zl_wsX00 : ∀ w ∈ wsX00, w ∈ lw_tbl := fun w h => (goodIn_r _ [95, 97] (by decide +kernel) (by decide +kernel) w h).1
set_option maxRecDepth 20000 in
theorem zl_wsX20 : ∀ w ∈ wsX20, w ∈ lw_tbl := fun w h => (goodIn_r _ [151, 153, 155] (by decide +kernel) (by decide +kernel) w h).1
set_option maxRecDepth 20000 in
theorem zl_wsX30 : ∀ w ∈ wsX30, w ∈ lw_tbl := fun w h => (goodIn_r _ [213, 215, 217, 219, 221, 223, 225, 227, 229] (by decide +kernel) (by decide +kernel) w h).1
set_option maxRecDepth 20000 in
theorem zl_wsX10 : ∀ w ∈ wsX10, w ∈ lw_tbl := fun w h => (goodIn_r _ [129, 131, 133, 135, 137, 139, 141, 143] (by decide +kernel) (by decide +kernel) w h).1
set_option maxRecDepth 20000 in
theorem zl_wsX40 : ∀ w ∈ wsX40, w ∈ lw_tbl := fun w h => (goodIn_r _ [182, 184, 186, 188, 190, 192] (by decide +kernel) (by decide +kernel) w h).1
theorem wsL_law_in0 : ∀ w ∈ wsL_law0, w ∈ lw_tbl := zl_app (zl_app (zl_app (zl_app (zl_app (zl_app (zl_app (zl_app (zl_app zl_wsL_law0_r1 (zl_app zl_wsL_law0_r2 (zl_app zl_wsL_law0_r3 (zl_app zl_wsL_law0_r4 (zl_app zl_wsL_law0_r5 (zl_app zl_wsL_law0_r6 (zl_app zl_wsL_law0_r7 (zl_app zl_wsL_law0_r8 (zl_app zl_wsL_law0_r9 (zl_app zl_wsL_law0_r10 (zl_app zl_wsL_law0_r11 (zl_app zl_wsL_law0_r12 (zl_app zl_wsL_law0_r13 (zl_app zl_wsL_law0_r14 (zl_app zl_wsL_law0_r15 (zl_app zl_wsL_law0_r16 (zl_app zl_wsL_law0_r17 (zl_app zl_wsL_law0_r18 (zl_app zl_wsL_law0_r19 (zl_app zl_wsL_law0_r20 (zl_app zl_wsL_law0_r21 (zl_app zl_wsL_law0_r22 (zl_app zl_wsL_law0_r23 (zl_app zl_wsL_law0_r24 (zl_app zl_wsL_law0_r25 (zl_app zl_wsL_law0_r26 (zl_app zl_wsL_law0_r27 (zl_app zl_wsL_law0_r28 (zl_app zl_wsL_law0_r29 (zl_app zl_wsL_law0_r30 (zl_app zl_wsL_law0_r31 (zl_app zl_wsL_law0_r32 (zl_app zl_wsL_law0_r33 (zl_app zl_wsL_law0_r34 (zl_app zl_wsL_law0_r35 (zl_wsL_law0_r36)))))))))))))))))))))))))))))))))))) zl_wsX50) zl_wsX60) zl_wsX00) zl_wsX20) zl_wsX30) zl_wsX10) zl_wsX40) (fun _ h => absurd h List.not_mem_nil)
