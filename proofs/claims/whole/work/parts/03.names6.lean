set_option maxRecDepth 20000 in
theorem gX6_describe_X6_readDescription : GoodIn wsX6_describe (wsV RX6 118 RX6 yX6_readDescription wsX6_readDescription) := goodIn_app (goodIn_of _ (by decide +kernel)) ggX6_describe_X6_readDescription
set_option maxRecDepth 20000 in
theorem ggX6_describe_X6_fittingOnes : GoodIn wsX6_describe wsX6_fittingOnes := goodIn_r _ [25, 6, 26, 27, 28, 10, 29, 64, 65, 66, 67, 68, 69, 70, 71, 72, 73, 74, 75, 76, 77, 78, 79, 80] (by decide +kernel) (by decide +kernel)
set_option maxRecDepth 20000 in
theorem gX6_describe_X6_fittingOnes : GoodIn wsX6_describe (wsV RX6 121 RX6 yX6_fittingOnes wsX6_fittingOnes) := goodIn_app (goodIn_of _ (by decide +kernel)) ggX6_describe_X6_fittingOnes
set_option maxRecDepth 20000 in
theorem ggX6_describe_X6_visibleOnes : GoodIn wsX6_describe wsX6_visibleOnes := goodIn_r _ [33, 6, 34, 35, 36, 10, 37, 26, 27, 28, 29, 38, 39, 40, 41, 64, 65, 66, 67, 68, 69, 70, 71, 72, 73, 74, 75, 76, 77, 78, 79, 80] (by decide +kernel) (by decide +kernel)
set_option maxRecDepth 20000 in
theorem gX6_describe_X6_visibleOnes : GoodIn wsX6_describe (wsV RX6 124 RX6 yX6_visibleOnes wsX6_visibleOnes) := goodIn_app (goodIn_of _ (by decide +kernel)) ggX6_describe_X6_visibleOnes
set_option maxRecDepth 20000 in
theorem ggX6_describe_X6_suitableOnes : GoodIn wsX6_describe wsX6_suitableOnes := goodIn_r _ [45, 6, 46, 47, 48, 10, 49, 34, 35, 36, 37, 26, 27, 28, 29, 38, 39, 40, 41, 50, 51, 52, 53, 54, 55, 56, 57, 64, 65, 66, 67, 68, 69, 70, 71, 72, 73, 74, 75, 76, 77, 78, 79, 80] (by decide +kernel) (by decide +kernel)
set_option maxRecDepth 20000 in
theorem gX6_describe_X6_suitableOnes : GoodIn wsX6_describe (wsV RX6 128 RX6 yX6_suitableOnes wsX6_suitableOnes) := goodIn_app (goodIn_of _ (by decide +kernel)) ggX6_describe_X6_suitableOnes
set_option maxRecDepth 20000 in
theorem ggX6_describe_X6_size : GoodIn wsX6_describe wsX6_size := goodIn_r _ [60] (by decide +kernel) (by decide +kernel)
set_option maxRecDepth 20000 in
theorem gX6_describe_X6_size : GoodIn wsX6_describe (va_wsS RX6 134 yX6_size wsX6_size) := goodIn_app (goodIn_of _ (by decide +kernel)) ggX6_describe_X6_size
set_option maxRecDepth 20000 in
theorem ggX6_describe_X6_lowest : GoodIn wsX6_describe wsX6_lowest := goodIn_r _ [63] (by decide +kernel) (by decide +kernel)
set_option maxRecDepth 20000 in
theorem gX6_describe_X6_lowest : GoodIn wsX6_describe (va_wsS RX6 137 yX6_lowest wsX6_lowest) := goodIn_app (goodIn_of _ (by decide +kernel)) ggX6_describe_X6_lowest
theorem dX6_describe_0 : decode cX6_describe 0 = .ok (.aload_n 0, 1) := by decide +kernel
theorem dX6_describe_1 : decode cX6_describe 1 = .ok (.getfield 106, 3) := by decide +kernel
theorem dX6_describe_4 : decode cX6_describe 4 = .ok (.istore_n 2, 1) := by decide +kernel
theorem dX6_describe_5 : decode cX6_describe 5 = .ok (.aload_n 0, 1) := by decide +kernel
theorem dX6_describe_6 : decode cX6_describe 6 = .ok (.invokevirtual 118, 3) := by decide +kernel
theorem dX6_describe_9 : decode cX6_describe 9 = .ok (.aload_n 0, 1) := by decide +kernel
theorem dX6_describe_10 : decode cX6_describe 10 = .ok (.aload_n 0, 1) := by decide +kernel
theorem dX6_describe_11 : decode cX6_describe 11 = .ok (.getfield 115, 3) := by decide +kernel
theorem dX6_describe_14 : decode cX6_describe 14 = .ok (.aload_n 0, 1) := by decide +kernel
theorem dX6_describe_15 : decode cX6_describe 15 = .ok (.getfield 112, 3) := by decide +kernel
theorem dX6_describe_18 : decode cX6_describe 18 = .ok (.invokevirtual 121, 3) := by decide +kernel
theorem dX6_describe_21 : decode cX6_describe 21 = .ok (.aload_n 0, 1) := by decide +kernel
theorem dX6_describe_22 : decode cX6_describe 22 = .ok (.invokevirtual 124, 3) := by decide +kernel
theorem dX6_describe_25 : decode cX6_describe 25 = .ok (.iand, 1) := by decide +kernel
theorem dX6_describe_26 : decode cX6_describe 26 = .ok (.istore_n 3, 1) := by decide +kernel
theorem dX6_describe_27 : decode cX6_describe 27 = .ok (.iload_n 3, 1) := by decide +kernel
theorem dX6_describe_28 : decode cX6_describe 28 = .ok (.aload_n 0, 1) := by decide +kernel
theorem dX6_describe_29 : decode cX6_describe 29 = .ok (.iload_n 1, 1) := by decide +kernel
theorem dX6_describe_30 : decode cX6_describe 30 = .ok (.invokevirtual 128, 3) := by decide +kernel
theorem dX6_describe_33 : decode cX6_describe 33 = .ok (.iand, 1) := by decide +kernel
theorem dX6_describe_34 : decode cX6_describe 34 = .ok (.istore 4, 2) := by decide +kernel
theorem dX6_describe_36 : decode cX6_describe 36 = .ok (.iload_n 3, 1) := by decide +kernel
theorem dX6_describe_37 : decode cX6_describe 37 = .ok (.ifCond .ne 12, 3) := by decide +kernel
theorem dX6_describe_40 : decode cX6_describe 40 = .ok (.aload_n 0, 1) := by decide +kernel
theorem dX6_describe_41 : decode cX6_describe 41 = .ok (.bipush (-2), 2) := by decide +kernel
theorem dX6_describe_43 : decode cX6_describe 43 = .ok (.putfield 131, 3) := by decide +kernel
theorem dX6_describe_46 : decode cX6_describe 46 = .ok (.goto 90, 3) := by decide +kernel
theorem dX6_describe_49 : decode cX6_describe 49 = .ok (.iload 4, 2) := by decide +kernel
theorem dX6_describe_51 : decode cX6_describe 51 = .ok (.ifCond .ne 12, 3) := by decide +kernel
theorem dX6_describe_54 : decode cX6_describe 54 = .ok (.aload_n 0, 1) := by decide +kernel
theorem dX6_describe_55 : decode cX6_describe 55 = .ok (.bipush (-3), 2) := by decide +kernel
theorem dX6_describe_57 : decode cX6_describe 57 = .ok (.putfield 131, 3) := by decide +kernel
theorem dX6_describe_60 : decode cX6_describe 60 = .ok (.goto 76, 3) := by decide +kernel
theorem dX6_describe_63 : decode cX6_describe 63 = .ok (.iload 4, 2) := by decide +kernel
theorem dX6_describe_65 : decode cX6_describe 65 = .ok (.invokestatic 134, 3) := by decide +kernel
theorem dX6_describe_68 : decode cX6_describe 68 = .ok (.iconst 1, 1) := by decide +kernel
theorem dX6_describe_69 : decode cX6_describe 69 = .ok (.if_icmp .ne 15, 3) := by decide +kernel
theorem dX6_describe_72 : decode cX6_describe 72 = .ok (.aload_n 0, 1) := by decide +kernel
theorem dX6_describe_73 : decode cX6_describe 73 = .ok (.iload 4, 2) := by decide +kernel
theorem dX6_describe_75 : decode cX6_describe 75 = .ok (.invokestatic 137, 3) := by decide +kernel
theorem dX6_describe_78 : decode cX6_describe 78 = .ok (.putfield 140, 3) := by decide +kernel
theorem dX6_describe_81 : decode cX6_describe 81 = .ok (.goto 55, 3) := by decide +kernel
theorem dX6_describe_84 : decode cX6_describe 84 = .ok (.aload_n 0, 1) := by decide +kernel
theorem dX6_describe_85 : decode cX6_describe 85 = .ok (.getfield 16, 3) := by decide +kernel
theorem dX6_describe_88 : decode cX6_describe 88 = .ok (.bipush 90, 2) := by decide +kernel
theorem dX6_describe_90 : decode cX6_describe 90 = .ok (.iload_n 2, 1) := by decide +kernel
theorem dX6_describe_91 : decode cX6_describe 91 = .ok (.iadd, 1) := by decide +kernel
theorem dX6_describe_92 : decode cX6_describe 92 = .ok (.iaload, 1) := by decide +kernel
theorem dX6_describe_93 : decode cX6_describe 93 = .ok (.ifCond .le 21, 3) := by decide +kernel
theorem dX6_describe_96 : decode cX6_describe 96 = .ok (.aload_n 0, 1) := by decide +kernel
theorem dX6_describe_97 : decode cX6_describe 97 = .ok (.aload_n 0, 1) := by decide +kernel
theorem dX6_describe_98 : decode cX6_describe 98 = .ok (.getfield 16, 3) := by decide +kernel
theorem dX6_describe_101 : decode cX6_describe 101 = .ok (.bipush 90, 2) := by decide +kernel
theorem dX6_describe_103 : decode cX6_describe 103 = .ok (.iload_n 2, 1) := by decide +kernel
theorem dX6_describe_104 : decode cX6_describe 104 = .ok (.iadd, 1) := by decide +kernel
theorem dX6_describe_105 : decode cX6_describe 105 = .ok (.iaload, 1) := by decide +kernel
theorem dX6_describe_106 : decode cX6_describe 106 = .ok (.iconst 1, 1) := by decide +kernel
theorem dX6_describe_107 : decode cX6_describe 107 = .ok (.isub, 1) := by decide +kernel
theorem dX6_describe_108 : decode cX6_describe 108 = .ok (.putfield 140, 3) := by decide +kernel
theorem dX6_describe_111 : decode cX6_describe 111 = .ok (.goto 25, 3) := by decide +kernel
theorem dX6_describe_114 : decode cX6_describe 114 = .ok (.aload_n 0, 1) := by decide +kernel
theorem dX6_describe_115 : decode cX6_describe 115 = .ok (.iconst (-1), 1) := by decide +kernel
theorem dX6_describe_116 : decode cX6_describe 116 = .ok (.putfield 131, 3) := by decide +kernel
theorem dX6_describe_119 : decode cX6_describe 119 = .ok (.aload_n 0, 1) := by decide +kernel
theorem dX6_describe_120 : decode cX6_describe 120 = .ok (.getfield 16, 3) := by decide +kernel
theorem dX6_describe_123 : decode cX6_describe 123 = .ok (.bipush 56, 2) := by decide +kernel
theorem dX6_describe_125 : decode cX6_describe 125 = .ok (.iload_n 2, 1) := by decide +kernel
theorem dX6_describe_126 : decode cX6_describe 126 = .ok (.iastore, 1) := by decide +kernel
theorem dX6_describe_127 : decode cX6_describe 127 = .ok (.aload_n 0, 1) := by decide +kernel
theorem dX6_describe_128 : decode cX6_describe 128 = .ok (.getfield 16, 3) := by decide +kernel
theorem dX6_describe_131 : decode cX6_describe 131 = .ok (.bipush 57, 2) := by decide +kernel
theorem dX6_describe_133 : decode cX6_describe 133 = .ok (.iload 4, 2) := by decide +kernel
theorem dX6_describe_135 : decode cX6_describe 135 = .ok (.iastore, 1) := by decide +kernel
theorem dX6_describe_136 : decode cX6_describe 136 = .ok (.return_, 1) := by decide +kernel
set_option maxRecDepth 20000 in
theorem ggX6_resolveIt_X6_isVisible : GoodIn wsX6_resolveIt wsX6_isVisible := goodIn_r _ [9, 10, 11, 12, 8, 13, 2, 14, 15, 16, 17, 34, 35, 36, 37, 38, 39, 40, 41, 42, 43, 44, 45, 46, 47, 48, 49, 50] (by decide +kernel) (by decide +kernel)
set_option maxRecDepth 20000 in
theorem gX6_resolveIt_X6_isVisible : GoodIn wsX6_resolveIt (wsV RX6 50 RX6 yX6_isVisible wsX6_isVisible) := goodIn_app (goodIn_of _ (by decide +kernel)) ggX6_resolveIt_X6_isVisible
set_option maxRecDepth 20000 in
theorem ggX6_resolveIt_X6_suitableOnes : GoodIn wsX6_resolveIt wsX6_suitableOnes := goodIn_r _ [21, 2, 22, 23, 24, 8, 25, 5, 6, 7, 9, 10, 11, 12, 13, 14, 15, 16, 17, 26, 27, 28, 29, 30, 31, 32, 33, 34, 35, 36, 37, 38, 39, 40, 41, 42, 43, 44, 45, 46, 47, 48, 49, 50] (by decide +kernel) (by decide +kernel)
set_option maxRecDepth 20000 in
theorem gX6_resolveIt_X6_suitableOnes : GoodIn wsX6_resolveIt (wsV RX6 128 RX6 yX6_suitableOnes wsX6_suitableOnes) := goodIn_app (goodIn_of _ (by decide +kernel)) ggX6_resolveIt_X6_suitableOnes
theorem dX6_resolveIt_0 : decode cX6_resolveIt 0 = .ok (.aload_n 0, 1) := by decide +kernel
theorem dX6_resolveIt_1 : decode cX6_resolveIt 1 = .ok (.dup, 1) := by decide +kernel
theorem dX6_resolveIt_2 : decode cX6_resolveIt 2 = .ok (.getfield 106, 3) := by decide +kernel
theorem dX6_resolveIt_5 : decode cX6_resolveIt 5 = .ok (.iconst 1, 1) := by decide +kernel
theorem dX6_resolveIt_6 : decode cX6_resolveIt 6 = .ok (.iadd, 1) := by decide +kernel
theorem dX6_resolveIt_7 : decode cX6_resolveIt 7 = .ok (.putfield 106, 3) := by decide +kernel
theorem dX6_resolveIt_10 : decode cX6_resolveIt 10 = .ok (.aload_n 0, 1) := by decide +kernel
theorem dX6_resolveIt_11 : decode cX6_resolveIt 11 = .ok (.aload_n 0, 1) := by decide +kernel
theorem dX6_resolveIt_12 : decode cX6_resolveIt 12 = .ok (.getfield 16, 3) := by decide +kernel
theorem dX6_resolveIt_15 : decode cX6_resolveIt 15 = .ok (.bipush 50, 2) := by decide +kernel
theorem dX6_resolveIt_17 : decode cX6_resolveIt 17 = .ok (.iaload, 1) := by decide +kernel
theorem dX6_resolveIt_18 : decode cX6_resolveIt 18 = .ok (.putfield 140, 3) := by decide +kernel
theorem dX6_resolveIt_21 : decode cX6_resolveIt 21 = .ok (.aload_n 0, 1) := by decide +kernel
theorem dX6_resolveIt_22 : decode cX6_resolveIt 22 = .ok (.getfield 140, 3) := by decide +kernel
theorem dX6_resolveIt_25 : decode cX6_resolveIt 25 = .ok (.ifCond .ge 12, 3) := by decide +kernel
theorem dX6_resolveIt_28 : decode cX6_resolveIt 28 = .ok (.aload_n 0, 1) := by decide +kernel
theorem dX6_resolveIt_29 : decode cX6_resolveIt 29 = .ok (.bipush (-4), 2) := by decide +kernel
theorem dX6_resolveIt_31 : decode cX6_resolveIt 31 = .ok (.putfield 131, 3) := by decide +kernel
theorem dX6_resolveIt_34 : decode cX6_resolveIt 34 = .ok (.goto 44, 3) := by decide +kernel
theorem dX6_resolveIt_37 : decode cX6_resolveIt 37 = .ok (.aload_n 0, 1) := by decide +kernel
theorem dX6_resolveIt_38 : decode cX6_resolveIt 38 = .ok (.aload_n 0, 1) := by decide +kernel
theorem dX6_resolveIt_39 : decode cX6_resolveIt 39 = .ok (.getfield 140, 3) := by decide +kernel
theorem dX6_resolveIt_42 : decode cX6_resolveIt 42 = .ok (.invokevirtual 50, 3) := by decide +kernel
theorem dX6_resolveIt_45 : decode cX6_resolveIt 45 = .ok (.ifCond .ne 12, 3) := by decide +kernel
theorem dX6_resolveIt_48 : decode cX6_resolveIt 48 = .ok (.aload_n 0, 1) := by decide +kernel
theorem dX6_resolveIt_49 : decode cX6_resolveIt 49 = .ok (.bipush (-2), 2) := by decide +kernel
theorem dX6_resolveIt_51 : decode cX6_resolveIt 51 = .ok (.putfield 131, 3) := by decide +kernel
theorem dX6_resolveIt_54 : decode cX6_resolveIt 54 = .ok (.goto 24, 3) := by decide +kernel
theorem dX6_resolveIt_57 : decode cX6_resolveIt 57 = .ok (.aload_n 0, 1) := by decide +kernel
theorem dX6_resolveIt_58 : decode cX6_resolveIt 58 = .ok (.iload_n 1, 1) := by decide +kernel
theorem dX6_resolveIt_59 : decode cX6_resolveIt 59 = .ok (.invokevirtual 128, 3) := by decide +kernel
theorem dX6_resolveIt_62 : decode cX6_resolveIt 62 = .ok (.aload_n 0, 1) := by decide +kernel
theorem dX6_resolveIt_63 : decode cX6_resolveIt 63 = .ok (.getfield 140, 3) := by decide +kernel
theorem dX6_resolveIt_66 : decode cX6_resolveIt 66 = .ok (.ishr, 1) := by decide +kernel
theorem dX6_resolveIt_67 : decode cX6_resolveIt 67 = .ok (.iconst 1, 1) := by decide +kernel
theorem dX6_resolveIt_68 : decode cX6_resolveIt 68 = .ok (.iand, 1) := by decide +kernel
theorem dX6_resolveIt_69 : decode cX6_resolveIt 69 = .ok (.ifCond .ne 9, 3) := by decide +kernel
theorem dX6_resolveIt_72 : decode cX6_resolveIt 72 = .ok (.aload_n 0, 1) := by decide +kernel
theorem dX6_resolveIt_73 : decode cX6_resolveIt 73 = .ok (.bipush (-3), 2) := by decide +kernel
theorem dX6_resolveIt_75 : decode cX6_resolveIt 75 = .ok (.putfield 131, 3) := by decide +kernel
theorem dX6_resolveIt_78 : decode cX6_resolveIt 78 = .ok (.return_, 1) := by decide +kernel
set_option maxRecDepth 20000 in
theorem ggX6_resolveObjects_X6_word : GoodIn wsX6_resolveObjects wsX6_word := goodIn_r _ [11, 5, 72, 73, 74, 75, 76, 77, 78, 79, 80, 81, 82, 83, 84, 85, 86, 87, 88] (by decide +kernel) (by decide +kernel)
set_option maxRecDepth 20000 in
theorem gX6_resolveObjects_X6_word : GoodIn wsX6_resolveObjects (wsV RX6 109 RX6 yX6_word wsX6_word) := goodIn_app (goodIn_of _ (by decide +kernel)) ggX6_resolveObjects_X6_word
set_option maxRecDepth 20000 in
theorem ggX6_resolveObjects_X6_suitableOnes : GoodIn wsX6_resolveObjects wsX6_suitableOnes := goodIn_r _ [15, 5, 16, 17, 18, 10, 19, 20, 21, 22, 23, 24, 25, 26, 27, 28, 29, 30, 31, 32, 33, 34, 35, 36, 37, 38, 39, 72, 73, 74, 75, 76, 77, 78, 79, 80, 81, 82, 83, 84, 85, 86, 87, 88] (by decide +kernel) (by decide +kernel)
set_option maxRecDepth 20000 in
theorem gX6_resolveObjects_X6_suitableOnes : GoodIn wsX6_resolveObjects (wsV RX6 128 RX6 yX6_suitableOnes wsX6_suitableOnes) := goodIn_app (goodIn_of _ (by decide +kernel)) ggX6_resolveObjects_X6_suitableOnes
set_option maxRecDepth 20000 in
theorem ggX6_resolveObjects_X6_readDescription : GoodIn wsX6_resolveObjects wsX6_readDescription := goodIn_r _ [43, 1, 3, 2, 7, 8, 9, 10, 11, 5, 44, 45, 46, 47, 48, 49, 72, 73, 74, 75, 76, 77, 78, 79, 80, 81, 82, 83, 84, 85, 86, 87, 88] (by decide +kernel) (by decide +kernel)
set_option maxRecDepth 20000 in
theorem gX6_resolveObjects_X6_readDescription : GoodIn wsX6_resolveObjects (wsV RX6 118 RX6 yX6_readDescription wsX6_readDescription) := goodIn_app (goodIn_of _ (by decide +kernel)) ggX6_resolveObjects_X6_readDescription
set_option maxRecDepth 20000 in
theorem ggX6_resolveObjects_X6_fittingOnes : GoodIn wsX6_resolveObjects wsX6_fittingOnes := goodIn_r _ [53, 5, 24, 25, 26, 10, 27, 72, 73, 74, 75, 76, 77, 78, 79, 80, 81, 82, 83, 84, 85, 86, 87, 88] (by decide +kernel) (by decide +kernel)
set_option maxRecDepth 20000 in
theorem gX6_resolveObjects_X6_fittingOnes : GoodIn wsX6_resolveObjects (wsV RX6 121 RX6 yX6_fittingOnes wsX6_fittingOnes) := goodIn_app (goodIn_of _ (by decide +kernel)) ggX6_resolveObjects_X6_fittingOnes
set_option maxRecDepth 20000 in
theorem ggX6_resolveObjects_X6_resolveIt : GoodIn wsX6_resolveObjects wsX6_resolveIt := goodIn_r _ [57, 1, 5, 6, 4, 20, 21, 22, 10, 23, 24, 25, 26, 27, 28, 29, 30, 31, 12, 13, 14, 15, 16, 17, 18, 19, 32, 33, 34, 35, 36, 37, 38, 39, 72, 73, 74, 75, 76, 77, 78, 79, 80, 81, 82, 83, 84, 85, 86, 87, 88] (by decide +kernel) (by decide +kernel)
set_option maxRecDepth 20000 in
theorem gX6_resolveObjects_X6_resolveIt : GoodIn wsX6_resolveObjects (wsV RX6 143 RX6 yX6_resolveIt wsX6_resolveIt) := goodIn_app (goodIn_of _ (by decide +kernel)) ggX6_resolveObjects_X6_resolveIt
set_option maxRecDepth 20000 in
theorem ggX6_resolveObjects_X6_describe : GoodIn wsX6_resolveObjects wsX6_describe := goodIn_r _ [61, 1, 2, 3, 4, 6, 5, 40, 41, 42, 10, 43, 7, 8, 9, 11, 44, 45, 46, 47, 48, 49, 50, 51, 52, 53, 24, 25, 26, 27, 62, 63, 64, 65, 20, 21, 22, 23, 28, 29, 30, 31, 12, 13, 14, 15, 16, 17, 18, 19, 32, 33, 34, 35, 36, 37, 38, 39, 66, 67, 68, 69, 70, 71, 72, 73, 74, 75, 76, 77, 78, 79, 80, 81, 82, 83, 84, 85, 86, 87, 88] (by decide +kernel) (by decide +kernel)
set_option maxRecDepth 20000 in
theorem gX6_resolveObjects_X6_describe : GoodIn wsX6_resolveObjects (wsV RX6 147 RX6 yX6_describe wsX6_describe) := goodIn_app (goodIn_of _ (by decide +kernel)) ggX6_resolveObjects_X6_describe
theorem dX6_resolveObjects_0 : decode cX6_resolveObjects 0 = .ok (.aload_n 0, 1) := by decide +kernel
theorem dX6_resolveObjects_1 : decode cX6_resolveObjects 1 = .ok (.iconst 1, 1) := by decide +kernel
theorem dX6_resolveObjects_2 : decode cX6_resolveObjects 2 = .ok (.putfield 106, 3) := by decide +kernel
theorem dX6_resolveObjects_5 : decode cX6_resolveObjects 5 = .ok (.iconst 0, 1) := by decide +kernel
theorem dX6_resolveObjects_6 : decode cX6_resolveObjects 6 = .ok (.istore_n 2, 1) := by decide +kernel
theorem dX6_resolveObjects_7 : decode cX6_resolveObjects 7 = .ok (.aload_n 0, 1) := by decide +kernel
theorem dX6_resolveObjects_8 : decode cX6_resolveObjects 8 = .ok (.iconst 1, 1) := by decide +kernel
theorem dX6_resolveObjects_9 : decode cX6_resolveObjects 9 = .ok (.invokevirtual 109, 3) := by decide +kernel
theorem dX6_resolveObjects_12 : decode cX6_resolveObjects 12 = .ok (.bipush 17, 2) := by decide +kernel
theorem dX6_resolveObjects_14 : decode cX6_resolveObjects 14 = .ok (.if_icmp .ne 90, 3) := by decide +kernel
theorem dX6_resolveObjects_17 : decode cX6_resolveObjects 17 = .ok (.aload_n 0, 1) := by decide +kernel
theorem dX6_resolveObjects_18 : decode cX6_resolveObjects 18 = .ok (.iload_n 1, 1) := by decide +kernel
theorem dX6_resolveObjects_19 : decode cX6_resolveObjects 19 = .ok (.invokevirtual 128, 3) := by decide +kernel
theorem dX6_resolveObjects_22 : decode cX6_resolveObjects 22 = .ok (.istore_n 2, 1) := by decide +kernel
theorem dX6_resolveObjects_23 : decode cX6_resolveObjects 23 = .ok (.aload_n 0, 1) := by decide +kernel
theorem dX6_resolveObjects_24 : decode cX6_resolveObjects 24 = .ok (.iconst 2, 1) := by decide +kernel
theorem dX6_resolveObjects_25 : decode cX6_resolveObjects 25 = .ok (.putfield 106, 3) := by decide +kernel
theorem dX6_resolveObjects_28 : decode cX6_resolveObjects 28 = .ok (.aload_n 0, 1) := by decide +kernel
theorem dX6_resolveObjects_29 : decode cX6_resolveObjects 29 = .ok (.aload_n 0, 1) := by decide +kernel
theorem dX6_resolveObjects_30 : decode cX6_resolveObjects 30 = .ok (.getfield 106, 3) := by decide +kernel
theorem dX6_resolveObjects_33 : decode cX6_resolveObjects 33 = .ok (.invokevirtual 109, 3) := by decide +kernel
theorem dX6_resolveObjects_36 : decode cX6_resolveObjects 36 = .ok (.bipush 18, 2) := by decide +kernel
theorem dX6_resolveObjects_38 : decode cX6_resolveObjects 38 = .ok (.if_icmp .eq 16, 3) := by decide +kernel
theorem dX6_resolveObjects_41 : decode cX6_resolveObjects 41 = .ok (.aload_n 0, 1) := by decide +kernel
theorem dX6_resolveObjects_42 : decode cX6_resolveObjects 42 = .ok (.aload_n 0, 1) := by decide +kernel
theorem dX6_resolveObjects_43 : decode cX6_resolveObjects 43 = .ok (.getfield 106, 3) := by decide +kernel
theorem dX6_resolveObjects_46 : decode cX6_resolveObjects 46 = .ok (.invokevirtual 109, 3) := by decide +kernel
theorem dX6_resolveObjects_49 : decode cX6_resolveObjects 49 = .ok (.bipush 19, 2) := by decide +kernel
theorem dX6_resolveObjects_51 : decode cX6_resolveObjects 51 = .ok (.if_icmp .ne 37, 3) := by decide +kernel
theorem dX6_resolveObjects_54 : decode cX6_resolveObjects 54 = .ok (.aload_n 0, 1) := by decide +kernel
theorem dX6_resolveObjects_55 : decode cX6_resolveObjects 55 = .ok (.dup, 1) := by decide +kernel
theorem dX6_resolveObjects_56 : decode cX6_resolveObjects 56 = .ok (.getfield 106, 3) := by decide +kernel
theorem dX6_resolveObjects_59 : decode cX6_resolveObjects 59 = .ok (.iconst 1, 1) := by decide +kernel
theorem dX6_resolveObjects_60 : decode cX6_resolveObjects 60 = .ok (.iadd, 1) := by decide +kernel
theorem dX6_resolveObjects_61 : decode cX6_resolveObjects 61 = .ok (.putfield 106, 3) := by decide +kernel
theorem dX6_resolveObjects_64 : decode cX6_resolveObjects 64 = .ok (.aload_n 0, 1) := by decide +kernel
theorem dX6_resolveObjects_65 : decode cX6_resolveObjects 65 = .ok (.invokevirtual 118, 3) := by decide +kernel
theorem dX6_resolveObjects_68 : decode cX6_resolveObjects 68 = .ok (.iload_n 2, 1) := by decide +kernel
theorem dX6_resolveObjects_69 : decode cX6_resolveObjects 69 = .ok (.aload_n 0, 1) := by decide +kernel
theorem dX6_resolveObjects_70 : decode cX6_resolveObjects 70 = .ok (.aload_n 0, 1) := by decide +kernel
theorem dX6_resolveObjects_71 : decode cX6_resolveObjects 71 = .ok (.getfield 115, 3) := by decide +kernel
theorem dX6_resolveObjects_74 : decode cX6_resolveObjects 74 = .ok (.aload_n 0, 1) := by decide +kernel
theorem dX6_resolveObjects_75 : decode cX6_resolveObjects 75 = .ok (.getfield 112, 3) := by decide +kernel
theorem dX6_resolveObjects_78 : decode cX6_resolveObjects 78 = .ok (.invokevirtual 121, 3) := by decide +kernel
theorem dX6_resolveObjects_81 : decode cX6_resolveObjects 81 = .ok (.iconst (-1), 1) := by decide +kernel
theorem dX6_resolveObjects_82 : decode cX6_resolveObjects 82 = .ok (.ixor, 1) := by decide +kernel
theorem dX6_resolveObjects_83 : decode cX6_resolveObjects 83 = .ok (.iand, 1) := by decide +kernel
theorem dX6_resolveObjects_84 : decode cX6_resolveObjects 84 = .ok (.istore_n 2, 1) := by decide +kernel
theorem dX6_resolveObjects_85 : decode cX6_resolveObjects 85 = .ok (.goto (-57), 3) := by decide +kernel
theorem dX6_resolveObjects_88 : decode cX6_resolveObjects 88 = .ok (.aload_n 0, 1) := by decide +kernel
theorem dX6_resolveObjects_89 : decode cX6_resolveObjects 89 = .ok (.iload_n 2, 1) := by decide +kernel
theorem dX6_resolveObjects_90 : decode cX6_resolveObjects 90 = .ok (.ifCond .ne 8, 3) := by decide +kernel
theorem dX6_resolveObjects_93 : decode cX6_resolveObjects 93 = .ok (.bipush (-3), 2) := by decide +kernel
theorem dX6_resolveObjects_95 : decode cX6_resolveObjects 95 = .ok (.goto 4, 3) := by decide +kernel
theorem dX6_resolveObjects_98 : decode cX6_resolveObjects 98 = .ok (.iconst 0, 1) := by decide +kernel
theorem dX6_resolveObjects_99 : decode cX6_resolveObjects 99 = .ok (.putfield 131, 3) := by decide +kernel
theorem dX6_resolveObjects_102 : decode cX6_resolveObjects 102 = .ok (.iload_n 2, 1) := by decide +kernel
theorem dX6_resolveObjects_103 : decode cX6_resolveObjects 103 = .ok (.ireturn, 1) := by decide +kernel
theorem dX6_resolveObjects_104 : decode cX6_resolveObjects 104 = .ok (.aload_n 0, 1) := by decide +kernel
theorem dX6_resolveObjects_105 : decode cX6_resolveObjects 105 = .ok (.iconst 1, 1) := by decide +kernel
theorem dX6_resolveObjects_106 : decode cX6_resolveObjects 106 = .ok (.invokevirtual 109, 3) := by decide +kernel
theorem dX6_resolveObjects_109 : decode cX6_resolveObjects 109 = .ok (.bipush 23, 2) := by decide +kernel
theorem dX6_resolveObjects_111 : decode cX6_resolveObjects 111 = .ok (.if_icmp .ne 48, 3) := by decide +kernel
theorem dX6_resolveObjects_114 : decode cX6_resolveObjects 114 = .ok (.aload_n 0, 1) := by decide +kernel
theorem dX6_resolveObjects_115 : decode cX6_resolveObjects 115 = .ok (.getfield 16, 3) := by decide +kernel
theorem dX6_resolveObjects_118 : decode cX6_resolveObjects 118 = .ok (.bipush 51, 2) := by decide +kernel
theorem dX6_resolveObjects_120 : decode cX6_resolveObjects 120 = .ok (.iaload, 1) := by decide +kernel
theorem dX6_resolveObjects_121 : decode cX6_resolveObjects 121 = .ok (.aload_n 0, 1) := by decide +kernel
theorem dX6_resolveObjects_122 : decode cX6_resolveObjects 122 = .ok (.iload_n 1, 1) := by decide +kernel
theorem dX6_resolveObjects_123 : decode cX6_resolveObjects 123 = .ok (.invokevirtual 128, 3) := by decide +kernel
theorem dX6_resolveObjects_126 : decode cX6_resolveObjects 126 = .ok (.iand, 1) := by decide +kernel
theorem dX6_resolveObjects_127 : decode cX6_resolveObjects 127 = .ok (.istore_n 2, 1) := by decide +kernel
theorem dX6_resolveObjects_128 : decode cX6_resolveObjects 128 = .ok (.aload_n 0, 1) := by decide +kernel
theorem dX6_resolveObjects_129 : decode cX6_resolveObjects 129 = .ok (.aload_n 0, 1) := by decide +kernel
theorem dX6_resolveObjects_130 : decode cX6_resolveObjects 130 = .ok (.getfield 16, 3) := by decide +kernel
theorem dX6_resolveObjects_133 : decode cX6_resolveObjects 133 = .ok (.bipush 51, 2) := by decide +kernel
theorem dX6_resolveObjects_135 : decode cX6_resolveObjects 135 = .ok (.iaload, 1) := by decide +kernel
theorem dX6_resolveObjects_136 : decode cX6_resolveObjects 136 = .ok (.ifCond .ne 8, 3) := by decide +kernel
theorem dX6_resolveObjects_139 : decode cX6_resolveObjects 139 = .ok (.bipush (-4), 2) := by decide +kernel
theorem dX6_resolveObjects_141 : decode cX6_resolveObjects 141 = .ok (.goto 13, 3) := by decide +kernel
theorem dX6_resolveObjects_144 : decode cX6_resolveObjects 144 = .ok (.iload_n 2, 1) := by decide +kernel
theorem dX6_resolveObjects_145 : decode cX6_resolveObjects 145 = .ok (.ifCond .ne 8, 3) := by decide +kernel
theorem dX6_resolveObjects_148 : decode cX6_resolveObjects 148 = .ok (.bipush (-3), 2) := by decide +kernel
theorem dX6_resolveObjects_150 : decode cX6_resolveObjects 150 = .ok (.goto 4, 3) := by decide +kernel
theorem dX6_resolveObjects_153 : decode cX6_resolveObjects 153 = .ok (.iconst 0, 1) := by decide +kernel
theorem dX6_resolveObjects_154 : decode cX6_resolveObjects 154 = .ok (.putfield 131, 3) := by decide +kernel
theorem dX6_resolveObjects_157 : decode cX6_resolveObjects 157 = .ok (.iload_n 2, 1) := by decide +kernel
theorem dX6_resolveObjects_158 : decode cX6_resolveObjects 158 = .ok (.ireturn, 1) := by decide +kernel
theorem dX6_resolveObjects_159 : decode cX6_resolveObjects 159 = .ok (.aload_n 0, 1) := by decide +kernel
theorem dX6_resolveObjects_160 : decode cX6_resolveObjects 160 = .ok (.iconst 1, 1) := by decide +kernel
theorem dX6_resolveObjects_161 : decode cX6_resolveObjects 161 = .ok (.invokevirtual 109, 3) := by decide +kernel
theorem dX6_resolveObjects_164 : decode cX6_resolveObjects 164 = .ok (.bipush 22, 2) := by decide +kernel
theorem dX6_resolveObjects_166 : decode cX6_resolveObjects 166 = .ok (.if_icmp .ne 26, 3) := by decide +kernel
theorem dX6_resolveObjects_169 : decode cX6_resolveObjects 169 = .ok (.aload_n 0, 1) := by decide +kernel
theorem dX6_resolveObjects_170 : decode cX6_resolveObjects 170 = .ok (.iload_n 1, 1) := by decide +kernel
theorem dX6_resolveObjects_171 : decode cX6_resolveObjects 171 = .ok (.invokevirtual 143, 3) := by decide +kernel
theorem dX6_resolveObjects_174 : decode cX6_resolveObjects 174 = .ok (.aload_n 0, 1) := by decide +kernel
theorem dX6_resolveObjects_175 : decode cX6_resolveObjects 175 = .ok (.getfield 131, 3) := by decide +kernel
theorem dX6_resolveObjects_178 : decode cX6_resolveObjects 178 = .ok (.ifCond .ge 7, 3) := by decide +kernel
theorem dX6_resolveObjects_181 : decode cX6_resolveObjects 181 = .ok (.iconst 0, 1) := by decide +kernel
theorem dX6_resolveObjects_182 : decode cX6_resolveObjects 182 = .ok (.goto 9, 3) := by decide +kernel
theorem dX6_resolveObjects_185 : decode cX6_resolveObjects 185 = .ok (.iconst 1, 1) := by decide +kernel
theorem dX6_resolveObjects_186 : decode cX6_resolveObjects 186 = .ok (.aload_n 0, 1) := by decide +kernel
theorem dX6_resolveObjects_187 : decode cX6_resolveObjects 187 = .ok (.getfield 140, 3) := by decide +kernel
theorem dX6_resolveObjects_190 : decode cX6_resolveObjects 190 = .ok (.ishl, 1) := by decide +kernel
theorem dX6_resolveObjects_191 : decode cX6_resolveObjects 191 = .ok (.ireturn, 1) := by decide +kernel
theorem dX6_resolveObjects_192 : decode cX6_resolveObjects 192 = .ok (.iconst 1, 1) := by decide +kernel
theorem dX6_resolveObjects_193 : decode cX6_resolveObjects 193 = .ok (.istore_n 3, 1) := by decide +kernel
theorem dX6_resolveObjects_194 : decode cX6_resolveObjects 194 = .ok (.iload_n 3, 1) := by decide +kernel
theorem dX6_resolveObjects_195 : decode cX6_resolveObjects 195 = .ok (.ifCond .eq 67, 3) := by decide +kernel
theorem dX6_resolveObjects_198 : decode cX6_resolveObjects 198 = .ok (.aload_n 0, 1) := by decide +kernel
theorem dX6_resolveObjects_199 : decode cX6_resolveObjects 199 = .ok (.iload_n 1, 1) := by decide +kernel
theorem dX6_resolveObjects_200 : decode cX6_resolveObjects 200 = .ok (.invokevirtual 147, 3) := by decide +kernel
theorem dX6_resolveObjects_203 : decode cX6_resolveObjects 203 = .ok (.iload_n 2, 1) := by decide +kernel
theorem dX6_resolveObjects_204 : decode cX6_resolveObjects 204 = .ok (.aload_n 0, 1) := by decide +kernel
theorem dX6_resolveObjects_205 : decode cX6_resolveObjects 205 = .ok (.getfield 131, 3) := by decide +kernel
theorem dX6_resolveObjects_208 : decode cX6_resolveObjects 208 = .ok (.ifCond .ge 7, 3) := by decide +kernel
theorem dX6_resolveObjects_211 : decode cX6_resolveObjects 211 = .ok (.iconst 0, 1) := by decide +kernel
theorem dX6_resolveObjects_212 : decode cX6_resolveObjects 212 = .ok (.goto 9, 3) := by decide +kernel
theorem dX6_resolveObjects_215 : decode cX6_resolveObjects 215 = .ok (.iconst 1, 1) := by decide +kernel
theorem dX6_resolveObjects_216 : decode cX6_resolveObjects 216 = .ok (.aload_n 0, 1) := by decide +kernel
theorem dX6_resolveObjects_217 : decode cX6_resolveObjects 217 = .ok (.getfield 140, 3) := by decide +kernel
theorem dX6_resolveObjects_220 : decode cX6_resolveObjects 220 = .ok (.ishl, 1) := by decide +kernel
theorem dX6_resolveObjects_221 : decode cX6_resolveObjects 221 = .ok (.ior, 1) := by decide +kernel
theorem dX6_resolveObjects_222 : decode cX6_resolveObjects 222 = .ok (.istore_n 2, 1) := by decide +kernel
theorem dX6_resolveObjects_223 : decode cX6_resolveObjects 223 = .ok (.aload_n 0, 1) := by decide +kernel
theorem dX6_resolveObjects_224 : decode cX6_resolveObjects 224 = .ok (.getfield 131, 3) := by decide +kernel
theorem dX6_resolveObjects_227 : decode cX6_resolveObjects 227 = .ok (.ifCond .ne 20, 3) := by decide +kernel
theorem dX6_resolveObjects_230 : decode cX6_resolveObjects 230 = .ok (.aload_n 0, 1) := by decide +kernel
theorem dX6_resolveObjects_231 : decode cX6_resolveObjects 231 = .ok (.aload_n 0, 1) := by decide +kernel
theorem dX6_resolveObjects_232 : decode cX6_resolveObjects 232 = .ok (.getfield 106, 3) := by decide +kernel
theorem dX6_resolveObjects_235 : decode cX6_resolveObjects 235 = .ok (.invokevirtual 109, 3) := by decide +kernel
theorem dX6_resolveObjects_238 : decode cX6_resolveObjects 238 = .ok (.bipush 19, 2) := by decide +kernel
theorem dX6_resolveObjects_240 : decode cX6_resolveObjects 240 = .ok (.if_icmp .ne 7, 3) := by decide +kernel
theorem dX6_resolveObjects_243 : decode cX6_resolveObjects 243 = .ok (.iconst 1, 1) := by decide +kernel
theorem dX6_resolveObjects_244 : decode cX6_resolveObjects 244 = .ok (.goto 4, 3) := by decide +kernel
theorem dX6_resolveObjects_247 : decode cX6_resolveObjects 247 = .ok (.iconst 0, 1) := by decide +kernel
theorem dX6_resolveObjects_248 : decode cX6_resolveObjects 248 = .ok (.istore_n 3, 1) := by decide +kernel
theorem dX6_resolveObjects_249 : decode cX6_resolveObjects 249 = .ok (.aload_n 0, 1) := by decide +kernel
theorem dX6_resolveObjects_250 : decode cX6_resolveObjects 250 = .ok (.dup, 1) := by decide +kernel
theorem dX6_resolveObjects_251 : decode cX6_resolveObjects 251 = .ok (.getfield 106, 3) := by decide +kernel
theorem dX6_resolveObjects_254 : decode cX6_resolveObjects 254 = .ok (.iconst 1, 1) := by decide +kernel
theorem dX6_resolveObjects_255 : decode cX6_resolveObjects 255 = .ok (.iadd, 1) := by decide +kernel
theorem dX6_resolveObjects_256 : decode cX6_resolveObjects 256 = .ok (.putfield 106, 3) := by decide +kernel
theorem dX6_resolveObjects_259 : decode cX6_resolveObjects 259 = .ok (.goto (-65), 3) := by decide +kernel
theorem dX6_resolveObjects_262 : decode cX6_resolveObjects 262 = .ok (.iload_n 2, 1) := by decide +kernel
theorem dX6_resolveObjects_263 : decode cX6_resolveObjects 263 = .ok (.ireturn, 1) := by decide +kernel
set_option maxRecDepth 20000 in
theorem ggX6_resolveTarget_X6_word : GoodIn wsX6_resolveTarget wsX6_word := goodIn_r _ [7, 8, 72, 73, 74, 75, 76, 77, 78, 79, 80, 81, 82, 83, 84, 85, 86, 87, 88] (by decide +kernel) (by decide +kernel)
set_option maxRecDepth 20000 in
theorem gX6_resolveTarget_X6_word : GoodIn wsX6_resolveTarget (wsV RX6 109 RX6 yX6_word wsX6_word) := goodIn_app (goodIn_of _ (by decide +kernel)) ggX6_resolveTarget_X6_word
set_option maxRecDepth 20000 in
theorem ggX6_resolveTarget_X6_resolveIt : GoodIn wsX6_resolveTarget wsX6_resolveIt := goodIn_r _ [12, 1, 8, 2, 13, 14, 15, 16, 6, 17, 18, 19, 20, 21, 22, 23, 24, 25, 26, 27, 28, 29, 30, 31, 32, 33, 34, 35, 36, 37, 38, 39, 40, 41, 72, 73, 74, 75, 76, 77, 78, 79, 80, 81, 82, 83, 84, 85, 86, 87, 88] (by decide +kernel) (by decide +kernel)
set_option maxRecDepth 20000 in
theorem gX6_resolveTarget_X6_resolveIt : GoodIn wsX6_resolveTarget (wsV RX6 143 RX6 yX6_resolveIt wsX6_resolveIt) := goodIn_app (goodIn_of _ (by decide +kernel)) ggX6_resolveTarget_X6_resolveIt
set_option maxRecDepth 20000 in
theorem ggX6_resolveTarget_X6_describe : GoodIn wsX6_resolveTarget wsX6_describe := goodIn_r _ [45, 1, 46, 47, 13, 2, 8, 48, 49, 50, 6, 51, 3, 4, 5, 7, 52, 53, 54, 55, 56, 57, 58, 59, 60, 61, 18, 19, 20, 21, 62, 63, 64, 65, 14, 15, 16, 17, 22, 23, 24, 25, 26, 27, 28, 29, 30, 31, 32, 33, 34, 35, 36, 37, 38, 39, 40, 41, 66, 67, 68, 69, 70, 71, 72, 73, 74, 75, 76, 77, 78, 79, 80, 81, 82, 83, 84, 85, 86, 87, 88] (by decide +kernel) (by decide +kernel)
set_option maxRecDepth 20000 in
theorem gX6_resolveTarget_X6_describe : GoodIn wsX6_resolveTarget (wsV RX6 147 RX6 yX6_describe wsX6_describe) := goodIn_app (goodIn_of _ (by decide +kernel)) ggX6_resolveTarget_X6_describe
theorem dX6_resolveTarget_0 : decode cX6_resolveTarget 0 = .ok (.aload_n 0, 1) := by decide +kernel
theorem dX6_resolveTarget_1 : decode cX6_resolveTarget 1 = .ok (.iconst 0, 1) := by decide +kernel
theorem dX6_resolveTarget_2 : decode cX6_resolveTarget 2 = .ok (.putfield 106, 3) := by decide +kernel
theorem dX6_resolveTarget_5 : decode cX6_resolveTarget 5 = .ok (.aload_n 0, 1) := by decide +kernel
theorem dX6_resolveTarget_6 : decode cX6_resolveTarget 6 = .ok (.aload_n 0, 1) := by decide +kernel
theorem dX6_resolveTarget_7 : decode cX6_resolveTarget 7 = .ok (.getfield 106, 3) := by decide +kernel
theorem dX6_resolveTarget_10 : decode cX6_resolveTarget 10 = .ok (.invokevirtual 109, 3) := by decide +kernel
theorem dX6_resolveTarget_13 : decode cX6_resolveTarget 13 = .ok (.bipush 20, 2) := by decide +kernel
theorem dX6_resolveTarget_15 : decode cX6_resolveTarget 15 = .ok (.if_icmp .eq 16, 3) := by decide +kernel
theorem dX6_resolveTarget_18 : decode cX6_resolveTarget 18 = .ok (.aload_n 0, 1) := by decide +kernel
theorem dX6_resolveTarget_19 : decode cX6_resolveTarget 19 = .ok (.dup, 1) := by decide +kernel
theorem dX6_resolveTarget_20 : decode cX6_resolveTarget 20 = .ok (.getfield 106, 3) := by decide +kernel
theorem dX6_resolveTarget_23 : decode cX6_resolveTarget 23 = .ok (.iconst 1, 1) := by decide +kernel
theorem dX6_resolveTarget_24 : decode cX6_resolveTarget 24 = .ok (.iadd, 1) := by decide +kernel
theorem dX6_resolveTarget_25 : decode cX6_resolveTarget 25 = .ok (.putfield 106, 3) := by decide +kernel
theorem dX6_resolveTarget_28 : decode cX6_resolveTarget 28 = .ok (.goto (-23), 3) := by decide +kernel
theorem dX6_resolveTarget_31 : decode cX6_resolveTarget 31 = .ok (.aload_n 0, 1) := by decide +kernel
theorem dX6_resolveTarget_32 : decode cX6_resolveTarget 32 = .ok (.dup, 1) := by decide +kernel
theorem dX6_resolveTarget_33 : decode cX6_resolveTarget 33 = .ok (.getfield 106, 3) := by decide +kernel
theorem dX6_resolveTarget_36 : decode cX6_resolveTarget 36 = .ok (.iconst 1, 1) := by decide +kernel
theorem dX6_resolveTarget_37 : decode cX6_resolveTarget 37 = .ok (.iadd, 1) := by decide +kernel
theorem dX6_resolveTarget_38 : decode cX6_resolveTarget 38 = .ok (.putfield 106, 3) := by decide +kernel
theorem dX6_resolveTarget_41 : decode cX6_resolveTarget 41 = .ok (.aload_n 0, 1) := by decide +kernel
theorem dX6_resolveTarget_42 : decode cX6_resolveTarget 42 = .ok (.aload_n 0, 1) := by decide +kernel
theorem dX6_resolveTarget_43 : decode cX6_resolveTarget 43 = .ok (.getfield 106, 3) := by decide +kernel
theorem dX6_resolveTarget_46 : decode cX6_resolveTarget 46 = .ok (.invokevirtual 109, 3) := by decide +kernel
theorem dX6_resolveTarget_49 : decode cX6_resolveTarget 49 = .ok (.bipush 22, 2) := by decide +kernel
theorem dX6_resolveTarget_51 : decode cX6_resolveTarget 51 = .ok (.if_icmp .ne 11, 3) := by decide +kernel
theorem dX6_resolveTarget_54 : decode cX6_resolveTarget 54 = .ok (.aload_n 0, 1) := by decide +kernel
theorem dX6_resolveTarget_55 : decode cX6_resolveTarget 55 = .ok (.iconst (-1), 1) := by decide +kernel
theorem dX6_resolveTarget_56 : decode cX6_resolveTarget 56 = .ok (.invokevirtual 143, 3) := by decide +kernel
theorem dX6_resolveTarget_59 : decode cX6_resolveTarget 59 = .ok (.goto 8, 3) := by decide +kernel
theorem dX6_resolveTarget_62 : decode cX6_resolveTarget 62 = .ok (.aload_n 0, 1) := by decide +kernel
theorem dX6_resolveTarget_63 : decode cX6_resolveTarget 63 = .ok (.iconst (-1), 1) := by decide +kernel
theorem dX6_resolveTarget_64 : decode cX6_resolveTarget 64 = .ok (.invokevirtual 147, 3) := by decide +kernel
theorem dX6_resolveTarget_67 : decode cX6_resolveTarget 67 = .ok (.aload_n 0, 1) := by decide +kernel
theorem dX6_resolveTarget_68 : decode cX6_resolveTarget 68 = .ok (.getfield 140, 3) := by decide +kernel
theorem dX6_resolveTarget_71 : decode cX6_resolveTarget 71 = .ok (.ireturn, 1) := by decide +kernel
set_option maxRecDepth 20000 in
theorem ggX6_does_X6_at : GoodIn wsX6_does wsX6_at := goodIn_r _ [6, 1, 7, 8, 9, 5, 10, 11, 12, 13, 14, 15, 16, 17, 18, 19, 20, 21, 22, 23, 24, 25, 26, 27] (by decide +kernel) (by decide +kernel)
set_option maxRecDepth 20000 in
theorem gX6_does_X6_at : GoodIn wsX6_does (wsV RX6 150 RX6 yX6_at wsX6_at) := goodIn_app (goodIn_of _ (by decide +kernel)) ggX6_does_X6_at
theorem dX6_does_0 : decode cX6_does 0 = .ok (.iload_n 1, 1) := by decide +kernel
theorem dX6_does_1 : decode cX6_does 1 = .ok (.ifCond .ne 7, 3) := by decide +kernel
theorem dX6_does_4 : decode cX6_does 4 = .ok (.iconst 4, 1) := by decide +kernel
theorem dX6_does_5 : decode cX6_does 5 = .ok (.goto 21, 3) := by decide +kernel
theorem dX6_does_8 : decode cX6_does 8 = .ok (.iload_n 1, 1) := by decide +kernel
theorem dX6_does_9 : decode cX6_does 9 = .ok (.iconst 1, 1) := by decide +kernel
theorem dX6_does_10 : decode cX6_does 10 = .ok (.if_icmp .ne 13, 3) := by decide +kernel
theorem dX6_does_13 : decode cX6_does 13 = .ok (.aload_n 0, 1) := by decide +kernel
theorem dX6_does_14 : decode cX6_does 14 = .ok (.getfield 16, 3) := by decide +kernel
theorem dX6_does_17 : decode cX6_does 17 = .ok (.bipush 49, 2) := by decide +kernel
theorem dX6_does_19 : decode cX6_does 19 = .ok (.iaload, 1) := by decide +kernel
theorem dX6_does_20 : decode cX6_does 20 = .ok (.goto 6, 3) := by decide +kernel
theorem dX6_does_23 : decode cX6_does 23 = .ok (.iconst 5, 1) := by decide +kernel
theorem dX6_does_24 : decode cX6_does 24 = .ok (.iload_n 3, 1) := by decide +kernel
theorem dX6_does_25 : decode cX6_does 25 = .ok (.iadd, 1) := by decide +kernel
theorem dX6_does_26 : decode cX6_does 26 = .ok (.istore 4, 2) := by decide +kernel
theorem dX6_does_28 : decode cX6_does 28 = .ok (.iload_n 1, 1) := by decide +kernel
theorem dX6_does_29 : decode cX6_does 29 = .ok (.ifCond .ne 21, 3) := by decide +kernel
theorem dX6_does_32 : decode cX6_does 32 = .ok (.aload_n 0, 1) := by decide +kernel
theorem dX6_does_33 : decode cX6_does 33 = .ok (.iconst 4, 1) := by decide +kernel
theorem dX6_does_34 : decode cX6_does 34 = .ok (.invokevirtual 150, 3) := by decide +kernel
theorem dX6_does_37 : decode cX6_does 37 = .ok (.bipush 6, 2) := by decide +kernel
theorem dX6_does_39 : decode cX6_does 39 = .ok (.if_icmp .ge 7, 3) := by decide +kernel
theorem dX6_does_42 : decode cX6_does 42 = .ok (.iconst 1, 1) := by decide +kernel
theorem dX6_does_43 : decode cX6_does 43 = .ok (.goto 27, 3) := by decide +kernel
theorem dX6_does_46 : decode cX6_does 46 = .ok (.iconst 0, 1) := by decide +kernel
theorem dX6_does_47 : decode cX6_does 47 = .ok (.goto 23, 3) := by decide +kernel
theorem dX6_does_50 : decode cX6_does 50 = .ok (.iload_n 1, 1) := by decide +kernel
theorem dX6_does_51 : decode cX6_does 51 = .ok (.iconst 2, 1) := by decide +kernel
theorem dX6_does_52 : decode cX6_does 52 = .ok (.if_icmp .ne 13, 3) := by decide +kernel
theorem dX6_does_55 : decode cX6_does 55 = .ok (.aload_n 0, 1) := by decide +kernel
theorem dX6_does_56 : decode cX6_does 56 = .ok (.iload 4, 2) := by decide +kernel
theorem dX6_does_58 : decode cX6_does 58 = .ok (.invokevirtual 150, 3) := by decide +kernel
theorem dX6_does_61 : decode cX6_does 61 = .ok (.iconst 4, 1) := by decide +kernel
theorem dX6_does_62 : decode cX6_does 62 = .ok (.if_icmp .ge 7, 3) := by decide +kernel
theorem dX6_does_65 : decode cX6_does 65 = .ok (.iconst 1, 1) := by decide +kernel
theorem dX6_does_66 : decode cX6_does 66 = .ok (.goto 4, 3) := by decide +kernel
theorem dX6_does_69 : decode cX6_does 69 = .ok (.iconst 0, 1) := by decide +kernel
theorem dX6_does_70 : decode cX6_does 70 = .ok (.istore 5, 2) := by decide +kernel
theorem dX6_does_72 : decode cX6_does 72 = .ok (.iload 5, 2) := by decide +kernel
theorem dX6_does_74 : decode cX6_does 74 = .ok (.ifCond .eq 22, 3) := by decide +kernel
theorem dX6_does_77 : decode cX6_does 77 = .ok (.iload_n 1, 1) := by decide +kernel
theorem dX6_does_78 : decode cX6_does 78 = .ok (.iconst 2, 1) := by decide +kernel
theorem dX6_does_79 : decode cX6_does 79 = .ok (.if_icmp .gt 17, 3) := by decide +kernel
theorem dX6_does_82 : decode cX6_does 82 = .ok (.aload_n 0, 1) := by decide +kernel
theorem dX6_does_83 : decode cX6_does 83 = .ok (.getfield 16, 3) := by decide +kernel
theorem dX6_does_86 : decode cX6_does 86 = .ok (.iconst 1, 1) := by decide +kernel
theorem dX6_does_87 : decode cX6_does 87 = .ok (.iconst 4, 1) := by decide +kernel
theorem dX6_does_88 : decode cX6_does 88 = .ok (.iload_n 2, 1) := by decide +kernel
theorem dX6_does_89 : decode cX6_does 89 = .ok (.imul, 1) := by decide +kernel
theorem dX6_does_90 : decode cX6_does 90 = .ok (.iadd, 1) := by decide +kernel
theorem dX6_does_91 : decode cX6_does 91 = .ok (.iconst 2, 1) := by decide +kernel
theorem dX6_does_92 : decode cX6_does 92 = .ok (.iadd, 1) := by decide +kernel
theorem dX6_does_93 : decode cX6_does 93 = .ok (.iload 4, 2) := by decide +kernel
theorem dX6_does_95 : decode cX6_does 95 = .ok (.iastore, 1) := by decide +kernel
theorem dX6_does_96 : decode cX6_does 96 = .ok (.iload_n 1, 1) := by decide +kernel
theorem dX6_does_97 : decode cX6_does 97 = .ok (.iconst 2, 1) := by decide +kernel
theorem dX6_does_98 : decode cX6_does 98 = .ok (.if_icmp .le 25, 3) := by decide +kernel
theorem dX6_does_101 : decode cX6_does 101 = .ok (.aload_n 0, 1) := by decide +kernel
theorem dX6_does_102 : decode cX6_does 102 = .ok (.getfield 16, 3) := by decide +kernel
theorem dX6_does_105 : decode cX6_does 105 = .ok (.iconst 1, 1) := by decide +kernel
theorem dX6_does_106 : decode cX6_does 106 = .ok (.iconst 4, 1) := by decide +kernel
theorem dX6_does_107 : decode cX6_does 107 = .ok (.iload_n 2, 1) := by decide +kernel
theorem dX6_does_108 : decode cX6_does 108 = .ok (.imul, 1) := by decide +kernel
theorem dX6_does_109 : decode cX6_does 109 = .ok (.iadd, 1) := by decide +kernel
theorem dX6_does_110 : decode cX6_does 110 = .ok (.iconst 3, 1) := by decide +kernel
theorem dX6_does_111 : decode cX6_does 111 = .ok (.iadd, 1) := by decide +kernel
theorem dX6_does_112 : decode cX6_does 112 = .ok (.iload_n 1, 1) := by decide +kernel
theorem dX6_does_113 : decode cX6_does 113 = .ok (.iconst 3, 1) := by decide +kernel
theorem dX6_does_114 : decode cX6_does 114 = .ok (.if_icmp .ne 7, 3) := by decide +kernel
theorem dX6_does_117 : decode cX6_does 117 = .ok (.iconst 1, 1) := by decide +kernel
theorem dX6_does_118 : decode cX6_does 118 = .ok (.goto 4, 3) := by decide +kernel
theorem dX6_does_121 : decode cX6_does 121 = .ok (.iconst 0, 1) := by decide +kernel
theorem dX6_does_122 : decode cX6_does 122 = .ok (.iastore, 1) := by decide +kernel
theorem dX6_does_123 : decode cX6_does 123 = .ok (.iload 5, 2) := by decide +kernel
theorem dX6_does_125 : decode cX6_does 125 = .ok (.ireturn, 1) := by decide +kernel
set_option maxRecDepth 20000 in
theorem ggX6_execute_X6_does : GoodIn wsX6_execute wsX6_does := goodIn_r _ [6, 1, 7, 8, 9, 5, 10, 11, 12, 13, 14, 21, 22, 23, 24, 25, 26, 27, 28, 29, 30, 31, 32, 33, 34, 35, 36, 37] (by decide +kernel) (by decide +kernel)
set_option maxRecDepth 20000 in
theorem gX6_execute_X6_does : GoodIn wsX6_execute (wsV RX6 153 RX6 yX6_does wsX6_does) := goodIn_app (goodIn_of _ (by decide +kernel)) ggX6_execute_X6_does
set_option maxRecDepth 20000 in
theorem ggX6_execute_X6_size : GoodIn wsX6_execute wsX6_size := goodIn_r _ [17] (by decide +kernel) (by decide +kernel)
set_option maxRecDepth 20000 in
theorem gX6_execute_X6_size : GoodIn wsX6_execute (va_wsS RX6 134 yX6_size wsX6_size) := goodIn_app (goodIn_of _ (by decide +kernel)) ggX6_execute_X6_size
set_option maxRecDepth 20000 in
theorem ggX6_execute_X6_lowest : GoodIn wsX6_execute wsX6_lowest := goodIn_r _ [20] (by decide +kernel) (by decide +kernel)
set_option maxRecDepth 20000 in
theorem gX6_execute_X6_lowest : GoodIn wsX6_execute (va_wsS RX6 137 yX6_lowest wsX6_lowest) := goodIn_app (goodIn_of _ (by decide +kernel)) ggX6_execute_X6_lowest
theorem dX6_execute_0 : decode cX6_execute 0 = .ok (.iconst 0, 1) := by decide +kernel
theorem dX6_execute_1 : decode cX6_execute 1 = .ok (.istore 4, 2) := by decide +kernel
theorem dX6_execute_3 : decode cX6_execute 3 = .ok (.iconst 0, 1) := by decide +kernel
theorem dX6_execute_4 : decode cX6_execute 4 = .ok (.istore 5, 2) := by decide +kernel
theorem dX6_execute_6 : decode cX6_execute 6 = .ok (.iload 5, 2) := by decide +kernel
theorem dX6_execute_8 : decode cX6_execute 8 = .ok (.aload_n 0, 1) := by decide +kernel
theorem dX6_execute_9 : decode cX6_execute 9 = .ok (.getfield 16, 3) := by decide +kernel
theorem dX6_execute_12 : decode cX6_execute 12 = .ok (.iconst 0, 1) := by decide +kernel
theorem dX6_execute_13 : decode cX6_execute 13 = .ok (.iaload, 1) := by decide +kernel
theorem dX6_execute_14 : decode cX6_execute 14 = .ok (.if_icmp .ge 40, 3) := by decide +kernel
theorem dX6_execute_17 : decode cX6_execute 17 = .ok (.iload 4, 2) := by decide +kernel
theorem dX6_execute_19 : decode cX6_execute 19 = .ok (.iload_n 2, 1) := by decide +kernel
theorem dX6_execute_20 : decode cX6_execute 20 = .ok (.iload 5, 2) := by decide +kernel
theorem dX6_execute_22 : decode cX6_execute 22 = .ok (.ishr, 1) := by decide +kernel
theorem dX6_execute_23 : decode cX6_execute 23 = .ok (.iconst 1, 1) := by decide +kernel
theorem dX6_execute_24 : decode cX6_execute 24 = .ok (.iand, 1) := by decide +kernel
theorem dX6_execute_25 : decode cX6_execute 25 = .ok (.iconst 1, 1) := by decide +kernel
theorem dX6_execute_26 : decode cX6_execute 26 = .ok (.if_icmp .ne 18, 3) := by decide +kernel
theorem dX6_execute_29 : decode cX6_execute 29 = .ok (.aload_n 0, 1) := by decide +kernel
theorem dX6_execute_30 : decode cX6_execute 30 = .ok (.iload_n 1, 1) := by decide +kernel
theorem dX6_execute_31 : decode cX6_execute 31 = .ok (.iload 5, 2) := by decide +kernel
theorem dX6_execute_33 : decode cX6_execute 33 = .ok (.iload_n 3, 1) := by decide +kernel
theorem dX6_execute_34 : decode cX6_execute 34 = .ok (.invokevirtual 153, 3) := by decide +kernel
theorem dX6_execute_37 : decode cX6_execute 37 = .ok (.ifCond .eq 7, 3) := by decide +kernel
theorem dX6_execute_40 : decode cX6_execute 40 = .ok (.iconst 1, 1) := by decide +kernel
theorem dX6_execute_41 : decode cX6_execute 41 = .ok (.goto 4, 3) := by decide +kernel
theorem dX6_execute_44 : decode cX6_execute 44 = .ok (.iconst 0, 1) := by decide +kernel
theorem dX6_execute_45 : decode cX6_execute 45 = .ok (.iadd, 1) := by decide +kernel
theorem dX6_execute_46 : decode cX6_execute 46 = .ok (.istore 4, 2) := by decide +kernel
theorem dX6_execute_48 : decode cX6_execute 48 = .ok (.iinc 5 1, 3) := by decide +kernel
theorem dX6_execute_51 : decode cX6_execute 51 = .ok (.goto (-45), 3) := by decide +kernel
theorem dX6_execute_54 : decode cX6_execute 54 = .ok (.aload_n 0, 1) := by decide +kernel
theorem dX6_execute_55 : decode cX6_execute 55 = .ok (.getfield 16, 3) := by decide +kernel
theorem dX6_execute_58 : decode cX6_execute 58 = .ok (.bipush 50, 2) := by decide +kernel
theorem dX6_execute_60 : decode cX6_execute 60 = .ok (.iload_n 2, 1) := by decide +kernel
theorem dX6_execute_61 : decode cX6_execute 61 = .ok (.invokestatic 134, 3) := by decide +kernel
theorem dX6_execute_64 : decode cX6_execute 64 = .ok (.iconst 1, 1) := by decide +kernel
theorem dX6_execute_65 : decode cX6_execute 65 = .ok (.if_icmp .ne 10, 3) := by decide +kernel
theorem dX6_execute_68 : decode cX6_execute 68 = .ok (.iload_n 2, 1) := by decide +kernel
theorem dX6_execute_69 : decode cX6_execute 69 = .ok (.invokestatic 137, 3) := by decide +kernel
theorem dX6_execute_72 : decode cX6_execute 72 = .ok (.goto 10, 3) := by decide +kernel
theorem dX6_execute_75 : decode cX6_execute 75 = .ok (.aload_n 0, 1) := by decide +kernel
theorem dX6_execute_76 : decode cX6_execute 76 = .ok (.getfield 16, 3) := by decide +kernel
theorem dX6_execute_79 : decode cX6_execute 79 = .ok (.bipush 50, 2) := by decide +kernel
theorem dX6_execute_81 : decode cX6_execute 81 = .ok (.iaload, 1) := by decide +kernel
theorem dX6_execute_82 : decode cX6_execute 82 = .ok (.iastore, 1) := by decide +kernel
theorem dX6_execute_83 : decode cX6_execute 83 = .ok (.aload_n 0, 1) := by decide +kernel
theorem dX6_execute_84 : decode cX6_execute 84 = .ok (.getfield 16, 3) := by decide +kernel
theorem dX6_execute_87 : decode cX6_execute 87 = .ok (.bipush 51, 2) := by decide +kernel
theorem dX6_execute_89 : decode cX6_execute 89 = .ok (.iload_n 2, 1) := by decide +kernel
theorem dX6_execute_90 : decode cX6_execute 90 = .ok (.invokestatic 134, 3) := by decide +kernel
theorem dX6_execute_93 : decode cX6_execute 93 = .ok (.iconst 1, 1) := by decide +kernel
theorem dX6_execute_94 : decode cX6_execute 94 = .ok (.if_icmp .le 7, 3) := by decide +kernel
theorem dX6_execute_97 : decode cX6_execute 97 = .ok (.iload_n 2, 1) := by decide +kernel
theorem dX6_execute_98 : decode cX6_execute 98 = .ok (.goto 10, 3) := by decide +kernel
theorem dX6_execute_101 : decode cX6_execute 101 = .ok (.aload_n 0, 1) := by decide +kernel
theorem dX6_execute_102 : decode cX6_execute 102 = .ok (.getfield 16, 3) := by decide +kernel
theorem dX6_execute_105 : decode cX6_execute 105 = .ok (.bipush 51, 2) := by decide +kernel
theorem dX6_execute_107 : decode cX6_execute 107 = .ok (.iaload, 1) := by decide +kernel
theorem dX6_execute_108 : decode cX6_execute 108 = .ok (.iastore, 1) := by decide +kernel
theorem dX6_execute_109 : decode cX6_execute 109 = .ok (.iload 4, 2) := by decide +kernel
theorem dX6_execute_111 : decode cX6_execute 111 = .ok (.ireturn, 1) := by decide +kernel
set_option maxRecDepth 20000 in
theorem ggX6_walk_X6_in : GoodIn wsX6_walk wsX6_in := goodIn_r _ [5] (by decide +kernel) (by decide +kernel)
set_option maxRecDepth 20000 in
theorem gX6_walk_X6_in : GoodIn wsX6_walk (va_wsS RX6 38 yX6_in wsX6_in) := goodIn_app (goodIn_of _ (by decide +kernel)) ggX6_walk_X6_in
theorem dX6_walk_0 : decode cX6_walk 0 = .ok (.aload_n 0, 1) := by decide +kernel
theorem dX6_walk_1 : decode cX6_walk 1 = .ok (.getfield 16, 3) := by decide +kernel
theorem dX6_walk_4 : decode cX6_walk 4 = .ok (.bipush 49, 2) := by decide +kernel
theorem dX6_walk_6 : decode cX6_walk 6 = .ok (.iaload, 1) := by decide +kernel
theorem dX6_walk_7 : decode cX6_walk 7 = .ok (.iload_n 1, 1) := by decide +kernel
theorem dX6_walk_8 : decode cX6_walk 8 = .ok (.ifCond .eq 7, 3) := by decide +kernel
theorem dX6_walk_11 : decode cX6_walk 11 = .ok (.iconst 1, 1) := by decide +kernel
theorem dX6_walk_12 : decode cX6_walk 12 = .ok (.goto 4, 3) := by decide +kernel
theorem dX6_walk_15 : decode cX6_walk 15 = .ok (.iconst (-1), 1) := by decide +kernel
theorem dX6_walk_16 : decode cX6_walk 16 = .ok (.iadd, 1) := by decide +kernel
theorem dX6_walk_17 : decode cX6_walk 17 = .ok (.istore_n 2, 1) := by decide +kernel
theorem dX6_walk_18 : decode cX6_walk 18 = .ok (.iload_n 2, 1) := by decide +kernel
theorem dX6_walk_19 : decode cX6_walk 19 = .ok (.iconst 0, 1) := by decide +kernel
theorem dX6_walk_20 : decode cX6_walk 20 = .ok (.iconst 3, 1) := by decide +kernel
theorem dX6_walk_21 : decode cX6_walk 21 = .ok (.invokestatic 38, 3) := by decide +kernel
theorem dX6_walk_24 : decode cX6_walk 24 = .ok (.istore_n 3, 1) := by decide +kernel
theorem dX6_walk_25 : decode cX6_walk 25 = .ok (.aload_n 0, 1) := by decide +kernel
theorem dX6_walk_26 : decode cX6_walk 26 = .ok (.getfield 16, 3) := by decide +kernel
theorem dX6_walk_29 : decode cX6_walk 29 = .ok (.bipush 49, 2) := by decide +kernel
theorem dX6_walk_31 : decode cX6_walk 31 = .ok (.iload_n 3, 1) := by decide +kernel
theorem dX6_walk_32 : decode cX6_walk 32 = .ok (.ifCond .eq 7, 3) := by decide +kernel
theorem dX6_walk_35 : decode cX6_walk 35 = .ok (.iload_n 2, 1) := by decide +kernel
theorem dX6_walk_36 : decode cX6_walk 36 = .ok (.goto 10, 3) := by decide +kernel
theorem dX6_walk_39 : decode cX6_walk 39 = .ok (.aload_n 0, 1) := by decide +kernel
theorem dX6_walk_40 : decode cX6_walk 40 = .ok (.getfield 16, 3) := by decide +kernel
theorem dX6_walk_43 : decode cX6_walk 43 = .ok (.bipush 49, 2) := by decide +kernel
theorem dX6_walk_45 : decode cX6_walk 45 = .ok (.iaload, 1) := by decide +kernel
theorem dX6_walk_46 : decode cX6_walk 46 = .ok (.iastore, 1) := by decide +kernel
theorem dX6_walk_47 : decode cX6_walk 47 = .ok (.iload_n 3, 1) := by decide +kernel
theorem dX6_walk_48 : decode cX6_walk 48 = .ok (.ifCond .eq 7, 3) := by decide +kernel
theorem dX6_walk_51 : decode cX6_walk 51 = .ok (.iconst 1, 1) := by decide +kernel
theorem dX6_walk_52 : decode cX6_walk 52 = .ok (.goto 4, 3) := by decide +kernel
theorem dX6_walk_55 : decode cX6_walk 55 = .ok (.iconst 0, 1) := by decide +kernel
theorem dX6_walk_56 : decode cX6_walk 56 = .ok (.ireturn, 1) := by decide +kernel
theorem dX6_closeQuestion_0 : decode cX6_closeQuestion 0 = .ok (.bipush 55, 2) := by decide +kernel
theorem dX6_closeQuestion_2 : decode cX6_closeQuestion 2 = .ok (.istore_n 1, 1) := by decide +kernel
theorem dX6_closeQuestion_3 : decode cX6_closeQuestion 3 = .ok (.iload_n 1, 1) := by decide +kernel
theorem dX6_closeQuestion_4 : decode cX6_closeQuestion 4 = .ok (.bipush 122, 2) := by decide +kernel
theorem dX6_closeQuestion_6 : decode cX6_closeQuestion 6 = .ok (.if_icmp .ge 16, 3) := by decide +kernel
theorem dX6_closeQuestion_9 : decode cX6_closeQuestion 9 = .ok (.aload_n 0, 1) := by decide +kernel
theorem dX6_closeQuestion_10 : decode cX6_closeQuestion 10 = .ok (.getfield 16, 3) := by decide +kernel
theorem dX6_closeQuestion_13 : decode cX6_closeQuestion 13 = .ok (.iload_n 1, 1) := by decide +kernel
theorem dX6_closeQuestion_14 : decode cX6_closeQuestion 14 = .ok (.iconst 0, 1) := by decide +kernel
theorem dX6_closeQuestion_15 : decode cX6_closeQuestion 15 = .ok (.iastore, 1) := by decide +kernel
theorem dX6_closeQuestion_16 : decode cX6_closeQuestion 16 = .ok (.iinc 1 1, 3) := by decide +kernel
theorem dX6_closeQuestion_19 : decode cX6_closeQuestion 19 = .ok (.goto (-16), 3) := by decide +kernel
theorem dX6_closeQuestion_22 : decode cX6_closeQuestion 22 = .ok (.return_, 1) := by decide +kernel
set_option maxRecDepth 20000 in
theorem ggX6_run_X6_walk : GoodIn wsX6_run wsX6_walk := goodIn_r _ [7, 1, 8, 9, 6, 10, 100, 101, 102, 103, 104, 105, 106, 107, 108, 109, 110, 111, 112, 113, 114, 115, 116] (by decide +kernel) (by decide +kernel)
set_option maxRecDepth 20000 in
theorem gX6_run_X6_walk : GoodIn wsX6_run (wsV RX6 156 RX6 yX6_walk wsX6_walk) := goodIn_app (goodIn_of _ (by decide +kernel)) ggX6_run_X6_walk
set_option maxRecDepth 20000 in
theorem ggX6_run_X6_resolveTarget : GoodIn wsX6_run wsX6_resolveTarget := goodIn_r _ [14, 15, 16, 17, 18, 19, 6, 20, 1, 21, 22, 23, 24, 2, 25, 26, 27, 28, 29, 30, 31, 32, 33, 34, 35, 36, 37, 38, 39, 40, 41, 42, 43, 44, 45, 46, 47, 48, 49, 50, 51, 52, 53, 54, 55, 56, 57, 58, 59, 60, 61, 62, 63, 64, 65, 8, 9, 10, 66, 67, 68, 69, 70, 71, 72, 73, 74, 75, 76, 77, 78, 79, 100, 101, 102, 103, 104, 105, 106, 107, 108, 109, 110, 111, 112, 113, 114, 115, 116] (by decide +kernel) (by decide +kernel)
set_option maxRecDepth 20000 in
theorem gX6_run_X6_resolveTarget : GoodIn wsX6_run (wsV RX6 160 RX6 yX6_resolveTarget wsX6_resolveTarget) := goodIn_app (goodIn_of _ (by decide +kernel)) ggX6_run_X6_resolveTarget
set_option maxRecDepth 20000 in
theorem ggX6_run_X6_resolveObjects : GoodIn wsX6_run wsX6_resolveObjects := goodIn_r _ [83, 15, 57, 58, 2, 1, 16, 17, 18, 19, 6, 20, 37, 38, 39, 40, 41, 42, 43, 44, 25, 26, 27, 28, 29, 30, 31, 32, 33, 34, 35, 36, 45, 46, 47, 48, 49, 50, 51, 52, 59, 60, 61, 62, 63, 64, 65, 8, 9, 10, 66, 67, 68, 69, 21, 22, 23, 24, 53, 54, 55, 56, 70, 71, 72, 73, 74, 75, 76, 77, 78, 79, 100, 101, 102, 103, 104, 105, 106, 107, 108, 109, 110, 111, 112, 113, 114, 115, 116] (by decide +kernel) (by decide +kernel)
set_option maxRecDepth 20000 in
theorem gX6_run_X6_resolveObjects : GoodIn wsX6_run (wsV RX6 163 RX6 yX6_resolveObjects wsX6_resolveObjects) := goodIn_app (goodIn_of _ (by decide +kernel)) ggX6_run_X6_resolveObjects
set_option maxRecDepth 20000 in
theorem ggX6_run_X6_execute : GoodIn wsX6_run wsX6_execute := goodIn_r _ [87, 1, 88, 89, 90, 6, 91, 92, 93, 94, 95, 29, 30, 31, 32, 74, 75, 76, 77, 78, 79, 100, 101, 102, 103, 104, 105, 106, 107, 108, 109, 110, 111, 112, 113, 114, 115, 116] (by decide +kernel) (by decide +kernel)
set_option maxRecDepth 20000 in
theorem gX6_run_X6_execute : GoodIn wsX6_run (wsV RX6 166 RX6 yX6_execute wsX6_execute) := goodIn_app (goodIn_of _ (by decide +kernel)) ggX6_run_X6_execute
set_option maxRecDepth 20000 in
theorem ggX6_run_X6_closeQuestion : GoodIn wsX6_run wsX6_closeQuestion := goodIn_r _ [99, 1, 100, 101, 102, 103, 104, 105, 106, 107, 108, 109, 110, 111, 112, 113, 114, 115, 116] (by decide +kernel) (by decide +kernel)
set_option maxRecDepth 20000 in
theorem gX6_run_X6_closeQuestion : GoodIn wsX6_run (wsV RX6 170 RX6 yX6_closeQuestion wsX6_closeQuestion) := goodIn_app (goodIn_of _ (by decide +kernel)) ggX6_run_X6_closeQuestion
theorem dX6_run_0 : decode cX6_run 0 = .ok (.aload_n 0, 1) := by decide +kernel
theorem dX6_run_1 : decode cX6_run 1 = .ok (.getfield 16, 3) := by decide +kernel
theorem dX6_run_4 : decode cX6_run 4 = .ok (.bipush 59, 2) := by decide +kernel
theorem dX6_run_6 : decode cX6_run 6 = .ok (.iaload, 1) := by decide +kernel
theorem dX6_run_7 : decode cX6_run 7 = .ok (.bipush 10, 2) := by decide +kernel
theorem dX6_run_9 : decode cX6_run 9 = .ok (.isub, 1) := by decide +kernel
theorem dX6_run_10 : decode cX6_run 10 = .ok (.istore_n 1, 1) := by decide +kernel
theorem dX6_run_11 : decode cX6_run 11 = .ok (.iconst 0, 1) := by decide +kernel
theorem dX6_run_12 : decode cX6_run 12 = .ok (.istore_n 2, 1) := by decide +kernel
theorem dX6_run_13 : decode cX6_run 13 = .ok (.aload_n 0, 1) := by decide +kernel
theorem dX6_run_14 : decode cX6_run 14 = .ok (.iconst 0, 1) := by decide +kernel
theorem dX6_run_15 : decode cX6_run 15 = .ok (.putfield 131, 3) := by decide +kernel
theorem dX6_run_18 : decode cX6_run 18 = .ok (.iload_n 1, 1) := by decide +kernel
theorem dX6_run_19 : decode cX6_run 19 = .ok (.iconst 5, 1) := by decide +kernel
theorem dX6_run_20 : decode cX6_run 20 = .ok (.if_icmp .lt 21, 3) := by decide +kernel
theorem dX6_run_23 : decode cX6_run 23 = .ok (.aload_n 0, 1) := by decide +kernel
theorem dX6_run_24 : decode cX6_run 24 = .ok (.iload_n 1, 1) := by decide +kernel
theorem dX6_run_25 : decode cX6_run 25 = .ok (.iconst 5, 1) := by decide +kernel
theorem dX6_run_26 : decode cX6_run 26 = .ok (.if_icmp .ne 7, 3) := by decide +kernel
theorem dX6_run_29 : decode cX6_run 29 = .ok (.iconst 1, 1) := by decide +kernel
theorem dX6_run_30 : decode cX6_run 30 = .ok (.goto 4, 3) := by decide +kernel
theorem dX6_run_33 : decode cX6_run 33 = .ok (.iconst 0, 1) := by decide +kernel
theorem dX6_run_34 : decode cX6_run 34 = .ok (.invokevirtual 156, 3) := by decide +kernel
theorem dX6_run_37 : decode cX6_run 37 = .ok (.istore_n 2, 1) := by decide +kernel
theorem dX6_run_38 : decode cX6_run 38 = .ok (.goto 58, 3) := by decide +kernel
theorem dX6_run_41 : decode cX6_run 41 = .ok (.iload_n 1, 1) := by decide +kernel
theorem dX6_run_42 : decode cX6_run 42 = .ok (.iconst 2, 1) := by decide +kernel
theorem dX6_run_43 : decode cX6_run 43 = .ok (.if_icmp .ne 10, 3) := by decide +kernel
theorem dX6_run_46 : decode cX6_run 46 = .ok (.aload_n 0, 1) := by decide +kernel
theorem dX6_run_47 : decode cX6_run 47 = .ok (.invokevirtual 160, 3) := by decide +kernel
theorem dX6_run_50 : decode cX6_run 50 = .ok (.goto 4, 3) := by decide +kernel
theorem dX6_run_53 : decode cX6_run 53 = .ok (.iconst 0, 1) := by decide +kernel
theorem dX6_run_54 : decode cX6_run 54 = .ok (.istore_n 3, 1) := by decide +kernel
theorem dX6_run_55 : decode cX6_run 55 = .ok (.aload_n 0, 1) := by decide +kernel
theorem dX6_run_56 : decode cX6_run 56 = .ok (.getfield 131, 3) := by decide +kernel
theorem dX6_run_59 : decode cX6_run 59 = .ok (.ifCond .ge 7, 3) := by decide +kernel
theorem dX6_run_62 : decode cX6_run 62 = .ok (.iconst 0, 1) := by decide +kernel
theorem dX6_run_63 : decode cX6_run 63 = .ok (.goto 8, 3) := by decide +kernel
theorem dX6_run_66 : decode cX6_run 66 = .ok (.aload_n 0, 1) := by decide +kernel
theorem dX6_run_67 : decode cX6_run 67 = .ok (.iload_n 1, 1) := by decide +kernel
theorem dX6_run_68 : decode cX6_run 68 = .ok (.invokevirtual 163, 3) := by decide +kernel
theorem dX6_run_71 : decode cX6_run 71 = .ok (.istore 4, 2) := by decide +kernel
theorem dX6_run_73 : decode cX6_run 73 = .ok (.aload_n 0, 1) := by decide +kernel
theorem dX6_run_74 : decode cX6_run 74 = .ok (.getfield 131, 3) := by decide +kernel
theorem dX6_run_77 : decode cX6_run 77 = .ok (.ifCond .ge 10, 3) := by decide +kernel
theorem dX6_run_80 : decode cX6_run 80 = .ok (.aload_n 0, 1) := by decide +kernel
theorem dX6_run_81 : decode cX6_run 81 = .ok (.getfield 131, 3) := by decide +kernel
theorem dX6_run_84 : decode cX6_run 84 = .ok (.goto 11, 3) := by decide +kernel
theorem dX6_run_87 : decode cX6_run 87 = .ok (.aload_n 0, 1) := by decide +kernel
theorem dX6_run_88 : decode cX6_run 88 = .ok (.iload_n 1, 1) := by decide +kernel
theorem dX6_run_89 : decode cX6_run 89 = .ok (.iload 4, 2) := by decide +kernel
theorem dX6_run_91 : decode cX6_run 91 = .ok (.iload_n 3, 1) := by decide +kernel
theorem dX6_run_92 : decode cX6_run 92 = .ok (.invokevirtual 166, 3) := by decide +kernel
theorem dX6_run_95 : decode cX6_run 95 = .ok (.istore_n 2, 1) := by decide +kernel
theorem dX6_run_96 : decode cX6_run 96 = .ok (.iload_n 2, 1) := by decide +kernel
theorem dX6_run_97 : decode cX6_run 97 = .ok (.iconst (-1), 1) := by decide +kernel
theorem dX6_run_98 : decode cX6_run 98 = .ok (.if_icmp .ne 24, 3) := by decide +kernel
theorem dX6_run_101 : decode cX6_run 101 = .ok (.aload_n 0, 1) := by decide +kernel
theorem dX6_run_102 : decode cX6_run 102 = .ok (.getfield 16, 3) := by decide +kernel
theorem dX6_run_105 : decode cX6_run 105 = .ok (.bipush 55, 2) := by decide +kernel
theorem dX6_run_107 : decode cX6_run 107 = .ok (.iconst 1, 1) := by decide +kernel
theorem dX6_run_108 : decode cX6_run 108 = .ok (.iastore, 1) := by decide +kernel
theorem dX6_run_109 : decode cX6_run 109 = .ok (.aload_n 0, 1) := by decide +kernel
theorem dX6_run_110 : decode cX6_run 110 = .ok (.getfield 16, 3) := by decide +kernel
theorem dX6_run_113 : decode cX6_run 113 = .ok (.bipush 54, 2) := by decide +kernel
theorem dX6_run_115 : decode cX6_run 115 = .ok (.dup2, 1) := by decide +kernel
theorem dX6_run_116 : decode cX6_run 116 = .ok (.iaload, 1) := by decide +kernel
theorem dX6_run_117 : decode cX6_run 117 = .ok (.iconst 1, 1) := by decide +kernel
theorem dX6_run_118 : decode cX6_run 118 = .ok (.iadd, 1) := by decide +kernel
theorem dX6_run_119 : decode cX6_run 119 = .ok (.iastore, 1) := by decide +kernel
theorem dX6_run_120 : decode cX6_run 120 = .ok (.iload_n 2, 1) := by decide +kernel
theorem dX6_run_121 : decode cX6_run 121 = .ok (.ireturn, 1) := by decide +kernel
theorem dX6_run_122 : decode cX6_run 122 = .ok (.aload_n 0, 1) := by decide +kernel
theorem dX6_run_123 : decode cX6_run 123 = .ok (.getfield 16, 3) := by decide +kernel
theorem dX6_run_126 : decode cX6_run 126 = .ok (.bipush 53, 2) := by decide +kernel
theorem dX6_run_128 : decode cX6_run 128 = .ok (.dup2, 1) := by decide +kernel
theorem dX6_run_129 : decode cX6_run 129 = .ok (.iaload, 1) := by decide +kernel
theorem dX6_run_130 : decode cX6_run 130 = .ok (.iload_n 2, 1) := by decide +kernel
theorem dX6_run_131 : decode cX6_run 131 = .ok (.ifCond .ge 7, 3) := by decide +kernel
theorem dX6_run_134 : decode cX6_run 134 = .ok (.iconst 1, 1) := by decide +kernel
theorem dX6_run_135 : decode cX6_run 135 = .ok (.goto 4, 3) := by decide +kernel
theorem dX6_run_138 : decode cX6_run 138 = .ok (.iconst 0, 1) := by decide +kernel
theorem dX6_run_139 : decode cX6_run 139 = .ok (.iadd, 1) := by decide +kernel
theorem dX6_run_140 : decode cX6_run 140 = .ok (.iastore, 1) := by decide +kernel
theorem dX6_run_141 : decode cX6_run 141 = .ok (.aload_n 0, 1) := by decide +kernel
theorem dX6_run_142 : decode cX6_run 142 = .ok (.getfield 16, 3) := by decide +kernel
theorem dX6_run_145 : decode cX6_run 145 = .ok (.bipush 52, 2) := by decide +kernel
theorem dX6_run_147 : decode cX6_run 147 = .ok (.dup2, 1) := by decide +kernel
theorem dX6_run_148 : decode cX6_run 148 = .ok (.iaload, 1) := by decide +kernel
theorem dX6_run_149 : decode cX6_run 149 = .ok (.iload_n 2, 1) := by decide +kernel
theorem dX6_run_150 : decode cX6_run 150 = .ok (.ifCond .ge 7, 3) := by decide +kernel
theorem dX6_run_153 : decode cX6_run 153 = .ok (.iconst 0, 1) := by decide +kernel
theorem dX6_run_154 : decode cX6_run 154 = .ok (.goto 4, 3) := by decide +kernel
theorem dX6_run_157 : decode cX6_run 157 = .ok (.iconst 1, 1) := by decide +kernel
theorem dX6_run_158 : decode cX6_run 158 = .ok (.iadd, 1) := by decide +kernel
theorem dX6_run_159 : decode cX6_run 159 = .ok (.iastore, 1) := by decide +kernel
theorem dX6_run_160 : decode cX6_run 160 = .ok (.aload_n 0, 1) := by decide +kernel
theorem dX6_run_161 : decode cX6_run 161 = .ok (.invokevirtual 170, 3) := by decide +kernel
theorem dX6_run_164 : decode cX6_run 164 = .ok (.iload_n 2, 1) := by decide +kernel
theorem dX6_run_165 : decode cX6_run 165 = .ok (.ireturn, 1) := by decide +kernel
set_option maxRecDepth 20000 in
theorem ggX6_command_X6_closeQuestion : GoodIn wsX6_command wsX6_closeQuestion := goodIn_r _ [8, 1, 106, 107, 108, 109, 110, 111, 112, 113, 114, 115, 116, 117, 118, 119, 120, 121, 122] (by decide +kernel) (by decide +kernel)
set_option maxRecDepth 20000 in
theorem gX6_command_X6_closeQuestion : GoodIn wsX6_command (wsV RX6 170 RX6 yX6_closeQuestion wsX6_closeQuestion) := goodIn_app (goodIn_of _ (by decide +kernel)) ggX6_command_X6_closeQuestion
set_option maxRecDepth 20000 in
theorem ggX6_command_X6_run : GoodIn wsX6_command wsX6_run := goodIn_r _ [12, 1, 13, 14, 15, 16, 7, 17, 18, 19, 20, 21, 22, 23, 24, 25, 26, 27, 28, 29, 30, 31, 32, 33, 34, 35, 36, 37, 38, 39, 40, 41, 42, 43, 44, 45, 46, 47, 48, 49, 50, 51, 52, 53, 54, 55, 56, 57, 58, 59, 60, 61, 62, 63, 64, 65, 66, 67, 68, 69, 70, 71, 72, 73, 74, 75, 76, 77, 78, 79, 80, 81, 82, 83, 84, 85, 86, 87, 88, 89, 90, 91, 92, 93, 94, 95, 96, 97, 98, 99, 100, 101, 102, 103, 104, 105, 4, 5, 6, 8, 106, 107, 108, 109, 110, 111, 112, 113, 114, 115, 116, 117, 118, 119, 120, 121, 122] (by decide +kernel) (by decide +kernel)
set_option maxRecDepth 20000 in
theorem gX6_command_X6_run : GoodIn wsX6_command (wsV RX6 173 RX6 yX6_run wsX6_run) := goodIn_app (goodIn_of _ (by decide +kernel)) ggX6_command_X6_run
theorem dX6_command_0 : decode cX6_command 0 = .ok (.aload_n 0, 1) := by decide +kernel
theorem dX6_command_1 : decode cX6_command 1 = .ok (.invokevirtual 170, 3) := by decide +kernel
theorem dX6_command_4 : decode cX6_command 4 = .ok (.aload_n 0, 1) := by decide +kernel
theorem dX6_command_5 : decode cX6_command 5 = .ok (.getfield 16, 3) := by decide +kernel
theorem dX6_command_8 : decode cX6_command 8 = .ok (.bipush 58, 2) := by decide +kernel
theorem dX6_command_10 : decode cX6_command 10 = .ok (.aload_n 0, 1) := by decide +kernel
theorem dX6_command_11 : decode cX6_command 11 = .ok (.getfield 84, 3) := by decide +kernel
theorem dX6_command_14 : decode cX6_command 14 = .ok (.iastore, 1) := by decide +kernel
theorem dX6_command_15 : decode cX6_command 15 = .ok (.iconst 0, 1) := by decide +kernel
theorem dX6_command_16 : decode cX6_command 16 = .ok (.istore_n 1, 1) := by decide +kernel
theorem dX6_command_17 : decode cX6_command 17 = .ok (.iload_n 1, 1) := by decide +kernel
theorem dX6_command_18 : decode cX6_command 18 = .ok (.aload_n 0, 1) := by decide +kernel
theorem dX6_command_19 : decode cX6_command 19 = .ok (.getfield 84, 3) := by decide +kernel
theorem dX6_command_22 : decode cX6_command 22 = .ok (.if_icmp .ge 24, 3) := by decide +kernel
theorem dX6_command_25 : decode cX6_command 25 = .ok (.aload_n 0, 1) := by decide +kernel
theorem dX6_command_26 : decode cX6_command 26 = .ok (.getfield 16, 3) := by decide +kernel
theorem dX6_command_29 : decode cX6_command 29 = .ok (.bipush 59, 2) := by decide +kernel
theorem dX6_command_31 : decode cX6_command 31 = .ok (.iload_n 1, 1) := by decide +kernel
theorem dX6_command_32 : decode cX6_command 32 = .ok (.iadd, 1) := by decide +kernel
theorem dX6_command_33 : decode cX6_command 33 = .ok (.aload_n 0, 1) := by decide +kernel
theorem dX6_command_34 : decode cX6_command 34 = .ok (.getfield 28, 3) := by decide +kernel
theorem dX6_command_37 : decode cX6_command 37 = .ok (.iload_n 1, 1) := by decide +kernel
theorem dX6_command_38 : decode cX6_command 38 = .ok (.iaload, 1) := by decide +kernel
theorem dX6_command_39 : decode cX6_command 39 = .ok (.iastore, 1) := by decide +kernel
theorem dX6_command_40 : decode cX6_command 40 = .ok (.iinc 1 1, 3) := by decide +kernel
theorem dX6_command_43 : decode cX6_command 43 = .ok (.goto (-26), 3) := by decide +kernel
theorem dX6_command_46 : decode cX6_command 46 = .ok (.aload_n 0, 1) := by decide +kernel
theorem dX6_command_47 : decode cX6_command 47 = .ok (.invokevirtual 173, 3) := by decide +kernel
theorem dX6_command_50 : decode cX6_command 50 = .ok (.ireturn, 1) := by decide +kernel
set_option maxRecDepth 20000 in
theorem ggX6_answer_X6_isNoun : GoodIn wsX6_answer wsX6_isNoun := goodIn_r _ [7] (by decide +kernel) (by decide +kernel)
set_option maxRecDepth 20000 in
theorem gX6_answer_X6_isNoun : GoodIn wsX6_answer (va_wsS RX6 66 yX6_isNoun wsX6_isNoun) := goodIn_app (goodIn_of _ (by decide +kernel)) ggX6_answer_X6_isNoun
set_option maxRecDepth 20000 in
theorem ggX6_answer_X6_of : GoodIn wsX6_answer wsX6_of := goodIn_r _ [11, 3, 109, 110, 111, 112, 113, 114, 115, 116, 117, 118, 119, 120, 121, 122, 123, 124, 125] (by decide +kernel) (by decide +kernel)
set_option maxRecDepth 20000 in
theorem gX6_answer_X6_of : GoodIn wsX6_answer (wsV RX6 42 RX6 yX6_of wsX6_of) := goodIn_app (goodIn_of _ (by decide +kernel)) ggX6_answer_X6_of
set_option maxRecDepth 20000 in
theorem ggX6_answer_X6_size : GoodIn wsX6_answer wsX6_size := goodIn_r _ [14] (by decide +kernel) (by decide +kernel)
set_option maxRecDepth 20000 in
theorem gX6_answer_X6_size : GoodIn wsX6_answer (va_wsS RX6 134 yX6_size wsX6_size) := goodIn_app (goodIn_of _ (by decide +kernel)) ggX6_answer_X6_size
set_option maxRecDepth 20000 in
theorem ggX6_answer_X6_lowest : GoodIn wsX6_answer wsX6_lowest := goodIn_r _ [17] (by decide +kernel) (by decide +kernel)
set_option maxRecDepth 20000 in
theorem gX6_answer_X6_lowest : GoodIn wsX6_answer (va_wsS RX6 137 yX6_lowest wsX6_lowest) := goodIn_app (goodIn_of _ (by decide +kernel)) ggX6_answer_X6_lowest
set_option maxRecDepth 20000 in
theorem ggX6_answer_X6_run : GoodIn wsX6_answer wsX6_run := goodIn_r _ [21, 3, 22, 23, 24, 25, 6, 26, 27, 28, 29, 30, 31, 32, 33, 34, 35, 36, 37, 38, 39, 40, 41, 42, 43, 44, 45, 46, 47, 8, 9, 10, 11, 48, 49, 50, 51, 52, 53, 54, 55, 56, 57, 58, 59, 60, 61, 62, 63, 64, 65, 66, 67, 68, 69, 70, 71, 72, 73, 74, 75, 76, 77, 78, 79, 80, 81, 82, 83, 84, 85, 86, 87, 88, 12, 13, 14, 15, 16, 17, 89, 90, 91, 92, 93, 94, 95, 96, 97, 98, 99, 100, 101, 102, 103, 104, 105, 106, 107, 108, 109, 110, 111, 112, 113, 114, 115, 116, 117, 118, 119, 120, 121, 122, 123, 124, 125] (by decide +kernel) (by decide +kernel)
set_option maxRecDepth 20000 in
theorem gX6_answer_X6_run : GoodIn wsX6_answer (wsV RX6 173 RX6 yX6_run wsX6_run) := goodIn_app (goodIn_of _ (by decide +kernel)) ggX6_answer_X6_run
theorem dX6_answer_0 : decode cX6_answer 0 = .ok (.aload_n 0, 1) := by decide +kernel
theorem dX6_answer_1 : decode cX6_answer 1 = .ok (.getfield 28, 3) := by decide +kernel
theorem dX6_answer_4 : decode cX6_answer 4 = .ok (.iconst 0, 1) := by decide +kernel
theorem dX6_answer_5 : decode cX6_answer 5 = .ok (.iaload, 1) := by decide +kernel
theorem dX6_answer_6 : decode cX6_answer 6 = .ok (.bipush 21, 2) := by decide +kernel
theorem dX6_answer_8 : decode cX6_answer 8 = .ok (.if_icmp .ne 7, 3) := by decide +kernel
theorem dX6_answer_11 : decode cX6_answer 11 = .ok (.iconst 1, 1) := by decide +kernel
theorem dX6_answer_12 : decode cX6_answer 12 = .ok (.goto 4, 3) := by decide +kernel
theorem dX6_answer_15 : decode cX6_answer 15 = .ok (.iconst 0, 1) := by decide +kernel
theorem dX6_answer_16 : decode cX6_answer 16 = .ok (.istore_n 1, 1) := by decide +kernel
theorem dX6_answer_17 : decode cX6_answer 17 = .ok (.aload_n 0, 1) := by decide +kernel
theorem dX6_answer_18 : decode cX6_answer 18 = .ok (.getfield 28, 3) := by decide +kernel
theorem dX6_answer_21 : decode cX6_answer 21 = .ok (.iload_n 1, 1) := by decide +kernel
theorem dX6_answer_22 : decode cX6_answer 22 = .ok (.iaload, 1) := by decide +kernel
theorem dX6_answer_23 : decode cX6_answer 23 = .ok (.bipush 6, 2) := by decide +kernel
theorem dX6_answer_25 : decode cX6_answer 25 = .ok (.isub, 1) := by decide +kernel
theorem dX6_answer_26 : decode cX6_answer 26 = .ok (.istore_n 2, 1) := by decide +kernel
theorem dX6_answer_27 : decode cX6_answer 27 = .ok (.iload_n 1, 1) := by decide +kernel
theorem dX6_answer_28 : decode cX6_answer 28 = .ok (.iconst 1, 1) := by decide +kernel
theorem dX6_answer_29 : decode cX6_answer 29 = .ok (.iadd, 1) := by decide +kernel
theorem dX6_answer_30 : decode cX6_answer 30 = .ok (.aload_n 0, 1) := by decide +kernel
theorem dX6_answer_31 : decode cX6_answer 31 = .ok (.getfield 84, 3) := by decide +kernel
theorem dX6_answer_34 : decode cX6_answer 34 = .ok (.if_icmp .ge 28, 3) := by decide +kernel
theorem dX6_answer_37 : decode cX6_answer 37 = .ok (.aload_n 0, 1) := by decide +kernel
theorem dX6_answer_38 : decode cX6_answer 38 = .ok (.getfield 28, 3) := by decide +kernel
theorem dX6_answer_41 : decode cX6_answer 41 = .ok (.iload_n 1, 1) := by decide +kernel
theorem dX6_answer_42 : decode cX6_answer 42 = .ok (.iconst 1, 1) := by decide +kernel
theorem dX6_answer_43 : decode cX6_answer 43 = .ok (.iadd, 1) := by decide +kernel
theorem dX6_answer_44 : decode cX6_answer 44 = .ok (.iaload, 1) := by decide +kernel
theorem dX6_answer_45 : decode cX6_answer 45 = .ok (.invokestatic 66, 3) := by decide +kernel
theorem dX6_answer_48 : decode cX6_answer 48 = .ok (.ifCond .eq 14, 3) := by decide +kernel
theorem dX6_answer_51 : decode cX6_answer 51 = .ok (.aload_n 0, 1) := by decide +kernel
theorem dX6_answer_52 : decode cX6_answer 52 = .ok (.getfield 28, 3) := by decide +kernel
theorem dX6_answer_55 : decode cX6_answer 55 = .ok (.iload_n 1, 1) := by decide +kernel
theorem dX6_answer_56 : decode cX6_answer 56 = .ok (.iconst 1, 1) := by decide +kernel
theorem dX6_answer_57 : decode cX6_answer 57 = .ok (.iadd, 1) := by decide +kernel
theorem dX6_answer_58 : decode cX6_answer 58 = .ok (.iaload, 1) := by decide +kernel
theorem dX6_answer_59 : decode cX6_answer 59 = .ok (.goto 4, 3) := by decide +kernel
theorem dX6_answer_62 : decode cX6_answer 62 = .ok (.iconst (-1), 1) := by decide +kernel
theorem dX6_answer_63 : decode cX6_answer 63 = .ok (.istore_n 3, 1) := by decide +kernel
theorem dX6_answer_64 : decode cX6_answer 64 = .ok (.iconst 0, 1) := by decide +kernel
theorem dX6_answer_65 : decode cX6_answer 65 = .ok (.istore 4, 2) := by decide +kernel
theorem dX6_answer_67 : decode cX6_answer 67 = .ok (.iconst 0, 1) := by decide +kernel
theorem dX6_answer_68 : decode cX6_answer 68 = .ok (.istore 5, 2) := by decide +kernel
theorem dX6_answer_70 : decode cX6_answer 70 = .ok (.iload 5, 2) := by decide +kernel
theorem dX6_answer_72 : decode cX6_answer 72 = .ok (.aload_n 0, 1) := by decide +kernel
theorem dX6_answer_73 : decode cX6_answer 73 = .ok (.getfield 16, 3) := by decide +kernel
theorem dX6_answer_76 : decode cX6_answer 76 = .ok (.iconst 0, 1) := by decide +kernel
theorem dX6_answer_77 : decode cX6_answer 77 = .ok (.iaload, 1) := by decide +kernel
theorem dX6_answer_78 : decode cX6_answer 78 = .ok (.if_icmp .ge 76, 3) := by decide +kernel
theorem dX6_answer_81 : decode cX6_answer 81 = .ok (.aload_n 0, 1) := by decide +kernel
theorem dX6_answer_82 : decode cX6_answer 82 = .ok (.getfield 16, 3) := by decide +kernel
theorem dX6_answer_85 : decode cX6_answer 85 = .ok (.bipush 57, 2) := by decide +kernel
theorem dX6_answer_87 : decode cX6_answer 87 = .ok (.iaload, 1) := by decide +kernel
theorem dX6_answer_88 : decode cX6_answer 88 = .ok (.iload 5, 2) := by decide +kernel
theorem dX6_answer_90 : decode cX6_answer 90 = .ok (.ishr, 1) := by decide +kernel
theorem dX6_answer_91 : decode cX6_answer 91 = .ok (.iconst 1, 1) := by decide +kernel
theorem dX6_answer_92 : decode cX6_answer 92 = .ok (.iand, 1) := by decide +kernel
theorem dX6_answer_93 : decode cX6_answer 93 = .ok (.iconst 1, 1) := by decide +kernel
theorem dX6_answer_94 : decode cX6_answer 94 = .ok (.if_icmp .ne 33, 3) := by decide +kernel
theorem dX6_answer_97 : decode cX6_answer 97 = .ok (.aload_n 0, 1) := by decide +kernel
theorem dX6_answer_98 : decode cX6_answer 98 = .ok (.iload 5, 2) := by decide +kernel
theorem dX6_answer_100 : decode cX6_answer 100 = .ok (.iconst 1, 1) := by decide +kernel
theorem dX6_answer_101 : decode cX6_answer 101 = .ok (.invokevirtual 42, 3) := by decide +kernel
theorem dX6_answer_104 : decode cX6_answer 104 = .ok (.iload_n 2, 1) := by decide +kernel
theorem dX6_answer_105 : decode cX6_answer 105 = .ok (.if_icmp .ne 22, 3) := by decide +kernel
theorem dX6_answer_108 : decode cX6_answer 108 = .ok (.iload_n 3, 1) := by decide +kernel
theorem dX6_answer_109 : decode cX6_answer 109 = .ok (.ifCond .lt 14, 3) := by decide +kernel
theorem dX6_answer_112 : decode cX6_answer 112 = .ok (.aload_n 0, 1) := by decide +kernel
theorem dX6_answer_113 : decode cX6_answer 113 = .ok (.iload 5, 2) := by decide +kernel
theorem dX6_answer_115 : decode cX6_answer 115 = .ok (.iconst 0, 1) := by decide +kernel
theorem dX6_answer_116 : decode cX6_answer 116 = .ok (.invokevirtual 42, 3) := by decide +kernel
theorem dX6_answer_119 : decode cX6_answer 119 = .ok (.iload_n 3, 1) := by decide +kernel
theorem dX6_answer_120 : decode cX6_answer 120 = .ok (.if_icmp .ne 7, 3) := by decide +kernel
theorem dX6_answer_123 : decode cX6_answer 123 = .ok (.iconst 1, 1) := by decide +kernel
theorem dX6_answer_124 : decode cX6_answer 124 = .ok (.goto 4, 3) := by decide +kernel
theorem dX6_answer_127 : decode cX6_answer 127 = .ok (.iconst 0, 1) := by decide +kernel
theorem dX6_answer_128 : decode cX6_answer 128 = .ok (.istore 6, 2) := by decide +kernel
theorem dX6_answer_130 : decode cX6_answer 130 = .ok (.iload 4, 2) := by decide +kernel
theorem dX6_answer_132 : decode cX6_answer 132 = .ok (.iload 6, 2) := by decide +kernel
theorem dX6_answer_134 : decode cX6_answer 134 = .ok (.ifCond .eq 10, 3) := by decide +kernel
theorem dX6_answer_137 : decode cX6_answer 137 = .ok (.iconst 1, 1) := by decide +kernel
theorem dX6_answer_138 : decode cX6_answer 138 = .ok (.iload 5, 2) := by decide +kernel
theorem dX6_answer_140 : decode cX6_answer 140 = .ok (.ishl, 1) := by decide +kernel
theorem dX6_answer_141 : decode cX6_answer 141 = .ok (.goto 4, 3) := by decide +kernel
theorem dX6_answer_144 : decode cX6_answer 144 = .ok (.iconst 0, 1) := by decide +kernel
theorem dX6_answer_145 : decode cX6_answer 145 = .ok (.ior, 1) := by decide +kernel
theorem dX6_answer_146 : decode cX6_answer 146 = .ok (.istore 4, 2) := by decide +kernel
theorem dX6_answer_148 : decode cX6_answer 148 = .ok (.iinc 5 1, 3) := by decide +kernel
theorem dX6_answer_151 : decode cX6_answer 151 = .ok (.goto (-81), 3) := by decide +kernel
theorem dX6_answer_154 : decode cX6_answer 154 = .ok (.iload 4, 2) := by decide +kernel
theorem dX6_answer_156 : decode cX6_answer 156 = .ok (.invokestatic 134, 3) := by decide +kernel
theorem dX6_answer_159 : decode cX6_answer 159 = .ok (.iconst 1, 1) := by decide +kernel
theorem dX6_answer_160 : decode cX6_answer 160 = .ok (.if_icmp .eq 6, 3) := by decide +kernel
theorem dX6_answer_163 : decode cX6_answer 163 = .ok (.bipush (-5), 2) := by decide +kernel
theorem dX6_answer_165 : decode cX6_answer 165 = .ok (.ireturn, 1) := by decide +kernel
theorem dX6_answer_166 : decode cX6_answer 166 = .ok (.aload_n 0, 1) := by decide +kernel
theorem dX6_answer_167 : decode cX6_answer 167 = .ok (.getfield 16, 3) := by decide +kernel
theorem dX6_answer_170 : decode cX6_answer 170 = .ok (.bipush 90, 2) := by decide +kernel
theorem dX6_answer_172 : decode cX6_answer 172 = .ok (.aload_n 0, 1) := by decide +kernel
theorem dX6_answer_173 : decode cX6_answer 173 = .ok (.getfield 16, 3) := by decide +kernel
theorem dX6_answer_176 : decode cX6_answer 176 = .ok (.bipush 56, 2) := by decide +kernel
theorem dX6_answer_178 : decode cX6_answer 178 = .ok (.iaload, 1) := by decide +kernel
theorem dX6_answer_179 : decode cX6_answer 179 = .ok (.iadd, 1) := by decide +kernel
theorem dX6_answer_180 : decode cX6_answer 180 = .ok (.iload 4, 2) := by decide +kernel
theorem dX6_answer_182 : decode cX6_answer 182 = .ok (.invokestatic 137, 3) := by decide +kernel
theorem dX6_answer_185 : decode cX6_answer 185 = .ok (.iconst 1, 1) := by decide +kernel
theorem dX6_answer_186 : decode cX6_answer 186 = .ok (.iadd, 1) := by decide +kernel
theorem dX6_answer_187 : decode cX6_answer 187 = .ok (.iastore, 1) := by decide +kernel
theorem dX6_answer_188 : decode cX6_answer 188 = .ok (.aload_n 0, 1) := by decide +kernel
theorem dX6_answer_189 : decode cX6_answer 189 = .ok (.getfield 16, 3) := by decide +kernel
theorem dX6_answer_192 : decode cX6_answer 192 = .ok (.bipush 57, 2) := by decide +kernel
theorem dX6_answer_194 : decode cX6_answer 194 = .ok (.iconst 0, 1) := by decide +kernel
theorem dX6_answer_195 : decode cX6_answer 195 = .ok (.iastore, 1) := by decide +kernel
theorem dX6_answer_196 : decode cX6_answer 196 = .ok (.aload_n 0, 1) := by decide +kernel
theorem dX6_answer_197 : decode cX6_answer 197 = .ok (.getfield 16, 3) := by decide +kernel
theorem dX6_answer_200 : decode cX6_answer 200 = .ok (.bipush 55, 2) := by decide +kernel
theorem dX6_answer_202 : decode cX6_answer 202 = .ok (.iconst 0, 1) := by decide +kernel
theorem dX6_answer_203 : decode cX6_answer 203 = .ok (.iastore, 1) := by decide +kernel
theorem dX6_answer_204 : decode cX6_answer 204 = .ok (.aload_n 0, 1) := by decide +kernel
theorem dX6_answer_205 : decode cX6_answer 205 = .ok (.invokevirtual 173, 3) := by decide +kernel
theorem dX6_answer_208 : decode cX6_answer 208 = .ok (.ireturn, 1) := by decide +kernel
set_option maxRecDepth 20000 in
theorem ggX6_entered_X6_in : GoodIn wsX6_entered wsX6_in := goodIn_r _ [5] (by decide +kernel) (by decide +kernel)
set_option maxRecDepth 20000 in
theorem gX6_entered_X6_in : GoodIn wsX6_entered (va_wsS RX6 38 yX6_in wsX6_in) := goodIn_app (goodIn_of _ (by decide +kernel)) ggX6_entered_X6_in
set_option maxRecDepth 20000 in
theorem ggX6_entered_X6_command : GoodIn wsX6_entered wsX6_command := goodIn_r _ [9, 10, 11, 1, 12, 13, 14, 4, 15, 16, 17, 18, 19, 20, 21, 22, 23, 24, 2, 3, 5, 25, 26, 27, 28, 29, 30, 31, 32, 33, 34, 35, 36, 37, 38, 39, 40, 41, 42, 43, 44, 45, 46, 47, 48, 49, 50, 51, 52, 53, 54, 55, 56, 57, 58, 59, 60, 61, 62, 63, 64, 65, 66, 67, 68, 69, 70, 71, 72, 73, 74, 75, 76, 77, 78, 79, 80, 81, 82, 83, 84, 85, 86, 87, 88, 89, 90, 91, 92, 93, 94, 95, 96, 97, 98, 99, 100, 101, 102, 103, 104, 105, 106, 107, 108, 109, 117, 118, 119, 120, 121, 122, 123, 124, 125, 126, 127, 128, 129, 130, 131, 132, 133] (by decide +kernel) (by decide +kernel)
set_option maxRecDepth 20000 in
theorem gX6_entered_X6_command : GoodIn wsX6_entered (wsV RX6 176 RX6 yX6_command wsX6_command) := goodIn_app (goodIn_of _ (by decide +kernel)) ggX6_entered_X6_command
set_option maxRecDepth 20000 in
theorem ggX6_entered_X6_answer : GoodIn wsX6_entered wsX6_answer := goodIn_r _ [113, 1, 11, 10, 114, 115, 4, 116, 43, 44, 45, 46, 88, 89, 90, 91, 92, 93, 16, 17, 18, 19, 20, 21, 22, 23, 24, 2, 3, 5, 25, 26, 27, 28, 29, 30, 31, 32, 33, 34, 35, 36, 37, 38, 39, 40, 41, 42, 47, 48, 49, 50, 51, 52, 53, 54, 55, 56, 57, 58, 59, 60, 61, 62, 63, 64, 65, 66, 67, 68, 69, 70, 71, 72, 73, 74, 75, 76, 77, 78, 79, 80, 81, 82, 83, 84, 85, 86, 87, 94, 95, 96, 97, 98, 99, 100, 101, 102, 103, 104, 105, 106, 107, 108, 109, 12, 13, 14, 15, 117, 118, 119, 120, 121, 122, 123, 124, 125, 126, 127, 128, 129, 130, 131, 132, 133] (by decide +kernel) (by decide +kernel)
set_option maxRecDepth 20000 in
theorem gX6_entered_X6_answer : GoodIn wsX6_entered (wsV RX6 179 RX6 yX6_answer wsX6_answer) := goodIn_app (goodIn_of _ (by decide +kernel)) ggX6_entered_X6_answer
theorem dX6_entered_0 : decode cX6_entered 0 = .ok (.aload_n 0, 1) := by decide +kernel
theorem dX6_entered_1 : decode cX6_entered 1 = .ok (.getfield 28, 3) := by decide +kernel
theorem dX6_entered_4 : decode cX6_entered 4 = .ok (.iconst 0, 1) := by decide +kernel
theorem dX6_entered_5 : decode cX6_entered 5 = .ok (.iaload, 1) := by decide +kernel
theorem dX6_entered_6 : decode cX6_entered 6 = .ok (.bipush 10, 2) := by decide +kernel
theorem dX6_entered_8 : decode cX6_entered 8 = .ok (.bipush 16, 2) := by decide +kernel
theorem dX6_entered_10 : decode cX6_entered 10 = .ok (.invokestatic 38, 3) := by decide +kernel
theorem dX6_entered_13 : decode cX6_entered 13 = .ok (.ifCond .eq 10, 3) := by decide +kernel
theorem dX6_entered_16 : decode cX6_entered 16 = .ok (.aload_n 0, 1) := by decide +kernel
theorem dX6_entered_17 : decode cX6_entered 17 = .ok (.invokevirtual 176, 3) := by decide +kernel
theorem dX6_entered_20 : decode cX6_entered 20 = .ok (.goto 7, 3) := by decide +kernel
theorem dX6_entered_23 : decode cX6_entered 23 = .ok (.aload_n 0, 1) := by decide +kernel
theorem dX6_entered_24 : decode cX6_entered 24 = .ok (.invokevirtual 179, 3) := by decide +kernel
theorem dX6_entered_27 : decode cX6_entered 27 = .ok (.ireturn, 1) := by decide +kernel
set_option maxRecDepth 20000 in
theorem ggX6_addObject_X6_in : GoodIn wsX6_addObject wsX6_in := goodIn_r _ [6] (by decide +kernel) (by decide +kernel)
set_option maxRecDepth 20000 in
theorem gX6_addObject_X6_in : GoodIn wsX6_addObject (va_wsS RX6 38 yX6_in wsX6_in) := goodIn_app (goodIn_of _ (by decide +kernel)) ggX6_addObject_X6_in
set_option maxRecDepth 20000 in
theorem ggX6_addObject_X6_isContainer : GoodIn wsX6_addObject wsX6_isContainer := goodIn_r _ [10, 11, 12, 13, 5, 14, 2, 37, 38, 39, 40, 41, 42, 43, 44, 45, 46, 47, 48, 49, 50, 51, 52, 53] (by decide +kernel) (by decide +kernel)
set_option maxRecDepth 20000 in
theorem gX6_addObject_X6_isContainer : GoodIn wsX6_addObject (wsV RX6 53 RX6 yX6_isContainer wsX6_isContainer) := goodIn_app (goodIn_of _ (by decide +kernel)) ggX6_addObject_X6_isContainer
set_option maxRecDepth 20000 in
theorem ggX6_addObject_X6_throwing : GoodIn wsX6_addObject wsX6_throwing := goodIn_r _ [18, 1, 37, 38, 39, 40, 41, 42, 43, 44, 45, 46, 47, 48, 49, 50, 51, 52, 53] (by decide +kernel) (by decide +kernel)
set_option maxRecDepth 20000 in
theorem gX6_addObject_X6_throwing : GoodIn wsX6_addObject (wsV RX6 182 RX6 yX6_throwing wsX6_throwing) := goodIn_app (goodIn_of _ (by decide +kernel)) ggX6_addObject_X6_throwing
set_option maxRecDepth 20000 in
theorem ggX6_addObject_X6_fittingOnes : GoodIn wsX6_addObject wsX6_fittingOnes := goodIn_r _ [22, 2, 11, 12, 13, 5, 14, 37, 38, 39, 40, 41, 42, 43, 44, 45, 46, 47, 48, 49, 50, 51, 52, 53] (by decide +kernel) (by decide +kernel)
set_option maxRecDepth 20000 in
theorem gX6_addObject_X6_fittingOnes : GoodIn wsX6_addObject (wsV RX6 121 RX6 yX6_fittingOnes wsX6_fittingOnes) := goodIn_app (goodIn_of _ (by decide +kernel)) ggX6_addObject_X6_fittingOnes
set_option maxRecDepth 20000 in
theorem ggX6_addObject_X6_at : GoodIn wsX6_addObject wsX6_at := goodIn_r _ [26, 2, 11, 12, 13, 5, 14, 37, 38, 39, 40, 41, 42, 43, 44, 45, 46, 47, 48, 49, 50, 51, 52, 53] (by decide +kernel) (by decide +kernel)
set_option maxRecDepth 20000 in
theorem gX6_addObject_X6_at : GoodIn wsX6_addObject (wsV RX6 150 RX6 yX6_at wsX6_at) := goodIn_app (goodIn_of _ (by decide +kernel)) ggX6_addObject_X6_at
set_option maxRecDepth 20000 in
theorem ggX6_addObject_X6_save : GoodIn wsX6_addObject wsX6_save := goodIn_r _ [30, 31, 32, 2, 37, 38, 39, 40, 41, 42, 43, 44, 45, 46, 47, 48, 49, 50, 51, 52, 53] (by decide +kernel) (by decide +kernel)
set_option maxRecDepth 20000 in
theorem gX6_addObject_X6_save : GoodIn wsX6_addObject (wsV RX6 185 RX6 yX6_save wsX6_save) := goodIn_app (goodIn_of _ (by decide +kernel)) ggX6_addObject_X6_save
set_option maxRecDepth 20000 in
theorem ggX6_addObject_X6_closeQuestion : GoodIn wsX6_addObject wsX6_closeQuestion := goodIn_r _ [36, 2, 37, 38, 39, 40, 41, 42, 43, 44, 45, 46, 47, 48, 49, 50, 51, 52, 53] (by decide +kernel) (by decide +kernel)
set_option maxRecDepth 20000 in
theorem gX6_addObject_X6_closeQuestion : GoodIn wsX6_addObject (wsV RX6 170 RX6 yX6_closeQuestion wsX6_closeQuestion) := goodIn_app (goodIn_of _ (by decide +kernel)) ggX6_addObject_X6_closeQuestion
theorem dX6_addObject_0 : decode cX6_addObject 0 = .ok (.aload_n 0, 1) := by decide +kernel
theorem dX6_addObject_1 : decode cX6_addObject 1 = .ok (.iconst 0, 1) := by decide +kernel
theorem dX6_addObject_2 : decode cX6_addObject 2 = .ok (.putfield 31, 3) := by decide +kernel
theorem dX6_addObject_5 : decode cX6_addObject 5 = .ok (.iload_n 3, 1) := by decide +kernel
theorem dX6_addObject_6 : decode cX6_addObject 6 = .ok (.iconst 5, 1) := by decide +kernel
theorem dX6_addObject_7 : decode cX6_addObject 7 = .ok (.iconst 4, 1) := by decide +kernel
theorem dX6_addObject_8 : decode cX6_addObject 8 = .ok (.aload_n 0, 1) := by decide +kernel
theorem dX6_addObject_9 : decode cX6_addObject 9 = .ok (.getfield 16, 3) := by decide +kernel
theorem dX6_addObject_12 : decode cX6_addObject 12 = .ok (.iconst 0, 1) := by decide +kernel
theorem dX6_addObject_13 : decode cX6_addObject 13 = .ok (.iaload, 1) := by decide +kernel
theorem dX6_addObject_14 : decode cX6_addObject 14 = .ok (.iadd, 1) := by decide +kernel
theorem dX6_addObject_15 : decode cX6_addObject 15 = .ok (.invokestatic 38, 3) := by decide +kernel
theorem dX6_addObject_18 : decode cX6_addObject 18 = .ok (.istore 4, 2) := by decide +kernel
theorem dX6_addObject_20 : decode cX6_addObject 20 = .ok (.iload_n 3, 1) := by decide +kernel
theorem dX6_addObject_21 : decode cX6_addObject 21 = .ok (.iconst 0, 1) := by decide +kernel
theorem dX6_addObject_22 : decode cX6_addObject 22 = .ok (.iconst 4, 1) := by decide +kernel
theorem dX6_addObject_23 : decode cX6_addObject 23 = .ok (.invokestatic 38, 3) := by decide +kernel
theorem dX6_addObject_26 : decode cX6_addObject 26 = .ok (.ifCond .ne 18, 3) := by decide +kernel
theorem dX6_addObject_29 : decode cX6_addObject 29 = .ok (.iload 4, 2) := by decide +kernel
theorem dX6_addObject_31 : decode cX6_addObject 31 = .ok (.ifCond .eq 17, 3) := by decide +kernel
theorem dX6_addObject_34 : decode cX6_addObject 34 = .ok (.aload_n 0, 1) := by decide +kernel
theorem dX6_addObject_35 : decode cX6_addObject 35 = .ok (.iload_n 3, 1) := by decide +kernel
theorem dX6_addObject_36 : decode cX6_addObject 36 = .ok (.iconst 5, 1) := by decide +kernel
theorem dX6_addObject_37 : decode cX6_addObject 37 = .ok (.isub, 1) := by decide +kernel
theorem dX6_addObject_38 : decode cX6_addObject 38 = .ok (.invokevirtual 53, 3) := by decide +kernel
theorem dX6_addObject_41 : decode cX6_addObject 41 = .ok (.ifCond .eq 7, 3) := by decide +kernel
theorem dX6_addObject_44 : decode cX6_addObject 44 = .ok (.iconst 1, 1) := by decide +kernel
theorem dX6_addObject_45 : decode cX6_addObject 45 = .ok (.goto 4, 3) := by decide +kernel
theorem dX6_addObject_48 : decode cX6_addObject 48 = .ok (.iconst 0, 1) := by decide +kernel
theorem dX6_addObject_49 : decode cX6_addObject 49 = .ok (.istore 5, 2) := by decide +kernel
theorem dX6_addObject_51 : decode cX6_addObject 51 = .ok (.iload_n 1, 1) := by decide +kernel
theorem dX6_addObject_52 : decode cX6_addObject 52 = .ok (.iconst 1, 1) := by decide +kernel
theorem dX6_addObject_53 : decode cX6_addObject 53 = .ok (.if_icmp .eq 8, 3) := by decide +kernel
theorem dX6_addObject_56 : decode cX6_addObject 56 = .ok (.iload_n 1, 1) := by decide +kernel
theorem dX6_addObject_57 : decode cX6_addObject 57 = .ok (.iconst 5, 1) := by decide +kernel
theorem dX6_addObject_58 : decode cX6_addObject 58 = .ok (.if_icmp .ne 7, 3) := by decide +kernel
theorem dX6_addObject_61 : decode cX6_addObject 61 = .ok (.iconst 1, 1) := by decide +kernel
theorem dX6_addObject_62 : decode cX6_addObject 62 = .ok (.goto 4, 3) := by decide +kernel
theorem dX6_addObject_65 : decode cX6_addObject 65 = .ok (.iconst 0, 1) := by decide +kernel
theorem dX6_addObject_66 : decode cX6_addObject 66 = .ok (.istore 6, 2) := by decide +kernel
theorem dX6_addObject_68 : decode cX6_addObject 68 = .ok (.iload_n 1, 1) := by decide +kernel
theorem dX6_addObject_69 : decode cX6_addObject 69 = .ok (.iconst 0, 1) := by decide +kernel
theorem dX6_addObject_70 : decode cX6_addObject 70 = .ok (.iconst 5, 1) := by decide +kernel
theorem dX6_addObject_71 : decode cX6_addObject 71 = .ok (.invokestatic 38, 3) := by decide +kernel
theorem dX6_addObject_74 : decode cX6_addObject 74 = .ok (.ifCond .eq 27, 3) := by decide +kernel
theorem dX6_addObject_77 : decode cX6_addObject 77 = .ok (.iload_n 2, 1) := by decide +kernel
theorem dX6_addObject_78 : decode cX6_addObject 78 = .ok (.iconst 0, 1) := by decide +kernel
theorem dX6_addObject_79 : decode cX6_addObject 79 = .ok (.iconst 3, 1) := by decide +kernel
theorem dX6_addObject_80 : decode cX6_addObject 80 = .ok (.invokestatic 38, 3) := by decide +kernel
theorem dX6_addObject_83 : decode cX6_addObject 83 = .ok (.ifCond .eq 18, 3) := by decide +kernel
theorem dX6_addObject_86 : decode cX6_addObject 86 = .ok (.iload 5, 2) := by decide +kernel
theorem dX6_addObject_88 : decode cX6_addObject 88 = .ok (.ifCond .eq 13, 3) := by decide +kernel
theorem dX6_addObject_91 : decode cX6_addObject 91 = .ok (.iload 4, 2) := by decide +kernel
theorem dX6_addObject_93 : decode cX6_addObject 93 = .ok (.ifCond .eq 14, 3) := by decide +kernel
theorem dX6_addObject_96 : decode cX6_addObject 96 = .ok (.iload 6, 2) := by decide +kernel
theorem dX6_addObject_98 : decode cX6_addObject 98 = .ok (.ifCond .eq 9, 3) := by decide +kernel
theorem dX6_addObject_101 : decode cX6_addObject 101 = .ok (.aload_n 0, 1) := by decide +kernel
theorem dX6_addObject_102 : decode cX6_addObject 102 = .ok (.iconst 1, 1) := by decide +kernel
theorem dX6_addObject_103 : decode cX6_addObject 103 = .ok (.invokevirtual 182, 3) := by decide +kernel
theorem dX6_addObject_106 : decode cX6_addObject 106 = .ok (.ireturn, 1) := by decide +kernel
theorem dX6_addObject_107 : decode cX6_addObject 107 = .ok (.aload_n 0, 1) := by decide +kernel
theorem dX6_addObject_108 : decode cX6_addObject 108 = .ok (.getfield 16, 3) := by decide +kernel
theorem dX6_addObject_111 : decode cX6_addObject 111 = .ok (.iconst 0, 1) := by decide +kernel
theorem dX6_addObject_112 : decode cX6_addObject 112 = .ok (.iaload, 1) := by decide +kernel
theorem dX6_addObject_113 : decode cX6_addObject 113 = .ok (.bipush 12, 2) := by decide +kernel
theorem dX6_addObject_115 : decode cX6_addObject 115 = .ok (.if_icmp .eq 41, 3) := by decide +kernel
theorem dX6_addObject_118 : decode cX6_addObject 118 = .ok (.aload_n 0, 1) := by decide +kernel
theorem dX6_addObject_119 : decode cX6_addObject 119 = .ok (.iload_n 1, 1) := by decide +kernel
theorem dX6_addObject_120 : decode cX6_addObject 120 = .ok (.iload_n 2, 1) := by decide +kernel
theorem dX6_addObject_121 : decode cX6_addObject 121 = .ok (.invokevirtual 121, 3) := by decide +kernel
theorem dX6_addObject_124 : decode cX6_addObject 124 = .ok (.ifCond .ne 32, 3) := by decide +kernel
theorem dX6_addObject_127 : decode cX6_addObject 127 = .ok (.iload_n 3, 1) := by decide +kernel
theorem dX6_addObject_128 : decode cX6_addObject 128 = .ok (.iconst 4, 1) := by decide +kernel
theorem dX6_addObject_129 : decode cX6_addObject 129 = .ok (.if_icmp .ne 13, 3) := by decide +kernel
theorem dX6_addObject_132 : decode cX6_addObject 132 = .ok (.aload_n 0, 1) := by decide +kernel
theorem dX6_addObject_133 : decode cX6_addObject 133 = .ok (.iconst 4, 1) := by decide +kernel
theorem dX6_addObject_134 : decode cX6_addObject 134 = .ok (.invokevirtual 150, 3) := by decide +kernel
theorem dX6_addObject_137 : decode cX6_addObject 137 = .ok (.bipush 6, 2) := by decide +kernel
theorem dX6_addObject_139 : decode cX6_addObject 139 = .ok (.if_icmp .eq 17, 3) := by decide +kernel
theorem dX6_addObject_142 : decode cX6_addObject 142 = .ok (.iload 4, 2) := by decide +kernel
theorem dX6_addObject_144 : decode cX6_addObject 144 = .ok (.ifCond .eq 18, 3) := by decide +kernel
theorem dX6_addObject_147 : decode cX6_addObject 147 = .ok (.aload_n 0, 1) := by decide +kernel
theorem dX6_addObject_148 : decode cX6_addObject 148 = .ok (.iload_n 3, 1) := by decide +kernel
theorem dX6_addObject_149 : decode cX6_addObject 149 = .ok (.invokevirtual 150, 3) := by decide +kernel
theorem dX6_addObject_152 : decode cX6_addObject 152 = .ok (.iconst 4, 1) := by decide +kernel
theorem dX6_addObject_153 : decode cX6_addObject 153 = .ok (.if_icmp .ne 9, 3) := by decide +kernel
theorem dX6_addObject_156 : decode cX6_addObject 156 = .ok (.aload_n 0, 1) := by decide +kernel
theorem dX6_addObject_157 : decode cX6_addObject 157 = .ok (.iconst 2, 1) := by decide +kernel
theorem dX6_addObject_158 : decode cX6_addObject 158 = .ok (.invokevirtual 182, 3) := by decide +kernel
theorem dX6_addObject_161 : decode cX6_addObject 161 = .ok (.ireturn, 1) := by decide +kernel
theorem dX6_addObject_162 : decode cX6_addObject 162 = .ok (.aload_n 0, 1) := by decide +kernel
theorem dX6_addObject_163 : decode cX6_addObject 163 = .ok (.invokevirtual 185, 3) := by decide +kernel
theorem dX6_addObject_166 : decode cX6_addObject 166 = .ok (.aload_n 0, 1) := by decide +kernel
theorem dX6_addObject_167 : decode cX6_addObject 167 = .ok (.invokevirtual 170, 3) := by decide +kernel
theorem dX6_addObject_170 : decode cX6_addObject 170 = .ok (.iconst 1, 1) := by decide +kernel
theorem dX6_addObject_171 : decode cX6_addObject 171 = .ok (.iconst 4, 1) := by decide +kernel
theorem dX6_addObject_172 : decode cX6_addObject 172 = .ok (.aload_n 0, 1) := by decide +kernel
theorem dX6_addObject_173 : decode cX6_addObject 173 = .ok (.getfield 16, 3) := by decide +kernel
theorem dX6_addObject_176 : decode cX6_addObject 176 = .ok (.iconst 0, 1) := by decide +kernel
theorem dX6_addObject_177 : decode cX6_addObject 177 = .ok (.iaload, 1) := by decide +kernel
theorem dX6_addObject_178 : decode cX6_addObject 178 = .ok (.imul, 1) := by decide +kernel
theorem dX6_addObject_179 : decode cX6_addObject 179 = .ok (.iadd, 1) := by decide +kernel
theorem dX6_addObject_180 : decode cX6_addObject 180 = .ok (.istore 7, 2) := by decide +kernel
theorem dX6_addObject_182 : decode cX6_addObject 182 = .ok (.aload_n 0, 1) := by decide +kernel
theorem dX6_addObject_183 : decode cX6_addObject 183 = .ok (.getfield 16, 3) := by decide +kernel
theorem dX6_addObject_186 : decode cX6_addObject 186 = .ok (.iload 7, 2) := by decide +kernel
theorem dX6_addObject_188 : decode cX6_addObject 188 = .ok (.iconst 0, 1) := by decide +kernel
theorem dX6_addObject_189 : decode cX6_addObject 189 = .ok (.iadd, 1) := by decide +kernel
theorem dX6_addObject_190 : decode cX6_addObject 190 = .ok (.iload_n 1, 1) := by decide +kernel
theorem dX6_addObject_191 : decode cX6_addObject 191 = .ok (.iastore, 1) := by decide +kernel
theorem dX6_addObject_192 : decode cX6_addObject 192 = .ok (.aload_n 0, 1) := by decide +kernel
theorem dX6_addObject_193 : decode cX6_addObject 193 = .ok (.getfield 16, 3) := by decide +kernel
theorem dX6_addObject_196 : decode cX6_addObject 196 = .ok (.iload 7, 2) := by decide +kernel
theorem dX6_addObject_198 : decode cX6_addObject 198 = .ok (.iconst 1, 1) := by decide +kernel
theorem dX6_addObject_199 : decode cX6_addObject 199 = .ok (.iadd, 1) := by decide +kernel
theorem dX6_addObject_200 : decode cX6_addObject 200 = .ok (.iload_n 2, 1) := by decide +kernel
theorem dX6_addObject_201 : decode cX6_addObject 201 = .ok (.iastore, 1) := by decide +kernel
theorem dX6_addObject_202 : decode cX6_addObject 202 = .ok (.aload_n 0, 1) := by decide +kernel
theorem dX6_addObject_203 : decode cX6_addObject 203 = .ok (.getfield 16, 3) := by decide +kernel
theorem dX6_addObject_206 : decode cX6_addObject 206 = .ok (.iload 7, 2) := by decide +kernel
theorem dX6_addObject_208 : decode cX6_addObject 208 = .ok (.iconst 2, 1) := by decide +kernel
theorem dX6_addObject_209 : decode cX6_addObject 209 = .ok (.iadd, 1) := by decide +kernel
theorem dX6_addObject_210 : decode cX6_addObject 210 = .ok (.iload_n 3, 1) := by decide +kernel
theorem dX6_addObject_211 : decode cX6_addObject 211 = .ok (.iastore, 1) := by decide +kernel
theorem dX6_addObject_212 : decode cX6_addObject 212 = .ok (.aload_n 0, 1) := by decide +kernel
theorem dX6_addObject_213 : decode cX6_addObject 213 = .ok (.getfield 16, 3) := by decide +kernel
theorem dX6_addObject_216 : decode cX6_addObject 216 = .ok (.iload 7, 2) := by decide +kernel
theorem dX6_addObject_218 : decode cX6_addObject 218 = .ok (.iconst 3, 1) := by decide +kernel
theorem dX6_addObject_219 : decode cX6_addObject 219 = .ok (.iadd, 1) := by decide +kernel
theorem dX6_addObject_220 : decode cX6_addObject 220 = .ok (.iconst 0, 1) := by decide +kernel
theorem dX6_addObject_221 : decode cX6_addObject 221 = .ok (.iastore, 1) := by decide +kernel
theorem dX6_addObject_222 : decode cX6_addObject 222 = .ok (.aload_n 0, 1) := by decide +kernel
theorem dX6_addObject_223 : decode cX6_addObject 223 = .ok (.getfield 16, 3) := by decide +kernel
theorem dX6_addObject_226 : decode cX6_addObject 226 = .ok (.iconst 0, 1) := by decide +kernel
theorem dX6_addObject_227 : decode cX6_addObject 227 = .ok (.dup2, 1) := by decide +kernel
theorem dX6_addObject_228 : decode cX6_addObject 228 = .ok (.iaload, 1) := by decide +kernel
theorem dX6_addObject_229 : decode cX6_addObject 229 = .ok (.iconst 1, 1) := by decide +kernel
theorem dX6_addObject_230 : decode cX6_addObject 230 = .ok (.iadd, 1) := by decide +kernel
theorem dX6_addObject_231 : decode cX6_addObject 231 = .ok (.iastore, 1) := by decide +kernel
theorem dX6_addObject_232 : decode cX6_addObject 232 = .ok (.aload_n 0, 1) := by decide +kernel
theorem dX6_addObject_233 : decode cX6_addObject 233 = .ok (.getfield 16, 3) := by decide +kernel
theorem dX6_addObject_236 : decode cX6_addObject 236 = .ok (.iconst 0, 1) := by decide +kernel
theorem dX6_addObject_237 : decode cX6_addObject 237 = .ok (.iaload, 1) := by decide +kernel
theorem dX6_addObject_238 : decode cX6_addObject 238 = .ok (.iconst 1, 1) := by decide +kernel
theorem dX6_addObject_239 : decode cX6_addObject 239 = .ok (.isub, 1) := by decide +kernel
theorem dX6_addObject_240 : decode cX6_addObject 240 = .ok (.ireturn, 1) := by decide +kernel
set_option maxRecDepth 20000 in
theorem ggX6_moveTo_X6_in : GoodIn wsX6_moveTo wsX6_in := goodIn_r _ [6] (by decide +kernel) (by decide +kernel)
set_option maxRecDepth 20000 in
theorem gX6_moveTo_X6_in : GoodIn wsX6_moveTo (va_wsS RX6 38 yX6_in wsX6_in) := goodIn_app (goodIn_of _ (by decide +kernel)) ggX6_moveTo_X6_in
set_option maxRecDepth 20000 in
theorem ggX6_moveTo_X6_throwing : GoodIn wsX6_moveTo wsX6_throwing := goodIn_r _ [10, 1, 21, 22, 23, 24, 25, 26, 27, 28, 29, 30, 31, 32, 33, 34, 35, 36, 37] (by decide +kernel) (by decide +kernel)
set_option maxRecDepth 20000 in
theorem gX6_moveTo_X6_throwing : GoodIn wsX6_moveTo (wsV RX6 182 RX6 yX6_throwing wsX6_throwing) := goodIn_app (goodIn_of _ (by decide +kernel)) ggX6_moveTo_X6_throwing
set_option maxRecDepth 20000 in
theorem ggX6_moveTo_X6_save : GoodIn wsX6_moveTo wsX6_save := goodIn_r _ [14, 15, 16, 2, 21, 22, 23, 24, 25, 26, 27, 28, 29, 30, 31, 32, 33, 34, 35, 36, 37] (by decide +kernel) (by decide +kernel)
set_option maxRecDepth 20000 in
theorem gX6_moveTo_X6_save : GoodIn wsX6_moveTo (wsV RX6 185 RX6 yX6_save wsX6_save) := goodIn_app (goodIn_of _ (by decide +kernel)) ggX6_moveTo_X6_save
set_option maxRecDepth 20000 in
theorem ggX6_moveTo_X6_closeQuestion : GoodIn wsX6_moveTo wsX6_closeQuestion := goodIn_r _ [20, 2, 21, 22, 23, 24, 25, 26, 27, 28, 29, 30, 31, 32, 33, 34, 35, 36, 37] (by decide +kernel) (by decide +kernel)
set_option maxRecDepth 20000 in
theorem gX6_moveTo_X6_closeQuestion : GoodIn wsX6_moveTo (wsV RX6 170 RX6 yX6_closeQuestion wsX6_closeQuestion) := goodIn_app (goodIn_of _ (by decide +kernel)) ggX6_moveTo_X6_closeQuestion
theorem dX6_moveTo_0 : decode cX6_moveTo 0 = .ok (.aload_n 0, 1) := by decide +kernel
theorem dX6_moveTo_1 : decode cX6_moveTo 1 = .ok (.iconst 0, 1) := by decide +kernel
theorem dX6_moveTo_2 : decode cX6_moveTo 2 = .ok (.putfield 31, 3) := by decide +kernel
theorem dX6_moveTo_5 : decode cX6_moveTo 5 = .ok (.iload_n 1, 1) := by decide +kernel
theorem dX6_moveTo_6 : decode cX6_moveTo 6 = .ok (.iconst 0, 1) := by decide +kernel
theorem dX6_moveTo_7 : decode cX6_moveTo 7 = .ok (.iconst 3, 1) := by decide +kernel
theorem dX6_moveTo_8 : decode cX6_moveTo 8 = .ok (.invokestatic 38, 3) := by decide +kernel
theorem dX6_moveTo_11 : decode cX6_moveTo 11 = .ok (.ifCond .ne 9, 3) := by decide +kernel
theorem dX6_moveTo_14 : decode cX6_moveTo 14 = .ok (.aload_n 0, 1) := by decide +kernel
theorem dX6_moveTo_15 : decode cX6_moveTo 15 = .ok (.iconst 1, 1) := by decide +kernel
theorem dX6_moveTo_16 : decode cX6_moveTo 16 = .ok (.invokevirtual 182, 3) := by decide +kernel
theorem dX6_moveTo_19 : decode cX6_moveTo 19 = .ok (.ireturn, 1) := by decide +kernel
theorem dX6_moveTo_20 : decode cX6_moveTo 20 = .ok (.aload_n 0, 1) := by decide +kernel
theorem dX6_moveTo_21 : decode cX6_moveTo 21 = .ok (.invokevirtual 185, 3) := by decide +kernel
theorem dX6_moveTo_24 : decode cX6_moveTo 24 = .ok (.aload_n 0, 1) := by decide +kernel
theorem dX6_moveTo_25 : decode cX6_moveTo 25 = .ok (.invokevirtual 170, 3) := by decide +kernel
theorem dX6_moveTo_28 : decode cX6_moveTo 28 = .ok (.aload_n 0, 1) := by decide +kernel
theorem dX6_moveTo_29 : decode cX6_moveTo 29 = .ok (.getfield 16, 3) := by decide +kernel
theorem dX6_moveTo_32 : decode cX6_moveTo 32 = .ok (.bipush 49, 2) := by decide +kernel
theorem dX6_moveTo_34 : decode cX6_moveTo 34 = .ok (.iaload, 1) := by decide +kernel
theorem dX6_moveTo_35 : decode cX6_moveTo 35 = .ok (.istore_n 2, 1) := by decide +kernel
theorem dX6_moveTo_36 : decode cX6_moveTo 36 = .ok (.aload_n 0, 1) := by decide +kernel
theorem dX6_moveTo_37 : decode cX6_moveTo 37 = .ok (.getfield 16, 3) := by decide +kernel
theorem dX6_moveTo_40 : decode cX6_moveTo 40 = .ok (.bipush 49, 2) := by decide +kernel
theorem dX6_moveTo_42 : decode cX6_moveTo 42 = .ok (.iload_n 1, 1) := by decide +kernel
theorem dX6_moveTo_43 : decode cX6_moveTo 43 = .ok (.iastore, 1) := by decide +kernel
theorem dX6_moveTo_44 : decode cX6_moveTo 44 = .ok (.iload_n 2, 1) := by decide +kernel
theorem dX6_moveTo_45 : decode cX6_moveTo 45 = .ok (.ireturn, 1) := by decide +kernel
theorem dX6_objects_0 : decode cX6_objects 0 = .ok (.aload_n 0, 1) := by decide +kernel
theorem dX6_objects_1 : decode cX6_objects 1 = .ok (.iconst 0, 1) := by decide +kernel
theorem dX6_objects_2 : decode cX6_objects 2 = .ok (.putfield 31, 3) := by decide +kernel
theorem dX6_objects_5 : decode cX6_objects 5 = .ok (.aload_n 0, 1) := by decide +kernel
theorem dX6_objects_6 : decode cX6_objects 6 = .ok (.getfield 16, 3) := by decide +kernel
theorem dX6_objects_9 : decode cX6_objects 9 = .ok (.iconst 0, 1) := by decide +kernel
theorem dX6_objects_10 : decode cX6_objects 10 = .ok (.iaload, 1) := by decide +kernel
theorem dX6_objects_11 : decode cX6_objects 11 = .ok (.ireturn, 1) := by decide +kernel
set_option maxRecDepth 20000 in
theorem ggX6_told_X6_isObject : GoodIn wsX6_told wsX6_isObject := goodIn_r _ [6, 7, 8, 9, 5, 10, 19, 20, 21, 22, 23, 24, 25, 26, 27, 28, 29, 30, 31, 32, 33, 34, 35] (by decide +kernel) (by decide +kernel)
set_option maxRecDepth 20000 in
theorem gX6_told_X6_isObject : GoodIn wsX6_told (wsV RX6 188 RX6 yX6_isObject wsX6_isObject) := goodIn_app (goodIn_of _ (by decide +kernel)) ggX6_told_X6_isObject
set_option maxRecDepth 20000 in
theorem ggX6_told_X6_of : GoodIn wsX6_told wsX6_of := goodIn_r _ [14, 7, 19, 20, 21, 22, 23, 24, 25, 26, 27, 28, 29, 30, 31, 32, 33, 34, 35] (by decide +kernel) (by decide +kernel)
set_option maxRecDepth 20000 in
theorem gX6_told_X6_of : GoodIn wsX6_told (wsV RX6 42 RX6 yX6_of wsX6_of) := goodIn_app (goodIn_of _ (by decide +kernel)) ggX6_told_X6_of
set_option maxRecDepth 20000 in
theorem ggX6_told_X6_throwing : GoodIn wsX6_told wsX6_throwing := goodIn_r _ [18, 1, 19, 20, 21, 22, 23, 24, 25, 26, 27, 28, 29, 30, 31, 32, 33, 34, 35] (by decide +kernel) (by decide +kernel)
set_option maxRecDepth 20000 in
theorem gX6_told_X6_throwing : GoodIn wsX6_told (wsV RX6 182 RX6 yX6_throwing wsX6_throwing) := goodIn_app (goodIn_of _ (by decide +kernel)) ggX6_told_X6_throwing
theorem dX6_told_0 : decode cX6_told 0 = .ok (.aload_n 0, 1) := by decide +kernel
theorem dX6_told_1 : decode cX6_told 1 = .ok (.iconst 0, 1) := by decide +kernel
theorem dX6_told_2 : decode cX6_told 2 = .ok (.putfield 31, 3) := by decide +kernel
theorem dX6_told_5 : decode cX6_told 5 = .ok (.aload_n 0, 1) := by decide +kernel
theorem dX6_told_6 : decode cX6_told 6 = .ok (.iload_n 1, 1) := by decide +kernel
theorem dX6_told_7 : decode cX6_told 7 = .ok (.invokevirtual 188, 3) := by decide +kernel
theorem dX6_told_10 : decode cX6_told 10 = .ok (.ifCond .eq 12, 3) := by decide +kernel
theorem dX6_told_13 : decode cX6_told 13 = .ok (.aload_n 0, 1) := by decide +kernel
theorem dX6_told_14 : decode cX6_told 14 = .ok (.iload_n 1, 1) := by decide +kernel
theorem dX6_told_15 : decode cX6_told 15 = .ok (.iload_n 2, 1) := by decide +kernel
theorem dX6_told_16 : decode cX6_told 16 = .ok (.invokevirtual 42, 3) := by decide +kernel
theorem dX6_told_19 : decode cX6_told 19 = .ok (.goto 8, 3) := by decide +kernel
theorem dX6_told_22 : decode cX6_told 22 = .ok (.aload_n 0, 1) := by decide +kernel
theorem dX6_told_23 : decode cX6_told 23 = .ok (.iconst 1, 1) := by decide +kernel
theorem dX6_told_24 : decode cX6_told 24 = .ok (.invokevirtual 182, 3) := by decide +kernel
theorem dX6_told_27 : decode cX6_told 27 = .ok (.ireturn, 1) := by decide +kernel
set_option maxRecDepth 20000 in
theorem ggX6_noun_X6_told : GoodIn wsX6_noun wsX6_told := goodIn_r _ [5, 6, 7, 8, 9, 4, 10, 11, 12, 13, 14, 15, 16, 17, 18, 19, 20, 21, 22, 23, 24, 25, 26, 27, 28, 29, 30, 31, 32, 33, 34, 35, 36, 37, 38, 39] (by decide +kernel) (by decide +kernel)
set_option maxRecDepth 20000 in
theorem gX6_noun_X6_told : GoodIn wsX6_noun (wsV RX6 191 RX6 yX6_told wsX6_told) := goodIn_app (goodIn_of _ (by decide +kernel)) ggX6_noun_X6_told
theorem dX6_noun_0 : decode cX6_noun 0 = .ok (.aload_n 0, 1) := by decide +kernel
theorem dX6_noun_1 : decode cX6_noun 1 = .ok (.iload_n 1, 1) := by decide +kernel
theorem dX6_noun_2 : decode cX6_noun 2 = .ok (.iconst 0, 1) := by decide +kernel
theorem dX6_noun_3 : decode cX6_noun 3 = .ok (.invokevirtual 191, 3) := by decide +kernel
theorem dX6_noun_6 : decode cX6_noun 6 = .ok (.ireturn, 1) := by decide +kernel
set_option maxRecDepth 20000 in
theorem ggX6_adjective_X6_told : GoodIn wsX6_adjective wsX6_told := goodIn_r _ [5, 6, 7, 8, 9, 4, 10, 11, 12, 13, 14, 15, 16, 17, 18, 19, 20, 21, 22, 23, 24, 25, 26, 27, 28, 29, 30, 31, 32, 33, 34, 35, 36, 37, 38, 39] (by decide +kernel) (by decide +kernel)
set_option maxRecDepth 20000 in
theorem gX6_adjective_X6_told : GoodIn wsX6_adjective (wsV RX6 191 RX6 yX6_told wsX6_told) := goodIn_app (goodIn_of _ (by decide +kernel)) ggX6_adjective_X6_told
theorem dX6_adjective_0 : decode cX6_adjective 0 = .ok (.aload_n 0, 1) := by decide +kernel
theorem dX6_adjective_1 : decode cX6_adjective 1 = .ok (.iload_n 1, 1) := by decide +kernel
theorem dX6_adjective_2 : decode cX6_adjective 2 = .ok (.iconst 1, 1) := by decide +kernel
theorem dX6_adjective_3 : decode cX6_adjective 3 = .ok (.invokevirtual 191, 3) := by decide +kernel
theorem dX6_adjective_6 : decode cX6_adjective 6 = .ok (.ireturn, 1) := by decide +kernel
set_option maxRecDepth 20000 in
theorem ggX6_place_X6_told : GoodIn wsX6_place wsX6_told := goodIn_r _ [5, 6, 7, 8, 9, 4, 10, 11, 12, 13, 14, 15, 16, 17, 18, 19, 20, 21, 22, 23, 24, 25, 26, 27, 28, 29, 30, 31, 32, 33, 34, 35, 36, 37, 38, 39] (by decide +kernel) (by decide +kernel)
set_option maxRecDepth 20000 in
theorem gX6_place_X6_told : GoodIn wsX6_place (wsV RX6 191 RX6 yX6_told wsX6_told) := goodIn_app (goodIn_of _ (by decide +kernel)) ggX6_place_X6_told
theorem dX6_place_0 : decode cX6_place 0 = .ok (.aload_n 0, 1) := by decide +kernel
theorem dX6_place_1 : decode cX6_place 1 = .ok (.iload_n 1, 1) := by decide +kernel
theorem dX6_place_2 : decode cX6_place 2 = .ok (.iconst 2, 1) := by decide +kernel
theorem dX6_place_3 : decode cX6_place 3 = .ok (.invokevirtual 191, 3) := by decide +kernel
theorem dX6_place_6 : decode cX6_place 6 = .ok (.ireturn, 1) := by decide +kernel
set_option maxRecDepth 20000 in
theorem ggX6_isOpen_X6_told : GoodIn wsX6_isOpen wsX6_told := goodIn_r _ [5, 6, 7, 8, 9, 4, 10, 11, 12, 13, 14, 15, 16, 17, 18, 19, 20, 21, 22, 23, 24, 25, 26, 27, 28, 29, 30, 31, 32, 33, 34, 35, 36, 37, 38, 39] (by decide +kernel) (by decide +kernel)
set_option maxRecDepth 20000 in
theorem gX6_isOpen_X6_told : GoodIn wsX6_isOpen (wsV RX6 191 RX6 yX6_told wsX6_told) := goodIn_app (goodIn_of _ (by decide +kernel)) ggX6_isOpen_X6_told
theorem dX6_isOpen_0 : decode cX6_isOpen 0 = .ok (.aload_n 0, 1) := by decide +kernel
theorem dX6_isOpen_1 : decode cX6_isOpen 1 = .ok (.iload_n 1, 1) := by decide +kernel
theorem dX6_isOpen_2 : decode cX6_isOpen 2 = .ok (.iconst 3, 1) := by decide +kernel
theorem dX6_isOpen_3 : decode cX6_isOpen 3 = .ok (.invokevirtual 191, 3) := by decide +kernel
theorem dX6_isOpen_6 : decode cX6_isOpen 6 = .ok (.iconst 1, 1) := by decide +kernel
theorem dX6_isOpen_7 : decode cX6_isOpen 7 = .ok (.if_icmp .ne 7, 3) := by decide +kernel
theorem dX6_isOpen_10 : decode cX6_isOpen 10 = .ok (.iconst 1, 1) := by decide +kernel
theorem dX6_isOpen_11 : decode cX6_isOpen 11 = .ok (.goto 4, 3) := by decide +kernel
theorem dX6_isOpen_14 : decode cX6_isOpen 14 = .ok (.iconst 0, 1) := by decide +kernel
theorem dX6_isOpen_15 : decode cX6_isOpen 15 = .ok (.ireturn, 1) := by decide +kernel
set_option maxRecDepth 20000 in
theorem ggX6_objectsAt_X6_in : GoodIn wsX6_objectsAt wsX6_in := goodIn_r _ [5] (by decide +kernel) (by decide +kernel)
set_option maxRecDepth 20000 in
theorem gX6_objectsAt_X6_in : GoodIn wsX6_objectsAt (va_wsS RX6 38 yX6_in wsX6_in) := goodIn_app (goodIn_of _ (by decide +kernel)) ggX6_objectsAt_X6_in
set_option maxRecDepth 20000 in
theorem ggX6_objectsAt_X6_at : GoodIn wsX6_objectsAt wsX6_at := goodIn_r _ [9, 10, 11, 12, 13, 4, 14, 19, 20, 21, 22, 23, 24, 25, 26, 27, 28, 29, 30, 31, 32, 33, 34, 35] (by decide +kernel) (by decide +kernel)
set_option maxRecDepth 20000 in
theorem gX6_objectsAt_X6_at : GoodIn wsX6_objectsAt (wsV RX6 150 RX6 yX6_at wsX6_at) := goodIn_app (goodIn_of _ (by decide +kernel)) ggX6_objectsAt_X6_at
set_option maxRecDepth 20000 in
theorem ggX6_objectsAt_X6_throwing : GoodIn wsX6_objectsAt wsX6_throwing := goodIn_r _ [18, 1, 19, 20, 21, 22, 23, 24, 25, 26, 27, 28, 29, 30, 31, 32, 33, 34, 35] (by decide +kernel) (by decide +kernel)
set_option maxRecDepth 20000 in
theorem gX6_objectsAt_X6_throwing : GoodIn wsX6_objectsAt (wsV RX6 182 RX6 yX6_throwing wsX6_throwing) := goodIn_app (goodIn_of _ (by decide +kernel)) ggX6_objectsAt_X6_throwing
theorem dX6_objectsAt_0 : decode cX6_objectsAt 0 = .ok (.aload_n 0, 1) := by decide +kernel
theorem dX6_objectsAt_1 : decode cX6_objectsAt 1 = .ok (.iconst 0, 1) := by decide +kernel
theorem dX6_objectsAt_2 : decode cX6_objectsAt 2 = .ok (.putfield 31, 3) := by decide +kernel
theorem dX6_objectsAt_5 : decode cX6_objectsAt 5 = .ok (.iload_n 1, 1) := by decide +kernel
theorem dX6_objectsAt_6 : decode cX6_objectsAt 6 = .ok (.iconst 0, 1) := by decide +kernel
theorem dX6_objectsAt_7 : decode cX6_objectsAt 7 = .ok (.bipush 16, 2) := by decide +kernel
theorem dX6_objectsAt_9 : decode cX6_objectsAt 9 = .ok (.invokestatic 38, 3) := by decide +kernel
theorem dX6_objectsAt_12 : decode cX6_objectsAt 12 = .ok (.ifCond .eq 11, 3) := by decide +kernel
theorem dX6_objectsAt_15 : decode cX6_objectsAt 15 = .ok (.aload_n 0, 1) := by decide +kernel
theorem dX6_objectsAt_16 : decode cX6_objectsAt 16 = .ok (.iload_n 1, 1) := by decide +kernel
theorem dX6_objectsAt_17 : decode cX6_objectsAt 17 = .ok (.invokevirtual 150, 3) := by decide +kernel
theorem dX6_objectsAt_20 : decode cX6_objectsAt 20 = .ok (.goto 8, 3) := by decide +kernel
theorem dX6_objectsAt_23 : decode cX6_objectsAt 23 = .ok (.aload_n 0, 1) := by decide +kernel
theorem dX6_objectsAt_24 : decode cX6_objectsAt 24 = .ok (.iconst 1, 1) := by decide +kernel
theorem dX6_objectsAt_25 : decode cX6_objectsAt 25 = .ok (.invokevirtual 182, 3) := by decide +kernel
theorem dX6_objectsAt_28 : decode cX6_objectsAt 28 = .ok (.ireturn, 1) := by decide +kernel
theorem dX6_room_0 : decode cX6_room 0 = .ok (.aload_n 0, 1) := by decide +kernel
theorem dX6_room_1 : decode cX6_room 1 = .ok (.iconst 0, 1) := by decide +kernel
theorem dX6_room_2 : decode cX6_room 2 = .ok (.putfield 31, 3) := by decide +kernel
theorem dX6_room_5 : decode cX6_room 5 = .ok (.aload_n 0, 1) := by decide +kernel
theorem dX6_room_6 : decode cX6_room 6 = .ok (.getfield 16, 3) := by decide +kernel
theorem dX6_room_9 : decode cX6_room 9 = .ok (.bipush 49, 2) := by decide +kernel
theorem dX6_room_11 : decode cX6_room 11 = .ok (.iaload, 1) := by decide +kernel
theorem dX6_room_12 : decode cX6_room 12 = .ok (.ireturn, 1) := by decide +kernel
set_option maxRecDepth 20000 in
theorem ggX6_visible_X6_visibleOnes : GoodIn wsX6_visible wsX6_visibleOnes := goodIn_r _ [6, 7, 8, 9, 10, 5, 11, 12, 13, 14, 15, 16, 17, 18, 19, 20, 21, 22, 23, 24, 25, 26, 27, 28, 29, 30, 31, 32, 33, 34, 35, 36] (by decide +kernel) (by decide +kernel)
set_option maxRecDepth 20000 in
theorem gX6_visible_X6_visibleOnes : GoodIn wsX6_visible (wsV RX6 124 RX6 yX6_visibleOnes wsX6_visibleOnes) := goodIn_app (goodIn_of _ (by decide +kernel)) ggX6_visible_X6_visibleOnes
theorem dX6_visible_0 : decode cX6_visible 0 = .ok (.aload_n 0, 1) := by decide +kernel
theorem dX6_visible_1 : decode cX6_visible 1 = .ok (.iconst 0, 1) := by decide +kernel
theorem dX6_visible_2 : decode cX6_visible 2 = .ok (.putfield 31, 3) := by decide +kernel
theorem dX6_visible_5 : decode cX6_visible 5 = .ok (.aload_n 0, 1) := by decide +kernel
theorem dX6_visible_6 : decode cX6_visible 6 = .ok (.invokevirtual 124, 3) := by decide +kernel
theorem dX6_visible_9 : decode cX6_visible 9 = .ok (.ireturn, 1) := by decide +kernel
set_option maxRecDepth 20000 in
theorem ggX6_suitable_X6_in : GoodIn wsX6_suitable wsX6_in := goodIn_r _ [5] (by decide +kernel) (by decide +kernel)
set_option maxRecDepth 20000 in
theorem gX6_suitable_X6_in : GoodIn wsX6_suitable (va_wsS RX6 38 yX6_in wsX6_in) := goodIn_app (goodIn_of _ (by decide +kernel)) ggX6_suitable_X6_in
set_option maxRecDepth 20000 in
theorem ggX6_suitable_X6_suitableOnes : GoodIn wsX6_suitable wsX6_suitableOnes := goodIn_r _ [9, 10, 11, 12, 13, 4, 14, 15, 16, 17, 18, 19, 20, 21, 22, 23, 24, 25, 26, 27, 28, 29, 30, 31, 32, 33, 34, 39, 40, 41, 42, 43, 44, 45, 46, 47, 48, 49, 50, 51, 52, 53, 54, 55] (by decide +kernel) (by decide +kernel)
set_option maxRecDepth 20000 in
theorem gX6_suitable_X6_suitableOnes : GoodIn wsX6_suitable (wsV RX6 128 RX6 yX6_suitableOnes wsX6_suitableOnes) := goodIn_app (goodIn_of _ (by decide +kernel)) ggX6_suitable_X6_suitableOnes
set_option maxRecDepth 20000 in
theorem ggX6_suitable_X6_throwing : GoodIn wsX6_suitable wsX6_throwing := goodIn_r _ [38, 1, 39, 40, 41, 42, 43, 44, 45, 46, 47, 48, 49, 50, 51, 52, 53, 54, 55] (by decide +kernel) (by decide +kernel)
set_option maxRecDepth 20000 in
theorem gX6_suitable_X6_throwing : GoodIn wsX6_suitable (wsV RX6 182 RX6 yX6_throwing wsX6_throwing) := goodIn_app (goodIn_of _ (by decide +kernel)) ggX6_suitable_X6_throwing
theorem dX6_suitable_0 : decode cX6_suitable 0 = .ok (.aload_n 0, 1) := by decide +kernel
theorem dX6_suitable_1 : decode cX6_suitable 1 = .ok (.iconst 0, 1) := by decide +kernel
theorem dX6_suitable_2 : decode cX6_suitable 2 = .ok (.putfield 31, 3) := by decide +kernel
theorem dX6_suitable_5 : decode cX6_suitable 5 = .ok (.iload_n 1, 1) := by decide +kernel
theorem dX6_suitable_6 : decode cX6_suitable 6 = .ok (.iconst 0, 1) := by decide +kernel
theorem dX6_suitable_7 : decode cX6_suitable 7 = .ok (.iconst 4, 1) := by decide +kernel
theorem dX6_suitable_8 : decode cX6_suitable 8 = .ok (.invokestatic 38, 3) := by decide +kernel
theorem dX6_suitable_11 : decode cX6_suitable 11 = .ok (.ifCond .eq 11, 3) := by decide +kernel
theorem dX6_suitable_14 : decode cX6_suitable 14 = .ok (.aload_n 0, 1) := by decide +kernel
theorem dX6_suitable_15 : decode cX6_suitable 15 = .ok (.iload_n 1, 1) := by decide +kernel
theorem dX6_suitable_16 : decode cX6_suitable 16 = .ok (.invokevirtual 128, 3) := by decide +kernel
theorem dX6_suitable_19 : decode cX6_suitable 19 = .ok (.goto 8, 3) := by decide +kernel
theorem dX6_suitable_22 : decode cX6_suitable 22 = .ok (.aload_n 0, 1) := by decide +kernel
theorem dX6_suitable_23 : decode cX6_suitable 23 = .ok (.iconst 1, 1) := by decide +kernel
theorem dX6_suitable_24 : decode cX6_suitable 24 = .ok (.invokevirtual 182, 3) := by decide +kernel
theorem dX6_suitable_27 : decode cX6_suitable 27 = .ok (.ireturn, 1) := by decide +kernel
set_option maxRecDepth 20000 in
theorem ggX6_fitting_X6_in : GoodIn wsX6_fitting wsX6_in := goodIn_r _ [5] (by decide +kernel) (by decide +kernel)
set_option maxRecDepth 20000 in
theorem gX6_fitting_X6_in : GoodIn wsX6_fitting (va_wsS RX6 38 yX6_in wsX6_in) := goodIn_app (goodIn_of _ (by decide +kernel)) ggX6_fitting_X6_in
set_option maxRecDepth 20000 in
theorem ggX6_fitting_X6_fittingOnes : GoodIn wsX6_fitting wsX6_fittingOnes := goodIn_r _ [9, 10, 11, 12, 13, 4, 14, 19, 20, 21, 22, 23, 24, 25, 26, 27, 28, 29, 30, 31, 32, 33, 34, 35] (by decide +kernel) (by decide +kernel)
set_option maxRecDepth 20000 in
theorem gX6_fitting_X6_fittingOnes : GoodIn wsX6_fitting (wsV RX6 121 RX6 yX6_fittingOnes wsX6_fittingOnes) := goodIn_app (goodIn_of _ (by decide +kernel)) ggX6_fitting_X6_fittingOnes
set_option maxRecDepth 20000 in
theorem ggX6_fitting_X6_throwing : GoodIn wsX6_fitting wsX6_throwing := goodIn_r _ [18, 1, 19, 20, 21, 22, 23, 24, 25, 26, 27, 28, 29, 30, 31, 32, 33, 34, 35] (by decide +kernel) (by decide +kernel)
set_option maxRecDepth 20000 in
theorem gX6_fitting_X6_throwing : GoodIn wsX6_fitting (wsV RX6 182 RX6 yX6_throwing wsX6_throwing) := goodIn_app (goodIn_of _ (by decide +kernel)) ggX6_fitting_X6_throwing
theorem dX6_fitting_0 : decode cX6_fitting 0 = .ok (.aload_n 0, 1) := by decide +kernel
theorem dX6_fitting_1 : decode cX6_fitting 1 = .ok (.iconst 0, 1) := by decide +kernel
theorem dX6_fitting_2 : decode cX6_fitting 2 = .ok (.putfield 31, 3) := by decide +kernel
theorem dX6_fitting_5 : decode cX6_fitting 5 = .ok (.iload_n 1, 1) := by decide +kernel
theorem dX6_fitting_6 : decode cX6_fitting 6 = .ok (.iconst 0, 1) := by decide +kernel
theorem dX6_fitting_7 : decode cX6_fitting 7 = .ok (.iconst 5, 1) := by decide +kernel
theorem dX6_fitting_8 : decode cX6_fitting 8 = .ok (.invokestatic 38, 3) := by decide +kernel
theorem dX6_fitting_11 : decode cX6_fitting 11 = .ok (.ifCond .eq 21, 3) := by decide +kernel
theorem dX6_fitting_14 : decode cX6_fitting 14 = .ok (.iload_n 2, 1) := by decide +kernel
theorem dX6_fitting_15 : decode cX6_fitting 15 = .ok (.iconst (-1), 1) := by decide +kernel
theorem dX6_fitting_16 : decode cX6_fitting 16 = .ok (.iconst 3, 1) := by decide +kernel
theorem dX6_fitting_17 : decode cX6_fitting 17 = .ok (.invokestatic 38, 3) := by decide +kernel
theorem dX6_fitting_20 : decode cX6_fitting 20 = .ok (.ifCond .eq 12, 3) := by decide +kernel
theorem dX6_fitting_23 : decode cX6_fitting 23 = .ok (.aload_n 0, 1) := by decide +kernel
theorem dX6_fitting_24 : decode cX6_fitting 24 = .ok (.iload_n 1, 1) := by decide +kernel
theorem dX6_fitting_25 : decode cX6_fitting 25 = .ok (.iload_n 2, 1) := by decide +kernel
theorem dX6_fitting_26 : decode cX6_fitting 26 = .ok (.invokevirtual 121, 3) := by decide +kernel
theorem dX6_fitting_29 : decode cX6_fitting 29 = .ok (.goto 8, 3) := by decide +kernel
theorem dX6_fitting_32 : decode cX6_fitting 32 = .ok (.aload_n 0, 1) := by decide +kernel
theorem dX6_fitting_33 : decode cX6_fitting 33 = .ok (.iconst 1, 1) := by decide +kernel
theorem dX6_fitting_34 : decode cX6_fitting 34 = .ok (.invokevirtual 182, 3) := by decide +kernel
theorem dX6_fitting_37 : decode cX6_fitting 37 = .ok (.ireturn, 1) := by decide +kernel
theorem dX6_candidates_0 : decode cX6_candidates 0 = .ok (.aload_n 0, 1) := by decide +kernel
theorem dX6_candidates_1 : decode cX6_candidates 1 = .ok (.iconst 0, 1) := by decide +kernel
theorem dX6_candidates_2 : decode cX6_candidates 2 = .ok (.putfield 31, 3) := by decide +kernel
theorem dX6_candidates_5 : decode cX6_candidates 5 = .ok (.aload_n 0, 1) := by decide +kernel
theorem dX6_candidates_6 : decode cX6_candidates 6 = .ok (.getfield 16, 3) := by decide +kernel
theorem dX6_candidates_9 : decode cX6_candidates 9 = .ok (.bipush 57, 2) := by decide +kernel
theorem dX6_candidates_11 : decode cX6_candidates 11 = .ok (.iaload, 1) := by decide +kernel
theorem dX6_candidates_12 : decode cX6_candidates 12 = .ok (.ireturn, 1) := by decide +kernel
theorem dX6_it_0 : decode cX6_it 0 = .ok (.aload_n 0, 1) := by decide +kernel
theorem dX6_it_1 : decode cX6_it 1 = .ok (.iconst 0, 1) := by decide +kernel
theorem dX6_it_2 : decode cX6_it 2 = .ok (.putfield 31, 3) := by decide +kernel
theorem dX6_it_5 : decode cX6_it 5 = .ok (.aload_n 0, 1) := by decide +kernel
theorem dX6_it_6 : decode cX6_it 6 = .ok (.getfield 16, 3) := by decide +kernel
theorem dX6_it_9 : decode cX6_it 9 = .ok (.bipush 50, 2) := by decide +kernel
theorem dX6_it_11 : decode cX6_it 11 = .ok (.iaload, 1) := by decide +kernel
theorem dX6_it_12 : decode cX6_it 12 = .ok (.ireturn, 1) := by decide +kernel
theorem dX6_them_0 : decode cX6_them 0 = .ok (.aload_n 0, 1) := by decide +kernel
theorem dX6_them_1 : decode cX6_them 1 = .ok (.iconst 0, 1) := by decide +kernel
theorem dX6_them_2 : decode cX6_them 2 = .ok (.putfield 31, 3) := by decide +kernel
theorem dX6_them_5 : decode cX6_them 5 = .ok (.aload_n 0, 1) := by decide +kernel
theorem dX6_them_6 : decode cX6_them 6 = .ok (.getfield 16, 3) := by decide +kernel
theorem dX6_them_9 : decode cX6_them 9 = .ok (.bipush 51, 2) := by decide +kernel
theorem dX6_them_11 : decode cX6_them 11 = .ok (.iaload, 1) := by decide +kernel
theorem dX6_them_12 : decode cX6_them 12 = .ok (.ireturn, 1) := by decide +kernel
set_option maxRecDepth 20000 in
theorem ggX6_append_X6_in : GoodIn wsX6_append wsX6_in := goodIn_r _ [7] (by decide +kernel) (by decide +kernel)
set_option maxRecDepth 20000 in
theorem gX6_append_X6_in : GoodIn wsX6_append (va_wsS RX6 38 yX6_in wsX6_in) := goodIn_app (goodIn_of _ (by decide +kernel)) ggX6_append_X6_in
set_option maxRecDepth 20000 in
theorem ggX6_append_X6_throwing : GoodIn wsX6_append wsX6_throwing := goodIn_r _ [11, 1, 12, 13, 14, 15, 16, 17, 18, 19, 20, 21, 22, 23, 24, 25, 26, 27, 28] (by decide +kernel) (by decide +kernel)
set_option maxRecDepth 20000 in
theorem gX6_append_X6_throwing : GoodIn wsX6_append (wsV RX6 182 RX6 yX6_throwing wsX6_throwing) := goodIn_app (goodIn_of _ (by decide +kernel)) ggX6_append_X6_throwing
theorem dX6_append_0 : decode cX6_append 0 = .ok (.aload_n 0, 1) := by decide +kernel
theorem dX6_append_1 : decode cX6_append 1 = .ok (.iconst 0, 1) := by decide +kernel
theorem dX6_append_2 : decode cX6_append 2 = .ok (.putfield 31, 3) := by decide +kernel
theorem dX6_append_5 : decode cX6_append 5 = .ok (.iload_n 1, 1) := by decide +kernel
theorem dX6_append_6 : decode cX6_append 6 = .ok (.bipush 32, 2) := by decide +kernel
theorem dX6_append_8 : decode cX6_append 8 = .ok (.bipush 126, 2) := by decide +kernel
theorem dX6_append_10 : decode cX6_append 10 = .ok (.invokestatic 38, 3) := by decide +kernel
theorem dX6_append_13 : decode cX6_append 13 = .ok (.ifCond .ne 9, 3) := by decide +kernel
theorem dX6_append_16 : decode cX6_append 16 = .ok (.aload_n 0, 1) := by decide +kernel
theorem dX6_append_17 : decode cX6_append 17 = .ok (.iconst 1, 1) := by decide +kernel
theorem dX6_append_18 : decode cX6_append 18 = .ok (.invokevirtual 182, 3) := by decide +kernel
theorem dX6_append_21 : decode cX6_append 21 = .ok (.ireturn, 1) := by decide +kernel
theorem dX6_append_22 : decode cX6_append 22 = .ok (.aload_n 0, 1) := by decide +kernel
theorem dX6_append_23 : decode cX6_append 23 = .ok (.getfield 91, 3) := by decide +kernel
theorem dX6_append_26 : decode cX6_append 26 = .ok (.bipush 60, 2) := by decide +kernel
theorem dX6_append_28 : decode cX6_append 28 = .ok (.if_icmp .ne 9, 3) := by decide +kernel
theorem dX6_append_31 : decode cX6_append 31 = .ok (.aload_n 0, 1) := by decide +kernel
theorem dX6_append_32 : decode cX6_append 32 = .ok (.iconst 2, 1) := by decide +kernel
theorem dX6_append_33 : decode cX6_append 33 = .ok (.invokevirtual 182, 3) := by decide +kernel
theorem dX6_append_36 : decode cX6_append 36 = .ok (.ireturn, 1) := by decide +kernel
theorem dX6_append_37 : decode cX6_append 37 = .ok (.aload_n 0, 1) := by decide +kernel
theorem dX6_append_38 : decode cX6_append 38 = .ok (.getfield 25, 3) := by decide +kernel
theorem dX6_append_41 : decode cX6_append 41 = .ok (.aload_n 0, 1) := by decide +kernel
theorem dX6_append_42 : decode cX6_append 42 = .ok (.getfield 91, 3) := by decide +kernel
theorem dX6_append_45 : decode cX6_append 45 = .ok (.iload_n 1, 1) := by decide +kernel
theorem dX6_append_46 : decode cX6_append 46 = .ok (.iastore, 1) := by decide +kernel
theorem dX6_append_47 : decode cX6_append 47 = .ok (.aload_n 0, 1) := by decide +kernel
theorem dX6_append_48 : decode cX6_append 48 = .ok (.dup, 1) := by decide +kernel
theorem dX6_append_49 : decode cX6_append 49 = .ok (.getfield 91, 3) := by decide +kernel
theorem dX6_append_52 : decode cX6_append 52 = .ok (.iconst 1, 1) := by decide +kernel
theorem dX6_append_53 : decode cX6_append 53 = .ok (.iadd, 1) := by decide +kernel
theorem dX6_append_54 : decode cX6_append 54 = .ok (.putfield 91, 3) := by decide +kernel
theorem dX6_append_57 : decode cX6_append 57 = .ok (.aload_n 0, 1) := by decide +kernel
theorem dX6_append_58 : decode cX6_append 58 = .ok (.getfield 91, 3) := by decide +kernel
theorem dX6_append_61 : decode cX6_append 61 = .ok (.ireturn, 1) := by decide +kernel
set_option maxRecDepth 20000 in
theorem ggX6_appendWord_X6_in : GoodIn wsX6_appendWord wsX6_in := goodIn_r _ [9] (by decide +kernel) (by decide +kernel)
set_option maxRecDepth 20000 in
theorem gX6_appendWord_X6_in : GoodIn wsX6_appendWord (va_wsS RX6 38 yX6_in wsX6_in) := goodIn_app (goodIn_of _ (by decide +kernel)) ggX6_appendWord_X6_in
set_option maxRecDepth 20000 in
theorem ggX6_appendWord_X6_throwing : GoodIn wsX6_appendWord wsX6_throwing := goodIn_r _ [13, 1, 18, 19, 20, 21, 22, 23, 24, 25, 26, 27, 28, 29, 30, 31, 32, 33, 34] (by decide +kernel) (by decide +kernel)
set_option maxRecDepth 20000 in
theorem gX6_appendWord_X6_throwing : GoodIn wsX6_appendWord (wsV RX6 182 RX6 yX6_throwing wsX6_throwing) := goodIn_app (goodIn_of _ (by decide +kernel)) ggX6_appendWord_X6_throwing
set_option maxRecDepth 20000 in
theorem ggX6_appendWord_X6_lengthOf : GoodIn wsX6_appendWord wsX6_lengthOf := goodIn_r _ [17, 4, 18, 19, 20, 21, 22, 23, 24, 25, 26, 27, 28, 29, 30, 31, 32, 33, 34] (by decide +kernel) (by decide +kernel)
set_option maxRecDepth 20000 in
theorem gX6_appendWord_X6_lengthOf : GoodIn wsX6_appendWord (wsV RX6 77 RX6 yX6_lengthOf wsX6_lengthOf) := goodIn_app (goodIn_of _ (by decide +kernel)) ggX6_appendWord_X6_lengthOf
theorem dX6_appendWord_0 : decode cX6_appendWord 0 = .ok (.aload_n 0, 1) := by decide +kernel
theorem dX6_appendWord_1 : decode cX6_appendWord 1 = .ok (.iconst 0, 1) := by decide +kernel
theorem dX6_appendWord_2 : decode cX6_appendWord 2 = .ok (.putfield 31, 3) := by decide +kernel
theorem dX6_appendWord_5 : decode cX6_appendWord 5 = .ok (.iload_n 1, 1) := by decide +kernel
theorem dX6_appendWord_6 : decode cX6_appendWord 6 = .ok (.iconst 0, 1) := by decide +kernel
theorem dX6_appendWord_7 : decode cX6_appendWord 7 = .ok (.bipush 24, 2) := by decide +kernel
theorem dX6_appendWord_9 : decode cX6_appendWord 9 = .ok (.invokestatic 38, 3) := by decide +kernel
theorem dX6_appendWord_12 : decode cX6_appendWord 12 = .ok (.ifCond .ne 9, 3) := by decide +kernel
theorem dX6_appendWord_15 : decode cX6_appendWord 15 = .ok (.aload_n 0, 1) := by decide +kernel
theorem dX6_appendWord_16 : decode cX6_appendWord 16 = .ok (.iconst 1, 1) := by decide +kernel
theorem dX6_appendWord_17 : decode cX6_appendWord 17 = .ok (.invokevirtual 182, 3) := by decide +kernel
theorem dX6_appendWord_20 : decode cX6_appendWord 20 = .ok (.ireturn, 1) := by decide +kernel
theorem dX6_appendWord_21 : decode cX6_appendWord 21 = .ok (.aload_n 0, 1) := by decide +kernel
theorem dX6_appendWord_22 : decode cX6_appendWord 22 = .ok (.getfield 91, 3) := by decide +kernel
theorem dX6_appendWord_25 : decode cX6_appendWord 25 = .ok (.ifCond .le 23, 3) := by decide +kernel
theorem dX6_appendWord_28 : decode cX6_appendWord 28 = .ok (.aload_n 0, 1) := by decide +kernel
theorem dX6_appendWord_29 : decode cX6_appendWord 29 = .ok (.getfield 25, 3) := by decide +kernel
theorem dX6_appendWord_32 : decode cX6_appendWord 32 = .ok (.aload_n 0, 1) := by decide +kernel
theorem dX6_appendWord_33 : decode cX6_appendWord 33 = .ok (.getfield 91, 3) := by decide +kernel
theorem dX6_appendWord_36 : decode cX6_appendWord 36 = .ok (.iconst 1, 1) := by decide +kernel
theorem dX6_appendWord_37 : decode cX6_appendWord 37 = .ok (.isub, 1) := by decide +kernel
theorem dX6_appendWord_38 : decode cX6_appendWord 38 = .ok (.iaload, 1) := by decide +kernel
theorem dX6_appendWord_39 : decode cX6_appendWord 39 = .ok (.bipush 32, 2) := by decide +kernel
theorem dX6_appendWord_41 : decode cX6_appendWord 41 = .ok (.if_icmp .eq 7, 3) := by decide +kernel
theorem dX6_appendWord_44 : decode cX6_appendWord 44 = .ok (.iconst 1, 1) := by decide +kernel
theorem dX6_appendWord_45 : decode cX6_appendWord 45 = .ok (.goto 4, 3) := by decide +kernel
theorem dX6_appendWord_48 : decode cX6_appendWord 48 = .ok (.iconst 0, 1) := by decide +kernel
theorem dX6_appendWord_49 : decode cX6_appendWord 49 = .ok (.istore_n 2, 1) := by decide +kernel
theorem dX6_appendWord_50 : decode cX6_appendWord 50 = .ok (.aload_n 0, 1) := by decide +kernel
theorem dX6_appendWord_51 : decode cX6_appendWord 51 = .ok (.getfield 91, 3) := by decide +kernel
theorem dX6_appendWord_54 : decode cX6_appendWord 54 = .ok (.iload_n 2, 1) := by decide +kernel
theorem dX6_appendWord_55 : decode cX6_appendWord 55 = .ok (.ifCond .eq 7, 3) := by decide +kernel
theorem dX6_appendWord_58 : decode cX6_appendWord 58 = .ok (.iconst 1, 1) := by decide +kernel
theorem dX6_appendWord_59 : decode cX6_appendWord 59 = .ok (.goto 4, 3) := by decide +kernel
theorem dX6_appendWord_62 : decode cX6_appendWord 62 = .ok (.iconst 0, 1) := by decide +kernel
theorem dX6_appendWord_63 : decode cX6_appendWord 63 = .ok (.iadd, 1) := by decide +kernel
theorem dX6_appendWord_64 : decode cX6_appendWord 64 = .ok (.aload_n 0, 1) := by decide +kernel
theorem dX6_appendWord_65 : decode cX6_appendWord 65 = .ok (.iload_n 1, 1) := by decide +kernel
theorem dX6_appendWord_66 : decode cX6_appendWord 66 = .ok (.invokevirtual 77, 3) := by decide +kernel
theorem dX6_appendWord_69 : decode cX6_appendWord 69 = .ok (.iadd, 1) := by decide +kernel
theorem dX6_appendWord_70 : decode cX6_appendWord 70 = .ok (.bipush 60, 2) := by decide +kernel
theorem dX6_appendWord_72 : decode cX6_appendWord 72 = .ok (.if_icmp .le 9, 3) := by decide +kernel
theorem dX6_appendWord_75 : decode cX6_appendWord 75 = .ok (.aload_n 0, 1) := by decide +kernel
theorem dX6_appendWord_76 : decode cX6_appendWord 76 = .ok (.iconst 2, 1) := by decide +kernel
theorem dX6_appendWord_77 : decode cX6_appendWord 77 = .ok (.invokevirtual 182, 3) := by decide +kernel
theorem dX6_appendWord_80 : decode cX6_appendWord 80 = .ok (.ireturn, 1) := by decide +kernel
theorem dX6_appendWord_81 : decode cX6_appendWord 81 = .ok (.iload_n 2, 1) := by decide +kernel
theorem dX6_appendWord_82 : decode cX6_appendWord 82 = .ok (.ifCond .eq 24, 3) := by decide +kernel
theorem dX6_appendWord_85 : decode cX6_appendWord 85 = .ok (.aload_n 0, 1) := by decide +kernel
theorem dX6_appendWord_86 : decode cX6_appendWord 86 = .ok (.getfield 25, 3) := by decide +kernel
theorem dX6_appendWord_89 : decode cX6_appendWord 89 = .ok (.aload_n 0, 1) := by decide +kernel
theorem dX6_appendWord_90 : decode cX6_appendWord 90 = .ok (.getfield 91, 3) := by decide +kernel
theorem dX6_appendWord_93 : decode cX6_appendWord 93 = .ok (.bipush 32, 2) := by decide +kernel
theorem dX6_appendWord_95 : decode cX6_appendWord 95 = .ok (.iastore, 1) := by decide +kernel
theorem dX6_appendWord_96 : decode cX6_appendWord 96 = .ok (.aload_n 0, 1) := by decide +kernel
theorem dX6_appendWord_97 : decode cX6_appendWord 97 = .ok (.dup, 1) := by decide +kernel
theorem dX6_appendWord_98 : decode cX6_appendWord 98 = .ok (.getfield 91, 3) := by decide +kernel
theorem dX6_appendWord_101 : decode cX6_appendWord 101 = .ok (.iconst 1, 1) := by decide +kernel
theorem dX6_appendWord_102 : decode cX6_appendWord 102 = .ok (.iadd, 1) := by decide +kernel
theorem dX6_appendWord_103 : decode cX6_appendWord 103 = .ok (.putfield 91, 3) := by decide +kernel
theorem dX6_appendWord_106 : decode cX6_appendWord 106 = .ok (.aload_n 0, 1) := by decide +kernel
theorem dX6_appendWord_107 : decode cX6_appendWord 107 = .ok (.getfield 13, 3) := by decide +kernel
theorem dX6_appendWord_110 : decode cX6_appendWord 110 = .ok (.iload_n 1, 1) := by decide +kernel
theorem dX6_appendWord_111 : decode cX6_appendWord 111 = .ok (.iaload, 1) := by decide +kernel
theorem dX6_appendWord_112 : decode cX6_appendWord 112 = .ok (.istore_n 3, 1) := by decide +kernel
theorem dX6_appendWord_113 : decode cX6_appendWord 113 = .ok (.iload_n 3, 1) := by decide +kernel
theorem dX6_appendWord_114 : decode cX6_appendWord 114 = .ok (.aload_n 0, 1) := by decide +kernel
theorem dX6_appendWord_115 : decode cX6_appendWord 115 = .ok (.getfield 13, 3) := by decide +kernel
theorem dX6_appendWord_118 : decode cX6_appendWord 118 = .ok (.iload_n 1, 1) := by decide +kernel
theorem dX6_appendWord_119 : decode cX6_appendWord 119 = .ok (.iconst 1, 1) := by decide +kernel
theorem dX6_appendWord_120 : decode cX6_appendWord 120 = .ok (.iadd, 1) := by decide +kernel
theorem dX6_appendWord_121 : decode cX6_appendWord 121 = .ok (.iaload, 1) := by decide +kernel
theorem dX6_appendWord_122 : decode cX6_appendWord 122 = .ok (.if_icmp .ge 34, 3) := by decide +kernel
theorem dX6_appendWord_125 : decode cX6_appendWord 125 = .ok (.aload_n 0, 1) := by decide +kernel
theorem dX6_appendWord_126 : decode cX6_appendWord 126 = .ok (.getfield 25, 3) := by decide +kernel
theorem dX6_appendWord_129 : decode cX6_appendWord 129 = .ok (.aload_n 0, 1) := by decide +kernel
theorem dX6_appendWord_130 : decode cX6_appendWord 130 = .ok (.getfield 91, 3) := by decide +kernel
theorem dX6_appendWord_133 : decode cX6_appendWord 133 = .ok (.aload_n 0, 1) := by decide +kernel
theorem dX6_appendWord_134 : decode cX6_appendWord 134 = .ok (.getfield 7, 3) := by decide +kernel
theorem dX6_appendWord_137 : decode cX6_appendWord 137 = .ok (.iload_n 3, 1) := by decide +kernel
theorem dX6_appendWord_138 : decode cX6_appendWord 138 = .ok (.iaload, 1) := by decide +kernel
theorem dX6_appendWord_139 : decode cX6_appendWord 139 = .ok (.iastore, 1) := by decide +kernel
theorem dX6_appendWord_140 : decode cX6_appendWord 140 = .ok (.aload_n 0, 1) := by decide +kernel
theorem dX6_appendWord_141 : decode cX6_appendWord 141 = .ok (.dup, 1) := by decide +kernel
theorem dX6_appendWord_142 : decode cX6_appendWord 142 = .ok (.getfield 91, 3) := by decide +kernel
theorem dX6_appendWord_145 : decode cX6_appendWord 145 = .ok (.iconst 1, 1) := by decide +kernel
theorem dX6_appendWord_146 : decode cX6_appendWord 146 = .ok (.iadd, 1) := by decide +kernel
theorem dX6_appendWord_147 : decode cX6_appendWord 147 = .ok (.putfield 91, 3) := by decide +kernel
theorem dX6_appendWord_150 : decode cX6_appendWord 150 = .ok (.iinc 3 1, 3) := by decide +kernel
theorem dX6_appendWord_153 : decode cX6_appendWord 153 = .ok (.goto (-40), 3) := by decide +kernel
theorem dX6_appendWord_156 : decode cX6_appendWord 156 = .ok (.aload_n 0, 1) := by decide +kernel
theorem dX6_appendWord_157 : decode cX6_appendWord 157 = .ok (.getfield 91, 3) := by decide +kernel
theorem dX6_appendWord_160 : decode cX6_appendWord 160 = .ok (.ireturn, 1) := by decide +kernel
theorem dX6_clearBuffer_0 : decode cX6_clearBuffer 0 = .ok (.aload_n 0, 1) := by decide +kernel
theorem dX6_clearBuffer_1 : decode cX6_clearBuffer 1 = .ok (.iconst 0, 1) := by decide +kernel
theorem dX6_clearBuffer_2 : decode cX6_clearBuffer 2 = .ok (.putfield 31, 3) := by decide +kernel
theorem dX6_clearBuffer_5 : decode cX6_clearBuffer 5 = .ok (.aload_n 0, 1) := by decide +kernel
theorem dX6_clearBuffer_6 : decode cX6_clearBuffer 6 = .ok (.getfield 91, 3) := by decide +kernel
theorem dX6_clearBuffer_9 : decode cX6_clearBuffer 9 = .ok (.istore_n 1, 1) := by decide +kernel
theorem dX6_clearBuffer_10 : decode cX6_clearBuffer 10 = .ok (.aload_n 0, 1) := by decide +kernel
theorem dX6_clearBuffer_11 : decode cX6_clearBuffer 11 = .ok (.iconst 0, 1) := by decide +kernel
theorem dX6_clearBuffer_12 : decode cX6_clearBuffer 12 = .ok (.putfield 91, 3) := by decide +kernel
theorem dX6_clearBuffer_15 : decode cX6_clearBuffer 15 = .ok (.iload_n 1, 1) := by decide +kernel
theorem dX6_clearBuffer_16 : decode cX6_clearBuffer 16 = .ok (.ireturn, 1) := by decide +kernel
set_option maxRecDepth 20000 in
theorem ggX6_firstError_X6_read : GoodIn wsX6_firstError wsX6_read := goodIn_r _ [6, 7, 8, 9, 10, 11, 12, 13, 14, 5, 15, 16, 17, 18, 19, 20, 21, 22, 23, 24, 25, 26, 27, 28, 29, 30, 31, 32, 33, 34, 35, 36, 37, 38, 39, 40, 41, 42, 43, 44, 45, 46, 47, 48, 49, 50, 51, 52, 53, 54, 55, 56, 57, 58, 59, 60, 61, 62, 63, 64, 65, 66, 67] (by decide +kernel) (by decide +kernel)
set_option maxRecDepth 20000 in
theorem gX6_firstError_X6_read : GoodIn wsX6_firstError (wsV RX6 194 RX6 yX6_read wsX6_read) := goodIn_app (goodIn_of _ (by decide +kernel)) ggX6_firstError_X6_read
theorem dX6_firstError_0 : decode cX6_firstError 0 = .ok (.aload_n 0, 1) := by decide +kernel
theorem dX6_firstError_1 : decode cX6_firstError 1 = .ok (.iconst 0, 1) := by decide +kernel
theorem dX6_firstError_2 : decode cX6_firstError 2 = .ok (.putfield 31, 3) := by decide +kernel
theorem dX6_firstError_5 : decode cX6_firstError 5 = .ok (.aload_n 0, 1) := by decide +kernel
theorem dX6_firstError_6 : decode cX6_firstError 6 = .ok (.invokevirtual 194, 3) := by decide +kernel
theorem dX6_firstError_9 : decode cX6_firstError 9 = .ok (.ireturn, 1) := by decide +kernel
set_option maxRecDepth 20000 in
theorem ggX6_isPossible_X6_read : GoodIn wsX6_isPossible wsX6_read := goodIn_r _ [7, 8, 2, 1, 9, 10, 11, 12, 13, 6, 14, 15, 16, 17, 18, 19, 20, 21, 22, 23, 24, 25, 26, 27, 28, 29, 30, 31, 32, 33, 34, 35, 36, 37, 38, 39, 40, 41, 42, 43, 44, 45, 46, 47, 48, 49, 50, 51, 52, 53, 54, 55, 56, 57, 58, 59, 60, 61, 62, 63, 64, 65, 66] (by decide +kernel) (by decide +kernel)
set_option maxRecDepth 20000 in
theorem gX6_isPossible_X6_read : GoodIn wsX6_isPossible (wsV RX6 194 RX6 yX6_read wsX6_read) := goodIn_app (goodIn_of _ (by decide +kernel)) ggX6_isPossible_X6_read
theorem dX6_isPossible_0 : decode cX6_isPossible 0 = .ok (.aload_n 0, 1) := by decide +kernel
theorem dX6_isPossible_1 : decode cX6_isPossible 1 = .ok (.invokevirtual 194, 3) := by decide +kernel
theorem dX6_isPossible_4 : decode cX6_isPossible 4 = .ok (.aload_n 0, 1) := by decide +kernel
theorem dX6_isPossible_5 : decode cX6_isPossible 5 = .ok (.getfield 91, 3) := by decide +kernel
