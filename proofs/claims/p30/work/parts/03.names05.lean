theorem dL_describe_67 : decode cL_describe 67 = .ok (.bipush 6, 2) := by decide +kernel
theorem dL_describe_69 : decode cL_describe 69 = .ok (.iload_n 3, 1) := by decide +kernel
theorem dL_describe_70 : decode cL_describe 70 = .ok (.ifCond .eq 11, 3) := by decide +kernel
theorem dL_describe_73 : decode cL_describe 73 = .ok (.aload_n 0, 1) := by decide +kernel
theorem dL_describe_74 : decode cL_describe 74 = .ok (.iload_n 2, 1) := by decide +kernel
theorem dL_describe_75 : decode cL_describe 75 = .ok (.invokevirtual 41, 3) := by decide +kernel
theorem dL_describe_78 : decode cL_describe 78 = .ok (.goto 11, 3) := by decide +kernel
theorem dL_describe_81 : decode cL_describe 81 = .ok (.iload_n 1, 1) := by decide +kernel
theorem dL_describe_82 : decode cL_describe 82 = .ok (.bipush 7, 2) := by decide +kernel
theorem dL_describe_84 : decode cL_describe 84 = .ok (.ishr, 1) := by decide +kernel
theorem dL_describe_85 : decode cL_describe 85 = .ok (.iconst 4, 1) := by decide +kernel
theorem dL_describe_86 : decode cL_describe 86 = .ok (.invokestatic 14, 3) := by decide +kernel
theorem dL_describe_89 : decode cL_describe 89 = .ok (.iadd, 1) := by decide +kernel
theorem dL_describe_90 : decode cL_describe 90 = .ok (.invokevirtual 38, 3) := by decide +kernel
theorem dL_describe_93 : decode cL_describe 93 = .ok (.pop, 1) := by decide +kernel
theorem dL_describe_94 : decode cL_describe 94 = .ok (.aload_n 0, 1) := by decide +kernel
theorem dL_describe_95 : decode cL_describe 95 = .ok (.iload_n 3, 1) := by decide +kernel
theorem dL_describe_96 : decode cL_describe 96 = .ok (.ifCond .eq 11, 3) := by decide +kernel
theorem dL_describe_99 : decode cL_describe 99 = .ok (.aload_n 0, 1) := by decide +kernel
theorem dL_describe_100 : decode cL_describe 100 = .ok (.iload_n 2, 1) := by decide +kernel
theorem dL_describe_101 : decode cL_describe 101 = .ok (.invokevirtual 8, 3) := by decide +kernel
theorem dL_describe_104 : decode cL_describe 104 = .ok (.goto 11, 3) := by decide +kernel
theorem dL_describe_107 : decode cL_describe 107 = .ok (.iload_n 1, 1) := by decide +kernel
theorem dL_describe_108 : decode cL_describe 108 = .ok (.iconst 4, 1) := by decide +kernel
theorem dL_describe_109 : decode cL_describe 109 = .ok (.ishr, 1) := by decide +kernel
theorem dL_describe_110 : decode cL_describe 110 = .ok (.bipush 6, 2) := by decide +kernel
theorem dL_describe_112 : decode cL_describe 112 = .ok (.invokestatic 14, 3) := by decide +kernel
theorem dL_describe_115 : decode cL_describe 115 = .ok (.invokevirtual 38, 3) := by decide +kernel
theorem dL_describe_118 : decode cL_describe 118 = .ok (.pop, 1) := by decide +kernel
theorem dL_describe_119 : decode cL_describe 119 = .ok (.return_, 1) := by decide +kernel
set_option maxRecDepth 20000 in
theorem ggL_type_L_low : GoodIn wsL_type wsL_low := goodIn_r _ [4, 5] (by decide +kernel) (by decide +kernel)
set_option maxRecDepth 20000 in
theorem gL_type_L_low : GoodIn wsL_type (va_wsS RL 14 yL_low wsL_low) := goodIn_app (goodIn_of _ (by decide +kernel)) ggL_type_L_low
set_option maxRecDepth 20000 in
theorem ggL_type_X5_appendWord : GoodIn wsL_type wsX5_appendWord := goodIn_ca (goodIn_ca (goodIn_r _ [10, 11, 12, 13, 14, 15, 16, 17, 18, 19, 20, 21, 22, 23, 24, 25, 26, 27, 28, 29, 9, 30, 31, 32, 33, 34, 35, 36, 37, 38, 39, 40, 41, 42, 69, 70, 71, 72, 73, 74, 75, 76, 77] (by decide +kernel) (by decide +kernel)) (goodIn_sub (fun _ h => List.mem_cons_of_mem _ (List.mem_append_left _ (List.mem_append_right _ h))) (by decide +kernel))) (goodIn_sub (fun _ h => List.mem_cons_of_mem _ (List.mem_append_right _ h)) (by decide +kernel))
set_option maxRecDepth 20000 in
theorem gL_type_X5_appendWord : GoodIn wsL_type (wsV RL 38 RX5 yX5_appendWord wsX5_appendWord) := goodIn_app (goodIn_of _ (by decide +kernel)) ggL_type_X5_appendWord
set_option maxRecDepth 20000 in
theorem ggL_type_L_describe : GoodIn wsL_type wsL_describe := goodIn_ca (goodIn_ca (goodIn_r _ [45, 46, 47, 48, 9, 49, 50, 51, 52, 1, 2, 3, 4, 5, 6, 7, 8, 10, 11, 12, 13, 14, 15, 16, 17, 18, 19, 20, 21, 22, 23, 24, 25, 26, 27, 28, 29, 30, 31, 32, 33, 34, 35, 36, 37, 38, 39, 40, 41, 42, 53, 54, 55, 56, 57, 58, 59, 60, 61, 62, 63, 64, 65, 66, 67, 68, 69, 70, 71, 72, 73, 74, 75, 78, 79, 80, 81, 82, 83, 84, 85, 86, 87, 88, 89, 90, 91, 92, 76, 77] (by decide +kernel) (by decide +kernel)) (goodIn_sub (fun _ h => List.mem_cons_of_mem _ (List.mem_append_left _ (List.mem_append_right _ h))) (by decide +kernel))) (goodIn_sub (fun _ h => List.mem_cons_of_mem _ (List.mem_append_right _ h)) (by decide +kernel))
set_option maxRecDepth 20000 in
theorem gL_type_L_describe : GoodIn wsL_type (va_wsS RL 44 yL_describe wsL_describe) := goodIn_app (goodIn_of _ (by decide +kernel)) ggL_type_L_describe
theorem dL_type_0 : decode cL_type 0 = .ok (.iload_n 1, 1) := by decide +kernel
theorem dL_type_1 : decode cL_type 1 = .ok (.iconst 4, 1) := by decide +kernel
theorem dL_type_2 : decode cL_type 2 = .ok (.ishr, 1) := by decide +kernel
theorem dL_type_3 : decode cL_type 3 = .ok (.bipush 8, 2) := by decide +kernel
theorem dL_type_5 : decode cL_type 5 = .ok (.invokestatic 14, 3) := by decide +kernel
theorem dL_type_8 : decode cL_type 8 = .ok (.bipush 7, 2) := by decide +kernel
theorem dL_type_10 : decode cL_type 10 = .ok (.irem, 1) := by decide +kernel
theorem dL_type_11 : decode cL_type 11 = .ok (.istore_n 3, 1) := by decide +kernel
theorem dL_type_12 : decode cL_type 12 = .ok (.aload_n 0, 1) := by decide +kernel
theorem dL_type_13 : decode cL_type 13 = .ok (.bipush 10, 2) := by decide +kernel
theorem dL_type_15 : decode cL_type 15 = .ok (.iload_n 3, 1) := by decide +kernel
theorem dL_type_16 : decode cL_type 16 = .ok (.iadd, 1) := by decide +kernel
theorem dL_type_17 : decode cL_type 17 = .ok (.invokevirtual 38, 3) := by decide +kernel
theorem dL_type_20 : decode cL_type 20 = .ok (.pop, 1) := by decide +kernel
theorem dL_type_21 : decode cL_type 21 = .ok (.iload_n 3, 1) := by decide +kernel
theorem dL_type_22 : decode cL_type 22 = .ok (.iconst 4, 1) := by decide +kernel
theorem dL_type_23 : decode cL_type 23 = .ok (.if_icmp .le 5, 3) := by decide +kernel
theorem dL_type_26 : decode cL_type 26 = .ok (.iload_n 3, 1) := by decide +kernel
theorem dL_type_27 : decode cL_type 27 = .ok (.ireturn, 1) := by decide +kernel
theorem dL_type_28 : decode cL_type 28 = .ok (.iload_n 1, 1) := by decide +kernel
theorem dL_type_29 : decode cL_type 29 = .ok (.bipush 8, 2) := by decide +kernel
theorem dL_type_31 : decode cL_type 31 = .ok (.ishr, 1) := by decide +kernel
theorem dL_type_32 : decode cL_type 32 = .ok (.bipush 8, 2) := by decide +kernel
theorem dL_type_34 : decode cL_type 34 = .ok (.invokestatic 14, 3) := by decide +kernel
theorem dL_type_37 : decode cL_type 37 = .ok (.istore 4, 2) := by decide +kernel
theorem dL_type_39 : decode cL_type 39 = .ok (.iload 4, 2) := by decide +kernel
theorem dL_type_41 : decode cL_type 41 = .ok (.iconst 2, 1) := by decide +kernel
theorem dL_type_42 : decode cL_type 42 = .ok (.if_icmp .ge 10, 3) := by decide +kernel
theorem dL_type_45 : decode cL_type 45 = .ok (.aload_n 0, 1) := by decide +kernel
theorem dL_type_46 : decode cL_type 46 = .ok (.bipush 17, 2) := by decide +kernel
theorem dL_type_48 : decode cL_type 48 = .ok (.invokevirtual 38, 3) := by decide +kernel
theorem dL_type_51 : decode cL_type 51 = .ok (.pop, 1) := by decide +kernel
theorem dL_type_52 : decode cL_type 52 = .ok (.iload 4, 2) := by decide +kernel
theorem dL_type_54 : decode cL_type 54 = .ok (.iconst 1, 1) := by decide +kernel
theorem dL_type_55 : decode cL_type 55 = .ok (.if_icmp .ne 10, 3) := by decide +kernel
theorem dL_type_58 : decode cL_type 58 = .ok (.aload_n 0, 1) := by decide +kernel
theorem dL_type_59 : decode cL_type 59 = .ok (.bipush 18, 2) := by decide +kernel
theorem dL_type_61 : decode cL_type 61 = .ok (.invokevirtual 38, 3) := by decide +kernel
theorem dL_type_64 : decode cL_type 64 = .ok (.pop, 1) := by decide +kernel
theorem dL_type_65 : decode cL_type 65 = .ok (.iload 4, 2) := by decide +kernel
theorem dL_type_67 : decode cL_type 67 = .ok (.iconst 2, 1) := by decide +kernel
theorem dL_type_68 : decode cL_type 68 = .ok (.if_icmp .eq 9, 3) := by decide +kernel
theorem dL_type_71 : decode cL_type 71 = .ok (.iload 4, 2) := by decide +kernel
theorem dL_type_73 : decode cL_type 73 = .ok (.iconst 3, 1) := by decide +kernel
theorem dL_type_74 : decode cL_type 74 = .ok (.if_icmp .ne 13, 3) := by decide +kernel
theorem dL_type_77 : decode cL_type 77 = .ok (.aload_n 0, 1) := by decide +kernel
theorem dL_type_78 : decode cL_type 78 = .ok (.bipush 20, 2) := by decide +kernel
theorem dL_type_80 : decode cL_type 80 = .ok (.iload 4, 2) := by decide +kernel
theorem dL_type_82 : decode cL_type 82 = .ok (.iadd, 1) := by decide +kernel
theorem dL_type_83 : decode cL_type 83 = .ok (.invokevirtual 38, 3) := by decide +kernel
theorem dL_type_86 : decode cL_type 86 = .ok (.pop, 1) := by decide +kernel
theorem dL_type_87 : decode cL_type 87 = .ok (.iload 4, 2) := by decide +kernel
theorem dL_type_89 : decode cL_type 89 = .ok (.iconst 1, 1) := by decide +kernel
theorem dL_type_90 : decode cL_type 90 = .ok (.if_icmp .eq 9, 3) := by decide +kernel
theorem dL_type_93 : decode cL_type 93 = .ok (.iload 4, 2) := by decide +kernel
theorem dL_type_95 : decode cL_type 95 = .ok (.iconst 3, 1) := by decide +kernel
theorem dL_type_96 : decode cL_type 96 = .ok (.if_icmp .le 8, 3) := by decide +kernel
theorem dL_type_99 : decode cL_type 99 = .ok (.aload_n 0, 1) := by decide +kernel
theorem dL_type_100 : decode cL_type 100 = .ok (.iload_n 2, 1) := by decide +kernel
theorem dL_type_101 : decode cL_type 101 = .ok (.invokestatic 44, 3) := by decide +kernel
theorem dL_type_104 : decode cL_type 104 = .ok (.iload 4, 2) := by decide +kernel
theorem dL_type_106 : decode cL_type 106 = .ok (.iconst 1, 1) := by decide +kernel
theorem dL_type_107 : decode cL_type 107 = .ok (.if_icmp .eq 9, 3) := by decide +kernel
theorem dL_type_110 : decode cL_type 110 = .ok (.iload 4, 2) := by decide +kernel
theorem dL_type_112 : decode cL_type 112 = .ok (.iconst 3, 1) := by decide +kernel
theorem dL_type_113 : decode cL_type 113 = .ok (.if_icmp .le 26, 3) := by decide +kernel
theorem dL_type_116 : decode cL_type 116 = .ok (.iload_n 2, 1) := by decide +kernel
theorem dL_type_117 : decode cL_type 117 = .ok (.bipush 11, 2) := by decide +kernel
theorem dL_type_119 : decode cL_type 119 = .ok (.ishr, 1) := by decide +kernel
theorem dL_type_120 : decode cL_type 120 = .ok (.iconst 3, 1) := by decide +kernel
theorem dL_type_121 : decode cL_type 121 = .ok (.iand, 1) := by decide +kernel
theorem dL_type_122 : decode cL_type 122 = .ok (.ifCond .ne 17, 3) := by decide +kernel
theorem dL_type_125 : decode cL_type 125 = .ok (.aload_n 0, 1) := by decide +kernel
theorem dL_type_126 : decode cL_type 126 = .ok (.bipush 19, 2) := by decide +kernel
theorem dL_type_128 : decode cL_type 128 = .ok (.invokevirtual 38, 3) := by decide +kernel
theorem dL_type_131 : decode cL_type 131 = .ok (.pop, 1) := by decide +kernel
theorem dL_type_132 : decode cL_type 132 = .ok (.aload_n 0, 1) := by decide +kernel
theorem dL_type_133 : decode cL_type 133 = .ok (.iload_n 2, 1) := by decide +kernel
theorem dL_type_134 : decode cL_type 134 = .ok (.iconst 4, 1) := by decide +kernel
theorem dL_type_135 : decode cL_type 135 = .ok (.ishr, 1) := by decide +kernel
theorem dL_type_136 : decode cL_type 136 = .ok (.invokestatic 44, 3) := by decide +kernel
theorem dL_type_139 : decode cL_type 139 = .ok (.iload_n 3, 1) := by decide +kernel
theorem dL_type_140 : decode cL_type 140 = .ok (.iconst 2, 1) := by decide +kernel
theorem dL_type_141 : decode cL_type 141 = .ok (.if_icmp .ne 10, 3) := by decide +kernel
theorem dL_type_144 : decode cL_type 144 = .ok (.aload_n 0, 1) := by decide +kernel
theorem dL_type_145 : decode cL_type 145 = .ok (.bipush 20, 2) := by decide +kernel
theorem dL_type_147 : decode cL_type 147 = .ok (.invokevirtual 38, 3) := by decide +kernel
theorem dL_type_150 : decode cL_type 150 = .ok (.pop, 1) := by decide +kernel
theorem dL_type_151 : decode cL_type 151 = .ok (.iload_n 3, 1) := by decide +kernel
theorem dL_type_152 : decode cL_type 152 = .ok (.iconst 2, 1) := by decide +kernel
theorem dL_type_153 : decode cL_type 153 = .ok (.if_icmp .ne 19, 3) := by decide +kernel
theorem dL_type_156 : decode cL_type 156 = .ok (.iload_n 1, 1) := by decide +kernel
theorem dL_type_157 : decode cL_type 157 = .ok (.bipush 12, 2) := by decide +kernel
theorem dL_type_159 : decode cL_type 159 = .ok (.ishr, 1) := by decide +kernel
theorem dL_type_160 : decode cL_type 160 = .ok (.iconst 3, 1) := by decide +kernel
theorem dL_type_161 : decode cL_type 161 = .ok (.iand, 1) := by decide +kernel
theorem dL_type_162 : decode cL_type 162 = .ok (.ifCond .ne 10, 3) := by decide +kernel
theorem dL_type_165 : decode cL_type 165 = .ok (.aload_n 0, 1) := by decide +kernel
theorem dL_type_166 : decode cL_type 166 = .ok (.bipush 22, 2) := by decide +kernel
theorem dL_type_168 : decode cL_type 168 = .ok (.invokevirtual 38, 3) := by decide +kernel
theorem dL_type_171 : decode cL_type 171 = .ok (.pop, 1) := by decide +kernel
theorem dL_type_172 : decode cL_type 172 = .ok (.iload_n 3, 1) := by decide +kernel
theorem dL_type_173 : decode cL_type 173 = .ok (.iconst 2, 1) := by decide +kernel
theorem dL_type_174 : decode cL_type 174 = .ok (.if_icmp .ne 19, 3) := by decide +kernel
theorem dL_type_177 : decode cL_type 177 = .ok (.iload_n 1, 1) := by decide +kernel
theorem dL_type_178 : decode cL_type 178 = .ok (.bipush 12, 2) := by decide +kernel
theorem dL_type_180 : decode cL_type 180 = .ok (.ishr, 1) := by decide +kernel
theorem dL_type_181 : decode cL_type 181 = .ok (.iconst 3, 1) := by decide +kernel
theorem dL_type_182 : decode cL_type 182 = .ok (.iand, 1) := by decide +kernel
theorem dL_type_183 : decode cL_type 183 = .ok (.ifCond .le 10, 3) := by decide +kernel
theorem dL_type_186 : decode cL_type 186 = .ok (.aload_n 0, 1) := by decide +kernel
theorem dL_type_187 : decode cL_type 187 = .ok (.iload_n 1, 1) := by decide +kernel
theorem dL_type_188 : decode cL_type 188 = .ok (.iconst 2, 1) := by decide +kernel
theorem dL_type_189 : decode cL_type 189 = .ok (.ishr, 1) := by decide +kernel
theorem dL_type_190 : decode cL_type 190 = .ok (.invokestatic 44, 3) := by decide +kernel
theorem dL_type_193 : decode cL_type 193 = .ok (.iload_n 3, 1) := by decide +kernel
theorem dL_type_194 : decode cL_type 194 = .ok (.ireturn, 1) := by decide +kernel
theorem dL_size_0 : decode cL_size 0 = .ok (.iconst 0, 1) := by decide +kernel
theorem dL_size_1 : decode cL_size 1 = .ok (.istore_n 1, 1) := by decide +kernel
theorem dL_size_2 : decode cL_size 2 = .ok (.iconst 0, 1) := by decide +kernel
theorem dL_size_3 : decode cL_size 3 = .ok (.istore_n 2, 1) := by decide +kernel
theorem dL_size_4 : decode cL_size 4 = .ok (.iload_n 2, 1) := by decide +kernel
theorem dL_size_5 : decode cL_size 5 = .ok (.bipush 12, 2) := by decide +kernel
theorem dL_size_7 : decode cL_size 7 = .ok (.if_icmp .ge 17, 3) := by decide +kernel
theorem dL_size_10 : decode cL_size 10 = .ok (.iload_n 1, 1) := by decide +kernel
theorem dL_size_11 : decode cL_size 11 = .ok (.iload_n 0, 1) := by decide +kernel
theorem dL_size_12 : decode cL_size 12 = .ok (.iload_n 2, 1) := by decide +kernel
theorem dL_size_13 : decode cL_size 13 = .ok (.ishr, 1) := by decide +kernel
theorem dL_size_14 : decode cL_size 14 = .ok (.iconst 1, 1) := by decide +kernel
theorem dL_size_15 : decode cL_size 15 = .ok (.iand, 1) := by decide +kernel
theorem dL_size_16 : decode cL_size 16 = .ok (.iadd, 1) := by decide +kernel
theorem dL_size_17 : decode cL_size 17 = .ok (.istore_n 1, 1) := by decide +kernel
theorem dL_size_18 : decode cL_size 18 = .ok (.iinc 2 1, 3) := by decide +kernel
theorem dL_size_21 : decode cL_size 21 = .ok (.goto (-17), 3) := by decide +kernel
theorem dL_size_24 : decode cL_size 24 = .ok (.iload_n 1, 1) := by decide +kernel
theorem dL_size_25 : decode cL_size 25 = .ok (.ireturn, 1) := by decide +kernel
set_option maxRecDepth 20000 in
theorem ggL_world_X5_room : GoodIn wsL_world wsX5_room := goodIn_r _ [6, 7, 8, 9, 33, 34, 35, 36, 37, 38, 39, 40, 41, 42, 43, 44, 45, 46, 47, 48, 49, 50, 51, 52, 53, 54] (by decide +kernel) (by decide +kernel)
set_option maxRecDepth 20000 in
theorem gL_world_X5_room : GoodIn wsL_world (wsV RL 48 RX5 yX5_room wsX5_room) := goodIn_app (goodIn_of _ (by decide +kernel)) ggL_world_X5_room
set_option maxRecDepth 20000 in
theorem ggL_world_X5_objects : GoodIn wsL_world wsX5_objects := goodIn_r _ [13, 7, 8, 14, 33, 34, 35, 36, 37, 38, 39, 40, 41, 42, 43, 44, 45, 46, 47, 48, 49, 50, 51, 52, 53, 54] (by decide +kernel) (by decide +kernel)
set_option maxRecDepth 20000 in
theorem gL_world_X5_objects : GoodIn wsL_world (wsV RL 20 RX5 yX5_objects wsX5_objects) := goodIn_app (goodIn_of _ (by decide +kernel)) ggL_world_X5_objects
set_option maxRecDepth 20000 in
theorem ggL_world_X5_place : GoodIn wsL_world wsX5_place := goodIn_ca (goodIn_r _ [18, 19, 20, 7, 8, 21, 22, 23, 24, 25, 26, 27, 33, 34, 35, 36, 37, 38, 39, 40, 41, 42, 43, 44, 45, 46, 47, 48, 49, 50, 51, 52, 53, 54] (by decide +kernel) (by decide +kernel)) (goodIn_sub (fun _ h => List.mem_cons_of_mem _ (List.mem_append_right _ h)) (by decide +kernel))
set_option maxRecDepth 20000 in
theorem gL_world_X5_place : GoodIn wsL_world (wsV RL 53 RX5 yX5_place wsX5_place) := goodIn_app (goodIn_of _ (by decide +kernel)) ggL_world_X5_place
set_option maxRecDepth 20000 in
theorem ggL_world_X5_isOpen : GoodIn wsL_world wsX5_isOpen := goodIn_ca (goodIn_r _ [31, 19, 20, 7, 8, 32, 22, 23, 24, 25, 26, 27, 33, 34, 35, 36, 37, 38, 39, 40, 41, 42, 43, 44, 45, 46, 47, 48, 49, 50, 51, 52, 53, 54] (by decide +kernel) (by decide +kernel)) (goodIn_sub (fun _ h => List.mem_cons_of_mem _ (List.mem_append_right _ h)) (by decide +kernel))
set_option maxRecDepth 20000 in
theorem gL_world_X5_isOpen : GoodIn wsL_world (wsV RL 56 RX5 yX5_isOpen wsX5_isOpen) := goodIn_app (goodIn_of _ (by decide +kernel)) ggL_world_X5_isOpen
theorem dL_world_0 : decode cL_world 0 = .ok (.aload_n 0, 1) := by decide +kernel
theorem dL_world_1 : decode cL_world 1 = .ok (.invokevirtual 48, 3) := by decide +kernel
theorem dL_world_4 : decode cL_world 4 = .ok (.i2l, 1) := by decide +kernel
theorem dL_world_5 : decode cL_world 5 = .ok (.lstore_n 1, 1) := by decide +kernel
theorem dL_world_6 : decode cL_world 6 = .ok (.iconst 0, 1) := by decide +kernel
theorem dL_world_7 : decode cL_world 7 = .ok (.istore_n 3, 1) := by decide +kernel
