theorem dL_describe_67 : decode cL_describe 67 = .ok (.bipush 6, 2) := by decide +kernel
theorem dL_describe_69 : decode cL_describe 69 = .ok (.iload_n 3, 1) := by decide +kernel
theorem dL_describe_70 : decode cL_describe 70 = .ok (.ifCond .eq 11, 3) := by decide +kernel
theorem dL_describe_73 : decode cL_describe 73 = .ok (.aload_n 0, 1) := by decide +kernel
theorem dL_describe_74 : decode cL_describe 74 = .ok (.iload_n 2, 1) := by decide +kernel
theorem dL_describe_75 : decode cL_describe 75 = .ok (.invokevirtual 41, 3) := by decide +kernel
theorem dL_describe_78 : decode cL_describe 78 = .ok (.goto 11, 3) := by decide +kernel
theorem dL_describe_81 : decode cL_describe 81 = .ok (.iload_n 1, 1) := by decide +kernel
theorem dL_describe_82 : decode cL_describe 82 = .ok (.bipush 7, 2) := by decide +kernel
theorem dL_describe_84 : decode cL_describe 84 = .ok (.ishr, 1) := by decide +kernel
theorem dL_describe_85 : decode cL_describe 85 = .ok (.iconst 4, 1) := by decide +kernel
theorem dL_describe_86 : decode cL_describe 86 = .ok (.invokestatic 14, 3) := by decide +kernel
theorem dL_describe_89 : decode cL_describe 89 = .ok (.iadd, 1) := by decide +kernel
theorem dL_describe_90 : decode cL_describe 90 = .ok (.invokevirtual 38, 3) := by decide +kernel
theorem dL_describe_93 : decode cL_describe 93 = .ok (.pop, 1) := by decide +kernel
theorem dL_describe_94 : decode cL_describe 94 = .ok (.aload_n 0, 1) := by decide +kernel
theorem dL_describe_95 : decode cL_describe 95 = .ok (.iload_n 3, 1) := by decide +kernel
theorem dL_describe_96 : decode cL_describe 96 = .ok (.ifCond .eq 11, 3) := by decide +kernel
theorem dL_describe_99 : decode cL_describe 99 = .ok (.aload_n 0, 1) := by decide +kernel
theorem dL_describe_100 : decode cL_describe 100 = .ok (.iload_n 2, 1) := by decide +kernel
theorem dL_describe_101 : decode cL_describe 101 = .ok (.invokevirtual 8, 3) := by decide +kernel
theorem dL_describe_104 : decode cL_describe 104 = .ok (.goto 11, 3) := by decide +kernel
theorem dL_describe_107 : decode cL_describe 107 = .ok (.iload_n 1, 1) := by decide +kernel
theorem dL_describe_108 : decode cL_describe 108 = .ok (.iconst 4, 1) := by decide +kernel
theorem dL_describe_109 : decode cL_describe 109 = .ok (.ishr, 1) := by decide +kernel
theorem dL_describe_110 : decode cL_describe 110 = .ok (.bipush 6, 2) := by decide +kernel
theorem dL_describe_112 : decode cL_describe 112 = .ok (.invokestatic 14, 3) := by decide +kernel
theorem dL_describe_115 : decode cL_describe 115 = .ok (.invokevirtual 38, 3) := by decide +kernel
theorem dL_describe_118 : decode cL_describe 118 = .ok (.pop, 1) := by decide +kernel
theorem dL_describe_119 : decode cL_describe 119 = .ok (.return_, 1) := by decide +kernel
set_option maxRecDepth 20000 in
theorem ggL_type_L_low : GoodIn wsL_type wsL_low := goodIn_r _ [4, 5] (by decide +kernel) (by decide +kernel)
set_option maxRecDepth 20000 in
theorem gL_type_L_low : GoodIn wsL_type (va_wsS RL 14 yL_low wsL_low) := goodIn_app (goodIn_of _ (by decide +kernel)) ggL_type_L_low
set_option maxRecDepth 20000 in
theorem ggL_type_X5_appendWord : GoodIn wsL_type wsX5_appendWord := goodIn_ca (goodIn_ca (goodIn_r _ [10, 11, 12, 13, 14, 15, 16, 17, 18, 19, 20, 21, 22, 23, 24, 25, 26, 27, 28, 29, 9, 30, 31, 32, 33, 34, 35, 36, 37, 38, 39, 40, 41, 42, 69, 70, 71, 72, 73, 74, 75, 76, 77] (by decide +kernel) (by decide +kernel)) (goodIn_sub (fun _ h => List.mem_cons_of_mem _ (List.mem_append_left _ (List.mem_append_right _ h))) (by decide +kernel))) (goodIn_sub (fun _ h => List.mem_cons_of_mem _ (List.mem_append_right _ h)) (by decide +kernel))
set_option maxRecDepth 20000 in
theorem gL_type_X5_appendWord : GoodIn wsL_type (wsV RL 38 RX5 yX5_appendWord wsX5_appendWord) := goodIn_app (goodIn_of _ (by decide +kernel)) ggL_type_X5_appendWord
set_option maxRecDepth 20000 in
theorem ggL_type_L_describe : GoodIn wsL_type wsL_describe := goodIn_ca (goodIn_ca (goodIn_r _ [45, 46, 47, 48, 9, 49, 50, 51, 52, 1, 2, 3, 4, 5, 6, 7, 8, 10, 11, 12, 13, 14, 15, 16, 17, 18, 19, 20, 21, 22, 23, 24, 25, 26, 27, 28, 29, 30, 31, 32, 33, 34, 35, 36, 37, 38, 39, 40, 41, 42, 53, 54, 55, 56, 57, 58, 59, 60, 61, 62, 63, 64, 65, 66, 67, 68, 69, 70, 71, 72, 73, 74, 75, 78, 79, 80, 81, 82, 83, 84, 85, 86, 87, 88, 89, 90, 91, 92, 76, 77] (by decide +kernel) (by decide +kernel)) (goodIn_sub (fun _ h => List.mem_cons_of_mem _ (List.mem_append_left _ (List.mem_append_right _ h))) (by decide +kernel))) (goodIn_sub (fun _ h => List.mem_cons_of_mem _ (List.mem_append_right _ h)) (by decide +kernel))
set_option maxRecDepth 20000 in
theorem gL_type_L_describe : GoodIn wsL_type (va_wsS RL 44 yL_describe wsL_describe) := goodIn_app (goodIn_of _ (by decide +kernel)) ggL_type_L_describe
theorem dL_type_0 : decode cL_type 0 = .ok (.iload_n 1, 1) := by decide +kernel
theorem dL_type_1 : decode cL_type 1 = .ok (.iconst 4, 1) := by decide +kernel
theorem dL_type_2 : decode cL_type 2 = .ok (.ishr, 1) := by decide +kernel
theorem dL_type_3 : decode cL_type 3 = .ok (.bipush 8, 2) := by decide +kernel
theorem dL_type_5 : decode cL_type 5 = .ok (.invokestatic 14, 3) := by decide +kernel
theorem dL_type_8 : decode cL_type 8 = .ok (.bipush 7, 2) := by decide +kernel
theorem dL_type_10 : decode cL_type 10 = .ok (.irem, 1) := by decide +kernel
theorem dL_type_11 : decode cL_type 11 = .ok (.istore_n 3, 1) := by decide +kernel
theorem dL_type_12 : decode cL_type 12 = .ok (.aload_n 0, 1) := by decide +kernel
theorem dL_type_13 : decode cL_type 13 = .ok (.bipush 10, 2) := by decide +kernel
theorem dL_type_15 : decode cL_type 15 = .ok (.iload_n 3, 1) := by decide +kernel
theorem dL_type_16 : decode cL_type 16 = .ok (.iadd, 1) := by decide +kernel
theorem dL_type_17 : decode cL_type 17 = .ok (.invokevirtual 38, 3) := by decide +kernel
theorem dL_type_20 : decode cL_type 20 = .ok (.pop, 1) := by decide +kernel
theorem dL_type_21 : decode cL_type 21 = .ok (.iload_n 3, 1) := by decide +kernel
theorem dL_type_22 : decode cL_type 22 = .ok (.iconst 4, 1) := by decide +kernel
theorem dL_type_23 : decode cL_type 23 = .ok (.if_icmp .le 5, 3) := by decide +kernel
theorem dL_type_26 : decode cL_type 26 = .ok (.iload_n 3, 1) := by decide +kernel
theorem dL_type_27 : decode cL_type 27 = .ok (.ireturn, 1) := by decide +kernel
theorem dL_type_28 : decode cL_type 28 = .ok (.iload_n 1, 1) := by decide +kernel
theorem dL_type_29 : decode cL_type 29 = .ok (.bipush 8, 2) := by decide +kernel
theorem dL_type_31 : decode cL_type 31 = .ok (.ishr, 1) := by decide +kernel
theorem dL_type_32 : decode cL_type 32 = .ok (.bipush 8, 2) := by decide +kernel
theorem dL_type_34 : decode cL_type 34 = .ok (.invokestatic 14, 3) := by decide +kernel
theorem dL_type_37 : decode cL_type 37 = .ok (.istore 4, 2) := by decide +kernel
theorem dL_type_39 : decode cL_type 39 = .ok (.iload 4, 2) := by decide +kernel
theorem dL_type_41 : decode cL_type 41 = .ok (.iconst 2, 1) := by decide +kernel
theorem dL_type_42 : decode cL_type 42 = .ok (.if_icmp .ge 10, 3) := by decide +kernel
theorem dL_type_45 : decode cL_type 45 = .ok (.aload_n 0, 1) := by decide +kernel
theorem dL_type_46 : decode cL_type 46 = .ok (.bipush 17, 2) := by decide +kernel
theorem dL_type_48 : decode cL_type 48 = .ok (.invokevirtual 38, 3) := by decide +kernel
theorem dL_type_51 : decode cL_type 51 = .ok (.pop, 1) := by decide +kernel
theorem dL_type_52 : decode cL_type 52 = .ok (.iload 4, 2) := by decide +kernel
theorem dL_type_54 : decode cL_type 54 = .ok (.iconst 1, 1) := by decide +kernel
theorem dL_type_55 : decode cL_type 55 = .ok (.if_icmp .ne 10, 3) := by decide +kernel
theorem dL_type_58 : decode cL_type 58 = .ok (.aload_n 0, 1) := by decide +kernel
theorem dL_type_59 : decode cL_type 59 = .ok (.bipush 18, 2) := by decide +kernel
theorem dL_type_61 : decode cL_type 61 = .ok (.invokevirtual 38, 3) := by decide +kernel
theorem dL_type_64 : decode cL_type 64 = .ok (.pop, 1) := by decide +kernel
theorem dL_type_65 : decode cL_type 65 = .ok (.iload 4, 2) := by decide +kernel
theorem dL_type_67 : decode cL_type 67 = .ok (.iconst 2, 1) := by decide +kernel
theorem dL_type_68 : decode cL_type 68 = .ok (.if_icmp .eq 9, 3) := by decide +kernel
theorem dL_type_71 : decode cL_type 71 = .ok (.iload 4, 2) := by decide +kernel
theorem dL_type_73 : decode cL_type 73 = .ok (.iconst 3, 1) := by decide +kernel
theorem dL_type_74 : decode cL_type 74 = .ok (.if_icmp .ne 13, 3) := by decide +kernel
theorem dL_type_77 : decode cL_type 77 = .ok (.aload_n 0, 1) := by decide +kernel
theorem dL_type_78 : decode cL_type 78 = .ok (.bipush 20, 2) := by decide +kernel
theorem dL_type_80 : decode cL_type 80 = .ok (.iload 4, 2) := by decide +kernel
theorem dL_type_82 : decode cL_type 82 = .ok (.iadd, 1) := by decide +kernel
theorem dL_type_83 : decode cL_type 83 = .ok (.invokevirtual 38, 3) := by decide +kernel
theorem dL_type_86 : decode cL_type 86 = .ok (.pop, 1) := by decide +kernel
theorem dL_type_87 : decode cL_type 87 = .ok (.iload 4, 2) := by decide +kernel
theorem dL_type_89 : decode cL_type 89 = .ok (.iconst 1, 1) := by decide +kernel
theorem dL_type_90 : decode cL_type 90 = .ok (.if_icmp .eq 9, 3) := by decide +kernel
theorem dL_type_93 : decode cL_type 93 = .ok (.iload 4, 2) := by decide +kernel
theorem dL_type_95 : decode cL_type 95 = .ok (.iconst 3, 1) := by decide +kernel
theorem dL_type_96 : decode cL_type 96 = .ok (.if_icmp .le 8, 3) := by decide +kernel
theorem dL_type_99 : decode cL_type 99 = .ok (.aload_n 0, 1) := by decide +kernel
theorem dL_type_100 : decode cL_type 100 = .ok (.iload_n 2, 1) := by decide +kernel
theorem dL_type_101 : decode cL_type 101 = .ok (.invokestatic 44, 3) := by decide +kernel
theorem dL_type_104 : decode cL_type 104 = .ok (.iload 4, 2) := by decide +kernel
theorem dL_type_106 : decode cL_type 106 = .ok (.iconst 1, 1) := by decide +kernel
theorem dL_type_107 : decode cL_type 107 = .ok (.if_icmp .eq 9, 3) := by decide +kernel
theorem dL_type_110 : decode cL_type 110 = .ok (.iload 4, 2) := by decide +kernel
theorem dL_type_112 : decode cL_type 112 = .ok (.iconst 3, 1) := by decide +kernel
theorem dL_type_113 : decode cL_type 113 = .ok (.if_icmp .le 26, 3) := by decide +kernel
theorem dL_type_116 : decode cL_type 116 = .ok (.iload_n 2, 1) := by decide +kernel
theorem dL_type_117 : decode cL_type 117 = .ok (.bipush 11, 2) := by decide +kernel
theorem dL_type_119 : decode cL_type 119 = .ok (.ishr, 1) := by decide +kernel
theorem dL_type_120 : decode cL_type 120 = .ok (.iconst 3, 1) := by decide +kernel
theorem dL_type_121 : decode cL_type 121 = .ok (.iand, 1) := by decide +kernel
theorem dL_type_122 : decode cL_type 122 = .ok (.ifCond .ne 17, 3) := by decide +kernel
theorem dL_type_125 : decode cL_type 125 = .ok (.aload_n 0, 1) := by decide +kernel
theorem dL_type_126 : decode cL_type 126 = .ok (.bipush 19, 2) := by decide +kernel
theorem dL_type_128 : decode cL_type 128 = .ok (.invokevirtual 38, 3) := by decide +kernel
theorem dL_type_131 : decode cL_type 131 = .ok (.pop, 1) := by decide +kernel
theorem dL_type_132 : decode cL_type 132 = .ok (.aload_n 0, 1) := by decide +kernel
theorem dL_type_133 : decode cL_type 133 = .ok (.iload_n 2, 1) := by decide +kernel
theorem dL_type_134 : decode cL_type 134 = .ok (.iconst 4, 1) := by decide +kernel
theorem dL_type_135 : decode cL_type 135 = .ok (.ishr, 1) := by decide +kernel
theorem dL_type_136 : decode cL_type 136 = .ok (.invokestatic 44, 3) := by decide +kernel
theorem dL_type_139 : decode cL_type 139 = .ok (.iload_n 3, 1) := by decide +kernel
theorem dL_type_140 : decode cL_type 140 = .ok (.iconst 2, 1) := by decide +kernel
theorem dL_type_141 : decode cL_type 141 = .ok (.if_icmp .ne 10, 3) := by decide +kernel
theorem dL_type_144 : decode cL_type 144 = .ok (.aload_n 0, 1) := by decide +kernel
theorem dL_type_145 : decode cL_type 145 = .ok (.bipush 20, 2) := by decide +kernel
theorem dL_type_147 : decode cL_type 147 = .ok (.invokevirtual 38, 3) := by decide +kernel
theorem dL_type_150 : decode cL_type 150 = .ok (.pop, 1) := by decide +kernel
theorem dL_type_151 : decode cL_type 151 = .ok (.iload_n 3, 1) := by decide +kernel
theorem dL_type_152 : decode cL_type 152 = .ok (.iconst 2, 1) := by decide +kernel
theorem dL_type_153 : decode cL_type 153 = .ok (.if_icmp .ne 19, 3) := by decide +kernel
theorem dL_type_156 : decode cL_type 156 = .ok (.iload_n 1, 1) := by decide +kernel
theorem dL_type_157 : decode cL_type 157 = .ok (.bipush 12, 2) := by decide +kernel
theorem dL_type_159 : decode cL_type 159 = .ok (.ishr, 1) := by decide +kernel
theorem dL_type_160 : decode cL_type 160 = .ok (.iconst 3, 1) := by decide +kernel
theorem dL_type_161 : decode cL_type 161 = .ok (.iand, 1) := by decide +kernel
theorem dL_type_162 : decode cL_type 162 = .ok (.ifCond .ne 10, 3) := by decide +kernel
theorem dL_type_165 : decode cL_type 165 = .ok (.aload_n 0, 1) := by decide +kernel
theorem dL_type_166 : decode cL_type 166 = .ok (.bipush 22, 2) := by decide +kernel
theorem dL_type_168 : decode cL_type 168 = .ok (.invokevirtual 38, 3) := by decide +kernel
theorem dL_type_171 : decode cL_type 171 = .ok (.pop, 1) := by decide +kernel
theorem dL_type_172 : decode cL_type 172 = .ok (.iload_n 3, 1) := by decide +kernel
theorem dL_type_173 : decode cL_type 173 = .ok (.iconst 2, 1) := by decide +kernel
theorem dL_type_174 : decode cL_type 174 = .ok (.if_icmp .ne 19, 3) := by decide +kernel
theorem dL_type_177 : decode cL_type 177 = .ok (.iload_n 1, 1) := by decide +kernel
theorem dL_type_178 : decode cL_type 178 = .ok (.bipush 12, 2) := by decide +kernel
theorem dL_type_180 : decode cL_type 180 = .ok (.ishr, 1) := by decide +kernel
theorem dL_type_181 : decode cL_type 181 = .ok (.iconst 3, 1) := by decide +kernel
theorem dL_type_182 : decode cL_type 182 = .ok (.iand, 1) := by decide +kernel
theorem dL_type_183 : decode cL_type 183 = .ok (.ifCond .le 10, 3) := by decide +kernel
theorem dL_type_186 : decode cL_type 186 = .ok (.aload_n 0, 1) := by decide +kernel
theorem dL_type_187 : decode cL_type 187 = .ok (.iload_n 1, 1) := by decide +kernel
theorem dL_type_188 : decode cL_type 188 = .ok (.iconst 2, 1) := by decide +kernel
theorem dL_type_189 : decode cL_type 189 = .ok (.ishr, 1) := by decide +kernel
theorem dL_type_190 : decode cL_type 190 = .ok (.invokestatic 44, 3) := by decide +kernel
theorem dL_type_193 : decode cL_type 193 = .ok (.iload_n 3, 1) := by decide +kernel
theorem dL_type_194 : decode cL_type 194 = .ok (.ireturn, 1) := by decide +kernel
theorem dL_size_0 : decode cL_size 0 = .ok (.iconst 0, 1) := by decide +kernel
theorem dL_size_1 : decode cL_size 1 = .ok (.istore_n 1, 1) := by decide +kernel
theorem dL_size_2 : decode cL_size 2 = .ok (.iconst 0, 1) := by decide +kernel
theorem dL_size_3 : decode cL_size 3 = .ok (.istore_n 2, 1) := by decide +kernel
theorem dL_size_4 : decode cL_size 4 = .ok (.iload_n 2, 1) := by decide +kernel
theorem dL_size_5 : decode cL_size 5 = .ok (.bipush 12, 2) := by decide +kernel
theorem dL_size_7 : decode cL_size 7 = .ok (.if_icmp .ge 17, 3) := by decide +kernel
theorem dL_size_10 : decode cL_size 10 = .ok (.iload_n 1, 1) := by decide +kernel
theorem dL_size_11 : decode cL_size 11 = .ok (.iload_n 0, 1) := by decide +kernel
theorem dL_size_12 : decode cL_size 12 = .ok (.iload_n 2, 1) := by decide +kernel
theorem dL_size_13 : decode cL_size 13 = .ok (.ishr, 1) := by decide +kernel
theorem dL_size_14 : decode cL_size 14 = .ok (.iconst 1, 1) := by decide +kernel
theorem dL_size_15 : decode cL_size 15 = .ok (.iand, 1) := by decide +kernel
theorem dL_size_16 : decode cL_size 16 = .ok (.iadd, 1) := by decide +kernel
theorem dL_size_17 : decode cL_size 17 = .ok (.istore_n 1, 1) := by decide +kernel
theorem dL_size_18 : decode cL_size 18 = .ok (.iinc 2 1, 3) := by decide +kernel
theorem dL_size_21 : decode cL_size 21 = .ok (.goto (-17), 3) := by decide +kernel
theorem dL_size_24 : decode cL_size 24 = .ok (.iload_n 1, 1) := by decide +kernel
theorem dL_size_25 : decode cL_size 25 = .ok (.ireturn, 1) := by decide +kernel
set_option maxRecDepth 20000 in
theorem ggL_world_X5_room : GoodIn wsL_world wsX5_room := goodIn_r _ [6, 7, 8, 9, 33, 34, 35, 36, 37, 38, 39, 40, 41, 42, 43, 44, 45, 46, 47, 48, 49, 50, 51, 52, 53, 54] (by decide +kernel) (by decide +kernel)
set_option maxRecDepth 20000 in
theorem gL_world_X5_room : GoodIn wsL_world (wsV RL 48 RX5 yX5_room wsX5_room) := goodIn_app (goodIn_of _ (by decide +kernel)) ggL_world_X5_room
set_option maxRecDepth 20000 in
theorem ggL_world_X5_objects : GoodIn wsL_world wsX5_objects := goodIn_r _ [13, 7, 8, 14, 33, 34, 35, 36, 37, 38, 39, 40, 41, 42, 43, 44, 45, 46, 47, 48, 49, 50, 51, 52, 53, 54] (by decide +kernel) (by decide +kernel)
set_option maxRecDepth 20000 in
theorem gL_world_X5_objects : GoodIn wsL_world (wsV RL 20 RX5 yX5_objects wsX5_objects) := goodIn_app (goodIn_of _ (by decide +kernel)) ggL_world_X5_objects
set_option maxRecDepth 20000 in
theorem ggL_world_X5_place : GoodIn wsL_world wsX5_place := goodIn_ca (goodIn_r _ [18, 19, 20, 7, 8, 21, 22, 23, 24, 25, 26, 27, 33, 34, 35, 36, 37, 38, 39, 40, 41, 42, 43, 44, 45, 46, 47, 48, 49, 50, 51, 52, 53, 54] (by decide +kernel) (by decide +kernel)) (goodIn_sub (fun _ h => List.mem_cons_of_mem _ (List.mem_append_right _ h)) (by decide +kernel))
set_option maxRecDepth 20000 in
theorem gL_world_X5_place : GoodIn wsL_world (wsV RL 53 RX5 yX5_place wsX5_place) := goodIn_app (goodIn_of _ (by decide +kernel)) ggL_world_X5_place
set_option maxRecDepth 20000 in
theorem ggL_world_X5_isOpen : GoodIn wsL_world wsX5_isOpen := goodIn_ca (goodIn_r _ [31, 19, 20, 7, 8, 32, 22, 23, 24, 25, 26, 27, 33, 34, 35, 36, 37, 38, 39, 40, 41, 42, 43, 44, 45, 46, 47, 48, 49, 50, 51, 52, 53, 54] (by decide +kernel) (by decide +kernel)) (goodIn_sub (fun _ h => List.mem_cons_of_mem _ (List.mem_append_right _ h)) (by decide +kernel))
set_option maxRecDepth 20000 in
theorem gL_world_X5_isOpen : GoodIn wsL_world (wsV RL 56 RX5 yX5_isOpen wsX5_isOpen) := goodIn_app (goodIn_of _ (by decide +kernel)) ggL_world_X5_isOpen
theorem dL_world_0 : decode cL_world 0 = .ok (.aload_n 0, 1) := by decide +kernel
theorem dL_world_1 : decode cL_world 1 = .ok (.invokevirtual 48, 3) := by decide +kernel
theorem dL_world_4 : decode cL_world 4 = .ok (.i2l, 1) := by decide +kernel
theorem dL_world_5 : decode cL_world 5 = .ok (.lstore_n 1, 1) := by decide +kernel
theorem dL_world_6 : decode cL_world 6 = .ok (.iconst 0, 1) := by decide +kernel
theorem dL_world_7 : decode cL_world 7 = .ok (.istore_n 3, 1) := by decide +kernel
theorem dL_world_8 : decode cL_world 8 = .ok (.iload_n 3, 1) := by decide +kernel
theorem dL_world_9 : decode cL_world 9 = .ok (.aload_n 0, 1) := by decide +kernel
theorem dL_world_10 : decode cL_world 10 = .ok (.invokevirtual 20, 3) := by decide +kernel
theorem dL_world_13 : decode cL_world 13 = .ok (.if_icmp .ge 39, 3) := by decide +kernel
theorem dL_world_16 : decode cL_world 16 = .ok (.lload_n 1, 1) := by decide +kernel
theorem dL_world_17 : decode cL_world 17 = .ok (.ldc2_w 51, 3) := by decide +kernel
theorem dL_world_20 : decode cL_world 20 = .ok (.lmul, 1) := by decide +kernel
theorem dL_world_21 : decode cL_world 21 = .ok (.iconst 2, 1) := by decide +kernel
theorem dL_world_22 : decode cL_world 22 = .ok (.aload_n 0, 1) := by decide +kernel
theorem dL_world_23 : decode cL_world 23 = .ok (.iload_n 3, 1) := by decide +kernel
theorem dL_world_24 : decode cL_world 24 = .ok (.invokevirtual 53, 3) := by decide +kernel
theorem dL_world_27 : decode cL_world 27 = .ok (.imul, 1) := by decide +kernel
theorem dL_world_28 : decode cL_world 28 = .ok (.i2l, 1) := by decide +kernel
theorem dL_world_29 : decode cL_world 29 = .ok (.ladd, 1) := by decide +kernel
theorem dL_world_30 : decode cL_world 30 = .ok (.aload_n 0, 1) := by decide +kernel
theorem dL_world_31 : decode cL_world 31 = .ok (.iload_n 3, 1) := by decide +kernel
theorem dL_world_32 : decode cL_world 32 = .ok (.invokevirtual 56, 3) := by decide +kernel
theorem dL_world_35 : decode cL_world 35 = .ok (.ifCond .eq 7, 3) := by decide +kernel
theorem dL_world_38 : decode cL_world 38 = .ok (.iconst 1, 1) := by decide +kernel
theorem dL_world_39 : decode cL_world 39 = .ok (.goto 4, 3) := by decide +kernel
theorem dL_world_42 : decode cL_world 42 = .ok (.iconst 0, 1) := by decide +kernel
theorem dL_world_43 : decode cL_world 43 = .ok (.i2l, 1) := by decide +kernel
theorem dL_world_44 : decode cL_world 44 = .ok (.ladd, 1) := by decide +kernel
theorem dL_world_45 : decode cL_world 45 = .ok (.lstore_n 1, 1) := by decide +kernel
theorem dL_world_46 : decode cL_world 46 = .ok (.iinc 3 1, 3) := by decide +kernel
theorem dL_world_49 : decode cL_world 49 = .ok (.goto (-41), 3) := by decide +kernel
theorem dL_world_52 : decode cL_world 52 = .ok (.lload_n 1, 1) := by decide +kernel
theorem dL_world_53 : decode cL_world 53 = .ok (.lreturn, 1) := by decide +kernel
set_option maxRecDepth 20000 in
theorem ggL_isWorldSo_X5_objectsAt : GoodIn wsL_isWorldSo wsX5_objectsAt := goodIn_ca (goodIn_r _ [5, 6, 7, 8, 9, 10, 11, 12, 13, 14, 15, 16, 17, 18, 19, 20, 21, 22, 23, 121, 122, 123, 124, 125, 126, 127, 128, 129, 130, 131, 132, 133, 134, 135, 136, 137, 138, 139, 140, 141, 142] (by decide +kernel) (by decide +kernel)) (goodIn_sub (fun _ h => List.mem_cons_of_mem _ (List.mem_append_right _ h)) (by decide +kernel))
set_option maxRecDepth 20000 in
theorem gL_isWorldSo_X5_objectsAt : GoodIn wsL_isWorldSo (wsV RL 31 RX5 yX5_objectsAt wsX5_objectsAt) := goodIn_app (goodIn_of _ (by decide +kernel)) ggL_isWorldSo_X5_objectsAt
set_option maxRecDepth 20000 in
theorem ggL_isWorldSo_X5_objects : GoodIn wsL_isWorldSo wsX5_objects := goodIn_r _ [27, 8, 9, 28, 121, 122, 123, 124, 125, 126, 127, 128, 129, 130, 131, 132, 133, 134, 135, 136, 137, 138, 139, 140, 141, 142] (by decide +kernel) (by decide +kernel)
set_option maxRecDepth 20000 in
theorem gL_isWorldSo_X5_objects : GoodIn wsL_isWorldSo (wsV RL 20 RX5 yX5_objects wsX5_objects) := goodIn_app (goodIn_of _ (by decide +kernel)) ggL_isWorldSo_X5_objects
set_option maxRecDepth 20000 in
theorem ggL_isWorldSo_X5_place : GoodIn wsL_isWorldSo wsX5_place := goodIn_ca (goodIn_r _ [32, 6, 7, 8, 9, 33, 34, 35, 36, 13, 37, 15, 121, 122, 123, 124, 125, 126, 127, 128, 129, 130, 131, 132, 133, 134, 135, 136, 137, 138, 139, 140, 141, 142] (by decide +kernel) (by decide +kernel)) (goodIn_sub (fun _ h => List.mem_cons_of_mem _ (List.mem_append_right _ h)) (by decide +kernel))
set_option maxRecDepth 20000 in
theorem gL_isWorldSo_X5_place : GoodIn wsL_isWorldSo (wsV RL 53 RX5 yX5_place wsX5_place) := goodIn_app (goodIn_of _ (by decide +kernel)) ggL_isWorldSo_X5_place
set_option maxRecDepth 20000 in
theorem ggL_isWorldSo_L_isBox : GoodIn wsL_isWorldSo wsL_isBox := goodIn_ca (goodIn_r _ [41, 42, 43, 44, 4, 45, 6, 7, 8, 9, 46, 34, 35, 36, 13, 37, 15, 121, 122, 123, 124, 125, 126, 127, 128, 129, 130, 131, 132, 133, 134, 135, 136, 137, 138, 139, 140, 141, 142] (by decide +kernel) (by decide +kernel)) (goodIn_sub (fun _ h => List.mem_cons_of_mem _ (List.mem_append_right _ h)) (by decide +kernel))
set_option maxRecDepth 20000 in
theorem gL_isWorldSo_L_isBox : GoodIn wsL_isWorldSo (va_wsS RL 27 yL_isBox wsL_isBox) := goodIn_app (goodIn_of _ (by decide +kernel)) ggL_isWorldSo_L_isBox
set_option maxRecDepth 20000 in
theorem ggL_isWorldSo_X5_isOpen : GoodIn wsL_isWorldSo wsX5_isOpen := goodIn_ca (goodIn_r _ [50, 6, 7, 8, 9, 51, 34, 35, 36, 13, 37, 15, 121, 122, 123, 124, 125, 126, 127, 128, 129, 130, 131, 132, 133, 134, 135, 136, 137, 138, 139, 140, 141, 142] (by decide +kernel) (by decide +kernel)) (goodIn_sub (fun _ h => List.mem_cons_of_mem _ (List.mem_append_right _ h)) (by decide +kernel))
set_option maxRecDepth 20000 in
theorem gL_isWorldSo_X5_isOpen : GoodIn wsL_isWorldSo (wsV RL 56 RX5 yX5_isOpen wsX5_isOpen) := goodIn_app (goodIn_of _ (by decide +kernel)) ggL_isWorldSo_X5_isOpen
set_option maxRecDepth 20000 in
theorem ggL_isWorldSo_X5_noun : GoodIn wsL_isWorldSo wsX5_noun := goodIn_ca (goodIn_r _ [45, 6, 7, 8, 9, 46, 34, 35, 36, 13, 37, 15, 121, 122, 123, 124, 125, 126, 127, 128, 129, 130, 131, 132, 133, 134, 135, 136, 137, 138, 139, 140, 141, 142] (by decide +kernel) (by decide +kernel)) (goodIn_sub (fun _ h => List.mem_cons_of_mem _ (List.mem_append_right _ h)) (by decide +kernel))
set_option maxRecDepth 20000 in
theorem gL_isWorldSo_X5_noun : GoodIn wsL_isWorldSo (wsV RL 8 RX5 yX5_noun wsX5_noun) := goodIn_app (goodIn_of _ (by decide +kernel)) ggL_isWorldSo_X5_noun
set_option maxRecDepth 20000 in
theorem ggL_isWorldSo_X5_adjective : GoodIn wsL_isWorldSo wsX5_adjective := goodIn_ca (goodIn_r _ [55, 6, 7, 8, 9, 56, 34, 35, 36, 13, 37, 15, 121, 122, 123, 124, 125, 126, 127, 128, 129, 130, 131, 132, 133, 134, 135, 136, 137, 138, 139, 140, 141, 142] (by decide +kernel) (by decide +kernel)) (goodIn_sub (fun _ h => List.mem_cons_of_mem _ (List.mem_append_right _ h)) (by decide +kernel))
set_option maxRecDepth 20000 in
theorem gL_isWorldSo_X5_adjective : GoodIn wsL_isWorldSo (wsV RL 41 RX5 yX5_adjective wsX5_adjective) := goodIn_app (goodIn_of _ (by decide +kernel)) ggL_isWorldSo_X5_adjective
set_option maxRecDepth 20000 in
theorem ggL_isWorldSo_X5_fitting : GoodIn wsL_isWorldSo wsX5_fitting := goodIn_ca (goodIn_r _ [60, 6, 7, 8, 9, 61, 62, 4, 63, 64, 65, 66, 67, 68, 69, 13, 70, 15, 71, 72, 121, 122, 123, 124, 125, 126, 127, 128, 129, 130, 131, 132, 133, 134, 135, 136, 137, 138, 139, 140, 141, 142] (by decide +kernel) (by decide +kernel)) (goodIn_sub (fun _ h => List.mem_cons_of_mem _ (List.mem_append_right _ h)) (by decide +kernel))
set_option maxRecDepth 20000 in
theorem gL_isWorldSo_X5_fitting : GoodIn wsL_isWorldSo (wsV RL 24 RX5 yX5_fitting wsX5_fitting) := goodIn_app (goodIn_of _ (by decide +kernel)) ggL_isWorldSo_X5_fitting
set_option maxRecDepth 20000 in
theorem ggL_isWorldSo_X5_room : GoodIn wsL_isWorldSo wsX5_room := goodIn_r _ [76, 8, 9, 77, 121, 122, 123, 124, 125, 126, 127, 128, 129, 130, 131, 132, 133, 134, 135, 136, 137, 138, 139, 140, 141, 142] (by decide +kernel) (by decide +kernel)
set_option maxRecDepth 20000 in
theorem gL_isWorldSo_X5_room : GoodIn wsL_isWorldSo (wsV RL 48 RX5 yX5_room wsX5_room) := goodIn_app (goodIn_of _ (by decide +kernel)) ggL_isWorldSo_X5_room
set_option maxRecDepth 20000 in
theorem ggL_isWorldSo_X5_suitable : GoodIn wsL_isWorldSo wsX5_suitable := goodIn_ca (goodIn_r _ [81, 6, 7, 8, 9, 82, 83, 84, 13, 85, 86, 87, 11, 12, 14, 15, 16, 88, 89, 90, 91, 92, 93, 94, 95, 96, 97, 68, 69, 70, 71, 72, 121, 122, 123, 124, 125, 126, 127, 128, 129, 130, 131, 132, 133, 134, 135, 136, 137, 138, 139, 140, 141, 142] (by decide +kernel) (by decide +kernel)) (goodIn_sub (fun _ h => List.mem_cons_of_mem _ (List.mem_append_right _ h)) (by decide +kernel))
set_option maxRecDepth 20000 in
theorem gL_isWorldSo_X5_suitable : GoodIn wsL_isWorldSo (wsV RL 60 RX5 yX5_suitable wsX5_suitable) := goodIn_app (goodIn_of _ (by decide +kernel)) ggL_isWorldSo_X5_suitable
set_option maxRecDepth 20000 in
theorem ggL_isWorldSo_X5_visible : GoodIn wsL_isWorldSo wsX5_visible := goodIn_r _ [101, 8, 9, 102, 89, 90, 13, 91, 92, 86, 87, 11, 12, 14, 15, 16, 121, 122, 123, 124, 125, 126, 127, 128, 129, 130, 131, 132, 133, 134, 135, 136, 137, 138, 139, 140, 141, 142] (by decide +kernel) (by decide +kernel)
set_option maxRecDepth 20000 in
theorem gL_isWorldSo_X5_visible : GoodIn wsL_isWorldSo (wsV RL 63 RX5 yX5_visible wsX5_visible) := goodIn_app (goodIn_of _ (by decide +kernel)) ggL_isWorldSo_X5_visible
set_option maxRecDepth 20000 in
theorem ggL_isWorldSo_X5_them : GoodIn wsL_isWorldSo wsX5_them := goodIn_r _ [106, 8, 107, 121, 122, 123, 124, 125, 126, 127, 128, 129, 130, 131, 132, 133, 134, 135, 136] (by decide +kernel) (by decide +kernel)
set_option maxRecDepth 20000 in
theorem gL_isWorldSo_X5_them : GoodIn wsL_isWorldSo (wsV RL 66 RX5 yX5_them wsX5_them) := goodIn_app (goodIn_of _ (by decide +kernel)) ggL_isWorldSo_X5_them
set_option maxRecDepth 20000 in
theorem ggL_isWorldSo_L_size : GoodIn wsL_isWorldSo wsL_size := goodIn_r _ [110] (by decide +kernel) (by decide +kernel)
set_option maxRecDepth 20000 in
theorem gL_isWorldSo_L_size : GoodIn wsL_isWorldSo (va_wsS RL 69 yL_size wsL_size) := goodIn_app (goodIn_of _ (by decide +kernel)) ggL_isWorldSo_L_size
set_option maxRecDepth 20000 in
theorem ggL_isWorldSo_X5_candidates : GoodIn wsL_isWorldSo wsX5_candidates := goodIn_r _ [114, 8, 115, 121, 122, 123, 124, 125, 126, 127, 128, 129, 130, 131, 132, 133, 134, 135, 136] (by decide +kernel) (by decide +kernel)
set_option maxRecDepth 20000 in
theorem gL_isWorldSo_X5_candidates : GoodIn wsL_isWorldSo (wsV RL 72 RX5 yX5_candidates wsX5_candidates) := goodIn_app (goodIn_of _ (by decide +kernel)) ggL_isWorldSo_X5_candidates
set_option maxRecDepth 20000 in
theorem ggL_isWorldSo_X5_it : GoodIn wsL_isWorldSo wsX5_it := goodIn_r _ [119, 8, 120, 121, 122, 123, 124, 125, 126, 127, 128, 129, 130, 131, 132, 133, 134, 135, 136] (by decide +kernel) (by decide +kernel)
set_option maxRecDepth 20000 in
theorem gL_isWorldSo_X5_it : GoodIn wsL_isWorldSo (wsV RL 75 RX5 yX5_it wsX5_it) := goodIn_app (goodIn_of _ (by decide +kernel)) ggL_isWorldSo_X5_it
theorem dL_isWorldSo_0 : decode cL_isWorldSo 0 = .ok (.iconst 0, 1) := by decide +kernel
theorem dL_isWorldSo_1 : decode cL_isWorldSo 1 = .ok (.istore_n 1, 1) := by decide +kernel
theorem dL_isWorldSo_2 : decode cL_isWorldSo 2 = .ok (.iconst 0, 1) := by decide +kernel
theorem dL_isWorldSo_3 : decode cL_isWorldSo 3 = .ok (.istore_n 2, 1) := by decide +kernel
theorem dL_isWorldSo_4 : decode cL_isWorldSo 4 = .ok (.aload_n 0, 1) := by decide +kernel
theorem dL_isWorldSo_5 : decode cL_isWorldSo 5 = .ok (.iconst 4, 1) := by decide +kernel
theorem dL_isWorldSo_6 : decode cL_isWorldSo 6 = .ok (.invokevirtual 31, 3) := by decide +kernel
theorem dL_isWorldSo_9 : decode cL_isWorldSo 9 = .ok (.bipush 6, 2) := by decide +kernel
theorem dL_isWorldSo_11 : decode cL_isWorldSo 11 = .ok (.if_icmp .gt 7, 3) := by decide +kernel
theorem dL_isWorldSo_14 : decode cL_isWorldSo 14 = .ok (.iconst 1, 1) := by decide +kernel
theorem dL_isWorldSo_15 : decode cL_isWorldSo 15 = .ok (.goto 4, 3) := by decide +kernel
theorem dL_isWorldSo_18 : decode cL_isWorldSo 18 = .ok (.iconst 0, 1) := by decide +kernel
theorem dL_isWorldSo_19 : decode cL_isWorldSo 19 = .ok (.istore_n 3, 1) := by decide +kernel
theorem dL_isWorldSo_20 : decode cL_isWorldSo 20 = .ok (.iconst 0, 1) := by decide +kernel
theorem dL_isWorldSo_21 : decode cL_isWorldSo 21 = .ok (.istore 4, 2) := by decide +kernel
theorem dL_isWorldSo_23 : decode cL_isWorldSo 23 = .ok (.iload 4, 2) := by decide +kernel
theorem dL_isWorldSo_25 : decode cL_isWorldSo 25 = .ok (.aload_n 0, 1) := by decide +kernel
theorem dL_isWorldSo_26 : decode cL_isWorldSo 26 = .ok (.invokevirtual 20, 3) := by decide +kernel
theorem dL_isWorldSo_29 : decode cL_isWorldSo 29 = .ok (.if_icmp .ge 242, 3) := by decide +kernel
theorem dL_isWorldSo_32 : decode cL_isWorldSo 32 = .ok (.aload_n 0, 1) := by decide +kernel
theorem dL_isWorldSo_33 : decode cL_isWorldSo 33 = .ok (.iload 4, 2) := by decide +kernel
theorem dL_isWorldSo_35 : decode cL_isWorldSo 35 = .ok (.invokevirtual 53, 3) := by decide +kernel
theorem dL_isWorldSo_38 : decode cL_isWorldSo 38 = .ok (.istore 5, 2) := by decide +kernel
theorem dL_isWorldSo_40 : decode cL_isWorldSo 40 = .ok (.iload 5, 2) := by decide +kernel
theorem dL_isWorldSo_42 : decode cL_isWorldSo 42 = .ok (.iconst 4, 1) := by decide +kernel
theorem dL_isWorldSo_43 : decode cL_isWorldSo 43 = .ok (.if_icmp .le 7, 3) := by decide +kernel
theorem dL_isWorldSo_46 : decode cL_isWorldSo 46 = .ok (.iconst 1, 1) := by decide +kernel
theorem dL_isWorldSo_47 : decode cL_isWorldSo 47 = .ok (.goto 4, 3) := by decide +kernel
theorem dL_isWorldSo_50 : decode cL_isWorldSo 50 = .ok (.iconst 0, 1) := by decide +kernel
theorem dL_isWorldSo_51 : decode cL_isWorldSo 51 = .ok (.istore 6, 2) := by decide +kernel
theorem dL_isWorldSo_53 : decode cL_isWorldSo 53 = .ok (.iload_n 3, 1) := by decide +kernel
theorem dL_isWorldSo_54 : decode cL_isWorldSo 54 = .ok (.ifCond .eq 118, 3) := by decide +kernel
theorem dL_isWorldSo_57 : decode cL_isWorldSo 57 = .ok (.iload 6, 2) := by decide +kernel
theorem dL_isWorldSo_59 : decode cL_isWorldSo 59 = .ok (.ifCond .eq 23, 3) := by decide +kernel
theorem dL_isWorldSo_62 : decode cL_isWorldSo 62 = .ok (.aload_n 0, 1) := by decide +kernel
theorem dL_isWorldSo_63 : decode cL_isWorldSo 63 = .ok (.iload 5, 2) := by decide +kernel
theorem dL_isWorldSo_65 : decode cL_isWorldSo 65 = .ok (.iconst 5, 1) := by decide +kernel
theorem dL_isWorldSo_66 : decode cL_isWorldSo 66 = .ok (.isub, 1) := by decide +kernel
theorem dL_isWorldSo_67 : decode cL_isWorldSo 67 = .ok (.invokestatic 27, 3) := by decide +kernel
theorem dL_isWorldSo_70 : decode cL_isWorldSo 70 = .ok (.ifCond .eq 102, 3) := by decide +kernel
theorem dL_isWorldSo_73 : decode cL_isWorldSo 73 = .ok (.aload_n 0, 1) := by decide +kernel
theorem dL_isWorldSo_74 : decode cL_isWorldSo 74 = .ok (.iload 4, 2) := by decide +kernel
theorem dL_isWorldSo_76 : decode cL_isWorldSo 76 = .ok (.invokestatic 27, 3) := by decide +kernel
theorem dL_isWorldSo_79 : decode cL_isWorldSo 79 = .ok (.ifCond .ne 93, 3) := by decide +kernel
theorem dL_isWorldSo_82 : decode cL_isWorldSo 82 = .ok (.aload_n 0, 1) := by decide +kernel
theorem dL_isWorldSo_83 : decode cL_isWorldSo 83 = .ok (.iconst 5, 1) := by decide +kernel
theorem dL_isWorldSo_84 : decode cL_isWorldSo 84 = .ok (.iload 4, 2) := by decide +kernel
theorem dL_isWorldSo_86 : decode cL_isWorldSo 86 = .ok (.iadd, 1) := by decide +kernel
theorem dL_isWorldSo_87 : decode cL_isWorldSo 87 = .ok (.invokevirtual 31, 3) := by decide +kernel
theorem dL_isWorldSo_90 : decode cL_isWorldSo 90 = .ok (.aload_n 0, 1) := by decide +kernel
theorem dL_isWorldSo_91 : decode cL_isWorldSo 91 = .ok (.iload 4, 2) := by decide +kernel
theorem dL_isWorldSo_93 : decode cL_isWorldSo 93 = .ok (.invokestatic 27, 3) := by decide +kernel
theorem dL_isWorldSo_96 : decode cL_isWorldSo 96 = .ok (.ifCond .eq 7, 3) := by decide +kernel
theorem dL_isWorldSo_99 : decode cL_isWorldSo 99 = .ok (.iconst 4, 1) := by decide +kernel
theorem dL_isWorldSo_100 : decode cL_isWorldSo 100 = .ok (.goto 4, 3) := by decide +kernel
theorem dL_isWorldSo_103 : decode cL_isWorldSo 103 = .ok (.iconst 0, 1) := by decide +kernel
theorem dL_isWorldSo_104 : decode cL_isWorldSo 104 = .ok (.if_icmp .gt 68, 3) := by decide +kernel
theorem dL_isWorldSo_107 : decode cL_isWorldSo 107 = .ok (.aload_n 0, 1) := by decide +kernel
theorem dL_isWorldSo_108 : decode cL_isWorldSo 108 = .ok (.iload 4, 2) := by decide +kernel
theorem dL_isWorldSo_110 : decode cL_isWorldSo 110 = .ok (.invokevirtual 56, 3) := by decide +kernel
theorem dL_isWorldSo_113 : decode cL_isWorldSo 113 = .ok (.ifCond .eq 12, 3) := by decide +kernel
theorem dL_isWorldSo_116 : decode cL_isWorldSo 116 = .ok (.aload_n 0, 1) := by decide +kernel
theorem dL_isWorldSo_117 : decode cL_isWorldSo 117 = .ok (.iload 4, 2) := by decide +kernel
theorem dL_isWorldSo_119 : decode cL_isWorldSo 119 = .ok (.invokestatic 27, 3) := by decide +kernel
theorem dL_isWorldSo_122 : decode cL_isWorldSo 122 = .ok (.ifCond .eq 50, 3) := by decide +kernel
theorem dL_isWorldSo_125 : decode cL_isWorldSo 125 = .ok (.aload_n 0, 1) := by decide +kernel
theorem dL_isWorldSo_126 : decode cL_isWorldSo 126 = .ok (.aload_n 0, 1) := by decide +kernel
theorem dL_isWorldSo_127 : decode cL_isWorldSo 127 = .ok (.iload 4, 2) := by decide +kernel
theorem dL_isWorldSo_129 : decode cL_isWorldSo 129 = .ok (.invokevirtual 8, 3) := by decide +kernel
theorem dL_isWorldSo_132 : decode cL_isWorldSo 132 = .ok (.aload_n 0, 1) := by decide +kernel
theorem dL_isWorldSo_133 : decode cL_isWorldSo 133 = .ok (.iload 4, 2) := by decide +kernel
theorem dL_isWorldSo_135 : decode cL_isWorldSo 135 = .ok (.invokevirtual 41, 3) := by decide +kernel
theorem dL_isWorldSo_138 : decode cL_isWorldSo 138 = .ok (.invokevirtual 24, 3) := by decide +kernel
theorem dL_isWorldSo_141 : decode cL_isWorldSo 141 = .ok (.iconst 1, 1) := by decide +kernel
theorem dL_isWorldSo_142 : decode cL_isWorldSo 142 = .ok (.iload 4, 2) := by decide +kernel
theorem dL_isWorldSo_144 : decode cL_isWorldSo 144 = .ok (.ishl, 1) := by decide +kernel
theorem dL_isWorldSo_145 : decode cL_isWorldSo 145 = .ok (.if_icmp .ne 27, 3) := by decide +kernel
theorem dL_isWorldSo_148 : decode cL_isWorldSo 148 = .ok (.aload_n 0, 1) := by decide +kernel
theorem dL_isWorldSo_149 : decode cL_isWorldSo 149 = .ok (.aload_n 0, 1) := by decide +kernel
theorem dL_isWorldSo_150 : decode cL_isWorldSo 150 = .ok (.iload 4, 2) := by decide +kernel
theorem dL_isWorldSo_152 : decode cL_isWorldSo 152 = .ok (.invokevirtual 8, 3) := by decide +kernel
theorem dL_isWorldSo_155 : decode cL_isWorldSo 155 = .ok (.iconst (-1), 1) := by decide +kernel
theorem dL_isWorldSo_156 : decode cL_isWorldSo 156 = .ok (.invokevirtual 24, 3) := by decide +kernel
theorem dL_isWorldSo_159 : decode cL_isWorldSo 159 = .ok (.iload 4, 2) := by decide +kernel
theorem dL_isWorldSo_161 : decode cL_isWorldSo 161 = .ok (.ishr, 1) := by decide +kernel
theorem dL_isWorldSo_162 : decode cL_isWorldSo 162 = .ok (.iconst 1, 1) := by decide +kernel
theorem dL_isWorldSo_163 : decode cL_isWorldSo 163 = .ok (.iand, 1) := by decide +kernel
theorem dL_isWorldSo_164 : decode cL_isWorldSo 164 = .ok (.iconst 1, 1) := by decide +kernel
theorem dL_isWorldSo_165 : decode cL_isWorldSo 165 = .ok (.if_icmp .ne 7, 3) := by decide +kernel
theorem dL_isWorldSo_168 : decode cL_isWorldSo 168 = .ok (.iconst 1, 1) := by decide +kernel
theorem dL_isWorldSo_169 : decode cL_isWorldSo 169 = .ok (.goto 4, 3) := by decide +kernel
theorem dL_isWorldSo_172 : decode cL_isWorldSo 172 = .ok (.iconst 0, 1) := by decide +kernel
theorem dL_isWorldSo_173 : decode cL_isWorldSo 173 = .ok (.istore_n 3, 1) := by decide +kernel
theorem dL_isWorldSo_174 : decode cL_isWorldSo 174 = .ok (.iload 6, 2) := by decide +kernel
theorem dL_isWorldSo_176 : decode cL_isWorldSo 176 = .ok (.ifCond .eq 14, 3) := by decide +kernel
theorem dL_isWorldSo_179 : decode cL_isWorldSo 179 = .ok (.aload_n 0, 1) := by decide +kernel
theorem dL_isWorldSo_180 : decode cL_isWorldSo 180 = .ok (.iload 5, 2) := by decide +kernel
theorem dL_isWorldSo_182 : decode cL_isWorldSo 182 = .ok (.iconst 5, 1) := by decide +kernel
theorem dL_isWorldSo_183 : decode cL_isWorldSo 183 = .ok (.isub, 1) := by decide +kernel
theorem dL_isWorldSo_184 : decode cL_isWorldSo 184 = .ok (.invokevirtual 53, 3) := by decide +kernel
theorem dL_isWorldSo_187 : decode cL_isWorldSo 187 = .ok (.goto 5, 3) := by decide +kernel
theorem dL_isWorldSo_190 : decode cL_isWorldSo 190 = .ok (.iload 5, 2) := by decide +kernel
theorem dL_isWorldSo_192 : decode cL_isWorldSo 192 = .ok (.istore 7, 2) := by decide +kernel
theorem dL_isWorldSo_194 : decode cL_isWorldSo 194 = .ok (.iload 7, 2) := by decide +kernel
theorem dL_isWorldSo_196 : decode cL_isWorldSo 196 = .ok (.iconst 4, 1) := by decide +kernel
theorem dL_isWorldSo_197 : decode cL_isWorldSo 197 = .ok (.if_icmp .eq 12, 3) := by decide +kernel
theorem dL_isWorldSo_200 : decode cL_isWorldSo 200 = .ok (.iload 7, 2) := by decide +kernel
theorem dL_isWorldSo_202 : decode cL_isWorldSo 202 = .ok (.aload_n 0, 1) := by decide +kernel
theorem dL_isWorldSo_203 : decode cL_isWorldSo 203 = .ok (.invokevirtual 48, 3) := by decide +kernel
theorem dL_isWorldSo_206 : decode cL_isWorldSo 206 = .ok (.if_icmp .ne 23, 3) := by decide +kernel
theorem dL_isWorldSo_209 : decode cL_isWorldSo 209 = .ok (.iload 6, 2) := by decide +kernel
theorem dL_isWorldSo_211 : decode cL_isWorldSo 211 = .ok (.ifCond .eq 14, 3) := by decide +kernel
theorem dL_isWorldSo_214 : decode cL_isWorldSo 214 = .ok (.aload_n 0, 1) := by decide +kernel
theorem dL_isWorldSo_215 : decode cL_isWorldSo 215 = .ok (.iload 5, 2) := by decide +kernel
theorem dL_isWorldSo_217 : decode cL_isWorldSo 217 = .ok (.iconst 5, 1) := by decide +kernel
theorem dL_isWorldSo_218 : decode cL_isWorldSo 218 = .ok (.isub, 1) := by decide +kernel
theorem dL_isWorldSo_219 : decode cL_isWorldSo 219 = .ok (.invokevirtual 56, 3) := by decide +kernel
theorem dL_isWorldSo_222 : decode cL_isWorldSo 222 = .ok (.ifCond .eq 7, 3) := by decide +kernel
theorem dL_isWorldSo_225 : decode cL_isWorldSo 225 = .ok (.iconst 1, 1) := by decide +kernel
theorem dL_isWorldSo_226 : decode cL_isWorldSo 226 = .ok (.goto 4, 3) := by decide +kernel
theorem dL_isWorldSo_229 : decode cL_isWorldSo 229 = .ok (.iconst 0, 1) := by decide +kernel
theorem dL_isWorldSo_230 : decode cL_isWorldSo 230 = .ok (.istore 8, 2) := by decide +kernel
theorem dL_isWorldSo_232 : decode cL_isWorldSo 232 = .ok (.iload_n 1, 1) := by decide +kernel
theorem dL_isWorldSo_233 : decode cL_isWorldSo 233 = .ok (.iload 8, 2) := by decide +kernel
theorem dL_isWorldSo_235 : decode cL_isWorldSo 235 = .ok (.ifCond .eq 10, 3) := by decide +kernel
theorem dL_isWorldSo_238 : decode cL_isWorldSo 238 = .ok (.iconst 1, 1) := by decide +kernel
theorem dL_isWorldSo_239 : decode cL_isWorldSo 239 = .ok (.iload 4, 2) := by decide +kernel
theorem dL_isWorldSo_241 : decode cL_isWorldSo 241 = .ok (.ishl, 1) := by decide +kernel
theorem dL_isWorldSo_242 : decode cL_isWorldSo 242 = .ok (.goto 4, 3) := by decide +kernel
theorem dL_isWorldSo_245 : decode cL_isWorldSo 245 = .ok (.iconst 0, 1) := by decide +kernel
theorem dL_isWorldSo_246 : decode cL_isWorldSo 246 = .ok (.ior, 1) := by decide +kernel
theorem dL_isWorldSo_247 : decode cL_isWorldSo 247 = .ok (.istore_n 1, 1) := by decide +kernel
theorem dL_isWorldSo_248 : decode cL_isWorldSo 248 = .ok (.iload_n 2, 1) := by decide +kernel
theorem dL_isWorldSo_249 : decode cL_isWorldSo 249 = .ok (.iload 5, 2) := by decide +kernel
theorem dL_isWorldSo_251 : decode cL_isWorldSo 251 = .ok (.iconst 4, 1) := by decide +kernel
theorem dL_isWorldSo_252 : decode cL_isWorldSo 252 = .ok (.if_icmp .ne 10, 3) := by decide +kernel
theorem dL_isWorldSo_255 : decode cL_isWorldSo 255 = .ok (.iconst 1, 1) := by decide +kernel
theorem dL_isWorldSo_256 : decode cL_isWorldSo 256 = .ok (.iload 4, 2) := by decide +kernel
theorem dL_isWorldSo_258 : decode cL_isWorldSo 258 = .ok (.ishl, 1) := by decide +kernel
theorem dL_isWorldSo_259 : decode cL_isWorldSo 259 = .ok (.goto 4, 3) := by decide +kernel
theorem dL_isWorldSo_262 : decode cL_isWorldSo 262 = .ok (.iconst 0, 1) := by decide +kernel
theorem dL_isWorldSo_263 : decode cL_isWorldSo 263 = .ok (.ior, 1) := by decide +kernel
theorem dL_isWorldSo_264 : decode cL_isWorldSo 264 = .ok (.istore_n 2, 1) := by decide +kernel
theorem dL_isWorldSo_265 : decode cL_isWorldSo 265 = .ok (.iinc 4 1, 3) := by decide +kernel
theorem dL_isWorldSo_268 : decode cL_isWorldSo 268 = .ok (.goto (-245), 3) := by decide +kernel
theorem dL_isWorldSo_271 : decode cL_isWorldSo 271 = .ok (.aload_n 0, 1) := by decide +kernel
theorem dL_isWorldSo_272 : decode cL_isWorldSo 272 = .ok (.iconst 1, 1) := by decide +kernel
theorem dL_isWorldSo_273 : decode cL_isWorldSo 273 = .ok (.iconst (-1), 1) := by decide +kernel
theorem dL_isWorldSo_274 : decode cL_isWorldSo 274 = .ok (.invokevirtual 24, 3) := by decide +kernel
theorem dL_isWorldSo_277 : decode cL_isWorldSo 277 = .ok (.aload_n 0, 1) := by decide +kernel
theorem dL_isWorldSo_278 : decode cL_isWorldSo 278 = .ok (.iconst 5, 1) := by decide +kernel
theorem dL_isWorldSo_279 : decode cL_isWorldSo 279 = .ok (.iconst (-1), 1) := by decide +kernel
theorem dL_isWorldSo_280 : decode cL_isWorldSo 280 = .ok (.invokevirtual 24, 3) := by decide +kernel
theorem dL_isWorldSo_283 : decode cL_isWorldSo 283 = .ok (.ior, 1) := by decide +kernel
theorem dL_isWorldSo_284 : decode cL_isWorldSo 284 = .ok (.istore 4, 2) := by decide +kernel
theorem dL_isWorldSo_286 : decode cL_isWorldSo 286 = .ok (.aload_n 0, 1) := by decide +kernel
theorem dL_isWorldSo_287 : decode cL_isWorldSo 287 = .ok (.iconst 4, 1) := by decide +kernel
theorem dL_isWorldSo_288 : decode cL_isWorldSo 288 = .ok (.invokevirtual 60, 3) := by decide +kernel
theorem dL_isWorldSo_291 : decode cL_isWorldSo 291 = .ok (.istore 5, 2) := by decide +kernel
theorem dL_isWorldSo_293 : decode cL_isWorldSo 293 = .ok (.iload_n 3, 1) := by decide +kernel
theorem dL_isWorldSo_294 : decode cL_isWorldSo 294 = .ok (.ifCond .eq 80, 3) := by decide +kernel
theorem dL_isWorldSo_297 : decode cL_isWorldSo 297 = .ok (.aload_n 0, 1) := by decide +kernel
theorem dL_isWorldSo_298 : decode cL_isWorldSo 298 = .ok (.invokevirtual 63, 3) := by decide +kernel
theorem dL_isWorldSo_301 : decode cL_isWorldSo 301 = .ok (.iload_n 1, 1) := by decide +kernel
theorem dL_isWorldSo_302 : decode cL_isWorldSo 302 = .ok (.if_icmp .ne 72, 3) := by decide +kernel
theorem dL_isWorldSo_305 : decode cL_isWorldSo 305 = .ok (.aload_n 0, 1) := by decide +kernel
theorem dL_isWorldSo_306 : decode cL_isWorldSo 306 = .ok (.iconst 1, 1) := by decide +kernel
theorem dL_isWorldSo_307 : decode cL_isWorldSo 307 = .ok (.invokevirtual 60, 3) := by decide +kernel
theorem dL_isWorldSo_310 : decode cL_isWorldSo 310 = .ok (.iload_n 2, 1) := by decide +kernel
theorem dL_isWorldSo_311 : decode cL_isWorldSo 311 = .ok (.if_icmp .ne 63, 3) := by decide +kernel
theorem dL_isWorldSo_314 : decode cL_isWorldSo 314 = .ok (.aload_n 0, 1) := by decide +kernel
theorem dL_isWorldSo_315 : decode cL_isWorldSo 315 = .ok (.iconst 0, 1) := by decide +kernel
theorem dL_isWorldSo_316 : decode cL_isWorldSo 316 = .ok (.invokevirtual 60, 3) := by decide +kernel
theorem dL_isWorldSo_319 : decode cL_isWorldSo 319 = .ok (.iload_n 1, 1) := by decide +kernel
theorem dL_isWorldSo_320 : decode cL_isWorldSo 320 = .ok (.iload_n 2, 1) := by decide +kernel
theorem dL_isWorldSo_321 : decode cL_isWorldSo 321 = .ok (.iconst (-1), 1) := by decide +kernel
theorem dL_isWorldSo_322 : decode cL_isWorldSo 322 = .ok (.ixor, 1) := by decide +kernel
theorem dL_isWorldSo_323 : decode cL_isWorldSo 323 = .ok (.iand, 1) := by decide +kernel
theorem dL_isWorldSo_324 : decode cL_isWorldSo 324 = .ok (.if_icmp .ne 50, 3) := by decide +kernel
theorem dL_isWorldSo_327 : decode cL_isWorldSo 327 = .ok (.aload_n 0, 1) := by decide +kernel
theorem dL_isWorldSo_328 : decode cL_isWorldSo 328 = .ok (.iconst 2, 1) := by decide +kernel
theorem dL_isWorldSo_329 : decode cL_isWorldSo 329 = .ok (.invokevirtual 60, 3) := by decide +kernel
theorem dL_isWorldSo_332 : decode cL_isWorldSo 332 = .ok (.iload_n 2, 1) := by decide +kernel
theorem dL_isWorldSo_333 : decode cL_isWorldSo 333 = .ok (.iload 4, 2) := by decide +kernel
theorem dL_isWorldSo_335 : decode cL_isWorldSo 335 = .ok (.iconst (-1), 1) := by decide +kernel
theorem dL_isWorldSo_336 : decode cL_isWorldSo 336 = .ok (.ixor, 1) := by decide +kernel
theorem dL_isWorldSo_337 : decode cL_isWorldSo 337 = .ok (.iand, 1) := by decide +kernel
theorem dL_isWorldSo_338 : decode cL_isWorldSo 338 = .ok (.if_icmp .ne 36, 3) := by decide +kernel
theorem dL_isWorldSo_341 : decode cL_isWorldSo 341 = .ok (.aload_n 0, 1) := by decide +kernel
theorem dL_isWorldSo_342 : decode cL_isWorldSo 342 = .ok (.iconst 3, 1) := by decide +kernel
theorem dL_isWorldSo_343 : decode cL_isWorldSo 343 = .ok (.invokevirtual 60, 3) := by decide +kernel
theorem dL_isWorldSo_346 : decode cL_isWorldSo 346 = .ok (.iload_n 1, 1) := by decide +kernel
theorem dL_isWorldSo_347 : decode cL_isWorldSo 347 = .ok (.iload 4, 2) := by decide +kernel
theorem dL_isWorldSo_349 : decode cL_isWorldSo 349 = .ok (.iand, 1) := by decide +kernel
theorem dL_isWorldSo_350 : decode cL_isWorldSo 350 = .ok (.iload 5, 2) := by decide +kernel
theorem dL_isWorldSo_352 : decode cL_isWorldSo 352 = .ok (.iconst (-1), 1) := by decide +kernel
theorem dL_isWorldSo_353 : decode cL_isWorldSo 353 = .ok (.ixor, 1) := by decide +kernel
theorem dL_isWorldSo_354 : decode cL_isWorldSo 354 = .ok (.iand, 1) := by decide +kernel
theorem dL_isWorldSo_355 : decode cL_isWorldSo 355 = .ok (.if_icmp .ne 19, 3) := by decide +kernel
theorem dL_isWorldSo_358 : decode cL_isWorldSo 358 = .ok (.iload 5, 2) := by decide +kernel
theorem dL_isWorldSo_360 : decode cL_isWorldSo 360 = .ok (.iload_n 1, 1) := by decide +kernel
theorem dL_isWorldSo_361 : decode cL_isWorldSo 361 = .ok (.iload 4, 2) := by decide +kernel
theorem dL_isWorldSo_363 : decode cL_isWorldSo 363 = .ok (.iand, 1) := by decide +kernel
theorem dL_isWorldSo_364 : decode cL_isWorldSo 364 = .ok (.iconst (-1), 1) := by decide +kernel
theorem dL_isWorldSo_365 : decode cL_isWorldSo 365 = .ok (.ixor, 1) := by decide +kernel
theorem dL_isWorldSo_366 : decode cL_isWorldSo 366 = .ok (.iand, 1) := by decide +kernel
theorem dL_isWorldSo_367 : decode cL_isWorldSo 367 = .ok (.ifCond .ne 7, 3) := by decide +kernel
theorem dL_isWorldSo_370 : decode cL_isWorldSo 370 = .ok (.iconst 1, 1) := by decide +kernel
theorem dL_isWorldSo_371 : decode cL_isWorldSo 371 = .ok (.goto 4, 3) := by decide +kernel
theorem dL_isWorldSo_374 : decode cL_isWorldSo 374 = .ok (.iconst 0, 1) := by decide +kernel
theorem dL_isWorldSo_375 : decode cL_isWorldSo 375 = .ok (.istore_n 3, 1) := by decide +kernel
theorem dL_isWorldSo_376 : decode cL_isWorldSo 376 = .ok (.iload_n 3, 1) := by decide +kernel
theorem dL_isWorldSo_377 : decode cL_isWorldSo 377 = .ok (.ifCond .eq 70, 3) := by decide +kernel
theorem dL_isWorldSo_380 : decode cL_isWorldSo 380 = .ok (.aload_n 0, 1) := by decide +kernel
theorem dL_isWorldSo_381 : decode cL_isWorldSo 381 = .ok (.invokevirtual 66, 3) := by decide +kernel
theorem dL_isWorldSo_384 : decode cL_isWorldSo 384 = .ok (.invokestatic 69, 3) := by decide +kernel
theorem dL_isWorldSo_387 : decode cL_isWorldSo 387 = .ok (.iconst 1, 1) := by decide +kernel
theorem dL_isWorldSo_388 : decode cL_isWorldSo 388 = .ok (.if_icmp .eq 59, 3) := by decide +kernel
theorem dL_isWorldSo_391 : decode cL_isWorldSo 391 = .ok (.aload_n 0, 1) := by decide +kernel
theorem dL_isWorldSo_392 : decode cL_isWorldSo 392 = .ok (.invokevirtual 72, 3) := by decide +kernel
theorem dL_isWorldSo_395 : decode cL_isWorldSo 395 = .ok (.iload_n 1, 1) := by decide +kernel
theorem dL_isWorldSo_396 : decode cL_isWorldSo 396 = .ok (.iconst (-1), 1) := by decide +kernel
theorem dL_isWorldSo_397 : decode cL_isWorldSo 397 = .ok (.ixor, 1) := by decide +kernel
theorem dL_isWorldSo_398 : decode cL_isWorldSo 398 = .ok (.iand, 1) := by decide +kernel
theorem dL_isWorldSo_399 : decode cL_isWorldSo 399 = .ok (.ifCond .ne 48, 3) := by decide +kernel
theorem dL_isWorldSo_402 : decode cL_isWorldSo 402 = .ok (.aload_n 0, 1) := by decide +kernel
theorem dL_isWorldSo_403 : decode cL_isWorldSo 403 = .ok (.invokevirtual 72, 3) := by decide +kernel
theorem dL_isWorldSo_406 : decode cL_isWorldSo 406 = .ok (.invokestatic 69, 3) := by decide +kernel
theorem dL_isWorldSo_409 : decode cL_isWorldSo 409 = .ok (.iconst 1, 1) := by decide +kernel
theorem dL_isWorldSo_410 : decode cL_isWorldSo 410 = .ok (.if_icmp .eq 37, 3) := by decide +kernel
theorem dL_isWorldSo_413 : decode cL_isWorldSo 413 = .ok (.aload_n 0, 1) := by decide +kernel
theorem dL_isWorldSo_414 : decode cL_isWorldSo 414 = .ok (.invokevirtual 75, 3) := by decide +kernel
theorem dL_isWorldSo_417 : decode cL_isWorldSo 417 = .ok (.iconst (-1), 1) := by decide +kernel
theorem dL_isWorldSo_418 : decode cL_isWorldSo 418 = .ok (.if_icmp .lt 29, 3) := by decide +kernel
theorem dL_isWorldSo_421 : decode cL_isWorldSo 421 = .ok (.aload_n 0, 1) := by decide +kernel
theorem dL_isWorldSo_422 : decode cL_isWorldSo 422 = .ok (.invokevirtual 75, 3) := by decide +kernel
theorem dL_isWorldSo_425 : decode cL_isWorldSo 425 = .ok (.aload_n 0, 1) := by decide +kernel
theorem dL_isWorldSo_426 : decode cL_isWorldSo 426 = .ok (.invokevirtual 20, 3) := by decide +kernel
theorem dL_isWorldSo_429 : decode cL_isWorldSo 429 = .ok (.ifCond .ne 7, 3) := by decide +kernel
theorem dL_isWorldSo_432 : decode cL_isWorldSo 432 = .ok (.iconst 1, 1) := by decide +kernel
theorem dL_isWorldSo_433 : decode cL_isWorldSo 433 = .ok (.goto 7, 3) := by decide +kernel
theorem dL_isWorldSo_436 : decode cL_isWorldSo 436 = .ok (.aload_n 0, 1) := by decide +kernel
theorem dL_isWorldSo_437 : decode cL_isWorldSo 437 = .ok (.invokevirtual 20, 3) := by decide +kernel
theorem dL_isWorldSo_440 : decode cL_isWorldSo 440 = .ok (.if_icmp .ge 7, 3) := by decide +kernel
theorem dL_isWorldSo_443 : decode cL_isWorldSo 443 = .ok (.iconst 1, 1) := by decide +kernel
theorem dL_isWorldSo_444 : decode cL_isWorldSo 444 = .ok (.goto 4, 3) := by decide +kernel
theorem dL_isWorldSo_447 : decode cL_isWorldSo 447 = .ok (.iconst 0, 1) := by decide +kernel
theorem dL_isWorldSo_448 : decode cL_isWorldSo 448 = .ok (.ireturn, 1) := by decide +kernel
set_option maxRecDepth 20000 in
theorem ggL_isEnterSo_X5_digest : GoodIn wsL_isEnterSo wsX5_digest := goodIn_r _ [5, 6, 7, 8, 9, 10, 11, 12, 13, 14, 15, 16, 4, 17, 18, 19, 20, 21, 22, 23, 24, 25, 26, 27, 28, 29, 30, 31, 32, 33, 34, 35, 36, 37, 38, 39, 40, 41, 42, 43, 44, 45, 46, 47, 48, 49, 50, 51, 52, 53, 54, 55, 56, 57, 58, 59, 60, 61, 62, 63, 64, 65, 66, 67, 68, 69, 70, 71, 72, 73, 74, 75, 76, 77, 78, 79, 80, 81, 82, 83, 84, 85, 86, 87, 88, 387, 388, 389, 390, 391, 392, 393, 394, 395, 396, 397, 398, 399, 400, 401, 402, 403, 404, 405, 406, 407, 408] (by decide +kernel) (by decide +kernel)
set_option maxRecDepth 20000 in
theorem gL_isEnterSo_X5_digest : GoodIn wsL_isEnterSo (wsV RL 78 RX5 yX5_digest wsX5_digest) := goodIn_app (goodIn_of _ (by decide +kernel)) ggL_isEnterSo_X5_digest
set_option maxRecDepth 20000 in
theorem ggL_isEnterSo_L_world : GoodIn wsL_isEnterSo wsL_world := goodIn_ca (goodIn_r _ [92, 93, 94, 23, 24, 4, 25, 7, 8, 26, 95, 15, 16, 17, 9, 96, 97, 98, 99, 100, 101, 12, 102, 103, 104, 34, 105, 42, 106, 107, 108, 109, 13, 387, 388, 389, 390, 391, 392, 393, 394, 395, 396, 397, 398, 399, 400, 401, 402, 403, 404, 405, 406, 407, 408] (by decide +kernel) (by decide +kernel)) (goodIn_sub (fun _ h => List.mem_cons_of_mem _ (List.mem_append_left _ (List.mem_append_left _ (List.mem_append_right _ h)))) (by decide +kernel))
set_option maxRecDepth 20000 in
theorem gL_isEnterSo_L_world : GoodIn wsL_isEnterSo (va_wsS RL 82 yL_world wsL_world) := goodIn_app (goodIn_of _ (by decide +kernel)) ggL_isEnterSo_L_world
set_option maxRecDepth 20000 in
theorem ggL_isEnterSo_X5_asked : GoodIn wsL_isEnterSo wsX5_asked := goodIn_r _ [72, 7, 73, 387, 388, 389, 390, 391, 392, 393, 394, 395, 396, 397, 398, 399, 400, 401, 402] (by decide +kernel) (by decide +kernel)
set_option maxRecDepth 20000 in
theorem gL_isEnterSo_X5_asked : GoodIn wsL_isEnterSo (wsV RL 86 RX5 yX5_asked wsX5_asked) := goodIn_app (goodIn_of _ (by decide +kernel)) ggL_isEnterSo_X5_asked
set_option maxRecDepth 20000 in
theorem ggL_isEnterSo_X5_executed : GoodIn wsL_isEnterSo wsX5_executed := goodIn_r _ [62, 7, 63, 387, 388, 389, 390, 391, 392, 393, 394, 395, 396, 397, 398, 399, 400, 401, 402] (by decide +kernel) (by decide +kernel)
set_option maxRecDepth 20000 in
theorem gL_isEnterSo_X5_executed : GoodIn wsL_isEnterSo (wsV RL 89 RX5 yX5_executed wsX5_executed) := goodIn_app (goodIn_of _ (by decide +kernel)) ggL_isEnterSo_X5_executed
set_option maxRecDepth 20000 in
theorem ggL_isEnterSo_X5_failed : GoodIn wsL_isEnterSo wsX5_failed := goodIn_r _ [67, 7, 68, 387, 388, 389, 390, 391, 392, 393, 394, 395, 396, 397, 398, 399, 400, 401, 402] (by decide +kernel) (by decide +kernel)
set_option maxRecDepth 20000 in
theorem gL_isEnterSo_X5_failed : GoodIn wsL_isEnterSo (wsV RL 92 RX5 yX5_failed wsX5_failed) := goodIn_app (goodIn_of _ (by decide +kernel)) ggL_isEnterSo_X5_failed
set_option maxRecDepth 20000 in
theorem ggL_isEnterSo_X5_savedStates : GoodIn wsL_isEnterSo wsX5_savedStates := goodIn_r _ [116, 117, 387, 388, 389, 390, 391, 392, 393] (by decide +kernel) (by decide +kernel)
set_option maxRecDepth 20000 in
theorem gL_isEnterSo_X5_savedStates : GoodIn wsL_isEnterSo (wsV RL 95 RX5 yX5_savedStates wsX5_savedStates) := goodIn_app (goodIn_of _ (by decide +kernel)) ggL_isEnterSo_X5_savedStates
set_option maxRecDepth 20000 in
theorem ggL_isEnterSo_X5_ifEntered : GoodIn wsL_isEnterSo wsX5_ifEntered := goodIn_ca (goodIn_r _ [121, 122, 123, 124, 7, 125, 126, 127, 128, 129, 4, 130, 131, 132, 133, 134, 135, 136, 137, 138, 139, 140, 141, 142, 143, 144, 145, 146, 147, 148, 149, 150, 151, 152, 153, 154, 155, 156, 157, 158, 159, 160, 161, 162, 163, 164, 165, 166, 167, 168, 169, 170, 171, 172, 173, 174, 175, 176, 177, 178, 179, 180, 181, 182, 183, 184, 185, 186, 187, 188, 189, 190, 191, 192, 193, 194, 195, 196, 197, 198, 199, 200, 201, 202, 203, 204, 205, 206, 207, 208, 209, 210, 211, 212, 213, 214, 215, 216, 217, 218, 219, 220, 221, 222, 223, 224, 225, 226, 227, 228, 229, 230, 231, 232, 233, 234, 235, 236, 237, 238, 239, 240, 241, 242, 243, 244, 245, 246, 247, 248, 249, 250, 251, 252, 253, 254, 255, 256, 257, 34, 258, 87, 88, 43, 42, 36, 37, 259, 260, 261, 262, 263, 264, 265, 266, 267, 268, 269, 270, 271, 272, 273, 84, 85, 86, 274, 275, 276, 277, 278, 279, 280, 281, 282, 283, 284, 285, 286, 287, 288, 289, 290, 291, 292, 293, 294, 295, 296, 297, 298, 299, 300, 32, 33, 35, 38, 39, 40, 41, 301, 75, 76, 77, 78, 79, 80, 81, 82, 83, 302, 303, 304, 305, 306, 307, 308, 309, 310, 311, 312, 313, 314, 315, 316, 317, 318, 319, 320, 321, 322, 323, 324, 325, 326, 327, 328, 329, 330, 331, 332, 333, 334, 335, 336, 337, 338, 339, 340, 341, 342, 343, 344, 345, 346, 347, 348, 349, 103, 104, 105, 350, 351, 352, 353, 354, 355, 356, 357, 358, 387, 388, 389, 390, 391, 392, 393, 409, 410, 411, 412, 413, 394, 395, 396, 397, 398, 399, 400, 401, 402, 414, 415, 416, 417, 418, 419, 420, 421, 403, 404, 405, 406, 407, 408] (by decide +kernel) (by decide +kernel)) (goodIn_sub (fun _ h => List.mem_cons_of_mem _ (List.mem_append_left _ (List.mem_append_right _ h))) (by decide +kernel))
set_option maxRecDepth 20000 in
theorem gL_isEnterSo_X5_ifEntered : GoodIn wsL_isEnterSo (wsV RL 98 RX5 yX5_ifEntered wsX5_ifEntered) := goodIn_app (goodIn_of _ (by decide +kernel)) ggL_isEnterSo_X5_ifEntered
set_option maxRecDepth 20000 in
theorem ggL_isEnterSo_X5_enter : GoodIn wsL_isEnterSo wsX5_enter := goodIn_ca (goodIn_r _ [362, 122, 123, 131, 132, 7, 125, 126, 127, 128, 129, 4, 130, 133, 134, 135, 136, 137, 138, 139, 140, 141, 142, 143, 144, 145, 146, 147, 148, 149, 150, 151, 152, 153, 154, 155, 156, 157, 158, 159, 160, 161, 162, 163, 164, 165, 166, 167, 168, 169, 170, 171, 172, 173, 174, 175, 176, 177, 178, 179, 180, 181, 182, 183, 184, 185, 186, 187, 188, 189, 190, 191, 192, 193, 194, 195, 196, 197, 198, 199, 200, 201, 202, 203, 204, 205, 206, 207, 208, 209, 210, 211, 212, 213, 214, 215, 216, 217, 218, 219, 220, 221, 222, 223, 224, 225, 226, 227, 228, 229, 230, 231, 232, 233, 234, 235, 236, 237, 238, 239, 240, 241, 242, 363, 364, 365, 366, 367, 368, 117, 369, 370, 371, 372, 243, 244, 245, 246, 247, 248, 249, 250, 251, 252, 253, 254, 255, 256, 257, 34, 258, 87, 88, 43, 42, 36, 37, 259, 260, 261, 262, 263, 264, 265, 266, 267, 268, 269, 270, 271, 272, 273, 84, 85, 86, 274, 275, 276, 277, 278, 279, 280, 281, 282, 283, 284, 285, 286, 287, 288, 289, 290, 291, 292, 293, 294, 295, 296, 297, 298, 299, 300, 32, 33, 35, 38, 39, 40, 41, 301, 75, 76, 77, 78, 79, 80, 81, 82, 83, 302, 303, 304, 305, 306, 307, 308, 309, 310, 311, 312, 313, 314, 315, 316, 317, 318, 319, 320, 321, 322, 323, 324, 325, 326, 327, 328, 329, 330, 331, 332, 333, 334, 335, 336, 337, 338, 339, 340, 341, 342, 343, 344, 345, 346, 347, 348, 349, 103, 104, 105, 350, 351, 352, 353, 354, 355, 356, 357, 358, 387, 388, 389, 390, 391, 392, 393, 412, 413, 409, 410, 411, 394, 395, 396, 397, 398, 399, 400, 401, 402, 414, 415, 416, 417, 418, 419, 420, 421, 403, 404, 405, 406, 407, 408] (by decide +kernel) (by decide +kernel)) (goodIn_sub (fun _ h => List.mem_cons_of_mem _ (List.mem_append_left _ (List.mem_append_right _ h))) (by decide +kernel))
set_option maxRecDepth 20000 in
theorem gL_isEnterSo_X5_enter : GoodIn wsL_isEnterSo (wsV RL 101 RX5 yX5_enter wsX5_enter) := goodIn_app (goodIn_of _ (by decide +kernel)) ggL_isEnterSo_X5_enter
set_option maxRecDepth 20000 in
theorem ggL_isEnterSo_X5_candidates : GoodIn wsL_isEnterSo wsX5_candidates := goodIn_r _ [47, 7, 48, 387, 388, 389, 390, 391, 392, 393, 394, 395, 396, 397, 398, 399, 400, 401, 402] (by decide +kernel) (by decide +kernel)
set_option maxRecDepth 20000 in
theorem gL_isEnterSo_X5_candidates : GoodIn wsL_isEnterSo (wsV RL 72 RX5 yX5_candidates wsX5_candidates) := goodIn_app (goodIn_of _ (by decide +kernel)) ggL_isEnterSo_X5_candidates
set_option maxRecDepth 20000 in
theorem ggL_isEnterSo_L_size : GoodIn wsL_isEnterSo wsL_size := goodIn_r _ [376] (by decide +kernel) (by decide +kernel)
set_option maxRecDepth 20000 in
theorem gL_isEnterSo_L_size : GoodIn wsL_isEnterSo (va_wsS RL 69 yL_size wsL_size) := goodIn_app (goodIn_of _ (by decide +kernel)) ggL_isEnterSo_L_size
set_option maxRecDepth 20000 in
theorem ggL_isEnterSo_X5_clearBuffer : GoodIn wsL_isEnterSo wsX5_clearBuffer := goodIn_r _ [380, 131, 132, 387, 388, 389, 390, 391, 392, 393, 412, 413] (by decide +kernel) (by decide +kernel)
set_option maxRecDepth 20000 in
theorem gL_isEnterSo_X5_clearBuffer : GoodIn wsL_isEnterSo (wsV RL 104 RX5 yX5_clearBuffer wsX5_clearBuffer) := goodIn_app (goodIn_of _ (by decide +kernel)) ggL_isEnterSo_X5_clearBuffer
set_option maxRecDepth 20000 in
theorem ggL_isEnterSo_X5_undo : GoodIn wsL_isEnterSo wsX5_undo := goodIn_ca (goodIn_r _ [384, 385, 386, 117, 367, 7, 368, 369, 370, 371, 4, 372, 243, 244, 245, 136, 246, 247, 248, 249, 250, 251, 252, 253, 254, 138, 255, 256, 257, 34, 258, 87, 88, 43, 42, 36, 37, 259, 260, 261, 150, 262, 152, 153, 154, 155, 156, 157, 158, 159, 387, 388, 389, 390, 391, 392, 393, 394, 395, 396, 397, 398, 399, 400, 401, 402, 403, 404, 405, 406, 407, 408, 414, 415, 416, 417, 418, 419, 420, 421] (by decide +kernel) (by decide +kernel)) (goodIn_sub (fun _ h => List.mem_cons_of_mem _ (List.mem_append_right _ h)) (by decide +kernel))
set_option maxRecDepth 20000 in
theorem gL_isEnterSo_X5_undo : GoodIn wsL_isEnterSo (wsV RL 107 RX5 yX5_undo wsX5_undo) := goodIn_app (goodIn_of _ (by decide +kernel)) ggL_isEnterSo_X5_undo
theorem dL_isEnterSo_0 : decode cL_isEnterSo 0 = .ok (.aload_n 0, 1) := by decide +kernel
theorem dL_isEnterSo_1 : decode cL_isEnterSo 1 = .ok (.invokevirtual 78, 3) := by decide +kernel
theorem dL_isEnterSo_4 : decode cL_isEnterSo 4 = .ok (.lstore_n 2, 1) := by decide +kernel
theorem dL_isEnterSo_5 : decode cL_isEnterSo 5 = .ok (.aload_n 0, 1) := by decide +kernel
theorem dL_isEnterSo_6 : decode cL_isEnterSo 6 = .ok (.invokestatic 82, 3) := by decide +kernel
theorem dL_isEnterSo_9 : decode cL_isEnterSo 9 = .ok (.lstore 4, 2) := by decide +kernel
theorem dL_isEnterSo_11 : decode cL_isEnterSo 11 = .ok (.aload_n 0, 1) := by decide +kernel
theorem dL_isEnterSo_12 : decode cL_isEnterSo 12 = .ok (.invokevirtual 86, 3) := by decide +kernel
theorem dL_isEnterSo_15 : decode cL_isEnterSo 15 = .ok (.istore 6, 2) := by decide +kernel
theorem dL_isEnterSo_17 : decode cL_isEnterSo 17 = .ok (.aload_n 0, 1) := by decide +kernel
theorem dL_isEnterSo_18 : decode cL_isEnterSo 18 = .ok (.invokevirtual 89, 3) := by decide +kernel
theorem dL_isEnterSo_21 : decode cL_isEnterSo 21 = .ok (.istore 7, 2) := by decide +kernel
theorem dL_isEnterSo_23 : decode cL_isEnterSo 23 = .ok (.aload_n 0, 1) := by decide +kernel
theorem dL_isEnterSo_24 : decode cL_isEnterSo 24 = .ok (.invokevirtual 92, 3) := by decide +kernel
theorem dL_isEnterSo_27 : decode cL_isEnterSo 27 = .ok (.istore 8, 2) := by decide +kernel
theorem dL_isEnterSo_29 : decode cL_isEnterSo 29 = .ok (.aload_n 0, 1) := by decide +kernel
theorem dL_isEnterSo_30 : decode cL_isEnterSo 30 = .ok (.invokevirtual 95, 3) := by decide +kernel
theorem dL_isEnterSo_33 : decode cL_isEnterSo 33 = .ok (.istore 9, 2) := by decide +kernel
theorem dL_isEnterSo_35 : decode cL_isEnterSo 35 = .ok (.aload_n 0, 1) := by decide +kernel
theorem dL_isEnterSo_36 : decode cL_isEnterSo 36 = .ok (.invokevirtual 98, 3) := by decide +kernel
theorem dL_isEnterSo_39 : decode cL_isEnterSo 39 = .ok (.istore 10, 2) := by decide +kernel
theorem dL_isEnterSo_41 : decode cL_isEnterSo 41 = .ok (.aload_n 0, 1) := by decide +kernel
theorem dL_isEnterSo_42 : decode cL_isEnterSo 42 = .ok (.invokevirtual 78, 3) := by decide +kernel
theorem dL_isEnterSo_45 : decode cL_isEnterSo 45 = .ok (.lload_n 2, 1) := by decide +kernel
theorem dL_isEnterSo_46 : decode cL_isEnterSo 46 = .ok (.lcmp, 1) := by decide +kernel
theorem dL_isEnterSo_47 : decode cL_isEnterSo 47 = .ok (.ifCond .ne 7, 3) := by decide +kernel
theorem dL_isEnterSo_50 : decode cL_isEnterSo 50 = .ok (.iconst 1, 1) := by decide +kernel
theorem dL_isEnterSo_51 : decode cL_isEnterSo 51 = .ok (.goto 4, 3) := by decide +kernel
theorem dL_isEnterSo_54 : decode cL_isEnterSo 54 = .ok (.iconst 0, 1) := by decide +kernel
theorem dL_isEnterSo_55 : decode cL_isEnterSo 55 = .ok (.istore 11, 2) := by decide +kernel
theorem dL_isEnterSo_57 : decode cL_isEnterSo 57 = .ok (.aload_n 0, 1) := by decide +kernel
theorem dL_isEnterSo_58 : decode cL_isEnterSo 58 = .ok (.invokevirtual 101, 3) := by decide +kernel
theorem dL_isEnterSo_61 : decode cL_isEnterSo 61 = .ok (.istore 12, 2) := by decide +kernel
theorem dL_isEnterSo_63 : decode cL_isEnterSo 63 = .ok (.iload 11, 2) := by decide +kernel
theorem dL_isEnterSo_65 : decode cL_isEnterSo 65 = .ok (.ifCond .eq 191, 3) := by decide +kernel
theorem dL_isEnterSo_68 : decode cL_isEnterSo 68 = .ok (.iload 12, 2) := by decide +kernel
theorem dL_isEnterSo_70 : decode cL_isEnterSo 70 = .ok (.iload 10, 2) := by decide +kernel
theorem dL_isEnterSo_72 : decode cL_isEnterSo 72 = .ok (.if_icmp .ne 184, 3) := by decide +kernel
theorem dL_isEnterSo_75 : decode cL_isEnterSo 75 = .ok (.iload 12, 2) := by decide +kernel
theorem dL_isEnterSo_77 : decode cL_isEnterSo 77 = .ok (.bipush (-5), 2) := by decide +kernel
theorem dL_isEnterSo_79 : decode cL_isEnterSo 79 = .ok (.if_icmp .lt 177, 3) := by decide +kernel
theorem dL_isEnterSo_82 : decode cL_isEnterSo 82 = .ok (.iload 12, 2) := by decide +kernel
theorem dL_isEnterSo_84 : decode cL_isEnterSo 84 = .ok (.bipush 12, 2) := by decide +kernel
theorem dL_isEnterSo_86 : decode cL_isEnterSo 86 = .ok (.if_icmp .gt 170, 3) := by decide +kernel
theorem dL_isEnterSo_89 : decode cL_isEnterSo 89 = .ok (.aload_n 0, 1) := by decide +kernel
theorem dL_isEnterSo_90 : decode cL_isEnterSo 90 = .ok (.invokevirtual 86, 3) := by decide +kernel
theorem dL_isEnterSo_93 : decode cL_isEnterSo 93 = .ok (.iload 6, 2) := by decide +kernel
theorem dL_isEnterSo_95 : decode cL_isEnterSo 95 = .ok (.iload 12, 2) := by decide +kernel
theorem dL_isEnterSo_97 : decode cL_isEnterSo 97 = .ok (.iconst (-1), 1) := by decide +kernel
theorem dL_isEnterSo_98 : decode cL_isEnterSo 98 = .ok (.if_icmp .ne 7, 3) := by decide +kernel
theorem dL_isEnterSo_101 : decode cL_isEnterSo 101 = .ok (.iconst 1, 1) := by decide +kernel
theorem dL_isEnterSo_102 : decode cL_isEnterSo 102 = .ok (.goto 4, 3) := by decide +kernel
theorem dL_isEnterSo_105 : decode cL_isEnterSo 105 = .ok (.iconst 0, 1) := by decide +kernel
theorem dL_isEnterSo_106 : decode cL_isEnterSo 106 = .ok (.iadd, 1) := by decide +kernel
theorem dL_isEnterSo_107 : decode cL_isEnterSo 107 = .ok (.if_icmp .ne 149, 3) := by decide +kernel
theorem dL_isEnterSo_110 : decode cL_isEnterSo 110 = .ok (.aload_n 0, 1) := by decide +kernel
theorem dL_isEnterSo_111 : decode cL_isEnterSo 111 = .ok (.invokevirtual 92, 3) := by decide +kernel
theorem dL_isEnterSo_114 : decode cL_isEnterSo 114 = .ok (.iload 8, 2) := by decide +kernel
theorem dL_isEnterSo_116 : decode cL_isEnterSo 116 = .ok (.iload 12, 2) := by decide +kernel
theorem dL_isEnterSo_118 : decode cL_isEnterSo 118 = .ok (.iconst (-1), 1) := by decide +kernel
theorem dL_isEnterSo_119 : decode cL_isEnterSo 119 = .ok (.if_icmp .ge 14, 3) := by decide +kernel
theorem dL_isEnterSo_122 : decode cL_isEnterSo 122 = .ok (.iload 12, 2) := by decide +kernel
theorem dL_isEnterSo_124 : decode cL_isEnterSo 124 = .ok (.bipush (-5), 2) := by decide +kernel
theorem dL_isEnterSo_126 : decode cL_isEnterSo 126 = .ok (.if_icmp .le 7, 3) := by decide +kernel
theorem dL_isEnterSo_129 : decode cL_isEnterSo 129 = .ok (.iconst 1, 1) := by decide +kernel
theorem dL_isEnterSo_130 : decode cL_isEnterSo 130 = .ok (.goto 4, 3) := by decide +kernel
theorem dL_isEnterSo_133 : decode cL_isEnterSo 133 = .ok (.iconst 0, 1) := by decide +kernel
theorem dL_isEnterSo_134 : decode cL_isEnterSo 134 = .ok (.iadd, 1) := by decide +kernel
theorem dL_isEnterSo_135 : decode cL_isEnterSo 135 = .ok (.if_icmp .ne 121, 3) := by decide +kernel
theorem dL_isEnterSo_138 : decode cL_isEnterSo 138 = .ok (.aload_n 0, 1) := by decide +kernel
theorem dL_isEnterSo_139 : decode cL_isEnterSo 139 = .ok (.invokevirtual 89, 3) := by decide +kernel
theorem dL_isEnterSo_142 : decode cL_isEnterSo 142 = .ok (.iload 7, 2) := by decide +kernel
theorem dL_isEnterSo_144 : decode cL_isEnterSo 144 = .ok (.iload 12, 2) := by decide +kernel
theorem dL_isEnterSo_146 : decode cL_isEnterSo 146 = .ok (.ifCond .lt 7, 3) := by decide +kernel
theorem dL_isEnterSo_149 : decode cL_isEnterSo 149 = .ok (.iconst 1, 1) := by decide +kernel
theorem dL_isEnterSo_150 : decode cL_isEnterSo 150 = .ok (.goto 4, 3) := by decide +kernel
theorem dL_isEnterSo_153 : decode cL_isEnterSo 153 = .ok (.iconst 0, 1) := by decide +kernel
theorem dL_isEnterSo_154 : decode cL_isEnterSo 154 = .ok (.iadd, 1) := by decide +kernel
theorem dL_isEnterSo_155 : decode cL_isEnterSo 155 = .ok (.if_icmp .ne 101, 3) := by decide +kernel
theorem dL_isEnterSo_158 : decode cL_isEnterSo 158 = .ok (.iload 12, 2) := by decide +kernel
theorem dL_isEnterSo_160 : decode cL_isEnterSo 160 = .ok (.ifCond .ge 13, 3) := by decide +kernel
theorem dL_isEnterSo_163 : decode cL_isEnterSo 163 = .ok (.aload_n 0, 1) := by decide +kernel
theorem dL_isEnterSo_164 : decode cL_isEnterSo 164 = .ok (.invokestatic 82, 3) := by decide +kernel
theorem dL_isEnterSo_167 : decode cL_isEnterSo 167 = .ok (.lload 4, 2) := by decide +kernel
theorem dL_isEnterSo_169 : decode cL_isEnterSo 169 = .ok (.lcmp, 1) := by decide +kernel
theorem dL_isEnterSo_170 : decode cL_isEnterSo 170 = .ok (.ifCond .ne 86, 3) := by decide +kernel
theorem dL_isEnterSo_173 : decode cL_isEnterSo 173 = .ok (.iload 12, 2) := by decide +kernel
theorem dL_isEnterSo_175 : decode cL_isEnterSo 175 = .ok (.ifCond .ne 13, 3) := by decide +kernel
theorem dL_isEnterSo_178 : decode cL_isEnterSo 178 = .ok (.aload_n 0, 1) := by decide +kernel
theorem dL_isEnterSo_179 : decode cL_isEnterSo 179 = .ok (.invokestatic 82, 3) := by decide +kernel
theorem dL_isEnterSo_182 : decode cL_isEnterSo 182 = .ok (.lload 4, 2) := by decide +kernel
theorem dL_isEnterSo_184 : decode cL_isEnterSo 184 = .ok (.lcmp, 1) := by decide +kernel
theorem dL_isEnterSo_185 : decode cL_isEnterSo 185 = .ok (.ifCond .ne 71, 3) := by decide +kernel
theorem dL_isEnterSo_188 : decode cL_isEnterSo 188 = .ok (.iload 12, 2) := by decide +kernel
theorem dL_isEnterSo_190 : decode cL_isEnterSo 190 = .ok (.iconst (-1), 1) := by decide +kernel
theorem dL_isEnterSo_191 : decode cL_isEnterSo 191 = .ok (.if_icmp .eq 10, 3) := by decide +kernel
theorem dL_isEnterSo_194 : decode cL_isEnterSo 194 = .ok (.iload 12, 2) := by decide +kernel
theorem dL_isEnterSo_196 : decode cL_isEnterSo 196 = .ok (.bipush (-5), 2) := by decide +kernel
theorem dL_isEnterSo_198 : decode cL_isEnterSo 198 = .ok (.if_icmp .ne 17, 3) := by decide +kernel
theorem dL_isEnterSo_201 : decode cL_isEnterSo 201 = .ok (.aload_n 0, 1) := by decide +kernel
theorem dL_isEnterSo_202 : decode cL_isEnterSo 202 = .ok (.invokevirtual 72, 3) := by decide +kernel
theorem dL_isEnterSo_205 : decode cL_isEnterSo 205 = .ok (.invokestatic 69, 3) := by decide +kernel
theorem dL_isEnterSo_208 : decode cL_isEnterSo 208 = .ok (.iconst 1, 1) := by decide +kernel
theorem dL_isEnterSo_209 : decode cL_isEnterSo 209 = .ok (.if_icmp .le 47, 3) := by decide +kernel
theorem dL_isEnterSo_212 : decode cL_isEnterSo 212 = .ok (.goto 10, 3) := by decide +kernel
theorem dL_isEnterSo_215 : decode cL_isEnterSo 215 = .ok (.aload_n 0, 1) := by decide +kernel
theorem dL_isEnterSo_216 : decode cL_isEnterSo 216 = .ok (.invokevirtual 72, 3) := by decide +kernel
theorem dL_isEnterSo_219 : decode cL_isEnterSo 219 = .ok (.ifCond .ne 37, 3) := by decide +kernel
theorem dL_isEnterSo_222 : decode cL_isEnterSo 222 = .ok (.aload_n 0, 1) := by decide +kernel
theorem dL_isEnterSo_223 : decode cL_isEnterSo 223 = .ok (.invokevirtual 104, 3) := by decide +kernel
theorem dL_isEnterSo_226 : decode cL_isEnterSo 226 = .ok (.ifCond .ne 30, 3) := by decide +kernel
theorem dL_isEnterSo_229 : decode cL_isEnterSo 229 = .ok (.aload_n 0, 1) := by decide +kernel
theorem dL_isEnterSo_230 : decode cL_isEnterSo 230 = .ok (.invokevirtual 95, 3) := by decide +kernel
theorem dL_isEnterSo_233 : decode cL_isEnterSo 233 = .ok (.iload 9, 2) := by decide +kernel
theorem dL_isEnterSo_235 : decode cL_isEnterSo 235 = .ok (.bipush 6, 2) := by decide +kernel
theorem dL_isEnterSo_237 : decode cL_isEnterSo 237 = .ok (.if_icmp .ge 10, 3) := by decide +kernel
theorem dL_isEnterSo_240 : decode cL_isEnterSo 240 = .ok (.iload 9, 2) := by decide +kernel
theorem dL_isEnterSo_242 : decode cL_isEnterSo 242 = .ok (.iconst 1, 1) := by decide +kernel
theorem dL_isEnterSo_243 : decode cL_isEnterSo 243 = .ok (.iadd, 1) := by decide +kernel
theorem dL_isEnterSo_244 : decode cL_isEnterSo 244 = .ok (.goto 5, 3) := by decide +kernel
theorem dL_isEnterSo_247 : decode cL_isEnterSo 247 = .ok (.bipush 6, 2) := by decide +kernel
theorem dL_isEnterSo_249 : decode cL_isEnterSo 249 = .ok (.if_icmp .ne 7, 3) := by decide +kernel
theorem dL_isEnterSo_252 : decode cL_isEnterSo 252 = .ok (.iconst 1, 1) := by decide +kernel
theorem dL_isEnterSo_253 : decode cL_isEnterSo 253 = .ok (.goto 4, 3) := by decide +kernel
theorem dL_isEnterSo_256 : decode cL_isEnterSo 256 = .ok (.iconst 0, 1) := by decide +kernel
theorem dL_isEnterSo_257 : decode cL_isEnterSo 257 = .ok (.istore 11, 2) := by decide +kernel
theorem dL_isEnterSo_259 : decode cL_isEnterSo 259 = .ok (.iload_n 1, 1) := by decide +kernel
theorem dL_isEnterSo_260 : decode cL_isEnterSo 260 = .ok (.ifCond .eq 35, 3) := by decide +kernel
theorem dL_isEnterSo_263 : decode cL_isEnterSo 263 = .ok (.aload_n 0, 1) := by decide +kernel
theorem dL_isEnterSo_264 : decode cL_isEnterSo 264 = .ok (.invokevirtual 107, 3) := by decide +kernel
theorem dL_isEnterSo_267 : decode cL_isEnterSo 267 = .ok (.istore 13, 2) := by decide +kernel
theorem dL_isEnterSo_269 : decode cL_isEnterSo 269 = .ok (.iload 11, 2) := by decide +kernel
theorem dL_isEnterSo_271 : decode cL_isEnterSo 271 = .ok (.ifCond .eq 21, 3) := by decide +kernel
theorem dL_isEnterSo_274 : decode cL_isEnterSo 274 = .ok (.iload 13, 2) := by decide +kernel
theorem dL_isEnterSo_276 : decode cL_isEnterSo 276 = .ok (.ifCond .lt 16, 3) := by decide +kernel
theorem dL_isEnterSo_279 : decode cL_isEnterSo 279 = .ok (.aload_n 0, 1) := by decide +kernel
theorem dL_isEnterSo_280 : decode cL_isEnterSo 280 = .ok (.invokevirtual 78, 3) := by decide +kernel
theorem dL_isEnterSo_283 : decode cL_isEnterSo 283 = .ok (.lload_n 2, 1) := by decide +kernel
theorem dL_isEnterSo_284 : decode cL_isEnterSo 284 = .ok (.lcmp, 1) := by decide +kernel
theorem dL_isEnterSo_285 : decode cL_isEnterSo 285 = .ok (.ifCond .ne 7, 3) := by decide +kernel
theorem dL_isEnterSo_288 : decode cL_isEnterSo 288 = .ok (.iconst 1, 1) := by decide +kernel
theorem dL_isEnterSo_289 : decode cL_isEnterSo 289 = .ok (.goto 4, 3) := by decide +kernel
theorem dL_isEnterSo_292 : decode cL_isEnterSo 292 = .ok (.iconst 0, 1) := by decide +kernel
theorem dL_isEnterSo_293 : decode cL_isEnterSo 293 = .ok (.istore 11, 2) := by decide +kernel
theorem dL_isEnterSo_295 : decode cL_isEnterSo 295 = .ok (.iload 11, 2) := by decide +kernel
theorem dL_isEnterSo_297 : decode cL_isEnterSo 297 = .ok (.ireturn, 1) := by decide +kernel
set_option maxRecDepth 20000 in
theorem ggL_isAnswerSo_X5_candidates : GoodIn wsL_isAnswerSo wsX5_candidates := goodIn_r _ [5, 6, 7, 411, 412, 413, 414, 415, 416, 417, 418, 419, 420, 421, 422, 423, 424, 425, 426] (by decide +kernel) (by decide +kernel)
set_option maxRecDepth 20000 in
theorem gL_isAnswerSo_X5_candidates : GoodIn wsL_isAnswerSo (wsV RL 72 RX5 yX5_candidates wsX5_candidates) := goodIn_app (goodIn_of _ (by decide +kernel)) ggL_isAnswerSo_X5_candidates
set_option maxRecDepth 20000 in
theorem ggL_isAnswerSo_L_low : GoodIn wsL_isAnswerSo wsL_low := goodIn_r _ [11, 12] (by decide +kernel) (by decide +kernel)
set_option maxRecDepth 20000 in
theorem gL_isAnswerSo_L_low : GoodIn wsL_isAnswerSo (va_wsS RL 14 yL_low wsL_low) := goodIn_app (goodIn_of _ (by decide +kernel)) ggL_isAnswerSo_L_low
set_option maxRecDepth 20000 in
theorem ggL_isAnswerSo_X5_objects : GoodIn wsL_isAnswerSo wsX5_objects := goodIn_r _ [16, 6, 17, 18, 411, 412, 413, 414, 415, 416, 417, 418, 419, 420, 421, 422, 423, 424, 425, 426, 427, 428, 429, 430, 431, 432] (by decide +kernel) (by decide +kernel)
set_option maxRecDepth 20000 in
theorem gL_isAnswerSo_X5_objects : GoodIn wsL_isAnswerSo (wsV RL 20 RX5 yX5_objects wsX5_objects) := goodIn_app (goodIn_of _ (by decide +kernel)) ggL_isAnswerSo_X5_objects
set_option maxRecDepth 20000 in
theorem ggL_isAnswerSo_X5_adjective : GoodIn wsL_isAnswerSo wsX5_adjective := goodIn_ca (goodIn_r _ [22, 23, 24, 6, 17, 25, 26, 27, 28, 29, 30, 31, 411, 412, 413, 414, 415, 416, 417, 418, 419, 420, 421, 422, 423, 424, 425, 426, 427, 428, 429, 430, 431, 432] (by decide +kernel) (by decide +kernel)) (goodIn_sub (fun _ h => List.mem_cons_of_mem _ (List.mem_append_left _ (List.mem_append_left _ (List.mem_append_right _ h)))) (by decide +kernel))
set_option maxRecDepth 20000 in
theorem gL_isAnswerSo_X5_adjective : GoodIn wsL_isAnswerSo (wsV RL 41 RX5 yX5_adjective wsX5_adjective) := goodIn_app (goodIn_of _ (by decide +kernel)) ggL_isAnswerSo_X5_adjective
set_option maxRecDepth 20000 in
theorem ggL_isAnswerSo_X5_appendWord : GoodIn wsL_isAnswerSo wsX5_appendWord := goodIn_ca (goodIn_ca (goodIn_r _ [35, 23, 24, 36, 37, 38, 39, 40, 41, 42, 43, 44, 45, 46, 47, 48, 49, 50, 51, 52, 4, 53, 54, 55, 56, 57, 58, 59, 60, 61, 62, 63, 64, 65, 411, 412, 413, 414, 415, 416, 417, 433, 434] (by decide +kernel) (by decide +kernel)) (goodIn_sub (fun _ h => List.mem_cons_of_mem _ (List.mem_append_left _ (List.mem_append_left _ (List.mem_append_right _ h)))) (by decide +kernel))) (goodIn_sub (fun _ h => List.mem_cons_of_mem _ (List.mem_append_left _ (List.mem_append_right _ h))) (by decide +kernel))
set_option maxRecDepth 20000 in
theorem gL_isAnswerSo_X5_appendWord : GoodIn wsL_isAnswerSo (wsV RL 38 RX5 yX5_appendWord wsX5_appendWord) := goodIn_app (goodIn_of _ (by decide +kernel)) ggL_isAnswerSo_X5_appendWord
set_option maxRecDepth 20000 in
theorem ggL_isAnswerSo_X5_ifEntered : GoodIn wsL_isAnswerSo wsX5_ifEntered := goodIn_ca (goodIn_r _ [69, 70, 71, 72, 6, 73, 74, 75, 76, 77, 4, 78, 38, 39, 79, 80, 81, 82, 83, 84, 85, 86, 87, 88, 89, 90, 91, 92, 93, 94, 95, 96, 97, 98, 99, 100, 101, 102, 103, 104, 105, 40, 41, 42, 43, 44, 45, 46, 47, 48, 49, 50, 106, 107, 108, 109, 52, 53, 54, 55, 56, 57, 110, 111, 112, 113, 114, 115, 116, 117, 118, 119, 120, 121, 122, 123, 124, 125, 126, 127, 128, 129, 130, 131, 132, 133, 134, 135, 136, 137, 138, 139, 140, 141, 142, 143, 144, 145, 146, 147, 148, 149, 150, 151, 152, 153, 154, 155, 156, 157, 158, 159, 160, 161, 162, 163, 164, 165, 166, 167, 168, 169, 170, 171, 172, 173, 174, 175, 176, 177, 178, 179, 180, 181, 182, 183, 184, 185, 186, 29, 187, 188, 189, 190, 31, 191, 192, 193, 194, 195, 196, 197, 198, 199, 200, 201, 202, 203, 204, 205, 206, 207, 208, 209, 210, 211, 212, 213, 214, 215, 216, 217, 218, 219, 220, 221, 222, 223, 224, 225, 226, 227, 228, 229, 230, 231, 232, 233, 234, 235, 236, 237, 238, 239, 240, 241, 242, 243, 244, 245, 246, 247, 248, 249, 250, 251, 252, 253, 254, 255, 256, 257, 258, 259, 260, 261, 262, 263, 264, 265, 266, 267, 268, 269, 270, 271, 272, 273, 274, 275, 276, 277, 278, 279, 280, 281, 282, 283, 284, 285, 286, 287, 288, 289, 290, 291, 292, 293, 294, 295, 296, 297, 298, 299, 300, 301, 302, 27, 28, 30, 303, 304, 305, 306, 307, 308, 309, 310, 311, 411, 412, 413, 414, 415, 416, 417, 435, 436, 437, 433, 434, 418, 419, 420, 421, 422, 423, 424, 425, 426, 438, 439, 440, 441, 442, 443, 444, 445, 427, 428, 429, 430, 431, 432] (by decide +kernel) (by decide +kernel)) (goodIn_sub (fun _ h => List.mem_cons_of_mem _ (List.mem_append_right _ h)) (by decide +kernel))
set_option maxRecDepth 20000 in
theorem gL_isAnswerSo_X5_ifEntered : GoodIn wsL_isAnswerSo (wsV RL 98 RX5 yX5_ifEntered wsX5_ifEntered) := goodIn_app (goodIn_of _ (by decide +kernel)) ggL_isAnswerSo_X5_ifEntered
set_option maxRecDepth 20000 in
theorem ggL_isAnswerSo_L_isEnterSo : GoodIn wsL_isAnswerSo wsL_isEnterSo := goodIn_ca (goodIn_ca (goodIn_ca (goodIn_r _ [314, 315, 316, 317, 4, 318, 319, 6, 17, 18, 320, 25, 321, 322, 323, 14, 15, 16, 324, 325, 326, 327, 328, 329, 330, 331, 332, 333, 334, 335, 336, 337, 238, 239, 29, 240, 191, 192, 241, 242, 243, 244, 31, 190, 338, 2, 3, 5, 7, 339, 340, 341, 342, 343, 344, 345, 346, 347, 348, 349, 350, 351, 352, 353, 354, 355, 356, 357, 358, 359, 360, 361, 362, 363, 364, 246, 247, 248, 249, 250, 251, 252, 253, 254, 208, 209, 210, 188, 189, 365, 366, 10, 367, 368, 369, 13, 370, 371, 372, 373, 23, 24, 26, 27, 28, 30, 374, 375, 376, 377, 378, 379, 380, 381, 382, 383, 384, 385, 66, 67, 68, 69, 70, 71, 72, 73, 74, 75, 76, 77, 78, 38, 39, 79, 80, 81, 82, 83, 84, 85, 86, 87, 88, 89, 90, 91, 92, 93, 94, 95, 96, 97, 98, 99, 100, 101, 102, 103, 104, 105, 40, 41, 42, 43, 44, 45, 46, 47, 48, 49, 50, 106, 107, 108, 109, 52, 53, 54, 55, 56, 57, 110, 111, 112, 113, 114, 115, 116, 117, 118, 119, 120, 121, 122, 123, 124, 125, 126, 127, 128, 129, 130, 131, 132, 133, 134, 135, 136, 137, 138, 139, 140, 141, 142, 143, 144, 145, 146, 147, 148, 149, 150, 151, 152, 153, 154, 155, 156, 157, 158, 159, 160, 161, 162, 163, 164, 165, 166, 167, 168, 169, 170, 171, 172, 173, 174, 175, 176, 177, 178, 179, 180, 181, 182, 183, 184, 185, 186, 187, 193, 194, 195, 196, 197, 198, 199, 200, 201, 202, 203, 204, 205, 206, 207, 211, 212, 213, 214, 215, 216, 217, 218, 219, 220, 221, 222, 223, 224, 225, 226, 227, 228, 229, 230, 231, 232, 233, 234, 235, 236, 237, 245, 255, 256, 257, 258, 259, 260, 261, 262, 263, 264, 265, 266, 267, 268, 269, 270, 271, 272, 273, 274, 275, 276, 277, 278, 279, 280, 281, 282, 283, 284, 285, 286, 287, 288, 289, 290, 291, 292, 293, 294, 295, 296, 297, 298, 299, 300, 301, 302, 303, 304, 305, 306, 307, 308, 309, 310, 311, 386, 387, 388, 389, 390, 391, 392, 393, 394, 395, 396, 397, 398, 399, 1, 400, 401, 402, 403, 404, 405, 406, 407, 408, 409, 410, 36, 37, 411, 412, 413, 414, 415, 416, 417, 418, 419, 420, 421, 422, 423, 424, 425, 426, 427, 428, 429, 430, 431, 432, 435, 436, 437, 433, 434, 438, 439, 440, 441, 442, 443, 444, 445] (by decide +kernel) (by decide +kernel)) (goodIn_sub (fun _ h => List.mem_cons_of_mem _ (List.mem_append_left _ (List.mem_append_left _ (List.mem_append_right _ h)))) (by decide +kernel))) (goodIn_sub (fun _ h => List.mem_cons_of_mem _ (List.mem_append_right _ h)) (by decide +kernel))) (goodIn_sub (fun _ h => List.mem_cons_of_mem _ (List.mem_append_left _ (List.mem_append_right _ h))) (by decide +kernel))
set_option maxRecDepth 20000 in
theorem gL_isAnswerSo_L_isEnterSo : GoodIn wsL_isAnswerSo (va_wsS RL 110 yL_isEnterSo wsL_isEnterSo) := goodIn_app (goodIn_of _ (by decide +kernel)) ggL_isAnswerSo_L_isEnterSo
theorem dL_isAnswerSo_0 : decode cL_isAnswerSo 0 = .ok (.aload_n 0, 1) := by decide +kernel
theorem dL_isAnswerSo_1 : decode cL_isAnswerSo 1 = .ok (.invokevirtual 72, 3) := by decide +kernel
theorem dL_isAnswerSo_4 : decode cL_isAnswerSo 4 = .ok (.istore_n 2, 1) := by decide +kernel
theorem dL_isAnswerSo_5 : decode cL_isAnswerSo 5 = .ok (.iload_n 1, 1) := by decide +kernel
theorem dL_isAnswerSo_6 : decode cL_isAnswerSo 6 = .ok (.bipush 12, 2) := by decide +kernel
theorem dL_isAnswerSo_8 : decode cL_isAnswerSo 8 = .ok (.invokestatic 14, 3) := by decide +kernel
theorem dL_isAnswerSo_11 : decode cL_isAnswerSo 11 = .ok (.istore_n 3, 1) := by decide +kernel
theorem dL_isAnswerSo_12 : decode cL_isAnswerSo 12 = .ok (.iconst 0, 1) := by decide +kernel
theorem dL_isAnswerSo_13 : decode cL_isAnswerSo 13 = .ok (.istore 4, 2) := by decide +kernel
theorem dL_isAnswerSo_15 : decode cL_isAnswerSo 15 = .ok (.iload 4, 2) := by decide +kernel
theorem dL_isAnswerSo_17 : decode cL_isAnswerSo 17 = .ok (.bipush 12, 2) := by decide +kernel
theorem dL_isAnswerSo_19 : decode cL_isAnswerSo 19 = .ok (.if_icmp .ge 24, 3) := by decide +kernel
theorem dL_isAnswerSo_22 : decode cL_isAnswerSo 22 = .ok (.iload_n 2, 1) := by decide +kernel
theorem dL_isAnswerSo_23 : decode cL_isAnswerSo 23 = .ok (.iload_n 3, 1) := by decide +kernel
theorem dL_isAnswerSo_24 : decode cL_isAnswerSo 24 = .ok (.ishr, 1) := by decide +kernel
theorem dL_isAnswerSo_25 : decode cL_isAnswerSo 25 = .ok (.iconst 1, 1) := by decide +kernel
theorem dL_isAnswerSo_26 : decode cL_isAnswerSo 26 = .ok (.iand, 1) := by decide +kernel
theorem dL_isAnswerSo_27 : decode cL_isAnswerSo 27 = .ok (.ifCond .ne 16, 3) := by decide +kernel
theorem dL_isAnswerSo_30 : decode cL_isAnswerSo 30 = .ok (.iload_n 3, 1) := by decide +kernel
theorem dL_isAnswerSo_31 : decode cL_isAnswerSo 31 = .ok (.iconst 1, 1) := by decide +kernel
theorem dL_isAnswerSo_32 : decode cL_isAnswerSo 32 = .ok (.iadd, 1) := by decide +kernel
theorem dL_isAnswerSo_33 : decode cL_isAnswerSo 33 = .ok (.bipush 12, 2) := by decide +kernel
theorem dL_isAnswerSo_35 : decode cL_isAnswerSo 35 = .ok (.irem, 1) := by decide +kernel
theorem dL_isAnswerSo_36 : decode cL_isAnswerSo 36 = .ok (.istore_n 3, 1) := by decide +kernel
theorem dL_isAnswerSo_37 : decode cL_isAnswerSo 37 = .ok (.iinc 4 1, 3) := by decide +kernel
theorem dL_isAnswerSo_40 : decode cL_isAnswerSo 40 = .ok (.goto (-25), 3) := by decide +kernel
theorem dL_isAnswerSo_43 : decode cL_isAnswerSo 43 = .ok (.iconst 0, 1) := by decide +kernel
theorem dL_isAnswerSo_44 : decode cL_isAnswerSo 44 = .ok (.istore 4, 2) := by decide +kernel
theorem dL_isAnswerSo_46 : decode cL_isAnswerSo 46 = .ok (.iconst 0, 1) := by decide +kernel
theorem dL_isAnswerSo_47 : decode cL_isAnswerSo 47 = .ok (.istore 5, 2) := by decide +kernel
theorem dL_isAnswerSo_49 : decode cL_isAnswerSo 49 = .ok (.iload 5, 2) := by decide +kernel
theorem dL_isAnswerSo_51 : decode cL_isAnswerSo 51 = .ok (.aload_n 0, 1) := by decide +kernel
theorem dL_isAnswerSo_52 : decode cL_isAnswerSo 52 = .ok (.invokevirtual 20, 3) := by decide +kernel
theorem dL_isAnswerSo_55 : decode cL_isAnswerSo 55 = .ok (.if_icmp .ge 43, 3) := by decide +kernel
theorem dL_isAnswerSo_58 : decode cL_isAnswerSo 58 = .ok (.iload 4, 2) := by decide +kernel
theorem dL_isAnswerSo_60 : decode cL_isAnswerSo 60 = .ok (.iload_n 2, 1) := by decide +kernel
theorem dL_isAnswerSo_61 : decode cL_isAnswerSo 61 = .ok (.iload 5, 2) := by decide +kernel
theorem dL_isAnswerSo_63 : decode cL_isAnswerSo 63 = .ok (.ishr, 1) := by decide +kernel
theorem dL_isAnswerSo_64 : decode cL_isAnswerSo 64 = .ok (.iconst 1, 1) := by decide +kernel
theorem dL_isAnswerSo_65 : decode cL_isAnswerSo 65 = .ok (.iand, 1) := by decide +kernel
theorem dL_isAnswerSo_66 : decode cL_isAnswerSo 66 = .ok (.iconst 1, 1) := by decide +kernel
theorem dL_isAnswerSo_67 : decode cL_isAnswerSo 67 = .ok (.if_icmp .ne 21, 3) := by decide +kernel
theorem dL_isAnswerSo_70 : decode cL_isAnswerSo 70 = .ok (.aload_n 0, 1) := by decide +kernel
theorem dL_isAnswerSo_71 : decode cL_isAnswerSo 71 = .ok (.iload 5, 2) := by decide +kernel
theorem dL_isAnswerSo_73 : decode cL_isAnswerSo 73 = .ok (.invokevirtual 41, 3) := by decide +kernel
theorem dL_isAnswerSo_76 : decode cL_isAnswerSo 76 = .ok (.aload_n 0, 1) := by decide +kernel
theorem dL_isAnswerSo_77 : decode cL_isAnswerSo 77 = .ok (.iload_n 3, 1) := by decide +kernel
theorem dL_isAnswerSo_78 : decode cL_isAnswerSo 78 = .ok (.invokevirtual 41, 3) := by decide +kernel
theorem dL_isAnswerSo_81 : decode cL_isAnswerSo 81 = .ok (.if_icmp .ne 7, 3) := by decide +kernel
theorem dL_isAnswerSo_84 : decode cL_isAnswerSo 84 = .ok (.iconst 1, 1) := by decide +kernel
theorem dL_isAnswerSo_85 : decode cL_isAnswerSo 85 = .ok (.goto 4, 3) := by decide +kernel
theorem dL_isAnswerSo_88 : decode cL_isAnswerSo 88 = .ok (.iconst 0, 1) := by decide +kernel
theorem dL_isAnswerSo_89 : decode cL_isAnswerSo 89 = .ok (.iadd, 1) := by decide +kernel
theorem dL_isAnswerSo_90 : decode cL_isAnswerSo 90 = .ok (.istore 4, 2) := by decide +kernel
theorem dL_isAnswerSo_92 : decode cL_isAnswerSo 92 = .ok (.iinc 5 1, 3) := by decide +kernel
theorem dL_isAnswerSo_95 : decode cL_isAnswerSo 95 = .ok (.goto (-46), 3) := by decide +kernel
theorem dL_isAnswerSo_98 : decode cL_isAnswerSo 98 = .ok (.aload_n 0, 1) := by decide +kernel
theorem dL_isAnswerSo_99 : decode cL_isAnswerSo 99 = .ok (.bipush 6, 2) := by decide +kernel
theorem dL_isAnswerSo_101 : decode cL_isAnswerSo 101 = .ok (.aload_n 0, 1) := by decide +kernel
theorem dL_isAnswerSo_102 : decode cL_isAnswerSo 102 = .ok (.iload_n 3, 1) := by decide +kernel
theorem dL_isAnswerSo_103 : decode cL_isAnswerSo 103 = .ok (.invokevirtual 41, 3) := by decide +kernel
theorem dL_isAnswerSo_106 : decode cL_isAnswerSo 106 = .ok (.iadd, 1) := by decide +kernel
theorem dL_isAnswerSo_107 : decode cL_isAnswerSo 107 = .ok (.invokevirtual 38, 3) := by decide +kernel
theorem dL_isAnswerSo_110 : decode cL_isAnswerSo 110 = .ok (.pop, 1) := by decide +kernel
theorem dL_isAnswerSo_111 : decode cL_isAnswerSo 111 = .ok (.iload_n 1, 1) := by decide +kernel
theorem dL_isAnswerSo_112 : decode cL_isAnswerSo 112 = .ok (.iconst 4, 1) := by decide +kernel
theorem dL_isAnswerSo_113 : decode cL_isAnswerSo 113 = .ok (.ishr, 1) := by decide +kernel
theorem dL_isAnswerSo_114 : decode cL_isAnswerSo 114 = .ok (.iconst 1, 1) := by decide +kernel
theorem dL_isAnswerSo_115 : decode cL_isAnswerSo 115 = .ok (.iand, 1) := by decide +kernel
theorem dL_isAnswerSo_116 : decode cL_isAnswerSo 116 = .ok (.ifCond .ne 10, 3) := by decide +kernel
theorem dL_isAnswerSo_119 : decode cL_isAnswerSo 119 = .ok (.aload_n 0, 1) := by decide +kernel
theorem dL_isAnswerSo_120 : decode cL_isAnswerSo 120 = .ok (.bipush 24, 2) := by decide +kernel
theorem dL_isAnswerSo_122 : decode cL_isAnswerSo 122 = .ok (.invokevirtual 38, 3) := by decide +kernel
theorem dL_isAnswerSo_125 : decode cL_isAnswerSo 125 = .ok (.pop, 1) := by decide +kernel
theorem dL_isAnswerSo_126 : decode cL_isAnswerSo 126 = .ok (.aload_n 0, 1) := by decide +kernel
theorem dL_isAnswerSo_127 : decode cL_isAnswerSo 127 = .ok (.invokevirtual 98, 3) := by decide +kernel
theorem dL_isAnswerSo_130 : decode cL_isAnswerSo 130 = .ok (.istore 5, 2) := by decide +kernel
theorem dL_isAnswerSo_132 : decode cL_isAnswerSo 132 = .ok (.iload 5, 2) := by decide +kernel
theorem dL_isAnswerSo_134 : decode cL_isAnswerSo 134 = .ok (.bipush (-5), 2) := by decide +kernel
theorem dL_isAnswerSo_136 : decode cL_isAnswerSo 136 = .ok (.if_icmp .ne 7, 3) := by decide +kernel
theorem dL_isAnswerSo_139 : decode cL_isAnswerSo 139 = .ok (.iconst 1, 1) := by decide +kernel
theorem dL_isAnswerSo_140 : decode cL_isAnswerSo 140 = .ok (.goto 4, 3) := by decide +kernel
theorem dL_isAnswerSo_143 : decode cL_isAnswerSo 143 = .ok (.iconst 0, 1) := by decide +kernel
theorem dL_isAnswerSo_144 : decode cL_isAnswerSo 144 = .ok (.iload 4, 2) := by decide +kernel
theorem dL_isAnswerSo_146 : decode cL_isAnswerSo 146 = .ok (.iconst 1, 1) := by decide +kernel
theorem dL_isAnswerSo_147 : decode cL_isAnswerSo 147 = .ok (.if_icmp .le 7, 3) := by decide +kernel
theorem dL_isAnswerSo_150 : decode cL_isAnswerSo 150 = .ok (.iconst 1, 1) := by decide +kernel
theorem dL_isAnswerSo_151 : decode cL_isAnswerSo 151 = .ok (.goto 4, 3) := by decide +kernel
theorem dL_isAnswerSo_154 : decode cL_isAnswerSo 154 = .ok (.iconst 0, 1) := by decide +kernel
theorem dL_isAnswerSo_155 : decode cL_isAnswerSo 155 = .ok (.if_icmp .ne 27, 3) := by decide +kernel
theorem dL_isAnswerSo_158 : decode cL_isAnswerSo 158 = .ok (.aload_n 0, 1) := by decide +kernel
theorem dL_isAnswerSo_159 : decode cL_isAnswerSo 159 = .ok (.iload_n 1, 1) := by decide +kernel
theorem dL_isAnswerSo_160 : decode cL_isAnswerSo 160 = .ok (.iconst 5, 1) := by decide +kernel
theorem dL_isAnswerSo_161 : decode cL_isAnswerSo 161 = .ok (.ishr, 1) := by decide +kernel
theorem dL_isAnswerSo_162 : decode cL_isAnswerSo 162 = .ok (.iconst 3, 1) := by decide +kernel
theorem dL_isAnswerSo_163 : decode cL_isAnswerSo 163 = .ok (.iand, 1) := by decide +kernel
theorem dL_isAnswerSo_164 : decode cL_isAnswerSo 164 = .ok (.ifCond .ne 7, 3) := by decide +kernel
theorem dL_isAnswerSo_167 : decode cL_isAnswerSo 167 = .ok (.iconst 1, 1) := by decide +kernel
theorem dL_isAnswerSo_168 : decode cL_isAnswerSo 168 = .ok (.goto 4, 3) := by decide +kernel
theorem dL_isAnswerSo_171 : decode cL_isAnswerSo 171 = .ok (.iconst 0, 1) := by decide +kernel
theorem dL_isAnswerSo_172 : decode cL_isAnswerSo 172 = .ok (.invokestatic 110, 3) := by decide +kernel
theorem dL_isAnswerSo_175 : decode cL_isAnswerSo 175 = .ok (.ifCond .eq 7, 3) := by decide +kernel
theorem dL_isAnswerSo_178 : decode cL_isAnswerSo 178 = .ok (.iconst 1, 1) := by decide +kernel
theorem dL_isAnswerSo_179 : decode cL_isAnswerSo 179 = .ok (.goto 4, 3) := by decide +kernel
theorem dL_isAnswerSo_182 : decode cL_isAnswerSo 182 = .ok (.iconst 0, 1) := by decide +kernel
theorem dL_isAnswerSo_183 : decode cL_isAnswerSo 183 = .ok (.ireturn, 1) := by decide +kernel
set_option maxRecDepth 20000 in
theorem ggL_areAllButSo_L_low : GoodIn wsL_areAllButSo wsL_low := goodIn_r _ [4, 5] (by decide +kernel) (by decide +kernel)
set_option maxRecDepth 20000 in
theorem gL_areAllButSo_L_low : GoodIn wsL_areAllButSo (va_wsS RL 14 yL_low wsL_low) := goodIn_app (goodIn_of _ (by decide +kernel)) ggL_areAllButSo_L_low
set_option maxRecDepth 20000 in
theorem ggL_areAllButSo_X5_fitting : GoodIn wsL_areAllButSo wsX5_fitting := goodIn_ca (goodIn_r _ [10, 11, 12, 13, 14, 15, 16, 9, 17, 18, 19, 20, 21, 22, 23, 24, 25, 26, 27, 28, 400, 401, 402, 403, 404, 405, 406, 407, 408, 409, 410, 411, 412, 413, 414, 415, 416, 417, 418, 419, 420, 421] (by decide +kernel) (by decide +kernel)) (goodIn_sub (fun _ h => List.mem_cons_of_mem _ (List.mem_append_left _ (List.mem_append_left _ (List.mem_append_right _ h)))) (by decide +kernel))
set_option maxRecDepth 20000 in
theorem gL_areAllButSo_X5_fitting : GoodIn wsL_areAllButSo (wsV RL 24 RX5 yX5_fitting wsX5_fitting) := goodIn_app (goodIn_of _ (by decide +kernel)) ggL_areAllButSo_X5_fitting
set_option maxRecDepth 20000 in
theorem ggL_areAllButSo_X5_suitable : GoodIn wsL_areAllButSo wsX5_suitable := goodIn_ca (goodIn_r _ [32, 11, 12, 13, 14, 33, 34, 35, 24, 36, 37, 38, 39, 40, 41, 26, 42, 43, 44, 45, 46, 47, 48, 49, 50, 51, 52, 22, 23, 25, 27, 28, 400, 401, 402, 403, 404, 405, 406, 407, 408, 409, 410, 411, 412, 413, 414, 415, 416, 417, 418, 419, 420, 421] (by decide +kernel) (by decide +kernel)) (goodIn_sub (fun _ h => List.mem_cons_of_mem _ (List.mem_append_left _ (List.mem_append_left _ (List.mem_append_right _ h)))) (by decide +kernel))
set_option maxRecDepth 20000 in
theorem gL_areAllButSo_X5_suitable : GoodIn wsL_areAllButSo (wsV RL 60 RX5 yX5_suitable wsX5_suitable) := goodIn_app (goodIn_of _ (by decide +kernel)) ggL_areAllButSo_X5_suitable
set_option maxRecDepth 20000 in
theorem ggL_areAllButSo_X5_objectsAt : GoodIn wsL_areAllButSo wsX5_objectsAt := goodIn_ca (goodIn_r _ [56, 11, 12, 13, 14, 57, 39, 40, 24, 41, 26, 42, 58, 59, 60, 61, 62, 63, 64, 400, 401, 402, 403, 404, 405, 406, 407, 408, 409, 410, 411, 412, 413, 414, 415, 416, 417, 418, 419, 420, 421] (by decide +kernel) (by decide +kernel)) (goodIn_sub (fun _ h => List.mem_cons_of_mem _ (List.mem_append_left _ (List.mem_append_left _ (List.mem_append_right _ h)))) (by decide +kernel))
set_option maxRecDepth 20000 in
theorem gL_areAllButSo_X5_objectsAt : GoodIn wsL_areAllButSo (wsV RL 31 RX5 yX5_objectsAt wsX5_objectsAt) := goodIn_app (goodIn_of _ (by decide +kernel)) ggL_areAllButSo_X5_objectsAt
set_option maxRecDepth 20000 in
theorem ggL_areAllButSo_L_size : GoodIn wsL_areAllButSo wsL_size := goodIn_r _ [67] (by decide +kernel) (by decide +kernel)
set_option maxRecDepth 20000 in
theorem gL_areAllButSo_L_size : GoodIn wsL_areAllButSo (va_wsS RL 69 yL_size wsL_size) := goodIn_app (goodIn_of _ (by decide +kernel)) ggL_areAllButSo_L_size
set_option maxRecDepth 20000 in
theorem ggL_areAllButSo_X5_digest : GoodIn wsL_areAllButSo wsX5_digest := goodIn_r _ [71, 72, 13, 14, 73, 74, 75, 76, 77, 78, 79, 80, 9, 81, 82, 83, 84, 85, 86, 87, 88, 89, 90, 91, 92, 93, 94, 95, 44, 45, 24, 46, 47, 37, 38, 39, 40, 41, 26, 42, 96, 97, 98, 99, 100, 101, 102, 103, 104, 105, 106, 107, 108, 109, 110, 111, 112, 113, 114, 115, 116, 117, 118, 119, 120, 121, 122, 123, 124, 125, 33, 34, 35, 36, 43, 48, 49, 50, 51, 52, 22, 23, 25, 27, 28, 400, 401, 402, 403, 404, 405, 406, 407, 408, 409, 410, 411, 412, 413, 414, 415, 416, 417, 418, 419, 420, 421] (by decide +kernel) (by decide +kernel)
set_option maxRecDepth 20000 in
theorem gL_areAllButSo_X5_digest : GoodIn wsL_areAllButSo (wsV RL 78 RX5 yX5_digest wsX5_digest) := goodIn_app (goodIn_of _ (by decide +kernel)) ggL_areAllButSo_X5_digest
set_option maxRecDepth 20000 in
theorem ggL_areAllButSo_X5_appendWord : GoodIn wsL_areAllButSo wsX5_appendWord := goodIn_ca (goodIn_ca (goodIn_r _ [129, 11, 12, 130, 131, 132, 133, 134, 135, 136, 137, 138, 139, 140, 141, 142, 143, 144, 145, 146, 9, 147, 148, 149, 150, 151, 152, 153, 154, 155, 156, 157, 158, 159, 400, 401, 402, 403, 404, 405, 406, 422, 423] (by decide +kernel) (by decide +kernel)) (goodIn_sub (fun _ h => List.mem_cons_of_mem _ (List.mem_append_left _ (List.mem_append_left _ (List.mem_append_right _ h)))) (by decide +kernel))) (goodIn_sub (fun _ h => List.mem_cons_of_mem _ (List.mem_append_left _ (List.mem_append_right _ h))) (by decide +kernel))
set_option maxRecDepth 20000 in
theorem gL_areAllButSo_X5_appendWord : GoodIn wsL_areAllButSo (wsV RL 38 RX5 yX5_appendWord wsX5_appendWord) := goodIn_app (goodIn_of _ (by decide +kernel)) ggL_areAllButSo_X5_appendWord
set_option maxRecDepth 20000 in
theorem ggL_areAllButSo_X5_enter : GoodIn wsL_areAllButSo wsX5_enter := goodIn_ca (goodIn_r _ [163, 164, 165, 132, 133, 13, 166, 167, 168, 169, 170, 9, 171, 172, 173, 174, 175, 176, 177, 178, 179, 180, 181, 182, 183, 184, 185, 186, 187, 188, 189, 190, 191, 192, 193, 194, 195, 196, 197, 198, 134, 135, 136, 137, 138, 139, 140, 141, 142, 143, 144, 199, 200, 201, 202, 146, 147, 148, 149, 150, 151, 203, 204, 205, 206, 207, 208, 209, 210, 211, 212, 213, 214, 215, 216, 217, 218, 219, 220, 221, 222, 223, 224, 225, 16, 17, 226, 227, 228, 229, 230, 231, 232, 233, 234, 235, 236, 237, 238, 239, 240, 241, 242, 243, 244, 245, 246, 247, 248, 249, 250, 251, 252, 253, 254, 255, 256, 257, 258, 259, 260, 261, 262, 263, 264, 265, 266, 267, 268, 269, 270, 271, 272, 273, 274, 275, 276, 277, 278, 279, 280, 281, 282, 283, 284, 285, 286, 287, 288, 24, 289, 27, 28, 42, 26, 47, 37, 290, 291, 292, 293, 294, 295, 296, 297, 298, 299, 300, 301, 302, 303, 304, 22, 23, 25, 305, 59, 60, 61, 62, 63, 64, 306, 307, 308, 309, 310, 311, 312, 313, 314, 315, 316, 317, 318, 319, 320, 321, 322, 323, 324, 325, 44, 45, 46, 38, 39, 40, 41, 326, 34, 35, 36, 43, 48, 49, 50, 51, 52, 327, 328, 329, 330, 331, 332, 333, 334, 335, 336, 337, 338, 339, 340, 341, 342, 343, 344, 345, 346, 347, 348, 349, 350, 351, 352, 353, 354, 355, 356, 357, 358, 359, 360, 361, 362, 363, 364, 365, 366, 367, 368, 369, 370, 371, 372, 373, 374, 375, 376, 377, 378, 379, 380, 381, 382, 383, 384, 385, 386, 400, 401, 402, 403, 404, 405, 406, 422, 423, 424, 425, 426, 407, 408, 409, 410, 411, 412, 413, 414, 415, 427, 428, 429, 430, 431, 432, 433, 434, 416, 417, 418, 419, 420, 421] (by decide +kernel) (by decide +kernel)) (goodIn_sub (fun _ h => List.mem_cons_of_mem _ (List.mem_append_right _ h)) (by decide +kernel))
set_option maxRecDepth 20000 in
theorem gL_areAllButSo_X5_enter : GoodIn wsL_areAllButSo (wsV RL 101 RX5 yX5_enter wsX5_enter) := goodIn_app (goodIn_of _ (by decide +kernel)) ggL_areAllButSo_X5_enter
set_option maxRecDepth 20000 in
theorem ggL_areAllButSo_X5_it : GoodIn wsL_areAllButSo wsX5_it := goodIn_r _ [104, 13, 105, 400, 401, 402, 403, 404, 405, 406, 407, 408, 409, 410, 411, 412, 413, 414, 415] (by decide +kernel) (by decide +kernel)
set_option maxRecDepth 20000 in
theorem gL_areAllButSo_X5_it : GoodIn wsL_areAllButSo (wsV RL 75 RX5 yX5_it wsX5_it) := goodIn_app (goodIn_of _ (by decide +kernel)) ggL_areAllButSo_X5_it
set_option maxRecDepth 20000 in
theorem ggL_areAllButSo_X5_them : GoodIn wsL_areAllButSo wsX5_them := goodIn_r _ [109, 13, 110, 400, 401, 402, 403, 404, 405, 406, 407, 408, 409, 410, 411, 412, 413, 414, 415] (by decide +kernel) (by decide +kernel)
set_option maxRecDepth 20000 in
theorem gL_areAllButSo_X5_them : GoodIn wsL_areAllButSo (wsV RL 66 RX5 yX5_them wsX5_them) := goodIn_app (goodIn_of _ (by decide +kernel)) ggL_areAllButSo_X5_them
set_option maxRecDepth 20000 in
theorem ggL_areAllButSo_X5_objects : GoodIn wsL_areAllButSo wsX5_objects := goodIn_r _ [81, 13, 14, 73, 400, 401, 402, 403, 404, 405, 406, 407, 408, 409, 410, 411, 412, 413, 414, 415, 416, 417, 418, 419, 420, 421] (by decide +kernel) (by decide +kernel)
set_option maxRecDepth 20000 in
theorem gL_areAllButSo_X5_objects : GoodIn wsL_areAllButSo (wsV RL 20 RX5 yX5_objects wsX5_objects) := goodIn_app (goodIn_of _ (by decide +kernel)) ggL_areAllButSo_X5_objects
set_option maxRecDepth 20000 in
theorem ggL_areAllButSo_X5_place : GoodIn wsL_areAllButSo wsX5_place := goodIn_ca (goodIn_r _ [393, 11, 12, 13, 14, 76, 394, 375, 376, 24, 377, 26, 400, 401, 402, 403, 404, 405, 406, 407, 408, 409, 410, 411, 412, 413, 414, 415, 416, 417, 418, 419, 420, 421] (by decide +kernel) (by decide +kernel)) (goodIn_sub (fun _ h => List.mem_cons_of_mem _ (List.mem_append_left _ (List.mem_append_left _ (List.mem_append_right _ h)))) (by decide +kernel))
set_option maxRecDepth 20000 in
theorem gL_areAllButSo_X5_place : GoodIn wsL_areAllButSo (wsV RL 53 RX5 yX5_place wsX5_place) := goodIn_app (goodIn_of _ (by decide +kernel)) ggL_areAllButSo_X5_place
set_option maxRecDepth 20000 in
theorem ggL_areAllButSo_X5_room : GoodIn wsL_areAllButSo wsX5_room := goodIn_r _ [89, 13, 14, 90, 400, 401, 402, 403, 404, 405, 406, 407, 408, 409, 410, 411, 412, 413, 414, 415, 416, 417, 418, 419, 420, 421] (by decide +kernel) (by decide +kernel)
set_option maxRecDepth 20000 in
theorem gL_areAllButSo_X5_room : GoodIn wsL_areAllButSo (wsV RL 48 RX5 yX5_room wsX5_room) := goodIn_app (goodIn_of _ (by decide +kernel)) ggL_areAllButSo_X5_room
set_option maxRecDepth 20000 in
theorem ggL_areAllButSo_X5_undo : GoodIn wsL_areAllButSo wsX5_undo := goodIn_ca (goodIn_r _ [399, 130, 131, 269, 267, 13, 268, 270, 271, 272, 9, 273, 274, 275, 276, 175, 277, 278, 279, 280, 281, 282, 283, 284, 285, 177, 286, 287, 288, 24, 289, 27, 28, 42, 26, 47, 37, 290, 291, 292, 189, 293, 191, 192, 193, 194, 195, 196, 197, 198, 400, 401, 402, 403, 404, 405, 406, 407, 408, 409, 410, 411, 412, 413, 414, 415, 416, 417, 418, 419, 420, 421, 427, 428, 429, 430, 431, 432, 433, 434] (by decide +kernel) (by decide +kernel)) (goodIn_sub (fun _ h => List.mem_cons_of_mem _ (List.mem_append_left _ (List.mem_append_right _ h))) (by decide +kernel))
set_option maxRecDepth 20000 in
theorem gL_areAllButSo_X5_undo : GoodIn wsL_areAllButSo (wsV RL 107 RX5 yX5_undo wsX5_undo) := goodIn_app (goodIn_of _ (by decide +kernel)) ggL_areAllButSo_X5_undo
theorem dL_areAllButSo_0 : decode cL_areAllButSo 0 = .ok (.iload_n 1, 1) := by decide +kernel
theorem dL_areAllButSo_1 : decode cL_areAllButSo 1 = .ok (.iconst 4, 1) := by decide +kernel
theorem dL_areAllButSo_2 : decode cL_areAllButSo 2 = .ok (.ishr, 1) := by decide +kernel
theorem dL_areAllButSo_3 : decode cL_areAllButSo 3 = .ok (.bipush 6, 2) := by decide +kernel
theorem dL_areAllButSo_5 : decode cL_areAllButSo 5 = .ok (.invokestatic 14, 3) := by decide +kernel
theorem dL_areAllButSo_8 : decode cL_areAllButSo 8 = .ok (.istore_n 2, 1) := by decide +kernel
theorem dL_areAllButSo_9 : decode cL_areAllButSo 9 = .ok (.iload_n 1, 1) := by decide +kernel
theorem dL_areAllButSo_10 : decode cL_areAllButSo 10 = .ok (.bipush 7, 2) := by decide +kernel
theorem dL_areAllButSo_12 : decode cL_areAllButSo 12 = .ok (.ishr, 1) := by decide +kernel
theorem dL_areAllButSo_13 : decode cL_areAllButSo 13 = .ok (.iconst 2, 1) := by decide +kernel
theorem dL_areAllButSo_14 : decode cL_areAllButSo 14 = .ok (.invokestatic 14, 3) := by decide +kernel
theorem dL_areAllButSo_17 : decode cL_areAllButSo 17 = .ok (.istore_n 3, 1) := by decide +kernel
theorem dL_areAllButSo_18 : decode cL_areAllButSo 18 = .ok (.aload_n 0, 1) := by decide +kernel
theorem dL_areAllButSo_19 : decode cL_areAllButSo 19 = .ok (.iload_n 2, 1) := by decide +kernel
theorem dL_areAllButSo_20 : decode cL_areAllButSo 20 = .ok (.iconst (-1), 1) := by decide +kernel
theorem dL_areAllButSo_21 : decode cL_areAllButSo 21 = .ok (.invokevirtual 24, 3) := by decide +kernel
theorem dL_areAllButSo_24 : decode cL_areAllButSo 24 = .ok (.istore 4, 2) := by decide +kernel
theorem dL_areAllButSo_26 : decode cL_areAllButSo 26 = .ok (.aload_n 0, 1) := by decide +kernel
theorem dL_areAllButSo_27 : decode cL_areAllButSo 27 = .ok (.iload_n 3, 1) := by decide +kernel
theorem dL_areAllButSo_28 : decode cL_areAllButSo 28 = .ok (.invokevirtual 60, 3) := by decide +kernel
theorem dL_areAllButSo_31 : decode cL_areAllButSo 31 = .ok (.iload 4, 2) := by decide +kernel
theorem dL_areAllButSo_33 : decode cL_areAllButSo 33 = .ok (.iconst (-1), 1) := by decide +kernel
theorem dL_areAllButSo_34 : decode cL_areAllButSo 34 = .ok (.ixor, 1) := by decide +kernel
theorem dL_areAllButSo_35 : decode cL_areAllButSo 35 = .ok (.iand, 1) := by decide +kernel
theorem dL_areAllButSo_36 : decode cL_areAllButSo 36 = .ok (.istore 5, 2) := by decide +kernel
theorem dL_areAllButSo_38 : decode cL_areAllButSo 38 = .ok (.aload_n 0, 1) := by decide +kernel
theorem dL_areAllButSo_39 : decode cL_areAllButSo 39 = .ok (.iconst 4, 1) := by decide +kernel
theorem dL_areAllButSo_40 : decode cL_areAllButSo 40 = .ok (.invokevirtual 31, 3) := by decide +kernel
theorem dL_areAllButSo_43 : decode cL_areAllButSo 43 = .ok (.istore 6, 2) := by decide +kernel
theorem dL_areAllButSo_45 : decode cL_areAllButSo 45 = .ok (.iload_n 3, 1) := by decide +kernel
theorem dL_areAllButSo_46 : decode cL_areAllButSo 46 = .ok (.ifCond .ne 11, 3) := by decide +kernel
theorem dL_areAllButSo_49 : decode cL_areAllButSo 49 = .ok (.bipush 6, 2) := by decide +kernel
theorem dL_areAllButSo_51 : decode cL_areAllButSo 51 = .ok (.iload 6, 2) := by decide +kernel
theorem dL_areAllButSo_53 : decode cL_areAllButSo 53 = .ok (.isub, 1) := by decide +kernel
theorem dL_areAllButSo_54 : decode cL_areAllButSo 54 = .ok (.goto 5, 3) := by decide +kernel
theorem dL_areAllButSo_57 : decode cL_areAllButSo 57 = .ok (.bipush 12, 2) := by decide +kernel
theorem dL_areAllButSo_59 : decode cL_areAllButSo 59 = .ok (.istore 7, 2) := by decide +kernel
theorem dL_areAllButSo_61 : decode cL_areAllButSo 61 = .ok (.iload 5, 2) := by decide +kernel
theorem dL_areAllButSo_63 : decode cL_areAllButSo 63 = .ok (.invokestatic 69, 3) := by decide +kernel
theorem dL_areAllButSo_66 : decode cL_areAllButSo 66 = .ok (.iload 7, 2) := by decide +kernel
theorem dL_areAllButSo_68 : decode cL_areAllButSo 68 = .ok (.if_icmp .ge 11, 3) := by decide +kernel
theorem dL_areAllButSo_71 : decode cL_areAllButSo 71 = .ok (.iload 5, 2) := by decide +kernel
theorem dL_areAllButSo_73 : decode cL_areAllButSo 73 = .ok (.invokestatic 69, 3) := by decide +kernel
theorem dL_areAllButSo_76 : decode cL_areAllButSo 76 = .ok (.goto 5, 3) := by decide +kernel
theorem dL_areAllButSo_79 : decode cL_areAllButSo 79 = .ok (.iload 7, 2) := by decide +kernel
theorem dL_areAllButSo_81 : decode cL_areAllButSo 81 = .ok (.istore 8, 2) := by decide +kernel
theorem dL_areAllButSo_83 : decode cL_areAllButSo 83 = .ok (.aload_n 0, 1) := by decide +kernel
theorem dL_areAllButSo_84 : decode cL_areAllButSo 84 = .ok (.invokevirtual 78, 3) := by decide +kernel
theorem dL_areAllButSo_87 : decode cL_areAllButSo 87 = .ok (.lstore 9, 2) := by decide +kernel
theorem dL_areAllButSo_89 : decode cL_areAllButSo 89 = .ok (.aload_n 0, 1) := by decide +kernel
theorem dL_areAllButSo_90 : decode cL_areAllButSo 90 = .ok (.bipush 10, 2) := by decide +kernel
theorem dL_areAllButSo_92 : decode cL_areAllButSo 92 = .ok (.iload_n 3, 1) := by decide +kernel
theorem dL_areAllButSo_93 : decode cL_areAllButSo 93 = .ok (.iadd, 1) := by decide +kernel
theorem dL_areAllButSo_94 : decode cL_areAllButSo 94 = .ok (.invokevirtual 38, 3) := by decide +kernel
theorem dL_areAllButSo_97 : decode cL_areAllButSo 97 = .ok (.pop, 1) := by decide +kernel
theorem dL_areAllButSo_98 : decode cL_areAllButSo 98 = .ok (.aload_n 0, 1) := by decide +kernel
theorem dL_areAllButSo_99 : decode cL_areAllButSo 99 = .ok (.bipush 17, 2) := by decide +kernel
theorem dL_areAllButSo_101 : decode cL_areAllButSo 101 = .ok (.invokevirtual 38, 3) := by decide +kernel
theorem dL_areAllButSo_104 : decode cL_areAllButSo 104 = .ok (.pop, 1) := by decide +kernel
theorem dL_areAllButSo_105 : decode cL_areAllButSo 105 = .ok (.aload_n 0, 1) := by decide +kernel
theorem dL_areAllButSo_106 : decode cL_areAllButSo 106 = .ok (.bipush 18, 2) := by decide +kernel
theorem dL_areAllButSo_108 : decode cL_areAllButSo 108 = .ok (.invokevirtual 38, 3) := by decide +kernel
theorem dL_areAllButSo_111 : decode cL_areAllButSo 111 = .ok (.pop, 1) := by decide +kernel
theorem dL_areAllButSo_112 : decode cL_areAllButSo 112 = .ok (.aload_n 0, 1) := by decide +kernel
theorem dL_areAllButSo_113 : decode cL_areAllButSo 113 = .ok (.iload_n 2, 1) := by decide +kernel
theorem dL_areAllButSo_114 : decode cL_areAllButSo 114 = .ok (.invokevirtual 38, 3) := by decide +kernel
theorem dL_areAllButSo_117 : decode cL_areAllButSo 117 = .ok (.pop, 1) := by decide +kernel
theorem dL_areAllButSo_118 : decode cL_areAllButSo 118 = .ok (.aload_n 0, 1) := by decide +kernel
theorem dL_areAllButSo_119 : decode cL_areAllButSo 119 = .ok (.invokevirtual 101, 3) := by decide +kernel
theorem dL_areAllButSo_122 : decode cL_areAllButSo 122 = .ok (.istore 11, 2) := by decide +kernel
theorem dL_areAllButSo_124 : decode cL_areAllButSo 124 = .ok (.iload 11, 2) := by decide +kernel
theorem dL_areAllButSo_126 : decode cL_areAllButSo 126 = .ok (.iload 5, 2) := by decide +kernel
theorem dL_areAllButSo_128 : decode cL_areAllButSo 128 = .ok (.ifCond .ne 8, 3) := by decide +kernel
theorem dL_areAllButSo_131 : decode cL_areAllButSo 131 = .ok (.bipush (-3), 2) := by decide +kernel
theorem dL_areAllButSo_133 : decode cL_areAllButSo 133 = .ok (.goto 5, 3) := by decide +kernel
theorem dL_areAllButSo_136 : decode cL_areAllButSo 136 = .ok (.iload 8, 2) := by decide +kernel
theorem dL_areAllButSo_138 : decode cL_areAllButSo 138 = .ok (.if_icmp .ne 44, 3) := by decide +kernel
theorem dL_areAllButSo_141 : decode cL_areAllButSo 141 = .ok (.iload 5, 2) := by decide +kernel
theorem dL_areAllButSo_143 : decode cL_areAllButSo 143 = .ok (.ifCond .eq 35, 3) := by decide +kernel
theorem dL_areAllButSo_146 : decode cL_areAllButSo 146 = .ok (.iload 5, 2) := by decide +kernel
theorem dL_areAllButSo_148 : decode cL_areAllButSo 148 = .ok (.invokestatic 69, 3) := by decide +kernel
theorem dL_areAllButSo_151 : decode cL_areAllButSo 151 = .ok (.iconst 1, 1) := by decide +kernel
theorem dL_areAllButSo_152 : decode cL_areAllButSo 152 = .ok (.if_icmp .ne 17, 3) := by decide +kernel
theorem dL_areAllButSo_155 : decode cL_areAllButSo 155 = .ok (.iconst 1, 1) := by decide +kernel
theorem dL_areAllButSo_156 : decode cL_areAllButSo 156 = .ok (.aload_n 0, 1) := by decide +kernel
theorem dL_areAllButSo_157 : decode cL_areAllButSo 157 = .ok (.invokevirtual 75, 3) := by decide +kernel
theorem dL_areAllButSo_160 : decode cL_areAllButSo 160 = .ok (.ishl, 1) := by decide +kernel
theorem dL_areAllButSo_161 : decode cL_areAllButSo 161 = .ok (.iload 5, 2) := by decide +kernel
theorem dL_areAllButSo_163 : decode cL_areAllButSo 163 = .ok (.if_icmp .ne 19, 3) := by decide +kernel
theorem dL_areAllButSo_166 : decode cL_areAllButSo 166 = .ok (.goto 12, 3) := by decide +kernel
theorem dL_areAllButSo_169 : decode cL_areAllButSo 169 = .ok (.aload_n 0, 1) := by decide +kernel
theorem dL_areAllButSo_170 : decode cL_areAllButSo 170 = .ok (.invokevirtual 66, 3) := by decide +kernel
theorem dL_areAllButSo_173 : decode cL_areAllButSo 173 = .ok (.iload 5, 2) := by decide +kernel
theorem dL_areAllButSo_175 : decode cL_areAllButSo 175 = .ok (.if_icmp .ne 7, 3) := by decide +kernel
theorem dL_areAllButSo_178 : decode cL_areAllButSo 178 = .ok (.iconst 1, 1) := by decide +kernel
theorem dL_areAllButSo_179 : decode cL_areAllButSo 179 = .ok (.goto 4, 3) := by decide +kernel
theorem dL_areAllButSo_182 : decode cL_areAllButSo 182 = .ok (.iconst 0, 1) := by decide +kernel
theorem dL_areAllButSo_183 : decode cL_areAllButSo 183 = .ok (.istore 12, 2) := by decide +kernel
theorem dL_areAllButSo_185 : decode cL_areAllButSo 185 = .ok (.iconst 0, 1) := by decide +kernel
theorem dL_areAllButSo_186 : decode cL_areAllButSo 186 = .ok (.istore 13, 2) := by decide +kernel
theorem dL_areAllButSo_188 : decode cL_areAllButSo 188 = .ok (.iconst 0, 1) := by decide +kernel
theorem dL_areAllButSo_189 : decode cL_areAllButSo 189 = .ok (.istore 14, 2) := by decide +kernel
theorem dL_areAllButSo_191 : decode cL_areAllButSo 191 = .ok (.iload 14, 2) := by decide +kernel
theorem dL_areAllButSo_193 : decode cL_areAllButSo 193 = .ok (.aload_n 0, 1) := by decide +kernel
theorem dL_areAllButSo_194 : decode cL_areAllButSo 194 = .ok (.invokevirtual 20, 3) := by decide +kernel
theorem dL_areAllButSo_197 : decode cL_areAllButSo 197 = .ok (.if_icmp .ge 92, 3) := by decide +kernel
theorem dL_areAllButSo_200 : decode cL_areAllButSo 200 = .ok (.iload 5, 2) := by decide +kernel
theorem dL_areAllButSo_202 : decode cL_areAllButSo 202 = .ok (.ifCond .eq 87, 3) := by decide +kernel
theorem dL_areAllButSo_205 : decode cL_areAllButSo 205 = .ok (.iload 5, 2) := by decide +kernel
theorem dL_areAllButSo_207 : decode cL_areAllButSo 207 = .ok (.iload 14, 2) := by decide +kernel
theorem dL_areAllButSo_209 : decode cL_areAllButSo 209 = .ok (.ishr, 1) := by decide +kernel
theorem dL_areAllButSo_210 : decode cL_areAllButSo 210 = .ok (.iconst 1, 1) := by decide +kernel
theorem dL_areAllButSo_211 : decode cL_areAllButSo 211 = .ok (.iand, 1) := by decide +kernel
theorem dL_areAllButSo_212 : decode cL_areAllButSo 212 = .ok (.iconst 1, 1) := by decide +kernel
theorem dL_areAllButSo_213 : decode cL_areAllButSo 213 = .ok (.if_icmp .ne 7, 3) := by decide +kernel
theorem dL_areAllButSo_216 : decode cL_areAllButSo 216 = .ok (.iconst 1, 1) := by decide +kernel
theorem dL_areAllButSo_217 : decode cL_areAllButSo 217 = .ok (.goto 4, 3) := by decide +kernel
theorem dL_areAllButSo_220 : decode cL_areAllButSo 220 = .ok (.iconst 0, 1) := by decide +kernel
theorem dL_areAllButSo_221 : decode cL_areAllButSo 221 = .ok (.istore 15, 2) := by decide +kernel
theorem dL_areAllButSo_223 : decode cL_areAllButSo 223 = .ok (.iload 13, 2) := by decide +kernel
theorem dL_areAllButSo_225 : decode cL_areAllButSo 225 = .ok (.iload 15, 2) := by decide +kernel
theorem dL_areAllButSo_227 : decode cL_areAllButSo 227 = .ok (.ifCond .eq 7, 3) := by decide +kernel
theorem dL_areAllButSo_230 : decode cL_areAllButSo 230 = .ok (.iconst 1, 1) := by decide +kernel
theorem dL_areAllButSo_231 : decode cL_areAllButSo 231 = .ok (.goto 4, 3) := by decide +kernel
theorem dL_areAllButSo_234 : decode cL_areAllButSo 234 = .ok (.iconst 0, 1) := by decide +kernel
theorem dL_areAllButSo_235 : decode cL_areAllButSo 235 = .ok (.iadd, 1) := by decide +kernel
theorem dL_areAllButSo_236 : decode cL_areAllButSo 236 = .ok (.istore 13, 2) := by decide +kernel
theorem dL_areAllButSo_238 : decode cL_areAllButSo 238 = .ok (.iload 12, 2) := by decide +kernel
theorem dL_areAllButSo_240 : decode cL_areAllButSo 240 = .ok (.ifCond .eq 40, 3) := by decide +kernel
theorem dL_areAllButSo_243 : decode cL_areAllButSo 243 = .ok (.iload 15, 2) := by decide +kernel
theorem dL_areAllButSo_245 : decode cL_areAllButSo 245 = .ok (.ifCond .eq 31, 3) := by decide +kernel
theorem dL_areAllButSo_248 : decode cL_areAllButSo 248 = .ok (.iload 13, 2) := by decide +kernel
theorem dL_areAllButSo_250 : decode cL_areAllButSo 250 = .ok (.iload 8, 2) := by decide +kernel
theorem dL_areAllButSo_252 : decode cL_areAllButSo 252 = .ok (.if_icmp .gt 24, 3) := by decide +kernel
theorem dL_areAllButSo_255 : decode cL_areAllButSo 255 = .ok (.aload_n 0, 1) := by decide +kernel
theorem dL_areAllButSo_256 : decode cL_areAllButSo 256 = .ok (.iload 14, 2) := by decide +kernel
theorem dL_areAllButSo_258 : decode cL_areAllButSo 258 = .ok (.invokevirtual 53, 3) := by decide +kernel
theorem dL_areAllButSo_261 : decode cL_areAllButSo 261 = .ok (.iload_n 3, 1) := by decide +kernel
theorem dL_areAllButSo_262 : decode cL_areAllButSo 262 = .ok (.ifCond .ne 7, 3) := by decide +kernel
theorem dL_areAllButSo_265 : decode cL_areAllButSo 265 = .ok (.iconst 4, 1) := by decide +kernel
theorem dL_areAllButSo_266 : decode cL_areAllButSo 266 = .ok (.goto 7, 3) := by decide +kernel
theorem dL_areAllButSo_269 : decode cL_areAllButSo 269 = .ok (.aload_n 0, 1) := by decide +kernel
theorem dL_areAllButSo_270 : decode cL_areAllButSo 270 = .ok (.invokevirtual 48, 3) := by decide +kernel
theorem dL_areAllButSo_273 : decode cL_areAllButSo 273 = .ok (.if_icmp .ne 7, 3) := by decide +kernel
theorem dL_areAllButSo_276 : decode cL_areAllButSo 276 = .ok (.iconst 1, 1) := by decide +kernel
theorem dL_areAllButSo_277 : decode cL_areAllButSo 277 = .ok (.goto 4, 3) := by decide +kernel
theorem dL_areAllButSo_280 : decode cL_areAllButSo 280 = .ok (.iconst 0, 1) := by decide +kernel
theorem dL_areAllButSo_281 : decode cL_areAllButSo 281 = .ok (.istore 12, 2) := by decide +kernel
theorem dL_areAllButSo_283 : decode cL_areAllButSo 283 = .ok (.iinc 14 1, 3) := by decide +kernel
theorem dL_areAllButSo_286 : decode cL_areAllButSo 286 = .ok (.goto (-95), 3) := by decide +kernel
theorem dL_areAllButSo_289 : decode cL_areAllButSo 289 = .ok (.aload_n 0, 1) := by decide +kernel
theorem dL_areAllButSo_290 : decode cL_areAllButSo 290 = .ok (.invokevirtual 107, 3) := by decide +kernel
theorem dL_areAllButSo_293 : decode cL_areAllButSo 293 = .ok (.istore 14, 2) := by decide +kernel
theorem dL_areAllButSo_295 : decode cL_areAllButSo 295 = .ok (.iload 12, 2) := by decide +kernel
theorem dL_areAllButSo_297 : decode cL_areAllButSo 297 = .ok (.ifCond .eq 22, 3) := by decide +kernel
theorem dL_areAllButSo_300 : decode cL_areAllButSo 300 = .ok (.iload 14, 2) := by decide +kernel
theorem dL_areAllButSo_302 : decode cL_areAllButSo 302 = .ok (.ifCond .lt 17, 3) := by decide +kernel
theorem dL_areAllButSo_305 : decode cL_areAllButSo 305 = .ok (.aload_n 0, 1) := by decide +kernel
theorem dL_areAllButSo_306 : decode cL_areAllButSo 306 = .ok (.invokevirtual 78, 3) := by decide +kernel
theorem dL_areAllButSo_309 : decode cL_areAllButSo 309 = .ok (.lload 9, 2) := by decide +kernel
theorem dL_areAllButSo_311 : decode cL_areAllButSo 311 = .ok (.lcmp, 1) := by decide +kernel
theorem dL_areAllButSo_312 : decode cL_areAllButSo 312 = .ok (.ifCond .ne 7, 3) := by decide +kernel
theorem dL_areAllButSo_315 : decode cL_areAllButSo 315 = .ok (.iconst 1, 1) := by decide +kernel
theorem dL_areAllButSo_316 : decode cL_areAllButSo 316 = .ok (.goto 4, 3) := by decide +kernel
theorem dL_areAllButSo_319 : decode cL_areAllButSo 319 = .ok (.iconst 0, 1) := by decide +kernel
theorem dL_areAllButSo_320 : decode cL_areAllButSo 320 = .ok (.ireturn, 1) := by decide +kernel
theorem dL_law_0 : decode cL_law 0 = .ok (.new 9, 3) := by decide +kernel
theorem dL_law_3 : decode cL_law 3 = .ok (.dup, 1) := by decide +kernel
theorem dL_law_4 : decode cL_law 4 = .ok (.invokespecial 114, 3) := by decide +kernel
theorem dL_law_7 : decode cL_law 7 = .ok (.astore_n 1, 1) := by decide +kernel
theorem dL_law_8 : decode cL_law 8 = .ok (.iconst 0, 1) := by decide +kernel
theorem dL_law_9 : decode cL_law 9 = .ok (.istore_n 2, 1) := by decide +kernel
theorem dL_law_10 : decode cL_law 10 = .ok (.iload_n 2, 1) := by decide +kernel
theorem dL_law_11 : decode cL_law 11 = .ok (.bipush 52, 2) := by decide +kernel
theorem dL_law_13 : decode cL_law 13 = .ok (.if_icmp .ge 257, 3) := by decide +kernel
theorem dL_law_16 : decode cL_law 16 = .ok (.aload_n 0, 1) := by decide +kernel
theorem dL_law_17 : decode cL_law 17 = .ok (.iload_n 2, 1) := by decide +kernel
theorem dL_law_18 : decode cL_law 18 = .ok (.invokestatic 115, 3) := by decide +kernel
theorem dL_law_21 : decode cL_law 21 = .ok (.istore_n 3, 1) := by decide +kernel
theorem dL_law_22 : decode cL_law 22 = .ok (.sipush 7919, 3) := by decide +kernel
theorem dL_law_25 : decode cL_law 25 = .ok (.iload_n 3, 1) := by decide +kernel
theorem dL_law_26 : decode cL_law 26 = .ok (.imul, 1) := by decide +kernel
theorem dL_law_27 : decode cL_law 27 = .ok (.ldc 119, 2) := by decide +kernel
theorem dL_law_29 : decode cL_law 29 = .ok (.iload_n 2, 1) := by decide +kernel
theorem dL_law_30 : decode cL_law 30 = .ok (.imul, 1) := by decide +kernel
theorem dL_law_31 : decode cL_law 31 = .ok (.iadd, 1) := by decide +kernel
theorem dL_law_32 : decode cL_law 32 = .ok (.istore 4, 2) := by decide +kernel
theorem dL_law_34 : decode cL_law 34 = .ok (.iconst 1, 1) := by decide +kernel
theorem dL_law_35 : decode cL_law 35 = .ok (.istore 5, 2) := by decide +kernel
theorem dL_law_37 : decode cL_law 37 = .ok (.aload_n 1, 1) := by decide +kernel
theorem dL_law_38 : decode cL_law 38 = .ok (.invokevirtual 20, 3) := by decide +kernel
theorem dL_law_41 : decode cL_law 41 = .ok (.iconst 5, 1) := by decide +kernel
theorem dL_law_42 : decode cL_law 42 = .ok (.if_icmp .lt 10, 3) := by decide +kernel
theorem dL_law_45 : decode cL_law 45 = .ok (.iload_n 3, 1) := by decide +kernel
theorem dL_law_46 : decode cL_law 46 = .ok (.bipush 7, 2) := by decide +kernel
theorem dL_law_48 : decode cL_law 48 = .ok (.iand, 1) := by decide +kernel
theorem dL_law_49 : decode cL_law 49 = .ok (.ifCond .ne 44, 3) := by decide +kernel
theorem dL_law_52 : decode cL_law 52 = .ok (.aload_n 1, 1) := by decide +kernel
theorem dL_law_53 : decode cL_law 53 = .ok (.iload 4, 2) := by decide +kernel
theorem dL_law_55 : decode cL_law 55 = .ok (.iconst 3, 1) := by decide +kernel
theorem dL_law_56 : decode cL_law 56 = .ok (.ishr, 1) := by decide +kernel
theorem dL_law_57 : decode cL_law 57 = .ok (.invokestatic 120, 3) := by decide +kernel
theorem dL_law_60 : decode cL_law 60 = .ok (.aload_n 1, 1) := by decide +kernel
theorem dL_law_61 : decode cL_law 61 = .ok (.invokevirtual 72, 3) := by decide +kernel
theorem dL_law_64 : decode cL_law 64 = .ok (.ifCond .eq 19, 3) := by decide +kernel
theorem dL_law_67 : decode cL_law 67 = .ok (.aload_n 1, 1) := by decide +kernel
theorem dL_law_68 : decode cL_law 68 = .ok (.invokevirtual 20, 3) := by decide +kernel
theorem dL_law_71 : decode cL_law 71 = .ok (.bipush 12, 2) := by decide +kernel
theorem dL_law_73 : decode cL_law 73 = .ok (.if_icmp .eq 10, 3) := by decide +kernel
theorem dL_law_76 : decode cL_law 76 = .ok (.aload_n 1, 1) := by decide +kernel
theorem dL_law_77 : decode cL_law 77 = .ok (.invokevirtual 86, 3) := by decide +kernel
theorem dL_law_80 : decode cL_law 80 = .ok (.ifCond .le 7, 3) := by decide +kernel
theorem dL_law_83 : decode cL_law 83 = .ok (.iconst 1, 1) := by decide +kernel
theorem dL_law_84 : decode cL_law 84 = .ok (.goto 4, 3) := by decide +kernel
theorem dL_law_87 : decode cL_law 87 = .ok (.iconst 0, 1) := by decide +kernel
theorem dL_law_88 : decode cL_law 88 = .ok (.istore 5, 2) := by decide +kernel
theorem dL_law_90 : decode cL_law 90 = .ok (.goto 135, 3) := by decide +kernel
theorem dL_law_93 : decode cL_law 93 = .ok (.aload_n 1, 1) := by decide +kernel
theorem dL_law_94 : decode cL_law 94 = .ok (.invokevirtual 72, 3) := by decide +kernel
theorem dL_law_97 : decode cL_law 97 = .ok (.ifCond .eq 22, 3) := by decide +kernel
theorem dL_law_100 : decode cL_law 100 = .ok (.iload_n 3, 1) := by decide +kernel
theorem dL_law_101 : decode cL_law 101 = .ok (.iconst 3, 1) := by decide +kernel
theorem dL_law_102 : decode cL_law 102 = .ok (.iand, 1) := by decide +kernel
theorem dL_law_103 : decode cL_law 103 = .ok (.ifCond .le 16, 3) := by decide +kernel
theorem dL_law_106 : decode cL_law 106 = .ok (.aload_n 1, 1) := by decide +kernel
theorem dL_law_107 : decode cL_law 107 = .ok (.iload 4, 2) := by decide +kernel
theorem dL_law_109 : decode cL_law 109 = .ok (.iconst 4, 1) := by decide +kernel
theorem dL_law_110 : decode cL_law 110 = .ok (.ishr, 1) := by decide +kernel
theorem dL_law_111 : decode cL_law 111 = .ok (.invokestatic 123, 3) := by decide +kernel
theorem dL_law_114 : decode cL_law 114 = .ok (.istore 5, 2) := by decide +kernel
theorem dL_law_116 : decode cL_law 116 = .ok (.goto 109, 3) := by decide +kernel
theorem dL_law_119 : decode cL_law 119 = .ok (.iload_n 3, 1) := by decide +kernel
theorem dL_law_120 : decode cL_law 120 = .ok (.bipush 15, 2) := by decide +kernel
theorem dL_law_122 : decode cL_law 122 = .ok (.iand, 1) := by decide +kernel
theorem dL_law_123 : decode cL_law 123 = .ok (.iconst 1, 1) := by decide +kernel
theorem dL_law_124 : decode cL_law 124 = .ok (.if_icmp .ne 56, 3) := by decide +kernel
theorem dL_law_127 : decode cL_law 127 = .ok (.aload_n 1, 1) := by decide +kernel
theorem dL_law_128 : decode cL_law 128 = .ok (.invokevirtual 48, 3) := by decide +kernel
theorem dL_law_131 : decode cL_law 131 = .ok (.istore 6, 2) := by decide +kernel
theorem dL_law_133 : decode cL_law 133 = .ok (.aload_n 1, 1) := by decide +kernel
theorem dL_law_134 : decode cL_law 134 = .ok (.iload_n 3, 1) := by decide +kernel
theorem dL_law_135 : decode cL_law 135 = .ok (.iconst 4, 1) := by decide +kernel
theorem dL_law_136 : decode cL_law 136 = .ok (.ishr, 1) := by decide +kernel
theorem dL_law_137 : decode cL_law 137 = .ok (.iconst 4, 1) := by decide +kernel
theorem dL_law_138 : decode cL_law 138 = .ok (.invokestatic 14, 3) := by decide +kernel
theorem dL_law_141 : decode cL_law 141 = .ok (.invokevirtual 126, 3) := by decide +kernel
theorem dL_law_144 : decode cL_law 144 = .ok (.iload 6, 2) := by decide +kernel
theorem dL_law_146 : decode cL_law 146 = .ok (.if_icmp .ne 28, 3) := by decide +kernel
theorem dL_law_149 : decode cL_law 149 = .ok (.aload_n 1, 1) := by decide +kernel
theorem dL_law_150 : decode cL_law 150 = .ok (.invokevirtual 72, 3) := by decide +kernel
theorem dL_law_153 : decode cL_law 153 = .ok (.ifCond .ne 21, 3) := by decide +kernel
theorem dL_law_156 : decode cL_law 156 = .ok (.aload_n 1, 1) := by decide +kernel
theorem dL_law_157 : decode cL_law 157 = .ok (.invokevirtual 48, 3) := by decide +kernel
theorem dL_law_160 : decode cL_law 160 = .ok (.iload_n 3, 1) := by decide +kernel
theorem dL_law_161 : decode cL_law 161 = .ok (.iconst 4, 1) := by decide +kernel
theorem dL_law_162 : decode cL_law 162 = .ok (.ishr, 1) := by decide +kernel
theorem dL_law_163 : decode cL_law 163 = .ok (.iconst 4, 1) := by decide +kernel
theorem dL_law_164 : decode cL_law 164 = .ok (.invokestatic 14, 3) := by decide +kernel
theorem dL_law_167 : decode cL_law 167 = .ok (.if_icmp .ne 7, 3) := by decide +kernel
theorem dL_law_170 : decode cL_law 170 = .ok (.iconst 1, 1) := by decide +kernel
theorem dL_law_171 : decode cL_law 171 = .ok (.goto 4, 3) := by decide +kernel
theorem dL_law_174 : decode cL_law 174 = .ok (.iconst 0, 1) := by decide +kernel
theorem dL_law_175 : decode cL_law 175 = .ok (.istore 5, 2) := by decide +kernel
theorem dL_law_177 : decode cL_law 177 = .ok (.goto 48, 3) := by decide +kernel
theorem dL_law_180 : decode cL_law 180 = .ok (.aload_n 1, 1) := by decide +kernel
theorem dL_law_181 : decode cL_law 181 = .ok (.iload_n 3, 1) := by decide +kernel
theorem dL_law_182 : decode cL_law 182 = .ok (.iconst 1, 1) := by decide +kernel
theorem dL_law_183 : decode cL_law 183 = .ok (.ishr, 1) := by decide +kernel
theorem dL_law_184 : decode cL_law 184 = .ok (.iload 4, 2) := by decide +kernel
theorem dL_law_186 : decode cL_law 186 = .ok (.iconst 2, 1) := by decide +kernel
theorem dL_law_187 : decode cL_law 187 = .ok (.ishr, 1) := by decide +kernel
theorem dL_law_188 : decode cL_law 188 = .ok (.invokestatic 129, 3) := by decide +kernel
theorem dL_law_191 : decode cL_law 191 = .ok (.istore 6, 2) := by decide +kernel
theorem dL_law_193 : decode cL_law 193 = .ok (.iload 6, 2) := by decide +kernel
theorem dL_law_195 : decode cL_law 195 = .ok (.ifCond .lt 27, 3) := by decide +kernel
theorem dL_law_198 : decode cL_law 198 = .ok (.aload_n 1, 1) := by decide +kernel
theorem dL_law_199 : decode cL_law 199 = .ok (.iload_n 3, 1) := by decide +kernel
theorem dL_law_200 : decode cL_law 200 = .ok (.iconst 5, 1) := by decide +kernel
theorem dL_law_201 : decode cL_law 201 = .ok (.ishr, 1) := by decide +kernel
theorem dL_law_202 : decode cL_law 202 = .ok (.iconst 3, 1) := by decide +kernel
theorem dL_law_203 : decode cL_law 203 = .ok (.iand, 1) := by decide +kernel
theorem dL_law_204 : decode cL_law 204 = .ok (.ifCond .ne 7, 3) := by decide +kernel
theorem dL_law_207 : decode cL_law 207 = .ok (.iconst 1, 1) := by decide +kernel
theorem dL_law_208 : decode cL_law 208 = .ok (.goto 4, 3) := by decide +kernel
theorem dL_law_211 : decode cL_law 211 = .ok (.iconst 0, 1) := by decide +kernel
theorem dL_law_212 : decode cL_law 212 = .ok (.invokestatic 110, 3) := by decide +kernel
theorem dL_law_215 : decode cL_law 215 = .ok (.ifCond .eq 7, 3) := by decide +kernel
theorem dL_law_218 : decode cL_law 218 = .ok (.iconst 1, 1) := by decide +kernel
theorem dL_law_219 : decode cL_law 219 = .ok (.goto 4, 3) := by decide +kernel
theorem dL_law_222 : decode cL_law 222 = .ok (.iconst 0, 1) := by decide +kernel
theorem dL_law_223 : decode cL_law 223 = .ok (.istore 5, 2) := by decide +kernel
theorem dL_law_225 : decode cL_law 225 = .ok (.iload 5, 2) := by decide +kernel
theorem dL_law_227 : decode cL_law 227 = .ok (.ifCond .eq 35, 3) := by decide +kernel
theorem dL_law_230 : decode cL_law 230 = .ok (.aload_n 1, 1) := by decide +kernel
theorem dL_law_231 : decode cL_law 231 = .ok (.invokestatic 133, 3) := by decide +kernel
theorem dL_law_234 : decode cL_law 234 = .ok (.ifCond .eq 28, 3) := by decide +kernel
theorem dL_law_237 : decode cL_law 237 = .ok (.aload_n 1, 1) := by decide +kernel
theorem dL_law_238 : decode cL_law 238 = .ok (.invokevirtual 72, 3) := by decide +kernel
theorem dL_law_241 : decode cL_law 241 = .ok (.ifCond .ne 23, 3) := by decide +kernel
theorem dL_law_244 : decode cL_law 244 = .ok (.iload_n 2, 1) := by decide +kernel
theorem dL_law_245 : decode cL_law 245 = .ok (.iconst 4, 1) := by decide +kernel
theorem dL_law_246 : decode cL_law 246 = .ok (.irem, 1) := by decide +kernel
theorem dL_law_247 : decode cL_law 247 = .ok (.iconst 3, 1) := by decide +kernel
theorem dL_law_248 : decode cL_law 248 = .ok (.if_icmp .ne 16, 3) := by decide +kernel
theorem dL_law_251 : decode cL_law 251 = .ok (.aload_n 1, 1) := by decide +kernel
theorem dL_law_252 : decode cL_law 252 = .ok (.iload 4, 2) := by decide +kernel
theorem dL_law_254 : decode cL_law 254 = .ok (.iconst 5, 1) := by decide +kernel
theorem dL_law_255 : decode cL_law 255 = .ok (.ishr, 1) := by decide +kernel
theorem dL_law_256 : decode cL_law 256 = .ok (.invokestatic 137, 3) := by decide +kernel
theorem dL_law_259 : decode cL_law 259 = .ok (.ifCond .ne 5, 3) := by decide +kernel
theorem dL_law_262 : decode cL_law 262 = .ok (.iconst 0, 1) := by decide +kernel
theorem dL_law_263 : decode cL_law 263 = .ok (.ireturn, 1) := by decide +kernel
theorem dL_law_264 : decode cL_law 264 = .ok (.iinc 2 1, 3) := by decide +kernel
theorem dL_law_267 : decode cL_law 267 = .ok (.goto (-257), 3) := by decide +kernel
theorem dL_law_270 : decode cL_law 270 = .ok (.iconst 1, 1) := by decide +kernel
theorem dL_law_271 : decode cL_law 271 = .ok (.ireturn, 1) := by decide +kernel
abbrev vwCl : List vw_C := [(RX0, TX0, 2), (RX1, TX1, 8), (RX2, TX2, 3), (RX3, TX3, 9), (RX4, TX4, 6), (RX5, TX5, 7)]
