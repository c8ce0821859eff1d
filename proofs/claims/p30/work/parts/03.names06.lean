theorem dL_world_8 : decode cL_world 8 = .ok (.iload_n 3, 1) := by decide +kernel
theorem dL_world_9 : decode cL_world 9 = .ok (.aload_n 0, 1) := by decide +kernel
theorem dL_world_10 : decode cL_world 10 = .ok (.invokevirtual 20, 3) := by decide +kernel
theorem dL_world_13 : decode cL_world 13 = .ok (.if_icmp .ge 39, 3) := by decide +kernel
theorem dL_world_16 : decode cL_world 16 = .ok (.lload_n 1, 1) := by decide +kernel
theorem dL_world_17 : decode cL_world 17 = .ok (.ldc2_w 51, 3) := by decide +kernel
theorem dL_world_20 : decode cL_world 20 = .ok (.lmul, 1) := by decide +kernel
theorem dL_world_21 : decode cL_world 21 = .ok (.iconst 2, 1) := by decide +kernel
theorem dL_world_22 : decode cL_world 22 = .ok (.aload_n 0, 1) := by decide +kernel
theorem dL_world_23 : decode cL_world 23 = .ok (.iload_n 3, 1) := by decide +kernel
theorem dL_world_24 : decode cL_world 24 = .ok (.invokevirtual 53, 3) := by decide +kernel
theorem dL_world_27 : decode cL_world 27 = .ok (.imul, 1) := by decide +kernel
theorem dL_world_28 : decode cL_world 28 = .ok (.i2l, 1) := by decide +kernel
theorem dL_world_29 : decode cL_world 29 = .ok (.ladd, 1) := by decide +kernel
theorem dL_world_30 : decode cL_world 30 = .ok (.aload_n 0, 1) := by decide +kernel
theorem dL_world_31 : decode cL_world 31 = .ok (.iload_n 3, 1) := by decide +kernel
theorem dL_world_32 : decode cL_world 32 = .ok (.invokevirtual 56, 3) := by decide +kernel
theorem dL_world_35 : decode cL_world 35 = .ok (.ifCond .eq 7, 3) := by decide +kernel
theorem dL_world_38 : decode cL_world 38 = .ok (.iconst 1, 1) := by decide +kernel
theorem dL_world_39 : decode cL_world 39 = .ok (.goto 4, 3) := by decide +kernel
theorem dL_world_42 : decode cL_world 42 = .ok (.iconst 0, 1) := by decide +kernel
theorem dL_world_43 : decode cL_world 43 = .ok (.i2l, 1) := by decide +kernel
theorem dL_world_44 : decode cL_world 44 = .ok (.ladd, 1) := by decide +kernel
theorem dL_world_45 : decode cL_world 45 = .ok (.lstore_n 1, 1) := by decide +kernel
theorem dL_world_46 : decode cL_world 46 = .ok (.iinc 3 1, 3) := by decide +kernel
theorem dL_world_49 : decode cL_world 49 = .ok (.goto (-41), 3) := by decide +kernel
theorem dL_world_52 : decode cL_world 52 = .ok (.lload_n 1, 1) := by decide +kernel
theorem dL_world_53 : decode cL_world 53 = .ok (.lreturn, 1) := by decide +kernel
set_option maxRecDepth 20000 in
theorem ggL_isWorldSo_X5_objectsAt : GoodIn wsL_isWorldSo wsX5_objectsAt := goodIn_ca (goodIn_r _ [5, 6, 7, 8, 9, 10, 11, 12, 13, 14, 15, 16, 17, 18, 19, 20, 21, 22, 23, 121, 122, 123, 124, 125, 126, 127, 128, 129, 130, 131, 132, 133, 134, 135, 136, 137, 138, 139, 140, 141, 142] (by decide +kernel) (by decide +kernel)) (goodIn_sub (fun _ h => List.mem_cons_of_mem _ (List.mem_append_right _ h)) (by decide +kernel))
set_option maxRecDepth 20000 in
theorem gL_isWorldSo_X5_objectsAt : GoodIn wsL_isWorldSo (wsV RL 31 RX5 yX5_objectsAt wsX5_objectsAt) := goodIn_app (goodIn_of _ (by decide +kernel)) ggL_isWorldSo_X5_objectsAt
set_option maxRecDepth 20000 in
theorem ggL_isWorldSo_X5_objects : GoodIn wsL_isWorldSo wsX5_objects := goodIn_r _ [27, 8, 9, 28, 121, 122, 123, 124, 125, 126, 127, 128, 129, 130, 131, 132, 133, 134, 135, 136, 137, 138, 139, 140, 141, 142] (by decide +kernel) (by decide +kernel)
set_option maxRecDepth 20000 in
theorem gL_isWorldSo_X5_objects : GoodIn wsL_isWorldSo (wsV RL 20 RX5 yX5_objects wsX5_objects) := goodIn_app (goodIn_of _ (by decide +kernel)) ggL_isWorldSo_X5_objects
set_option maxRecDepth 20000 in
theorem ggL_isWorldSo_X5_place : GoodIn wsL_isWorldSo wsX5_place := goodIn_ca (goodIn_r _ [32, 6, 7, 8, 9, 33, 34, 35, 36, 13, 37, 15, 121, 122, 123, 124, 125, 126, 127, 128, 129, 130, 131, 132, 133, 134, 135, 136, 137, 138, 139, 140, 141, 142] (by decide +kernel) (by decide +kernel)) (goodIn_sub (fun _ h => List.mem_cons_of_mem _ (List.mem_append_right _ h)) (by decide +kernel))
set_option maxRecDepth 20000 in
theorem gL_isWorldSo_X5_place : GoodIn wsL_isWorldSo (wsV RL 53 RX5 yX5_place wsX5_place) := goodIn_app (goodIn_of _ (by decide +kernel)) ggL_isWorldSo_X5_place
set_option maxRecDepth 20000 in
theorem ggL_isWorldSo_L_isBox : GoodIn wsL_isWorldSo wsL_isBox := goodIn_ca (goodIn_r _ [41, 42, 43, 44, 4, 45, 6, 7, 8, 9, 46, 34, 35, 36, 13, 37, 15, 121, 122, 123, 124, 125, 126, 127, 128, 129, 130, 131, 132, 133, 134, 135, 136, 137, 138, 139, 140, 141, 142] (by decide +kernel) (by decide +kernel)) (goodIn_sub (fun _ h => List.mem_cons_of_mem _ (List.mem_append_right _ h)) (by decide +kernel))
set_option maxRecDepth 20000 in
theorem gL_isWorldSo_L_isBox : GoodIn wsL_isWorldSo (va_wsS RL 27 yL_isBox wsL_isBox) := goodIn_app (goodIn_of _ (by decide +kernel)) ggL_isWorldSo_L_isBox
set_option maxRecDepth 20000 in
theorem ggL_isWorldSo_X5_isOpen : GoodIn wsL_isWorldSo wsX5_isOpen := goodIn_ca (goodIn_r _ [50, 6, 7, 8, 9, 51, 34, 35, 36, 13, 37, 15, 121, 122, 123, 124, 125, 126, 127, 128, 129, 130, 131, 132, 133, 134, 135, 136, 137, 138, 139, 140, 141, 142] (by decide +kernel) (by decide +kernel)) (goodIn_sub (fun _ h => List.mem_cons_of_mem _ (List.mem_append_right _ h)) (by decide +kernel))
set_option maxRecDepth 20000 in
theorem gL_isWorldSo_X5_isOpen : GoodIn wsL_isWorldSo (wsV RL 56 RX5 yX5_isOpen wsX5_isOpen) := goodIn_app (goodIn_of _ (by decide +kernel)) ggL_isWorldSo_X5_isOpen
set_option maxRecDepth 20000 in
theorem ggL_isWorldSo_X5_noun : GoodIn wsL_isWorldSo wsX5_noun := goodIn_ca (goodIn_r _ [45, 6, 7, 8, 9, 46, 34, 35, 36, 13, 37, 15, 121, 122, 123, 124, 125, 126, 127, 128, 129, 130, 131, 132, 133, 134, 135, 136, 137, 138, 139, 140, 141, 142] (by decide +kernel) (by decide +kernel)) (goodIn_sub (fun _ h => List.mem_cons_of_mem _ (List.mem_append_right _ h)) (by decide +kernel))
set_option maxRecDepth 20000 in
theorem gL_isWorldSo_X5_noun : GoodIn wsL_isWorldSo (wsV RL 8 RX5 yX5_noun wsX5_noun) := goodIn_app (goodIn_of _ (by decide +kernel)) ggL_isWorldSo_X5_noun
set_option maxRecDepth 20000 in
theorem ggL_isWorldSo_X5_adjective : GoodIn wsL_isWorldSo wsX5_adjective := goodIn_ca (goodIn_r _ [55, 6, 7, 8, 9, 56, 34, 35, 36, 13, 37, 15, 121, 122, 123, 124, 125, 126, 127, 128, 129, 130, 131, 132, 133, 134, 135, 136, 137, 138, 139, 140, 141, 142] (by decide +kernel) (by decide +kernel)) (goodIn_sub (fun _ h => List.mem_cons_of_mem _ (List.mem_append_right _ h)) (by decide +kernel))
set_option maxRecDepth 20000 in
theorem gL_isWorldSo_X5_adjective : GoodIn wsL_isWorldSo (wsV RL 41 RX5 yX5_adjective wsX5_adjective) := goodIn_app (goodIn_of _ (by decide +kernel)) ggL_isWorldSo_X5_adjective
set_option maxRecDepth 20000 in
theorem ggL_isWorldSo_X5_fitting : GoodIn wsL_isWorldSo wsX5_fitting := goodIn_ca (goodIn_r _ [60, 6, 7, 8, 9, 61, 62, 4, 63, 64, 65, 66, 67, 68, 69, 13, 70, 15, 71, 72, 121, 122, 123, 124, 125, 126, 127, 128, 129, 130, 131, 132, 133, 134, 135, 136, 137, 138, 139, 140, 141, 142] (by decide +kernel) (by decide +kernel)) (goodIn_sub (fun _ h => List.mem_cons_of_mem _ (List.mem_append_right _ h)) (by decide +kernel))
set_option maxRecDepth 20000 in
theorem gL_isWorldSo_X5_fitting : GoodIn wsL_isWorldSo (wsV RL 24 RX5 yX5_fitting wsX5_fitting) := goodIn_app (goodIn_of _ (by decide +kernel)) ggL_isWorldSo_X5_fitting
set_option maxRecDepth 20000 in
theorem ggL_isWorldSo_X5_room : GoodIn wsL_isWorldSo wsX5_room := goodIn_r _ [76, 8, 9, 77, 121, 122, 123, 124, 125, 126, 127, 128, 129, 130, 131, 132, 133, 134, 135, 136, 137, 138, 139, 140, 141, 142] (by decide +kernel) (by decide +kernel)
set_option maxRecDepth 20000 in
theorem gL_isWorldSo_X5_room : GoodIn wsL_isWorldSo (wsV RL 48 RX5 yX5_room wsX5_room) := goodIn_app (goodIn_of _ (by decide +kernel)) ggL_isWorldSo_X5_room
set_option maxRecDepth 20000 in
theorem ggL_isWorldSo_X5_suitable : GoodIn wsL_isWorldSo wsX5_suitable := goodIn_ca (goodIn_r _ [81, 6, 7, 8, 9, 82, 83, 84, 13, 85, 86, 87, 11, 12, 14, 15, 16, 88, 89, 90, 91, 92, 93, 94, 95, 96, 97, 68, 69, 70, 71, 72, 121, 122, 123, 124, 125, 126, 127, 128, 129, 130, 131, 132, 133, 134, 135, 136, 137, 138, 139, 140, 141, 142] (by decide +kernel) (by decide +kernel)) (goodIn_sub (fun _ h => List.mem_cons_of_mem _ (List.mem_append_right _ h)) (by decide +kernel))
set_option maxRecDepth 20000 in
theorem gL_isWorldSo_X5_suitable : GoodIn wsL_isWorldSo (wsV RL 60 RX5 yX5_suitable wsX5_suitable) := goodIn_app (goodIn_of _ (by decide +kernel)) ggL_isWorldSo_X5_suitable
set_option maxRecDepth 20000 in
theorem ggL_isWorldSo_X5_visible : GoodIn wsL_isWorldSo wsX5_visible := goodIn_r _ [101, 8, 9, 102, 89, 90, 13, 91, 92, 86, 87, 11, 12, 14, 15, 16, 121, 122, 123, 124, 125, 126, 127, 128, 129, 130, 131, 132, 133, 134, 135, 136, 137, 138, 139, 140, 141, 142] (by decide +kernel) (by decide +kernel)
set_option maxRecDepth 20000 in
theorem gL_isWorldSo_X5_visible : GoodIn wsL_isWorldSo (wsV RL 63 RX5 yX5_visible wsX5_visible) := goodIn_app (goodIn_of _ (by decide +kernel)) ggL_isWorldSo_X5_visible
set_option maxRecDepth 20000 in
theorem ggL_isWorldSo_X5_them : GoodIn wsL_isWorldSo wsX5_them := goodIn_r _ [106, 8, 107, 121, 122, 123, 124, 125, 126, 127, 128, 129, 130, 131, 132, 133, 134, 135, 136] (by decide +kernel) (by decide +kernel)
set_option maxRecDepth 20000 in
theorem gL_isWorldSo_X5_them : GoodIn wsL_isWorldSo (wsV RL 66 RX5 yX5_them wsX5_them) := goodIn_app (goodIn_of _ (by decide +kernel)) ggL_isWorldSo_X5_them
set_option maxRecDepth 20000 in
theorem ggL_isWorldSo_L_size : GoodIn wsL_isWorldSo wsL_size := goodIn_r _ [110] (by decide +kernel) (by decide +kernel)
set_option maxRecDepth 20000 in
theorem gL_isWorldSo_L_size : GoodIn wsL_isWorldSo (va_wsS RL 69 yL_size wsL_size) := goodIn_app (goodIn_of _ (by decide +kernel)) ggL_isWorldSo_L_size
set_option maxRecDepth 20000 in
theorem ggL_isWorldSo_X5_candidates : GoodIn wsL_isWorldSo wsX5_candidates := goodIn_r _ [114, 8, 115, 121, 122, 123, 124, 125, 126, 127, 128, 129, 130, 131, 132, 133, 134, 135, 136] (by decide +kernel) (by decide +kernel)
set_option maxRecDepth 20000 in
theorem gL_isWorldSo_X5_candidates : GoodIn wsL_isWorldSo (wsV RL 72 RX5 yX5_candidates wsX5_candidates) := goodIn_app (goodIn_of _ (by decide +kernel)) ggL_isWorldSo_X5_candidates
set_option maxRecDepth 20000 in
theorem ggL_isWorldSo_X5_it : GoodIn wsL_isWorldSo wsX5_it := goodIn_r _ [119, 8, 120, 121, 122, 123, 124, 125, 126, 127, 128, 129, 130, 131, 132, 133, 134, 135, 136] (by decide +kernel) (by decide +kernel)
set_option maxRecDepth 20000 in
theorem gL_isWorldSo_X5_it : GoodIn wsL_isWorldSo (wsV RL 75 RX5 yX5_it wsX5_it) := goodIn_app (goodIn_of _ (by decide +kernel)) ggL_isWorldSo_X5_it
theorem dL_isWorldSo_0 : decode cL_isWorldSo 0 = .ok (.iconst 0, 1) := by decide +kernel
theorem dL_isWorldSo_1 : decode cL_isWorldSo 1 = .ok (.istore_n 1, 1) := by decide +kernel
theorem dL_isWorldSo_2 : decode cL_isWorldSo 2 = .ok (.iconst 0, 1) := by decide +kernel
theorem dL_isWorldSo_3 : decode cL_isWorldSo 3 = .ok (.istore_n 2, 1) := by decide +kernel
theorem dL_isWorldSo_4 : decode cL_isWorldSo 4 = .ok (.aload_n 0, 1) := by decide +kernel
theorem dL_isWorldSo_5 : decode cL_isWorldSo 5 = .ok (.iconst 4, 1) := by decide +kernel
theorem dL_isWorldSo_6 : decode cL_isWorldSo 6 = .ok (.invokevirtual 31, 3) := by decide +kernel
theorem dL_isWorldSo_9 : decode cL_isWorldSo 9 = .ok (.bipush 6, 2) := by decide +kernel
theorem dL_isWorldSo_11 : decode cL_isWorldSo 11 = .ok (.if_icmp .gt 7, 3) := by decide +kernel
theorem dL_isWorldSo_14 : decode cL_isWorldSo 14 = .ok (.iconst 1, 1) := by decide +kernel
theorem dL_isWorldSo_15 : decode cL_isWorldSo 15 = .ok (.goto 4, 3) := by decide +kernel
theorem dL_isWorldSo_18 : decode cL_isWorldSo 18 = .ok (.iconst 0, 1) := by decide +kernel
theorem dL_isWorldSo_19 : decode cL_isWorldSo 19 = .ok (.istore_n 3, 1) := by decide +kernel
theorem dL_isWorldSo_20 : decode cL_isWorldSo 20 = .ok (.iconst 0, 1) := by decide +kernel
theorem dL_isWorldSo_21 : decode cL_isWorldSo 21 = .ok (.istore 4, 2) := by decide +kernel
theorem dL_isWorldSo_23 : decode cL_isWorldSo 23 = .ok (.iload 4, 2) := by decide +kernel
theorem dL_isWorldSo_25 : decode cL_isWorldSo 25 = .ok (.aload_n 0, 1) := by decide +kernel
theorem dL_isWorldSo_26 : decode cL_isWorldSo 26 = .ok (.invokevirtual 20, 3) := by decide +kernel
theorem dL_isWorldSo_29 : decode cL_isWorldSo 29 = .ok (.if_icmp .ge 242, 3) := by decide +kernel
theorem dL_isWorldSo_32 : decode cL_isWorldSo 32 = .ok (.aload_n 0, 1) := by decide +kernel
theorem dL_isWorldSo_33 : decode cL_isWorldSo 33 = .ok (.iload 4, 2) := by decide +kernel
theorem dL_isWorldSo_35 : decode cL_isWorldSo 35 = .ok (.invokevirtual 53, 3) := by decide +kernel
theorem dL_isWorldSo_38 : decode cL_isWorldSo 38 = .ok (.istore 5, 2) := by decide +kernel
theorem dL_isWorldSo_40 : decode cL_isWorldSo 40 = .ok (.iload 5, 2) := by decide +kernel
theorem dL_isWorldSo_42 : decode cL_isWorldSo 42 = .ok (.iconst 4, 1) := by decide +kernel
theorem dL_isWorldSo_43 : decode cL_isWorldSo 43 = .ok (.if_icmp .le 7, 3) := by decide +kernel
theorem dL_isWorldSo_46 : decode cL_isWorldSo 46 = .ok (.iconst 1, 1) := by decide +kernel
theorem dL_isWorldSo_47 : decode cL_isWorldSo 47 = .ok (.goto 4, 3) := by decide +kernel
theorem dL_isWorldSo_50 : decode cL_isWorldSo 50 = .ok (.iconst 0, 1) := by decide +kernel
theorem dL_isWorldSo_51 : decode cL_isWorldSo 51 = .ok (.istore 6, 2) := by decide +kernel
theorem dL_isWorldSo_53 : decode cL_isWorldSo 53 = .ok (.iload_n 3, 1) := by decide +kernel
theorem dL_isWorldSo_54 : decode cL_isWorldSo 54 = .ok (.ifCond .eq 118, 3) := by decide +kernel
theorem dL_isWorldSo_57 : decode cL_isWorldSo 57 = .ok (.iload 6, 2) := by decide +kernel
theorem dL_isWorldSo_59 : decode cL_isWorldSo 59 = .ok (.ifCond .eq 23, 3) := by decide +kernel
theorem dL_isWorldSo_62 : decode cL_isWorldSo 62 = .ok (.aload_n 0, 1) := by decide +kernel
theorem dL_isWorldSo_63 : decode cL_isWorldSo 63 = .ok (.iload 5, 2) := by decide +kernel
theorem dL_isWorldSo_65 : decode cL_isWorldSo 65 = .ok (.iconst 5, 1) := by decide +kernel
theorem dL_isWorldSo_66 : decode cL_isWorldSo 66 = .ok (.isub, 1) := by decide +kernel
theorem dL_isWorldSo_67 : decode cL_isWorldSo 67 = .ok (.invokestatic 27, 3) := by decide +kernel
theorem dL_isWorldSo_70 : decode cL_isWorldSo 70 = .ok (.ifCond .eq 102, 3) := by decide +kernel
theorem dL_isWorldSo_73 : decode cL_isWorldSo 73 = .ok (.aload_n 0, 1) := by decide +kernel
theorem dL_isWorldSo_74 : decode cL_isWorldSo 74 = .ok (.iload 4, 2) := by decide +kernel
theorem dL_isWorldSo_76 : decode cL_isWorldSo 76 = .ok (.invokestatic 27, 3) := by decide +kernel
theorem dL_isWorldSo_79 : decode cL_isWorldSo 79 = .ok (.ifCond .ne 93, 3) := by decide +kernel
theorem dL_isWorldSo_82 : decode cL_isWorldSo 82 = .ok (.aload_n 0, 1) := by decide +kernel
theorem dL_isWorldSo_83 : decode cL_isWorldSo 83 = .ok (.iconst 5, 1) := by decide +kernel
theorem dL_isWorldSo_84 : decode cL_isWorldSo 84 = .ok (.iload 4, 2) := by decide +kernel
theorem dL_isWorldSo_86 : decode cL_isWorldSo 86 = .ok (.iadd, 1) := by decide +kernel
theorem dL_isWorldSo_87 : decode cL_isWorldSo 87 = .ok (.invokevirtual 31, 3) := by decide +kernel
theorem dL_isWorldSo_90 : decode cL_isWorldSo 90 = .ok (.aload_n 0, 1) := by decide +kernel
theorem dL_isWorldSo_91 : decode cL_isWorldSo 91 = .ok (.iload 4, 2) := by decide +kernel
theorem dL_isWorldSo_93 : decode cL_isWorldSo 93 = .ok (.invokestatic 27, 3) := by decide +kernel
theorem dL_isWorldSo_96 : decode cL_isWorldSo 96 = .ok (.ifCond .eq 7, 3) := by decide +kernel
theorem dL_isWorldSo_99 : decode cL_isWorldSo 99 = .ok (.iconst 4, 1) := by decide +kernel
theorem dL_isWorldSo_100 : decode cL_isWorldSo 100 = .ok (.goto 4, 3) := by decide +kernel
theorem dL_isWorldSo_103 : decode cL_isWorldSo 103 = .ok (.iconst 0, 1) := by decide +kernel
theorem dL_isWorldSo_104 : decode cL_isWorldSo 104 = .ok (.if_icmp .gt 68, 3) := by decide +kernel
theorem dL_isWorldSo_107 : decode cL_isWorldSo 107 = .ok (.aload_n 0, 1) := by decide +kernel
theorem dL_isWorldSo_108 : decode cL_isWorldSo 108 = .ok (.iload 4, 2) := by decide +kernel
theorem dL_isWorldSo_110 : decode cL_isWorldSo 110 = .ok (.invokevirtual 56, 3) := by decide +kernel
theorem dL_isWorldSo_113 : decode cL_isWorldSo 113 = .ok (.ifCond .eq 12, 3) := by decide +kernel
theorem dL_isWorldSo_116 : decode cL_isWorldSo 116 = .ok (.aload_n 0, 1) := by decide +kernel
theorem dL_isWorldSo_117 : decode cL_isWorldSo 117 = .ok (.iload 4, 2) := by decide +kernel
theorem dL_isWorldSo_119 : decode cL_isWorldSo 119 = .ok (.invokestatic 27, 3) := by decide +kernel
theorem dL_isWorldSo_122 : decode cL_isWorldSo 122 = .ok (.ifCond .eq 50, 3) := by decide +kernel
theorem dL_isWorldSo_125 : decode cL_isWorldSo 125 = .ok (.aload_n 0, 1) := by decide +kernel
theorem dL_isWorldSo_126 : decode cL_isWorldSo 126 = .ok (.aload_n 0, 1) := by decide +kernel
theorem dL_isWorldSo_127 : decode cL_isWorldSo 127 = .ok (.iload 4, 2) := by decide +kernel
theorem dL_isWorldSo_129 : decode cL_isWorldSo 129 = .ok (.invokevirtual 8, 3) := by decide +kernel
theorem dL_isWorldSo_132 : decode cL_isWorldSo 132 = .ok (.aload_n 0, 1) := by decide +kernel
theorem dL_isWorldSo_133 : decode cL_isWorldSo 133 = .ok (.iload 4, 2) := by decide +kernel
theorem dL_isWorldSo_135 : decode cL_isWorldSo 135 = .ok (.invokevirtual 41, 3) := by decide +kernel
theorem dL_isWorldSo_138 : decode cL_isWorldSo 138 = .ok (.invokevirtual 24, 3) := by decide +kernel
theorem dL_isWorldSo_141 : decode cL_isWorldSo 141 = .ok (.iconst 1, 1) := by decide +kernel
theorem dL_isWorldSo_142 : decode cL_isWorldSo 142 = .ok (.iload 4, 2) := by decide +kernel
theorem dL_isWorldSo_144 : decode cL_isWorldSo 144 = .ok (.ishl, 1) := by decide +kernel
theorem dL_isWorldSo_145 : decode cL_isWorldSo 145 = .ok (.if_icmp .ne 27, 3) := by decide +kernel
theorem dL_isWorldSo_148 : decode cL_isWorldSo 148 = .ok (.aload_n 0, 1) := by decide +kernel
theorem dL_isWorldSo_149 : decode cL_isWorldSo 149 = .ok (.aload_n 0, 1) := by decide +kernel
theorem dL_isWorldSo_150 : decode cL_isWorldSo 150 = .ok (.iload 4, 2) := by decide +kernel
theorem dL_isWorldSo_152 : decode cL_isWorldSo 152 = .ok (.invokevirtual 8, 3) := by decide +kernel
theorem dL_isWorldSo_155 : decode cL_isWorldSo 155 = .ok (.iconst (-1), 1) := by decide +kernel
theorem dL_isWorldSo_156 : decode cL_isWorldSo 156 = .ok (.invokevirtual 24, 3) := by decide +kernel
theorem dL_isWorldSo_159 : decode cL_isWorldSo 159 = .ok (.iload 4, 2) := by decide +kernel
theorem dL_isWorldSo_161 : decode cL_isWorldSo 161 = .ok (.ishr, 1) := by decide +kernel
theorem dL_isWorldSo_162 : decode cL_isWorldSo 162 = .ok (.iconst 1, 1) := by decide +kernel
theorem dL_isWorldSo_163 : decode cL_isWorldSo 163 = .ok (.iand, 1) := by decide +kernel
theorem dL_isWorldSo_164 : decode cL_isWorldSo 164 = .ok (.iconst 1, 1) := by decide +kernel
theorem dL_isWorldSo_165 : decode cL_isWorldSo 165 = .ok (.if_icmp .ne 7, 3) := by decide +kernel
theorem dL_isWorldSo_168 : decode cL_isWorldSo 168 = .ok (.iconst 1, 1) := by decide +kernel
theorem dL_isWorldSo_169 : decode cL_isWorldSo 169 = .ok (.goto 4, 3) := by decide +kernel
theorem dL_isWorldSo_172 : decode cL_isWorldSo 172 = .ok (.iconst 0, 1) := by decide +kernel
theorem dL_isWorldSo_173 : decode cL_isWorldSo 173 = .ok (.istore_n 3, 1) := by decide +kernel
theorem dL_isWorldSo_174 : decode cL_isWorldSo 174 = .ok (.iload 6, 2) := by decide +kernel
theorem dL_isWorldSo_176 : decode cL_isWorldSo 176 = .ok (.ifCond .eq 14, 3) := by decide +kernel
theorem dL_isWorldSo_179 : decode cL_isWorldSo 179 = .ok (.aload_n 0, 1) := by decide +kernel
theorem dL_isWorldSo_180 : decode cL_isWorldSo 180 = .ok (.iload 5, 2) := by decide +kernel
theorem dL_isWorldSo_182 : decode cL_isWorldSo 182 = .ok (.iconst 5, 1) := by decide +kernel
theorem dL_isWorldSo_183 : decode cL_isWorldSo 183 = .ok (.isub, 1) := by decide +kernel
theorem dL_isWorldSo_184 : decode cL_isWorldSo 184 = .ok (.invokevirtual 53, 3) := by decide +kernel
theorem dL_isWorldSo_187 : decode cL_isWorldSo 187 = .ok (.goto 5, 3) := by decide +kernel
theorem dL_isWorldSo_190 : decode cL_isWorldSo 190 = .ok (.iload 5, 2) := by decide +kernel
theorem dL_isWorldSo_192 : decode cL_isWorldSo 192 = .ok (.istore 7, 2) := by decide +kernel
theorem dL_isWorldSo_194 : decode cL_isWorldSo 194 = .ok (.iload 7, 2) := by decide +kernel
theorem dL_isWorldSo_196 : decode cL_isWorldSo 196 = .ok (.iconst 4, 1) := by decide +kernel
theorem dL_isWorldSo_197 : decode cL_isWorldSo 197 = .ok (.if_icmp .eq 12, 3) := by decide +kernel
theorem dL_isWorldSo_200 : decode cL_isWorldSo 200 = .ok (.iload 7, 2) := by decide +kernel
theorem dL_isWorldSo_202 : decode cL_isWorldSo 202 = .ok (.aload_n 0, 1) := by decide +kernel
theorem dL_isWorldSo_203 : decode cL_isWorldSo 203 = .ok (.invokevirtual 48, 3) := by decide +kernel
theorem dL_isWorldSo_206 : decode cL_isWorldSo 206 = .ok (.if_icmp .ne 23, 3) := by decide +kernel
theorem dL_isWorldSo_209 : decode cL_isWorldSo 209 = .ok (.iload 6, 2) := by decide +kernel
theorem dL_isWorldSo_211 : decode cL_isWorldSo 211 = .ok (.ifCond .eq 14, 3) := by decide +kernel
