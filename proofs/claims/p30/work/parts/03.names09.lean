set_option maxRecDepth 20000 in
theorem zq_wsL_isEnterSo_r15 : GoodIn wsL_isAnswerSo wsL_isEnterSo_r15 := goodIn_sub (List.forall_mem_cons.mpr ⟨zq_wsL_isAnswerSo_r13 (List.mem_of_getElem? (i := 1) rfl), List.forall_mem_cons.mpr ⟨zq_wsL_isAnswerSo_r13 (List.mem_of_getElem? (i := 2) (by decide +kernel)), List.forall_mem_cons.mpr ⟨zq_wsL_isAnswerSo_r13 (List.mem_of_getElem? (i := 3) (by decide +kernel)), List.forall_mem_cons.mpr ⟨zq_wsL_isAnswerSo_r13 (List.mem_of_getElem? (i := 4) rfl), List.forall_mem_cons.mpr ⟨zq_wsL_isAnswerSo_r13 (List.mem_of_getElem? (i := 5) (by decide +kernel)), List.forall_mem_cons.mpr ⟨zq_wsL_isAnswerSo_r13 (List.mem_of_getElem? (i := 6) (by decide +kernel)), List.forall_mem_cons.mpr ⟨zq_wsL_isAnswerSo_r13 (List.mem_of_getElem? (i := 7) (by decide +kernel)), List.forall_mem_cons.mpr ⟨zq_wsL_isAnswerSo_r13 (List.mem_of_getElem? (i := 8) rfl), List.forall_mem_cons.mpr ⟨zq_wsL_isAnswerSo_r13 (List.mem_of_getElem? (i := 9) (by decide +kernel)), List.forall_mem_cons.mpr ⟨zq_wsL_isAnswerSo_r13 (List.mem_of_getElem? (i := 10) (by decide +kernel)), List.forall_mem_cons.mpr ⟨zq_wsL_isAnswerSo_r13 (List.mem_of_getElem? (i := 11) (by decide +kernel)), List.forall_mem_cons.mpr ⟨zq_wsL_isAnswerSo_r13 (List.mem_of_getElem? (i := 12) rfl), List.forall_mem_cons.mpr ⟨zq_wsL_isAnswerSo_r13 (List.mem_of_getElem? (i := 13) (by decide +kernel)), List.forall_mem_cons.mpr ⟨zq_wsL_isAnswerSo_r13 (List.mem_of_getElem? (i := 14) (by decide +kernel)), List.forall_mem_cons.mpr ⟨zq_wsL_isAnswerSo_r13 (List.mem_of_getElem? (i := 15) (by decide +kernel)), List.forall_mem_cons.mpr ⟨zq_wsL_isAnswerSo_r13 (List.mem_of_getElem? (i := 16) (by decide +kernel)), List.forall_mem_cons.mpr ⟨zq_wsL_isAnswerSo_r13 (List.mem_of_getElem? (i := 17) rfl), List.forall_mem_cons.mpr ⟨zq_wsL_isAnswerSo_r13 (List.mem_of_getElem? (i := 18) (by decide +kernel)), List.forall_mem_cons.mpr ⟨zq_wsL_isAnswerSo_r13 (List.mem_of_getElem? (i := 19) (by decide +kernel)), List.forall_mem_cons.mpr ⟨zq_wsL_isAnswerSo_r13 (List.mem_of_getElem? (i := 20) (by decide +kernel)), List.forall_mem_cons.mpr ⟨zq_wsL_isAnswerSo_r13 (List.mem_of_getElem? (i := 21) (by decide +kernel)), List.forall_mem_cons.mpr ⟨zq_wsL_isAnswerSo_r13 (List.mem_of_getElem? (i := 22) rfl), List.forall_mem_cons.mpr ⟨zq_wsL_isAnswerSo_r17 (List.mem_of_getElem? (i := 1) (by decide +kernel)), List.forall_mem_cons.mpr ⟨zq_wsL_isAnswerSo_r17 (List.mem_of_getElem? (i := 2) (by decide +kernel)), fun _ h => absurd h List.not_mem_nil⟩⟩⟩⟩⟩⟩⟩⟩⟩⟩⟩⟩⟩⟩⟩⟩⟩⟩⟩⟩⟩⟩⟩⟩) (by decide +kernel)
set_option maxRecDepth 20000 in
theorem zq_wsL_isEnterSo_r16 : GoodIn wsL_isAnswerSo wsL_isEnterSo_r16 := goodIn_sub (List.forall_mem_cons.mpr ⟨zq_wsL_isAnswerSo_r17 (List.mem_of_getElem? (i := 3) (by decide +kernel)), List.forall_mem_cons.mpr ⟨zq_wsL_isAnswerSo_r17 (List.mem_of_getElem? (i := 4) rfl), List.forall_mem_cons.mpr ⟨zq_wsL_isAnswerSo_r17 (List.mem_of_getElem? (i := 5) (by decide +kernel)), List.forall_mem_cons.mpr ⟨zq_wsL_isAnswerSo_r17 (List.mem_of_getElem? (i := 6) (by decide +kernel)), List.forall_mem_cons.mpr ⟨zq_wsL_isAnswerSo_r17 (List.mem_of_getElem? (i := 7) (by decide +kernel)), List.forall_mem_cons.mpr ⟨zq_wsL_isAnswerSo_r17 (List.mem_of_getElem? (i := 8) rfl), List.forall_mem_cons.mpr ⟨zq_wsL_isAnswerSo_r17 (List.mem_of_getElem? (i := 9) (by decide +kernel)), List.forall_mem_cons.mpr ⟨zq_wsL_isAnswerSo_r17 (List.mem_of_getElem? (i := 10) (by decide +kernel)), List.forall_mem_cons.mpr ⟨zq_wsL_isAnswerSo_r17 (List.mem_of_getElem? (i := 11) (by decide +kernel)), List.forall_mem_cons.mpr ⟨zq_wsL_isAnswerSo_r17 (List.mem_of_getElem? (i := 12) (by decide +kernel)), List.forall_mem_cons.mpr ⟨zq_wsL_isAnswerSo_r17 (List.mem_of_getElem? (i := 13) (by decide +kernel)), List.forall_mem_cons.mpr ⟨zq_wsL_isAnswerSo_r17 (List.mem_of_getElem? (i := 14) rfl), List.forall_mem_cons.mpr ⟨zq_wsL_isAnswerSo_r1 (List.mem_of_getElem? (i := 0) (by decide +kernel)), List.forall_mem_cons.mpr ⟨zq_wsL_isAnswerSo_r17 (List.mem_of_getElem? (i := 15) (by decide +kernel)), List.forall_mem_cons.mpr ⟨zq_wsL_isAnswerSo_r17 (List.mem_of_getElem? (i := 16) (by decide +kernel)), List.forall_mem_cons.mpr ⟨zq_wsL_isAnswerSo_r17 (List.mem_of_getElem? (i := 17) rfl), List.forall_mem_cons.mpr ⟨zq_wsL_isAnswerSo_r17 (List.mem_of_getElem? (i := 18) (by decide +kernel)), List.forall_mem_cons.mpr ⟨zq_wsL_isAnswerSo_r17 (List.mem_of_getElem? (i := 19) (by decide +kernel)), List.forall_mem_cons.mpr ⟨zq_wsL_isAnswerSo_r17 (List.mem_of_getElem? (i := 20) (by decide +kernel)), List.forall_mem_cons.mpr ⟨zq_wsL_isAnswerSo_r17 (List.mem_of_getElem? (i := 21) rfl), List.forall_mem_cons.mpr ⟨zq_wsL_isAnswerSo_r17 (List.mem_of_getElem? (i := 22) (by decide +kernel)), List.forall_mem_cons.mpr ⟨zq_wsL_isAnswerSo_r17 (List.mem_of_getElem? (i := 23) (by decide +kernel)), List.forall_mem_cons.mpr ⟨zq_wsL_isAnswerSo_r18 (List.mem_of_getElem? (i := 0) (by decide +kernel)), List.forall_mem_cons.mpr ⟨zq_wsL_isAnswerSo_r18 (List.mem_of_getElem? (i := 1) rfl), fun _ h => absurd h List.not_mem_nil⟩⟩⟩⟩⟩⟩⟩⟩⟩⟩⟩⟩⟩⟩⟩⟩⟩⟩⟩⟩⟩⟩⟩⟩) (by decide +kernel)
set_option maxRecDepth 20000 in
theorem zq_wsL_isEnterSo_r17 : GoodIn wsL_isAnswerSo wsL_isEnterSo_r17 := goodIn_sub (List.forall_mem_cons.mpr ⟨zq_wsL_isAnswerSo_r2 (List.mem_of_getElem? (i := 11) (by decide +kernel)), List.forall_mem_cons.mpr ⟨zq_wsL_isAnswerSo_r2 (List.mem_of_getElem? (i := 12) (by decide +kernel)), fun _ h => absurd h List.not_mem_nil⟩⟩) (by decide +kernel)
set_option maxRecDepth 20000 in
theorem ggL_isAnswerSo_L_isEnterSo : GoodIn wsL_isAnswerSo wsL_isEnterSo := goodIn_app (a := [.code yL_isEnterSo cL_isEnterSo 14 (some .boolean)]) (goodIn_sub (List.forall_mem_cons.mpr ⟨zq_wsL_isAnswerSo_r14 (List.mem_of_getElem? (i := 1) rfl), fun _ h => absurd h List.not_mem_nil⟩) (by decide +kernel)) (goodIn_app (goodIn_app (goodIn_app (goodIn_app (goodIn_app (goodIn_app (goodIn_app (goodIn_app (goodIn_app (goodIn_app zq_wsL_isEnterSo_r1 (goodIn_app zq_wsL_isEnterSo_r2 (goodIn_app zq_wsL_isEnterSo_r3 (goodIn_app zq_wsL_isEnterSo_r4 (goodIn_app zq_wsL_isEnterSo_r5 (goodIn_app zq_wsL_isEnterSo_r6 (goodIn_app zq_wsL_isEnterSo_r7 (goodIn_app zq_wsL_isEnterSo_r8 (goodIn_app zq_wsL_isEnterSo_r9 (goodIn_app zq_wsL_isEnterSo_r10 (goodIn_app zq_wsL_isEnterSo_r11 (goodIn_app zq_wsL_isEnterSo_r12 (goodIn_app zq_wsL_isEnterSo_r13 (goodIn_app zq_wsL_isEnterSo_r14 (goodIn_app zq_wsL_isEnterSo_r15 (goodIn_app zq_wsL_isEnterSo_r16 (zq_wsL_isEnterSo_r17))))))))))))))))) (goodIn_sub (fun _ h => List.mem_cons_of_mem _ (List.mem_append_left _ (List.mem_append_left _ (List.mem_append_left _ (List.mem_append_left _ (List.mem_append_left _ (List.mem_append_left _ (List.mem_append_left _ (List.mem_append_left _ (List.mem_append_right _ h)))))))))) (by decide +kernel))) (goodIn_sub (fun _ h => List.mem_cons_of_mem _ (List.mem_append_left _ (List.mem_append_left _ (List.mem_append_left _ (List.mem_append_left _ (List.mem_append_left _ (List.mem_append_left _ (List.mem_append_left _ (List.mem_append_right _ h))))))))) (by decide +kernel))) (goodIn_sub (fun _ h => List.mem_cons_of_mem _ (List.mem_append_left _ (List.mem_append_left _ (List.mem_append_left _ (List.mem_append_left _ (List.mem_append_left _ (List.mem_append_left _ (List.mem_append_right _ h)))))))) (by decide +kernel))) (goodIn_sub (fun _ h => List.mem_cons_of_mem _ (List.mem_append_left _ (List.mem_append_left _ (List.mem_append_left _ (List.mem_append_left _ (List.mem_append_right _ h)))))) (by decide +kernel))) (goodIn_sub (fun _ h => List.mem_cons_of_mem _ (List.mem_append_left _ (List.mem_append_left _ (List.mem_append_left _ (List.mem_append_left _ (List.mem_append_left _ (List.mem_append_right _ h))))))) (by decide +kernel))) (goodIn_sub (fun _ h => List.mem_cons_of_mem _ (List.mem_append_left _ (List.mem_append_left _ (List.mem_append_left _ (List.mem_append_right _ h))))) (by decide +kernel))) (goodIn_sub (fun _ h => List.mem_cons_of_mem _ (List.mem_append_left _ (List.mem_append_left _ (List.mem_append_right _ h)))) (by decide +kernel))) (goodIn_sub (fun _ h => List.mem_cons_of_mem _ (List.mem_append_right _ h)) (by decide +kernel))) (goodIn_sub (fun _ h => List.mem_cons_of_mem _ (List.mem_append_left _ (List.mem_append_right _ h))) (by decide +kernel)))
set_option maxRecDepth 20000 in
theorem gL_isAnswerSo_L_isEnterSo : GoodIn wsL_isAnswerSo (va_wsS RL 110 yL_isEnterSo wsL_isEnterSo) := goodIn_app (goodIn_of _ (by decide +kernel)) ggL_isAnswerSo_L_isEnterSo
theorem dL_isAnswerSo_0 : decode cL_isAnswerSo 0 = .ok (.aload_n 0, 1) := by decide +kernel
theorem dL_isAnswerSo_1 : decode cL_isAnswerSo 1 = .ok (.invokevirtual 72, 3) := by decide +kernel
theorem dL_isAnswerSo_4 : decode cL_isAnswerSo 4 = .ok (.istore_n 2, 1) := by decide +kernel
theorem dL_isAnswerSo_5 : decode cL_isAnswerSo 5 = .ok (.iload_n 1, 1) := by decide +kernel
theorem dL_isAnswerSo_6 : decode cL_isAnswerSo 6 = .ok (.bipush 12, 2) := by decide +kernel
theorem dL_isAnswerSo_8 : decode cL_isAnswerSo 8 = .ok (.invokestatic 14, 3) := by decide +kernel
theorem dL_isAnswerSo_11 : decode cL_isAnswerSo 11 = .ok (.istore_n 3, 1) := by decide +kernel
theorem dL_isAnswerSo_12 : decode cL_isAnswerSo 12 = .ok (.iconst 0, 1) := by decide +kernel
theorem dL_isAnswerSo_13 : decode cL_isAnswerSo 13 = .ok (.istore 4, 2) := by decide +kernel
theorem dL_isAnswerSo_15 : decode cL_isAnswerSo 15 = .ok (.iload 4, 2) := by decide +kernel
theorem dL_isAnswerSo_17 : decode cL_isAnswerSo 17 = .ok (.bipush 12, 2) := by decide +kernel
theorem dL_isAnswerSo_19 : decode cL_isAnswerSo 19 = .ok (.if_icmp .ge 24, 3) := by decide +kernel
theorem dL_isAnswerSo_22 : decode cL_isAnswerSo 22 = .ok (.iload_n 2, 1) := by decide +kernel
theorem dL_isAnswerSo_23 : decode cL_isAnswerSo 23 = .ok (.iload_n 3, 1) := by decide +kernel
theorem dL_isAnswerSo_24 : decode cL_isAnswerSo 24 = .ok (.ishr, 1) := by decide +kernel
theorem dL_isAnswerSo_25 : decode cL_isAnswerSo 25 = .ok (.iconst 1, 1) := by decide +kernel
theorem dL_isAnswerSo_26 : decode cL_isAnswerSo 26 = .ok (.iand, 1) := by decide +kernel
theorem dL_isAnswerSo_27 : decode cL_isAnswerSo 27 = .ok (.ifCond .ne 16, 3) := by decide +kernel
theorem dL_isAnswerSo_30 : decode cL_isAnswerSo 30 = .ok (.iload_n 3, 1) := by decide +kernel
theorem dL_isAnswerSo_31 : decode cL_isAnswerSo 31 = .ok (.iconst 1, 1) := by decide +kernel
theorem dL_isAnswerSo_32 : decode cL_isAnswerSo 32 = .ok (.iadd, 1) := by decide +kernel
theorem dL_isAnswerSo_33 : decode cL_isAnswerSo 33 = .ok (.bipush 12, 2) := by decide +kernel
theorem dL_isAnswerSo_35 : decode cL_isAnswerSo 35 = .ok (.irem, 1) := by decide +kernel
theorem dL_isAnswerSo_36 : decode cL_isAnswerSo 36 = .ok (.istore_n 3, 1) := by decide +kernel
theorem dL_isAnswerSo_37 : decode cL_isAnswerSo 37 = .ok (.iinc 4 1, 3) := by decide +kernel
theorem dL_isAnswerSo_40 : decode cL_isAnswerSo 40 = .ok (.goto (-25), 3) := by decide +kernel
theorem dL_isAnswerSo_43 : decode cL_isAnswerSo 43 = .ok (.iconst 0, 1) := by decide +kernel
theorem dL_isAnswerSo_44 : decode cL_isAnswerSo 44 = .ok (.istore 4, 2) := by decide +kernel
theorem dL_isAnswerSo_46 : decode cL_isAnswerSo 46 = .ok (.iconst 0, 1) := by decide +kernel
theorem dL_isAnswerSo_47 : decode cL_isAnswerSo 47 = .ok (.istore 5, 2) := by decide +kernel
theorem dL_isAnswerSo_49 : decode cL_isAnswerSo 49 = .ok (.iload 5, 2) := by decide +kernel
theorem dL_isAnswerSo_51 : decode cL_isAnswerSo 51 = .ok (.aload_n 0, 1) := by decide +kernel
theorem dL_isAnswerSo_52 : decode cL_isAnswerSo 52 = .ok (.invokevirtual 20, 3) := by decide +kernel
theorem dL_isAnswerSo_55 : decode cL_isAnswerSo 55 = .ok (.if_icmp .ge 43, 3) := by decide +kernel
theorem dL_isAnswerSo_58 : decode cL_isAnswerSo 58 = .ok (.iload 4, 2) := by decide +kernel
theorem dL_isAnswerSo_60 : decode cL_isAnswerSo 60 = .ok (.iload_n 2, 1) := by decide +kernel
theorem dL_isAnswerSo_61 : decode cL_isAnswerSo 61 = .ok (.iload 5, 2) := by decide +kernel
theorem dL_isAnswerSo_63 : decode cL_isAnswerSo 63 = .ok (.ishr, 1) := by decide +kernel
theorem dL_isAnswerSo_64 : decode cL_isAnswerSo 64 = .ok (.iconst 1, 1) := by decide +kernel
theorem dL_isAnswerSo_65 : decode cL_isAnswerSo 65 = .ok (.iand, 1) := by decide +kernel
theorem dL_isAnswerSo_66 : decode cL_isAnswerSo 66 = .ok (.iconst 1, 1) := by decide +kernel
theorem dL_isAnswerSo_67 : decode cL_isAnswerSo 67 = .ok (.if_icmp .ne 21, 3) := by decide +kernel
theorem dL_isAnswerSo_70 : decode cL_isAnswerSo 70 = .ok (.aload_n 0, 1) := by decide +kernel
theorem dL_isAnswerSo_71 : decode cL_isAnswerSo 71 = .ok (.iload 5, 2) := by decide +kernel
theorem dL_isAnswerSo_73 : decode cL_isAnswerSo 73 = .ok (.invokevirtual 41, 3) := by decide +kernel
theorem dL_isAnswerSo_76 : decode cL_isAnswerSo 76 = .ok (.aload_n 0, 1) := by decide +kernel
theorem dL_isAnswerSo_77 : decode cL_isAnswerSo 77 = .ok (.iload_n 3, 1) := by decide +kernel
theorem dL_isAnswerSo_78 : decode cL_isAnswerSo 78 = .ok (.invokevirtual 41, 3) := by decide +kernel
theorem dL_isAnswerSo_81 : decode cL_isAnswerSo 81 = .ok (.if_icmp .ne 7, 3) := by decide +kernel
theorem dL_isAnswerSo_84 : decode cL_isAnswerSo 84 = .ok (.iconst 1, 1) := by decide +kernel
theorem dL_isAnswerSo_85 : decode cL_isAnswerSo 85 = .ok (.goto 4, 3) := by decide +kernel
theorem dL_isAnswerSo_88 : decode cL_isAnswerSo 88 = .ok (.iconst 0, 1) := by decide +kernel
theorem dL_isAnswerSo_89 : decode cL_isAnswerSo 89 = .ok (.iadd, 1) := by decide +kernel
theorem dL_isAnswerSo_90 : decode cL_isAnswerSo 90 = .ok (.istore 4, 2) := by decide +kernel
theorem dL_isAnswerSo_92 : decode cL_isAnswerSo 92 = .ok (.iinc 5 1, 3) := by decide +kernel
theorem dL_isAnswerSo_95 : decode cL_isAnswerSo 95 = .ok (.goto (-46), 3) := by decide +kernel
theorem dL_isAnswerSo_98 : decode cL_isAnswerSo 98 = .ok (.aload_n 0, 1) := by decide +kernel
theorem dL_isAnswerSo_99 : decode cL_isAnswerSo 99 = .ok (.bipush 6, 2) := by decide +kernel
theorem dL_isAnswerSo_101 : decode cL_isAnswerSo 101 = .ok (.aload_n 0, 1) := by decide +kernel
theorem dL_isAnswerSo_102 : decode cL_isAnswerSo 102 = .ok (.iload_n 3, 1) := by decide +kernel
theorem dL_isAnswerSo_103 : decode cL_isAnswerSo 103 = .ok (.invokevirtual 41, 3) := by decide +kernel
theorem dL_isAnswerSo_106 : decode cL_isAnswerSo 106 = .ok (.iadd, 1) := by decide +kernel
theorem dL_isAnswerSo_107 : decode cL_isAnswerSo 107 = .ok (.invokevirtual 38, 3) := by decide +kernel
theorem dL_isAnswerSo_110 : decode cL_isAnswerSo 110 = .ok (.pop, 1) := by decide +kernel
theorem dL_isAnswerSo_111 : decode cL_isAnswerSo 111 = .ok (.iload_n 1, 1) := by decide +kernel
theorem dL_isAnswerSo_112 : decode cL_isAnswerSo 112 = .ok (.iconst 4, 1) := by decide +kernel
theorem dL_isAnswerSo_113 : decode cL_isAnswerSo 113 = .ok (.ishr, 1) := by decide +kernel
theorem dL_isAnswerSo_114 : decode cL_isAnswerSo 114 = .ok (.iconst 1, 1) := by decide +kernel
theorem dL_isAnswerSo_115 : decode cL_isAnswerSo 115 = .ok (.iand, 1) := by decide +kernel
theorem dL_isAnswerSo_116 : decode cL_isAnswerSo 116 = .ok (.ifCond .ne 10, 3) := by decide +kernel
theorem dL_isAnswerSo_119 : decode cL_isAnswerSo 119 = .ok (.aload_n 0, 1) := by decide +kernel
theorem dL_isAnswerSo_120 : decode cL_isAnswerSo 120 = .ok (.bipush 24, 2) := by decide +kernel
theorem dL_isAnswerSo_122 : decode cL_isAnswerSo 122 = .ok (.invokevirtual 38, 3) := by decide +kernel
theorem dL_isAnswerSo_125 : decode cL_isAnswerSo 125 = .ok (.pop, 1) := by decide +kernel
theorem dL_isAnswerSo_126 : decode cL_isAnswerSo 126 = .ok (.aload_n 0, 1) := by decide +kernel
theorem dL_isAnswerSo_127 : decode cL_isAnswerSo 127 = .ok (.invokevirtual 98, 3) := by decide +kernel
theorem dL_isAnswerSo_130 : decode cL_isAnswerSo 130 = .ok (.istore 5, 2) := by decide +kernel
theorem dL_isAnswerSo_132 : decode cL_isAnswerSo 132 = .ok (.iload 5, 2) := by decide +kernel
theorem dL_isAnswerSo_134 : decode cL_isAnswerSo 134 = .ok (.bipush (-5), 2) := by decide +kernel
theorem dL_isAnswerSo_136 : decode cL_isAnswerSo 136 = .ok (.if_icmp .ne 7, 3) := by decide +kernel
theorem dL_isAnswerSo_139 : decode cL_isAnswerSo 139 = .ok (.iconst 1, 1) := by decide +kernel
theorem dL_isAnswerSo_140 : decode cL_isAnswerSo 140 = .ok (.goto 4, 3) := by decide +kernel
theorem dL_isAnswerSo_143 : decode cL_isAnswerSo 143 = .ok (.iconst 0, 1) := by decide +kernel
theorem dL_isAnswerSo_144 : decode cL_isAnswerSo 144 = .ok (.iload 4, 2) := by decide +kernel
theorem dL_isAnswerSo_146 : decode cL_isAnswerSo 146 = .ok (.iconst 1, 1) := by decide +kernel
theorem dL_isAnswerSo_147 : decode cL_isAnswerSo 147 = .ok (.if_icmp .le 7, 3) := by decide +kernel
theorem dL_isAnswerSo_150 : decode cL_isAnswerSo 150 = .ok (.iconst 1, 1) := by decide +kernel
theorem dL_isAnswerSo_151 : decode cL_isAnswerSo 151 = .ok (.goto 4, 3) := by decide +kernel
theorem dL_isAnswerSo_154 : decode cL_isAnswerSo 154 = .ok (.iconst 0, 1) := by decide +kernel
theorem dL_isAnswerSo_155 : decode cL_isAnswerSo 155 = .ok (.if_icmp .ne 27, 3) := by decide +kernel
theorem dL_isAnswerSo_158 : decode cL_isAnswerSo 158 = .ok (.aload_n 0, 1) := by decide +kernel
theorem dL_isAnswerSo_159 : decode cL_isAnswerSo 159 = .ok (.iload_n 1, 1) := by decide +kernel
theorem dL_isAnswerSo_160 : decode cL_isAnswerSo 160 = .ok (.iconst 5, 1) := by decide +kernel
theorem dL_isAnswerSo_161 : decode cL_isAnswerSo 161 = .ok (.ishr, 1) := by decide +kernel
theorem dL_isAnswerSo_162 : decode cL_isAnswerSo 162 = .ok (.iconst 3, 1) := by decide +kernel
theorem dL_isAnswerSo_163 : decode cL_isAnswerSo 163 = .ok (.iand, 1) := by decide +kernel
theorem dL_isAnswerSo_164 : decode cL_isAnswerSo 164 = .ok (.ifCond .ne 7, 3) := by decide +kernel
theorem dL_isAnswerSo_167 : decode cL_isAnswerSo 167 = .ok (.iconst 1, 1) := by decide +kernel
theorem dL_isAnswerSo_168 : decode cL_isAnswerSo 168 = .ok (.goto 4, 3) := by decide +kernel
theorem dL_isAnswerSo_171 : decode cL_isAnswerSo 171 = .ok (.iconst 0, 1) := by decide +kernel
theorem dL_isAnswerSo_172 : decode cL_isAnswerSo 172 = .ok (.invokestatic 110, 3) := by decide +kernel
theorem dL_isAnswerSo_175 : decode cL_isAnswerSo 175 = .ok (.ifCond .eq 7, 3) := by decide +kernel
theorem dL_isAnswerSo_178 : decode cL_isAnswerSo 178 = .ok (.iconst 1, 1) := by decide +kernel
theorem dL_isAnswerSo_179 : decode cL_isAnswerSo 179 = .ok (.goto 4, 3) := by decide +kernel
theorem dL_isAnswerSo_182 : decode cL_isAnswerSo 182 = .ok (.iconst 0, 1) := by decide +kernel
theorem dL_isAnswerSo_183 : decode cL_isAnswerSo 183 = .ok (.ireturn, 1) := by decide +kernel
set_option maxRecDepth 20000 in
theorem ggL_areAllButSo_L_low : GoodIn wsL_areAllButSo wsL_low := goodIn_r _ [4, 5] (by decide +kernel) (by decide +kernel)
set_option maxRecDepth 20000 in
theorem gL_areAllButSo_L_low : GoodIn wsL_areAllButSo (va_wsS RL 14 yL_low wsL_low) := goodIn_app (goodIn_of _ (by decide +kernel)) ggL_areAllButSo_L_low
set_option maxRecDepth 20000 in
theorem ggL_areAllButSo_X5_fitting : GoodIn wsL_areAllButSo wsX5_fitting := goodIn_ca (goodIn_r _ [10, 11, 12, 13, 14, 15, 16, 9, 17, 18, 19, 20, 21, 22, 23, 24, 25, 26, 27, 28, 400, 401, 402, 403, 404, 405, 406, 407, 408, 409, 410, 411, 412, 413, 414, 415, 416, 417, 418, 419, 420, 421] (by decide +kernel) (by decide +kernel)) (goodIn_sub (fun _ h => List.mem_cons_of_mem _ (List.mem_append_left _ (List.mem_append_left _ (List.mem_append_right _ h)))) (by decide +kernel))
set_option maxRecDepth 20000 in
theorem gL_areAllButSo_X5_fitting : GoodIn wsL_areAllButSo (wsV RL 24 RX5 yX5_fitting wsX5_fitting) := goodIn_app (goodIn_of _ (by decide +kernel)) ggL_areAllButSo_X5_fitting
set_option maxRecDepth 20000 in
theorem ggL_areAllButSo_X5_suitable : GoodIn wsL_areAllButSo wsX5_suitable := goodIn_ca (goodIn_r _ [32, 11, 12, 13, 14, 33, 34, 35, 24, 36, 37, 38, 39, 40, 41, 26, 42, 43, 44, 45, 46, 47, 48, 49, 50, 51, 52, 22, 23, 25, 27, 28, 400, 401, 402, 403, 404, 405, 406, 407, 408, 409, 410, 411, 412, 413, 414, 415, 416, 417, 418, 419, 420, 421] (by decide +kernel) (by decide +kernel)) (goodIn_sub (fun _ h => List.mem_cons_of_mem _ (List.mem_append_left _ (List.mem_append_left _ (List.mem_append_right _ h)))) (by decide +kernel))
set_option maxRecDepth 20000 in
theorem gL_areAllButSo_X5_suitable : GoodIn wsL_areAllButSo (wsV RL 60 RX5 yX5_suitable wsX5_suitable) := goodIn_app (goodIn_of _ (by decide +kernel)) ggL_areAllButSo_X5_suitable
set_option maxRecDepth 20000 in
theorem ggL_areAllButSo_X5_objectsAt : GoodIn wsL_areAllButSo wsX5_objectsAt := goodIn_ca (goodIn_r _ [56, 11, 12, 13, 14, 57, 39, 40, 24, 41, 26, 42, 58, 59, 60, 61, 62, 63, 64, 400, 401, 402, 403, 404, 405, 406, 407, 408, 409, 410, 411, 412, 413, 414, 415, 416, 417, 418, 419, 420, 421] (by decide +kernel) (by decide +kernel)) (goodIn_sub (fun _ h => List.mem_cons_of_mem _ (List.mem_append_left _ (List.mem_append_left _ (List.mem_append_right _ h)))) (by decide +kernel))
set_option maxRecDepth 20000 in
theorem gL_areAllButSo_X5_objectsAt : GoodIn wsL_areAllButSo (wsV RL 31 RX5 yX5_objectsAt wsX5_objectsAt) := goodIn_app (goodIn_of _ (by decide +kernel)) ggL_areAllButSo_X5_objectsAt
set_option maxRecDepth 20000 in
theorem ggL_areAllButSo_L_size : GoodIn wsL_areAllButSo wsL_size := goodIn_r _ [67] (by decide +kernel) (by decide +kernel)
set_option maxRecDepth 20000 in
theorem gL_areAllButSo_L_size : GoodIn wsL_areAllButSo (va_wsS RL 69 yL_size wsL_size) := goodIn_app (goodIn_of _ (by decide +kernel)) ggL_areAllButSo_L_size
set_option maxRecDepth 20000 in
theorem ggL_areAllButSo_X5_digest : GoodIn wsL_areAllButSo wsX5_digest := goodIn_r _ [71, 72, 13, 14, 73, 74, 75, 76, 77, 78, 79, 80, 9, 81, 82, 83, 84, 85, 86, 87, 88, 89, 90, 91, 92, 93, 94, 95, 44, 45, 24, 46, 47, 37, 38, 39, 40, 41, 26, 42, 96, 97, 98, 99, 100, 101, 102, 103, 104, 105, 106, 107, 108, 109, 110, 111, 112, 113, 114, 115, 116, 117, 118, 119, 120, 121, 122, 123, 124, 125, 33, 34, 35, 36, 43, 48, 49, 50, 51, 52, 22, 23, 25, 27, 28, 400, 401, 402, 403, 404, 405, 406, 407, 408, 409, 410, 411, 412, 413, 414, 415, 416, 417, 418, 419, 420, 421] (by decide +kernel) (by decide +kernel)
set_option maxRecDepth 20000 in
theorem gL_areAllButSo_X5_digest : GoodIn wsL_areAllButSo (wsV RL 78 RX5 yX5_digest wsX5_digest) := goodIn_app (goodIn_of _ (by decide +kernel)) ggL_areAllButSo_X5_digest
set_option maxRecDepth 20000 in
theorem ggL_areAllButSo_X5_appendWord : GoodIn wsL_areAllButSo wsX5_appendWord := goodIn_ca (goodIn_ca (goodIn_r _ [129, 11, 12, 130, 131, 132, 133, 134, 135, 136, 137, 138, 139, 140, 141, 142, 143, 144, 145, 146, 9, 147, 148, 149, 150, 151, 152, 153, 154, 155, 156, 157, 158, 159, 400, 401, 402, 403, 404, 405, 406, 422, 423] (by decide +kernel) (by decide +kernel)) (goodIn_sub (fun _ h => List.mem_cons_of_mem _ (List.mem_append_left _ (List.mem_append_left _ (List.mem_append_right _ h)))) (by decide +kernel))) (goodIn_sub (fun _ h => List.mem_cons_of_mem _ (List.mem_append_left _ (List.mem_append_right _ h))) (by decide +kernel))
set_option maxRecDepth 20000 in
theorem gL_areAllButSo_X5_appendWord : GoodIn wsL_areAllButSo (wsV RL 38 RX5 yX5_appendWord wsX5_appendWord) := goodIn_app (goodIn_of _ (by decide +kernel)) ggL_areAllButSo_X5_appendWord
set_option maxRecDepth 20000 in
theorem ggL_areAllButSo_X5_enter : GoodIn wsL_areAllButSo wsX5_enter := goodIn_ca (goodIn_r _ [163, 164, 165, 132, 133, 13, 166, 167, 168, 169, 170, 9, 171, 172, 173, 174, 175, 176, 177, 178, 179, 180, 181, 182, 183, 184, 185, 186, 187, 188, 189, 190, 191, 192, 193, 194, 195, 196, 197, 198, 134, 135, 136, 137, 138, 139, 140, 141, 142, 143, 144, 199, 200, 201, 202, 146, 147, 148, 149, 150, 151, 203, 204, 205, 206, 207, 208, 209, 210, 211, 212, 213, 214, 215, 216, 217, 218, 219, 220, 221, 222, 223, 224, 225, 16, 17, 226, 227, 228, 229, 230, 231, 232, 233, 234, 235, 236, 237, 238, 239, 240, 241, 242, 243, 244, 245, 246, 247, 248, 249, 250, 251, 252, 253, 254, 255, 256, 257, 258, 259, 260, 261, 262, 263, 264, 265, 266, 267, 268, 269, 270, 271, 272, 273, 274, 275, 276, 277, 278, 279, 280, 281, 282, 283, 284, 285, 286, 287, 288, 24, 289, 27, 28, 42, 26, 47, 37, 290, 291, 292, 293, 294, 295, 296, 297, 298, 299, 300, 301, 302, 303, 304, 22, 23, 25, 305, 59, 60, 61, 62, 63, 64, 306, 307, 308, 309, 310, 311, 312, 313, 314, 315, 316, 317, 318, 319, 320, 321, 322, 323, 324, 325, 44, 45, 46, 38, 39, 40, 41, 326, 34, 35, 36, 43, 48, 49, 50, 51, 52, 327, 328, 329, 330, 331, 332, 333, 334, 335, 336, 337, 338, 339, 340, 341, 342, 343, 344, 345, 346, 347, 348, 349, 350, 351, 352, 353, 354, 355, 356, 357, 358, 359, 360, 361, 362, 363, 364, 365, 366, 367, 368, 369, 370, 371, 372, 373, 374, 375, 376, 377, 378, 379, 380, 381, 382, 383, 384, 385, 386, 400, 401, 402, 403, 404, 405, 406, 422, 423, 424, 425, 426, 407, 408, 409, 410, 411, 412, 413, 414, 415, 427, 428, 429, 430, 431, 432, 433, 434, 416, 417, 418, 419, 420, 421] (by decide +kernel) (by decide +kernel)) (goodIn_sub (fun _ h => List.mem_cons_of_mem _ (List.mem_append_right _ h)) (by decide +kernel))
set_option maxRecDepth 20000 in
theorem gL_areAllButSo_X5_enter : GoodIn wsL_areAllButSo (wsV RL 101 RX5 yX5_enter wsX5_enter) := goodIn_app (goodIn_of _ (by decide +kernel)) ggL_areAllButSo_X5_enter
set_option maxRecDepth 20000 in
theorem ggL_areAllButSo_X5_it : GoodIn wsL_areAllButSo wsX5_it := goodIn_r _ [104, 13, 105, 400, 401, 402, 403, 404, 405, 406, 407, 408, 409, 410, 411, 412, 413, 414, 415] (by decide +kernel) (by decide +kernel)
set_option maxRecDepth 20000 in
theorem gL_areAllButSo_X5_it : GoodIn wsL_areAllButSo (wsV RL 75 RX5 yX5_it wsX5_it) := goodIn_app (goodIn_of _ (by decide +kernel)) ggL_areAllButSo_X5_it
set_option maxRecDepth 20000 in
theorem ggL_areAllButSo_X5_them : GoodIn wsL_areAllButSo wsX5_them := goodIn_r _ [109, 13, 110, 400, 401, 402, 403, 404, 405, 406, 407, 408, 409, 410, 411, 412, 413, 414, 415] (by decide +kernel) (by decide +kernel)
set_option maxRecDepth 20000 in
theorem gL_areAllButSo_X5_them : GoodIn wsL_areAllButSo (wsV RL 66 RX5 yX5_them wsX5_them) := goodIn_app (goodIn_of _ (by decide +kernel)) ggL_areAllButSo_X5_them
set_option maxRecDepth 20000 in
theorem ggL_areAllButSo_X5_objects : GoodIn wsL_areAllButSo wsX5_objects := goodIn_r _ [81, 13, 14, 73, 400, 401, 402, 403, 404, 405, 406, 407, 408, 409, 410, 411, 412, 413, 414, 415, 416, 417, 418, 419, 420, 421] (by decide +kernel) (by decide +kernel)
set_option maxRecDepth 20000 in
theorem gL_areAllButSo_X5_objects : GoodIn wsL_areAllButSo (wsV RL 20 RX5 yX5_objects wsX5_objects) := goodIn_app (goodIn_of _ (by decide +kernel)) ggL_areAllButSo_X5_objects
set_option maxRecDepth 20000 in
theorem ggL_areAllButSo_X5_place : GoodIn wsL_areAllButSo wsX5_place := goodIn_ca (goodIn_r _ [393, 11, 12, 13, 14, 76, 394, 375, 376, 24, 377, 26, 400, 401, 402, 403, 404, 405, 406, 407, 408, 409, 410, 411, 412, 413, 414, 415, 416, 417, 418, 419, 420, 421] (by decide +kernel) (by decide +kernel)) (goodIn_sub (fun _ h => List.mem_cons_of_mem _ (List.mem_append_left _ (List.mem_append_left _ (List.mem_append_right _ h)))) (by decide +kernel))
set_option maxRecDepth 20000 in
theorem gL_areAllButSo_X5_place : GoodIn wsL_areAllButSo (wsV RL 53 RX5 yX5_place wsX5_place) := goodIn_app (goodIn_of _ (by decide +kernel)) ggL_areAllButSo_X5_place
set_option maxRecDepth 20000 in
theorem ggL_areAllButSo_X5_room : GoodIn wsL_areAllButSo wsX5_room := goodIn_r _ [89, 13, 14, 90, 400, 401, 402, 403, 404, 405, 406, 407, 408, 409, 410, 411, 412, 413, 414, 415, 416, 417, 418, 419, 420, 421] (by decide +kernel) (by decide +kernel)
set_option maxRecDepth 20000 in
theorem gL_areAllButSo_X5_room : GoodIn wsL_areAllButSo (wsV RL 48 RX5 yX5_room wsX5_room) := goodIn_app (goodIn_of _ (by decide +kernel)) ggL_areAllButSo_X5_room
set_option maxRecDepth 20000 in
theorem ggL_areAllButSo_X5_undo : GoodIn wsL_areAllButSo wsX5_undo := goodIn_ca (goodIn_r _ [399, 130, 131, 269, 267, 13, 268, 270, 271, 272, 9, 273, 274, 275, 276, 175, 277, 278, 279, 280, 281, 282, 283, 284, 285, 177, 286, 287, 288, 24, 289, 27, 28, 42, 26, 47, 37, 290, 291, 292, 189, 293, 191, 192, 193, 194, 195, 196, 197, 198, 400, 401, 402, 403, 404, 405, 406, 407, 408, 409, 410, 411, 412, 413, 414, 415, 416, 417, 418, 419, 420, 421, 427, 428, 429, 430, 431, 432, 433, 434] (by decide +kernel) (by decide +kernel)) (goodIn_sub (fun _ h => List.mem_cons_of_mem _ (List.mem_append_left _ (List.mem_append_right _ h))) (by decide +kernel))
set_option maxRecDepth 20000 in
theorem gL_areAllButSo_X5_undo : GoodIn wsL_areAllButSo (wsV RL 107 RX5 yX5_undo wsX5_undo) := goodIn_app (goodIn_of _ (by decide +kernel)) ggL_areAllButSo_X5_undo
theorem dL_areAllButSo_0 : decode cL_areAllButSo 0 = .ok (.iload_n 1, 1) := by decide +kernel
theorem dL_areAllButSo_1 : decode cL_areAllButSo 1 = .ok (.iconst 4, 1) := by decide +kernel
theorem dL_areAllButSo_2 : decode cL_areAllButSo 2 = .ok (.ishr, 1) := by decide +kernel
theorem dL_areAllButSo_3 : decode cL_areAllButSo 3 = .ok (.bipush 6, 2) := by decide +kernel
theorem dL_areAllButSo_5 : decode cL_areAllButSo 5 = .ok (.invokestatic 14, 3) := by decide +kernel
theorem dL_areAllButSo_8 : decode cL_areAllButSo 8 = .ok (.istore_n 2, 1) := by decide +kernel
theorem dL_areAllButSo_9 : decode cL_areAllButSo 9 = .ok (.iload_n 1, 1) := by decide +kernel
theorem dL_areAllButSo_10 : decode cL_areAllButSo 10 = .ok (.bipush 7, 2) := by decide +kernel
theorem dL_areAllButSo_12 : decode cL_areAllButSo 12 = .ok (.ishr, 1) := by decide +kernel
theorem dL_areAllButSo_13 : decode cL_areAllButSo 13 = .ok (.iconst 2, 1) := by decide +kernel
theorem dL_areAllButSo_14 : decode cL_areAllButSo 14 = .ok (.invokestatic 14, 3) := by decide +kernel
theorem dL_areAllButSo_17 : decode cL_areAllButSo 17 = .ok (.istore_n 3, 1) := by decide +kernel
theorem dL_areAllButSo_18 : decode cL_areAllButSo 18 = .ok (.aload_n 0, 1) := by decide +kernel
theorem dL_areAllButSo_19 : decode cL_areAllButSo 19 = .ok (.iload_n 2, 1) := by decide +kernel
theorem dL_areAllButSo_20 : decode cL_areAllButSo 20 = .ok (.iconst (-1), 1) := by decide +kernel
theorem dL_areAllButSo_21 : decode cL_areAllButSo 21 = .ok (.invokevirtual 24, 3) := by decide +kernel
theorem dL_areAllButSo_24 : decode cL_areAllButSo 24 = .ok (.istore 4, 2) := by decide +kernel
theorem dL_areAllButSo_26 : decode cL_areAllButSo 26 = .ok (.aload_n 0, 1) := by decide +kernel
theorem dL_areAllButSo_27 : decode cL_areAllButSo 27 = .ok (.iload_n 3, 1) := by decide +kernel
theorem dL_areAllButSo_28 : decode cL_areAllButSo 28 = .ok (.invokevirtual 60, 3) := by decide +kernel
theorem dL_areAllButSo_31 : decode cL_areAllButSo 31 = .ok (.iload 4, 2) := by decide +kernel
theorem dL_areAllButSo_33 : decode cL_areAllButSo 33 = .ok (.iconst (-1), 1) := by decide +kernel
theorem dL_areAllButSo_34 : decode cL_areAllButSo 34 = .ok (.ixor, 1) := by decide +kernel
theorem dL_areAllButSo_35 : decode cL_areAllButSo 35 = .ok (.iand, 1) := by decide +kernel
theorem dL_areAllButSo_36 : decode cL_areAllButSo 36 = .ok (.istore 5, 2) := by decide +kernel
theorem dL_areAllButSo_38 : decode cL_areAllButSo 38 = .ok (.aload_n 0, 1) := by decide +kernel
theorem dL_areAllButSo_39 : decode cL_areAllButSo 39 = .ok (.iconst 4, 1) := by decide +kernel
theorem dL_areAllButSo_40 : decode cL_areAllButSo 40 = .ok (.invokevirtual 31, 3) := by decide +kernel
