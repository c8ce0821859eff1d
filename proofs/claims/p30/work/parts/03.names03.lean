theorem wsL_law_x0 : ∀ w ∈ (vx_at0 RX5 88 "java/lang/IndexOutOfBoundsException" ["java/lang/RuntimeException", "java/lang/Exception"]).filter goodWord, w ∈ lw_tbl := by decide +kernel
theorem wsL_law_x1 : ∀ w ∈ (vx_at0 RX5 55 "java/lang/IllegalArgumentException" ["java/lang/RuntimeException", "java/lang/Exception"]).filter goodWord, w ∈ lw_tbl := by decide +kernel
theorem wsL_law_x2 : ∀ w ∈ (vx_at0 RX5 72 "java/lang/IllegalStateException" ["java/lang/RuntimeException", "java/lang/Exception"]).filter goodWord, w ∈ lw_tbl := by decide +kernel
theorem wsL_law_in : ∀ w ∈ wsL_law, w ∈ lw_tbl := fun w h => (List.mem_append.mp h).elim (fun h => (List.mem_append.mp h).elim (fun h => (List.mem_append.mp h).elim (fun h => wsL_law_in0 w h) (fun h => wsL_law_x0 w h)) (fun h => wsL_law_x1 w h)) (fun h => wsL_law_x2 w h)
theorem inlX0 : ∀ w ∈ wsX00, w ∈ wsL_law := fun _ h => List.mem_append_left _ (List.mem_append_left _ (List.mem_append_left _ (List.mem_append_left _ (List.mem_append_left _ (List.mem_append_left _ (List.mem_append_left _ (List.mem_append_left _ (List.mem_append_right _ h))))))))
theorem inX0 : ∀ w ∈ wsX00, w ∈ lw_tbl := fun w h => wsL_law_in w (inlX0 w h)
theorem inlX1 : ∀ w ∈ wsX10, w ∈ wsL_law := fun _ h => List.mem_append_left _ (List.mem_append_left _ (List.mem_append_left _ (List.mem_append_left _ (List.mem_append_left _ (List.mem_append_right _ h)))))
theorem inX1 : ∀ w ∈ wsX10, w ∈ lw_tbl := fun w h => wsL_law_in w (inlX1 w h)
theorem inlX2 : ∀ w ∈ wsX20, w ∈ wsL_law := fun _ h => List.mem_append_left _ (List.mem_append_left _ (List.mem_append_left _ (List.mem_append_left _ (List.mem_append_left _ (List.mem_append_left _ (List.mem_append_left _ (List.mem_append_right _ h)))))))
theorem inX2 : ∀ w ∈ wsX20, w ∈ lw_tbl := fun w h => wsL_law_in w (inlX2 w h)
theorem inlX3 : ∀ w ∈ wsX30, w ∈ wsL_law := fun _ h => List.mem_append_left _ (List.mem_append_left _ (List.mem_append_left _ (List.mem_append_left _ (List.mem_append_left _ (List.mem_append_left _ (List.mem_append_right _ h))))))
theorem inX3 : ∀ w ∈ wsX30, w ∈ lw_tbl := fun w h => wsL_law_in w (inlX3 w h)
theorem inlX4 : ∀ w ∈ wsX40, w ∈ wsL_law := fun _ h => List.mem_append_left _ (List.mem_append_left _ (List.mem_append_left _ (List.mem_append_left _ (List.mem_append_right _ h))))
theorem inX4 : ∀ w ∈ wsX40, w ∈ lw_tbl := fun w h => wsL_law_in w (inlX4 w h)
theorem inlX5 : ∀ w ∈ wsX50, w ∈ wsL_law := fun _ h => List.mem_append_left _ (List.mem_append_left _ (List.mem_append_left _ (List.mem_append_left _ (List.mem_append_left _ (List.mem_append_left _ (List.mem_append_left _ (List.mem_append_left _ (List.mem_append_left _ (List.mem_append_right _ h)))))))))
theorem inX5 : ∀ w ∈ wsX50, w ∈ lw_tbl := fun w h => wsL_law_in w (inlX5 w h)
theorem inX6 : ∀ w ∈ wsX60, w ∈ lw_tbl := by decide +kernel
theorem inJ6 : ∀ w ∈ wsJ60, w ∈ lw_tbl := by decide +kernel
theorem inJ9 : ∀ w ∈ wsJ90, w ∈ lw_tbl := by decide +kernel
theorem dX0_init_0 : decode cX0_init 0 = .ok (.aload_n 0, 1) := by decide +kernel
theorem dX0_init_1 : decode cX0_init 1 = .ok (.invokespecial 3, 3) := by decide +kernel
theorem dX0_init_4 : decode cX0_init 4 = .ok (.aload_n 0, 1) := by decide +kernel
theorem dX0_init_5 : decode cX0_init 5 = .ok (.bipush 60, 2) := by decide +kernel
theorem dX0_init_7 : decode cX0_init 7 = .ok (.newarray .char, 2) := by decide +kernel
theorem dX0_init_9 : decode cX0_init 9 = .ok (.putfield 9, 3) := by decide +kernel
theorem dX0_init_12 : decode cX0_init 12 = .ok (.return_, 1) := by decide +kernel
theorem dX0_hasSpaceFor_0 : decode cX0_hasSpaceFor 0 = .ok (.aload_n 0, 1) := by decide +kernel
theorem dX0_hasSpaceFor_1 : decode cX0_hasSpaceFor 1 = .ok (.getfield 15, 3) := by decide +kernel
theorem dX0_hasSpaceFor_4 : decode cX0_hasSpaceFor 4 = .ok (.iload_n 1, 1) := by decide +kernel
theorem dX0_hasSpaceFor_5 : decode cX0_hasSpaceFor 5 = .ok (.iadd, 1) := by decide +kernel
theorem dX0_hasSpaceFor_6 : decode cX0_hasSpaceFor 6 = .ok (.aload_n 0, 1) := by decide +kernel
theorem dX0_hasSpaceFor_7 : decode cX0_hasSpaceFor 7 = .ok (.getfield 9, 3) := by decide +kernel
theorem dX0_hasSpaceFor_10 : decode cX0_hasSpaceFor 10 = .ok (.arraylength, 1) := by decide +kernel
theorem dX0_hasSpaceFor_11 : decode cX0_hasSpaceFor 11 = .ok (.if_icmp .gt 7, 3) := by decide +kernel
theorem dX0_hasSpaceFor_14 : decode cX0_hasSpaceFor 14 = .ok (.iconst 1, 1) := by decide +kernel
theorem dX0_hasSpaceFor_15 : decode cX0_hasSpaceFor 15 = .ok (.goto 4, 3) := by decide +kernel
theorem dX0_hasSpaceFor_18 : decode cX0_hasSpaceFor 18 = .ok (.iconst 0, 1) := by decide +kernel
theorem dX0_hasSpaceFor_19 : decode cX0_hasSpaceFor 19 = .ok (.ireturn, 1) := by decide +kernel
theorem dX0_add_0 : decode cX0_add 0 = .ok (.aload_n 0, 1) := by decide +kernel
theorem dX0_add_1 : decode cX0_add 1 = .ok (.getfield 15, 3) := by decide +kernel
theorem dX0_add_4 : decode cX0_add 4 = .ok (.ifCond .lt 35, 3) := by decide +kernel
theorem dX0_add_7 : decode cX0_add 7 = .ok (.aload_n 0, 1) := by decide +kernel
theorem dX0_add_8 : decode cX0_add 8 = .ok (.getfield 15, 3) := by decide +kernel
theorem dX0_add_11 : decode cX0_add 11 = .ok (.aload_n 0, 1) := by decide +kernel
theorem dX0_add_12 : decode cX0_add 12 = .ok (.getfield 9, 3) := by decide +kernel
theorem dX0_add_15 : decode cX0_add 15 = .ok (.arraylength, 1) := by decide +kernel
theorem dX0_add_16 : decode cX0_add 16 = .ok (.if_icmp .ge 23, 3) := by decide +kernel
theorem dX0_add_19 : decode cX0_add 19 = .ok (.aload_n 0, 1) := by decide +kernel
theorem dX0_add_20 : decode cX0_add 20 = .ok (.getfield 9, 3) := by decide +kernel
theorem dX0_add_23 : decode cX0_add 23 = .ok (.aload_n 0, 1) := by decide +kernel
theorem dX0_add_24 : decode cX0_add 24 = .ok (.getfield 15, 3) := by decide +kernel
theorem dX0_add_27 : decode cX0_add 27 = .ok (.iload_n 1, 1) := by decide +kernel
theorem dX0_add_28 : decode cX0_add 28 = .ok (.castore, 1) := by decide +kernel
theorem dX0_add_29 : decode cX0_add 29 = .ok (.aload_n 0, 1) := by decide +kernel
theorem dX0_add_30 : decode cX0_add 30 = .ok (.dup, 1) := by decide +kernel
theorem dX0_add_31 : decode cX0_add 31 = .ok (.getfield 15, 3) := by decide +kernel
theorem dX0_add_34 : decode cX0_add 34 = .ok (.iconst 1, 1) := by decide +kernel
theorem dX0_add_35 : decode cX0_add 35 = .ok (.iadd, 1) := by decide +kernel
theorem dX0_add_36 : decode cX0_add 36 = .ok (.putfield 15, 3) := by decide +kernel
theorem dX0_add_39 : decode cX0_add 39 = .ok (.return_, 1) := by decide +kernel
theorem dX0_characterAt_0 : decode cX0_characterAt 0 = .ok (.iload_n 1, 1) := by decide +kernel
theorem dX0_characterAt_1 : decode cX0_characterAt 1 = .ok (.ifCond .lt 29, 3) := by decide +kernel
theorem dX0_characterAt_4 : decode cX0_characterAt 4 = .ok (.iload_n 1, 1) := by decide +kernel
theorem dX0_characterAt_5 : decode cX0_characterAt 5 = .ok (.aload_n 0, 1) := by decide +kernel
theorem dX0_characterAt_6 : decode cX0_characterAt 6 = .ok (.getfield 15, 3) := by decide +kernel
theorem dX0_characterAt_9 : decode cX0_characterAt 9 = .ok (.if_icmp .ge 21, 3) := by decide +kernel
theorem dX0_characterAt_12 : decode cX0_characterAt 12 = .ok (.iload_n 1, 1) := by decide +kernel
theorem dX0_characterAt_13 : decode cX0_characterAt 13 = .ok (.aload_n 0, 1) := by decide +kernel
theorem dX0_characterAt_14 : decode cX0_characterAt 14 = .ok (.getfield 9, 3) := by decide +kernel
theorem dX0_characterAt_17 : decode cX0_characterAt 17 = .ok (.arraylength, 1) := by decide +kernel
theorem dX0_characterAt_18 : decode cX0_characterAt 18 = .ok (.if_icmp .ge 12, 3) := by decide +kernel
theorem dX0_characterAt_21 : decode cX0_characterAt 21 = .ok (.aload_n 0, 1) := by decide +kernel
theorem dX0_characterAt_22 : decode cX0_characterAt 22 = .ok (.getfield 9, 3) := by decide +kernel
theorem dX0_characterAt_25 : decode cX0_characterAt 25 = .ok (.iload_n 1, 1) := by decide +kernel
theorem dX0_characterAt_26 : decode cX0_characterAt 26 = .ok (.caload, 1) := by decide +kernel
theorem dX0_characterAt_27 : decode cX0_characterAt 27 = .ok (.goto 5, 3) := by decide +kernel
theorem dX0_characterAt_30 : decode cX0_characterAt 30 = .ok (.bipush 32, 2) := by decide +kernel
theorem dX0_characterAt_32 : decode cX0_characterAt 32 = .ok (.ireturn, 1) := by decide +kernel
set_option maxRecDepth 20000 in
theorem ggX0_isSpace_X0_characterAt : GoodIn wsX0_isSpace wsX0_characterAt := goodIn_r _ [5, 6, 7, 8, 9] (by decide +kernel) (by decide +kernel)
set_option maxRecDepth 20000 in
theorem gX0_isSpace_X0_characterAt : GoodIn wsX0_isSpace (wsV RX0 19 RX0 yX0_characterAt wsX0_characterAt) := goodIn_app (goodIn_of _ (by decide +kernel)) ggX0_isSpace_X0_characterAt
theorem dX0_isSpace_0 : decode cX0_isSpace 0 = .ok (.aload_n 0, 1) := by decide +kernel
theorem dX0_isSpace_1 : decode cX0_isSpace 1 = .ok (.iload_n 1, 1) := by decide +kernel
theorem dX0_isSpace_2 : decode cX0_isSpace 2 = .ok (.invokevirtual 19, 3) := by decide +kernel
theorem dX0_isSpace_5 : decode cX0_isSpace 5 = .ok (.bipush 32, 2) := by decide +kernel
theorem dX0_isSpace_7 : decode cX0_isSpace 7 = .ok (.if_icmp .ne 7, 3) := by decide +kernel
theorem dX0_isSpace_10 : decode cX0_isSpace 10 = .ok (.iconst 1, 1) := by decide +kernel
theorem dX0_isSpace_11 : decode cX0_isSpace 11 = .ok (.goto 4, 3) := by decide +kernel
theorem dX0_isSpace_14 : decode cX0_isSpace 14 = .ok (.iconst 0, 1) := by decide +kernel
theorem dX0_isSpace_15 : decode cX0_isSpace 15 = .ok (.ireturn, 1) := by decide +kernel
set_option maxRecDepth 20000 in
theorem ggX0_begins_X5_lengthOf : GoodIn wsX0_begins wsX5_lengthOf := goodIn_r _ [3, 4, 5, 2, 6, 7] (by decide +kernel) (by decide +kernel)
set_option maxRecDepth 20000 in
theorem gX0_begins_X5_lengthOf_n23 : GoodIn wsX0_begins (wsX5_lengthOf) := ggX0_begins_X5_lengthOf
set_option maxRecDepth 20000 in
theorem ggX0_begins_X0_characterAt : GoodIn wsX0_begins wsX0_characterAt := goodIn_r _ [12, 13, 14, 15, 16] (by decide +kernel) (by decide +kernel)
set_option maxRecDepth 20000 in
theorem gX0_begins_X0_characterAt : GoodIn wsX0_begins (wsV RX0 19 RX0 yX0_characterAt wsX0_characterAt) := goodIn_app (goodIn_of _ (by decide +kernel)) ggX0_begins_X0_characterAt
set_option maxRecDepth 20000 in
theorem ggX0_begins_X5_letterOf : GoodIn wsX0_begins wsX5_letterOf := goodIn_r _ [6, 7] (by decide +kernel) (by decide +kernel)
set_option maxRecDepth 20000 in
theorem gX0_begins_X5_letterOf_n27 : GoodIn wsX0_begins (wsX5_letterOf) := ggX0_begins_X5_letterOf
theorem dX0_begins_0 : decode cX0_begins 0 = .ok (.iload_n 3, 1) := by decide +kernel
theorem dX0_begins_1 : decode cX0_begins 1 = .ok (.iload_n 2, 1) := by decide +kernel
theorem dX0_begins_2 : decode cX0_begins 2 = .ok (.isub, 1) := by decide +kernel
theorem dX0_begins_3 : decode cX0_begins 3 = .ok (.iload_n 1, 1) := by decide +kernel
theorem dX0_begins_4 : decode cX0_begins 4 = .ok (.invokestatic 23, 3) := by decide +kernel
theorem dX0_begins_7 : decode cX0_begins 7 = .ok (.if_icmp .le 5, 3) := by decide +kernel
theorem dX0_begins_10 : decode cX0_begins 10 = .ok (.iconst 0, 1) := by decide +kernel
theorem dX0_begins_11 : decode cX0_begins 11 = .ok (.ireturn, 1) := by decide +kernel
theorem dX0_begins_12 : decode cX0_begins 12 = .ok (.iload_n 2, 1) := by decide +kernel
theorem dX0_begins_13 : decode cX0_begins 13 = .ok (.istore 4, 2) := by decide +kernel
theorem dX0_begins_15 : decode cX0_begins 15 = .ok (.iload 4, 2) := by decide +kernel
theorem dX0_begins_17 : decode cX0_begins 17 = .ok (.iload_n 3, 1) := by decide +kernel
theorem dX0_begins_18 : decode cX0_begins 18 = .ok (.if_icmp .ge 28, 3) := by decide +kernel
theorem dX0_begins_21 : decode cX0_begins 21 = .ok (.aload_n 0, 1) := by decide +kernel
theorem dX0_begins_22 : decode cX0_begins 22 = .ok (.iload 4, 2) := by decide +kernel
theorem dX0_begins_24 : decode cX0_begins 24 = .ok (.invokevirtual 19, 3) := by decide +kernel
theorem dX0_begins_27 : decode cX0_begins 27 = .ok (.iload_n 1, 1) := by decide +kernel
theorem dX0_begins_28 : decode cX0_begins 28 = .ok (.iload 4, 2) := by decide +kernel
theorem dX0_begins_30 : decode cX0_begins 30 = .ok (.iload_n 2, 1) := by decide +kernel
theorem dX0_begins_31 : decode cX0_begins 31 = .ok (.isub, 1) := by decide +kernel
theorem dX0_begins_32 : decode cX0_begins 32 = .ok (.invokestatic 27, 3) := by decide +kernel
theorem dX0_begins_35 : decode cX0_begins 35 = .ok (.if_icmp .eq 5, 3) := by decide +kernel
theorem dX0_begins_38 : decode cX0_begins 38 = .ok (.iconst 0, 1) := by decide +kernel
theorem dX0_begins_39 : decode cX0_begins 39 = .ok (.ireturn, 1) := by decide +kernel
theorem dX0_begins_40 : decode cX0_begins 40 = .ok (.iinc 4 1, 3) := by decide +kernel
theorem dX0_begins_43 : decode cX0_begins 43 = .ok (.goto (-28), 3) := by decide +kernel
theorem dX0_begins_46 : decode cX0_begins 46 = .ok (.iconst 1, 1) := by decide +kernel
theorem dX0_begins_47 : decode cX0_begins 47 = .ok (.ireturn, 1) := by decide +kernel
set_option maxRecDepth 20000 in
theorem ggX0_wordAt_X5_lengthOf : GoodIn wsX0_wordAt wsX5_lengthOf := goodIn_r _ [3, 4, 5, 2, 6, 7] (by decide +kernel) (by decide +kernel)
set_option maxRecDepth 20000 in
theorem gX0_wordAt_X5_lengthOf_n23 : GoodIn wsX0_wordAt (wsX5_lengthOf) := ggX0_wordAt_X5_lengthOf
set_option maxRecDepth 20000 in
theorem ggX0_wordAt_X0_begins : GoodIn wsX0_wordAt wsX0_begins := goodIn_r _ [12, 1, 2, 3, 4, 5, 6, 7, 13, 14, 15, 11, 16, 17, 18, 19, 20] (by decide +kernel) (by decide +kernel)
set_option maxRecDepth 20000 in
theorem gX0_wordAt_X0_begins : GoodIn wsX0_wordAt (wsV RX0 31 RX0 yX0_begins wsX0_begins) := goodIn_app (goodIn_of _ (by decide +kernel)) ggX0_wordAt_X0_begins
theorem dX0_wordAt_0 : decode cX0_wordAt 0 = .ok (.iconst 0, 1) := by decide +kernel
theorem dX0_wordAt_1 : decode cX0_wordAt 1 = .ok (.istore_n 3, 1) := by decide +kernel
theorem dX0_wordAt_2 : decode cX0_wordAt 2 = .ok (.iload_n 3, 1) := by decide +kernel
theorem dX0_wordAt_3 : decode cX0_wordAt 3 = .ok (.bipush 25, 2) := by decide +kernel
theorem dX0_wordAt_5 : decode cX0_wordAt 5 = .ok (.if_icmp .ge 31, 3) := by decide +kernel
theorem dX0_wordAt_8 : decode cX0_wordAt 8 = .ok (.iload_n 2, 1) := by decide +kernel
theorem dX0_wordAt_9 : decode cX0_wordAt 9 = .ok (.iload_n 1, 1) := by decide +kernel
theorem dX0_wordAt_10 : decode cX0_wordAt 10 = .ok (.isub, 1) := by decide +kernel
theorem dX0_wordAt_11 : decode cX0_wordAt 11 = .ok (.iload_n 3, 1) := by decide +kernel
theorem dX0_wordAt_12 : decode cX0_wordAt 12 = .ok (.invokestatic 23, 3) := by decide +kernel
theorem dX0_wordAt_15 : decode cX0_wordAt 15 = .ok (.if_icmp .ne 15, 3) := by decide +kernel
theorem dX0_wordAt_18 : decode cX0_wordAt 18 = .ok (.aload_n 0, 1) := by decide +kernel
theorem dX0_wordAt_19 : decode cX0_wordAt 19 = .ok (.iload_n 3, 1) := by decide +kernel
theorem dX0_wordAt_20 : decode cX0_wordAt 20 = .ok (.iload_n 1, 1) := by decide +kernel
theorem dX0_wordAt_21 : decode cX0_wordAt 21 = .ok (.iload_n 2, 1) := by decide +kernel
theorem dX0_wordAt_22 : decode cX0_wordAt 22 = .ok (.invokevirtual 31, 3) := by decide +kernel
theorem dX0_wordAt_25 : decode cX0_wordAt 25 = .ok (.ifCond .eq 5, 3) := by decide +kernel
theorem dX0_wordAt_28 : decode cX0_wordAt 28 = .ok (.iload_n 3, 1) := by decide +kernel
theorem dX0_wordAt_29 : decode cX0_wordAt 29 = .ok (.ireturn, 1) := by decide +kernel
theorem dX0_wordAt_30 : decode cX0_wordAt 30 = .ok (.iinc 3 1, 3) := by decide +kernel
theorem dX0_wordAt_33 : decode cX0_wordAt 33 = .ok (.goto (-31), 3) := by decide +kernel
theorem dX0_wordAt_36 : decode cX0_wordAt 36 = .ok (.iconst (-1), 1) := by decide +kernel
theorem dX0_wordAt_37 : decode cX0_wordAt 37 = .ok (.ireturn, 1) := by decide +kernel
theorem dX1_init_0 : decode cX1_init 0 = .ok (.aload_n 0, 1) := by decide +kernel
theorem dX1_init_1 : decode cX1_init 1 = .ok (.invokespecial 3, 3) := by decide +kernel
theorem dX1_init_4 : decode cX1_init 4 = .ok (.aload_n 0, 1) := by decide +kernel
theorem dX1_init_5 : decode cX1_init 5 = .ok (.bipush 8, 2) := by decide +kernel
theorem dX1_init_7 : decode cX1_init 7 = .ok (.newarray .int, 2) := by decide +kernel
theorem dX1_init_9 : decode cX1_init 9 = .ok (.putfield 11, 3) := by decide +kernel
theorem dX1_init_12 : decode cX1_init 12 = .ok (.aload_n 0, 1) := by decide +kernel
theorem dX1_init_13 : decode cX1_init 13 = .ok (.bipush 8, 2) := by decide +kernel
theorem dX1_init_15 : decode cX1_init 15 = .ok (.newarray .int, 2) := by decide +kernel
theorem dX1_init_17 : decode cX1_init 17 = .ok (.putfield 15, 3) := by decide +kernel
theorem dX1_init_20 : decode cX1_init 20 = .ok (.aload_n 0, 1) := by decide +kernel
theorem dX1_init_21 : decode cX1_init 21 = .ok (.bipush 8, 2) := by decide +kernel
theorem dX1_init_23 : decode cX1_init 23 = .ok (.newarray .int, 2) := by decide +kernel
theorem dX1_init_25 : decode cX1_init 25 = .ok (.putfield 18, 3) := by decide +kernel
theorem dX1_init_28 : decode cX1_init 28 = .ok (.aload_n 0, 1) := by decide +kernel
theorem dX1_init_29 : decode cX1_init 29 = .ok (.iconst (-1), 1) := by decide +kernel
theorem dX1_init_30 : decode cX1_init 30 = .ok (.putfield 21, 3) := by decide +kernel
theorem dX1_init_33 : decode cX1_init 33 = .ok (.return_, 1) := by decide +kernel
theorem dX1_reset_0 : decode cX1_reset 0 = .ok (.iconst 0, 1) := by decide +kernel
theorem dX1_reset_1 : decode cX1_reset 1 = .ok (.istore_n 1, 1) := by decide +kernel
theorem dX1_reset_2 : decode cX1_reset 2 = .ok (.iload_n 1, 1) := by decide +kernel
theorem dX1_reset_3 : decode cX1_reset 3 = .ok (.bipush 8, 2) := by decide +kernel
theorem dX1_reset_5 : decode cX1_reset 5 = .ok (.if_icmp .ge 30, 3) := by decide +kernel
theorem dX1_reset_8 : decode cX1_reset 8 = .ok (.aload_n 0, 1) := by decide +kernel
theorem dX1_reset_9 : decode cX1_reset 9 = .ok (.getfield 11, 3) := by decide +kernel
theorem dX1_reset_12 : decode cX1_reset 12 = .ok (.iload_n 1, 1) := by decide +kernel
theorem dX1_reset_13 : decode cX1_reset 13 = .ok (.iconst (-1), 1) := by decide +kernel
theorem dX1_reset_14 : decode cX1_reset 14 = .ok (.iastore, 1) := by decide +kernel
theorem dX1_reset_15 : decode cX1_reset 15 = .ok (.aload_n 0, 1) := by decide +kernel
theorem dX1_reset_16 : decode cX1_reset 16 = .ok (.getfield 15, 3) := by decide +kernel
theorem dX1_reset_19 : decode cX1_reset 19 = .ok (.iload_n 1, 1) := by decide +kernel
theorem dX1_reset_20 : decode cX1_reset 20 = .ok (.iconst (-1), 1) := by decide +kernel
theorem dX1_reset_21 : decode cX1_reset 21 = .ok (.iastore, 1) := by decide +kernel
theorem dX1_reset_22 : decode cX1_reset 22 = .ok (.aload_n 0, 1) := by decide +kernel
theorem dX1_reset_23 : decode cX1_reset 23 = .ok (.getfield 18, 3) := by decide +kernel
theorem dX1_reset_26 : decode cX1_reset 26 = .ok (.iload_n 1, 1) := by decide +kernel
theorem dX1_reset_27 : decode cX1_reset 27 = .ok (.iconst 0, 1) := by decide +kernel
theorem dX1_reset_28 : decode cX1_reset 28 = .ok (.iastore, 1) := by decide +kernel
theorem dX1_reset_29 : decode cX1_reset 29 = .ok (.iinc 1 1, 3) := by decide +kernel
theorem dX1_reset_32 : decode cX1_reset 32 = .ok (.goto (-30), 3) := by decide +kernel
theorem dX1_reset_35 : decode cX1_reset 35 = .ok (.aload_n 0, 1) := by decide +kernel
theorem dX1_reset_36 : decode cX1_reset 36 = .ok (.iconst (-1), 1) := by decide +kernel
theorem dX1_reset_37 : decode cX1_reset 37 = .ok (.putfield 21, 3) := by decide +kernel
theorem dX1_reset_40 : decode cX1_reset 40 = .ok (.aload_n 0, 1) := by decide +kernel
theorem dX1_reset_41 : decode cX1_reset 41 = .ok (.iconst 0, 1) := by decide +kernel
theorem dX1_reset_42 : decode cX1_reset 42 = .ok (.putfield 25, 3) := by decide +kernel
theorem dX1_reset_45 : decode cX1_reset 45 = .ok (.aload_n 0, 1) := by decide +kernel
theorem dX1_reset_46 : decode cX1_reset 46 = .ok (.iconst 0, 1) := by decide +kernel
theorem dX1_reset_47 : decode cX1_reset 47 = .ok (.putfield 28, 3) := by decide +kernel
theorem dX1_reset_50 : decode cX1_reset 50 = .ok (.aload_n 0, 1) := by decide +kernel
theorem dX1_reset_51 : decode cX1_reset 51 = .ok (.iconst 0, 1) := by decide +kernel
theorem dX1_reset_52 : decode cX1_reset 52 = .ok (.putfield 32, 3) := by decide +kernel
theorem dX1_reset_55 : decode cX1_reset 55 = .ok (.aload_n 0, 1) := by decide +kernel
theorem dX1_reset_56 : decode cX1_reset 56 = .ok (.iconst 0, 1) := by decide +kernel
theorem dX1_reset_57 : decode cX1_reset 57 = .ok (.putfield 35, 3) := by decide +kernel
theorem dX1_reset_60 : decode cX1_reset 60 = .ok (.return_, 1) := by decide +kernel
theorem dX1_copyFrom_0 : decode cX1_copyFrom 0 = .ok (.iconst 0, 1) := by decide +kernel
theorem dX1_copyFrom_1 : decode cX1_copyFrom 1 = .ok (.istore_n 2, 1) := by decide +kernel
theorem dX1_copyFrom_2 : decode cX1_copyFrom 2 = .ok (.iload_n 2, 1) := by decide +kernel
theorem dX1_copyFrom_3 : decode cX1_copyFrom 3 = .ok (.bipush 8, 2) := by decide +kernel
theorem dX1_copyFrom_5 : decode cX1_copyFrom 5 = .ok (.if_icmp .ge 45, 3) := by decide +kernel
theorem dX1_copyFrom_8 : decode cX1_copyFrom 8 = .ok (.aload_n 0, 1) := by decide +kernel
theorem dX1_copyFrom_9 : decode cX1_copyFrom 9 = .ok (.getfield 11, 3) := by decide +kernel
theorem dX1_copyFrom_12 : decode cX1_copyFrom 12 = .ok (.iload_n 2, 1) := by decide +kernel
theorem dX1_copyFrom_13 : decode cX1_copyFrom 13 = .ok (.aload_n 1, 1) := by decide +kernel
theorem dX1_copyFrom_14 : decode cX1_copyFrom 14 = .ok (.getfield 11, 3) := by decide +kernel
theorem dX1_copyFrom_17 : decode cX1_copyFrom 17 = .ok (.iload_n 2, 1) := by decide +kernel
theorem dX1_copyFrom_18 : decode cX1_copyFrom 18 = .ok (.iaload, 1) := by decide +kernel
theorem dX1_copyFrom_19 : decode cX1_copyFrom 19 = .ok (.iastore, 1) := by decide +kernel
theorem dX1_copyFrom_20 : decode cX1_copyFrom 20 = .ok (.aload_n 0, 1) := by decide +kernel
theorem dX1_copyFrom_21 : decode cX1_copyFrom 21 = .ok (.getfield 15, 3) := by decide +kernel
theorem dX1_copyFrom_24 : decode cX1_copyFrom 24 = .ok (.iload_n 2, 1) := by decide +kernel
theorem dX1_copyFrom_25 : decode cX1_copyFrom 25 = .ok (.aload_n 1, 1) := by decide +kernel
theorem dX1_copyFrom_26 : decode cX1_copyFrom 26 = .ok (.getfield 15, 3) := by decide +kernel
theorem dX1_copyFrom_29 : decode cX1_copyFrom 29 = .ok (.iload_n 2, 1) := by decide +kernel
theorem dX1_copyFrom_30 : decode cX1_copyFrom 30 = .ok (.iaload, 1) := by decide +kernel
theorem dX1_copyFrom_31 : decode cX1_copyFrom 31 = .ok (.iastore, 1) := by decide +kernel
theorem dX1_copyFrom_32 : decode cX1_copyFrom 32 = .ok (.aload_n 0, 1) := by decide +kernel
theorem dX1_copyFrom_33 : decode cX1_copyFrom 33 = .ok (.getfield 18, 3) := by decide +kernel
theorem dX1_copyFrom_36 : decode cX1_copyFrom 36 = .ok (.iload_n 2, 1) := by decide +kernel
theorem dX1_copyFrom_37 : decode cX1_copyFrom 37 = .ok (.aload_n 1, 1) := by decide +kernel
theorem dX1_copyFrom_38 : decode cX1_copyFrom 38 = .ok (.getfield 18, 3) := by decide +kernel
theorem dX1_copyFrom_41 : decode cX1_copyFrom 41 = .ok (.iload_n 2, 1) := by decide +kernel
theorem dX1_copyFrom_42 : decode cX1_copyFrom 42 = .ok (.iaload, 1) := by decide +kernel
theorem dX1_copyFrom_43 : decode cX1_copyFrom 43 = .ok (.iastore, 1) := by decide +kernel
theorem dX1_copyFrom_44 : decode cX1_copyFrom 44 = .ok (.iinc 2 1, 3) := by decide +kernel
theorem dX1_copyFrom_47 : decode cX1_copyFrom 47 = .ok (.goto (-45), 3) := by decide +kernel
theorem dX1_copyFrom_50 : decode cX1_copyFrom 50 = .ok (.aload_n 0, 1) := by decide +kernel
theorem dX1_copyFrom_51 : decode cX1_copyFrom 51 = .ok (.aload_n 1, 1) := by decide +kernel
theorem dX1_copyFrom_52 : decode cX1_copyFrom 52 = .ok (.getfield 21, 3) := by decide +kernel
theorem dX1_copyFrom_55 : decode cX1_copyFrom 55 = .ok (.putfield 21, 3) := by decide +kernel
theorem dX1_copyFrom_58 : decode cX1_copyFrom 58 = .ok (.aload_n 0, 1) := by decide +kernel
theorem dX1_copyFrom_59 : decode cX1_copyFrom 59 = .ok (.aload_n 1, 1) := by decide +kernel
theorem dX1_copyFrom_60 : decode cX1_copyFrom 60 = .ok (.getfield 25, 3) := by decide +kernel
theorem dX1_copyFrom_63 : decode cX1_copyFrom 63 = .ok (.putfield 25, 3) := by decide +kernel
theorem dX1_copyFrom_66 : decode cX1_copyFrom 66 = .ok (.aload_n 0, 1) := by decide +kernel
theorem dX1_copyFrom_67 : decode cX1_copyFrom 67 = .ok (.aload_n 1, 1) := by decide +kernel
theorem dX1_copyFrom_68 : decode cX1_copyFrom 68 = .ok (.getfield 28, 3) := by decide +kernel
theorem dX1_copyFrom_71 : decode cX1_copyFrom 71 = .ok (.putfield 28, 3) := by decide +kernel
theorem dX1_copyFrom_74 : decode cX1_copyFrom 74 = .ok (.aload_n 0, 1) := by decide +kernel
theorem dX1_copyFrom_75 : decode cX1_copyFrom 75 = .ok (.aload_n 1, 1) := by decide +kernel
theorem dX1_copyFrom_76 : decode cX1_copyFrom 76 = .ok (.getfield 32, 3) := by decide +kernel
theorem dX1_copyFrom_79 : decode cX1_copyFrom 79 = .ok (.putfield 32, 3) := by decide +kernel
theorem dX1_copyFrom_82 : decode cX1_copyFrom 82 = .ok (.aload_n 0, 1) := by decide +kernel
theorem dX1_copyFrom_83 : decode cX1_copyFrom 83 = .ok (.aload_n 1, 1) := by decide +kernel
theorem dX1_copyFrom_84 : decode cX1_copyFrom 84 = .ok (.getfield 35, 3) := by decide +kernel
theorem dX1_copyFrom_87 : decode cX1_copyFrom 87 = .ok (.putfield 35, 3) := by decide +kernel
theorem dX1_copyFrom_90 : decode cX1_copyFrom 90 = .ok (.return_, 1) := by decide +kernel
theorem dX1_isAnswer_0 : decode cX1_isAnswer 0 = .ok (.aload_n 0, 1) := by decide +kernel
theorem dX1_isAnswer_1 : decode cX1_isAnswer 1 = .ok (.getfield 21, 3) := by decide +kernel
theorem dX1_isAnswer_4 : decode cX1_isAnswer 4 = .ok (.iconst (-1), 1) := by decide +kernel
theorem dX1_isAnswer_5 : decode cX1_isAnswer 5 = .ok (.if_icmp .ne 7, 3) := by decide +kernel
theorem dX1_isAnswer_8 : decode cX1_isAnswer 8 = .ok (.iconst 1, 1) := by decide +kernel
theorem dX1_isAnswer_9 : decode cX1_isAnswer 9 = .ok (.goto 4, 3) := by decide +kernel
theorem dX1_isAnswer_12 : decode cX1_isAnswer 12 = .ok (.iconst 0, 1) := by decide +kernel
theorem dX1_isAnswer_13 : decode cX1_isAnswer 13 = .ok (.ireturn, 1) := by decide +kernel
theorem dX1_hasSlot_0 : decode cX1_hasSlot 0 = .ok (.iload_n 1, 1) := by decide +kernel
theorem dX1_hasSlot_1 : decode cX1_hasSlot 1 = .ok (.ifCond .lt 13, 3) := by decide +kernel
theorem dX1_hasSlot_4 : decode cX1_hasSlot 4 = .ok (.iload_n 1, 1) := by decide +kernel
theorem dX1_hasSlot_5 : decode cX1_hasSlot 5 = .ok (.bipush 8, 2) := by decide +kernel
theorem dX1_hasSlot_7 : decode cX1_hasSlot 7 = .ok (.if_icmp .ge 7, 3) := by decide +kernel
theorem dX1_hasSlot_10 : decode cX1_hasSlot 10 = .ok (.iconst 1, 1) := by decide +kernel
theorem dX1_hasSlot_11 : decode cX1_hasSlot 11 = .ok (.goto 4, 3) := by decide +kernel
theorem dX1_hasSlot_14 : decode cX1_hasSlot 14 = .ok (.iconst 0, 1) := by decide +kernel
theorem dX1_hasSlot_15 : decode cX1_hasSlot 15 = .ok (.ireturn, 1) := by decide +kernel
set_option maxRecDepth 20000 in
theorem ggX1_choose_X1_hasSlot : GoodIn wsX1_choose wsX1_hasSlot := goodIn_r _ [6] (by decide +kernel) (by decide +kernel)
set_option maxRecDepth 20000 in
theorem gX1_choose_X1_hasSlot : GoodIn wsX1_choose (wsV RX1 38 RX1 yX1_hasSlot wsX1_hasSlot) := goodIn_app (goodIn_of _ (by decide +kernel)) ggX1_choose_X1_hasSlot
theorem dX1_choose_0 : decode cX1_choose 0 = .ok (.aload_n 0, 1) := by decide +kernel
theorem dX1_choose_1 : decode cX1_choose 1 = .ok (.iload_n 1, 1) := by decide +kernel
theorem dX1_choose_2 : decode cX1_choose 2 = .ok (.invokevirtual 38, 3) := by decide +kernel
theorem dX1_choose_5 : decode cX1_choose 5 = .ok (.ifCond .eq 10, 3) := by decide +kernel
theorem dX1_choose_8 : decode cX1_choose 8 = .ok (.aload_n 0, 1) := by decide +kernel
theorem dX1_choose_9 : decode cX1_choose 9 = .ok (.getfield 18, 3) := by decide +kernel
theorem dX1_choose_12 : decode cX1_choose 12 = .ok (.iload_n 1, 1) := by decide +kernel
theorem dX1_choose_13 : decode cX1_choose 13 = .ok (.iload_n 2, 1) := by decide +kernel
theorem dX1_choose_14 : decode cX1_choose 14 = .ok (.iastore, 1) := by decide +kernel
theorem dX1_choose_15 : decode cX1_choose 15 = .ok (.return_, 1) := by decide +kernel
set_option maxRecDepth 20000 in
theorem ggX1_note_X5_isVerbWord : GoodIn wsX1_note wsX5_isVerbWord := goodIn_r _ [5] (by decide +kernel) (by decide +kernel)
set_option maxRecDepth 20000 in
theorem gX1_note_X5_isVerbWord_n42 : GoodIn wsX1_note (wsX5_isVerbWord) := ggX1_note_X5_isVerbWord
set_option maxRecDepth 20000 in
theorem ggX1_note_X5_isNoun : GoodIn wsX1_note wsX5_isNoun := goodIn_r _ [7] (by decide +kernel) (by decide +kernel)
set_option maxRecDepth 20000 in
theorem gX1_note_X5_isNoun_n45 : GoodIn wsX1_note (wsX5_isNoun) := ggX1_note_X5_isNoun
set_option maxRecDepth 20000 in
theorem ggX1_note_X1_noteNoun : GoodIn wsX1_note wsX1_noteNoun := goodIn_r _ [12, 2, 13, 14, 15, 16, 17, 18, 19, 20, 21, 11, 22, 36, 37, 38, 39, 40, 41, 42, 43] (by decide +kernel) (by decide +kernel)
set_option maxRecDepth 20000 in
theorem gX1_note_X1_noteNoun : GoodIn wsX1_note (wsV RX1 48 RX1 yX1_noteNoun wsX1_noteNoun) := goodIn_app (goodIn_of _ (by decide +kernel)) ggX1_note_X1_noteNoun
set_option maxRecDepth 20000 in
theorem ggX1_note_X5_isAdjectiveWord : GoodIn wsX1_note wsX5_isAdjectiveWord := goodIn_r _ [24] (by decide +kernel) (by decide +kernel)
set_option maxRecDepth 20000 in
theorem gX1_note_X5_isAdjectiveWord_n52 : GoodIn wsX1_note (wsX5_isAdjectiveWord) := ggX1_note_X5_isAdjectiveWord
set_option maxRecDepth 20000 in
theorem ggX1_note_X1_noteAdjective : GoodIn wsX1_note wsX1_noteAdjective := goodIn_r _ [28, 2, 29, 19, 20, 21, 11, 22, 36, 37, 38, 39, 40, 41, 42, 43] (by decide +kernel) (by decide +kernel)
set_option maxRecDepth 20000 in
theorem gX1_note_X1_noteAdjective : GoodIn wsX1_note (wsV RX1 55 RX1 yX1_noteAdjective wsX1_noteAdjective) := goodIn_app (goodIn_of _ (by decide +kernel)) ggX1_note_X1_noteAdjective
set_option maxRecDepth 20000 in
theorem ggX1_note_X1_noteOther : GoodIn wsX1_note wsX1_noteOther := goodIn_r _ [33, 34, 2, 35, 36, 37, 38, 39, 40, 41, 42, 43] (by decide +kernel) (by decide +kernel)
set_option maxRecDepth 20000 in
theorem gX1_note_X1_noteOther : GoodIn wsX1_note (wsV RX1 58 RX1 yX1_noteOther wsX1_noteOther) := goodIn_app (goodIn_of _ (by decide +kernel)) ggX1_note_X1_noteOther
theorem dX1_note_0 : decode cX1_note 0 = .ok (.iload_n 1, 1) := by decide +kernel
theorem dX1_note_1 : decode cX1_note 1 = .ok (.invokestatic 42, 3) := by decide +kernel
theorem dX1_note_4 : decode cX1_note 4 = .ok (.ifCond .eq 19, 3) := by decide +kernel
theorem dX1_note_7 : decode cX1_note 7 = .ok (.aload_n 0, 1) := by decide +kernel
theorem dX1_note_8 : decode cX1_note 8 = .ok (.iload_n 1, 1) := by decide +kernel
theorem dX1_note_9 : decode cX1_note 9 = .ok (.bipush 10, 2) := by decide +kernel
theorem dX1_note_11 : decode cX1_note 11 = .ok (.isub, 1) := by decide +kernel
theorem dX1_note_12 : decode cX1_note 12 = .ok (.putfield 21, 3) := by decide +kernel
theorem dX1_note_15 : decode cX1_note 15 = .ok (.aload_n 0, 1) := by decide +kernel
theorem dX1_note_16 : decode cX1_note 16 = .ok (.iconst 1, 1) := by decide +kernel
theorem dX1_note_17 : decode cX1_note 17 = .ok (.putfield 35, 3) := by decide +kernel
theorem dX1_note_20 : decode cX1_note 20 = .ok (.goto 41, 3) := by decide +kernel
theorem dX1_note_23 : decode cX1_note 23 = .ok (.iload_n 1, 1) := by decide +kernel
theorem dX1_note_24 : decode cX1_note 24 = .ok (.invokestatic 45, 3) := by decide +kernel
theorem dX1_note_27 : decode cX1_note 27 = .ok (.ifCond .eq 11, 3) := by decide +kernel
theorem dX1_note_30 : decode cX1_note 30 = .ok (.aload_n 0, 1) := by decide +kernel
theorem dX1_note_31 : decode cX1_note 31 = .ok (.iload_n 1, 1) := by decide +kernel
theorem dX1_note_32 : decode cX1_note 32 = .ok (.invokevirtual 48, 3) := by decide +kernel
theorem dX1_note_35 : decode cX1_note 35 = .ok (.goto 26, 3) := by decide +kernel
theorem dX1_note_38 : decode cX1_note 38 = .ok (.iload_n 1, 1) := by decide +kernel
theorem dX1_note_39 : decode cX1_note 39 = .ok (.invokestatic 52, 3) := by decide +kernel
theorem dX1_note_42 : decode cX1_note 42 = .ok (.ifCond .eq 14, 3) := by decide +kernel
theorem dX1_note_45 : decode cX1_note 45 = .ok (.aload_n 0, 1) := by decide +kernel
theorem dX1_note_46 : decode cX1_note 46 = .ok (.iload_n 1, 1) := by decide +kernel
theorem dX1_note_47 : decode cX1_note 47 = .ok (.bipush 6, 2) := by decide +kernel
theorem dX1_note_49 : decode cX1_note 49 = .ok (.isub, 1) := by decide +kernel
theorem dX1_note_50 : decode cX1_note 50 = .ok (.invokevirtual 55, 3) := by decide +kernel
theorem dX1_note_53 : decode cX1_note 53 = .ok (.goto 8, 3) := by decide +kernel
theorem dX1_note_56 : decode cX1_note 56 = .ok (.aload_n 0, 1) := by decide +kernel
theorem dX1_note_57 : decode cX1_note 57 = .ok (.iload_n 1, 1) := by decide +kernel
theorem dX1_note_58 : decode cX1_note 58 = .ok (.invokevirtual 58, 3) := by decide +kernel
theorem dX1_note_61 : decode cX1_note 61 = .ok (.return_, 1) := by decide +kernel
set_option maxRecDepth 20000 in
theorem ggX1_noteNoun_X1_hasSlot : GoodIn wsX1_noteNoun wsX1_hasSlot := goodIn_r _ [12] (by decide +kernel) (by decide +kernel)
set_option maxRecDepth 20000 in
theorem gX1_noteNoun_X1_hasSlot : GoodIn wsX1_noteNoun (wsV RX1 38 RX1 yX1_hasSlot wsX1_hasSlot) := goodIn_app (goodIn_of _ (by decide +kernel)) ggX1_noteNoun_X1_hasSlot
theorem dX1_noteNoun_0 : decode cX1_noteNoun 0 = .ok (.aload_n 0, 1) := by decide +kernel
theorem dX1_noteNoun_1 : decode cX1_noteNoun 1 = .ok (.aload_n 0, 1) := by decide +kernel
theorem dX1_noteNoun_2 : decode cX1_noteNoun 2 = .ok (.getfield 35, 3) := by decide +kernel
theorem dX1_noteNoun_5 : decode cX1_noteNoun 5 = .ok (.invokevirtual 38, 3) := by decide +kernel
theorem dX1_noteNoun_8 : decode cX1_noteNoun 8 = .ok (.ifCond .eq 28, 3) := by decide +kernel
theorem dX1_noteNoun_11 : decode cX1_noteNoun 11 = .ok (.aload_n 0, 1) := by decide +kernel
theorem dX1_noteNoun_12 : decode cX1_noteNoun 12 = .ok (.getfield 11, 3) := by decide +kernel
theorem dX1_noteNoun_15 : decode cX1_noteNoun 15 = .ok (.aload_n 0, 1) := by decide +kernel
theorem dX1_noteNoun_16 : decode cX1_noteNoun 16 = .ok (.getfield 35, 3) := by decide +kernel
theorem dX1_noteNoun_19 : decode cX1_noteNoun 19 = .ok (.iload_n 1, 1) := by decide +kernel
theorem dX1_noteNoun_20 : decode cX1_noteNoun 20 = .ok (.iastore, 1) := by decide +kernel
theorem dX1_noteNoun_21 : decode cX1_noteNoun 21 = .ok (.aload_n 0, 1) := by decide +kernel
theorem dX1_noteNoun_22 : decode cX1_noteNoun 22 = .ok (.aload_n 0, 1) := by decide +kernel
theorem dX1_noteNoun_23 : decode cX1_noteNoun 23 = .ok (.getfield 32, 3) := by decide +kernel
theorem dX1_noteNoun_26 : decode cX1_noteNoun 26 = .ok (.aload_n 0, 1) := by decide +kernel
theorem dX1_noteNoun_27 : decode cX1_noteNoun 27 = .ok (.getfield 35, 3) := by decide +kernel
theorem dX1_noteNoun_30 : decode cX1_noteNoun 30 = .ok (.invokestatic 61, 3) := by decide +kernel
theorem dX1_noteNoun_33 : decode cX1_noteNoun 33 = .ok (.putfield 32, 3) := by decide +kernel
theorem dX1_noteNoun_36 : decode cX1_noteNoun 36 = .ok (.return_, 1) := by decide +kernel
set_option maxRecDepth 20000 in
theorem ggX1_noteAdjective_X1_hasSlot : GoodIn wsX1_noteAdjective wsX1_hasSlot := goodIn_r _ [7] (by decide +kernel) (by decide +kernel)
set_option maxRecDepth 20000 in
theorem gX1_noteAdjective_X1_hasSlot : GoodIn wsX1_noteAdjective (wsV RX1 38 RX1 yX1_hasSlot wsX1_hasSlot) := goodIn_app (goodIn_of _ (by decide +kernel)) ggX1_noteAdjective_X1_hasSlot
theorem dX1_noteAdjective_0 : decode cX1_noteAdjective 0 = .ok (.aload_n 0, 1) := by decide +kernel
theorem dX1_noteAdjective_1 : decode cX1_noteAdjective 1 = .ok (.aload_n 0, 1) := by decide +kernel
theorem dX1_noteAdjective_2 : decode cX1_noteAdjective 2 = .ok (.getfield 35, 3) := by decide +kernel
theorem dX1_noteAdjective_5 : decode cX1_noteAdjective 5 = .ok (.invokevirtual 38, 3) := by decide +kernel
theorem dX1_noteAdjective_8 : decode cX1_noteAdjective 8 = .ok (.ifCond .eq 13, 3) := by decide +kernel
theorem dX1_noteAdjective_11 : decode cX1_noteAdjective 11 = .ok (.aload_n 0, 1) := by decide +kernel
theorem dX1_noteAdjective_12 : decode cX1_noteAdjective 12 = .ok (.getfield 15, 3) := by decide +kernel
theorem dX1_noteAdjective_15 : decode cX1_noteAdjective 15 = .ok (.aload_n 0, 1) := by decide +kernel
theorem dX1_noteAdjective_16 : decode cX1_noteAdjective 16 = .ok (.getfield 35, 3) := by decide +kernel
theorem dX1_noteAdjective_19 : decode cX1_noteAdjective 19 = .ok (.iload_n 1, 1) := by decide +kernel
theorem dX1_noteAdjective_20 : decode cX1_noteAdjective 20 = .ok (.iastore, 1) := by decide +kernel
theorem dX1_noteAdjective_21 : decode cX1_noteAdjective 21 = .ok (.return_, 1) := by decide +kernel
theorem dX1_noteOther_0 : decode cX1_noteOther 0 = .ok (.iload_n 1, 1) := by decide +kernel
theorem dX1_noteOther_1 : decode cX1_noteOther 1 = .ok (.tableswitch 103 17 23 #[43, 103, 51, 64, 103, 72, 95], 43) := by decide +kernel
theorem dX1_noteOther_44 : decode cX1_noteOther 44 = .ok (.aload_n 0, 1) := by decide +kernel
theorem dX1_noteOther_45 : decode cX1_noteOther 45 = .ok (.iconst 1, 1) := by decide +kernel
theorem dX1_noteOther_46 : decode cX1_noteOther 46 = .ok (.putfield 25, 3) := by decide +kernel
theorem dX1_noteOther_49 : decode cX1_noteOther 49 = .ok (.goto 55, 3) := by decide +kernel
theorem dX1_noteOther_52 : decode cX1_noteOther 52 = .ok (.aload_n 0, 1) := by decide +kernel
theorem dX1_noteOther_53 : decode cX1_noteOther 53 = .ok (.dup, 1) := by decide +kernel
theorem dX1_noteOther_54 : decode cX1_noteOther 54 = .ok (.getfield 35, 3) := by decide +kernel
theorem dX1_noteOther_57 : decode cX1_noteOther 57 = .ok (.iconst 1, 1) := by decide +kernel
theorem dX1_noteOther_58 : decode cX1_noteOther 58 = .ok (.iadd, 1) := by decide +kernel
theorem dX1_noteOther_59 : decode cX1_noteOther 59 = .ok (.putfield 35, 3) := by decide +kernel
theorem dX1_noteOther_62 : decode cX1_noteOther 62 = .ok (.goto 42, 3) := by decide +kernel
theorem dX1_noteOther_65 : decode cX1_noteOther 65 = .ok (.aload_n 0, 1) := by decide +kernel
theorem dX1_noteOther_66 : decode cX1_noteOther 66 = .ok (.iconst 0, 1) := by decide +kernel
theorem dX1_noteOther_67 : decode cX1_noteOther 67 = .ok (.putfield 35, 3) := by decide +kernel
theorem dX1_noteOther_70 : decode cX1_noteOther 70 = .ok (.goto 34, 3) := by decide +kernel
theorem dX1_noteOther_73 : decode cX1_noteOther 73 = .ok (.aload_n 0, 1) := by decide +kernel
theorem dX1_noteOther_74 : decode cX1_noteOther 74 = .ok (.getfield 35, 3) := by decide +kernel
theorem dX1_noteOther_77 : decode cX1_noteOther 77 = .ok (.ifCond .ne 11, 3) := by decide +kernel
theorem dX1_noteOther_80 : decode cX1_noteOther 80 = .ok (.aload_n 0, 1) := by decide +kernel
theorem dX1_noteOther_81 : decode cX1_noteOther 81 = .ok (.iconst 1, 1) := by decide +kernel
theorem dX1_noteOther_82 : decode cX1_noteOther 82 = .ok (.putfield 28, 3) := by decide +kernel
theorem dX1_noteOther_85 : decode cX1_noteOther 85 = .ok (.goto 19, 3) := by decide +kernel
theorem dX1_noteOther_88 : decode cX1_noteOther 88 = .ok (.aload_n 0, 1) := by decide +kernel
theorem dX1_noteOther_89 : decode cX1_noteOther 89 = .ok (.iconst 2, 1) := by decide +kernel
theorem dX1_noteOther_90 : decode cX1_noteOther 90 = .ok (.putfield 25, 3) := by decide +kernel
theorem dX1_noteOther_93 : decode cX1_noteOther 93 = .ok (.goto 11, 3) := by decide +kernel
theorem dX1_noteOther_96 : decode cX1_noteOther 96 = .ok (.aload_n 0, 1) := by decide +kernel
theorem dX1_noteOther_97 : decode cX1_noteOther 97 = .ok (.iconst 3, 1) := by decide +kernel
theorem dX1_noteOther_98 : decode cX1_noteOther 98 = .ok (.putfield 25, 3) := by decide +kernel
theorem dX1_noteOther_101 : decode cX1_noteOther 101 = .ok (.goto 3, 3) := by decide +kernel
theorem dX1_noteOther_104 : decode cX1_noteOther 104 = .ok (.return_, 1) := by decide +kernel
set_option maxRecDepth 20000 in
theorem ggX2_init_X1_init : GoodIn wsX2_init wsX1_init := goodIn_r _ [9, 10, 2, 3, 11, 12, 13, 14, 15, 16, 17, 18, 19, 20, 21, 22, 23] (by decide +kernel) (by decide +kernel)
set_option maxRecDepth 20000 in
theorem gX2_init_X1_init_n11 : GoodIn wsX2_init (wsX1_init) := ggX2_init_X1_init
theorem dX2_init_0 : decode cX2_init 0 = .ok (.aload_n 0, 1) := by decide +kernel
theorem dX2_init_1 : decode cX2_init 1 = .ok (.invokespecial 3, 3) := by decide +kernel
theorem dX2_init_4 : decode cX2_init 4 = .ok (.aload_n 0, 1) := by decide +kernel
theorem dX2_init_5 : decode cX2_init 5 = .ok (.new 9, 3) := by decide +kernel
theorem dX2_init_8 : decode cX2_init 8 = .ok (.dup, 1) := by decide +kernel
theorem dX2_init_9 : decode cX2_init 9 = .ok (.invokespecial 11, 3) := by decide +kernel
theorem dX2_init_12 : decode cX2_init 12 = .ok (.putfield 12, 3) := by decide +kernel
theorem dX2_init_15 : decode cX2_init 15 = .ok (.return_, 1) := by decide +kernel
set_option maxRecDepth 20000 in
theorem ggX2_start_X1_reset : GoodIn wsX2_start wsX1_reset := goodIn_r _ [8, 9, 10, 11, 12, 13, 14, 15, 16, 20, 21, 22, 23, 24, 25, 26, 27] (by decide +kernel) (by decide +kernel)
set_option maxRecDepth 20000 in
theorem gX2_start_X1_reset : GoodIn wsX2_start (wsV RX2 18 RX1 yX1_reset wsX1_reset) := goodIn_app (goodIn_of _ (by decide +kernel)) ggX2_start_X1_reset
theorem dX2_start_0 : decode cX2_start 0 = .ok (.aload_n 0, 1) := by decide +kernel
theorem dX2_start_1 : decode cX2_start 1 = .ok (.getfield 12, 3) := by decide +kernel
theorem dX2_start_4 : decode cX2_start 4 = .ok (.invokevirtual 18, 3) := by decide +kernel
theorem dX2_start_7 : decode cX2_start 7 = .ok (.aload_n 0, 1) := by decide +kernel
theorem dX2_start_8 : decode cX2_start 8 = .ok (.iconst 0, 1) := by decide +kernel
theorem dX2_start_9 : decode cX2_start 9 = .ok (.putfield 21, 3) := by decide +kernel
theorem dX2_start_12 : decode cX2_start 12 = .ok (.aload_n 0, 1) := by decide +kernel
theorem dX2_start_13 : decode cX2_start 13 = .ok (.iload_n 1, 1) := by decide +kernel
theorem dX2_start_14 : decode cX2_start 14 = .ok (.putfield 25, 3) := by decide +kernel
theorem dX2_start_17 : decode cX2_start 17 = .ok (.return_, 1) := by decide +kernel
set_option maxRecDepth 20000 in
theorem ggX2_read_X2_after : GoodIn wsX2_read wsX2_after := goodIn_r _ [7, 2, 8, 9, 10, 6, 11, 12, 13, 14, 15, 16, 17, 18, 19, 20, 21, 22, 23, 24, 25, 26, 27, 28, 29, 30, 1, 31, 64, 65, 66, 67, 68, 69, 70, 71, 72, 73, 74] (by decide +kernel) (by decide +kernel)
set_option maxRecDepth 20000 in
theorem gX2_read_X2_after : GoodIn wsX2_read (wsV RX2 29 RX2 yX2_after wsX2_after) := goodIn_app (goodIn_of _ (by decide +kernel)) ggX2_read_X2_after
set_option maxRecDepth 20000 in
theorem ggX2_read_X1_note : GoodIn wsX2_read wsX1_note := goodIn_r _ [36, 37, 38, 13, 14, 15, 21, 22, 39, 40, 41, 35, 42, 43, 44, 45, 46, 47, 48, 49, 50, 51, 52, 19, 20, 53, 54, 55, 56, 57, 58, 59, 60, 61, 62, 63, 67, 68, 69, 70, 71, 72, 73, 74] (by decide +kernel) (by decide +kernel)
set_option maxRecDepth 20000 in
theorem gX2_read_X1_note : GoodIn wsX2_read (wsV RX2 33 RX1 yX1_note wsX1_note) := goodIn_app (goodIn_of _ (by decide +kernel)) ggX2_read_X1_note
theorem dX2_read_0 : decode cX2_read 0 = .ok (.aload_n 0, 1) := by decide +kernel
theorem dX2_read_1 : decode cX2_read 1 = .ok (.iload_n 1, 1) := by decide +kernel
theorem dX2_read_2 : decode cX2_read 2 = .ok (.invokevirtual 29, 3) := by decide +kernel
theorem dX2_read_5 : decode cX2_read 5 = .ok (.istore_n 2, 1) := by decide +kernel
theorem dX2_read_6 : decode cX2_read 6 = .ok (.iload_n 2, 1) := by decide +kernel
theorem dX2_read_7 : decode cX2_read 7 = .ok (.iconst (-1), 1) := by decide +kernel
theorem dX2_read_8 : decode cX2_read 8 = .ok (.if_icmp .ne 5, 3) := by decide +kernel
theorem dX2_read_11 : decode cX2_read 11 = .ok (.iconst 0, 1) := by decide +kernel
theorem dX2_read_12 : decode cX2_read 12 = .ok (.ireturn, 1) := by decide +kernel
theorem dX2_read_13 : decode cX2_read 13 = .ok (.aload_n 0, 1) := by decide +kernel
theorem dX2_read_14 : decode cX2_read 14 = .ok (.getfield 12, 3) := by decide +kernel
theorem dX2_read_17 : decode cX2_read 17 = .ok (.iload_n 1, 1) := by decide +kernel
theorem dX2_read_18 : decode cX2_read 18 = .ok (.invokevirtual 33, 3) := by decide +kernel
theorem dX2_read_21 : decode cX2_read 21 = .ok (.aload_n 0, 1) := by decide +kernel
theorem dX2_read_22 : decode cX2_read 22 = .ok (.iload_n 2, 1) := by decide +kernel
theorem dX2_read_23 : decode cX2_read 23 = .ok (.putfield 21, 3) := by decide +kernel
theorem dX2_read_26 : decode cX2_read 26 = .ok (.iconst 1, 1) := by decide +kernel
theorem dX2_read_27 : decode cX2_read 27 = .ok (.ireturn, 1) := by decide +kernel
theorem dX2_isComplete_0 : decode cX2_isComplete 0 = .ok (.aload_n 0, 1) := by decide +kernel
theorem dX2_isComplete_1 : decode cX2_isComplete 1 = .ok (.getfield 21, 3) := by decide +kernel
theorem dX2_isComplete_4 : decode cX2_isComplete 4 = .ok (.tableswitch 83 2 13 #[66, 66, 83, 83, 83, 66, 83, 83, 83, 83, 64, 64], 64) := by decide +kernel
theorem dX2_isComplete_68 : decode cX2_isComplete 68 = .ok (.iconst 1, 1) := by decide +kernel
theorem dX2_isComplete_69 : decode cX2_isComplete 69 = .ok (.ireturn, 1) := by decide +kernel
theorem dX2_isComplete_70 : decode cX2_isComplete 70 = .ok (.aload_n 0, 1) := by decide +kernel
theorem dX2_isComplete_71 : decode cX2_isComplete 71 = .ok (.getfield 12, 3) := by decide +kernel
theorem dX2_isComplete_74 : decode cX2_isComplete 74 = .ok (.getfield 41, 3) := by decide +kernel
theorem dX2_isComplete_77 : decode cX2_isComplete 77 = .ok (.iconst 2, 1) := by decide +kernel
theorem dX2_isComplete_78 : decode cX2_isComplete 78 = .ok (.if_icmp .eq 7, 3) := by decide +kernel
theorem dX2_isComplete_81 : decode cX2_isComplete 81 = .ok (.iconst 1, 1) := by decide +kernel
theorem dX2_isComplete_82 : decode cX2_isComplete 82 = .ok (.goto 4, 3) := by decide +kernel
theorem dX2_isComplete_85 : decode cX2_isComplete 85 = .ok (.iconst 0, 1) := by decide +kernel
theorem dX2_isComplete_86 : decode cX2_isComplete 86 = .ok (.ireturn, 1) := by decide +kernel
theorem dX2_isComplete_87 : decode cX2_isComplete 87 = .ok (.iconst 0, 1) := by decide +kernel
theorem dX2_isComplete_88 : decode cX2_isComplete 88 = .ok (.ireturn, 1) := by decide +kernel
set_option maxRecDepth 20000 in
theorem ggX2_after_X2_afterStart : GoodIn wsX2_after wsX2_afterStart := goodIn_r _ [6, 7, 8, 9, 10, 11, 12, 5, 13, 14, 15, 16, 17, 28, 29, 30] (by decide +kernel) (by decide +kernel)
set_option maxRecDepth 20000 in
theorem gX2_after_X2_afterStart : GoodIn wsX2_after (wsV RX2 44 RX2 yX2_afterStart wsX2_afterStart) := goodIn_app (goodIn_of _ (by decide +kernel)) ggX2_after_X2_afterStart
set_option maxRecDepth 20000 in
theorem ggX2_after_X2_afterVerb : GoodIn wsX2_after wsX2_afterVerb := goodIn_r _ [21, 11, 12, 5, 13, 14, 9, 15, 16, 17] (by decide +kernel) (by decide +kernel)
set_option maxRecDepth 20000 in
theorem gX2_after_X2_afterVerb : GoodIn wsX2_after (wsV RX2 47 RX2 yX2_afterVerb wsX2_afterVerb) := goodIn_app (goodIn_of _ (by decide +kernel)) ggX2_after_X2_afterVerb
set_option maxRecDepth 20000 in
theorem ggX2_after_X2_afterObjects : GoodIn wsX2_after wsX2_afterObjects := goodIn_r _ [25, 26, 27, 28, 29, 30, 31, 32, 33, 34, 35, 36, 37, 38] (by decide +kernel) (by decide +kernel)
set_option maxRecDepth 20000 in
theorem gX2_after_X2_afterObjects : GoodIn wsX2_after (wsV RX2 50 RX2 yX2_afterObjects wsX2_afterObjects) := goodIn_app (goodIn_of _ (by decide +kernel)) ggX2_after_X2_afterObjects
set_option maxRecDepth 20000 in
theorem ggX2_after_X2_described : GoodIn wsX2_after wsX2_described := goodIn_r _ [13, 14, 9, 15, 16, 17] (by decide +kernel) (by decide +kernel)
set_option maxRecDepth 20000 in
theorem gX2_after_X2_described : GoodIn wsX2_after (va_wsS RX2 53 yX2_described wsX2_described) := goodIn_app (goodIn_of _ (by decide +kernel)) ggX2_after_X2_described
theorem dX2_after_0 : decode cX2_after 0 = .ok (.aload_n 0, 1) := by decide +kernel
theorem dX2_after_1 : decode cX2_after 1 = .ok (.getfield 21, 3) := by decide +kernel
theorem dX2_after_4 : decode cX2_after 4 = .ok (.tableswitch 217 0 12 #[68, 74, 80, 96, 102, 112, 122, 131, 147, 169, 179, 188, 197], 68) := by decide +kernel
theorem dX2_after_72 : decode cX2_after 72 = .ok (.aload_n 0, 1) := by decide +kernel
theorem dX2_after_73 : decode cX2_after 73 = .ok (.iload_n 1, 1) := by decide +kernel
theorem dX2_after_74 : decode cX2_after 74 = .ok (.invokevirtual 44, 3) := by decide +kernel
theorem dX2_after_77 : decode cX2_after 77 = .ok (.ireturn, 1) := by decide +kernel
theorem dX2_after_78 : decode cX2_after 78 = .ok (.aload_n 0, 1) := by decide +kernel
theorem dX2_after_79 : decode cX2_after 79 = .ok (.iload_n 1, 1) := by decide +kernel
theorem dX2_after_80 : decode cX2_after 80 = .ok (.invokevirtual 47, 3) := by decide +kernel
theorem dX2_after_83 : decode cX2_after 83 = .ok (.ireturn, 1) := by decide +kernel
theorem dX2_after_84 : decode cX2_after 84 = .ok (.iload_n 1, 1) := by decide +kernel
theorem dX2_after_85 : decode cX2_after 85 = .ok (.bipush 18, 2) := by decide +kernel
theorem dX2_after_87 : decode cX2_after 87 = .ok (.if_icmp .ne 7, 3) := by decide +kernel
theorem dX2_after_90 : decode cX2_after 90 = .ok (.iconst 4, 1) := by decide +kernel
theorem dX2_after_91 : decode cX2_after 91 = .ok (.goto 8, 3) := by decide +kernel
theorem dX2_after_94 : decode cX2_after 94 = .ok (.aload_n 0, 1) := by decide +kernel
theorem dX2_after_95 : decode cX2_after 95 = .ok (.iload_n 1, 1) := by decide +kernel
theorem dX2_after_96 : decode cX2_after 96 = .ok (.invokevirtual 50, 3) := by decide +kernel
theorem dX2_after_99 : decode cX2_after 99 = .ok (.ireturn, 1) := by decide +kernel
theorem dX2_after_100 : decode cX2_after 100 = .ok (.aload_n 0, 1) := by decide +kernel
theorem dX2_after_101 : decode cX2_after 101 = .ok (.iload_n 1, 1) := by decide +kernel
theorem dX2_after_102 : decode cX2_after 102 = .ok (.invokevirtual 50, 3) := by decide +kernel
theorem dX2_after_105 : decode cX2_after 105 = .ok (.ireturn, 1) := by decide +kernel
theorem dX2_after_106 : decode cX2_after 106 = .ok (.iload_n 1, 1) := by decide +kernel
theorem dX2_after_107 : decode cX2_after 107 = .ok (.iconst 5, 1) := by decide +kernel
theorem dX2_after_108 : decode cX2_after 108 = .ok (.bipush 6, 2) := by decide +kernel
theorem dX2_after_110 : decode cX2_after 110 = .ok (.bipush 7, 2) := by decide +kernel
theorem dX2_after_112 : decode cX2_after 112 = .ok (.invokestatic 53, 3) := by decide +kernel
theorem dX2_after_115 : decode cX2_after 115 = .ok (.ireturn, 1) := by decide +kernel
theorem dX2_after_116 : decode cX2_after 116 = .ok (.iload_n 1, 1) := by decide +kernel
theorem dX2_after_117 : decode cX2_after 117 = .ok (.iconst (-1), 1) := by decide +kernel
theorem dX2_after_118 : decode cX2_after 118 = .ok (.bipush 6, 2) := by decide +kernel
theorem dX2_after_120 : decode cX2_after 120 = .ok (.bipush 7, 2) := by decide +kernel
theorem dX2_after_122 : decode cX2_after 122 = .ok (.invokestatic 53, 3) := by decide +kernel
theorem dX2_after_125 : decode cX2_after 125 = .ok (.ireturn, 1) := by decide +kernel
theorem dX2_after_126 : decode cX2_after 126 = .ok (.iload_n 1, 1) := by decide +kernel
theorem dX2_after_127 : decode cX2_after 127 = .ok (.iconst (-1), 1) := by decide +kernel
theorem dX2_after_128 : decode cX2_after 128 = .ok (.iconst (-1), 1) := by decide +kernel
theorem dX2_after_129 : decode cX2_after 129 = .ok (.bipush 7, 2) := by decide +kernel
theorem dX2_after_131 : decode cX2_after 131 = .ok (.invokestatic 53, 3) := by decide +kernel
theorem dX2_after_134 : decode cX2_after 134 = .ok (.ireturn, 1) := by decide +kernel
theorem dX2_after_135 : decode cX2_after 135 = .ok (.iload_n 1, 1) := by decide +kernel
theorem dX2_after_136 : decode cX2_after 136 = .ok (.bipush 19, 2) := by decide +kernel
theorem dX2_after_138 : decode cX2_after 138 = .ok (.if_icmp .ne 7, 3) := by decide +kernel
theorem dX2_after_141 : decode cX2_after 141 = .ok (.iconst 4, 1) := by decide +kernel
theorem dX2_after_142 : decode cX2_after 142 = .ok (.goto 8, 3) := by decide +kernel
theorem dX2_after_145 : decode cX2_after 145 = .ok (.aload_n 0, 1) := by decide +kernel
theorem dX2_after_146 : decode cX2_after 146 = .ok (.iload_n 1, 1) := by decide +kernel
theorem dX2_after_147 : decode cX2_after 147 = .ok (.invokevirtual 50, 3) := by decide +kernel
theorem dX2_after_150 : decode cX2_after 150 = .ok (.ireturn, 1) := by decide +kernel
theorem dX2_after_151 : decode cX2_after 151 = .ok (.iload_n 1, 1) := by decide +kernel
theorem dX2_after_152 : decode cX2_after 152 = .ok (.bipush 22, 2) := by decide +kernel
theorem dX2_after_154 : decode cX2_after 154 = .ok (.if_icmp .ne 8, 3) := by decide +kernel
theorem dX2_after_157 : decode cX2_after 157 = .ok (.bipush 13, 2) := by decide +kernel
theorem dX2_after_159 : decode cX2_after 159 = .ok (.goto 13, 3) := by decide +kernel
theorem dX2_after_162 : decode cX2_after 162 = .ok (.iload_n 1, 1) := by decide +kernel
theorem dX2_after_163 : decode cX2_after 163 = .ok (.bipush 9, 2) := by decide +kernel
theorem dX2_after_165 : decode cX2_after 165 = .ok (.bipush 10, 2) := by decide +kernel
theorem dX2_after_167 : decode cX2_after 167 = .ok (.bipush 13, 2) := by decide +kernel
theorem dX2_after_169 : decode cX2_after 169 = .ok (.invokestatic 53, 3) := by decide +kernel
theorem dX2_after_172 : decode cX2_after 172 = .ok (.ireturn, 1) := by decide +kernel
theorem dX2_after_173 : decode cX2_after 173 = .ok (.iload_n 1, 1) := by decide +kernel
theorem dX2_after_174 : decode cX2_after 174 = .ok (.iconst (-1), 1) := by decide +kernel
theorem dX2_after_175 : decode cX2_after 175 = .ok (.bipush 10, 2) := by decide +kernel
theorem dX2_after_177 : decode cX2_after 177 = .ok (.bipush 13, 2) := by decide +kernel
theorem dX2_after_179 : decode cX2_after 179 = .ok (.invokestatic 53, 3) := by decide +kernel
theorem dX2_after_182 : decode cX2_after 182 = .ok (.ireturn, 1) := by decide +kernel
theorem dX2_after_183 : decode cX2_after 183 = .ok (.iload_n 1, 1) := by decide +kernel
theorem dX2_after_184 : decode cX2_after 184 = .ok (.iconst (-1), 1) := by decide +kernel
theorem dX2_after_185 : decode cX2_after 185 = .ok (.iconst (-1), 1) := by decide +kernel
theorem dX2_after_186 : decode cX2_after 186 = .ok (.bipush 13, 2) := by decide +kernel
theorem dX2_after_188 : decode cX2_after 188 = .ok (.invokestatic 53, 3) := by decide +kernel
theorem dX2_after_191 : decode cX2_after 191 = .ok (.ireturn, 1) := by decide +kernel
theorem dX2_after_192 : decode cX2_after 192 = .ok (.iload_n 1, 1) := by decide +kernel
theorem dX2_after_193 : decode cX2_after 193 = .ok (.iconst (-1), 1) := by decide +kernel
theorem dX2_after_194 : decode cX2_after 194 = .ok (.bipush 12, 2) := by decide +kernel
theorem dX2_after_196 : decode cX2_after 196 = .ok (.iconst (-1), 1) := by decide +kernel
theorem dX2_after_197 : decode cX2_after 197 = .ok (.invokestatic 53, 3) := by decide +kernel
theorem dX2_after_200 : decode cX2_after 200 = .ok (.ireturn, 1) := by decide +kernel
theorem dX2_after_201 : decode cX2_after 201 = .ok (.iload_n 1, 1) := by decide +kernel
theorem dX2_after_202 : decode cX2_after 202 = .ok (.bipush 24, 2) := by decide +kernel
theorem dX2_after_204 : decode cX2_after 204 = .ok (.if_icmp .ne 8, 3) := by decide +kernel
theorem dX2_after_207 : decode cX2_after 207 = .ok (.bipush 13, 2) := by decide +kernel
theorem dX2_after_209 : decode cX2_after 209 = .ok (.goto 11, 3) := by decide +kernel
theorem dX2_after_212 : decode cX2_after 212 = .ok (.iload_n 1, 1) := by decide +kernel
theorem dX2_after_213 : decode cX2_after 213 = .ok (.iconst (-1), 1) := by decide +kernel
theorem dX2_after_214 : decode cX2_after 214 = .ok (.iconst (-1), 1) := by decide +kernel
theorem dX2_after_215 : decode cX2_after 215 = .ok (.bipush 13, 2) := by decide +kernel
theorem dX2_after_217 : decode cX2_after 217 = .ok (.invokestatic 53, 3) := by decide +kernel
theorem dX2_after_220 : decode cX2_after 220 = .ok (.ireturn, 1) := by decide +kernel
theorem dX2_after_221 : decode cX2_after 221 = .ok (.iconst (-1), 1) := by decide +kernel
theorem dX2_after_222 : decode cX2_after 222 = .ok (.ireturn, 1) := by decide +kernel
set_option maxRecDepth 20000 in
theorem ggX2_afterStart_X5_isVerbWord : GoodIn wsX2_afterStart wsX5_isVerbWord := goodIn_r _ [4] (by decide +kernel) (by decide +kernel)
set_option maxRecDepth 20000 in
theorem gX2_afterStart_X5_isVerbWord_n57 : GoodIn wsX2_afterStart (wsX5_isVerbWord) := ggX2_afterStart_X5_isVerbWord
set_option maxRecDepth 20000 in
theorem ggX2_afterStart_X2_described : GoodIn wsX2_afterStart wsX2_described := goodIn_r _ [8, 9, 3, 10, 11, 12] (by decide +kernel) (by decide +kernel)
set_option maxRecDepth 20000 in
theorem gX2_afterStart_X2_described : GoodIn wsX2_afterStart (va_wsS RX2 53 yX2_described wsX2_described) := goodIn_app (goodIn_of _ (by decide +kernel)) ggX2_afterStart_X2_described
theorem dX2_afterStart_0 : decode cX2_afterStart 0 = .ok (.iload_n 1, 1) := by decide +kernel
theorem dX2_afterStart_1 : decode cX2_afterStart 1 = .ok (.invokestatic 57, 3) := by decide +kernel
theorem dX2_afterStart_4 : decode cX2_afterStart 4 = .ok (.ifCond .eq 16, 3) := by decide +kernel
theorem dX2_afterStart_7 : decode cX2_afterStart 7 = .ok (.iload_n 1, 1) := by decide +kernel
theorem dX2_afterStart_8 : decode cX2_afterStart 8 = .ok (.bipush 15, 2) := by decide +kernel
theorem dX2_afterStart_10 : decode cX2_afterStart 10 = .ok (.if_icmp .ge 7, 3) := by decide +kernel
theorem dX2_afterStart_13 : decode cX2_afterStart 13 = .ok (.iconst 1, 1) := by decide +kernel
theorem dX2_afterStart_14 : decode cX2_afterStart 14 = .ok (.goto 5, 3) := by decide +kernel
theorem dX2_afterStart_17 : decode cX2_afterStart 17 = .ok (.bipush 13, 2) := by decide +kernel
theorem dX2_afterStart_19 : decode cX2_afterStart 19 = .ok (.ireturn, 1) := by decide +kernel
theorem dX2_afterStart_20 : decode cX2_afterStart 20 = .ok (.aload_n 0, 1) := by decide +kernel
theorem dX2_afterStart_21 : decode cX2_afterStart 21 = .ok (.getfield 25, 3) := by decide +kernel
theorem dX2_afterStart_24 : decode cX2_afterStart 24 = .ok (.ifCond .eq 15, 3) := by decide +kernel
theorem dX2_afterStart_27 : decode cX2_afterStart 27 = .ok (.iload_n 1, 1) := by decide +kernel
theorem dX2_afterStart_28 : decode cX2_afterStart 28 = .ok (.bipush 11, 2) := by decide +kernel
theorem dX2_afterStart_30 : decode cX2_afterStart 30 = .ok (.bipush 12, 2) := by decide +kernel
theorem dX2_afterStart_32 : decode cX2_afterStart 32 = .ok (.iconst (-1), 1) := by decide +kernel
theorem dX2_afterStart_33 : decode cX2_afterStart 33 = .ok (.invokestatic 53, 3) := by decide +kernel
theorem dX2_afterStart_36 : decode cX2_afterStart 36 = .ok (.goto 4, 3) := by decide +kernel
theorem dX2_afterStart_39 : decode cX2_afterStart 39 = .ok (.iconst (-1), 1) := by decide +kernel
theorem dX2_afterStart_40 : decode cX2_afterStart 40 = .ok (.ireturn, 1) := by decide +kernel
set_option maxRecDepth 20000 in
theorem ggX2_afterVerb_X2_described : GoodIn wsX2_afterVerb wsX2_described := goodIn_r _ [4, 5, 6, 7, 8, 9] (by decide +kernel) (by decide +kernel)
set_option maxRecDepth 20000 in
theorem gX2_afterVerb_X2_described : GoodIn wsX2_afterVerb (va_wsS RX2 53 yX2_described wsX2_described) := goodIn_app (goodIn_of _ (by decide +kernel)) ggX2_afterVerb_X2_described
theorem dX2_afterVerb_0 : decode cX2_afterVerb 0 = .ok (.iload_n 1, 1) := by decide +kernel
theorem dX2_afterVerb_1 : decode cX2_afterVerb 1 = .ok (.bipush 17, 2) := by decide +kernel
theorem dX2_afterVerb_3 : decode cX2_afterVerb 3 = .ok (.if_icmp .ne 5, 3) := by decide +kernel
theorem dX2_afterVerb_6 : decode cX2_afterVerb 6 = .ok (.iconst 2, 1) := by decide +kernel
theorem dX2_afterVerb_7 : decode cX2_afterVerb 7 = .ok (.ireturn, 1) := by decide +kernel
theorem dX2_afterVerb_8 : decode cX2_afterVerb 8 = .ok (.iload_n 1, 1) := by decide +kernel
theorem dX2_afterVerb_9 : decode cX2_afterVerb 9 = .ok (.bipush 22, 2) := by decide +kernel
theorem dX2_afterVerb_11 : decode cX2_afterVerb 11 = .ok (.if_icmp .eq 9, 3) := by decide +kernel
theorem dX2_afterVerb_14 : decode cX2_afterVerb 14 = .ok (.iload_n 1, 1) := by decide +kernel
theorem dX2_afterVerb_15 : decode cX2_afterVerb 15 = .ok (.bipush 23, 2) := by decide +kernel
theorem dX2_afterVerb_17 : decode cX2_afterVerb 17 = .ok (.if_icmp .ne 5, 3) := by decide +kernel
theorem dX2_afterVerb_20 : decode cX2_afterVerb 20 = .ok (.iconst 3, 1) := by decide +kernel
theorem dX2_afterVerb_21 : decode cX2_afterVerb 21 = .ok (.ireturn, 1) := by decide +kernel
theorem dX2_afterVerb_22 : decode cX2_afterVerb 22 = .ok (.iload_n 1, 1) := by decide +kernel
theorem dX2_afterVerb_23 : decode cX2_afterVerb 23 = .ok (.iconst 5, 1) := by decide +kernel
theorem dX2_afterVerb_24 : decode cX2_afterVerb 24 = .ok (.bipush 6, 2) := by decide +kernel
theorem dX2_afterVerb_26 : decode cX2_afterVerb 26 = .ok (.bipush 7, 2) := by decide +kernel
theorem dX2_afterVerb_28 : decode cX2_afterVerb 28 = .ok (.invokestatic 53, 3) := by decide +kernel
theorem dX2_afterVerb_31 : decode cX2_afterVerb 31 = .ok (.ireturn, 1) := by decide +kernel
theorem dX2_afterObjects_0 : decode cX2_afterObjects 0 = .ok (.iload_n 1, 1) := by decide +kernel
theorem dX2_afterObjects_1 : decode cX2_afterObjects 1 = .ok (.bipush 20, 2) := by decide +kernel
theorem dX2_afterObjects_3 : decode cX2_afterObjects 3 = .ok (.if_icmp .ne 19, 3) := by decide +kernel
theorem dX2_afterObjects_6 : decode cX2_afterObjects 6 = .ok (.aload_n 0, 1) := by decide +kernel
theorem dX2_afterObjects_7 : decode cX2_afterObjects 7 = .ok (.getfield 12, 3) := by decide +kernel
theorem dX2_afterObjects_10 : decode cX2_afterObjects 10 = .ok (.getfield 41, 3) := by decide +kernel
theorem dX2_afterObjects_13 : decode cX2_afterObjects 13 = .ok (.iconst 2, 1) := by decide +kernel
theorem dX2_afterObjects_14 : decode cX2_afterObjects 14 = .ok (.if_icmp .ne 8, 3) := by decide +kernel
theorem dX2_afterObjects_17 : decode cX2_afterObjects 17 = .ok (.bipush 8, 2) := by decide +kernel
theorem dX2_afterObjects_19 : decode cX2_afterObjects 19 = .ok (.goto 4, 3) := by decide +kernel
theorem dX2_afterObjects_22 : decode cX2_afterObjects 22 = .ok (.iconst (-1), 1) := by decide +kernel
theorem dX2_afterObjects_23 : decode cX2_afterObjects 23 = .ok (.ireturn, 1) := by decide +kernel
set_option maxRecDepth 20000 in
theorem ggX2_described_X5_isAdjectiveWord : GoodIn wsX2_described wsX5_isAdjectiveWord := goodIn_r _ [3] (by decide +kernel) (by decide +kernel)
set_option maxRecDepth 20000 in
theorem gX2_described_X5_isAdjectiveWord_n60 : GoodIn wsX2_described (wsX5_isAdjectiveWord) := ggX2_described_X5_isAdjectiveWord
set_option maxRecDepth 20000 in
theorem ggX2_described_X5_isNoun : GoodIn wsX2_described wsX5_isNoun := goodIn_r _ [5] (by decide +kernel) (by decide +kernel)
set_option maxRecDepth 20000 in
theorem gX2_described_X5_isNoun_n63 : GoodIn wsX2_described (wsX5_isNoun) := ggX2_described_X5_isNoun
theorem dX2_described_0 : decode cX2_described 0 = .ok (.iload_n 0, 1) := by decide +kernel
theorem dX2_described_1 : decode cX2_described 1 = .ok (.bipush 21, 2) := by decide +kernel
theorem dX2_described_3 : decode cX2_described 3 = .ok (.if_icmp .ne 5, 3) := by decide +kernel
theorem dX2_described_6 : decode cX2_described 6 = .ok (.iload_n 1, 1) := by decide +kernel
theorem dX2_described_7 : decode cX2_described 7 = .ok (.ireturn, 1) := by decide +kernel
theorem dX2_described_8 : decode cX2_described 8 = .ok (.iload_n 0, 1) := by decide +kernel
theorem dX2_described_9 : decode cX2_described 9 = .ok (.invokestatic 60, 3) := by decide +kernel
theorem dX2_described_12 : decode cX2_described 12 = .ok (.ifCond .eq 5, 3) := by decide +kernel
theorem dX2_described_15 : decode cX2_described 15 = .ok (.iload_n 2, 1) := by decide +kernel
theorem dX2_described_16 : decode cX2_described 16 = .ok (.ireturn, 1) := by decide +kernel
theorem dX2_described_17 : decode cX2_described 17 = .ok (.iload_n 0, 1) := by decide +kernel
theorem dX2_described_18 : decode cX2_described 18 = .ok (.invokestatic 63, 3) := by decide +kernel
theorem dX2_described_21 : decode cX2_described 21 = .ok (.ifCond .eq 7, 3) := by decide +kernel
theorem dX2_described_24 : decode cX2_described 24 = .ok (.iload_n 3, 1) := by decide +kernel
theorem dX2_described_25 : decode cX2_described 25 = .ok (.goto 4, 3) := by decide +kernel
theorem dX2_described_28 : decode cX2_described 28 = .ok (.iconst (-1), 1) := by decide +kernel
theorem dX2_described_29 : decode cX2_described 29 = .ok (.ireturn, 1) := by decide +kernel
set_option maxRecDepth 20000 in
theorem ggX3_init_X4_init : GoodIn wsX3_init wsX4_init := goodIn_r _ [15, 16, 2, 3, 17, 18, 19, 20, 28, 29, 30, 31, 32, 33] (by decide +kernel) (by decide +kernel)
set_option maxRecDepth 20000 in
theorem gX3_init_X4_init_n11 : GoodIn wsX3_init (wsX4_init) := ggX3_init_X4_init
set_option maxRecDepth 20000 in
theorem ggX3_init_X1_init : GoodIn wsX3_init wsX1_init := goodIn_r _ [22, 23, 2, 3, 17, 24, 25, 26, 27, 43, 44, 45, 46, 47, 48, 49, 50] (by decide +kernel) (by decide +kernel)
set_option maxRecDepth 20000 in
theorem gX3_init_X1_init_n20 : GoodIn wsX3_init (wsX1_init) := ggX3_init_X1_init
theorem dX3_init_0 : decode cX3_init 0 = .ok (.aload_n 0, 1) := by decide +kernel
theorem dX3_init_1 : decode cX3_init 1 = .ok (.invokespecial 3, 3) := by decide +kernel
theorem dX3_init_4 : decode cX3_init 4 = .ok (.aload_n 0, 1) := by decide +kernel
theorem dX3_init_5 : decode cX3_init 5 = .ok (.new 9, 3) := by decide +kernel
theorem dX3_init_8 : decode cX3_init 8 = .ok (.dup, 1) := by decide +kernel
theorem dX3_init_9 : decode cX3_init 9 = .ok (.invokespecial 11, 3) := by decide +kernel
theorem dX3_init_12 : decode cX3_init 12 = .ok (.putfield 12, 3) := by decide +kernel
theorem dX3_init_15 : decode cX3_init 15 = .ok (.aload_n 0, 1) := by decide +kernel
theorem dX3_init_16 : decode cX3_init 16 = .ok (.new 18, 3) := by decide +kernel
theorem dX3_init_19 : decode cX3_init 19 = .ok (.dup, 1) := by decide +kernel
theorem dX3_init_20 : decode cX3_init 20 = .ok (.invokespecial 20, 3) := by decide +kernel
theorem dX3_init_23 : decode cX3_init 23 = .ok (.putfield 21, 3) := by decide +kernel
theorem dX3_init_26 : decode cX3_init 26 = .ok (.aload_n 0, 1) := by decide +kernel
theorem dX3_init_27 : decode cX3_init 27 = .ok (.iconst (-1), 1) := by decide +kernel
theorem dX3_init_28 : decode cX3_init 28 = .ok (.putfield 25, 3) := by decide +kernel
theorem dX3_init_31 : decode cX3_init 31 = .ok (.aload_n 0, 1) := by decide +kernel
theorem dX3_init_32 : decode cX3_init 32 = .ok (.iconst (-1), 1) := by decide +kernel
theorem dX3_init_33 : decode cX3_init 33 = .ok (.putfield 29, 3) := by decide +kernel
theorem dX3_init_36 : decode cX3_init 36 = .ok (.return_, 1) := by decide +kernel
set_option maxRecDepth 20000 in
theorem ggX3_copyFrom_X4_copyFrom : GoodIn wsX3_copyFrom wsX4_copyFrom := goodIn_r _ [14, 15, 16, 17, 18, 19, 20, 43, 44, 45, 46, 47, 48] (by decide +kernel) (by decide +kernel)
set_option maxRecDepth 20000 in
theorem gX3_copyFrom_X4_copyFrom : GoodIn wsX3_copyFrom (wsV RX3 32 RX4 yX4_copyFrom wsX4_copyFrom) := goodIn_app (goodIn_of _ (by decide +kernel)) ggX3_copyFrom_X4_copyFrom
set_option maxRecDepth 20000 in
theorem ggX3_copyFrom_X1_copyFrom : GoodIn wsX3_copyFrom wsX1_copyFrom := goodIn_r _ [25, 26, 27, 28, 29, 30, 31, 32, 33, 49, 50, 51, 52, 53, 54, 55, 56] (by decide +kernel) (by decide +kernel)
set_option maxRecDepth 20000 in
theorem gX3_copyFrom_X1_copyFrom : GoodIn wsX3_copyFrom (wsV RX3 36 RX1 yX1_copyFrom wsX1_copyFrom) := goodIn_app (goodIn_of _ (by decide +kernel)) ggX3_copyFrom_X1_copyFrom
theorem dX3_copyFrom_0 : decode cX3_copyFrom 0 = .ok (.aload_n 0, 1) := by decide +kernel
theorem dX3_copyFrom_1 : decode cX3_copyFrom 1 = .ok (.getfield 12, 3) := by decide +kernel
theorem dX3_copyFrom_4 : decode cX3_copyFrom 4 = .ok (.aload_n 1, 1) := by decide +kernel
theorem dX3_copyFrom_5 : decode cX3_copyFrom 5 = .ok (.getfield 12, 3) := by decide +kernel
theorem dX3_copyFrom_8 : decode cX3_copyFrom 8 = .ok (.invokevirtual 32, 3) := by decide +kernel
theorem dX3_copyFrom_11 : decode cX3_copyFrom 11 = .ok (.aload_n 0, 1) := by decide +kernel
theorem dX3_copyFrom_12 : decode cX3_copyFrom 12 = .ok (.getfield 21, 3) := by decide +kernel
theorem dX3_copyFrom_15 : decode cX3_copyFrom 15 = .ok (.aload_n 1, 1) := by decide +kernel
theorem dX3_copyFrom_16 : decode cX3_copyFrom 16 = .ok (.getfield 21, 3) := by decide +kernel
theorem dX3_copyFrom_19 : decode cX3_copyFrom 19 = .ok (.invokevirtual 36, 3) := by decide +kernel
theorem dX3_copyFrom_22 : decode cX3_copyFrom 22 = .ok (.aload_n 0, 1) := by decide +kernel
theorem dX3_copyFrom_23 : decode cX3_copyFrom 23 = .ok (.aload_n 1, 1) := by decide +kernel
theorem dX3_copyFrom_24 : decode cX3_copyFrom 24 = .ok (.getfield 25, 3) := by decide +kernel
theorem dX3_copyFrom_27 : decode cX3_copyFrom 27 = .ok (.putfield 25, 3) := by decide +kernel
theorem dX3_copyFrom_30 : decode cX3_copyFrom 30 = .ok (.aload_n 0, 1) := by decide +kernel
theorem dX3_copyFrom_31 : decode cX3_copyFrom 31 = .ok (.aload_n 1, 1) := by decide +kernel
theorem dX3_copyFrom_32 : decode cX3_copyFrom 32 = .ok (.getfield 39, 3) := by decide +kernel
theorem dX3_copyFrom_35 : decode cX3_copyFrom 35 = .ok (.putfield 39, 3) := by decide +kernel
theorem dX3_copyFrom_38 : decode cX3_copyFrom 38 = .ok (.aload_n 0, 1) := by decide +kernel
theorem dX3_copyFrom_39 : decode cX3_copyFrom 39 = .ok (.aload_n 1, 1) := by decide +kernel
theorem dX3_copyFrom_40 : decode cX3_copyFrom 40 = .ok (.getfield 42, 3) := by decide +kernel
theorem dX3_copyFrom_43 : decode cX3_copyFrom 43 = .ok (.putfield 42, 3) := by decide +kernel
theorem dX3_copyFrom_46 : decode cX3_copyFrom 46 = .ok (.aload_n 0, 1) := by decide +kernel
theorem dX3_copyFrom_47 : decode cX3_copyFrom 47 = .ok (.aload_n 1, 1) := by decide +kernel
theorem dX3_copyFrom_48 : decode cX3_copyFrom 48 = .ok (.getfield 45, 3) := by decide +kernel
theorem dX3_copyFrom_51 : decode cX3_copyFrom 51 = .ok (.putfield 45, 3) := by decide +kernel
theorem dX3_copyFrom_54 : decode cX3_copyFrom 54 = .ok (.aload_n 0, 1) := by decide +kernel
theorem dX3_copyFrom_55 : decode cX3_copyFrom 55 = .ok (.aload_n 1, 1) := by decide +kernel
theorem dX3_copyFrom_56 : decode cX3_copyFrom 56 = .ok (.getfield 48, 3) := by decide +kernel
theorem dX3_copyFrom_59 : decode cX3_copyFrom 59 = .ok (.putfield 48, 3) := by decide +kernel
theorem dX3_copyFrom_62 : decode cX3_copyFrom 62 = .ok (.aload_n 0, 1) := by decide +kernel
theorem dX3_copyFrom_63 : decode cX3_copyFrom 63 = .ok (.aload_n 1, 1) := by decide +kernel
theorem dX3_copyFrom_64 : decode cX3_copyFrom 64 = .ok (.getfield 51, 3) := by decide +kernel
theorem dX3_copyFrom_67 : decode cX3_copyFrom 67 = .ok (.putfield 51, 3) := by decide +kernel
theorem dX3_copyFrom_70 : decode cX3_copyFrom 70 = .ok (.aload_n 0, 1) := by decide +kernel
theorem dX3_copyFrom_71 : decode cX3_copyFrom 71 = .ok (.aload_n 1, 1) := by decide +kernel
theorem dX3_copyFrom_72 : decode cX3_copyFrom 72 = .ok (.getfield 29, 3) := by decide +kernel
theorem dX3_copyFrom_75 : decode cX3_copyFrom 75 = .ok (.putfield 29, 3) := by decide +kernel
theorem dX3_copyFrom_78 : decode cX3_copyFrom 78 = .ok (.return_, 1) := by decide +kernel
theorem dX3_isAsking_0 : decode cX3_isAsking 0 = .ok (.aload_n 0, 1) := by decide +kernel
theorem dX3_isAsking_1 : decode cX3_isAsking 1 = .ok (.getfield 29, 3) := by decide +kernel
theorem dX3_isAsking_4 : decode cX3_isAsking 4 = .ok (.iconst (-1), 1) := by decide +kernel
theorem dX3_isAsking_5 : decode cX3_isAsking 5 = .ok (.if_icmp .eq 7, 3) := by decide +kernel
theorem dX3_isAsking_8 : decode cX3_isAsking 8 = .ok (.iconst 1, 1) := by decide +kernel
theorem dX3_isAsking_9 : decode cX3_isAsking 9 = .ok (.goto 4, 3) := by decide +kernel
theorem dX3_isAsking_12 : decode cX3_isAsking 12 = .ok (.iconst 0, 1) := by decide +kernel
theorem dX3_isAsking_13 : decode cX3_isAsking 13 = .ok (.ireturn, 1) := by decide +kernel
theorem dX3_closeQuestion_0 : decode cX3_closeQuestion 0 = .ok (.aload_n 0, 1) := by decide +kernel
theorem dX3_closeQuestion_1 : decode cX3_closeQuestion 1 = .ok (.iconst (-1), 1) := by decide +kernel
theorem dX3_closeQuestion_2 : decode cX3_closeQuestion 2 = .ok (.putfield 29, 3) := by decide +kernel
theorem dX3_closeQuestion_5 : decode cX3_closeQuestion 5 = .ok (.aload_n 0, 1) := by decide +kernel
theorem dX3_closeQuestion_6 : decode cX3_closeQuestion 6 = .ok (.iconst 0, 1) := by decide +kernel
theorem dX3_closeQuestion_7 : decode cX3_closeQuestion 7 = .ok (.putfield 51, 3) := by decide +kernel
theorem dX3_closeQuestion_10 : decode cX3_closeQuestion 10 = .ok (.return_, 1) := by decide +kernel
set_option maxRecDepth 20000 in
theorem ggX3_accept_X1_isAnswer : GoodIn wsX3_accept wsX1_isAnswer := goodIn_r _ [11, 12, 159, 160, 161, 162, 163, 164, 165, 166] (by decide +kernel) (by decide +kernel)
set_option maxRecDepth 20000 in
theorem gX3_accept_X1_isAnswer : GoodIn wsX3_accept (wsV RX3 54 RX1 yX1_isAnswer wsX1_isAnswer) := goodIn_app (goodIn_of _ (by decide +kernel)) ggX3_accept_X1_isAnswer
set_option maxRecDepth 20000 in
theorem ggX3_accept_X4_fittingSet : GoodIn wsX3_accept wsX4_fittingSet := goodIn_r _ [17, 18, 19, 20, 167, 168, 169, 170, 171, 172] (by decide +kernel) (by decide +kernel)
set_option maxRecDepth 20000 in
theorem gX3_accept_X4_fittingSet : GoodIn wsX3_accept (wsV RX3 65 RX4 yX4_fittingSet wsX4_fittingSet) := goodIn_app (goodIn_of _ (by decide +kernel)) ggX3_accept_X4_fittingSet
set_option maxRecDepth 20000 in
theorem ggX3_accept_J6_bitCount_0f7a4 : GoodIn wsX3_accept wsJ6_bitCount_0f7a4 := goodIn_r _ [24, 25, 26, 27] (by decide +kernel) (by decide +kernel)
set_option maxRecDepth 20000 in
theorem gX3_accept_J6_bitCount_0f7a4 : GoodIn wsX3_accept (va_wsS RX3 69 yJ6_bitCount_0f7a4 wsJ6_bitCount_0f7a4) := goodIn_app (goodIn_of _ (by decide +kernel)) ggX3_accept_J6_bitCount_0f7a4
set_option maxRecDepth 20000 in
theorem ggX3_accept_X1_choose : GoodIn wsX3_accept wsX1_choose := goodIn_r _ [31, 32, 33, 34, 35, 10, 36, 159, 160, 161, 162, 163, 164, 165, 166] (by decide +kernel) (by decide +kernel)
set_option maxRecDepth 20000 in
theorem gX3_accept_X1_choose : GoodIn wsX3_accept (wsV RX3 75 RX1 yX1_choose wsX1_choose) := goodIn_app (goodIn_of _ (by decide +kernel)) ggX3_accept_X1_choose
set_option maxRecDepth 20000 in
theorem ggX3_accept_X1_copyFrom : GoodIn wsX3_accept wsX1_copyFrom := goodIn_r _ [40, 41, 42, 32, 12, 43, 44, 45, 46, 159, 160, 161, 162, 163, 164, 165, 166] (by decide +kernel) (by decide +kernel)
set_option maxRecDepth 20000 in
theorem gX3_accept_X1_copyFrom : GoodIn wsX3_accept (wsV RX3 36 RX1 yX1_copyFrom wsX1_copyFrom) := goodIn_app (goodIn_of _ (by decide +kernel)) ggX3_accept_X1_copyFrom
set_option maxRecDepth 20000 in
theorem ggX3_accept_X3_closeQuestion : GoodIn wsX3_accept wsX3_closeQuestion := goodIn_r _ [51, 6, 1, 150, 151, 152, 153, 154, 155, 156, 157, 158] (by decide +kernel) (by decide +kernel)
set_option maxRecDepth 20000 in
theorem gX3_accept_X3_closeQuestion : GoodIn wsX3_accept (wsV RX3 79 RX3 yX3_closeQuestion wsX3_closeQuestion) := goodIn_app (goodIn_of _ (by decide +kernel)) ggX3_accept_X3_closeQuestion
set_option maxRecDepth 20000 in
theorem ggX3_accept_X3_carryOut : GoodIn wsX3_accept wsX3_carryOut := goodIn_r _ [55, 5, 56, 2, 57, 58, 59, 16, 60, 61, 62, 63, 64, 65, 66, 67, 68, 69, 70, 71, 72, 73, 18, 74, 75, 76, 77, 78, 79, 80, 81, 82, 83, 84, 14, 15, 17, 19, 20, 85, 86, 87, 50, 88, 89, 90, 91, 92, 93, 94, 95, 96, 97, 98, 99, 100, 101, 102, 3, 4, 6, 1, 103, 34, 35, 10, 36, 13, 21, 22, 23, 24, 25, 26, 27, 104, 105, 106, 107, 108, 109, 110, 111, 112, 113, 114, 115, 116, 117, 118, 119, 120, 121, 122, 123, 124, 125, 126, 127, 128, 129, 130, 131, 132, 133, 134, 135, 136, 137, 138, 139, 140, 141, 142, 150, 151, 152, 153, 154, 155, 156, 157, 158, 159, 160, 161, 162, 163, 164, 165, 166, 167, 168, 169, 170, 171, 172] (by decide +kernel) (by decide +kernel)
set_option maxRecDepth 20000 in
theorem gX3_accept_X3_carryOut : GoodIn wsX3_accept (wsV RX3 82 RX3 yX3_carryOut wsX3_carryOut) := goodIn_app (goodIn_of _ (by decide +kernel)) ggX3_accept_X3_carryOut
set_option maxRecDepth 20000 in
theorem ggX3_accept_X3_countResult : GoodIn wsX3_accept wsX3_countResult := goodIn_r _ [146, 147, 148, 149, 150, 151, 152, 153, 154, 155, 156, 157, 158] (by decide +kernel) (by decide +kernel)
set_option maxRecDepth 20000 in
theorem gX3_accept_X3_countResult : GoodIn wsX3_accept (wsV RX3 86 RX3 yX3_countResult wsX3_countResult) := goodIn_app (goodIn_of _ (by decide +kernel)) ggX3_accept_X3_countResult
theorem dX3_accept_0 : decode cX3_accept 0 = .ok (.aload_n 1, 1) := by decide +kernel
theorem dX3_accept_1 : decode cX3_accept 1 = .ok (.invokevirtual 54, 3) := by decide +kernel
theorem dX3_accept_4 : decode cX3_accept 4 = .ok (.ifCond .eq 54, 3) := by decide +kernel
theorem dX3_accept_7 : decode cX3_accept 7 = .ok (.aload_n 0, 1) := by decide +kernel
theorem dX3_accept_8 : decode cX3_accept 8 = .ok (.getfield 51, 3) := by decide +kernel
theorem dX3_accept_11 : decode cX3_accept 11 = .ok (.aload_n 0, 1) := by decide +kernel
theorem dX3_accept_12 : decode cX3_accept 12 = .ok (.getfield 12, 3) := by decide +kernel
theorem dX3_accept_15 : decode cX3_accept 15 = .ok (.aload_n 1, 1) := by decide +kernel
theorem dX3_accept_16 : decode cX3_accept 16 = .ok (.getfield 58, 3) := by decide +kernel
theorem dX3_accept_19 : decode cX3_accept 19 = .ok (.iconst 0, 1) := by decide +kernel
theorem dX3_accept_20 : decode cX3_accept 20 = .ok (.iaload, 1) := by decide +kernel
theorem dX3_accept_21 : decode cX3_accept 21 = .ok (.aload_n 1, 1) := by decide +kernel
theorem dX3_accept_22 : decode cX3_accept 22 = .ok (.getfield 62, 3) := by decide +kernel
theorem dX3_accept_25 : decode cX3_accept 25 = .ok (.iconst 0, 1) := by decide +kernel
theorem dX3_accept_26 : decode cX3_accept 26 = .ok (.iaload, 1) := by decide +kernel
theorem dX3_accept_27 : decode cX3_accept 27 = .ok (.invokevirtual 65, 3) := by decide +kernel
theorem dX3_accept_30 : decode cX3_accept 30 = .ok (.iand, 1) := by decide +kernel
theorem dX3_accept_31 : decode cX3_accept 31 = .ok (.istore_n 2, 1) := by decide +kernel
theorem dX3_accept_32 : decode cX3_accept 32 = .ok (.iload_n 2, 1) := by decide +kernel
theorem dX3_accept_33 : decode cX3_accept 33 = .ok (.invokestatic 69, 3) := by decide +kernel
theorem dX3_accept_36 : decode cX3_accept 36 = .ok (.iconst 1, 1) := by decide +kernel
theorem dX3_accept_37 : decode cX3_accept 37 = .ok (.if_icmp .eq 6, 3) := by decide +kernel
theorem dX3_accept_40 : decode cX3_accept 40 = .ok (.bipush (-5), 2) := by decide +kernel
theorem dX3_accept_42 : decode cX3_accept 42 = .ok (.ireturn, 1) := by decide +kernel
theorem dX3_accept_43 : decode cX3_accept 43 = .ok (.aload_n 0, 1) := by decide +kernel
theorem dX3_accept_44 : decode cX3_accept 44 = .ok (.getfield 21, 3) := by decide +kernel
theorem dX3_accept_47 : decode cX3_accept 47 = .ok (.aload_n 0, 1) := by decide +kernel
theorem dX3_accept_48 : decode cX3_accept 48 = .ok (.getfield 29, 3) := by decide +kernel
theorem dX3_accept_51 : decode cX3_accept 51 = .ok (.iload_n 2, 1) := by decide +kernel
theorem dX3_accept_52 : decode cX3_accept 52 = .ok (.invokevirtual 75, 3) := by decide +kernel
theorem dX3_accept_55 : decode cX3_accept 55 = .ok (.goto 11, 3) := by decide +kernel
theorem dX3_accept_58 : decode cX3_accept 58 = .ok (.aload_n 0, 1) := by decide +kernel
theorem dX3_accept_59 : decode cX3_accept 59 = .ok (.getfield 21, 3) := by decide +kernel
theorem dX3_accept_62 : decode cX3_accept 62 = .ok (.aload_n 1, 1) := by decide +kernel
theorem dX3_accept_63 : decode cX3_accept 63 = .ok (.invokevirtual 36, 3) := by decide +kernel
theorem dX3_accept_66 : decode cX3_accept 66 = .ok (.aload_n 0, 1) := by decide +kernel
theorem dX3_accept_67 : decode cX3_accept 67 = .ok (.invokevirtual 79, 3) := by decide +kernel
theorem dX3_accept_70 : decode cX3_accept 70 = .ok (.aload_n 0, 1) := by decide +kernel
theorem dX3_accept_71 : decode cX3_accept 71 = .ok (.invokevirtual 82, 3) := by decide +kernel
theorem dX3_accept_74 : decode cX3_accept 74 = .ok (.istore_n 2, 1) := by decide +kernel
theorem dX3_accept_75 : decode cX3_accept 75 = .ok (.aload_n 0, 1) := by decide +kernel
theorem dX3_accept_76 : decode cX3_accept 76 = .ok (.iload_n 2, 1) := by decide +kernel
theorem dX3_accept_77 : decode cX3_accept 77 = .ok (.invokevirtual 86, 3) := by decide +kernel
theorem dX3_accept_80 : decode cX3_accept 80 = .ok (.iload_n 2, 1) := by decide +kernel
theorem dX3_accept_81 : decode cX3_accept 81 = .ok (.ireturn, 1) := by decide +kernel
theorem dX3_countResult_0 : decode cX3_countResult 0 = .ok (.iload_n 1, 1) := by decide +kernel
theorem dX3_countResult_1 : decode cX3_countResult 1 = .ok (.ifCond .lt 16, 3) := by decide +kernel
theorem dX3_countResult_4 : decode cX3_countResult 4 = .ok (.aload_n 0, 1) := by decide +kernel
theorem dX3_countResult_5 : decode cX3_countResult 5 = .ok (.dup, 1) := by decide +kernel
theorem dX3_countResult_6 : decode cX3_countResult 6 = .ok (.getfield 42, 3) := by decide +kernel
theorem dX3_countResult_9 : decode cX3_countResult 9 = .ok (.iconst 1, 1) := by decide +kernel
theorem dX3_countResult_10 : decode cX3_countResult 10 = .ok (.iadd, 1) := by decide +kernel
theorem dX3_countResult_11 : decode cX3_countResult 11 = .ok (.putfield 42, 3) := by decide +kernel
theorem dX3_countResult_14 : decode cX3_countResult 14 = .ok (.goto 31, 3) := by decide +kernel
theorem dX3_countResult_17 : decode cX3_countResult 17 = .ok (.iload_n 1, 1) := by decide +kernel
theorem dX3_countResult_18 : decode cX3_countResult 18 = .ok (.iconst (-1), 1) := by decide +kernel
theorem dX3_countResult_19 : decode cX3_countResult 19 = .ok (.if_icmp .ne 16, 3) := by decide +kernel
theorem dX3_countResult_22 : decode cX3_countResult 22 = .ok (.aload_n 0, 1) := by decide +kernel
theorem dX3_countResult_23 : decode cX3_countResult 23 = .ok (.dup, 1) := by decide +kernel
theorem dX3_countResult_24 : decode cX3_countResult 24 = .ok (.getfield 48, 3) := by decide +kernel
theorem dX3_countResult_27 : decode cX3_countResult 27 = .ok (.iconst 1, 1) := by decide +kernel
theorem dX3_countResult_28 : decode cX3_countResult 28 = .ok (.iadd, 1) := by decide +kernel
theorem dX3_countResult_29 : decode cX3_countResult 29 = .ok (.putfield 48, 3) := by decide +kernel
theorem dX3_countResult_32 : decode cX3_countResult 32 = .ok (.goto 13, 3) := by decide +kernel
theorem dX3_countResult_35 : decode cX3_countResult 35 = .ok (.aload_n 0, 1) := by decide +kernel
theorem dX3_countResult_36 : decode cX3_countResult 36 = .ok (.dup, 1) := by decide +kernel
theorem dX3_countResult_37 : decode cX3_countResult 37 = .ok (.getfield 45, 3) := by decide +kernel
theorem dX3_countResult_40 : decode cX3_countResult 40 = .ok (.iconst 1, 1) := by decide +kernel
theorem dX3_countResult_41 : decode cX3_countResult 41 = .ok (.iadd, 1) := by decide +kernel
theorem dX3_countResult_42 : decode cX3_countResult 42 = .ok (.putfield 45, 3) := by decide +kernel
theorem dX3_countResult_45 : decode cX3_countResult 45 = .ok (.return_, 1) := by decide +kernel
set_option maxRecDepth 20000 in
theorem ggX3_carryOut_X4_walk : GoodIn wsX3_carryOut wsX4_walk := goodIn_r _ [8, 9, 10, 11, 12, 131, 132, 133, 134, 135, 136] (by decide +kernel) (by decide +kernel)
set_option maxRecDepth 20000 in
theorem gX3_carryOut_X4_walk : GoodIn wsX3_carryOut (wsV RX3 93 RX4 yX4_walk wsX4_walk) := goodIn_app (goodIn_of _ (by decide +kernel)) ggX3_carryOut_X4_walk
set_option maxRecDepth 20000 in
theorem ggX3_carryOut_X4_visibleSet : GoodIn wsX3_carryOut wsX4_visibleSet := goodIn_r _ [16, 9, 17, 18, 19, 20, 7, 21, 22, 23, 131, 132, 133, 134, 135, 136] (by decide +kernel) (by decide +kernel)
set_option maxRecDepth 20000 in
theorem gX3_carryOut_X4_visibleSet : GoodIn wsX3_carryOut (wsV RX3 96 RX4 yX4_visibleSet wsX4_visibleSet) := goodIn_app (goodIn_of _ (by decide +kernel)) ggX3_carryOut_X4_visibleSet
set_option maxRecDepth 20000 in
theorem ggX3_carryOut_X4_suitableSet : GoodIn wsX3_carryOut wsX4_suitableSet := goodIn_r _ [27, 17, 18, 19, 20, 7, 21, 22, 23, 28, 14, 15, 16, 9, 29, 30, 31, 32, 33, 34, 35, 36, 37, 38, 131, 132, 133, 134, 135, 136] (by decide +kernel) (by decide +kernel)
set_option maxRecDepth 20000 in
theorem gX3_carryOut_X4_suitableSet : GoodIn wsX3_carryOut (wsV RX3 99 RX4 yX4_suitableSet wsX4_suitableSet) := goodIn_app (goodIn_of _ (by decide +kernel)) ggX3_carryOut_X4_suitableSet
set_option maxRecDepth 20000 in
theorem ggX3_carryOut_X3_resolveTarget : GoodIn wsX3_carryOut wsX3_resolveTarget := goodIn_r _ [43, 1, 44, 45, 46, 47, 42, 48, 49, 50, 51, 52, 53, 54, 55, 56, 57, 3, 58, 59, 60, 61, 62, 63, 64, 65, 66, 67, 34, 35, 7, 36, 22, 37, 38, 68, 69, 70, 71, 72, 73, 74, 114, 115, 116, 117, 118, 119, 120, 121, 122, 123, 124, 125, 126, 127, 128, 129, 130, 131, 132, 133, 134, 135, 136] (by decide +kernel) (by decide +kernel)
set_option maxRecDepth 20000 in
theorem gX3_carryOut_X3_resolveTarget : GoodIn wsX3_carryOut (wsV RX3 102 RX3 yX3_resolveTarget wsX3_resolveTarget) := goodIn_app (goodIn_of _ (by decide +kernel)) ggX3_carryOut_X3_resolveTarget
set_option maxRecDepth 20000 in
theorem ggX3_carryOut_X3_resolveObjects : GoodIn wsX3_carryOut wsX3_resolveObjects := goodIn_r _ [78, 1, 79, 80, 81, 82, 83, 42, 84, 85, 3, 58, 59, 67, 34, 35, 7, 36, 22, 37, 38, 50, 51, 52, 45, 46, 47, 48, 49, 86, 87, 88, 89, 53, 54, 55, 56, 57, 60, 61, 62, 63, 64, 65, 66, 68, 69, 70, 71, 72, 73, 74, 114, 115, 116, 117, 118, 119, 120, 121, 122, 123, 124, 125, 126, 127, 128, 129, 130, 131, 132, 133, 134, 135, 136] (by decide +kernel) (by decide +kernel)
set_option maxRecDepth 20000 in
theorem gX3_carryOut_X3_resolveObjects : GoodIn wsX3_carryOut (wsV RX3 105 RX3 yX3_resolveObjects wsX3_resolveObjects) := goodIn_app (goodIn_of _ (by decide +kernel)) ggX3_carryOut_X3_resolveObjects
set_option maxRecDepth 20000 in
theorem ggX3_carryOut_X3_execute : GoodIn wsX3_carryOut wsX3_execute := goodIn_r _ [93, 3, 1, 2, 49, 80, 94, 95, 42, 96, 97, 98, 99, 7, 100, 17, 23, 101, 102, 103, 104, 9, 105, 106, 107, 108, 22, 109, 110, 111, 112, 10, 11, 12, 18, 19, 20, 21, 113, 69, 70, 71, 72, 73, 74, 68, 114, 115, 116, 117, 118, 119, 120, 121, 122, 123, 124, 125, 126, 127, 128, 129, 130, 131, 132, 133, 134, 135, 136] (by decide +kernel) (by decide +kernel)
set_option maxRecDepth 20000 in
theorem gX3_carryOut_X3_execute : GoodIn wsX3_carryOut (wsV RX3 108 RX3 yX3_execute wsX3_execute) := goodIn_app (goodIn_of _ (by decide +kernel)) ggX3_carryOut_X3_execute
theorem dX3_carryOut_0 : decode cX3_carryOut 0 = .ok (.aload_n 0, 1) := by decide +kernel
theorem dX3_carryOut_1 : decode cX3_carryOut 1 = .ok (.getfield 21, 3) := by decide +kernel
theorem dX3_carryOut_4 : decode cX3_carryOut 4 = .ok (.getfield 90, 3) := by decide +kernel
theorem dX3_carryOut_7 : decode cX3_carryOut 7 = .ok (.iconst 5, 1) := by decide +kernel
theorem dX3_carryOut_8 : decode cX3_carryOut 8 = .ok (.if_icmp .ne 12, 3) := by decide +kernel
theorem dX3_carryOut_11 : decode cX3_carryOut 11 = .ok (.aload_n 0, 1) := by decide +kernel
theorem dX3_carryOut_12 : decode cX3_carryOut 12 = .ok (.getfield 12, 3) := by decide +kernel
theorem dX3_carryOut_15 : decode cX3_carryOut 15 = .ok (.iconst 1, 1) := by decide +kernel
theorem dX3_carryOut_16 : decode cX3_carryOut 16 = .ok (.invokevirtual 93, 3) := by decide +kernel
theorem dX3_carryOut_19 : decode cX3_carryOut 19 = .ok (.ireturn, 1) := by decide +kernel
theorem dX3_carryOut_20 : decode cX3_carryOut 20 = .ok (.aload_n 0, 1) := by decide +kernel
theorem dX3_carryOut_21 : decode cX3_carryOut 21 = .ok (.getfield 21, 3) := by decide +kernel
theorem dX3_carryOut_24 : decode cX3_carryOut 24 = .ok (.getfield 90, 3) := by decide +kernel
theorem dX3_carryOut_27 : decode cX3_carryOut 27 = .ok (.bipush 6, 2) := by decide +kernel
theorem dX3_carryOut_29 : decode cX3_carryOut 29 = .ok (.if_icmp .ne 12, 3) := by decide +kernel
theorem dX3_carryOut_32 : decode cX3_carryOut 32 = .ok (.aload_n 0, 1) := by decide +kernel
theorem dX3_carryOut_33 : decode cX3_carryOut 33 = .ok (.getfield 12, 3) := by decide +kernel
theorem dX3_carryOut_36 : decode cX3_carryOut 36 = .ok (.iconst (-1), 1) := by decide +kernel
theorem dX3_carryOut_37 : decode cX3_carryOut 37 = .ok (.invokevirtual 93, 3) := by decide +kernel
theorem dX3_carryOut_40 : decode cX3_carryOut 40 = .ok (.ireturn, 1) := by decide +kernel
theorem dX3_carryOut_41 : decode cX3_carryOut 41 = .ok (.aload_n 0, 1) := by decide +kernel
theorem dX3_carryOut_42 : decode cX3_carryOut 42 = .ok (.getfield 12, 3) := by decide +kernel
theorem dX3_carryOut_45 : decode cX3_carryOut 45 = .ok (.invokevirtual 96, 3) := by decide +kernel
theorem dX3_carryOut_48 : decode cX3_carryOut 48 = .ok (.istore_n 1, 1) := by decide +kernel
theorem dX3_carryOut_49 : decode cX3_carryOut 49 = .ok (.iconst 0, 1) := by decide +kernel
theorem dX3_carryOut_50 : decode cX3_carryOut 50 = .ok (.istore_n 2, 1) := by decide +kernel
theorem dX3_carryOut_51 : decode cX3_carryOut 51 = .ok (.aload_n 0, 1) := by decide +kernel
theorem dX3_carryOut_52 : decode cX3_carryOut 52 = .ok (.getfield 21, 3) := by decide +kernel
theorem dX3_carryOut_55 : decode cX3_carryOut 55 = .ok (.getfield 90, 3) := by decide +kernel
theorem dX3_carryOut_58 : decode cX3_carryOut 58 = .ok (.iconst 2, 1) := by decide +kernel
theorem dX3_carryOut_59 : decode cX3_carryOut 59 = .ok (.if_icmp .ne 17, 3) := by decide +kernel
theorem dX3_carryOut_62 : decode cX3_carryOut 62 = .ok (.aload_n 0, 1) := by decide +kernel
theorem dX3_carryOut_63 : decode cX3_carryOut 63 = .ok (.iload_n 1, 1) := by decide +kernel
theorem dX3_carryOut_64 : decode cX3_carryOut 64 = .ok (.aload_n 0, 1) := by decide +kernel
theorem dX3_carryOut_65 : decode cX3_carryOut 65 = .ok (.getfield 12, 3) := by decide +kernel
theorem dX3_carryOut_68 : decode cX3_carryOut 68 = .ok (.iconst 4, 1) := by decide +kernel
theorem dX3_carryOut_69 : decode cX3_carryOut 69 = .ok (.invokevirtual 99, 3) := by decide +kernel
theorem dX3_carryOut_72 : decode cX3_carryOut 72 = .ok (.invokevirtual 102, 3) := by decide +kernel
theorem dX3_carryOut_75 : decode cX3_carryOut 75 = .ok (.istore_n 2, 1) := by decide +kernel
theorem dX3_carryOut_76 : decode cX3_carryOut 76 = .ok (.iload_n 2, 1) := by decide +kernel
theorem dX3_carryOut_77 : decode cX3_carryOut 77 = .ok (.ifCond .ge 5, 3) := by decide +kernel
theorem dX3_carryOut_80 : decode cX3_carryOut 80 = .ok (.iload_n 2, 1) := by decide +kernel
theorem dX3_carryOut_81 : decode cX3_carryOut 81 = .ok (.ireturn, 1) := by decide +kernel
theorem dX3_carryOut_82 : decode cX3_carryOut 82 = .ok (.aload_n 0, 1) := by decide +kernel
theorem dX3_carryOut_83 : decode cX3_carryOut 83 = .ok (.iload_n 1, 1) := by decide +kernel
theorem dX3_carryOut_84 : decode cX3_carryOut 84 = .ok (.aload_n 0, 1) := by decide +kernel
theorem dX3_carryOut_85 : decode cX3_carryOut 85 = .ok (.getfield 12, 3) := by decide +kernel
theorem dX3_carryOut_88 : decode cX3_carryOut 88 = .ok (.aload_n 0, 1) := by decide +kernel
theorem dX3_carryOut_89 : decode cX3_carryOut 89 = .ok (.getfield 21, 3) := by decide +kernel
theorem dX3_carryOut_92 : decode cX3_carryOut 92 = .ok (.getfield 90, 3) := by decide +kernel
theorem dX3_carryOut_95 : decode cX3_carryOut 95 = .ok (.invokevirtual 99, 3) := by decide +kernel
theorem dX3_carryOut_98 : decode cX3_carryOut 98 = .ok (.invokevirtual 105, 3) := by decide +kernel
theorem dX3_carryOut_101 : decode cX3_carryOut 101 = .ok (.istore_n 3, 1) := by decide +kernel
theorem dX3_carryOut_102 : decode cX3_carryOut 102 = .ok (.iload_n 3, 1) := by decide +kernel
theorem dX3_carryOut_103 : decode cX3_carryOut 103 = .ok (.ifCond .ge 7, 3) := by decide +kernel
theorem dX3_carryOut_106 : decode cX3_carryOut 106 = .ok (.iload_n 3, 1) := by decide +kernel
theorem dX3_carryOut_107 : decode cX3_carryOut 107 = .ok (.goto 9, 3) := by decide +kernel
theorem dX3_carryOut_110 : decode cX3_carryOut 110 = .ok (.aload_n 0, 1) := by decide +kernel
theorem dX3_carryOut_111 : decode cX3_carryOut 111 = .ok (.iload_n 3, 1) := by decide +kernel
theorem dX3_carryOut_112 : decode cX3_carryOut 112 = .ok (.iload_n 2, 1) := by decide +kernel
theorem dX3_carryOut_113 : decode cX3_carryOut 113 = .ok (.invokevirtual 108, 3) := by decide +kernel
theorem dX3_carryOut_116 : decode cX3_carryOut 116 = .ok (.ireturn, 1) := by decide +kernel
set_option maxRecDepth 20000 in
theorem ggX3_execute_X3_firstOf : GoodIn wsX3_execute wsX3_firstOf := goodIn_r _ [9] (by decide +kernel) (by decide +kernel)
set_option maxRecDepth 20000 in
theorem gX3_execute_X3_firstOf : GoodIn wsX3_execute (va_wsS RX3 111 yX3_firstOf wsX3_firstOf) := goodIn_app (goodIn_of _ (by decide +kernel)) ggX3_execute_X3_firstOf
set_option maxRecDepth 20000 in
theorem ggX3_execute_X4_apply : GoodIn wsX3_execute wsX4_apply := goodIn_r _ [14, 15, 16, 17, 18, 19, 13, 20, 21, 22, 23, 24, 25, 26, 27, 28, 29, 30, 31, 32, 33, 34, 35, 36, 37, 38, 39, 40, 41, 42, 43, 44, 63, 64, 65, 66, 67, 68] (by decide +kernel) (by decide +kernel)
set_option maxRecDepth 20000 in
theorem gX3_execute_X4_apply : GoodIn wsX3_execute (wsV RX3 114 RX4 yX4_apply wsX4_apply) := goodIn_app (goodIn_of _ (by decide +kernel)) ggX3_execute_X4_apply
set_option maxRecDepth 20000 in
theorem ggX3_execute_J6_bitCount_0f7a4 : GoodIn wsX3_execute wsJ6_bitCount_0f7a4 := goodIn_r _ [41, 42, 43, 44] (by decide +kernel) (by decide +kernel)
set_option maxRecDepth 20000 in
theorem gX3_execute_J6_bitCount_0f7a4 : GoodIn wsX3_execute (va_wsS RX3 69 yJ6_bitCount_0f7a4 wsJ6_bitCount_0f7a4) := goodIn_app (goodIn_of _ (by decide +kernel)) ggX3_execute_J6_bitCount_0f7a4
theorem dX3_execute_0 : decode cX3_execute 0 = .ok (.iconst 5, 1) := by decide +kernel
theorem dX3_execute_1 : decode cX3_execute 1 = .ok (.iload_n 2, 1) := by decide +kernel
theorem dX3_execute_2 : decode cX3_execute 2 = .ok (.invokestatic 111, 3) := by decide +kernel
theorem dX3_execute_5 : decode cX3_execute 5 = .ok (.iadd, 1) := by decide +kernel
theorem dX3_execute_6 : decode cX3_execute 6 = .ok (.istore_n 3, 1) := by decide +kernel
theorem dX3_execute_7 : decode cX3_execute 7 = .ok (.iconst 0, 1) := by decide +kernel
theorem dX3_execute_8 : decode cX3_execute 8 = .ok (.istore 4, 2) := by decide +kernel
theorem dX3_execute_10 : decode cX3_execute 10 = .ok (.iconst 0, 1) := by decide +kernel
theorem dX3_execute_11 : decode cX3_execute 11 = .ok (.istore 5, 2) := by decide +kernel
theorem dX3_execute_13 : decode cX3_execute 13 = .ok (.iload 5, 2) := by decide +kernel
theorem dX3_execute_15 : decode cX3_execute 15 = .ok (.bipush 12, 2) := by decide +kernel
theorem dX3_execute_17 : decode cX3_execute 17 = .ok (.if_icmp .ge 41, 3) := by decide +kernel
theorem dX3_execute_20 : decode cX3_execute 20 = .ok (.iload_n 1, 1) := by decide +kernel
theorem dX3_execute_21 : decode cX3_execute 21 = .ok (.iconst 1, 1) := by decide +kernel
theorem dX3_execute_22 : decode cX3_execute 22 = .ok (.iload 5, 2) := by decide +kernel
theorem dX3_execute_24 : decode cX3_execute 24 = .ok (.ishl, 1) := by decide +kernel
theorem dX3_execute_25 : decode cX3_execute 25 = .ok (.iand, 1) := by decide +kernel
theorem dX3_execute_26 : decode cX3_execute 26 = .ok (.ifCond .eq 26, 3) := by decide +kernel
theorem dX3_execute_29 : decode cX3_execute 29 = .ok (.aload_n 0, 1) := by decide +kernel
theorem dX3_execute_30 : decode cX3_execute 30 = .ok (.getfield 12, 3) := by decide +kernel
theorem dX3_execute_33 : decode cX3_execute 33 = .ok (.aload_n 0, 1) := by decide +kernel
theorem dX3_execute_34 : decode cX3_execute 34 = .ok (.getfield 21, 3) := by decide +kernel
theorem dX3_execute_37 : decode cX3_execute 37 = .ok (.getfield 90, 3) := by decide +kernel
theorem dX3_execute_40 : decode cX3_execute 40 = .ok (.iload 5, 2) := by decide +kernel
theorem dX3_execute_42 : decode cX3_execute 42 = .ok (.iload_n 3, 1) := by decide +kernel
theorem dX3_execute_43 : decode cX3_execute 43 = .ok (.invokevirtual 114, 3) := by decide +kernel
theorem dX3_execute_46 : decode cX3_execute 46 = .ok (.ifCond .eq 6, 3) := by decide +kernel
theorem dX3_execute_49 : decode cX3_execute 49 = .ok (.iinc 4 1, 3) := by decide +kernel
theorem dX3_execute_52 : decode cX3_execute 52 = .ok (.iinc 5 1, 3) := by decide +kernel
theorem dX3_execute_55 : decode cX3_execute 55 = .ok (.goto (-42), 3) := by decide +kernel
theorem dX3_execute_58 : decode cX3_execute 58 = .ok (.iload_n 1, 1) := by decide +kernel
theorem dX3_execute_59 : decode cX3_execute 59 = .ok (.invokestatic 69, 3) := by decide +kernel
theorem dX3_execute_62 : decode cX3_execute 62 = .ok (.iconst 1, 1) := by decide +kernel
theorem dX3_execute_63 : decode cX3_execute 63 = .ok (.if_icmp .ne 14, 3) := by decide +kernel
theorem dX3_execute_66 : decode cX3_execute 66 = .ok (.aload_n 0, 1) := by decide +kernel
theorem dX3_execute_67 : decode cX3_execute 67 = .ok (.iload_n 1, 1) := by decide +kernel
theorem dX3_execute_68 : decode cX3_execute 68 = .ok (.invokestatic 111, 3) := by decide +kernel
theorem dX3_execute_71 : decode cX3_execute 71 = .ok (.putfield 25, 3) := by decide +kernel
theorem dX3_execute_74 : decode cX3_execute 74 = .ok (.goto 8, 3) := by decide +kernel
theorem dX3_execute_77 : decode cX3_execute 77 = .ok (.aload_n 0, 1) := by decide +kernel
theorem dX3_execute_78 : decode cX3_execute 78 = .ok (.iload_n 1, 1) := by decide +kernel
theorem dX3_execute_79 : decode cX3_execute 79 = .ok (.putfield 39, 3) := by decide +kernel
theorem dX3_execute_82 : decode cX3_execute 82 = .ok (.iload 4, 2) := by decide +kernel
theorem dX3_execute_84 : decode cX3_execute 84 = .ok (.ireturn, 1) := by decide +kernel
theorem dX3_firstOf_0 : decode cX3_firstOf 0 = .ok (.iconst 0, 1) := by decide +kernel
theorem dX3_firstOf_1 : decode cX3_firstOf 1 = .ok (.istore_n 1, 1) := by decide +kernel
theorem dX3_firstOf_2 : decode cX3_firstOf 2 = .ok (.iload_n 1, 1) := by decide +kernel
theorem dX3_firstOf_3 : decode cX3_firstOf 3 = .ok (.bipush 12, 2) := by decide +kernel
theorem dX3_firstOf_5 : decode cX3_firstOf 5 = .ok (.if_icmp .ge 19, 3) := by decide +kernel
theorem dX3_firstOf_8 : decode cX3_firstOf 8 = .ok (.iload_n 0, 1) := by decide +kernel
theorem dX3_firstOf_9 : decode cX3_firstOf 9 = .ok (.iconst 1, 1) := by decide +kernel
theorem dX3_firstOf_10 : decode cX3_firstOf 10 = .ok (.iload_n 1, 1) := by decide +kernel
theorem dX3_firstOf_11 : decode cX3_firstOf 11 = .ok (.ishl, 1) := by decide +kernel
theorem dX3_firstOf_12 : decode cX3_firstOf 12 = .ok (.iand, 1) := by decide +kernel
theorem dX3_firstOf_13 : decode cX3_firstOf 13 = .ok (.ifCond .eq 5, 3) := by decide +kernel
theorem dX3_firstOf_16 : decode cX3_firstOf 16 = .ok (.iload_n 1, 1) := by decide +kernel
theorem dX3_firstOf_17 : decode cX3_firstOf 17 = .ok (.ireturn, 1) := by decide +kernel
theorem dX3_firstOf_18 : decode cX3_firstOf 18 = .ok (.iinc 1 1, 3) := by decide +kernel
theorem dX3_firstOf_21 : decode cX3_firstOf 21 = .ok (.goto (-19), 3) := by decide +kernel
theorem dX3_firstOf_24 : decode cX3_firstOf 24 = .ok (.iconst (-1), 1) := by decide +kernel
theorem dX3_firstOf_25 : decode cX3_firstOf 25 = .ok (.ireturn, 1) := by decide +kernel
set_option maxRecDepth 20000 in
theorem ggX3_resolveTarget_X3_resolveSingle : GoodIn wsX3_resolveTarget wsX3_resolveSingle := goodIn_r _ [7, 8, 9, 10, 6, 11, 42, 43, 44, 45, 46, 47, 48, 49, 50] (by decide +kernel) (by decide +kernel)
set_option maxRecDepth 20000 in
theorem gX3_resolveTarget_X3_resolveSingle : GoodIn wsX3_resolveTarget (wsV RX3 122 RX3 yX3_resolveSingle wsX3_resolveSingle) := goodIn_app (goodIn_of _ (by decide +kernel)) ggX3_resolveTarget_X3_resolveSingle
set_option maxRecDepth 20000 in
theorem ggX3_resolveTarget_X3_resolveDescription : GoodIn wsX3_resolveTarget wsX3_resolveDescription := goodIn_r _ [15, 1, 16, 17, 18, 19, 20, 21, 22, 23, 24, 25, 26, 27, 28, 29, 30, 31, 32, 33, 34, 35, 36, 37, 38, 39, 40, 41, 9, 10, 6, 11, 42, 43, 44, 45, 46, 47, 48, 49, 50, 51, 52, 53, 54, 55, 56, 57, 58, 59, 60, 61, 62, 63, 64] (by decide +kernel) (by decide +kernel)
set_option maxRecDepth 20000 in
theorem gX3_resolveTarget_X3_resolveDescription : GoodIn wsX3_resolveTarget (wsV RX3 125 RX3 yX3_resolveDescription wsX3_resolveDescription) := goodIn_app (goodIn_of _ (by decide +kernel)) ggX3_resolveTarget_X3_resolveDescription
theorem dX3_resolveTarget_0 : decode cX3_resolveTarget 0 = .ok (.aload_n 0, 1) := by decide +kernel
theorem dX3_resolveTarget_1 : decode cX3_resolveTarget 1 = .ok (.getfield 21, 3) := by decide +kernel
theorem dX3_resolveTarget_4 : decode cX3_resolveTarget 4 = .ok (.getfield 118, 3) := by decide +kernel
theorem dX3_resolveTarget_7 : decode cX3_resolveTarget 7 = .ok (.ifCond .eq 12, 3) := by decide +kernel
theorem dX3_resolveTarget_10 : decode cX3_resolveTarget 10 = .ok (.aload_n 0, 1) := by decide +kernel
theorem dX3_resolveTarget_11 : decode cX3_resolveTarget 11 = .ok (.iload_n 1, 1) := by decide +kernel
theorem dX3_resolveTarget_12 : decode cX3_resolveTarget 12 = .ok (.iload_n 2, 1) := by decide +kernel
theorem dX3_resolveTarget_13 : decode cX3_resolveTarget 13 = .ok (.invokevirtual 122, 3) := by decide +kernel
theorem dX3_resolveTarget_16 : decode cX3_resolveTarget 16 = .ok (.goto 10, 3) := by decide +kernel
theorem dX3_resolveTarget_19 : decode cX3_resolveTarget 19 = .ok (.aload_n 0, 1) := by decide +kernel
theorem dX3_resolveTarget_20 : decode cX3_resolveTarget 20 = .ok (.iconst 0, 1) := by decide +kernel
theorem dX3_resolveTarget_21 : decode cX3_resolveTarget 21 = .ok (.iload_n 1, 1) := by decide +kernel
theorem dX3_resolveTarget_22 : decode cX3_resolveTarget 22 = .ok (.iload_n 2, 1) := by decide +kernel
theorem dX3_resolveTarget_23 : decode cX3_resolveTarget 23 = .ok (.invokevirtual 125, 3) := by decide +kernel
theorem dX3_resolveTarget_26 : decode cX3_resolveTarget 26 = .ok (.ireturn, 1) := by decide +kernel
set_option maxRecDepth 20000 in
theorem ggX3_resolveObjects_X3_listedSet : GoodIn wsX3_resolveObjects wsX3_listedSet := goodIn_r _ [8, 1, 9, 10, 11, 12, 13, 14, 15, 16, 17, 18, 19, 20, 52, 53, 54, 55, 56, 57, 58, 59, 60, 61, 62, 63, 64, 65, 66, 67, 68, 69, 70, 71, 72, 73, 74] (by decide +kernel) (by decide +kernel)
set_option maxRecDepth 20000 in
theorem gX3_resolveObjects_X3_listedSet : GoodIn wsX3_resolveObjects (wsV RX3 132 RX3 yX3_listedSet wsX3_listedSet) := goodIn_app (goodIn_of _ (by decide +kernel)) ggX3_resolveObjects_X3_listedSet
set_option maxRecDepth 20000 in
theorem ggX3_resolveObjects_X3_orNothingSuitable : GoodIn wsX3_resolveObjects wsX3_orNothingSuitable := goodIn_r _ [23] (by decide +kernel) (by decide +kernel)
set_option maxRecDepth 20000 in
theorem gX3_resolveObjects_X3_orNothingSuitable : GoodIn wsX3_resolveObjects (va_wsS RX3 135 yX3_orNothingSuitable wsX3_orNothingSuitable) := goodIn_app (goodIn_of _ (by decide +kernel)) ggX3_resolveObjects_X3_orNothingSuitable
set_option maxRecDepth 20000 in
theorem ggX3_resolveObjects_X3_resolveSingle : GoodIn wsX3_resolveObjects wsX3_resolveSingle := goodIn_r _ [27, 28, 21, 22, 7, 23, 52, 53, 54, 55, 56, 57, 58, 59, 60] (by decide +kernel) (by decide +kernel)
set_option maxRecDepth 20000 in
theorem gX3_resolveObjects_X3_resolveSingle : GoodIn wsX3_resolveObjects (wsV RX3 122 RX3 yX3_resolveSingle wsX3_resolveSingle) := goodIn_app (goodIn_of _ (by decide +kernel)) ggX3_resolveObjects_X3_resolveSingle
set_option maxRecDepth 20000 in
theorem ggX3_resolveObjects_X3_resolveList : GoodIn wsX3_resolveObjects wsX3_resolveList := goodIn_r _ [32, 1, 9, 33, 34, 35, 7, 36, 37, 10, 11, 12, 38, 39, 40, 41, 42, 43, 44, 13, 14, 15, 16, 17, 18, 19, 20, 45, 46, 47, 48, 49, 50, 51, 21, 22, 23, 52, 53, 54, 55, 56, 57, 58, 59, 60, 61, 62, 63, 64, 65, 66, 67, 68, 69, 70, 71, 72, 73, 74] (by decide +kernel) (by decide +kernel)
set_option maxRecDepth 20000 in
theorem gX3_resolveObjects_X3_resolveList : GoodIn wsX3_resolveObjects (wsV RX3 138 RX3 yX3_resolveList wsX3_resolveList) := goodIn_app (goodIn_of _ (by decide +kernel)) ggX3_resolveObjects_X3_resolveList
theorem dX3_resolveObjects_0 : decode cX3_resolveObjects 0 = .ok (.aload_n 0, 1) := by decide +kernel
theorem dX3_resolveObjects_1 : decode cX3_resolveObjects 1 = .ok (.getfield 21, 3) := by decide +kernel
theorem dX3_resolveObjects_4 : decode cX3_resolveObjects 4 = .ok (.getfield 129, 3) := by decide +kernel
theorem dX3_resolveObjects_7 : decode cX3_resolveObjects 7 = .ok (.tableswitch 66 1 3 #[25, 37, 44], 25) := by decide +kernel
theorem dX3_resolveObjects_32 : decode cX3_resolveObjects 32 = .ok (.iload_n 2, 1) := by decide +kernel
theorem dX3_resolveObjects_33 : decode cX3_resolveObjects 33 = .ok (.aload_n 0, 1) := by decide +kernel
theorem dX3_resolveObjects_34 : decode cX3_resolveObjects 34 = .ok (.invokevirtual 132, 3) := by decide +kernel
theorem dX3_resolveObjects_37 : decode cX3_resolveObjects 37 = .ok (.iconst (-1), 1) := by decide +kernel
theorem dX3_resolveObjects_38 : decode cX3_resolveObjects 38 = .ok (.ixor, 1) := by decide +kernel
theorem dX3_resolveObjects_39 : decode cX3_resolveObjects 39 = .ok (.iand, 1) := by decide +kernel
theorem dX3_resolveObjects_40 : decode cX3_resolveObjects 40 = .ok (.invokestatic 135, 3) := by decide +kernel
theorem dX3_resolveObjects_43 : decode cX3_resolveObjects 43 = .ok (.ireturn, 1) := by decide +kernel
theorem dX3_resolveObjects_44 : decode cX3_resolveObjects 44 = .ok (.aload_n 0, 1) := by decide +kernel
theorem dX3_resolveObjects_45 : decode cX3_resolveObjects 45 = .ok (.iload_n 1, 1) := by decide +kernel
theorem dX3_resolveObjects_46 : decode cX3_resolveObjects 46 = .ok (.iload_n 2, 1) := by decide +kernel
theorem dX3_resolveObjects_47 : decode cX3_resolveObjects 47 = .ok (.invokevirtual 122, 3) := by decide +kernel
theorem dX3_resolveObjects_50 : decode cX3_resolveObjects 50 = .ok (.ireturn, 1) := by decide +kernel
theorem dX3_resolveObjects_51 : decode cX3_resolveObjects 51 = .ok (.aload_n 0, 1) := by decide +kernel
theorem dX3_resolveObjects_52 : decode cX3_resolveObjects 52 = .ok (.getfield 39, 3) := by decide +kernel
theorem dX3_resolveObjects_55 : decode cX3_resolveObjects 55 = .ok (.ifCond .ne 8, 3) := by decide +kernel
theorem dX3_resolveObjects_58 : decode cX3_resolveObjects 58 = .ok (.bipush (-4), 2) := by decide +kernel
theorem dX3_resolveObjects_60 : decode cX3_resolveObjects 60 = .ok (.goto 12, 3) := by decide +kernel
theorem dX3_resolveObjects_63 : decode cX3_resolveObjects 63 = .ok (.iload_n 2, 1) := by decide +kernel
theorem dX3_resolveObjects_64 : decode cX3_resolveObjects 64 = .ok (.aload_n 0, 1) := by decide +kernel
theorem dX3_resolveObjects_65 : decode cX3_resolveObjects 65 = .ok (.getfield 39, 3) := by decide +kernel
theorem dX3_resolveObjects_68 : decode cX3_resolveObjects 68 = .ok (.iand, 1) := by decide +kernel
theorem dX3_resolveObjects_69 : decode cX3_resolveObjects 69 = .ok (.invokestatic 135, 3) := by decide +kernel
theorem dX3_resolveObjects_72 : decode cX3_resolveObjects 72 = .ok (.ireturn, 1) := by decide +kernel
theorem dX3_resolveObjects_73 : decode cX3_resolveObjects 73 = .ok (.aload_n 0, 1) := by decide +kernel
theorem dX3_resolveObjects_74 : decode cX3_resolveObjects 74 = .ok (.iload_n 1, 1) := by decide +kernel
theorem dX3_resolveObjects_75 : decode cX3_resolveObjects 75 = .ok (.iload_n 2, 1) := by decide +kernel
theorem dX3_resolveObjects_76 : decode cX3_resolveObjects 76 = .ok (.invokevirtual 138, 3) := by decide +kernel
theorem dX3_resolveObjects_79 : decode cX3_resolveObjects 79 = .ok (.ireturn, 1) := by decide +kernel
theorem dX3_orNothingSuitable_0 : decode cX3_orNothingSuitable 0 = .ok (.iload_n 0, 1) := by decide +kernel
theorem dX3_orNothingSuitable_1 : decode cX3_orNothingSuitable 1 = .ok (.ifCond .ne 8, 3) := by decide +kernel
theorem dX3_orNothingSuitable_4 : decode cX3_orNothingSuitable 4 = .ok (.bipush (-3), 2) := by decide +kernel
theorem dX3_orNothingSuitable_6 : decode cX3_orNothingSuitable 6 = .ok (.goto 4, 3) := by decide +kernel
theorem dX3_orNothingSuitable_9 : decode cX3_orNothingSuitable 9 = .ok (.iload_n 0, 1) := by decide +kernel
theorem dX3_orNothingSuitable_10 : decode cX3_orNothingSuitable 10 = .ok (.ireturn, 1) := by decide +kernel
set_option maxRecDepth 20000 in
theorem ggX3_listedSet_X4_fittingSet : GoodIn wsX3_listedSet wsX4_fittingSet := goodIn_r _ [10, 11, 12, 13, 31, 32, 33, 34, 35, 36] (by decide +kernel) (by decide +kernel)
set_option maxRecDepth 20000 in
theorem gX3_listedSet_X4_fittingSet : GoodIn wsX3_listedSet (wsV RX3 65 RX4 yX4_fittingSet wsX4_fittingSet) := goodIn_app (goodIn_of _ (by decide +kernel)) ggX3_listedSet_X4_fittingSet
theorem dX3_listedSet_0 : decode cX3_listedSet 0 = .ok (.iconst 0, 1) := by decide +kernel
theorem dX3_listedSet_1 : decode cX3_listedSet 1 = .ok (.istore_n 1, 1) := by decide +kernel
theorem dX3_listedSet_2 : decode cX3_listedSet 2 = .ok (.iconst 1, 1) := by decide +kernel
theorem dX3_listedSet_3 : decode cX3_listedSet 3 = .ok (.istore_n 2, 1) := by decide +kernel
theorem dX3_listedSet_4 : decode cX3_listedSet 4 = .ok (.iload_n 2, 1) := by decide +kernel
theorem dX3_listedSet_5 : decode cX3_listedSet 5 = .ok (.aload_n 0, 1) := by decide +kernel
theorem dX3_listedSet_6 : decode cX3_listedSet 6 = .ok (.getfield 21, 3) := by decide +kernel
theorem dX3_listedSet_9 : decode cX3_listedSet 9 = .ok (.getfield 141, 3) := by decide +kernel
theorem dX3_listedSet_12 : decode cX3_listedSet 12 = .ok (.if_icmp .gt 43, 3) := by decide +kernel
theorem dX3_listedSet_15 : decode cX3_listedSet 15 = .ok (.iload_n 2, 1) := by decide +kernel
theorem dX3_listedSet_16 : decode cX3_listedSet 16 = .ok (.bipush 8, 2) := by decide +kernel
theorem dX3_listedSet_18 : decode cX3_listedSet 18 = .ok (.if_icmp .ge 37, 3) := by decide +kernel
theorem dX3_listedSet_21 : decode cX3_listedSet 21 = .ok (.iload_n 1, 1) := by decide +kernel
theorem dX3_listedSet_22 : decode cX3_listedSet 22 = .ok (.aload_n 0, 1) := by decide +kernel
theorem dX3_listedSet_23 : decode cX3_listedSet 23 = .ok (.getfield 12, 3) := by decide +kernel
theorem dX3_listedSet_26 : decode cX3_listedSet 26 = .ok (.aload_n 0, 1) := by decide +kernel
theorem dX3_listedSet_27 : decode cX3_listedSet 27 = .ok (.getfield 21, 3) := by decide +kernel
theorem dX3_listedSet_30 : decode cX3_listedSet 30 = .ok (.getfield 58, 3) := by decide +kernel
theorem dX3_listedSet_33 : decode cX3_listedSet 33 = .ok (.iload_n 2, 1) := by decide +kernel
theorem dX3_listedSet_34 : decode cX3_listedSet 34 = .ok (.iaload, 1) := by decide +kernel
theorem dX3_listedSet_35 : decode cX3_listedSet 35 = .ok (.aload_n 0, 1) := by decide +kernel
theorem dX3_listedSet_36 : decode cX3_listedSet 36 = .ok (.getfield 21, 3) := by decide +kernel
theorem dX3_listedSet_39 : decode cX3_listedSet 39 = .ok (.getfield 62, 3) := by decide +kernel
theorem dX3_listedSet_42 : decode cX3_listedSet 42 = .ok (.iload_n 2, 1) := by decide +kernel
theorem dX3_listedSet_43 : decode cX3_listedSet 43 = .ok (.iaload, 1) := by decide +kernel
theorem dX3_listedSet_44 : decode cX3_listedSet 44 = .ok (.invokevirtual 65, 3) := by decide +kernel
theorem dX3_listedSet_47 : decode cX3_listedSet 47 = .ok (.ior, 1) := by decide +kernel
theorem dX3_listedSet_48 : decode cX3_listedSet 48 = .ok (.istore_n 1, 1) := by decide +kernel
theorem dX3_listedSet_49 : decode cX3_listedSet 49 = .ok (.iinc 2 1, 3) := by decide +kernel
theorem dX3_listedSet_52 : decode cX3_listedSet 52 = .ok (.goto (-48), 3) := by decide +kernel
theorem dX3_listedSet_55 : decode cX3_listedSet 55 = .ok (.iload_n 1, 1) := by decide +kernel
theorem dX3_listedSet_56 : decode cX3_listedSet 56 = .ok (.ireturn, 1) := by decide +kernel
set_option maxRecDepth 20000 in
theorem ggX3_resolveSingle_X3_orNothingSuitable : GoodIn wsX3_resolveSingle wsX3_orNothingSuitable := goodIn_r _ [5] (by decide +kernel) (by decide +kernel)
set_option maxRecDepth 20000 in
theorem gX3_resolveSingle_X3_orNothingSuitable : GoodIn wsX3_resolveSingle (va_wsS RX3 135 yX3_orNothingSuitable wsX3_orNothingSuitable) := goodIn_app (goodIn_of _ (by decide +kernel)) ggX3_resolveSingle_X3_orNothingSuitable
theorem dX3_resolveSingle_0 : decode cX3_resolveSingle 0 = .ok (.aload_n 0, 1) := by decide +kernel
theorem dX3_resolveSingle_1 : decode cX3_resolveSingle 1 = .ok (.getfield 25, 3) := by decide +kernel
theorem dX3_resolveSingle_4 : decode cX3_resolveSingle 4 = .ok (.iconst (-1), 1) := by decide +kernel
theorem dX3_resolveSingle_5 : decode cX3_resolveSingle 5 = .ok (.if_icmp .ne 6, 3) := by decide +kernel
theorem dX3_resolveSingle_8 : decode cX3_resolveSingle 8 = .ok (.bipush (-4), 2) := by decide +kernel
theorem dX3_resolveSingle_10 : decode cX3_resolveSingle 10 = .ok (.ireturn, 1) := by decide +kernel
theorem dX3_resolveSingle_11 : decode cX3_resolveSingle 11 = .ok (.iconst 1, 1) := by decide +kernel
theorem dX3_resolveSingle_12 : decode cX3_resolveSingle 12 = .ok (.aload_n 0, 1) := by decide +kernel
theorem dX3_resolveSingle_13 : decode cX3_resolveSingle 13 = .ok (.getfield 25, 3) := by decide +kernel
theorem dX3_resolveSingle_16 : decode cX3_resolveSingle 16 = .ok (.ishl, 1) := by decide +kernel
theorem dX3_resolveSingle_17 : decode cX3_resolveSingle 17 = .ok (.istore_n 3, 1) := by decide +kernel
theorem dX3_resolveSingle_18 : decode cX3_resolveSingle 18 = .ok (.iload_n 3, 1) := by decide +kernel
theorem dX3_resolveSingle_19 : decode cX3_resolveSingle 19 = .ok (.iload_n 1, 1) := by decide +kernel
theorem dX3_resolveSingle_20 : decode cX3_resolveSingle 20 = .ok (.iand, 1) := by decide +kernel
theorem dX3_resolveSingle_21 : decode cX3_resolveSingle 21 = .ok (.ifCond .ne 8, 3) := by decide +kernel
theorem dX3_resolveSingle_24 : decode cX3_resolveSingle 24 = .ok (.bipush (-2), 2) := by decide +kernel
theorem dX3_resolveSingle_26 : decode cX3_resolveSingle 26 = .ok (.goto 9, 3) := by decide +kernel
theorem dX3_resolveSingle_29 : decode cX3_resolveSingle 29 = .ok (.iload_n 3, 1) := by decide +kernel
theorem dX3_resolveSingle_30 : decode cX3_resolveSingle 30 = .ok (.iload_n 2, 1) := by decide +kernel
theorem dX3_resolveSingle_31 : decode cX3_resolveSingle 31 = .ok (.iand, 1) := by decide +kernel
theorem dX3_resolveSingle_32 : decode cX3_resolveSingle 32 = .ok (.invokestatic 135, 3) := by decide +kernel
theorem dX3_resolveSingle_35 : decode cX3_resolveSingle 35 = .ok (.ireturn, 1) := by decide +kernel
set_option maxRecDepth 20000 in
theorem ggX3_resolveList_X3_resolveDescription : GoodIn wsX3_resolveList wsX3_resolveDescription := goodIn_r _ [7, 1, 8, 9, 10, 11, 12, 13, 14, 15, 16, 17, 18, 19, 20, 21, 22, 23, 24, 25, 26, 27, 28, 29, 30, 31, 32, 33, 34, 35, 6, 36, 37, 38, 39, 40, 41, 42, 43, 44, 45, 46, 47, 48, 49, 50, 51, 52, 53, 54, 55, 56, 57, 58, 59] (by decide +kernel) (by decide +kernel)
set_option maxRecDepth 20000 in
theorem gX3_resolveList_X3_resolveDescription : GoodIn wsX3_resolveList (wsV RX3 125 RX3 yX3_resolveDescription wsX3_resolveDescription) := goodIn_app (goodIn_of _ (by decide +kernel)) ggX3_resolveList_X3_resolveDescription
theorem dX3_resolveList_0 : decode cX3_resolveList 0 = .ok (.iconst 0, 1) := by decide +kernel
theorem dX3_resolveList_1 : decode cX3_resolveList 1 = .ok (.istore_n 3, 1) := by decide +kernel
theorem dX3_resolveList_2 : decode cX3_resolveList 2 = .ok (.iconst 1, 1) := by decide +kernel
theorem dX3_resolveList_3 : decode cX3_resolveList 3 = .ok (.istore 4, 2) := by decide +kernel
theorem dX3_resolveList_5 : decode cX3_resolveList 5 = .ok (.iload 4, 2) := by decide +kernel
theorem dX3_resolveList_7 : decode cX3_resolveList 7 = .ok (.aload_n 0, 1) := by decide +kernel
theorem dX3_resolveList_8 : decode cX3_resolveList 8 = .ok (.getfield 21, 3) := by decide +kernel
theorem dX3_resolveList_11 : decode cX3_resolveList 11 = .ok (.getfield 141, 3) := by decide +kernel
theorem dX3_resolveList_14 : decode cX3_resolveList 14 = .ok (.if_icmp .gt 39, 3) := by decide +kernel
theorem dX3_resolveList_17 : decode cX3_resolveList 17 = .ok (.iload 4, 2) := by decide +kernel
theorem dX3_resolveList_19 : decode cX3_resolveList 19 = .ok (.bipush 8, 2) := by decide +kernel
theorem dX3_resolveList_21 : decode cX3_resolveList 21 = .ok (.if_icmp .ge 32, 3) := by decide +kernel
theorem dX3_resolveList_24 : decode cX3_resolveList 24 = .ok (.aload_n 0, 1) := by decide +kernel
theorem dX3_resolveList_25 : decode cX3_resolveList 25 = .ok (.iload 4, 2) := by decide +kernel
theorem dX3_resolveList_27 : decode cX3_resolveList 27 = .ok (.iload_n 1, 1) := by decide +kernel
theorem dX3_resolveList_28 : decode cX3_resolveList 28 = .ok (.iload_n 2, 1) := by decide +kernel
theorem dX3_resolveList_29 : decode cX3_resolveList 29 = .ok (.invokevirtual 125, 3) := by decide +kernel
theorem dX3_resolveList_32 : decode cX3_resolveList 32 = .ok (.istore 5, 2) := by decide +kernel
theorem dX3_resolveList_34 : decode cX3_resolveList 34 = .ok (.iload 5, 2) := by decide +kernel
theorem dX3_resolveList_36 : decode cX3_resolveList 36 = .ok (.ifCond .ge 6, 3) := by decide +kernel
theorem dX3_resolveList_39 : decode cX3_resolveList 39 = .ok (.iload 5, 2) := by decide +kernel
theorem dX3_resolveList_41 : decode cX3_resolveList 41 = .ok (.ireturn, 1) := by decide +kernel
theorem dX3_resolveList_42 : decode cX3_resolveList 42 = .ok (.iload_n 3, 1) := by decide +kernel
theorem dX3_resolveList_43 : decode cX3_resolveList 43 = .ok (.iload 5, 2) := by decide +kernel
theorem dX3_resolveList_45 : decode cX3_resolveList 45 = .ok (.ior, 1) := by decide +kernel
theorem dX3_resolveList_46 : decode cX3_resolveList 46 = .ok (.istore_n 3, 1) := by decide +kernel
theorem dX3_resolveList_47 : decode cX3_resolveList 47 = .ok (.iinc 4 1, 3) := by decide +kernel
theorem dX3_resolveList_50 : decode cX3_resolveList 50 = .ok (.goto (-45), 3) := by decide +kernel
theorem dX3_resolveList_53 : decode cX3_resolveList 53 = .ok (.iload_n 3, 1) := by decide +kernel
theorem dX3_resolveList_54 : decode cX3_resolveList 54 = .ok (.ireturn, 1) := by decide +kernel
set_option maxRecDepth 20000 in
theorem ggX3_resolveDescription_X1_hasSlot : GoodIn wsX3_resolveDescription wsX1_hasSlot := goodIn_r _ [12] (by decide +kernel) (by decide +kernel)
set_option maxRecDepth 20000 in
theorem gX3_resolveDescription_X1_hasSlot : GoodIn wsX3_resolveDescription (wsV RX3 144 RX1 yX1_hasSlot wsX1_hasSlot) := goodIn_app (goodIn_of _ (by decide +kernel)) ggX3_resolveDescription_X1_hasSlot
set_option maxRecDepth 20000 in
theorem ggX3_resolveDescription_X4_fittingSet : GoodIn wsX3_resolveDescription wsX4_fittingSet := goodIn_r _ [17, 18, 19, 20, 49, 50, 51, 52, 53, 54] (by decide +kernel) (by decide +kernel)
set_option maxRecDepth 20000 in
theorem gX3_resolveDescription_X4_fittingSet : GoodIn wsX3_resolveDescription (wsV RX3 65 RX4 yX4_fittingSet wsX4_fittingSet) := goodIn_app (goodIn_of _ (by decide +kernel)) ggX3_resolveDescription_X4_fittingSet
set_option maxRecDepth 20000 in
theorem ggX3_resolveDescription_J6_bitCount_0f7a4 : GoodIn wsX3_resolveDescription wsJ6_bitCount_0f7a4 := goodIn_r _ [24, 25, 26, 27] (by decide +kernel) (by decide +kernel)
set_option maxRecDepth 20000 in
theorem gX3_resolveDescription_J6_bitCount_0f7a4 : GoodIn wsX3_resolveDescription (va_wsS RX3 69 yJ6_bitCount_0f7a4 wsJ6_bitCount_0f7a4) := goodIn_app (goodIn_of _ (by decide +kernel)) ggX3_resolveDescription_J6_bitCount_0f7a4
set_option maxRecDepth 20000 in
theorem ggX3_resolveDescription_X3_orNothingSuitable : GoodIn wsX3_resolveDescription wsX3_orNothingSuitable := goodIn_r _ [31] (by decide +kernel) (by decide +kernel)
set_option maxRecDepth 20000 in
theorem gX3_resolveDescription_X3_orNothingSuitable : GoodIn wsX3_resolveDescription (va_wsS RX3 135 yX3_orNothingSuitable wsX3_orNothingSuitable) := goodIn_app (goodIn_of _ (by decide +kernel)) ggX3_resolveDescription_X3_orNothingSuitable
theorem dX3_resolveDescription_0 : decode cX3_resolveDescription 0 = .ok (.aload_n 0, 1) := by decide +kernel
theorem dX3_resolveDescription_1 : decode cX3_resolveDescription 1 = .ok (.getfield 21, 3) := by decide +kernel
theorem dX3_resolveDescription_4 : decode cX3_resolveDescription 4 = .ok (.iload_n 1, 1) := by decide +kernel
theorem dX3_resolveDescription_5 : decode cX3_resolveDescription 5 = .ok (.invokevirtual 144, 3) := by decide +kernel
theorem dX3_resolveDescription_8 : decode cX3_resolveDescription 8 = .ok (.ifCond .ne 6, 3) := by decide +kernel
theorem dX3_resolveDescription_11 : decode cX3_resolveDescription 11 = .ok (.bipush (-2), 2) := by decide +kernel
theorem dX3_resolveDescription_13 : decode cX3_resolveDescription 13 = .ok (.ireturn, 1) := by decide +kernel
theorem dX3_resolveDescription_14 : decode cX3_resolveDescription 14 = .ok (.aload_n 0, 1) := by decide +kernel
theorem dX3_resolveDescription_15 : decode cX3_resolveDescription 15 = .ok (.getfield 21, 3) := by decide +kernel
theorem dX3_resolveDescription_18 : decode cX3_resolveDescription 18 = .ok (.getfield 148, 3) := by decide +kernel
theorem dX3_resolveDescription_21 : decode cX3_resolveDescription 21 = .ok (.iload_n 1, 1) := by decide +kernel
theorem dX3_resolveDescription_22 : decode cX3_resolveDescription 22 = .ok (.iaload, 1) := by decide +kernel
theorem dX3_resolveDescription_23 : decode cX3_resolveDescription 23 = .ok (.ifCond .eq 13, 3) := by decide +kernel
theorem dX3_resolveDescription_26 : decode cX3_resolveDescription 26 = .ok (.aload_n 0, 1) := by decide +kernel
theorem dX3_resolveDescription_27 : decode cX3_resolveDescription 27 = .ok (.getfield 21, 3) := by decide +kernel
theorem dX3_resolveDescription_30 : decode cX3_resolveDescription 30 = .ok (.getfield 148, 3) := by decide +kernel
theorem dX3_resolveDescription_33 : decode cX3_resolveDescription 33 = .ok (.iload_n 1, 1) := by decide +kernel
theorem dX3_resolveDescription_34 : decode cX3_resolveDescription 34 = .ok (.iaload, 1) := by decide +kernel
theorem dX3_resolveDescription_35 : decode cX3_resolveDescription 35 = .ok (.ireturn, 1) := by decide +kernel
theorem dX3_resolveDescription_36 : decode cX3_resolveDescription 36 = .ok (.aload_n 0, 1) := by decide +kernel
theorem dX3_resolveDescription_37 : decode cX3_resolveDescription 37 = .ok (.getfield 12, 3) := by decide +kernel
theorem dX3_resolveDescription_40 : decode cX3_resolveDescription 40 = .ok (.aload_n 0, 1) := by decide +kernel
theorem dX3_resolveDescription_41 : decode cX3_resolveDescription 41 = .ok (.getfield 21, 3) := by decide +kernel
theorem dX3_resolveDescription_44 : decode cX3_resolveDescription 44 = .ok (.getfield 58, 3) := by decide +kernel
theorem dX3_resolveDescription_47 : decode cX3_resolveDescription 47 = .ok (.iload_n 1, 1) := by decide +kernel
theorem dX3_resolveDescription_48 : decode cX3_resolveDescription 48 = .ok (.iaload, 1) := by decide +kernel
theorem dX3_resolveDescription_49 : decode cX3_resolveDescription 49 = .ok (.aload_n 0, 1) := by decide +kernel
theorem dX3_resolveDescription_50 : decode cX3_resolveDescription 50 = .ok (.getfield 21, 3) := by decide +kernel
theorem dX3_resolveDescription_53 : decode cX3_resolveDescription 53 = .ok (.getfield 62, 3) := by decide +kernel
theorem dX3_resolveDescription_56 : decode cX3_resolveDescription 56 = .ok (.iload_n 1, 1) := by decide +kernel
theorem dX3_resolveDescription_57 : decode cX3_resolveDescription 57 = .ok (.iaload, 1) := by decide +kernel
theorem dX3_resolveDescription_58 : decode cX3_resolveDescription 58 = .ok (.invokevirtual 65, 3) := by decide +kernel
theorem dX3_resolveDescription_61 : decode cX3_resolveDescription 61 = .ok (.istore 4, 2) := by decide +kernel
theorem dX3_resolveDescription_63 : decode cX3_resolveDescription 63 = .ok (.iload 4, 2) := by decide +kernel
theorem dX3_resolveDescription_65 : decode cX3_resolveDescription 65 = .ok (.iload_n 2, 1) := by decide +kernel
theorem dX3_resolveDescription_66 : decode cX3_resolveDescription 66 = .ok (.iand, 1) := by decide +kernel
theorem dX3_resolveDescription_67 : decode cX3_resolveDescription 67 = .ok (.ifCond .ne 6, 3) := by decide +kernel
theorem dX3_resolveDescription_70 : decode cX3_resolveDescription 70 = .ok (.bipush (-2), 2) := by decide +kernel
theorem dX3_resolveDescription_72 : decode cX3_resolveDescription 72 = .ok (.ireturn, 1) := by decide +kernel
theorem dX3_resolveDescription_73 : decode cX3_resolveDescription 73 = .ok (.iload 4, 2) := by decide +kernel
theorem dX3_resolveDescription_75 : decode cX3_resolveDescription 75 = .ok (.iload_n 3, 1) := by decide +kernel
theorem dX3_resolveDescription_76 : decode cX3_resolveDescription 76 = .ok (.iand, 1) := by decide +kernel
theorem dX3_resolveDescription_77 : decode cX3_resolveDescription 77 = .ok (.istore 5, 2) := by decide +kernel
theorem dX3_resolveDescription_79 : decode cX3_resolveDescription 79 = .ok (.iload 5, 2) := by decide +kernel
theorem dX3_resolveDescription_81 : decode cX3_resolveDescription 81 = .ok (.invokestatic 69, 3) := by decide +kernel
theorem dX3_resolveDescription_84 : decode cX3_resolveDescription 84 = .ok (.iconst 1, 1) := by decide +kernel
theorem dX3_resolveDescription_85 : decode cX3_resolveDescription 85 = .ok (.if_icmp .le 16, 3) := by decide +kernel
theorem dX3_resolveDescription_88 : decode cX3_resolveDescription 88 = .ok (.aload_n 0, 1) := by decide +kernel
theorem dX3_resolveDescription_89 : decode cX3_resolveDescription 89 = .ok (.iload_n 1, 1) := by decide +kernel
theorem dX3_resolveDescription_90 : decode cX3_resolveDescription 90 = .ok (.putfield 29, 3) := by decide +kernel
theorem dX3_resolveDescription_93 : decode cX3_resolveDescription 93 = .ok (.aload_n 0, 1) := by decide +kernel
theorem dX3_resolveDescription_94 : decode cX3_resolveDescription 94 = .ok (.iload 5, 2) := by decide +kernel
theorem dX3_resolveDescription_96 : decode cX3_resolveDescription 96 = .ok (.putfield 51, 3) := by decide +kernel
theorem dX3_resolveDescription_99 : decode cX3_resolveDescription 99 = .ok (.iconst (-1), 1) := by decide +kernel
theorem dX3_resolveDescription_100 : decode cX3_resolveDescription 100 = .ok (.ireturn, 1) := by decide +kernel
theorem dX3_resolveDescription_101 : decode cX3_resolveDescription 101 = .ok (.iload 5, 2) := by decide +kernel
theorem dX3_resolveDescription_103 : decode cX3_resolveDescription 103 = .ok (.invokestatic 135, 3) := by decide +kernel
theorem dX3_resolveDescription_106 : decode cX3_resolveDescription 106 = .ok (.ireturn, 1) := by decide +kernel
theorem dX4_init_0 : decode cX4_init 0 = .ok (.aload_n 0, 1) := by decide +kernel
theorem dX4_init_1 : decode cX4_init 1 = .ok (.invokespecial 3, 3) := by decide +kernel
theorem dX4_init_4 : decode cX4_init 4 = .ok (.aload_n 0, 1) := by decide +kernel
theorem dX4_init_5 : decode cX4_init 5 = .ok (.bipush 12, 2) := by decide +kernel
theorem dX4_init_7 : decode cX4_init 7 = .ok (.newarray .int, 2) := by decide +kernel
theorem dX4_init_9 : decode cX4_init 9 = .ok (.putfield 9, 3) := by decide +kernel
theorem dX4_init_12 : decode cX4_init 12 = .ok (.aload_n 0, 1) := by decide +kernel
theorem dX4_init_13 : decode cX4_init 13 = .ok (.bipush 12, 2) := by decide +kernel
theorem dX4_init_15 : decode cX4_init 15 = .ok (.newarray .int, 2) := by decide +kernel
theorem dX4_init_17 : decode cX4_init 17 = .ok (.putfield 15, 3) := by decide +kernel
theorem dX4_init_20 : decode cX4_init 20 = .ok (.aload_n 0, 1) := by decide +kernel
theorem dX4_init_21 : decode cX4_init 21 = .ok (.bipush 12, 2) := by decide +kernel
theorem dX4_init_23 : decode cX4_init 23 = .ok (.newarray .int, 2) := by decide +kernel
theorem dX4_init_25 : decode cX4_init 25 = .ok (.putfield 18, 3) := by decide +kernel
theorem dX4_init_28 : decode cX4_init 28 = .ok (.return_, 1) := by decide +kernel
theorem dX4_copyFrom_0 : decode cX4_copyFrom 0 = .ok (.iconst 0, 1) := by decide +kernel
theorem dX4_copyFrom_1 : decode cX4_copyFrom 1 = .ok (.istore_n 2, 1) := by decide +kernel
theorem dX4_copyFrom_2 : decode cX4_copyFrom 2 = .ok (.iload_n 2, 1) := by decide +kernel
theorem dX4_copyFrom_3 : decode cX4_copyFrom 3 = .ok (.bipush 12, 2) := by decide +kernel
theorem dX4_copyFrom_5 : decode cX4_copyFrom 5 = .ok (.if_icmp .ge 45, 3) := by decide +kernel
theorem dX4_copyFrom_8 : decode cX4_copyFrom 8 = .ok (.aload_n 0, 1) := by decide +kernel
theorem dX4_copyFrom_9 : decode cX4_copyFrom 9 = .ok (.getfield 9, 3) := by decide +kernel
theorem dX4_copyFrom_12 : decode cX4_copyFrom 12 = .ok (.iload_n 2, 1) := by decide +kernel
theorem dX4_copyFrom_13 : decode cX4_copyFrom 13 = .ok (.aload_n 1, 1) := by decide +kernel
theorem dX4_copyFrom_14 : decode cX4_copyFrom 14 = .ok (.getfield 9, 3) := by decide +kernel
theorem dX4_copyFrom_17 : decode cX4_copyFrom 17 = .ok (.iload_n 2, 1) := by decide +kernel
theorem dX4_copyFrom_18 : decode cX4_copyFrom 18 = .ok (.iaload, 1) := by decide +kernel
theorem dX4_copyFrom_19 : decode cX4_copyFrom 19 = .ok (.iastore, 1) := by decide +kernel
theorem dX4_copyFrom_20 : decode cX4_copyFrom 20 = .ok (.aload_n 0, 1) := by decide +kernel
theorem dX4_copyFrom_21 : decode cX4_copyFrom 21 = .ok (.getfield 15, 3) := by decide +kernel
theorem dX4_copyFrom_24 : decode cX4_copyFrom 24 = .ok (.iload_n 2, 1) := by decide +kernel
theorem dX4_copyFrom_25 : decode cX4_copyFrom 25 = .ok (.aload_n 1, 1) := by decide +kernel
theorem dX4_copyFrom_26 : decode cX4_copyFrom 26 = .ok (.getfield 15, 3) := by decide +kernel
theorem dX4_copyFrom_29 : decode cX4_copyFrom 29 = .ok (.iload_n 2, 1) := by decide +kernel
theorem dX4_copyFrom_30 : decode cX4_copyFrom 30 = .ok (.iaload, 1) := by decide +kernel
theorem dX4_copyFrom_31 : decode cX4_copyFrom 31 = .ok (.iastore, 1) := by decide +kernel
theorem dX4_copyFrom_32 : decode cX4_copyFrom 32 = .ok (.aload_n 0, 1) := by decide +kernel
theorem dX4_copyFrom_33 : decode cX4_copyFrom 33 = .ok (.getfield 18, 3) := by decide +kernel
theorem dX4_copyFrom_36 : decode cX4_copyFrom 36 = .ok (.iload_n 2, 1) := by decide +kernel
theorem dX4_copyFrom_37 : decode cX4_copyFrom 37 = .ok (.aload_n 1, 1) := by decide +kernel
theorem dX4_copyFrom_38 : decode cX4_copyFrom 38 = .ok (.getfield 18, 3) := by decide +kernel
theorem dX4_copyFrom_41 : decode cX4_copyFrom 41 = .ok (.iload_n 2, 1) := by decide +kernel
theorem dX4_copyFrom_42 : decode cX4_copyFrom 42 = .ok (.iaload, 1) := by decide +kernel
theorem dX4_copyFrom_43 : decode cX4_copyFrom 43 = .ok (.iastore, 1) := by decide +kernel
theorem dX4_copyFrom_44 : decode cX4_copyFrom 44 = .ok (.iinc 2 1, 3) := by decide +kernel
theorem dX4_copyFrom_47 : decode cX4_copyFrom 47 = .ok (.goto (-45), 3) := by decide +kernel
theorem dX4_copyFrom_50 : decode cX4_copyFrom 50 = .ok (.aload_n 0, 1) := by decide +kernel
theorem dX4_copyFrom_51 : decode cX4_copyFrom 51 = .ok (.aload_n 1, 1) := by decide +kernel
theorem dX4_copyFrom_52 : decode cX4_copyFrom 52 = .ok (.getfield 21, 3) := by decide +kernel
theorem dX4_copyFrom_55 : decode cX4_copyFrom 55 = .ok (.putfield 21, 3) := by decide +kernel
theorem dX4_copyFrom_58 : decode cX4_copyFrom 58 = .ok (.aload_n 0, 1) := by decide +kernel
theorem dX4_copyFrom_59 : decode cX4_copyFrom 59 = .ok (.aload_n 1, 1) := by decide +kernel
theorem dX4_copyFrom_60 : decode cX4_copyFrom 60 = .ok (.getfield 25, 3) := by decide +kernel
theorem dX4_copyFrom_63 : decode cX4_copyFrom 63 = .ok (.putfield 25, 3) := by decide +kernel
theorem dX4_copyFrom_66 : decode cX4_copyFrom 66 = .ok (.aload_n 0, 1) := by decide +kernel
theorem dX4_copyFrom_67 : decode cX4_copyFrom 67 = .ok (.aload_n 1, 1) := by decide +kernel
theorem dX4_copyFrom_68 : decode cX4_copyFrom 68 = .ok (.getfield 28, 3) := by decide +kernel
theorem dX4_copyFrom_71 : decode cX4_copyFrom 71 = .ok (.putfield 28, 3) := by decide +kernel
theorem dX4_copyFrom_74 : decode cX4_copyFrom 74 = .ok (.return_, 1) := by decide +kernel
theorem dX4_add_0 : decode cX4_add 0 = .ok (.aload_n 0, 1) := by decide +kernel
theorem dX4_add_1 : decode cX4_add 1 = .ok (.getfield 21, 3) := by decide +kernel
theorem dX4_add_4 : decode cX4_add 4 = .ok (.istore 4, 2) := by decide +kernel
theorem dX4_add_6 : decode cX4_add 6 = .ok (.iload 4, 2) := by decide +kernel
theorem dX4_add_8 : decode cX4_add 8 = .ok (.ifCond .lt 44, 3) := by decide +kernel
theorem dX4_add_11 : decode cX4_add 11 = .ok (.iload 4, 2) := by decide +kernel
theorem dX4_add_13 : decode cX4_add 13 = .ok (.bipush 12, 2) := by decide +kernel
theorem dX4_add_15 : decode cX4_add 15 = .ok (.if_icmp .ge 37, 3) := by decide +kernel
theorem dX4_add_18 : decode cX4_add 18 = .ok (.aload_n 0, 1) := by decide +kernel
theorem dX4_add_19 : decode cX4_add 19 = .ok (.getfield 9, 3) := by decide +kernel
theorem dX4_add_22 : decode cX4_add 22 = .ok (.iload 4, 2) := by decide +kernel
theorem dX4_add_24 : decode cX4_add 24 = .ok (.iload_n 1, 1) := by decide +kernel
theorem dX4_add_25 : decode cX4_add 25 = .ok (.iastore, 1) := by decide +kernel
theorem dX4_add_26 : decode cX4_add 26 = .ok (.aload_n 0, 1) := by decide +kernel
theorem dX4_add_27 : decode cX4_add 27 = .ok (.getfield 15, 3) := by decide +kernel
theorem dX4_add_30 : decode cX4_add 30 = .ok (.iload 4, 2) := by decide +kernel
theorem dX4_add_32 : decode cX4_add 32 = .ok (.iload_n 2, 1) := by decide +kernel
theorem dX4_add_33 : decode cX4_add 33 = .ok (.iastore, 1) := by decide +kernel
theorem dX4_add_34 : decode cX4_add 34 = .ok (.aload_n 0, 1) := by decide +kernel
theorem dX4_add_35 : decode cX4_add 35 = .ok (.getfield 18, 3) := by decide +kernel
theorem dX4_add_38 : decode cX4_add 38 = .ok (.iload 4, 2) := by decide +kernel
theorem dX4_add_40 : decode cX4_add 40 = .ok (.iload_n 3, 1) := by decide +kernel
theorem dX4_add_41 : decode cX4_add 41 = .ok (.iastore, 1) := by decide +kernel
theorem dX4_add_42 : decode cX4_add 42 = .ok (.aload_n 0, 1) := by decide +kernel
theorem dX4_add_43 : decode cX4_add 43 = .ok (.dup, 1) := by decide +kernel
theorem dX4_add_44 : decode cX4_add 44 = .ok (.getfield 21, 3) := by decide +kernel
theorem dX4_add_47 : decode cX4_add 47 = .ok (.iconst 1, 1) := by decide +kernel
theorem dX4_add_48 : decode cX4_add 48 = .ok (.iadd, 1) := by decide +kernel
theorem dX4_add_49 : decode cX4_add 49 = .ok (.putfield 21, 3) := by decide +kernel
theorem dX4_add_52 : decode cX4_add 52 = .ok (.iload 4, 2) := by decide +kernel
theorem dX4_add_54 : decode cX4_add 54 = .ok (.ireturn, 1) := by decide +kernel
theorem dX4_exists_0 : decode cX4_exists 0 = .ok (.iload_n 1, 1) := by decide +kernel
theorem dX4_exists_1 : decode cX4_exists 1 = .ok (.ifCond .lt 21, 3) := by decide +kernel
theorem dX4_exists_4 : decode cX4_exists 4 = .ok (.iload_n 1, 1) := by decide +kernel
theorem dX4_exists_5 : decode cX4_exists 5 = .ok (.aload_n 0, 1) := by decide +kernel
theorem dX4_exists_6 : decode cX4_exists 6 = .ok (.getfield 21, 3) := by decide +kernel
theorem dX4_exists_9 : decode cX4_exists 9 = .ok (.if_icmp .ge 13, 3) := by decide +kernel
theorem dX4_exists_12 : decode cX4_exists 12 = .ok (.iload_n 1, 1) := by decide +kernel
theorem dX4_exists_13 : decode cX4_exists 13 = .ok (.bipush 12, 2) := by decide +kernel
theorem dX4_exists_15 : decode cX4_exists 15 = .ok (.if_icmp .ge 7, 3) := by decide +kernel
theorem dX4_exists_18 : decode cX4_exists 18 = .ok (.iconst 1, 1) := by decide +kernel
theorem dX4_exists_19 : decode cX4_exists 19 = .ok (.goto 4, 3) := by decide +kernel
theorem dX4_exists_22 : decode cX4_exists 22 = .ok (.iconst 0, 1) := by decide +kernel
theorem dX4_exists_23 : decode cX4_exists 23 = .ok (.ireturn, 1) := by decide +kernel
set_option maxRecDepth 20000 in
theorem ggX4_hasPlace_X5_isRoom : GoodIn wsX4_hasPlace wsX5_isRoom := goodIn_r _ [4] (by decide +kernel) (by decide +kernel)
set_option maxRecDepth 20000 in
theorem gX4_hasPlace_X5_isRoom_n31 : GoodIn wsX4_hasPlace (wsX5_isRoom) := ggX4_hasPlace_X5_isRoom
set_option maxRecDepth 20000 in
theorem ggX4_hasPlace_X4_exists : GoodIn wsX4_hasPlace wsX4_exists := goodIn_r _ [9, 10, 13, 14, 15, 16, 17, 18] (by decide +kernel) (by decide +kernel)
set_option maxRecDepth 20000 in
theorem gX4_hasPlace_X4_exists : GoodIn wsX4_hasPlace (wsV RX4 35 RX4 yX4_exists wsX4_exists) := goodIn_app (goodIn_of _ (by decide +kernel)) ggX4_hasPlace_X4_exists
set_option maxRecDepth 20000 in
theorem ggX4_hasPlace_X5_isContainerNoun : GoodIn wsX4_hasPlace wsX5_isContainerNoun := goodIn_r _ [12] (by decide +kernel) (by decide +kernel)
set_option maxRecDepth 20000 in
theorem gX4_hasPlace_X5_isContainerNoun_n38 : GoodIn wsX4_hasPlace (wsX5_isContainerNoun) := ggX4_hasPlace_X5_isContainerNoun
theorem dX4_hasPlace_0 : decode cX4_hasPlace 0 = .ok (.iload_n 1, 1) := by decide +kernel
theorem dX4_hasPlace_1 : decode cX4_hasPlace 1 = .ok (.iconst 5, 1) := by decide +kernel
theorem dX4_hasPlace_2 : decode cX4_hasPlace 2 = .ok (.if_icmp .ge 21, 3) := by decide +kernel
theorem dX4_hasPlace_5 : decode cX4_hasPlace 5 = .ok (.iload_n 1, 1) := by decide +kernel
theorem dX4_hasPlace_6 : decode cX4_hasPlace 6 = .ok (.invokestatic 31, 3) := by decide +kernel
theorem dX4_hasPlace_9 : decode cX4_hasPlace 9 = .ok (.ifCond .ne 8, 3) := by decide +kernel
theorem dX4_hasPlace_12 : decode cX4_hasPlace 12 = .ok (.iload_n 1, 1) := by decide +kernel
theorem dX4_hasPlace_13 : decode cX4_hasPlace 13 = .ok (.iconst 4, 1) := by decide +kernel
theorem dX4_hasPlace_14 : decode cX4_hasPlace 14 = .ok (.if_icmp .ne 7, 3) := by decide +kernel
theorem dX4_hasPlace_17 : decode cX4_hasPlace 17 = .ok (.iconst 1, 1) := by decide +kernel
theorem dX4_hasPlace_18 : decode cX4_hasPlace 18 = .ok (.goto 4, 3) := by decide +kernel
theorem dX4_hasPlace_21 : decode cX4_hasPlace 21 = .ok (.iconst 0, 1) := by decide +kernel
theorem dX4_hasPlace_22 : decode cX4_hasPlace 22 = .ok (.ireturn, 1) := by decide +kernel
theorem dX4_hasPlace_23 : decode cX4_hasPlace 23 = .ok (.iload_n 1, 1) := by decide +kernel
theorem dX4_hasPlace_24 : decode cX4_hasPlace 24 = .ok (.iconst 5, 1) := by decide +kernel
theorem dX4_hasPlace_25 : decode cX4_hasPlace 25 = .ok (.isub, 1) := by decide +kernel
theorem dX4_hasPlace_26 : decode cX4_hasPlace 26 = .ok (.istore_n 2, 1) := by decide +kernel
theorem dX4_hasPlace_27 : decode cX4_hasPlace 27 = .ok (.aload_n 0, 1) := by decide +kernel
theorem dX4_hasPlace_28 : decode cX4_hasPlace 28 = .ok (.iload_n 2, 1) := by decide +kernel
theorem dX4_hasPlace_29 : decode cX4_hasPlace 29 = .ok (.invokevirtual 35, 3) := by decide +kernel
theorem dX4_hasPlace_32 : decode cX4_hasPlace 32 = .ok (.ifCond .eq 19, 3) := by decide +kernel
theorem dX4_hasPlace_35 : decode cX4_hasPlace 35 = .ok (.aload_n 0, 1) := by decide +kernel
theorem dX4_hasPlace_36 : decode cX4_hasPlace 36 = .ok (.getfield 9, 3) := by decide +kernel
theorem dX4_hasPlace_39 : decode cX4_hasPlace 39 = .ok (.iload_n 2, 1) := by decide +kernel
theorem dX4_hasPlace_40 : decode cX4_hasPlace 40 = .ok (.iaload, 1) := by decide +kernel
theorem dX4_hasPlace_41 : decode cX4_hasPlace 41 = .ok (.invokestatic 38, 3) := by decide +kernel
theorem dX4_hasPlace_44 : decode cX4_hasPlace 44 = .ok (.ifCond .eq 7, 3) := by decide +kernel
theorem dX4_hasPlace_47 : decode cX4_hasPlace 47 = .ok (.iconst 1, 1) := by decide +kernel
theorem dX4_hasPlace_48 : decode cX4_hasPlace 48 = .ok (.goto 4, 3) := by decide +kernel
theorem dX4_hasPlace_51 : decode cX4_hasPlace 51 = .ok (.iconst 0, 1) := by decide +kernel
theorem dX4_hasPlace_52 : decode cX4_hasPlace 52 = .ok (.ireturn, 1) := by decide +kernel
set_option maxRecDepth 20000 in
theorem ggX4_isFull_X5_isRoom : GoodIn wsX4_isFull wsX5_isRoom := goodIn_r _ [3] (by decide +kernel) (by decide +kernel)
set_option maxRecDepth 20000 in
theorem gX4_isFull_X5_isRoom_n31 : GoodIn wsX4_isFull (wsX5_isRoom) := ggX4_isFull_X5_isRoom
set_option maxRecDepth 20000 in
theorem ggX4_isFull_X4_setAt : GoodIn wsX4_isFull wsX4_setAt := goodIn_r _ [8, 9, 10, 18, 19, 20, 21, 22, 23] (by decide +kernel) (by decide +kernel)
set_option maxRecDepth 20000 in
theorem gX4_isFull_X4_setAt : GoodIn wsX4_isFull (wsV RX4 41 RX4 yX4_setAt wsX4_setAt) := goodIn_app (goodIn_of _ (by decide +kernel)) ggX4_isFull_X4_setAt
set_option maxRecDepth 20000 in
theorem ggX4_isFull_J6_bitCount_0f7a4 : GoodIn wsX4_isFull wsJ6_bitCount_0f7a4 := goodIn_r _ [14, 15, 16, 17] (by decide +kernel) (by decide +kernel)
set_option maxRecDepth 20000 in
theorem gX4_isFull_J6_bitCount_0f7a4 : GoodIn wsX4_isFull (va_wsS RX4 45 yJ6_bitCount_0f7a4 wsJ6_bitCount_0f7a4) := goodIn_app (goodIn_of _ (by decide +kernel)) ggX4_isFull_J6_bitCount_0f7a4
theorem dX4_isFull_0 : decode cX4_isFull 0 = .ok (.iload_n 1, 1) := by decide +kernel
theorem dX4_isFull_1 : decode cX4_isFull 1 = .ok (.iconst 4, 1) := by decide +kernel
theorem dX4_isFull_2 : decode cX4_isFull 2 = .ok (.if_icmp .ne 8, 3) := by decide +kernel
theorem dX4_isFull_5 : decode cX4_isFull 5 = .ok (.bipush 6, 2) := by decide +kernel
theorem dX4_isFull_7 : decode cX4_isFull 7 = .ok (.goto 4, 3) := by decide +kernel
theorem dX4_isFull_10 : decode cX4_isFull 10 = .ok (.iconst 4, 1) := by decide +kernel
theorem dX4_isFull_11 : decode cX4_isFull 11 = .ok (.istore_n 2, 1) := by decide +kernel
theorem dX4_isFull_12 : decode cX4_isFull 12 = .ok (.iload_n 1, 1) := by decide +kernel
theorem dX4_isFull_13 : decode cX4_isFull 13 = .ok (.invokestatic 31, 3) := by decide +kernel
theorem dX4_isFull_16 : decode cX4_isFull 16 = .ok (.ifCond .ne 19, 3) := by decide +kernel
theorem dX4_isFull_19 : decode cX4_isFull 19 = .ok (.aload_n 0, 1) := by decide +kernel
theorem dX4_isFull_20 : decode cX4_isFull 20 = .ok (.iload_n 1, 1) := by decide +kernel
theorem dX4_isFull_21 : decode cX4_isFull 21 = .ok (.invokevirtual 41, 3) := by decide +kernel
theorem dX4_isFull_24 : decode cX4_isFull 24 = .ok (.invokestatic 45, 3) := by decide +kernel
theorem dX4_isFull_27 : decode cX4_isFull 27 = .ok (.iload_n 2, 1) := by decide +kernel
theorem dX4_isFull_28 : decode cX4_isFull 28 = .ok (.if_icmp .lt 7, 3) := by decide +kernel
theorem dX4_isFull_31 : decode cX4_isFull 31 = .ok (.iconst 1, 1) := by decide +kernel
theorem dX4_isFull_32 : decode cX4_isFull 32 = .ok (.goto 4, 3) := by decide +kernel
theorem dX4_isFull_35 : decode cX4_isFull 35 = .ok (.iconst 0, 1) := by decide +kernel
theorem dX4_isFull_36 : decode cX4_isFull 36 = .ok (.ireturn, 1) := by decide +kernel
theorem dX4_setAt_0 : decode cX4_setAt 0 = .ok (.iconst 0, 1) := by decide +kernel
theorem dX4_setAt_1 : decode cX4_setAt 1 = .ok (.istore_n 2, 1) := by decide +kernel
theorem dX4_setAt_2 : decode cX4_setAt 2 = .ok (.iconst 0, 1) := by decide +kernel
theorem dX4_setAt_3 : decode cX4_setAt 3 = .ok (.istore_n 3, 1) := by decide +kernel
theorem dX4_setAt_4 : decode cX4_setAt 4 = .ok (.iload_n 3, 1) := by decide +kernel
theorem dX4_setAt_5 : decode cX4_setAt 5 = .ok (.aload_n 0, 1) := by decide +kernel
theorem dX4_setAt_6 : decode cX4_setAt 6 = .ok (.getfield 21, 3) := by decide +kernel
theorem dX4_setAt_9 : decode cX4_setAt 9 = .ok (.if_icmp .ge 31, 3) := by decide +kernel
theorem dX4_setAt_12 : decode cX4_setAt 12 = .ok (.iload_n 3, 1) := by decide +kernel
theorem dX4_setAt_13 : decode cX4_setAt 13 = .ok (.bipush 12, 2) := by decide +kernel
theorem dX4_setAt_15 : decode cX4_setAt 15 = .ok (.if_icmp .ge 25, 3) := by decide +kernel
theorem dX4_setAt_18 : decode cX4_setAt 18 = .ok (.aload_n 0, 1) := by decide +kernel
theorem dX4_setAt_19 : decode cX4_setAt 19 = .ok (.getfield 18, 3) := by decide +kernel
theorem dX4_setAt_22 : decode cX4_setAt 22 = .ok (.iload_n 3, 1) := by decide +kernel
theorem dX4_setAt_23 : decode cX4_setAt 23 = .ok (.iaload, 1) := by decide +kernel
theorem dX4_setAt_24 : decode cX4_setAt 24 = .ok (.iload_n 1, 1) := by decide +kernel
theorem dX4_setAt_25 : decode cX4_setAt 25 = .ok (.if_icmp .ne 9, 3) := by decide +kernel
theorem dX4_setAt_28 : decode cX4_setAt 28 = .ok (.iload_n 2, 1) := by decide +kernel
theorem dX4_setAt_29 : decode cX4_setAt 29 = .ok (.iconst 1, 1) := by decide +kernel
theorem dX4_setAt_30 : decode cX4_setAt 30 = .ok (.iload_n 3, 1) := by decide +kernel
theorem dX4_setAt_31 : decode cX4_setAt 31 = .ok (.ishl, 1) := by decide +kernel
theorem dX4_setAt_32 : decode cX4_setAt 32 = .ok (.ior, 1) := by decide +kernel
theorem dX4_setAt_33 : decode cX4_setAt 33 = .ok (.istore_n 2, 1) := by decide +kernel
theorem dX4_setAt_34 : decode cX4_setAt 34 = .ok (.iinc 3 1, 3) := by decide +kernel
theorem dX4_setAt_37 : decode cX4_setAt 37 = .ok (.goto (-33), 3) := by decide +kernel
theorem dX4_setAt_40 : decode cX4_setAt 40 = .ok (.iload_n 2, 1) := by decide +kernel
theorem dX4_setAt_41 : decode cX4_setAt 41 = .ok (.ireturn, 1) := by decide +kernel
set_option maxRecDepth 20000 in
theorem ggX4_visibleSet_X4_setAt : GoodIn wsX4_visibleSet wsX4_setAt := goodIn_r _ [7, 8, 9, 10, 11, 12, 13, 14, 15] (by decide +kernel) (by decide +kernel)
