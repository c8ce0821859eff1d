set_option maxRecDepth 20000 in
theorem gX4_visibleSet_X4_setAt : GoodIn wsX4_visibleSet (wsV RX4 41 RX4 yX4_setAt wsX4_setAt) := goodIn_app (goodIn_of _ (by decide +kernel)) ggX4_visibleSet_X4_setAt
theorem dX4_visibleSet_0 : decode cX4_visibleSet 0 = .ok (.aload_n 0, 1) := by decide +kernel
theorem dX4_visibleSet_1 : decode cX4_visibleSet 1 = .ok (.aload_n 0, 1) := by decide +kernel
theorem dX4_visibleSet_2 : decode cX4_visibleSet 2 = .ok (.getfield 25, 3) := by decide +kernel
theorem dX4_visibleSet_5 : decode cX4_visibleSet 5 = .ok (.invokevirtual 41, 3) := by decide +kernel
theorem dX4_visibleSet_8 : decode cX4_visibleSet 8 = .ok (.aload_n 0, 1) := by decide +kernel
theorem dX4_visibleSet_9 : decode cX4_visibleSet 9 = .ok (.iconst 4, 1) := by decide +kernel
theorem dX4_visibleSet_10 : decode cX4_visibleSet 10 = .ok (.invokevirtual 41, 3) := by decide +kernel
theorem dX4_visibleSet_13 : decode cX4_visibleSet 13 = .ok (.ior, 1) := by decide +kernel
theorem dX4_visibleSet_14 : decode cX4_visibleSet 14 = .ok (.istore_n 1, 1) := by decide +kernel
theorem dX4_visibleSet_15 : decode cX4_visibleSet 15 = .ok (.iload_n 1, 1) := by decide +kernel
theorem dX4_visibleSet_16 : decode cX4_visibleSet 16 = .ok (.istore_n 2, 1) := by decide +kernel
theorem dX4_visibleSet_17 : decode cX4_visibleSet 17 = .ok (.iconst 0, 1) := by decide +kernel
theorem dX4_visibleSet_18 : decode cX4_visibleSet 18 = .ok (.istore_n 3, 1) := by decide +kernel
theorem dX4_visibleSet_19 : decode cX4_visibleSet 19 = .ok (.iload_n 3, 1) := by decide +kernel
theorem dX4_visibleSet_20 : decode cX4_visibleSet 20 = .ok (.bipush 12, 2) := by decide +kernel
theorem dX4_visibleSet_22 : decode cX4_visibleSet 22 = .ok (.if_icmp .ge 32, 3) := by decide +kernel
theorem dX4_visibleSet_25 : decode cX4_visibleSet 25 = .ok (.iload_n 1, 1) := by decide +kernel
theorem dX4_visibleSet_26 : decode cX4_visibleSet 26 = .ok (.aload_n 0, 1) := by decide +kernel
theorem dX4_visibleSet_27 : decode cX4_visibleSet 27 = .ok (.getfield 28, 3) := by decide +kernel
theorem dX4_visibleSet_30 : decode cX4_visibleSet 30 = .ok (.iand, 1) := by decide +kernel
theorem dX4_visibleSet_31 : decode cX4_visibleSet 31 = .ok (.iconst 1, 1) := by decide +kernel
theorem dX4_visibleSet_32 : decode cX4_visibleSet 32 = .ok (.iload_n 3, 1) := by decide +kernel
theorem dX4_visibleSet_33 : decode cX4_visibleSet 33 = .ok (.ishl, 1) := by decide +kernel
theorem dX4_visibleSet_34 : decode cX4_visibleSet 34 = .ok (.iand, 1) := by decide +kernel
theorem dX4_visibleSet_35 : decode cX4_visibleSet 35 = .ok (.ifCond .eq 13, 3) := by decide +kernel
theorem dX4_visibleSet_38 : decode cX4_visibleSet 38 = .ok (.iload_n 2, 1) := by decide +kernel
theorem dX4_visibleSet_39 : decode cX4_visibleSet 39 = .ok (.aload_n 0, 1) := by decide +kernel
theorem dX4_visibleSet_40 : decode cX4_visibleSet 40 = .ok (.iconst 5, 1) := by decide +kernel
theorem dX4_visibleSet_41 : decode cX4_visibleSet 41 = .ok (.iload_n 3, 1) := by decide +kernel
theorem dX4_visibleSet_42 : decode cX4_visibleSet 42 = .ok (.iadd, 1) := by decide +kernel
theorem dX4_visibleSet_43 : decode cX4_visibleSet 43 = .ok (.invokevirtual 41, 3) := by decide +kernel
theorem dX4_visibleSet_46 : decode cX4_visibleSet 46 = .ok (.ior, 1) := by decide +kernel
theorem dX4_visibleSet_47 : decode cX4_visibleSet 47 = .ok (.istore_n 2, 1) := by decide +kernel
theorem dX4_visibleSet_48 : decode cX4_visibleSet 48 = .ok (.iinc 3 1, 3) := by decide +kernel
theorem dX4_visibleSet_51 : decode cX4_visibleSet 51 = .ok (.goto (-32), 3) := by decide +kernel
theorem dX4_visibleSet_54 : decode cX4_visibleSet 54 = .ok (.iload_n 2, 1) := by decide +kernel
theorem dX4_visibleSet_55 : decode cX4_visibleSet 55 = .ok (.ireturn, 1) := by decide +kernel
set_option maxRecDepth 20000 in
theorem ggX4_suitableSet_X4_setAt : GoodIn wsX4_suitableSet wsX4_setAt := goodIn_r _ [6, 7, 8, 24, 25, 26, 27, 28, 29] (by decide +kernel) (by decide +kernel)
set_option maxRecDepth 20000 in
theorem gX4_suitableSet_X4_setAt : GoodIn wsX4_suitableSet (wsV RX4 41 RX4 yX4_setAt wsX4_setAt) := goodIn_app (goodIn_of _ (by decide +kernel)) ggX4_suitableSet_X4_setAt
set_option maxRecDepth 20000 in
theorem ggX4_suitableSet_X4_visibleSet : GoodIn wsX4_suitableSet wsX4_visibleSet := goodIn_r _ [12, 13, 1, 2, 3, 4, 5, 6, 7, 8, 24, 25, 26, 27, 28, 29] (by decide +kernel) (by decide +kernel)
set_option maxRecDepth 20000 in
theorem gX4_suitableSet_X4_visibleSet : GoodIn wsX4_suitableSet (wsV RX4 50 RX4 yX4_visibleSet wsX4_visibleSet) := goodIn_app (goodIn_of _ (by decide +kernel)) ggX4_suitableSet_X4_visibleSet
set_option maxRecDepth 20000 in
theorem ggX4_suitableSet_X4_containerSet : GoodIn wsX4_suitableSet wsX4_containerSet := goodIn_r _ [17, 18, 19, 20, 5, 21, 7, 22, 23, 24, 25, 26, 27, 28, 29] (by decide +kernel) (by decide +kernel)
set_option maxRecDepth 20000 in
theorem gX4_suitableSet_X4_containerSet : GoodIn wsX4_suitableSet (wsV RX4 54 RX4 yX4_containerSet wsX4_containerSet) := goodIn_app (goodIn_of _ (by decide +kernel)) ggX4_suitableSet_X4_containerSet
theorem dX4_suitableSet_0 : decode cX4_suitableSet 0 = .ok (.aload_n 0, 1) := by decide +kernel
theorem dX4_suitableSet_1 : decode cX4_suitableSet 1 = .ok (.iconst 4, 1) := by decide +kernel
theorem dX4_suitableSet_2 : decode cX4_suitableSet 2 = .ok (.invokevirtual 41, 3) := by decide +kernel
theorem dX4_suitableSet_5 : decode cX4_suitableSet 5 = .ok (.istore_n 2, 1) := by decide +kernel
theorem dX4_suitableSet_6 : decode cX4_suitableSet 6 = .ok (.iload_n 1, 1) := by decide +kernel
theorem dX4_suitableSet_7 : decode cX4_suitableSet 7 = .ok (.tableswitch 80 0 4 #[33, 42, 44, 53, 70], 33) := by decide +kernel
theorem dX4_suitableSet_40 : decode cX4_suitableSet 40 = .ok (.aload_n 0, 1) := by decide +kernel
theorem dX4_suitableSet_41 : decode cX4_suitableSet 41 = .ok (.invokevirtual 50, 3) := by decide +kernel
theorem dX4_suitableSet_44 : decode cX4_suitableSet 44 = .ok (.iload_n 2, 1) := by decide +kernel
theorem dX4_suitableSet_45 : decode cX4_suitableSet 45 = .ok (.iconst (-1), 1) := by decide +kernel
theorem dX4_suitableSet_46 : decode cX4_suitableSet 46 = .ok (.ixor, 1) := by decide +kernel
theorem dX4_suitableSet_47 : decode cX4_suitableSet 47 = .ok (.iand, 1) := by decide +kernel
theorem dX4_suitableSet_48 : decode cX4_suitableSet 48 = .ok (.ireturn, 1) := by decide +kernel
theorem dX4_suitableSet_49 : decode cX4_suitableSet 49 = .ok (.iload_n 2, 1) := by decide +kernel
theorem dX4_suitableSet_50 : decode cX4_suitableSet 50 = .ok (.ireturn, 1) := by decide +kernel
theorem dX4_suitableSet_51 : decode cX4_suitableSet 51 = .ok (.iload_n 2, 1) := by decide +kernel
theorem dX4_suitableSet_52 : decode cX4_suitableSet 52 = .ok (.aload_n 0, 1) := by decide +kernel
theorem dX4_suitableSet_53 : decode cX4_suitableSet 53 = .ok (.invokevirtual 54, 3) := by decide +kernel
theorem dX4_suitableSet_56 : decode cX4_suitableSet 56 = .ok (.iconst (-1), 1) := by decide +kernel
theorem dX4_suitableSet_57 : decode cX4_suitableSet 57 = .ok (.ixor, 1) := by decide +kernel
theorem dX4_suitableSet_58 : decode cX4_suitableSet 58 = .ok (.iand, 1) := by decide +kernel
theorem dX4_suitableSet_59 : decode cX4_suitableSet 59 = .ok (.ireturn, 1) := by decide +kernel
theorem dX4_suitableSet_60 : decode cX4_suitableSet 60 = .ok (.aload_n 0, 1) := by decide +kernel
theorem dX4_suitableSet_61 : decode cX4_suitableSet 61 = .ok (.invokevirtual 50, 3) := by decide +kernel
theorem dX4_suitableSet_64 : decode cX4_suitableSet 64 = .ok (.aload_n 0, 1) := by decide +kernel
theorem dX4_suitableSet_65 : decode cX4_suitableSet 65 = .ok (.invokevirtual 54, 3) := by decide +kernel
theorem dX4_suitableSet_68 : decode cX4_suitableSet 68 = .ok (.iand, 1) := by decide +kernel
theorem dX4_suitableSet_69 : decode cX4_suitableSet 69 = .ok (.aload_n 0, 1) := by decide +kernel
theorem dX4_suitableSet_70 : decode cX4_suitableSet 70 = .ok (.getfield 28, 3) := by decide +kernel
theorem dX4_suitableSet_73 : decode cX4_suitableSet 73 = .ok (.iconst (-1), 1) := by decide +kernel
theorem dX4_suitableSet_74 : decode cX4_suitableSet 74 = .ok (.ixor, 1) := by decide +kernel
theorem dX4_suitableSet_75 : decode cX4_suitableSet 75 = .ok (.iand, 1) := by decide +kernel
theorem dX4_suitableSet_76 : decode cX4_suitableSet 76 = .ok (.ireturn, 1) := by decide +kernel
theorem dX4_suitableSet_77 : decode cX4_suitableSet 77 = .ok (.aload_n 0, 1) := by decide +kernel
theorem dX4_suitableSet_78 : decode cX4_suitableSet 78 = .ok (.invokevirtual 50, 3) := by decide +kernel
theorem dX4_suitableSet_81 : decode cX4_suitableSet 81 = .ok (.aload_n 0, 1) := by decide +kernel
theorem dX4_suitableSet_82 : decode cX4_suitableSet 82 = .ok (.getfield 28, 3) := by decide +kernel
theorem dX4_suitableSet_85 : decode cX4_suitableSet 85 = .ok (.iand, 1) := by decide +kernel
theorem dX4_suitableSet_86 : decode cX4_suitableSet 86 = .ok (.ireturn, 1) := by decide +kernel
theorem dX4_suitableSet_87 : decode cX4_suitableSet 87 = .ok (.iconst 0, 1) := by decide +kernel
theorem dX4_suitableSet_88 : decode cX4_suitableSet 88 = .ok (.ireturn, 1) := by decide +kernel
set_option maxRecDepth 20000 in
theorem ggX4_containerSet_X4_fittingSet : GoodIn wsX4_containerSet wsX4_fittingSet := goodIn_r _ [5, 6, 7, 8, 9, 10, 11, 12, 13, 14] (by decide +kernel) (by decide +kernel)
set_option maxRecDepth 20000 in
theorem gX4_containerSet_X4_fittingSet : GoodIn wsX4_containerSet (wsV RX4 57 RX4 yX4_fittingSet wsX4_fittingSet) := goodIn_app (goodIn_of _ (by decide +kernel)) ggX4_containerSet_X4_fittingSet
theorem dX4_containerSet_0 : decode cX4_containerSet 0 = .ok (.aload_n 0, 1) := by decide +kernel
theorem dX4_containerSet_1 : decode cX4_containerSet 1 = .ok (.iconst 1, 1) := by decide +kernel
theorem dX4_containerSet_2 : decode cX4_containerSet 2 = .ok (.iconst (-1), 1) := by decide +kernel
theorem dX4_containerSet_3 : decode cX4_containerSet 3 = .ok (.invokevirtual 57, 3) := by decide +kernel
theorem dX4_containerSet_6 : decode cX4_containerSet 6 = .ok (.aload_n 0, 1) := by decide +kernel
theorem dX4_containerSet_7 : decode cX4_containerSet 7 = .ok (.iconst 5, 1) := by decide +kernel
theorem dX4_containerSet_8 : decode cX4_containerSet 8 = .ok (.iconst (-1), 1) := by decide +kernel
theorem dX4_containerSet_9 : decode cX4_containerSet 9 = .ok (.invokevirtual 57, 3) := by decide +kernel
theorem dX4_containerSet_12 : decode cX4_containerSet 12 = .ok (.ior, 1) := by decide +kernel
theorem dX4_containerSet_13 : decode cX4_containerSet 13 = .ok (.ireturn, 1) := by decide +kernel
theorem dX4_fittingSet_0 : decode cX4_fittingSet 0 = .ok (.iconst 0, 1) := by decide +kernel
theorem dX4_fittingSet_1 : decode cX4_fittingSet 1 = .ok (.istore_n 3, 1) := by decide +kernel
theorem dX4_fittingSet_2 : decode cX4_fittingSet 2 = .ok (.iconst 0, 1) := by decide +kernel
theorem dX4_fittingSet_3 : decode cX4_fittingSet 3 = .ok (.istore 4, 2) := by decide +kernel
theorem dX4_fittingSet_5 : decode cX4_fittingSet 5 = .ok (.iload 4, 2) := by decide +kernel
theorem dX4_fittingSet_7 : decode cX4_fittingSet 7 = .ok (.aload_n 0, 1) := by decide +kernel
theorem dX4_fittingSet_8 : decode cX4_fittingSet 8 = .ok (.getfield 21, 3) := by decide +kernel
theorem dX4_fittingSet_11 : decode cX4_fittingSet 11 = .ok (.if_icmp .ge 55, 3) := by decide +kernel
theorem dX4_fittingSet_14 : decode cX4_fittingSet 14 = .ok (.iload 4, 2) := by decide +kernel
theorem dX4_fittingSet_16 : decode cX4_fittingSet 16 = .ok (.bipush 12, 2) := by decide +kernel
theorem dX4_fittingSet_18 : decode cX4_fittingSet 18 = .ok (.if_icmp .ge 48, 3) := by decide +kernel
theorem dX4_fittingSet_21 : decode cX4_fittingSet 21 = .ok (.iload_n 1, 1) := by decide +kernel
theorem dX4_fittingSet_22 : decode cX4_fittingSet 22 = .ok (.iconst (-1), 1) := by decide +kernel
theorem dX4_fittingSet_23 : decode cX4_fittingSet 23 = .ok (.if_icmp .eq 14, 3) := by decide +kernel
theorem dX4_fittingSet_26 : decode cX4_fittingSet 26 = .ok (.aload_n 0, 1) := by decide +kernel
theorem dX4_fittingSet_27 : decode cX4_fittingSet 27 = .ok (.getfield 9, 3) := by decide +kernel
theorem dX4_fittingSet_30 : decode cX4_fittingSet 30 = .ok (.iload 4, 2) := by decide +kernel
theorem dX4_fittingSet_32 : decode cX4_fittingSet 32 = .ok (.iaload, 1) := by decide +kernel
theorem dX4_fittingSet_33 : decode cX4_fittingSet 33 = .ok (.iload_n 1, 1) := by decide +kernel
theorem dX4_fittingSet_34 : decode cX4_fittingSet 34 = .ok (.if_icmp .ne 26, 3) := by decide +kernel
theorem dX4_fittingSet_37 : decode cX4_fittingSet 37 = .ok (.iload_n 2, 1) := by decide +kernel
theorem dX4_fittingSet_38 : decode cX4_fittingSet 38 = .ok (.iconst (-1), 1) := by decide +kernel
theorem dX4_fittingSet_39 : decode cX4_fittingSet 39 = .ok (.if_icmp .eq 14, 3) := by decide +kernel
theorem dX4_fittingSet_42 : decode cX4_fittingSet 42 = .ok (.aload_n 0, 1) := by decide +kernel
theorem dX4_fittingSet_43 : decode cX4_fittingSet 43 = .ok (.getfield 15, 3) := by decide +kernel
theorem dX4_fittingSet_46 : decode cX4_fittingSet 46 = .ok (.iload 4, 2) := by decide +kernel
theorem dX4_fittingSet_48 : decode cX4_fittingSet 48 = .ok (.iaload, 1) := by decide +kernel
theorem dX4_fittingSet_49 : decode cX4_fittingSet 49 = .ok (.iload_n 2, 1) := by decide +kernel
theorem dX4_fittingSet_50 : decode cX4_fittingSet 50 = .ok (.if_icmp .ne 10, 3) := by decide +kernel
theorem dX4_fittingSet_53 : decode cX4_fittingSet 53 = .ok (.iload_n 3, 1) := by decide +kernel
theorem dX4_fittingSet_54 : decode cX4_fittingSet 54 = .ok (.iconst 1, 1) := by decide +kernel
theorem dX4_fittingSet_55 : decode cX4_fittingSet 55 = .ok (.iload 4, 2) := by decide +kernel
theorem dX4_fittingSet_57 : decode cX4_fittingSet 57 = .ok (.ishl, 1) := by decide +kernel
theorem dX4_fittingSet_58 : decode cX4_fittingSet 58 = .ok (.ior, 1) := by decide +kernel
theorem dX4_fittingSet_59 : decode cX4_fittingSet 59 = .ok (.istore_n 3, 1) := by decide +kernel
theorem dX4_fittingSet_60 : decode cX4_fittingSet 60 = .ok (.iinc 4 1, 3) := by decide +kernel
theorem dX4_fittingSet_63 : decode cX4_fittingSet 63 = .ok (.goto (-58), 3) := by decide +kernel
theorem dX4_fittingSet_66 : decode cX4_fittingSet 66 = .ok (.iload_n 3, 1) := by decide +kernel
theorem dX4_fittingSet_67 : decode cX4_fittingSet 67 = .ok (.ireturn, 1) := by decide +kernel
set_option maxRecDepth 20000 in
theorem ggX4_apply_X4_destination : GoodIn wsX4_apply wsX4_destination := goodIn_r _ [7, 8, 32, 33, 34, 35, 36, 37] (by decide +kernel) (by decide +kernel)
set_option maxRecDepth 20000 in
theorem gX4_apply_X4_destination : GoodIn wsX4_apply (wsV RX4 61 RX4 yX4_destination wsX4_destination) := goodIn_app (goodIn_of _ (by decide +kernel)) ggX4_apply_X4_destination
set_option maxRecDepth 20000 in
theorem ggX4_apply_X4_exists : GoodIn wsX4_apply wsX4_exists := goodIn_r _ [12, 13, 32, 33, 34, 35, 36, 37] (by decide +kernel) (by decide +kernel)
set_option maxRecDepth 20000 in
theorem gX4_apply_X4_exists : GoodIn wsX4_apply (wsV RX4 35 RX4 yX4_exists wsX4_exists) := goodIn_app (goodIn_of _ (by decide +kernel)) ggX4_apply_X4_exists
set_option maxRecDepth 20000 in
theorem ggX4_apply_X4_isFull : GoodIn wsX4_apply wsX4_isFull := goodIn_r _ [17, 18, 19, 20, 21, 22, 23, 6, 24, 13, 2, 25, 26, 27, 28, 29, 30, 31, 32, 33, 34, 35, 36, 37] (by decide +kernel) (by decide +kernel)
set_option maxRecDepth 20000 in
theorem gX4_apply_X4_isFull : GoodIn wsX4_apply (wsV RX4 64 RX4 yX4_isFull wsX4_isFull) := goodIn_app (goodIn_of _ (by decide +kernel)) ggX4_apply_X4_isFull
theorem dX4_apply_0 : decode cX4_apply 0 = .ok (.iload_n 1, 1) := by decide +kernel
theorem dX4_apply_1 : decode cX4_apply 1 = .ok (.iconst 3, 1) := by decide +kernel
theorem dX4_apply_2 : decode cX4_apply 2 = .ok (.if_icmp .ne 17, 3) := by decide +kernel
theorem dX4_apply_5 : decode cX4_apply 5 = .ok (.aload_n 0, 1) := by decide +kernel
theorem dX4_apply_6 : decode cX4_apply 6 = .ok (.dup, 1) := by decide +kernel
theorem dX4_apply_7 : decode cX4_apply 7 = .ok (.getfield 28, 3) := by decide +kernel
theorem dX4_apply_10 : decode cX4_apply 10 = .ok (.iconst 1, 1) := by decide +kernel
theorem dX4_apply_11 : decode cX4_apply 11 = .ok (.iload_n 2, 1) := by decide +kernel
theorem dX4_apply_12 : decode cX4_apply 12 = .ok (.ishl, 1) := by decide +kernel
theorem dX4_apply_13 : decode cX4_apply 13 = .ok (.ior, 1) := by decide +kernel
theorem dX4_apply_14 : decode cX4_apply 14 = .ok (.putfield 28, 3) := by decide +kernel
theorem dX4_apply_17 : decode cX4_apply 17 = .ok (.iconst 1, 1) := by decide +kernel
theorem dX4_apply_18 : decode cX4_apply 18 = .ok (.ireturn, 1) := by decide +kernel
theorem dX4_apply_19 : decode cX4_apply 19 = .ok (.iload_n 1, 1) := by decide +kernel
theorem dX4_apply_20 : decode cX4_apply 20 = .ok (.iconst 4, 1) := by decide +kernel
theorem dX4_apply_21 : decode cX4_apply 21 = .ok (.if_icmp .ne 19, 3) := by decide +kernel
theorem dX4_apply_24 : decode cX4_apply 24 = .ok (.aload_n 0, 1) := by decide +kernel
theorem dX4_apply_25 : decode cX4_apply 25 = .ok (.dup, 1) := by decide +kernel
theorem dX4_apply_26 : decode cX4_apply 26 = .ok (.getfield 28, 3) := by decide +kernel
theorem dX4_apply_29 : decode cX4_apply 29 = .ok (.iconst 1, 1) := by decide +kernel
theorem dX4_apply_30 : decode cX4_apply 30 = .ok (.iload_n 2, 1) := by decide +kernel
theorem dX4_apply_31 : decode cX4_apply 31 = .ok (.ishl, 1) := by decide +kernel
theorem dX4_apply_32 : decode cX4_apply 32 = .ok (.iconst (-1), 1) := by decide +kernel
theorem dX4_apply_33 : decode cX4_apply 33 = .ok (.ixor, 1) := by decide +kernel
theorem dX4_apply_34 : decode cX4_apply 34 = .ok (.iand, 1) := by decide +kernel
theorem dX4_apply_35 : decode cX4_apply 35 = .ok (.putfield 28, 3) := by decide +kernel
theorem dX4_apply_38 : decode cX4_apply 38 = .ok (.iconst 1, 1) := by decide +kernel
theorem dX4_apply_39 : decode cX4_apply 39 = .ok (.ireturn, 1) := by decide +kernel
theorem dX4_apply_40 : decode cX4_apply 40 = .ok (.aload_n 0, 1) := by decide +kernel
theorem dX4_apply_41 : decode cX4_apply 41 = .ok (.iload_n 1, 1) := by decide +kernel
theorem dX4_apply_42 : decode cX4_apply 42 = .ok (.iload_n 3, 1) := by decide +kernel
theorem dX4_apply_43 : decode cX4_apply 43 = .ok (.invokevirtual 61, 3) := by decide +kernel
theorem dX4_apply_46 : decode cX4_apply 46 = .ok (.istore 4, 2) := by decide +kernel
theorem dX4_apply_48 : decode cX4_apply 48 = .ok (.aload_n 0, 1) := by decide +kernel
theorem dX4_apply_49 : decode cX4_apply 49 = .ok (.iload_n 2, 1) := by decide +kernel
theorem dX4_apply_50 : decode cX4_apply 50 = .ok (.invokevirtual 35, 3) := by decide +kernel
theorem dX4_apply_53 : decode cX4_apply 53 = .ok (.ifCond .eq 12, 3) := by decide +kernel
theorem dX4_apply_56 : decode cX4_apply 56 = .ok (.aload_n 0, 1) := by decide +kernel
theorem dX4_apply_57 : decode cX4_apply 57 = .ok (.iload 4, 2) := by decide +kernel
theorem dX4_apply_59 : decode cX4_apply 59 = .ok (.invokevirtual 64, 3) := by decide +kernel
theorem dX4_apply_62 : decode cX4_apply 62 = .ok (.ifCond .eq 5, 3) := by decide +kernel
theorem dX4_apply_65 : decode cX4_apply 65 = .ok (.iconst 0, 1) := by decide +kernel
theorem dX4_apply_66 : decode cX4_apply 66 = .ok (.ireturn, 1) := by decide +kernel
theorem dX4_apply_67 : decode cX4_apply 67 = .ok (.aload_n 0, 1) := by decide +kernel
theorem dX4_apply_68 : decode cX4_apply 68 = .ok (.getfield 18, 3) := by decide +kernel
theorem dX4_apply_71 : decode cX4_apply 71 = .ok (.iload_n 2, 1) := by decide +kernel
theorem dX4_apply_72 : decode cX4_apply 72 = .ok (.iload 4, 2) := by decide +kernel
theorem dX4_apply_74 : decode cX4_apply 74 = .ok (.iastore, 1) := by decide +kernel
theorem dX4_apply_75 : decode cX4_apply 75 = .ok (.iconst 1, 1) := by decide +kernel
theorem dX4_apply_76 : decode cX4_apply 76 = .ok (.ireturn, 1) := by decide +kernel
theorem dX4_destination_0 : decode cX4_destination 0 = .ok (.iload_n 1, 1) := by decide +kernel
theorem dX4_destination_1 : decode cX4_destination 1 = .ok (.ifCond .ne 5, 3) := by decide +kernel
theorem dX4_destination_4 : decode cX4_destination 4 = .ok (.iconst 4, 1) := by decide +kernel
theorem dX4_destination_5 : decode cX4_destination 5 = .ok (.ireturn, 1) := by decide +kernel
theorem dX4_destination_6 : decode cX4_destination 6 = .ok (.iload_n 1, 1) := by decide +kernel
theorem dX4_destination_7 : decode cX4_destination 7 = .ok (.iconst 1, 1) := by decide +kernel
theorem dX4_destination_8 : decode cX4_destination 8 = .ok (.if_icmp .ne 10, 3) := by decide +kernel
theorem dX4_destination_11 : decode cX4_destination 11 = .ok (.aload_n 0, 1) := by decide +kernel
theorem dX4_destination_12 : decode cX4_destination 12 = .ok (.getfield 25, 3) := by decide +kernel
theorem dX4_destination_15 : decode cX4_destination 15 = .ok (.goto 4, 3) := by decide +kernel
theorem dX4_destination_18 : decode cX4_destination 18 = .ok (.iload_n 2, 1) := by decide +kernel
theorem dX4_destination_19 : decode cX4_destination 19 = .ok (.ireturn, 1) := by decide +kernel
set_option maxRecDepth 20000 in
theorem ggX4_walk_X5_isRoom : GoodIn wsX4_walk wsX5_isRoom := goodIn_r _ [4] (by decide +kernel) (by decide +kernel)
set_option maxRecDepth 20000 in
theorem gX4_walk_X5_isRoom_n31 : GoodIn wsX4_walk (wsX5_isRoom) := ggX4_walk_X5_isRoom
theorem dX4_walk_0 : decode cX4_walk 0 = .ok (.aload_n 0, 1) := by decide +kernel
theorem dX4_walk_1 : decode cX4_walk 1 = .ok (.getfield 25, 3) := by decide +kernel
theorem dX4_walk_4 : decode cX4_walk 4 = .ok (.iload_n 1, 1) := by decide +kernel
theorem dX4_walk_5 : decode cX4_walk 5 = .ok (.iadd, 1) := by decide +kernel
theorem dX4_walk_6 : decode cX4_walk 6 = .ok (.invokestatic 31, 3) := by decide +kernel
theorem dX4_walk_9 : decode cX4_walk 9 = .ok (.ifCond .ne 5, 3) := by decide +kernel
theorem dX4_walk_12 : decode cX4_walk 12 = .ok (.iconst 0, 1) := by decide +kernel
theorem dX4_walk_13 : decode cX4_walk 13 = .ok (.ireturn, 1) := by decide +kernel
theorem dX4_walk_14 : decode cX4_walk 14 = .ok (.aload_n 0, 1) := by decide +kernel
theorem dX4_walk_15 : decode cX4_walk 15 = .ok (.dup, 1) := by decide +kernel
theorem dX4_walk_16 : decode cX4_walk 16 = .ok (.getfield 25, 3) := by decide +kernel
theorem dX4_walk_19 : decode cX4_walk 19 = .ok (.iload_n 1, 1) := by decide +kernel
theorem dX4_walk_20 : decode cX4_walk 20 = .ok (.iadd, 1) := by decide +kernel
theorem dX4_walk_21 : decode cX4_walk 21 = .ok (.putfield 25, 3) := by decide +kernel
theorem dX4_walk_24 : decode cX4_walk 24 = .ok (.iconst 1, 1) := by decide +kernel
theorem dX4_walk_25 : decode cX4_walk 25 = .ok (.ireturn, 1) := by decide +kernel
set_option maxRecDepth 20000 in
theorem ggX5_init_X0_init : GoodIn wsX5_init wsX0_init := goodIn_r _ [19, 20, 2, 3, 21, 22, 55, 56] (by decide +kernel) (by decide +kernel)
set_option maxRecDepth 20000 in
theorem gX5_init_X0_init_n11 : GoodIn wsX5_init (wsX0_init) := ggX5_init_X0_init
set_option maxRecDepth 20000 in
theorem ggX5_init_X2_init : GoodIn wsX5_init wsX2_init := goodIn_r _ [24, 25, 2, 3, 26, 27, 28, 29, 30, 31, 32, 33, 34, 35, 36, 37, 76, 77, 78, 79, 80, 81, 82, 83, 64, 65, 66] (by decide +kernel) (by decide +kernel)
set_option maxRecDepth 20000 in
theorem gX5_init_X2_init_n18 : GoodIn wsX5_init (wsX2_init) := ggX5_init_X2_init
set_option maxRecDepth 20000 in
theorem ggX5_init_X3_init : GoodIn wsX5_init wsX3_init := goodIn_r _ [39, 40, 2, 3, 41, 42, 43, 44, 45, 27, 28, 46, 47, 48, 49, 50, 51, 33, 52, 53, 54, 30, 31, 32, 34, 35, 36, 37, 84, 85, 86, 87, 88, 89, 67, 68, 69, 70, 71, 72, 73, 74, 75, 76, 77, 78, 79, 80, 81, 82, 83] (by decide +kernel) (by decide +kernel)
set_option maxRecDepth 20000 in
theorem gX5_init_X3_init_n25 : GoodIn wsX5_init (wsX3_init) := ggX5_init_X3_init
theorem dX5_init_0 : decode cX5_init 0 = .ok (.aload_n 0, 1) := by decide +kernel
theorem dX5_init_1 : decode cX5_init 1 = .ok (.invokespecial 3, 3) := by decide +kernel
theorem dX5_init_4 : decode cX5_init 4 = .ok (.aload_n 0, 1) := by decide +kernel
theorem dX5_init_5 : decode cX5_init 5 = .ok (.new 9, 3) := by decide +kernel
theorem dX5_init_8 : decode cX5_init 8 = .ok (.dup, 1) := by decide +kernel
theorem dX5_init_9 : decode cX5_init 9 = .ok (.invokespecial 11, 3) := by decide +kernel
theorem dX5_init_12 : decode cX5_init 12 = .ok (.putfield 12, 3) := by decide +kernel
theorem dX5_init_15 : decode cX5_init 15 = .ok (.aload_n 0, 1) := by decide +kernel
theorem dX5_init_16 : decode cX5_init 16 = .ok (.new 16, 3) := by decide +kernel
theorem dX5_init_19 : decode cX5_init 19 = .ok (.dup, 1) := by decide +kernel
theorem dX5_init_20 : decode cX5_init 20 = .ok (.invokespecial 18, 3) := by decide +kernel
theorem dX5_init_23 : decode cX5_init 23 = .ok (.putfield 19, 3) := by decide +kernel
theorem dX5_init_26 : decode cX5_init 26 = .ok (.aload_n 0, 1) := by decide +kernel
theorem dX5_init_27 : decode cX5_init 27 = .ok (.new 23, 3) := by decide +kernel
theorem dX5_init_30 : decode cX5_init 30 = .ok (.dup, 1) := by decide +kernel
theorem dX5_init_31 : decode cX5_init 31 = .ok (.invokespecial 25, 3) := by decide +kernel
theorem dX5_init_34 : decode cX5_init 34 = .ok (.putfield 26, 3) := by decide +kernel
theorem dX5_init_37 : decode cX5_init 37 = .ok (.aload_n 0, 1) := by decide +kernel
theorem dX5_init_38 : decode cX5_init 38 = .ok (.new 23, 3) := by decide +kernel
theorem dX5_init_41 : decode cX5_init 41 = .ok (.dup, 1) := by decide +kernel
theorem dX5_init_42 : decode cX5_init 42 = .ok (.invokespecial 25, 3) := by decide +kernel
theorem dX5_init_45 : decode cX5_init 45 = .ok (.putfield 30, 3) := by decide +kernel
theorem dX5_init_48 : decode cX5_init 48 = .ok (.aload_n 0, 1) := by decide +kernel
theorem dX5_init_49 : decode cX5_init 49 = .ok (.bipush 6, 2) := by decide +kernel
theorem dX5_init_51 : decode cX5_init 51 = .ok (.anewarray 23, 3) := by decide +kernel
theorem dX5_init_54 : decode cX5_init 54 = .ok (.putfield 33, 3) := by decide +kernel
theorem dX5_init_57 : decode cX5_init 57 = .ok (.iconst 0, 1) := by decide +kernel
theorem dX5_init_58 : decode cX5_init 58 = .ok (.istore_n 1, 1) := by decide +kernel
theorem dX5_init_59 : decode cX5_init 59 = .ok (.iload_n 1, 1) := by decide +kernel
theorem dX5_init_60 : decode cX5_init 60 = .ok (.aload_n 0, 1) := by decide +kernel
theorem dX5_init_61 : decode cX5_init 61 = .ok (.getfield 33, 3) := by decide +kernel
theorem dX5_init_64 : decode cX5_init 64 = .ok (.arraylength, 1) := by decide +kernel
theorem dX5_init_65 : decode cX5_init 65 = .ok (.if_icmp .ge 22, 3) := by decide +kernel
theorem dX5_init_68 : decode cX5_init 68 = .ok (.aload_n 0, 1) := by decide +kernel
theorem dX5_init_69 : decode cX5_init 69 = .ok (.getfield 33, 3) := by decide +kernel
theorem dX5_init_72 : decode cX5_init 72 = .ok (.iload_n 1, 1) := by decide +kernel
theorem dX5_init_73 : decode cX5_init 73 = .ok (.new 23, 3) := by decide +kernel
theorem dX5_init_76 : decode cX5_init 76 = .ok (.dup, 1) := by decide +kernel
theorem dX5_init_77 : decode cX5_init 77 = .ok (.invokespecial 25, 3) := by decide +kernel
theorem dX5_init_80 : decode cX5_init 80 = .ok (.aastore, 1) := by decide +kernel
theorem dX5_init_81 : decode cX5_init 81 = .ok (.iinc 1 1, 3) := by decide +kernel
theorem dX5_init_84 : decode cX5_init 84 = .ok (.goto (-25), 3) := by decide +kernel
theorem dX5_init_87 : decode cX5_init 87 = .ok (.return_, 1) := by decide +kernel
set_option maxRecDepth 20000 in
theorem ggX5_addObject_X5_isNoun : GoodIn wsX5_addObject wsX5_isNoun := goodIn_r _ [11] (by decide +kernel) (by decide +kernel)
set_option maxRecDepth 20000 in
theorem gX5_addObject_X5_isNoun : GoodIn wsX5_addObject (va_wsS RX5 41 yX5_isNoun wsX5_isNoun) := goodIn_app (goodIn_of _ (by decide +kernel)) ggX5_addObject_X5_isNoun
set_option maxRecDepth 20000 in
theorem ggX5_addObject_X5_isAdjective : GoodIn wsX5_addObject wsX5_isAdjective := goodIn_r _ [14] (by decide +kernel) (by decide +kernel)
set_option maxRecDepth 20000 in
theorem gX5_addObject_X5_isAdjective : GoodIn wsX5_addObject (va_wsS RX5 45 yX5_isAdjective wsX5_isAdjective) := goodIn_app (goodIn_of _ (by decide +kernel)) ggX5_addObject_X5_isAdjective
set_option maxRecDepth 20000 in
theorem ggX5_addObject_X4_hasPlace : GoodIn wsX5_addObject wsX4_hasPlace := goodIn_r _ [19, 20, 21, 10, 22, 23, 24, 25, 18, 26, 27, 28, 29, 120, 121, 122, 123, 124, 125] (by decide +kernel) (by decide +kernel)
set_option maxRecDepth 20000 in
theorem gX5_addObject_X4_hasPlace : GoodIn wsX5_addObject (wsV RX5 48 RX4 yX4_hasPlace wsX4_hasPlace) := goodIn_app (goodIn_of _ (by decide +kernel)) ggX5_addObject_X4_hasPlace
set_option maxRecDepth 20000 in
theorem ggX5_addObject_X5_isContainerNoun : GoodIn wsX5_addObject wsX5_isContainerNoun := goodIn_r _ [29] (by decide +kernel) (by decide +kernel)
set_option maxRecDepth 20000 in
theorem gX5_addObject_X5_isContainerNoun : GoodIn wsX5_addObject (va_wsS RX5 56 yX5_isContainerNoun wsX5_isContainerNoun) := goodIn_app (goodIn_of _ (by decide +kernel)) ggX5_addObject_X5_isContainerNoun
set_option maxRecDepth 20000 in
theorem ggX5_addObject_X4_isFull : GoodIn wsX5_addObject wsX4_isFull := goodIn_r _ [34, 21, 10, 22, 35, 36, 37, 18, 38, 27, 39, 40, 41, 42, 43, 44, 45, 46, 120, 121, 122, 123, 124, 125] (by decide +kernel) (by decide +kernel)
set_option maxRecDepth 20000 in
theorem gX5_addObject_X4_isFull : GoodIn wsX5_addObject (wsV RX5 63 RX4 yX4_isFull wsX4_isFull) := goodIn_app (goodIn_of _ (by decide +kernel)) ggX5_addObject_X4_isFull
set_option maxRecDepth 20000 in
theorem ggX5_addObject_X4_fittingSet : GoodIn wsX5_addObject wsX4_fittingSet := goodIn_r _ [50, 27, 20, 51, 120, 121, 122, 123, 124, 125] (by decide +kernel) (by decide +kernel)
set_option maxRecDepth 20000 in
theorem gX5_addObject_X4_fittingSet : GoodIn wsX5_addObject (wsV RX5 66 RX4 yX4_fittingSet wsX4_fittingSet) := goodIn_app (goodIn_of _ (by decide +kernel)) ggX5_addObject_X4_fittingSet
set_option maxRecDepth 20000 in
theorem ggX5_addObject_X5_save : GoodIn wsX5_addObject wsX5_save := goodIn_r _ [55, 56, 57, 5, 58, 59, 60, 61, 10, 62, 63, 64, 65, 66, 67, 68, 69, 70, 71, 72, 73, 74, 75, 76, 77, 78, 79, 18, 80, 20, 51, 39, 27, 81, 82, 83, 84, 85, 86, 87, 88, 89, 90, 91, 92, 93, 94, 95, 104, 105, 106, 107, 108, 109, 110, 111, 112, 113, 114, 115, 116, 117, 118, 119, 120, 121, 122, 123, 124, 125, 126, 127, 128, 129, 130, 131, 132, 133] (by decide +kernel) (by decide +kernel)
set_option maxRecDepth 20000 in
theorem gX5_addObject_X5_save : GoodIn wsX5_addObject (wsV RX5 73 RX5 yX5_save wsX5_save) := goodIn_app (goodIn_of _ (by decide +kernel)) ggX5_addObject_X5_save
set_option maxRecDepth 20000 in
theorem ggX5_addObject_X3_closeQuestion : GoodIn wsX5_addObject wsX3_closeQuestion := goodIn_r _ [99, 76, 75, 111, 112, 113, 114, 115, 116, 117, 118, 119] (by decide +kernel) (by decide +kernel)
set_option maxRecDepth 20000 in
theorem gX5_addObject_X3_closeQuestion : GoodIn wsX5_addObject (wsV RX5 76 RX3 yX3_closeQuestion wsX3_closeQuestion) := goodIn_app (goodIn_of _ (by decide +kernel)) ggX5_addObject_X3_closeQuestion
set_option maxRecDepth 20000 in
theorem ggX5_addObject_X4_add : GoodIn wsX5_addObject wsX4_add := goodIn_r _ [103, 27, 20, 51, 39, 120, 121, 122, 123, 124, 125] (by decide +kernel) (by decide +kernel)
set_option maxRecDepth 20000 in
theorem gX5_addObject_X4_add : GoodIn wsX5_addObject (wsV RX5 79 RX4 yX4_add wsX4_add) := goodIn_app (goodIn_of _ (by decide +kernel)) ggX5_addObject_X4_add
theorem dX5_addObject_0 : decode cX5_addObject 0 = .ok (.aload_n 0, 1) := by decide +kernel
theorem dX5_addObject_1 : decode cX5_addObject 1 = .ok (.getfield 26, 3) := by decide +kernel
theorem dX5_addObject_4 : decode cX5_addObject 4 = .ok (.getfield 37, 3) := by decide +kernel
theorem dX5_addObject_7 : decode cX5_addObject 7 = .ok (.astore 4, 2) := by decide +kernel
theorem dX5_addObject_9 : decode cX5_addObject 9 = .ok (.iload_n 1, 1) := by decide +kernel
theorem dX5_addObject_10 : decode cX5_addObject 10 = .ok (.invokestatic 41, 3) := by decide +kernel
theorem dX5_addObject_13 : decode cX5_addObject 13 = .ok (.ifCond .eq 19, 3) := by decide +kernel
theorem dX5_addObject_16 : decode cX5_addObject 16 = .ok (.iload_n 2, 1) := by decide +kernel
theorem dX5_addObject_17 : decode cX5_addObject 17 = .ok (.invokestatic 45, 3) := by decide +kernel
theorem dX5_addObject_20 : decode cX5_addObject 20 = .ok (.ifCond .eq 12, 3) := by decide +kernel
theorem dX5_addObject_23 : decode cX5_addObject 23 = .ok (.aload 4, 2) := by decide +kernel
theorem dX5_addObject_25 : decode cX5_addObject 25 = .ok (.iload_n 3, 1) := by decide +kernel
theorem dX5_addObject_26 : decode cX5_addObject 26 = .ok (.invokevirtual 48, 3) := by decide +kernel
theorem dX5_addObject_29 : decode cX5_addObject 29 = .ok (.ifCond .ne 11, 3) := by decide +kernel
theorem dX5_addObject_32 : decode cX5_addObject 32 = .ok (.new 53, 3) := by decide +kernel
theorem dX5_addObject_35 : decode cX5_addObject 35 = .ok (.dup, 1) := by decide +kernel
theorem dX5_addObject_36 : decode cX5_addObject 36 = .ok (.invokespecial 55, 3) := by decide +kernel
theorem dX5_addObject_39 : decode cX5_addObject 39 = .ok (.athrow, 1) := by decide +kernel
theorem dX5_addObject_40 : decode cX5_addObject 40 = .ok (.iload_n 1, 1) := by decide +kernel
theorem dX5_addObject_41 : decode cX5_addObject 41 = .ok (.invokestatic 56, 3) := by decide +kernel
theorem dX5_addObject_44 : decode cX5_addObject 44 = .ok (.ifCond .eq 16, 3) := by decide +kernel
theorem dX5_addObject_47 : decode cX5_addObject 47 = .ok (.iload_n 3, 1) := by decide +kernel
theorem dX5_addObject_48 : decode cX5_addObject 48 = .ok (.iconst 5, 1) := by decide +kernel
theorem dX5_addObject_49 : decode cX5_addObject 49 = .ok (.if_icmp .lt 11, 3) := by decide +kernel
theorem dX5_addObject_52 : decode cX5_addObject 52 = .ok (.new 53, 3) := by decide +kernel
theorem dX5_addObject_55 : decode cX5_addObject 55 = .ok (.dup, 1) := by decide +kernel
theorem dX5_addObject_56 : decode cX5_addObject 56 = .ok (.invokespecial 55, 3) := by decide +kernel
theorem dX5_addObject_59 : decode cX5_addObject 59 = .ok (.athrow, 1) := by decide +kernel
theorem dX5_addObject_60 : decode cX5_addObject 60 = .ok (.aload 4, 2) := by decide +kernel
theorem dX5_addObject_62 : decode cX5_addObject 62 = .ok (.getfield 59, 3) := by decide +kernel
theorem dX5_addObject_65 : decode cX5_addObject 65 = .ok (.bipush 12, 2) := by decide +kernel
theorem dX5_addObject_67 : decode cX5_addObject 67 = .ok (.if_icmp .ge 22, 3) := by decide +kernel
theorem dX5_addObject_70 : decode cX5_addObject 70 = .ok (.aload 4, 2) := by decide +kernel
theorem dX5_addObject_72 : decode cX5_addObject 72 = .ok (.iload_n 3, 1) := by decide +kernel
theorem dX5_addObject_73 : decode cX5_addObject 73 = .ok (.invokevirtual 63, 3) := by decide +kernel
theorem dX5_addObject_76 : decode cX5_addObject 76 = .ok (.ifCond .ne 13, 3) := by decide +kernel
theorem dX5_addObject_79 : decode cX5_addObject 79 = .ok (.aload 4, 2) := by decide +kernel
theorem dX5_addObject_81 : decode cX5_addObject 81 = .ok (.iload_n 1, 1) := by decide +kernel
theorem dX5_addObject_82 : decode cX5_addObject 82 = .ok (.iload_n 2, 1) := by decide +kernel
theorem dX5_addObject_83 : decode cX5_addObject 83 = .ok (.invokevirtual 66, 3) := by decide +kernel
theorem dX5_addObject_86 : decode cX5_addObject 86 = .ok (.ifCond .eq 11, 3) := by decide +kernel
theorem dX5_addObject_89 : decode cX5_addObject 89 = .ok (.new 70, 3) := by decide +kernel
theorem dX5_addObject_92 : decode cX5_addObject 92 = .ok (.dup, 1) := by decide +kernel
theorem dX5_addObject_93 : decode cX5_addObject 93 = .ok (.invokespecial 72, 3) := by decide +kernel
theorem dX5_addObject_96 : decode cX5_addObject 96 = .ok (.athrow, 1) := by decide +kernel
theorem dX5_addObject_97 : decode cX5_addObject 97 = .ok (.aload_n 0, 1) := by decide +kernel
theorem dX5_addObject_98 : decode cX5_addObject 98 = .ok (.invokevirtual 73, 3) := by decide +kernel
theorem dX5_addObject_101 : decode cX5_addObject 101 = .ok (.aload_n 0, 1) := by decide +kernel
theorem dX5_addObject_102 : decode cX5_addObject 102 = .ok (.getfield 26, 3) := by decide +kernel
theorem dX5_addObject_105 : decode cX5_addObject 105 = .ok (.invokevirtual 76, 3) := by decide +kernel
theorem dX5_addObject_108 : decode cX5_addObject 108 = .ok (.aload 4, 2) := by decide +kernel
theorem dX5_addObject_110 : decode cX5_addObject 110 = .ok (.iload_n 1, 1) := by decide +kernel
theorem dX5_addObject_111 : decode cX5_addObject 111 = .ok (.iload_n 2, 1) := by decide +kernel
theorem dX5_addObject_112 : decode cX5_addObject 112 = .ok (.iload_n 3, 1) := by decide +kernel
theorem dX5_addObject_113 : decode cX5_addObject 113 = .ok (.invokevirtual 79, 3) := by decide +kernel
theorem dX5_addObject_116 : decode cX5_addObject 116 = .ok (.ireturn, 1) := by decide +kernel
set_option maxRecDepth 20000 in
theorem ggX5_moveTo_X5_isRoom : GoodIn wsX5_moveTo wsX5_isRoom := goodIn_r _ [9] (by decide +kernel) (by decide +kernel)
set_option maxRecDepth 20000 in
theorem gX5_moveTo_X5_isRoom : GoodIn wsX5_moveTo (va_wsS RX5 83 yX5_isRoom wsX5_isRoom) := goodIn_app (goodIn_of _ (by decide +kernel)) ggX5_moveTo_X5_isRoom
set_option maxRecDepth 20000 in
theorem ggX5_moveTo_X5_save : GoodIn wsX5_moveTo wsX5_save := goodIn_r _ [13, 14, 15, 3, 16, 17, 18, 19, 8, 20, 21, 22, 23, 24, 25, 26, 27, 28, 29, 30, 31, 32, 33, 34, 35, 36, 37, 38, 39, 40, 41, 42, 43, 44, 45, 46, 47, 48, 49, 50, 51, 52, 53, 54, 55, 56, 57, 58, 63, 64, 65, 66, 67, 68, 69, 70, 71, 72, 73, 74, 75, 76, 77, 78, 79, 80, 81, 82, 83, 84, 85, 86, 87, 88, 89, 90, 91, 92] (by decide +kernel) (by decide +kernel)
set_option maxRecDepth 20000 in
theorem gX5_moveTo_X5_save : GoodIn wsX5_moveTo (wsV RX5 73 RX5 yX5_save wsX5_save) := goodIn_app (goodIn_of _ (by decide +kernel)) ggX5_moveTo_X5_save
set_option maxRecDepth 20000 in
theorem ggX5_moveTo_X3_closeQuestion : GoodIn wsX5_moveTo wsX3_closeQuestion := goodIn_r _ [62, 34, 33, 70, 71, 72, 73, 74, 75, 76, 77, 78] (by decide +kernel) (by decide +kernel)
set_option maxRecDepth 20000 in
theorem gX5_moveTo_X3_closeQuestion : GoodIn wsX5_moveTo (wsV RX5 76 RX3 yX3_closeQuestion wsX3_closeQuestion) := goodIn_app (goodIn_of _ (by decide +kernel)) ggX5_moveTo_X3_closeQuestion
theorem dX5_moveTo_0 : decode cX5_moveTo 0 = .ok (.iload_n 1, 1) := by decide +kernel
theorem dX5_moveTo_1 : decode cX5_moveTo 1 = .ok (.invokestatic 83, 3) := by decide +kernel
theorem dX5_moveTo_4 : decode cX5_moveTo 4 = .ok (.ifCond .ne 11, 3) := by decide +kernel
theorem dX5_moveTo_7 : decode cX5_moveTo 7 = .ok (.new 86, 3) := by decide +kernel
theorem dX5_moveTo_10 : decode cX5_moveTo 10 = .ok (.dup, 1) := by decide +kernel
theorem dX5_moveTo_11 : decode cX5_moveTo 11 = .ok (.invokespecial 88, 3) := by decide +kernel
theorem dX5_moveTo_14 : decode cX5_moveTo 14 = .ok (.athrow, 1) := by decide +kernel
theorem dX5_moveTo_15 : decode cX5_moveTo 15 = .ok (.aload_n 0, 1) := by decide +kernel
theorem dX5_moveTo_16 : decode cX5_moveTo 16 = .ok (.invokevirtual 73, 3) := by decide +kernel
theorem dX5_moveTo_19 : decode cX5_moveTo 19 = .ok (.aload_n 0, 1) := by decide +kernel
theorem dX5_moveTo_20 : decode cX5_moveTo 20 = .ok (.getfield 26, 3) := by decide +kernel
theorem dX5_moveTo_23 : decode cX5_moveTo 23 = .ok (.invokevirtual 76, 3) := by decide +kernel
theorem dX5_moveTo_26 : decode cX5_moveTo 26 = .ok (.aload_n 0, 1) := by decide +kernel
theorem dX5_moveTo_27 : decode cX5_moveTo 27 = .ok (.getfield 26, 3) := by decide +kernel
theorem dX5_moveTo_30 : decode cX5_moveTo 30 = .ok (.getfield 37, 3) := by decide +kernel
theorem dX5_moveTo_33 : decode cX5_moveTo 33 = .ok (.getfield 89, 3) := by decide +kernel
theorem dX5_moveTo_36 : decode cX5_moveTo 36 = .ok (.istore_n 2, 1) := by decide +kernel
theorem dX5_moveTo_37 : decode cX5_moveTo 37 = .ok (.aload_n 0, 1) := by decide +kernel
theorem dX5_moveTo_38 : decode cX5_moveTo 38 = .ok (.getfield 26, 3) := by decide +kernel
theorem dX5_moveTo_41 : decode cX5_moveTo 41 = .ok (.getfield 37, 3) := by decide +kernel
theorem dX5_moveTo_44 : decode cX5_moveTo 44 = .ok (.iload_n 1, 1) := by decide +kernel
theorem dX5_moveTo_45 : decode cX5_moveTo 45 = .ok (.putfield 89, 3) := by decide +kernel
theorem dX5_moveTo_48 : decode cX5_moveTo 48 = .ok (.iload_n 2, 1) := by decide +kernel
theorem dX5_moveTo_49 : decode cX5_moveTo 49 = .ok (.ireturn, 1) := by decide +kernel
theorem dX5_objects_0 : decode cX5_objects 0 = .ok (.aload_n 0, 1) := by decide +kernel
theorem dX5_objects_1 : decode cX5_objects 1 = .ok (.getfield 26, 3) := by decide +kernel
theorem dX5_objects_4 : decode cX5_objects 4 = .ok (.getfield 37, 3) := by decide +kernel
theorem dX5_objects_7 : decode cX5_objects 7 = .ok (.getfield 59, 3) := by decide +kernel
theorem dX5_objects_10 : decode cX5_objects 10 = .ok (.ireturn, 1) := by decide +kernel
set_option maxRecDepth 20000 in
theorem ggX5_noun_X4_exists : GoodIn wsX5_noun wsX4_exists := goodIn_r _ [10, 11, 28, 29, 30, 31, 32, 33] (by decide +kernel) (by decide +kernel)
set_option maxRecDepth 20000 in
theorem gX5_noun_X4_exists : GoodIn wsX5_noun (wsV RX5 92 RX4 yX4_exists wsX4_exists) := goodIn_app (goodIn_of _ (by decide +kernel)) ggX5_noun_X4_exists
theorem dX5_noun_0 : decode cX5_noun 0 = .ok (.aload_n 0, 1) := by decide +kernel
theorem dX5_noun_1 : decode cX5_noun 1 = .ok (.getfield 26, 3) := by decide +kernel
theorem dX5_noun_4 : decode cX5_noun 4 = .ok (.getfield 37, 3) := by decide +kernel
theorem dX5_noun_7 : decode cX5_noun 7 = .ok (.iload_n 1, 1) := by decide +kernel
theorem dX5_noun_8 : decode cX5_noun 8 = .ok (.invokevirtual 92, 3) := by decide +kernel
theorem dX5_noun_11 : decode cX5_noun 11 = .ok (.ifCond .ne 11, 3) := by decide +kernel
theorem dX5_noun_14 : decode cX5_noun 14 = .ok (.new 86, 3) := by decide +kernel
theorem dX5_noun_17 : decode cX5_noun 17 = .ok (.dup, 1) := by decide +kernel
theorem dX5_noun_18 : decode cX5_noun 18 = .ok (.invokespecial 88, 3) := by decide +kernel
theorem dX5_noun_21 : decode cX5_noun 21 = .ok (.athrow, 1) := by decide +kernel
theorem dX5_noun_22 : decode cX5_noun 22 = .ok (.aload_n 0, 1) := by decide +kernel
theorem dX5_noun_23 : decode cX5_noun 23 = .ok (.getfield 26, 3) := by decide +kernel
theorem dX5_noun_26 : decode cX5_noun 26 = .ok (.getfield 37, 3) := by decide +kernel
theorem dX5_noun_29 : decode cX5_noun 29 = .ok (.getfield 95, 3) := by decide +kernel
theorem dX5_noun_32 : decode cX5_noun 32 = .ok (.iload_n 1, 1) := by decide +kernel
theorem dX5_noun_33 : decode cX5_noun 33 = .ok (.iaload, 1) := by decide +kernel
theorem dX5_noun_34 : decode cX5_noun 34 = .ok (.ireturn, 1) := by decide +kernel
set_option maxRecDepth 20000 in
theorem ggX5_adjective_X4_exists : GoodIn wsX5_adjective wsX4_exists := goodIn_r _ [10, 11, 28, 29, 30, 31, 32, 33] (by decide +kernel) (by decide +kernel)
set_option maxRecDepth 20000 in
theorem gX5_adjective_X4_exists : GoodIn wsX5_adjective (wsV RX5 92 RX4 yX4_exists wsX4_exists) := goodIn_app (goodIn_of _ (by decide +kernel)) ggX5_adjective_X4_exists
theorem dX5_adjective_0 : decode cX5_adjective 0 = .ok (.aload_n 0, 1) := by decide +kernel
theorem dX5_adjective_1 : decode cX5_adjective 1 = .ok (.getfield 26, 3) := by decide +kernel
theorem dX5_adjective_4 : decode cX5_adjective 4 = .ok (.getfield 37, 3) := by decide +kernel
theorem dX5_adjective_7 : decode cX5_adjective 7 = .ok (.iload_n 1, 1) := by decide +kernel
theorem dX5_adjective_8 : decode cX5_adjective 8 = .ok (.invokevirtual 92, 3) := by decide +kernel
theorem dX5_adjective_11 : decode cX5_adjective 11 = .ok (.ifCond .ne 11, 3) := by decide +kernel
theorem dX5_adjective_14 : decode cX5_adjective 14 = .ok (.new 86, 3) := by decide +kernel
theorem dX5_adjective_17 : decode cX5_adjective 17 = .ok (.dup, 1) := by decide +kernel
theorem dX5_adjective_18 : decode cX5_adjective 18 = .ok (.invokespecial 88, 3) := by decide +kernel
theorem dX5_adjective_21 : decode cX5_adjective 21 = .ok (.athrow, 1) := by decide +kernel
theorem dX5_adjective_22 : decode cX5_adjective 22 = .ok (.aload_n 0, 1) := by decide +kernel
theorem dX5_adjective_23 : decode cX5_adjective 23 = .ok (.getfield 26, 3) := by decide +kernel
theorem dX5_adjective_26 : decode cX5_adjective 26 = .ok (.getfield 37, 3) := by decide +kernel
theorem dX5_adjective_29 : decode cX5_adjective 29 = .ok (.getfield 99, 3) := by decide +kernel
theorem dX5_adjective_32 : decode cX5_adjective 32 = .ok (.iload_n 1, 1) := by decide +kernel
theorem dX5_adjective_33 : decode cX5_adjective 33 = .ok (.iaload, 1) := by decide +kernel
theorem dX5_adjective_34 : decode cX5_adjective 34 = .ok (.ireturn, 1) := by decide +kernel
set_option maxRecDepth 20000 in
theorem ggX5_place_X4_exists : GoodIn wsX5_place wsX4_exists := goodIn_r _ [10, 11, 28, 29, 30, 31, 32, 33] (by decide +kernel) (by decide +kernel)
set_option maxRecDepth 20000 in
theorem gX5_place_X4_exists : GoodIn wsX5_place (wsV RX5 92 RX4 yX4_exists wsX4_exists) := goodIn_app (goodIn_of _ (by decide +kernel)) ggX5_place_X4_exists
theorem dX5_place_0 : decode cX5_place 0 = .ok (.aload_n 0, 1) := by decide +kernel
theorem dX5_place_1 : decode cX5_place 1 = .ok (.getfield 26, 3) := by decide +kernel
theorem dX5_place_4 : decode cX5_place 4 = .ok (.getfield 37, 3) := by decide +kernel
theorem dX5_place_7 : decode cX5_place 7 = .ok (.iload_n 1, 1) := by decide +kernel
theorem dX5_place_8 : decode cX5_place 8 = .ok (.invokevirtual 92, 3) := by decide +kernel
theorem dX5_place_11 : decode cX5_place 11 = .ok (.ifCond .ne 11, 3) := by decide +kernel
theorem dX5_place_14 : decode cX5_place 14 = .ok (.new 86, 3) := by decide +kernel
theorem dX5_place_17 : decode cX5_place 17 = .ok (.dup, 1) := by decide +kernel
theorem dX5_place_18 : decode cX5_place 18 = .ok (.invokespecial 88, 3) := by decide +kernel
theorem dX5_place_21 : decode cX5_place 21 = .ok (.athrow, 1) := by decide +kernel
theorem dX5_place_22 : decode cX5_place 22 = .ok (.aload_n 0, 1) := by decide +kernel
theorem dX5_place_23 : decode cX5_place 23 = .ok (.getfield 26, 3) := by decide +kernel
theorem dX5_place_26 : decode cX5_place 26 = .ok (.getfield 37, 3) := by decide +kernel
theorem dX5_place_29 : decode cX5_place 29 = .ok (.getfield 102, 3) := by decide +kernel
theorem dX5_place_32 : decode cX5_place 32 = .ok (.iload_n 1, 1) := by decide +kernel
theorem dX5_place_33 : decode cX5_place 33 = .ok (.iaload, 1) := by decide +kernel
theorem dX5_place_34 : decode cX5_place 34 = .ok (.ireturn, 1) := by decide +kernel
set_option maxRecDepth 20000 in
theorem ggX5_isOpen_X4_exists : GoodIn wsX5_isOpen wsX4_exists := goodIn_r _ [10, 11, 28, 29, 30, 31, 32, 33] (by decide +kernel) (by decide +kernel)
set_option maxRecDepth 20000 in
theorem gX5_isOpen_X4_exists : GoodIn wsX5_isOpen (wsV RX5 92 RX4 yX4_exists wsX4_exists) := goodIn_app (goodIn_of _ (by decide +kernel)) ggX5_isOpen_X4_exists
theorem dX5_isOpen_0 : decode cX5_isOpen 0 = .ok (.aload_n 0, 1) := by decide +kernel
theorem dX5_isOpen_1 : decode cX5_isOpen 1 = .ok (.getfield 26, 3) := by decide +kernel
theorem dX5_isOpen_4 : decode cX5_isOpen 4 = .ok (.getfield 37, 3) := by decide +kernel
theorem dX5_isOpen_7 : decode cX5_isOpen 7 = .ok (.iload_n 1, 1) := by decide +kernel
theorem dX5_isOpen_8 : decode cX5_isOpen 8 = .ok (.invokevirtual 92, 3) := by decide +kernel
theorem dX5_isOpen_11 : decode cX5_isOpen 11 = .ok (.ifCond .ne 11, 3) := by decide +kernel
theorem dX5_isOpen_14 : decode cX5_isOpen 14 = .ok (.new 86, 3) := by decide +kernel
theorem dX5_isOpen_17 : decode cX5_isOpen 17 = .ok (.dup, 1) := by decide +kernel
theorem dX5_isOpen_18 : decode cX5_isOpen 18 = .ok (.invokespecial 88, 3) := by decide +kernel
theorem dX5_isOpen_21 : decode cX5_isOpen 21 = .ok (.athrow, 1) := by decide +kernel
theorem dX5_isOpen_22 : decode cX5_isOpen 22 = .ok (.aload_n 0, 1) := by decide +kernel
theorem dX5_isOpen_23 : decode cX5_isOpen 23 = .ok (.getfield 26, 3) := by decide +kernel
theorem dX5_isOpen_26 : decode cX5_isOpen 26 = .ok (.getfield 37, 3) := by decide +kernel
theorem dX5_isOpen_29 : decode cX5_isOpen 29 = .ok (.getfield 105, 3) := by decide +kernel
theorem dX5_isOpen_32 : decode cX5_isOpen 32 = .ok (.iconst 1, 1) := by decide +kernel
theorem dX5_isOpen_33 : decode cX5_isOpen 33 = .ok (.iload_n 1, 1) := by decide +kernel
theorem dX5_isOpen_34 : decode cX5_isOpen 34 = .ok (.ishl, 1) := by decide +kernel
theorem dX5_isOpen_35 : decode cX5_isOpen 35 = .ok (.iand, 1) := by decide +kernel
theorem dX5_isOpen_36 : decode cX5_isOpen 36 = .ok (.ifCond .eq 7, 3) := by decide +kernel
theorem dX5_isOpen_39 : decode cX5_isOpen 39 = .ok (.iconst 1, 1) := by decide +kernel
theorem dX5_isOpen_40 : decode cX5_isOpen 40 = .ok (.goto 4, 3) := by decide +kernel
theorem dX5_isOpen_43 : decode cX5_isOpen 43 = .ok (.iconst 0, 1) := by decide +kernel
theorem dX5_isOpen_44 : decode cX5_isOpen 44 = .ok (.ireturn, 1) := by decide +kernel
set_option maxRecDepth 20000 in
theorem ggX5_objectsAt_X4_setAt : GoodIn wsX5_objectsAt wsX4_setAt := goodIn_r _ [9, 10, 11, 35, 36, 37, 38, 39, 40] (by decide +kernel) (by decide +kernel)
set_option maxRecDepth 20000 in
theorem gX5_objectsAt_X4_setAt : GoodIn wsX5_objectsAt (wsV RX5 108 RX4 yX4_setAt wsX4_setAt) := goodIn_app (goodIn_of _ (by decide +kernel)) ggX5_objectsAt_X4_setAt
set_option maxRecDepth 20000 in
theorem ggX5_objectsAt_J6_bitCount_0f7a4 : GoodIn wsX5_objectsAt wsJ6_bitCount_0f7a4 := goodIn_r _ [15, 16, 17, 18] (by decide +kernel) (by decide +kernel)
set_option maxRecDepth 20000 in
theorem gX5_objectsAt_J6_bitCount_0f7a4 : GoodIn wsX5_objectsAt (va_wsS RX5 112 yJ6_bitCount_0f7a4 wsJ6_bitCount_0f7a4) := goodIn_app (goodIn_of _ (by decide +kernel)) ggX5_objectsAt_J6_bitCount_0f7a4
theorem dX5_objectsAt_0 : decode cX5_objectsAt 0 = .ok (.iload_n 1, 1) := by decide +kernel
theorem dX5_objectsAt_1 : decode cX5_objectsAt 1 = .ok (.ifCond .lt 9, 3) := by decide +kernel
theorem dX5_objectsAt_4 : decode cX5_objectsAt 4 = .ok (.iload_n 1, 1) := by decide +kernel
theorem dX5_objectsAt_5 : decode cX5_objectsAt 5 = .ok (.bipush 17, 2) := by decide +kernel
theorem dX5_objectsAt_7 : decode cX5_objectsAt 7 = .ok (.if_icmp .lt 11, 3) := by decide +kernel
theorem dX5_objectsAt_10 : decode cX5_objectsAt 10 = .ok (.new 86, 3) := by decide +kernel
theorem dX5_objectsAt_13 : decode cX5_objectsAt 13 = .ok (.dup, 1) := by decide +kernel
theorem dX5_objectsAt_14 : decode cX5_objectsAt 14 = .ok (.invokespecial 88, 3) := by decide +kernel
theorem dX5_objectsAt_17 : decode cX5_objectsAt 17 = .ok (.athrow, 1) := by decide +kernel
theorem dX5_objectsAt_18 : decode cX5_objectsAt 18 = .ok (.aload_n 0, 1) := by decide +kernel
theorem dX5_objectsAt_19 : decode cX5_objectsAt 19 = .ok (.getfield 26, 3) := by decide +kernel
theorem dX5_objectsAt_22 : decode cX5_objectsAt 22 = .ok (.getfield 37, 3) := by decide +kernel
theorem dX5_objectsAt_25 : decode cX5_objectsAt 25 = .ok (.iload_n 1, 1) := by decide +kernel
theorem dX5_objectsAt_26 : decode cX5_objectsAt 26 = .ok (.invokevirtual 108, 3) := by decide +kernel
theorem dX5_objectsAt_29 : decode cX5_objectsAt 29 = .ok (.invokestatic 112, 3) := by decide +kernel
theorem dX5_objectsAt_32 : decode cX5_objectsAt 32 = .ok (.ireturn, 1) := by decide +kernel
theorem dX5_room_0 : decode cX5_room 0 = .ok (.aload_n 0, 1) := by decide +kernel
theorem dX5_room_1 : decode cX5_room 1 = .ok (.getfield 26, 3) := by decide +kernel
theorem dX5_room_4 : decode cX5_room 4 = .ok (.getfield 37, 3) := by decide +kernel
theorem dX5_room_7 : decode cX5_room 7 = .ok (.getfield 89, 3) := by decide +kernel
theorem dX5_room_10 : decode cX5_room 10 = .ok (.ireturn, 1) := by decide +kernel
set_option maxRecDepth 20000 in
theorem ggX5_visible_X4_visibleSet : GoodIn wsX5_visible wsX4_visibleSet := goodIn_r _ [7, 8, 9, 10, 11, 12, 6, 13, 14, 15, 32, 33, 34, 35, 36, 37] (by decide +kernel) (by decide +kernel)
set_option maxRecDepth 20000 in
theorem gX5_visible_X4_visibleSet : GoodIn wsX5_visible (wsV RX5 117 RX4 yX4_visibleSet wsX4_visibleSet) := goodIn_app (goodIn_of _ (by decide +kernel)) ggX5_visible_X4_visibleSet
theorem dX5_visible_0 : decode cX5_visible 0 = .ok (.aload_n 0, 1) := by decide +kernel
theorem dX5_visible_1 : decode cX5_visible 1 = .ok (.getfield 26, 3) := by decide +kernel
theorem dX5_visible_4 : decode cX5_visible 4 = .ok (.getfield 37, 3) := by decide +kernel
theorem dX5_visible_7 : decode cX5_visible 7 = .ok (.invokevirtual 117, 3) := by decide +kernel
theorem dX5_visible_10 : decode cX5_visible 10 = .ok (.ireturn, 1) := by decide +kernel
set_option maxRecDepth 20000 in
theorem ggX5_suitable_X4_suitableSet : GoodIn wsX5_suitable wsX4_suitableSet := goodIn_r _ [9, 10, 11, 12, 13, 8, 14, 15, 16, 17, 18, 19, 20, 21, 22, 23, 24, 25, 26, 27, 28, 29, 30, 31, 48, 49, 50, 51, 52, 53] (by decide +kernel) (by decide +kernel)
set_option maxRecDepth 20000 in
theorem gX5_suitable_X4_suitableSet : GoodIn wsX5_suitable (wsV RX5 121 RX4 yX4_suitableSet wsX4_suitableSet) := goodIn_app (goodIn_of _ (by decide +kernel)) ggX5_suitable_X4_suitableSet
theorem dX5_suitable_0 : decode cX5_suitable 0 = .ok (.iload_n 1, 1) := by decide +kernel
theorem dX5_suitable_1 : decode cX5_suitable 1 = .ok (.ifCond .lt 8, 3) := by decide +kernel
theorem dX5_suitable_4 : decode cX5_suitable 4 = .ok (.iload_n 1, 1) := by decide +kernel
theorem dX5_suitable_5 : decode cX5_suitable 5 = .ok (.iconst 4, 1) := by decide +kernel
theorem dX5_suitable_6 : decode cX5_suitable 6 = .ok (.if_icmp .le 11, 3) := by decide +kernel
theorem dX5_suitable_9 : decode cX5_suitable 9 = .ok (.new 86, 3) := by decide +kernel
theorem dX5_suitable_12 : decode cX5_suitable 12 = .ok (.dup, 1) := by decide +kernel
theorem dX5_suitable_13 : decode cX5_suitable 13 = .ok (.invokespecial 88, 3) := by decide +kernel
theorem dX5_suitable_16 : decode cX5_suitable 16 = .ok (.athrow, 1) := by decide +kernel
theorem dX5_suitable_17 : decode cX5_suitable 17 = .ok (.aload_n 0, 1) := by decide +kernel
theorem dX5_suitable_18 : decode cX5_suitable 18 = .ok (.getfield 26, 3) := by decide +kernel
theorem dX5_suitable_21 : decode cX5_suitable 21 = .ok (.getfield 37, 3) := by decide +kernel
theorem dX5_suitable_24 : decode cX5_suitable 24 = .ok (.iload_n 1, 1) := by decide +kernel
theorem dX5_suitable_25 : decode cX5_suitable 25 = .ok (.invokevirtual 121, 3) := by decide +kernel
theorem dX5_suitable_28 : decode cX5_suitable 28 = .ok (.ireturn, 1) := by decide +kernel
set_option maxRecDepth 20000 in
theorem ggX5_fitting_X5_isNoun : GoodIn wsX5_fitting wsX5_isNoun := goodIn_r _ [8] (by decide +kernel) (by decide +kernel)
set_option maxRecDepth 20000 in
theorem gX5_fitting_X5_isNoun : GoodIn wsX5_fitting (va_wsS RX5 41 yX5_isNoun wsX5_isNoun) := goodIn_app (goodIn_of _ (by decide +kernel)) ggX5_fitting_X5_isNoun
set_option maxRecDepth 20000 in
theorem ggX5_fitting_X5_isAdjective : GoodIn wsX5_fitting wsX5_isAdjective := goodIn_r _ [11] (by decide +kernel) (by decide +kernel)
set_option maxRecDepth 20000 in
theorem gX5_fitting_X5_isAdjective : GoodIn wsX5_fitting (va_wsS RX5 45 yX5_isAdjective wsX5_isAdjective) := goodIn_app (goodIn_of _ (by decide +kernel)) ggX5_fitting_X5_isAdjective
set_option maxRecDepth 20000 in
theorem ggX5_fitting_X4_fittingSet : GoodIn wsX5_fitting wsX4_fittingSet := goodIn_r _ [16, 17, 18, 19, 36, 37, 38, 39, 40, 41] (by decide +kernel) (by decide +kernel)
set_option maxRecDepth 20000 in
theorem gX5_fitting_X4_fittingSet : GoodIn wsX5_fitting (wsV RX5 66 RX4 yX4_fittingSet wsX4_fittingSet) := goodIn_app (goodIn_of _ (by decide +kernel)) ggX5_fitting_X4_fittingSet
theorem dX5_fitting_0 : decode cX5_fitting 0 = .ok (.iload_n 1, 1) := by decide +kernel
theorem dX5_fitting_1 : decode cX5_fitting 1 = .ok (.invokestatic 41, 3) := by decide +kernel
theorem dX5_fitting_4 : decode cX5_fitting 4 = .ok (.ifCond .eq 15, 3) := by decide +kernel
theorem dX5_fitting_7 : decode cX5_fitting 7 = .ok (.iload_n 2, 1) := by decide +kernel
theorem dX5_fitting_8 : decode cX5_fitting 8 = .ok (.iconst (-1), 1) := by decide +kernel
theorem dX5_fitting_9 : decode cX5_fitting 9 = .ok (.if_icmp .eq 18, 3) := by decide +kernel
theorem dX5_fitting_12 : decode cX5_fitting 12 = .ok (.iload_n 2, 1) := by decide +kernel
theorem dX5_fitting_13 : decode cX5_fitting 13 = .ok (.invokestatic 45, 3) := by decide +kernel
theorem dX5_fitting_16 : decode cX5_fitting 16 = .ok (.ifCond .ne 11, 3) := by decide +kernel
theorem dX5_fitting_19 : decode cX5_fitting 19 = .ok (.new 86, 3) := by decide +kernel
theorem dX5_fitting_22 : decode cX5_fitting 22 = .ok (.dup, 1) := by decide +kernel
theorem dX5_fitting_23 : decode cX5_fitting 23 = .ok (.invokespecial 88, 3) := by decide +kernel
theorem dX5_fitting_26 : decode cX5_fitting 26 = .ok (.athrow, 1) := by decide +kernel
theorem dX5_fitting_27 : decode cX5_fitting 27 = .ok (.aload_n 0, 1) := by decide +kernel
theorem dX5_fitting_28 : decode cX5_fitting 28 = .ok (.getfield 26, 3) := by decide +kernel
theorem dX5_fitting_31 : decode cX5_fitting 31 = .ok (.getfield 37, 3) := by decide +kernel
theorem dX5_fitting_34 : decode cX5_fitting 34 = .ok (.iload_n 1, 1) := by decide +kernel
theorem dX5_fitting_35 : decode cX5_fitting 35 = .ok (.iload_n 2, 1) := by decide +kernel
theorem dX5_fitting_36 : decode cX5_fitting 36 = .ok (.invokevirtual 66, 3) := by decide +kernel
theorem dX5_fitting_39 : decode cX5_fitting 39 = .ok (.ireturn, 1) := by decide +kernel
theorem dX5_candidates_0 : decode cX5_candidates 0 = .ok (.aload_n 0, 1) := by decide +kernel
theorem dX5_candidates_1 : decode cX5_candidates 1 = .ok (.getfield 26, 3) := by decide +kernel
theorem dX5_candidates_4 : decode cX5_candidates 4 = .ok (.getfield 124, 3) := by decide +kernel
theorem dX5_candidates_7 : decode cX5_candidates 7 = .ok (.ireturn, 1) := by decide +kernel
theorem dX5_it_0 : decode cX5_it 0 = .ok (.aload_n 0, 1) := by decide +kernel
theorem dX5_it_1 : decode cX5_it 1 = .ok (.getfield 26, 3) := by decide +kernel
theorem dX5_it_4 : decode cX5_it 4 = .ok (.getfield 127, 3) := by decide +kernel
theorem dX5_it_7 : decode cX5_it 7 = .ok (.ireturn, 1) := by decide +kernel
theorem dX5_them_0 : decode cX5_them 0 = .ok (.aload_n 0, 1) := by decide +kernel
theorem dX5_them_1 : decode cX5_them 1 = .ok (.getfield 26, 3) := by decide +kernel
theorem dX5_them_4 : decode cX5_them 4 = .ok (.getfield 130, 3) := by decide +kernel
theorem dX5_them_7 : decode cX5_them 7 = .ok (.ireturn, 1) := by decide +kernel
set_option maxRecDepth 20000 in
theorem ggX5_appendWord_X0_isSpace : GoodIn wsX5_appendWord wsX0_isSpace := goodIn_r _ [11, 12, 13, 14, 10, 15, 16, 17, 41, 42] (by decide +kernel) (by decide +kernel)
set_option maxRecDepth 20000 in
theorem gX5_appendWord_X0_isSpace : GoodIn wsX5_appendWord (wsV RX5 142 RX0 yX0_isSpace wsX0_isSpace) := goodIn_app (goodIn_of _ (by decide +kernel)) ggX5_appendWord_X0_isSpace
set_option maxRecDepth 20000 in
theorem ggX5_appendWord_X5_lengthOf : GoodIn wsX5_appendWord wsX5_lengthOf := goodIn_r _ [21, 22, 23, 20, 24, 25] (by decide +kernel) (by decide +kernel)
set_option maxRecDepth 20000 in
theorem gX5_appendWord_X5_lengthOf : GoodIn wsX5_appendWord (va_wsS RX5 145 yX5_lengthOf wsX5_lengthOf) := goodIn_app (goodIn_of _ (by decide +kernel)) ggX5_appendWord_X5_lengthOf
set_option maxRecDepth 20000 in
theorem ggX5_appendWord_X0_hasSpaceFor : GoodIn wsX5_appendWord wsX0_hasSpaceFor := goodIn_r _ [29, 16, 17, 41, 42] (by decide +kernel) (by decide +kernel)
set_option maxRecDepth 20000 in
theorem gX5_appendWord_X0_hasSpaceFor : GoodIn wsX5_appendWord (wsV RX5 133 RX0 yX0_hasSpaceFor wsX0_hasSpaceFor) := goodIn_app (goodIn_of _ (by decide +kernel)) ggX5_appendWord_X0_hasSpaceFor
set_option maxRecDepth 20000 in
theorem ggX5_appendWord_X0_add : GoodIn wsX5_appendWord wsX0_add := goodIn_r _ [33, 16, 17, 41, 42] (by decide +kernel) (by decide +kernel)
set_option maxRecDepth 20000 in
theorem gX5_appendWord_X0_add : GoodIn wsX5_appendWord (wsV RX5 136 RX0 yX0_add wsX0_add) := goodIn_app (goodIn_of _ (by decide +kernel)) ggX5_appendWord_X0_add
set_option maxRecDepth 20000 in
theorem ggX5_appendWord_X5_letterOf : GoodIn wsX5_appendWord wsX5_letterOf := goodIn_r _ [24, 25] (by decide +kernel) (by decide +kernel)
set_option maxRecDepth 20000 in
theorem gX5_appendWord_X5_letterOf : GoodIn wsX5_appendWord (va_wsS RX5 148 yX5_letterOf wsX5_letterOf) := goodIn_app (goodIn_of _ (by decide +kernel)) ggX5_appendWord_X5_letterOf
theorem dX5_appendWord_0 : decode cX5_appendWord 0 = .ok (.iload_n 1, 1) := by decide +kernel
theorem dX5_appendWord_1 : decode cX5_appendWord 1 = .ok (.ifCond .lt 9, 3) := by decide +kernel
theorem dX5_appendWord_4 : decode cX5_appendWord 4 = .ok (.iload_n 1, 1) := by decide +kernel
theorem dX5_appendWord_5 : decode cX5_appendWord 5 = .ok (.bipush 25, 2) := by decide +kernel
theorem dX5_appendWord_7 : decode cX5_appendWord 7 = .ok (.if_icmp .lt 11, 3) := by decide +kernel
theorem dX5_appendWord_10 : decode cX5_appendWord 10 = .ok (.new 86, 3) := by decide +kernel
theorem dX5_appendWord_13 : decode cX5_appendWord 13 = .ok (.dup, 1) := by decide +kernel
theorem dX5_appendWord_14 : decode cX5_appendWord 14 = .ok (.invokespecial 88, 3) := by decide +kernel
theorem dX5_appendWord_17 : decode cX5_appendWord 17 = .ok (.athrow, 1) := by decide +kernel
theorem dX5_appendWord_18 : decode cX5_appendWord 18 = .ok (.aload_n 0, 1) := by decide +kernel
theorem dX5_appendWord_19 : decode cX5_appendWord 19 = .ok (.getfield 12, 3) := by decide +kernel
theorem dX5_appendWord_22 : decode cX5_appendWord 22 = .ok (.getfield 139, 3) := by decide +kernel
theorem dX5_appendWord_25 : decode cX5_appendWord 25 = .ok (.ifCond .le 26, 3) := by decide +kernel
theorem dX5_appendWord_28 : decode cX5_appendWord 28 = .ok (.aload_n 0, 1) := by decide +kernel
theorem dX5_appendWord_29 : decode cX5_appendWord 29 = .ok (.getfield 12, 3) := by decide +kernel
theorem dX5_appendWord_32 : decode cX5_appendWord 32 = .ok (.aload_n 0, 1) := by decide +kernel
theorem dX5_appendWord_33 : decode cX5_appendWord 33 = .ok (.getfield 12, 3) := by decide +kernel
theorem dX5_appendWord_36 : decode cX5_appendWord 36 = .ok (.getfield 139, 3) := by decide +kernel
theorem dX5_appendWord_39 : decode cX5_appendWord 39 = .ok (.iconst 1, 1) := by decide +kernel
theorem dX5_appendWord_40 : decode cX5_appendWord 40 = .ok (.isub, 1) := by decide +kernel
theorem dX5_appendWord_41 : decode cX5_appendWord 41 = .ok (.invokevirtual 142, 3) := by decide +kernel
theorem dX5_appendWord_44 : decode cX5_appendWord 44 = .ok (.ifCond .ne 7, 3) := by decide +kernel
theorem dX5_appendWord_47 : decode cX5_appendWord 47 = .ok (.iconst 1, 1) := by decide +kernel
theorem dX5_appendWord_48 : decode cX5_appendWord 48 = .ok (.goto 4, 3) := by decide +kernel
theorem dX5_appendWord_51 : decode cX5_appendWord 51 = .ok (.iconst 0, 1) := by decide +kernel
theorem dX5_appendWord_52 : decode cX5_appendWord 52 = .ok (.istore_n 2, 1) := by decide +kernel
theorem dX5_appendWord_53 : decode cX5_appendWord 53 = .ok (.iload_n 1, 1) := by decide +kernel
theorem dX5_appendWord_54 : decode cX5_appendWord 54 = .ok (.invokestatic 145, 3) := by decide +kernel
theorem dX5_appendWord_57 : decode cX5_appendWord 57 = .ok (.istore_n 3, 1) := by decide +kernel
theorem dX5_appendWord_58 : decode cX5_appendWord 58 = .ok (.aload_n 0, 1) := by decide +kernel
theorem dX5_appendWord_59 : decode cX5_appendWord 59 = .ok (.getfield 12, 3) := by decide +kernel
theorem dX5_appendWord_62 : decode cX5_appendWord 62 = .ok (.iload_n 2, 1) := by decide +kernel
theorem dX5_appendWord_63 : decode cX5_appendWord 63 = .ok (.ifCond .eq 9, 3) := by decide +kernel
theorem dX5_appendWord_66 : decode cX5_appendWord 66 = .ok (.iload_n 3, 1) := by decide +kernel
theorem dX5_appendWord_67 : decode cX5_appendWord 67 = .ok (.iconst 1, 1) := by decide +kernel
theorem dX5_appendWord_68 : decode cX5_appendWord 68 = .ok (.iadd, 1) := by decide +kernel
theorem dX5_appendWord_69 : decode cX5_appendWord 69 = .ok (.goto 4, 3) := by decide +kernel
theorem dX5_appendWord_72 : decode cX5_appendWord 72 = .ok (.iload_n 3, 1) := by decide +kernel
theorem dX5_appendWord_73 : decode cX5_appendWord 73 = .ok (.invokevirtual 133, 3) := by decide +kernel
theorem dX5_appendWord_76 : decode cX5_appendWord 76 = .ok (.ifCond .ne 11, 3) := by decide +kernel
theorem dX5_appendWord_79 : decode cX5_appendWord 79 = .ok (.new 70, 3) := by decide +kernel
theorem dX5_appendWord_82 : decode cX5_appendWord 82 = .ok (.dup, 1) := by decide +kernel
theorem dX5_appendWord_83 : decode cX5_appendWord 83 = .ok (.invokespecial 72, 3) := by decide +kernel
theorem dX5_appendWord_86 : decode cX5_appendWord 86 = .ok (.athrow, 1) := by decide +kernel
theorem dX5_appendWord_87 : decode cX5_appendWord 87 = .ok (.iload_n 2, 1) := by decide +kernel
theorem dX5_appendWord_88 : decode cX5_appendWord 88 = .ok (.ifCond .eq 12, 3) := by decide +kernel
theorem dX5_appendWord_91 : decode cX5_appendWord 91 = .ok (.aload_n 0, 1) := by decide +kernel
theorem dX5_appendWord_92 : decode cX5_appendWord 92 = .ok (.getfield 12, 3) := by decide +kernel
theorem dX5_appendWord_95 : decode cX5_appendWord 95 = .ok (.bipush 32, 2) := by decide +kernel
theorem dX5_appendWord_97 : decode cX5_appendWord 97 = .ok (.invokevirtual 136, 3) := by decide +kernel
theorem dX5_appendWord_100 : decode cX5_appendWord 100 = .ok (.iconst 0, 1) := by decide +kernel
theorem dX5_appendWord_101 : decode cX5_appendWord 101 = .ok (.istore 4, 2) := by decide +kernel
theorem dX5_appendWord_103 : decode cX5_appendWord 103 = .ok (.iload 4, 2) := by decide +kernel
theorem dX5_appendWord_105 : decode cX5_appendWord 105 = .ok (.iload_n 3, 1) := by decide +kernel
theorem dX5_appendWord_106 : decode cX5_appendWord 106 = .ok (.if_icmp .ge 22, 3) := by decide +kernel
theorem dX5_appendWord_109 : decode cX5_appendWord 109 = .ok (.aload_n 0, 1) := by decide +kernel
theorem dX5_appendWord_110 : decode cX5_appendWord 110 = .ok (.getfield 12, 3) := by decide +kernel
theorem dX5_appendWord_113 : decode cX5_appendWord 113 = .ok (.iload_n 1, 1) := by decide +kernel
theorem dX5_appendWord_114 : decode cX5_appendWord 114 = .ok (.iload 4, 2) := by decide +kernel
theorem dX5_appendWord_116 : decode cX5_appendWord 116 = .ok (.invokestatic 148, 3) := by decide +kernel
theorem dX5_appendWord_119 : decode cX5_appendWord 119 = .ok (.invokevirtual 136, 3) := by decide +kernel
theorem dX5_appendWord_122 : decode cX5_appendWord 122 = .ok (.iinc 4 1, 3) := by decide +kernel
theorem dX5_appendWord_125 : decode cX5_appendWord 125 = .ok (.goto (-22), 3) := by decide +kernel
theorem dX5_appendWord_128 : decode cX5_appendWord 128 = .ok (.aload_n 0, 1) := by decide +kernel
theorem dX5_appendWord_129 : decode cX5_appendWord 129 = .ok (.getfield 12, 3) := by decide +kernel
theorem dX5_appendWord_132 : decode cX5_appendWord 132 = .ok (.getfield 139, 3) := by decide +kernel
theorem dX5_appendWord_135 : decode cX5_appendWord 135 = .ok (.ireturn, 1) := by decide +kernel
theorem dX5_clearBuffer_0 : decode cX5_clearBuffer 0 = .ok (.aload_n 0, 1) := by decide +kernel
theorem dX5_clearBuffer_1 : decode cX5_clearBuffer 1 = .ok (.getfield 12, 3) := by decide +kernel
theorem dX5_clearBuffer_4 : decode cX5_clearBuffer 4 = .ok (.getfield 139, 3) := by decide +kernel
theorem dX5_clearBuffer_7 : decode cX5_clearBuffer 7 = .ok (.istore_n 1, 1) := by decide +kernel
theorem dX5_clearBuffer_8 : decode cX5_clearBuffer 8 = .ok (.aload_n 0, 1) := by decide +kernel
theorem dX5_clearBuffer_9 : decode cX5_clearBuffer 9 = .ok (.getfield 12, 3) := by decide +kernel
theorem dX5_clearBuffer_12 : decode cX5_clearBuffer 12 = .ok (.iconst 0, 1) := by decide +kernel
theorem dX5_clearBuffer_13 : decode cX5_clearBuffer 13 = .ok (.putfield 139, 3) := by decide +kernel
theorem dX5_clearBuffer_16 : decode cX5_clearBuffer 16 = .ok (.iload_n 1, 1) := by decide +kernel
theorem dX5_clearBuffer_17 : decode cX5_clearBuffer 17 = .ok (.ireturn, 1) := by decide +kernel
set_option maxRecDepth 20000 in
theorem ggX5_enter_X5_readBuffer : GoodIn wsX5_enter wsX5_readBuffer := goodIn_r _ [12, 6, 5, 3, 4, 13, 14, 15, 16, 17, 18, 19, 20, 21, 22, 23, 24, 25, 26, 27, 28, 29, 30, 31, 32, 33, 34, 35, 36, 37, 38, 39, 40, 41, 42, 43, 44, 45, 46, 47, 48, 49, 50, 51, 52, 53, 54, 55, 11, 56, 57, 58, 59, 60, 61, 62, 63, 64, 65, 66, 67, 68, 69, 70, 71, 72, 73, 74, 75, 76, 77, 78, 79, 80, 81, 82, 83, 84, 85, 86, 87, 88, 89, 90, 91, 92, 93, 94, 95, 96, 97, 98, 99, 100, 101, 102, 103, 104, 105, 106, 107, 108, 109, 110, 111, 112, 113, 114, 115, 116, 117, 118, 119, 120, 121, 122, 279, 280, 281, 282, 283, 284, 285, 286, 287, 291, 292, 293, 294, 295, 296, 297, 298, 299, 288, 289, 290, 300, 301, 302, 303, 304, 305, 306, 307] (by decide +kernel) (by decide +kernel)
set_option maxRecDepth 20000 in
theorem gX5_enter_X5_readBuffer : GoodIn wsX5_enter (wsV RX5 173 RX5 yX5_readBuffer wsX5_readBuffer) := goodIn_app (goodIn_of _ (by decide +kernel)) ggX5_enter_X5_readBuffer
set_option maxRecDepth 20000 in
theorem ggX5_enter_X5_save : GoodIn wsX5_enter wsX5_save := goodIn_r _ [126, 127, 128, 5, 129, 130, 131, 132, 11, 133, 134, 135, 136, 16, 137, 138, 139, 140, 141, 142, 143, 144, 145, 18, 146, 147, 148, 149, 150, 151, 152, 153, 154, 155, 156, 157, 158, 159, 30, 160, 32, 33, 34, 35, 36, 37, 38, 39, 279, 280, 281, 282, 283, 284, 285, 291, 292, 293, 294, 295, 296, 297, 298, 299, 308, 309, 310, 311, 312, 313, 300, 301, 302, 303, 304, 305, 306, 307] (by decide +kernel) (by decide +kernel)
set_option maxRecDepth 20000 in
theorem gX5_enter_X5_save : GoodIn wsX5_enter (wsV RX5 73 RX5 yX5_save wsX5_save) := goodIn_app (goodIn_of _ (by decide +kernel)) ggX5_enter_X5_save
set_option maxRecDepth 20000 in
theorem ggX5_enter_X3_accept : GoodIn wsX5_enter wsX3_accept := goodIn_r _ [164, 145, 138, 165, 166, 139, 18, 167, 168, 169, 30, 170, 35, 171, 172, 173, 149, 174, 154, 151, 152, 175, 176, 177, 178, 179, 180, 181, 182, 183, 184, 185, 34, 107, 108, 109, 110, 157, 158, 159, 160, 32, 33, 36, 37, 38, 39, 186, 187, 188, 16, 189, 190, 191, 192, 193, 194, 195, 196, 197, 198, 155, 199, 11, 200, 201, 202, 203, 204, 156, 205, 206, 207, 208, 153, 209, 210, 211, 212, 213, 214, 215, 216, 217, 218, 219, 220, 221, 222, 223, 224, 225, 226, 227, 140, 228, 229, 230, 231, 232, 233, 234, 235, 236, 237, 238, 239, 240, 241, 141, 242, 243, 244, 245, 246, 247, 248, 249, 250, 251, 252, 253, 254, 255, 256, 257, 258, 259, 260, 261, 262, 263, 264, 265, 266, 267, 268, 269, 270, 271, 272, 273, 274, 275, 276, 277, 278, 142, 144, 143, 291, 292, 293, 294, 295, 296, 297, 298, 299, 300, 301, 302, 303, 304, 305, 306, 307, 308, 309, 310, 311, 312, 313] (by decide +kernel) (by decide +kernel)
set_option maxRecDepth 20000 in
theorem gX5_enter_X3_accept : GoodIn wsX5_enter (wsV RX5 180 RX3 yX3_accept wsX3_accept) := goodIn_app (goodIn_of _ (by decide +kernel)) ggX5_enter_X3_accept
theorem dX5_enter_0 : decode cX5_enter 0 = .ok (.aload_n 0, 1) := by decide +kernel
theorem dX5_enter_1 : decode cX5_enter 1 = .ok (.invokevirtual 173, 3) := by decide +kernel
theorem dX5_enter_4 : decode cX5_enter 4 = .ok (.ifCond .ne 11, 3) := by decide +kernel
theorem dX5_enter_7 : decode cX5_enter 7 = .ok (.new 53, 3) := by decide +kernel
theorem dX5_enter_10 : decode cX5_enter 10 = .ok (.dup, 1) := by decide +kernel
theorem dX5_enter_11 : decode cX5_enter 11 = .ok (.invokespecial 55, 3) := by decide +kernel
theorem dX5_enter_14 : decode cX5_enter 14 = .ok (.athrow, 1) := by decide +kernel
theorem dX5_enter_15 : decode cX5_enter 15 = .ok (.aload_n 0, 1) := by decide +kernel
theorem dX5_enter_16 : decode cX5_enter 16 = .ok (.invokevirtual 73, 3) := by decide +kernel
theorem dX5_enter_19 : decode cX5_enter 19 = .ok (.aload_n 0, 1) := by decide +kernel
theorem dX5_enter_20 : decode cX5_enter 20 = .ok (.getfield 12, 3) := by decide +kernel
theorem dX5_enter_23 : decode cX5_enter 23 = .ok (.iconst 0, 1) := by decide +kernel
theorem dX5_enter_24 : decode cX5_enter 24 = .ok (.putfield 139, 3) := by decide +kernel
theorem dX5_enter_27 : decode cX5_enter 27 = .ok (.aload_n 0, 1) := by decide +kernel
theorem dX5_enter_28 : decode cX5_enter 28 = .ok (.getfield 26, 3) := by decide +kernel
theorem dX5_enter_31 : decode cX5_enter 31 = .ok (.aload_n 0, 1) := by decide +kernel
theorem dX5_enter_32 : decode cX5_enter 32 = .ok (.getfield 19, 3) := by decide +kernel
theorem dX5_enter_35 : decode cX5_enter 35 = .ok (.getfield 176, 3) := by decide +kernel
theorem dX5_enter_38 : decode cX5_enter 38 = .ok (.invokevirtual 180, 3) := by decide +kernel
theorem dX5_enter_41 : decode cX5_enter 41 = .ok (.ireturn, 1) := by decide +kernel
set_option maxRecDepth 20000 in
theorem ggX5_ifEntered_X5_readBuffer : GoodIn wsX5_ifEntered wsX5_readBuffer := goodIn_r _ [11, 5, 4, 12, 13, 14, 15, 16, 17, 18, 19, 20, 21, 22, 23, 24, 25, 26, 27, 28, 29, 30, 31, 32, 33, 34, 35, 36, 37, 38, 39, 40, 41, 42, 43, 44, 45, 46, 47, 48, 49, 50, 51, 52, 53, 54, 55, 56, 10, 57, 58, 59, 60, 61, 62, 63, 64, 65, 66, 67, 68, 69, 70, 71, 72, 73, 74, 75, 76, 77, 78, 79, 80, 81, 82, 83, 84, 85, 86, 87, 88, 89, 90, 91, 92, 93, 94, 95, 96, 97, 98, 99, 100, 101, 102, 103, 104, 105, 106, 107, 108, 109, 110, 111, 112, 113, 114, 115, 116, 117, 118, 119, 120, 121, 122, 123, 269, 270, 271, 272, 273, 274, 275, 279, 280, 281, 282, 283, 284, 285, 286, 287, 288, 289, 276, 277, 278, 290, 291, 292, 293, 294, 295, 296, 297] (by decide +kernel) (by decide +kernel)
set_option maxRecDepth 20000 in
theorem gX5_ifEntered_X5_readBuffer : GoodIn wsX5_ifEntered (wsV RX5 173 RX5 yX5_readBuffer wsX5_readBuffer) := goodIn_app (goodIn_of _ (by decide +kernel)) ggX5_ifEntered_X5_readBuffer
set_option maxRecDepth 20000 in
theorem ggX5_ifEntered_X3_copyFrom : GoodIn wsX5_ifEntered wsX3_copyFrom := goodIn_r _ [127, 128, 129, 130, 131, 132, 133, 134, 135, 19, 136, 137, 138, 139, 140, 141, 142, 143, 144, 145, 146, 147, 148, 149, 31, 150, 33, 34, 35, 36, 37, 38, 39, 40, 281, 282, 283, 284, 285, 286, 287, 288, 289, 298, 299, 300, 301, 302, 303, 290, 291, 292, 293, 294, 295, 296, 297] (by decide +kernel) (by decide +kernel)
set_option maxRecDepth 20000 in
theorem gX5_ifEntered_X3_copyFrom : GoodIn wsX5_ifEntered (wsV RX5 184 RX3 yX3_copyFrom wsX3_copyFrom) := goodIn_app (goodIn_of _ (by decide +kernel)) ggX5_ifEntered_X3_copyFrom
set_option maxRecDepth 20000 in
theorem ggX5_ifEntered_X3_accept : GoodIn wsX5_ifEntered wsX3_accept := goodIn_r _ [154, 135, 128, 155, 156, 129, 19, 157, 158, 159, 31, 160, 36, 161, 162, 163, 139, 164, 144, 141, 142, 165, 166, 167, 168, 169, 170, 171, 172, 173, 174, 175, 35, 108, 109, 110, 111, 147, 148, 149, 150, 33, 34, 37, 38, 39, 40, 176, 177, 178, 17, 179, 180, 181, 182, 183, 184, 185, 186, 187, 188, 145, 189, 10, 190, 191, 192, 193, 194, 146, 195, 196, 197, 198, 143, 199, 200, 201, 202, 203, 204, 205, 206, 207, 208, 209, 210, 211, 212, 213, 214, 215, 216, 217, 130, 218, 219, 220, 221, 222, 223, 224, 225, 226, 227, 228, 229, 230, 231, 131, 232, 233, 234, 235, 236, 237, 238, 239, 240, 241, 242, 243, 244, 245, 246, 247, 248, 249, 250, 251, 252, 253, 254, 255, 256, 257, 258, 259, 260, 261, 262, 263, 264, 265, 266, 267, 268, 132, 134, 133, 281, 282, 283, 284, 285, 286, 287, 288, 289, 290, 291, 292, 293, 294, 295, 296, 297, 298, 299, 300, 301, 302, 303] (by decide +kernel) (by decide +kernel)
set_option maxRecDepth 20000 in
theorem gX5_ifEntered_X3_accept : GoodIn wsX5_ifEntered (wsV RX5 180 RX3 yX3_accept wsX3_accept) := goodIn_app (goodIn_of _ (by decide +kernel)) ggX5_ifEntered_X3_accept
theorem dX5_ifEntered_0 : decode cX5_ifEntered 0 = .ok (.aload_n 0, 1) := by decide +kernel
theorem dX5_ifEntered_1 : decode cX5_ifEntered 1 = .ok (.invokevirtual 173, 3) := by decide +kernel
theorem dX5_ifEntered_4 : decode cX5_ifEntered 4 = .ok (.ifCond .ne 11, 3) := by decide +kernel
theorem dX5_ifEntered_7 : decode cX5_ifEntered 7 = .ok (.new 53, 3) := by decide +kernel
theorem dX5_ifEntered_10 : decode cX5_ifEntered 10 = .ok (.dup, 1) := by decide +kernel
theorem dX5_ifEntered_11 : decode cX5_ifEntered 11 = .ok (.invokespecial 55, 3) := by decide +kernel
theorem dX5_ifEntered_14 : decode cX5_ifEntered 14 = .ok (.athrow, 1) := by decide +kernel
theorem dX5_ifEntered_15 : decode cX5_ifEntered 15 = .ok (.aload_n 0, 1) := by decide +kernel
theorem dX5_ifEntered_16 : decode cX5_ifEntered 16 = .ok (.getfield 30, 3) := by decide +kernel
theorem dX5_ifEntered_19 : decode cX5_ifEntered 19 = .ok (.aload_n 0, 1) := by decide +kernel
theorem dX5_ifEntered_20 : decode cX5_ifEntered 20 = .ok (.getfield 26, 3) := by decide +kernel
theorem dX5_ifEntered_23 : decode cX5_ifEntered 23 = .ok (.invokevirtual 184, 3) := by decide +kernel
theorem dX5_ifEntered_26 : decode cX5_ifEntered 26 = .ok (.aload_n 0, 1) := by decide +kernel
theorem dX5_ifEntered_27 : decode cX5_ifEntered 27 = .ok (.getfield 30, 3) := by decide +kernel
theorem dX5_ifEntered_30 : decode cX5_ifEntered 30 = .ok (.aload_n 0, 1) := by decide +kernel
theorem dX5_ifEntered_31 : decode cX5_ifEntered 31 = .ok (.getfield 19, 3) := by decide +kernel
theorem dX5_ifEntered_34 : decode cX5_ifEntered 34 = .ok (.getfield 176, 3) := by decide +kernel
theorem dX5_ifEntered_37 : decode cX5_ifEntered 37 = .ok (.invokevirtual 180, 3) := by decide +kernel
theorem dX5_ifEntered_40 : decode cX5_ifEntered 40 = .ok (.ireturn, 1) := by decide +kernel
theorem dX5_executed_0 : decode cX5_executed 0 = .ok (.aload_n 0, 1) := by decide +kernel
theorem dX5_executed_1 : decode cX5_executed 1 = .ok (.getfield 26, 3) := by decide +kernel
theorem dX5_executed_4 : decode cX5_executed 4 = .ok (.getfield 188, 3) := by decide +kernel
theorem dX5_executed_7 : decode cX5_executed 7 = .ok (.ireturn, 1) := by decide +kernel
theorem dX5_failed_0 : decode cX5_failed 0 = .ok (.aload_n 0, 1) := by decide +kernel
theorem dX5_failed_1 : decode cX5_failed 1 = .ok (.getfield 26, 3) := by decide +kernel
theorem dX5_failed_4 : decode cX5_failed 4 = .ok (.getfield 191, 3) := by decide +kernel
theorem dX5_failed_7 : decode cX5_failed 7 = .ok (.ireturn, 1) := by decide +kernel
theorem dX5_asked_0 : decode cX5_asked 0 = .ok (.aload_n 0, 1) := by decide +kernel
theorem dX5_asked_1 : decode cX5_asked 1 = .ok (.getfield 26, 3) := by decide +kernel
theorem dX5_asked_4 : decode cX5_asked 4 = .ok (.getfield 194, 3) := by decide +kernel
theorem dX5_asked_7 : decode cX5_asked 7 = .ok (.ireturn, 1) := by decide +kernel
set_option maxRecDepth 20000 in
theorem ggX5_undo_X5_hasRow : GoodIn wsX5_undo wsX5_hasRow := goodIn_r _ [11, 6, 50, 51, 52, 53, 54, 55, 56] (by decide +kernel) (by decide +kernel)
set_option maxRecDepth 20000 in
theorem gX5_undo_X5_hasRow : GoodIn wsX5_undo (wsV RX5 203 RX5 yX5_hasRow wsX5_hasRow) := goodIn_app (goodIn_of _ (by decide +kernel)) ggX5_undo_X5_hasRow
set_option maxRecDepth 20000 in
theorem ggX5_undo_X3_copyFrom : GoodIn wsX5_undo wsX3_copyFrom := goodIn_r _ [16, 17, 18, 19, 20, 21, 22, 23, 24, 25, 26, 27, 28, 29, 30, 31, 32, 33, 34, 35, 36, 37, 38, 39, 40, 41, 42, 43, 44, 45, 46, 47, 48, 49, 57, 58, 59, 60, 61, 62, 63, 64, 65, 66, 67, 68, 69, 70, 71, 72, 73, 74, 75, 76, 77, 78, 79] (by decide +kernel) (by decide +kernel)
set_option maxRecDepth 20000 in
theorem gX5_undo_X3_copyFrom : GoodIn wsX5_undo (wsV RX5 184 RX3 yX3_copyFrom wsX3_copyFrom) := goodIn_app (goodIn_of _ (by decide +kernel)) ggX5_undo_X3_copyFrom
theorem dX5_undo_0 : decode cX5_undo 0 = .ok (.aload_n 0, 1) := by decide +kernel
theorem dX5_undo_1 : decode cX5_undo 1 = .ok (.getfield 197, 3) := by decide +kernel
theorem dX5_undo_4 : decode cX5_undo 4 = .ok (.ifCond .gt 11, 3) := by decide +kernel
theorem dX5_undo_7 : decode cX5_undo 7 = .ok (.new 70, 3) := by decide +kernel
theorem dX5_undo_10 : decode cX5_undo 10 = .ok (.dup, 1) := by decide +kernel
theorem dX5_undo_11 : decode cX5_undo 11 = .ok (.invokespecial 72, 3) := by decide +kernel
theorem dX5_undo_14 : decode cX5_undo 14 = .ok (.athrow, 1) := by decide +kernel
theorem dX5_undo_15 : decode cX5_undo 15 = .ok (.aload_n 0, 1) := by decide +kernel
theorem dX5_undo_16 : decode cX5_undo 16 = .ok (.aload_n 0, 1) := by decide +kernel
theorem dX5_undo_17 : decode cX5_undo 17 = .ok (.getfield 200, 3) := by decide +kernel
theorem dX5_undo_20 : decode cX5_undo 20 = .ok (.ifCond .le 12, 3) := by decide +kernel
theorem dX5_undo_23 : decode cX5_undo 23 = .ok (.aload_n 0, 1) := by decide +kernel
theorem dX5_undo_24 : decode cX5_undo 24 = .ok (.getfield 200, 3) := by decide +kernel
theorem dX5_undo_27 : decode cX5_undo 27 = .ok (.iconst 1, 1) := by decide +kernel
theorem dX5_undo_28 : decode cX5_undo 28 = .ok (.isub, 1) := by decide +kernel
theorem dX5_undo_29 : decode cX5_undo 29 = .ok (.goto 4, 3) := by decide +kernel
theorem dX5_undo_32 : decode cX5_undo 32 = .ok (.iconst 5, 1) := by decide +kernel
theorem dX5_undo_33 : decode cX5_undo 33 = .ok (.putfield 200, 3) := by decide +kernel
theorem dX5_undo_36 : decode cX5_undo 36 = .ok (.aload_n 0, 1) := by decide +kernel
theorem dX5_undo_37 : decode cX5_undo 37 = .ok (.dup, 1) := by decide +kernel
theorem dX5_undo_38 : decode cX5_undo 38 = .ok (.getfield 197, 3) := by decide +kernel
theorem dX5_undo_41 : decode cX5_undo 41 = .ok (.iconst 1, 1) := by decide +kernel
theorem dX5_undo_42 : decode cX5_undo 42 = .ok (.isub, 1) := by decide +kernel
theorem dX5_undo_43 : decode cX5_undo 43 = .ok (.putfield 197, 3) := by decide +kernel
theorem dX5_undo_46 : decode cX5_undo 46 = .ok (.aload_n 0, 1) := by decide +kernel
theorem dX5_undo_47 : decode cX5_undo 47 = .ok (.aload_n 0, 1) := by decide +kernel
theorem dX5_undo_48 : decode cX5_undo 48 = .ok (.getfield 200, 3) := by decide +kernel
theorem dX5_undo_51 : decode cX5_undo 51 = .ok (.invokevirtual 203, 3) := by decide +kernel
theorem dX5_undo_54 : decode cX5_undo 54 = .ok (.ifCond .eq 19, 3) := by decide +kernel
theorem dX5_undo_57 : decode cX5_undo 57 = .ok (.aload_n 0, 1) := by decide +kernel
theorem dX5_undo_58 : decode cX5_undo 58 = .ok (.getfield 26, 3) := by decide +kernel
theorem dX5_undo_61 : decode cX5_undo 61 = .ok (.aload_n 0, 1) := by decide +kernel
theorem dX5_undo_62 : decode cX5_undo 62 = .ok (.getfield 33, 3) := by decide +kernel
theorem dX5_undo_65 : decode cX5_undo 65 = .ok (.aload_n 0, 1) := by decide +kernel
theorem dX5_undo_66 : decode cX5_undo 66 = .ok (.getfield 200, 3) := by decide +kernel
theorem dX5_undo_69 : decode cX5_undo 69 = .ok (.aaload, 1) := by decide +kernel
theorem dX5_undo_70 : decode cX5_undo 70 = .ok (.invokevirtual 184, 3) := by decide +kernel
theorem dX5_undo_73 : decode cX5_undo 73 = .ok (.aload_n 0, 1) := by decide +kernel
theorem dX5_undo_74 : decode cX5_undo 74 = .ok (.getfield 197, 3) := by decide +kernel
theorem dX5_undo_77 : decode cX5_undo 77 = .ok (.ireturn, 1) := by decide +kernel
theorem dX5_savedStates_0 : decode cX5_savedStates 0 = .ok (.aload_n 0, 1) := by decide +kernel
theorem dX5_savedStates_1 : decode cX5_savedStates 1 = .ok (.getfield 197, 3) := by decide +kernel
theorem dX5_savedStates_4 : decode cX5_savedStates 4 = .ok (.ireturn, 1) := by decide +kernel
set_option maxRecDepth 20000 in
theorem ggX5_digest_X5_objects : GoodIn wsX5_digest wsX5_objects := goodIn_r _ [13, 2, 3, 4, 85, 86, 87, 88, 89, 90, 91, 92, 93, 94, 95, 96, 97, 98, 99, 100, 101, 102, 103, 104, 105, 106] (by decide +kernel) (by decide +kernel)
set_option maxRecDepth 20000 in
theorem gX5_digest_X5_objects : GoodIn wsX5_digest (wsV RX5 208 RX5 yX5_objects wsX5_objects) := goodIn_app (goodIn_of _ (by decide +kernel)) ggX5_digest_X5_objects
set_option maxRecDepth 20000 in
theorem ggX5_digest_X5_mixed : GoodIn wsX5_digest wsX5_mixed := goodIn_r _ [16, 17] (by decide +kernel) (by decide +kernel)
set_option maxRecDepth 20000 in
theorem gX5_digest_X5_mixed : GoodIn wsX5_digest (va_wsS RX5 211 yX5_mixed wsX5_mixed) := goodIn_app (goodIn_of _ (by decide +kernel)) ggX5_digest_X5_mixed
set_option maxRecDepth 20000 in
theorem ggX5_digest_X5_room : GoodIn wsX5_digest wsX5_room := goodIn_r _ [21, 2, 3, 22, 85, 86, 87, 88, 89, 90, 91, 92, 93, 94, 95, 96, 97, 98, 99, 100, 101, 102, 103, 104, 105, 106] (by decide +kernel) (by decide +kernel)
set_option maxRecDepth 20000 in
theorem gX5_digest_X5_room : GoodIn wsX5_digest (wsV RX5 215 RX5 yX5_room wsX5_room) := goodIn_app (goodIn_of _ (by decide +kernel)) ggX5_digest_X5_room
set_option maxRecDepth 20000 in
theorem ggX5_digest_X5_visible : GoodIn wsX5_digest wsX5_visible := goodIn_r _ [26, 2, 3, 27, 28, 29, 30, 31, 32, 33, 34, 35, 36, 37, 38, 39, 85, 86, 87, 88, 89, 90, 91, 92, 93, 94, 95, 96, 97, 98, 99, 100, 101, 102, 103, 104, 105, 106] (by decide +kernel) (by decide +kernel)
set_option maxRecDepth 20000 in
theorem gX5_digest_X5_visible : GoodIn wsX5_digest (wsV RX5 217 RX5 yX5_visible wsX5_visible) := goodIn_app (goodIn_of _ (by decide +kernel)) ggX5_digest_X5_visible
set_option maxRecDepth 20000 in
theorem ggX5_digest_X5_candidates : GoodIn wsX5_digest wsX5_candidates := goodIn_r _ [43, 2, 44, 85, 86, 87, 88, 89, 90, 91, 92, 93, 94, 95, 96, 97, 98, 99, 100] (by decide +kernel) (by decide +kernel)
set_option maxRecDepth 20000 in
theorem gX5_digest_X5_candidates : GoodIn wsX5_digest (wsV RX5 220 RX5 yX5_candidates wsX5_candidates) := goodIn_app (goodIn_of _ (by decide +kernel)) ggX5_digest_X5_candidates
set_option maxRecDepth 20000 in
theorem ggX5_digest_X5_it : GoodIn wsX5_digest wsX5_it := goodIn_r _ [48, 2, 49, 85, 86, 87, 88, 89, 90, 91, 92, 93, 94, 95, 96, 97, 98, 99, 100] (by decide +kernel) (by decide +kernel)
set_option maxRecDepth 20000 in
theorem gX5_digest_X5_it : GoodIn wsX5_digest (wsV RX5 222 RX5 yX5_it wsX5_it) := goodIn_app (goodIn_of _ (by decide +kernel)) ggX5_digest_X5_it
set_option maxRecDepth 20000 in
theorem ggX5_digest_X5_them : GoodIn wsX5_digest wsX5_them := goodIn_r _ [53, 2, 54, 85, 86, 87, 88, 89, 90, 91, 92, 93, 94, 95, 96, 97, 98, 99, 100] (by decide +kernel) (by decide +kernel)
set_option maxRecDepth 20000 in
theorem gX5_digest_X5_them : GoodIn wsX5_digest (wsV RX5 225 RX5 yX5_them wsX5_them) := goodIn_app (goodIn_of _ (by decide +kernel)) ggX5_digest_X5_them
set_option maxRecDepth 20000 in
theorem ggX5_digest_X5_executed : GoodIn wsX5_digest wsX5_executed := goodIn_r _ [58, 2, 59, 85, 86, 87, 88, 89, 90, 91, 92, 93, 94, 95, 96, 97, 98, 99, 100] (by decide +kernel) (by decide +kernel)
set_option maxRecDepth 20000 in
theorem gX5_digest_X5_executed : GoodIn wsX5_digest (wsV RX5 228 RX5 yX5_executed wsX5_executed) := goodIn_app (goodIn_of _ (by decide +kernel)) ggX5_digest_X5_executed
set_option maxRecDepth 20000 in
theorem ggX5_digest_X5_failed : GoodIn wsX5_digest wsX5_failed := goodIn_r _ [63, 2, 64, 85, 86, 87, 88, 89, 90, 91, 92, 93, 94, 95, 96, 97, 98, 99, 100] (by decide +kernel) (by decide +kernel)
set_option maxRecDepth 20000 in
theorem gX5_digest_X5_failed : GoodIn wsX5_digest (wsV RX5 230 RX5 yX5_failed wsX5_failed) := goodIn_app (goodIn_of _ (by decide +kernel)) ggX5_digest_X5_failed
set_option maxRecDepth 20000 in
theorem ggX5_digest_X5_asked : GoodIn wsX5_digest wsX5_asked := goodIn_r _ [68, 2, 69, 85, 86, 87, 88, 89, 90, 91, 92, 93, 94, 95, 96, 97, 98, 99, 100] (by decide +kernel) (by decide +kernel)
set_option maxRecDepth 20000 in
theorem gX5_digest_X5_asked : GoodIn wsX5_digest (wsV RX5 232 RX5 yX5_asked wsX5_asked) := goodIn_app (goodIn_of _ (by decide +kernel)) ggX5_digest_X5_asked
set_option maxRecDepth 20000 in
theorem ggX5_digest_X4_suitableSet : GoodIn wsX5_digest wsX4_suitableSet := goodIn_r _ [73, 33, 34, 35, 36, 30, 37, 38, 39, 74, 28, 29, 31, 32, 75, 76, 77, 78, 79, 80, 81, 82, 83, 84, 101, 102, 103, 104, 105, 106] (by decide +kernel) (by decide +kernel)
set_option maxRecDepth 20000 in
theorem gX5_digest_X4_suitableSet : GoodIn wsX5_digest (wsV RX5 121 RX4 yX4_suitableSet wsX4_suitableSet) := goodIn_app (goodIn_of _ (by decide +kernel)) ggX5_digest_X4_suitableSet
theorem dX5_digest_0 : decode cX5_digest 0 = .ok (.ldc2_w 206, 3) := by decide +kernel
theorem dX5_digest_3 : decode cX5_digest 3 = .ok (.lstore_n 1, 1) := by decide +kernel
theorem dX5_digest_4 : decode cX5_digest 4 = .ok (.lload_n 1, 1) := by decide +kernel
theorem dX5_digest_5 : decode cX5_digest 5 = .ok (.aload_n 0, 1) := by decide +kernel
theorem dX5_digest_6 : decode cX5_digest 6 = .ok (.invokevirtual 208, 3) := by decide +kernel
theorem dX5_digest_9 : decode cX5_digest 9 = .ok (.invokestatic 211, 3) := by decide +kernel
theorem dX5_digest_12 : decode cX5_digest 12 = .ok (.lstore_n 1, 1) := by decide +kernel
theorem dX5_digest_13 : decode cX5_digest 13 = .ok (.lload_n 1, 1) := by decide +kernel
theorem dX5_digest_14 : decode cX5_digest 14 = .ok (.aload_n 0, 1) := by decide +kernel
theorem dX5_digest_15 : decode cX5_digest 15 = .ok (.invokevirtual 215, 3) := by decide +kernel
theorem dX5_digest_18 : decode cX5_digest 18 = .ok (.invokestatic 211, 3) := by decide +kernel
theorem dX5_digest_21 : decode cX5_digest 21 = .ok (.lstore_n 1, 1) := by decide +kernel
theorem dX5_digest_22 : decode cX5_digest 22 = .ok (.lload_n 1, 1) := by decide +kernel
theorem dX5_digest_23 : decode cX5_digest 23 = .ok (.aload_n 0, 1) := by decide +kernel
theorem dX5_digest_24 : decode cX5_digest 24 = .ok (.invokevirtual 217, 3) := by decide +kernel
theorem dX5_digest_27 : decode cX5_digest 27 = .ok (.invokestatic 211, 3) := by decide +kernel
theorem dX5_digest_30 : decode cX5_digest 30 = .ok (.lstore_n 1, 1) := by decide +kernel
theorem dX5_digest_31 : decode cX5_digest 31 = .ok (.lload_n 1, 1) := by decide +kernel
theorem dX5_digest_32 : decode cX5_digest 32 = .ok (.aload_n 0, 1) := by decide +kernel
theorem dX5_digest_33 : decode cX5_digest 33 = .ok (.invokevirtual 220, 3) := by decide +kernel
theorem dX5_digest_36 : decode cX5_digest 36 = .ok (.invokestatic 211, 3) := by decide +kernel
theorem dX5_digest_39 : decode cX5_digest 39 = .ok (.lstore_n 1, 1) := by decide +kernel
theorem dX5_digest_40 : decode cX5_digest 40 = .ok (.lload_n 1, 1) := by decide +kernel
theorem dX5_digest_41 : decode cX5_digest 41 = .ok (.aload_n 0, 1) := by decide +kernel
theorem dX5_digest_42 : decode cX5_digest 42 = .ok (.invokevirtual 222, 3) := by decide +kernel
theorem dX5_digest_45 : decode cX5_digest 45 = .ok (.invokestatic 211, 3) := by decide +kernel
theorem dX5_digest_48 : decode cX5_digest 48 = .ok (.lstore_n 1, 1) := by decide +kernel
theorem dX5_digest_49 : decode cX5_digest 49 = .ok (.lload_n 1, 1) := by decide +kernel
theorem dX5_digest_50 : decode cX5_digest 50 = .ok (.aload_n 0, 1) := by decide +kernel
theorem dX5_digest_51 : decode cX5_digest 51 = .ok (.invokevirtual 225, 3) := by decide +kernel
theorem dX5_digest_54 : decode cX5_digest 54 = .ok (.invokestatic 211, 3) := by decide +kernel
theorem dX5_digest_57 : decode cX5_digest 57 = .ok (.lstore_n 1, 1) := by decide +kernel
theorem dX5_digest_58 : decode cX5_digest 58 = .ok (.lload_n 1, 1) := by decide +kernel
theorem dX5_digest_59 : decode cX5_digest 59 = .ok (.aload_n 0, 1) := by decide +kernel
theorem dX5_digest_60 : decode cX5_digest 60 = .ok (.invokevirtual 228, 3) := by decide +kernel
theorem dX5_digest_63 : decode cX5_digest 63 = .ok (.invokestatic 211, 3) := by decide +kernel
theorem dX5_digest_66 : decode cX5_digest 66 = .ok (.lstore_n 1, 1) := by decide +kernel
theorem dX5_digest_67 : decode cX5_digest 67 = .ok (.lload_n 1, 1) := by decide +kernel
theorem dX5_digest_68 : decode cX5_digest 68 = .ok (.aload_n 0, 1) := by decide +kernel
theorem dX5_digest_69 : decode cX5_digest 69 = .ok (.invokevirtual 230, 3) := by decide +kernel
theorem dX5_digest_72 : decode cX5_digest 72 = .ok (.invokestatic 211, 3) := by decide +kernel
theorem dX5_digest_75 : decode cX5_digest 75 = .ok (.lstore_n 1, 1) := by decide +kernel
theorem dX5_digest_76 : decode cX5_digest 76 = .ok (.lload_n 1, 1) := by decide +kernel
theorem dX5_digest_77 : decode cX5_digest 77 = .ok (.aload_n 0, 1) := by decide +kernel
theorem dX5_digest_78 : decode cX5_digest 78 = .ok (.invokevirtual 232, 3) := by decide +kernel
theorem dX5_digest_81 : decode cX5_digest 81 = .ok (.invokestatic 211, 3) := by decide +kernel
theorem dX5_digest_84 : decode cX5_digest 84 = .ok (.lstore_n 1, 1) := by decide +kernel
theorem dX5_digest_85 : decode cX5_digest 85 = .ok (.aload_n 0, 1) := by decide +kernel
theorem dX5_digest_86 : decode cX5_digest 86 = .ok (.getfield 26, 3) := by decide +kernel
theorem dX5_digest_89 : decode cX5_digest 89 = .ok (.getfield 37, 3) := by decide +kernel
theorem dX5_digest_92 : decode cX5_digest 92 = .ok (.astore_n 3, 1) := by decide +kernel
theorem dX5_digest_93 : decode cX5_digest 93 = .ok (.iconst 0, 1) := by decide +kernel
theorem dX5_digest_94 : decode cX5_digest 94 = .ok (.istore 4, 2) := by decide +kernel
theorem dX5_digest_96 : decode cX5_digest 96 = .ok (.iload 4, 2) := by decide +kernel
theorem dX5_digest_98 : decode cX5_digest 98 = .ok (.aload_n 3, 1) := by decide +kernel
theorem dX5_digest_99 : decode cX5_digest 99 = .ok (.getfield 59, 3) := by decide +kernel
theorem dX5_digest_102 : decode cX5_digest 102 = .ok (.if_icmp .ge 66, 3) := by decide +kernel
theorem dX5_digest_105 : decode cX5_digest 105 = .ok (.iload 4, 2) := by decide +kernel
theorem dX5_digest_107 : decode cX5_digest 107 = .ok (.bipush 12, 2) := by decide +kernel
theorem dX5_digest_109 : decode cX5_digest 109 = .ok (.if_icmp .ge 59, 3) := by decide +kernel
theorem dX5_digest_112 : decode cX5_digest 112 = .ok (.lload_n 1, 1) := by decide +kernel
theorem dX5_digest_113 : decode cX5_digest 113 = .ok (.aload_n 3, 1) := by decide +kernel
theorem dX5_digest_114 : decode cX5_digest 114 = .ok (.getfield 95, 3) := by decide +kernel
theorem dX5_digest_117 : decode cX5_digest 117 = .ok (.iload 4, 2) := by decide +kernel
theorem dX5_digest_119 : decode cX5_digest 119 = .ok (.iaload, 1) := by decide +kernel
theorem dX5_digest_120 : decode cX5_digest 120 = .ok (.invokestatic 211, 3) := by decide +kernel
theorem dX5_digest_123 : decode cX5_digest 123 = .ok (.lstore_n 1, 1) := by decide +kernel
theorem dX5_digest_124 : decode cX5_digest 124 = .ok (.lload_n 1, 1) := by decide +kernel
theorem dX5_digest_125 : decode cX5_digest 125 = .ok (.aload_n 3, 1) := by decide +kernel
theorem dX5_digest_126 : decode cX5_digest 126 = .ok (.getfield 99, 3) := by decide +kernel
theorem dX5_digest_129 : decode cX5_digest 129 = .ok (.iload 4, 2) := by decide +kernel
theorem dX5_digest_131 : decode cX5_digest 131 = .ok (.iaload, 1) := by decide +kernel
theorem dX5_digest_132 : decode cX5_digest 132 = .ok (.invokestatic 211, 3) := by decide +kernel
theorem dX5_digest_135 : decode cX5_digest 135 = .ok (.lstore_n 1, 1) := by decide +kernel
theorem dX5_digest_136 : decode cX5_digest 136 = .ok (.lload_n 1, 1) := by decide +kernel
theorem dX5_digest_137 : decode cX5_digest 137 = .ok (.aload_n 3, 1) := by decide +kernel
theorem dX5_digest_138 : decode cX5_digest 138 = .ok (.getfield 102, 3) := by decide +kernel
theorem dX5_digest_141 : decode cX5_digest 141 = .ok (.iload 4, 2) := by decide +kernel
theorem dX5_digest_143 : decode cX5_digest 143 = .ok (.iaload, 1) := by decide +kernel
theorem dX5_digest_144 : decode cX5_digest 144 = .ok (.invokestatic 211, 3) := by decide +kernel
theorem dX5_digest_147 : decode cX5_digest 147 = .ok (.lstore_n 1, 1) := by decide +kernel
theorem dX5_digest_148 : decode cX5_digest 148 = .ok (.lload_n 1, 1) := by decide +kernel
theorem dX5_digest_149 : decode cX5_digest 149 = .ok (.aload_n 3, 1) := by decide +kernel
theorem dX5_digest_150 : decode cX5_digest 150 = .ok (.getfield 105, 3) := by decide +kernel
theorem dX5_digest_153 : decode cX5_digest 153 = .ok (.iload 4, 2) := by decide +kernel
theorem dX5_digest_155 : decode cX5_digest 155 = .ok (.ishr, 1) := by decide +kernel
theorem dX5_digest_156 : decode cX5_digest 156 = .ok (.iconst 1, 1) := by decide +kernel
theorem dX5_digest_157 : decode cX5_digest 157 = .ok (.iand, 1) := by decide +kernel
theorem dX5_digest_158 : decode cX5_digest 158 = .ok (.invokestatic 211, 3) := by decide +kernel
theorem dX5_digest_161 : decode cX5_digest 161 = .ok (.lstore_n 1, 1) := by decide +kernel
theorem dX5_digest_162 : decode cX5_digest 162 = .ok (.iinc 4 1, 3) := by decide +kernel
theorem dX5_digest_165 : decode cX5_digest 165 = .ok (.goto (-69), 3) := by decide +kernel
theorem dX5_digest_168 : decode cX5_digest 168 = .ok (.iconst 0, 1) := by decide +kernel
theorem dX5_digest_169 : decode cX5_digest 169 = .ok (.istore 4, 2) := by decide +kernel
theorem dX5_digest_171 : decode cX5_digest 171 = .ok (.iload 4, 2) := by decide +kernel
theorem dX5_digest_173 : decode cX5_digest 173 = .ok (.iconst 4, 1) := by decide +kernel
theorem dX5_digest_174 : decode cX5_digest 174 = .ok (.if_icmp .gt 20, 3) := by decide +kernel
theorem dX5_digest_177 : decode cX5_digest 177 = .ok (.lload_n 1, 1) := by decide +kernel
theorem dX5_digest_178 : decode cX5_digest 178 = .ok (.aload_n 3, 1) := by decide +kernel
theorem dX5_digest_179 : decode cX5_digest 179 = .ok (.iload 4, 2) := by decide +kernel
theorem dX5_digest_181 : decode cX5_digest 181 = .ok (.invokevirtual 121, 3) := by decide +kernel
theorem dX5_digest_184 : decode cX5_digest 184 = .ok (.invokestatic 211, 3) := by decide +kernel
theorem dX5_digest_187 : decode cX5_digest 187 = .ok (.lstore_n 1, 1) := by decide +kernel
theorem dX5_digest_188 : decode cX5_digest 188 = .ok (.iinc 4 1, 3) := by decide +kernel
theorem dX5_digest_191 : decode cX5_digest 191 = .ok (.goto (-20), 3) := by decide +kernel
theorem dX5_digest_194 : decode cX5_digest 194 = .ok (.lload_n 1, 1) := by decide +kernel
theorem dX5_digest_195 : decode cX5_digest 195 = .ok (.lreturn, 1) := by decide +kernel
theorem dX5_mixed_0 : decode cX5_mixed 0 = .ok (.ldc2_w 234, 3) := by decide +kernel
theorem dX5_mixed_3 : decode cX5_mixed 3 = .ok (.lload_n 0, 1) := by decide +kernel
theorem dX5_mixed_4 : decode cX5_mixed 4 = .ok (.lmul, 1) := by decide +kernel
theorem dX5_mixed_5 : decode cX5_mixed 5 = .ok (.iload_n 2, 1) := by decide +kernel
theorem dX5_mixed_6 : decode cX5_mixed 6 = .ok (.i2l, 1) := by decide +kernel
theorem dX5_mixed_7 : decode cX5_mixed 7 = .ok (.ladd, 1) := by decide +kernel
theorem dX5_mixed_8 : decode cX5_mixed 8 = .ok (.lreturn, 1) := by decide +kernel
set_option maxRecDepth 20000 in
theorem ggX5_save_X5_hasRow : GoodIn wsX5_save wsX5_hasRow := goodIn_r _ [9, 2, 48, 49, 50, 51, 52, 53, 54] (by decide +kernel) (by decide +kernel)
set_option maxRecDepth 20000 in
theorem gX5_save_X5_hasRow : GoodIn wsX5_save (wsV RX5 203 RX5 yX5_hasRow wsX5_hasRow) := goodIn_app (goodIn_of _ (by decide +kernel)) ggX5_save_X5_hasRow
set_option maxRecDepth 20000 in
theorem ggX5_save_X3_copyFrom : GoodIn wsX5_save wsX3_copyFrom := goodIn_r _ [14, 15, 16, 17, 18, 19, 20, 21, 22, 23, 24, 25, 26, 27, 28, 29, 30, 31, 32, 33, 34, 35, 36, 37, 38, 39, 40, 41, 42, 43, 44, 45, 46, 47, 55, 56, 57, 58, 59, 60, 61, 62, 63, 64, 65, 66, 67, 68, 69, 70, 71, 72, 73, 74, 75, 76, 77] (by decide +kernel) (by decide +kernel)
set_option maxRecDepth 20000 in
theorem gX5_save_X3_copyFrom : GoodIn wsX5_save (wsV RX5 184 RX3 yX3_copyFrom wsX3_copyFrom) := goodIn_app (goodIn_of _ (by decide +kernel)) ggX5_save_X3_copyFrom
theorem dX5_save_0 : decode cX5_save 0 = .ok (.aload_n 0, 1) := by decide +kernel
theorem dX5_save_1 : decode cX5_save 1 = .ok (.aload_n 0, 1) := by decide +kernel
theorem dX5_save_2 : decode cX5_save 2 = .ok (.getfield 200, 3) := by decide +kernel
theorem dX5_save_5 : decode cX5_save 5 = .ok (.invokevirtual 203, 3) := by decide +kernel
theorem dX5_save_8 : decode cX5_save 8 = .ok (.ifCond .eq 19, 3) := by decide +kernel
theorem dX5_save_11 : decode cX5_save 11 = .ok (.aload_n 0, 1) := by decide +kernel
theorem dX5_save_12 : decode cX5_save 12 = .ok (.getfield 33, 3) := by decide +kernel
theorem dX5_save_15 : decode cX5_save 15 = .ok (.aload_n 0, 1) := by decide +kernel
theorem dX5_save_16 : decode cX5_save 16 = .ok (.getfield 200, 3) := by decide +kernel
theorem dX5_save_19 : decode cX5_save 19 = .ok (.aaload, 1) := by decide +kernel
theorem dX5_save_20 : decode cX5_save 20 = .ok (.aload_n 0, 1) := by decide +kernel
theorem dX5_save_21 : decode cX5_save 21 = .ok (.getfield 26, 3) := by decide +kernel
theorem dX5_save_24 : decode cX5_save 24 = .ok (.invokevirtual 184, 3) := by decide +kernel
theorem dX5_save_27 : decode cX5_save 27 = .ok (.aload_n 0, 1) := by decide +kernel
theorem dX5_save_28 : decode cX5_save 28 = .ok (.aload_n 0, 1) := by decide +kernel
theorem dX5_save_29 : decode cX5_save 29 = .ok (.getfield 200, 3) := by decide +kernel
theorem dX5_save_32 : decode cX5_save 32 = .ok (.iconst 1, 1) := by decide +kernel
theorem dX5_save_33 : decode cX5_save 33 = .ok (.iadd, 1) := by decide +kernel
theorem dX5_save_34 : decode cX5_save 34 = .ok (.bipush 6, 2) := by decide +kernel
theorem dX5_save_36 : decode cX5_save 36 = .ok (.if_icmp .ge 12, 3) := by decide +kernel
theorem dX5_save_39 : decode cX5_save 39 = .ok (.aload_n 0, 1) := by decide +kernel
theorem dX5_save_40 : decode cX5_save 40 = .ok (.getfield 200, 3) := by decide +kernel
theorem dX5_save_43 : decode cX5_save 43 = .ok (.iconst 1, 1) := by decide +kernel
theorem dX5_save_44 : decode cX5_save 44 = .ok (.iadd, 1) := by decide +kernel
theorem dX5_save_45 : decode cX5_save 45 = .ok (.goto 4, 3) := by decide +kernel
theorem dX5_save_48 : decode cX5_save 48 = .ok (.iconst 0, 1) := by decide +kernel
theorem dX5_save_49 : decode cX5_save 49 = .ok (.putfield 200, 3) := by decide +kernel
theorem dX5_save_52 : decode cX5_save 52 = .ok (.aload_n 0, 1) := by decide +kernel
theorem dX5_save_53 : decode cX5_save 53 = .ok (.getfield 197, 3) := by decide +kernel
theorem dX5_save_56 : decode cX5_save 56 = .ok (.bipush 6, 2) := by decide +kernel
theorem dX5_save_58 : decode cX5_save 58 = .ok (.if_icmp .ge 13, 3) := by decide +kernel
theorem dX5_save_61 : decode cX5_save 61 = .ok (.aload_n 0, 1) := by decide +kernel
theorem dX5_save_62 : decode cX5_save 62 = .ok (.dup, 1) := by decide +kernel
theorem dX5_save_63 : decode cX5_save 63 = .ok (.getfield 197, 3) := by decide +kernel
theorem dX5_save_66 : decode cX5_save 66 = .ok (.iconst 1, 1) := by decide +kernel
theorem dX5_save_67 : decode cX5_save 67 = .ok (.iadd, 1) := by decide +kernel
theorem dX5_save_68 : decode cX5_save 68 = .ok (.putfield 197, 3) := by decide +kernel
theorem dX5_save_71 : decode cX5_save 71 = .ok (.return_, 1) := by decide +kernel
theorem dX5_hasRow_0 : decode cX5_hasRow 0 = .ok (.iload_n 1, 1) := by decide +kernel
theorem dX5_hasRow_1 : decode cX5_hasRow 1 = .ok (.ifCond .lt 25, 3) := by decide +kernel
theorem dX5_hasRow_4 : decode cX5_hasRow 4 = .ok (.iload_n 1, 1) := by decide +kernel
theorem dX5_hasRow_5 : decode cX5_hasRow 5 = .ok (.aload_n 0, 1) := by decide +kernel
theorem dX5_hasRow_6 : decode cX5_hasRow 6 = .ok (.getfield 33, 3) := by decide +kernel
theorem dX5_hasRow_9 : decode cX5_hasRow 9 = .ok (.arraylength, 1) := by decide +kernel
theorem dX5_hasRow_10 : decode cX5_hasRow 10 = .ok (.if_icmp .ge 16, 3) := by decide +kernel
theorem dX5_hasRow_13 : decode cX5_hasRow 13 = .ok (.aload_n 0, 1) := by decide +kernel
theorem dX5_hasRow_14 : decode cX5_hasRow 14 = .ok (.getfield 33, 3) := by decide +kernel
theorem dX5_hasRow_17 : decode cX5_hasRow 17 = .ok (.iload_n 1, 1) := by decide +kernel
theorem dX5_hasRow_18 : decode cX5_hasRow 18 = .ok (.aaload, 1) := by decide +kernel
theorem dX5_hasRow_19 : decode cX5_hasRow 19 = .ok (.ifnull 7, 3) := by decide +kernel
theorem dX5_hasRow_22 : decode cX5_hasRow 22 = .ok (.iconst 1, 1) := by decide +kernel
theorem dX5_hasRow_23 : decode cX5_hasRow 23 = .ok (.goto 4, 3) := by decide +kernel
theorem dX5_hasRow_26 : decode cX5_hasRow 26 = .ok (.iconst 0, 1) := by decide +kernel
theorem dX5_hasRow_27 : decode cX5_hasRow 27 = .ok (.ireturn, 1) := by decide +kernel
set_option maxRecDepth 20000 in
theorem ggX5_readBuffer_X3_isAsking : GoodIn wsX5_readBuffer wsX3_isAsking := goodIn_r _ [9, 10, 125, 126, 127, 128, 129, 130, 131, 132, 133] (by decide +kernel) (by decide +kernel)
set_option maxRecDepth 20000 in
theorem gX5_readBuffer_X3_isAsking : GoodIn wsX5_readBuffer (wsV RX5 152 RX3 yX3_isAsking wsX3_isAsking) := goodIn_app (goodIn_of _ (by decide +kernel)) ggX5_readBuffer_X3_isAsking
set_option maxRecDepth 20000 in
theorem ggX5_readBuffer_X2_start : GoodIn wsX5_readBuffer wsX2_start := goodIn_r _ [15, 16, 17, 18, 19, 20, 21, 22, 23, 24, 25, 26, 27, 28, 29, 30, 31, 134, 135, 136, 137, 138, 139, 140, 141, 142, 143, 144] (by decide +kernel) (by decide +kernel)
set_option maxRecDepth 20000 in
theorem gX5_readBuffer_X2_start : GoodIn wsX5_readBuffer (wsV RX5 156 RX2 yX2_start wsX2_start) := goodIn_app (goodIn_of _ (by decide +kernel)) ggX5_readBuffer_X2_start
set_option maxRecDepth 20000 in
theorem ggX5_readBuffer_X0_isSpace : GoodIn wsX5_readBuffer wsX0_isSpace := goodIn_r _ [36, 37, 38, 39, 35, 40, 41, 42, 123, 124] (by decide +kernel) (by decide +kernel)
set_option maxRecDepth 20000 in
theorem gX5_readBuffer_X0_isSpace : GoodIn wsX5_readBuffer (wsV RX5 142 RX0 yX0_isSpace wsX0_isSpace) := goodIn_app (goodIn_of _ (by decide +kernel)) ggX5_readBuffer_X0_isSpace
set_option maxRecDepth 20000 in
theorem ggX5_readBuffer_X0_wordAt : GoodIn wsX5_readBuffer wsX0_wordAt := goodIn_r _ [46, 47, 48, 49, 50, 51, 52, 53, 54, 55, 56, 35, 57, 37, 38, 39, 40, 41, 42, 123, 124] (by decide +kernel) (by decide +kernel)
set_option maxRecDepth 20000 in
theorem gX5_readBuffer_X0_wordAt : GoodIn wsX5_readBuffer (wsV RX5 160 RX0 yX0_wordAt wsX0_wordAt) := goodIn_app (goodIn_of _ (by decide +kernel)) ggX5_readBuffer_X0_wordAt
set_option maxRecDepth 20000 in
theorem ggX5_readBuffer_X2_read : GoodIn wsX5_readBuffer wsX2_read := goodIn_r _ [61, 16, 17, 62, 63, 64, 14, 65, 66, 67, 68, 69, 18, 70, 48, 71, 72, 73, 74, 75, 76, 77, 78, 79, 80, 81, 82, 83, 84, 85, 86, 87, 88, 89, 90, 22, 91, 27, 31, 92, 93, 94, 95, 24, 30, 96, 97, 98, 99, 100, 101, 102, 103, 104, 105, 106, 107, 25, 108, 109, 110, 111, 28, 29, 134, 135, 136, 137, 138, 139, 140, 141, 142, 143, 144] (by decide +kernel) (by decide +kernel)
set_option maxRecDepth 20000 in
theorem gX5_readBuffer_X2_read : GoodIn wsX5_readBuffer (wsV RX5 163 RX2 yX2_read wsX2_read) := goodIn_app (goodIn_of _ (by decide +kernel)) ggX5_readBuffer_X2_read
set_option maxRecDepth 20000 in
theorem ggX5_readBuffer_X2_isComplete : GoodIn wsX5_readBuffer wsX2_isComplete := goodIn_r _ [115, 17, 16, 87, 134, 135, 136, 137, 138, 139, 140, 141, 142, 143, 144] (by decide +kernel) (by decide +kernel)
set_option maxRecDepth 20000 in
theorem gX5_readBuffer_X2_isComplete : GoodIn wsX5_readBuffer (wsV RX5 236 RX2 yX2_isComplete wsX2_isComplete) := goodIn_app (goodIn_of _ (by decide +kernel)) ggX5_readBuffer_X2_isComplete
theorem dX5_readBuffer_0 : decode cX5_readBuffer 0 = .ok (.aload_n 0, 1) := by decide +kernel
theorem dX5_readBuffer_1 : decode cX5_readBuffer 1 = .ok (.getfield 19, 3) := by decide +kernel
theorem dX5_readBuffer_4 : decode cX5_readBuffer 4 = .ok (.aload_n 0, 1) := by decide +kernel
theorem dX5_readBuffer_5 : decode cX5_readBuffer 5 = .ok (.getfield 26, 3) := by decide +kernel
theorem dX5_readBuffer_8 : decode cX5_readBuffer 8 = .ok (.invokevirtual 152, 3) := by decide +kernel
theorem dX5_readBuffer_11 : decode cX5_readBuffer 11 = .ok (.invokevirtual 156, 3) := by decide +kernel
theorem dX5_readBuffer_14 : decode cX5_readBuffer 14 = .ok (.iconst 0, 1) := by decide +kernel
theorem dX5_readBuffer_15 : decode cX5_readBuffer 15 = .ok (.istore_n 1, 1) := by decide +kernel
theorem dX5_readBuffer_16 : decode cX5_readBuffer 16 = .ok (.iconst 0, 1) := by decide +kernel
theorem dX5_readBuffer_17 : decode cX5_readBuffer 17 = .ok (.istore_n 2, 1) := by decide +kernel
theorem dX5_readBuffer_18 : decode cX5_readBuffer 18 = .ok (.iload_n 2, 1) := by decide +kernel
theorem dX5_readBuffer_19 : decode cX5_readBuffer 19 = .ok (.aload_n 0, 1) := by decide +kernel
theorem dX5_readBuffer_20 : decode cX5_readBuffer 20 = .ok (.getfield 12, 3) := by decide +kernel
theorem dX5_readBuffer_23 : decode cX5_readBuffer 23 = .ok (.getfield 139, 3) := by decide +kernel
theorem dX5_readBuffer_26 : decode cX5_readBuffer 26 = .ok (.if_icmp .gt 56, 3) := by decide +kernel
theorem dX5_readBuffer_29 : decode cX5_readBuffer 29 = .ok (.iload_n 2, 1) := by decide +kernel
theorem dX5_readBuffer_30 : decode cX5_readBuffer 30 = .ok (.aload_n 0, 1) := by decide +kernel
theorem dX5_readBuffer_31 : decode cX5_readBuffer 31 = .ok (.getfield 12, 3) := by decide +kernel
theorem dX5_readBuffer_34 : decode cX5_readBuffer 34 = .ok (.getfield 139, 3) := by decide +kernel
theorem dX5_readBuffer_37 : decode cX5_readBuffer 37 = .ok (.if_icmp .eq 14, 3) := by decide +kernel
theorem dX5_readBuffer_40 : decode cX5_readBuffer 40 = .ok (.aload_n 0, 1) := by decide +kernel
theorem dX5_readBuffer_41 : decode cX5_readBuffer 41 = .ok (.getfield 12, 3) := by decide +kernel
theorem dX5_readBuffer_44 : decode cX5_readBuffer 44 = .ok (.iload_n 2, 1) := by decide +kernel
theorem dX5_readBuffer_45 : decode cX5_readBuffer 45 = .ok (.invokevirtual 142, 3) := by decide +kernel
theorem dX5_readBuffer_48 : decode cX5_readBuffer 48 = .ok (.ifCond .eq 28, 3) := by decide +kernel
theorem dX5_readBuffer_51 : decode cX5_readBuffer 51 = .ok (.aload_n 0, 1) := by decide +kernel
theorem dX5_readBuffer_52 : decode cX5_readBuffer 52 = .ok (.getfield 19, 3) := by decide +kernel
theorem dX5_readBuffer_55 : decode cX5_readBuffer 55 = .ok (.aload_n 0, 1) := by decide +kernel
theorem dX5_readBuffer_56 : decode cX5_readBuffer 56 = .ok (.getfield 12, 3) := by decide +kernel
theorem dX5_readBuffer_59 : decode cX5_readBuffer 59 = .ok (.iload_n 1, 1) := by decide +kernel
theorem dX5_readBuffer_60 : decode cX5_readBuffer 60 = .ok (.iload_n 2, 1) := by decide +kernel
theorem dX5_readBuffer_61 : decode cX5_readBuffer 61 = .ok (.invokevirtual 160, 3) := by decide +kernel
theorem dX5_readBuffer_64 : decode cX5_readBuffer 64 = .ok (.invokevirtual 163, 3) := by decide +kernel
theorem dX5_readBuffer_67 : decode cX5_readBuffer 67 = .ok (.ifCond .ne 5, 3) := by decide +kernel
theorem dX5_readBuffer_70 : decode cX5_readBuffer 70 = .ok (.iconst 0, 1) := by decide +kernel
theorem dX5_readBuffer_71 : decode cX5_readBuffer 71 = .ok (.ireturn, 1) := by decide +kernel
theorem dX5_readBuffer_72 : decode cX5_readBuffer 72 = .ok (.iload_n 2, 1) := by decide +kernel
theorem dX5_readBuffer_73 : decode cX5_readBuffer 73 = .ok (.iconst 1, 1) := by decide +kernel
theorem dX5_readBuffer_74 : decode cX5_readBuffer 74 = .ok (.iadd, 1) := by decide +kernel
theorem dX5_readBuffer_75 : decode cX5_readBuffer 75 = .ok (.istore_n 1, 1) := by decide +kernel
theorem dX5_readBuffer_76 : decode cX5_readBuffer 76 = .ok (.iinc 2 1, 3) := by decide +kernel
theorem dX5_readBuffer_79 : decode cX5_readBuffer 79 = .ok (.goto (-61), 3) := by decide +kernel
theorem dX5_readBuffer_82 : decode cX5_readBuffer 82 = .ok (.aload_n 0, 1) := by decide +kernel
theorem dX5_readBuffer_83 : decode cX5_readBuffer 83 = .ok (.getfield 19, 3) := by decide +kernel
theorem dX5_readBuffer_86 : decode cX5_readBuffer 86 = .ok (.invokevirtual 236, 3) := by decide +kernel
theorem dX5_readBuffer_89 : decode cX5_readBuffer 89 = .ok (.ireturn, 1) := by decide +kernel
theorem dX5_isNoun_0 : decode cX5_isNoun 0 = .ok (.iload_n 0, 1) := by decide +kernel
theorem dX5_isNoun_1 : decode cX5_isNoun 1 = .ok (.ifCond .lt 13, 3) := by decide +kernel
theorem dX5_isNoun_4 : decode cX5_isNoun 4 = .ok (.iload_n 0, 1) := by decide +kernel
theorem dX5_isNoun_5 : decode cX5_isNoun 5 = .ok (.bipush 6, 2) := by decide +kernel
theorem dX5_isNoun_7 : decode cX5_isNoun 7 = .ok (.if_icmp .ge 7, 3) := by decide +kernel
theorem dX5_isNoun_10 : decode cX5_isNoun 10 = .ok (.iconst 1, 1) := by decide +kernel
theorem dX5_isNoun_11 : decode cX5_isNoun 11 = .ok (.goto 4, 3) := by decide +kernel
theorem dX5_isNoun_14 : decode cX5_isNoun 14 = .ok (.iconst 0, 1) := by decide +kernel
theorem dX5_isNoun_15 : decode cX5_isNoun 15 = .ok (.ireturn, 1) := by decide +kernel
theorem dX5_isAdjective_0 : decode cX5_isAdjective 0 = .ok (.iload_n 0, 1) := by decide +kernel
theorem dX5_isAdjective_1 : decode cX5_isAdjective 1 = .ok (.ifCond .lt 12, 3) := by decide +kernel
theorem dX5_isAdjective_4 : decode cX5_isAdjective 4 = .ok (.iload_n 0, 1) := by decide +kernel
theorem dX5_isAdjective_5 : decode cX5_isAdjective 5 = .ok (.iconst 4, 1) := by decide +kernel
theorem dX5_isAdjective_6 : decode cX5_isAdjective 6 = .ok (.if_icmp .ge 7, 3) := by decide +kernel
theorem dX5_isAdjective_9 : decode cX5_isAdjective 9 = .ok (.iconst 1, 1) := by decide +kernel
theorem dX5_isAdjective_10 : decode cX5_isAdjective 10 = .ok (.goto 4, 3) := by decide +kernel
theorem dX5_isAdjective_13 : decode cX5_isAdjective 13 = .ok (.iconst 0, 1) := by decide +kernel
theorem dX5_isAdjective_14 : decode cX5_isAdjective 14 = .ok (.ireturn, 1) := by decide +kernel
theorem dX5_isRoom_0 : decode cX5_isRoom 0 = .ok (.iload_n 0, 1) := by decide +kernel
theorem dX5_isRoom_1 : decode cX5_isRoom 1 = .ok (.ifCond .lt 12, 3) := by decide +kernel
theorem dX5_isRoom_4 : decode cX5_isRoom 4 = .ok (.iload_n 0, 1) := by decide +kernel
theorem dX5_isRoom_5 : decode cX5_isRoom 5 = .ok (.iconst 4, 1) := by decide +kernel
theorem dX5_isRoom_6 : decode cX5_isRoom 6 = .ok (.if_icmp .ge 7, 3) := by decide +kernel
theorem dX5_isRoom_9 : decode cX5_isRoom 9 = .ok (.iconst 1, 1) := by decide +kernel
theorem dX5_isRoom_10 : decode cX5_isRoom 10 = .ok (.goto 4, 3) := by decide +kernel
theorem dX5_isRoom_13 : decode cX5_isRoom 13 = .ok (.iconst 0, 1) := by decide +kernel
theorem dX5_isRoom_14 : decode cX5_isRoom 14 = .ok (.ireturn, 1) := by decide +kernel
theorem dX5_isContainerNoun_0 : decode cX5_isContainerNoun 0 = .ok (.iload_n 0, 1) := by decide +kernel
theorem dX5_isContainerNoun_1 : decode cX5_isContainerNoun 1 = .ok (.iconst 1, 1) := by decide +kernel
theorem dX5_isContainerNoun_2 : decode cX5_isContainerNoun 2 = .ok (.if_icmp .eq 8, 3) := by decide +kernel
theorem dX5_isContainerNoun_5 : decode cX5_isContainerNoun 5 = .ok (.iload_n 0, 1) := by decide +kernel
theorem dX5_isContainerNoun_6 : decode cX5_isContainerNoun 6 = .ok (.iconst 5, 1) := by decide +kernel
theorem dX5_isContainerNoun_7 : decode cX5_isContainerNoun 7 = .ok (.if_icmp .ne 7, 3) := by decide +kernel
theorem dX5_isContainerNoun_10 : decode cX5_isContainerNoun 10 = .ok (.iconst 1, 1) := by decide +kernel
theorem dX5_isContainerNoun_11 : decode cX5_isContainerNoun 11 = .ok (.goto 4, 3) := by decide +kernel
theorem dX5_isContainerNoun_14 : decode cX5_isContainerNoun 14 = .ok (.iconst 0, 1) := by decide +kernel
theorem dX5_isContainerNoun_15 : decode cX5_isContainerNoun 15 = .ok (.ireturn, 1) := by decide +kernel
theorem dX5_isAdjectiveWord_0 : decode cX5_isAdjectiveWord 0 = .ok (.iload_n 0, 1) := by decide +kernel
theorem dX5_isAdjectiveWord_1 : decode cX5_isAdjectiveWord 1 = .ok (.bipush 6, 2) := by decide +kernel
theorem dX5_isAdjectiveWord_3 : decode cX5_isAdjectiveWord 3 = .ok (.if_icmp .lt 13, 3) := by decide +kernel
theorem dX5_isAdjectiveWord_6 : decode cX5_isAdjectiveWord 6 = .ok (.iload_n 0, 1) := by decide +kernel
theorem dX5_isAdjectiveWord_7 : decode cX5_isAdjectiveWord 7 = .ok (.bipush 10, 2) := by decide +kernel
theorem dX5_isAdjectiveWord_9 : decode cX5_isAdjectiveWord 9 = .ok (.if_icmp .ge 7, 3) := by decide +kernel
theorem dX5_isAdjectiveWord_12 : decode cX5_isAdjectiveWord 12 = .ok (.iconst 1, 1) := by decide +kernel
theorem dX5_isAdjectiveWord_13 : decode cX5_isAdjectiveWord 13 = .ok (.goto 4, 3) := by decide +kernel
theorem dX5_isAdjectiveWord_16 : decode cX5_isAdjectiveWord 16 = .ok (.iconst 0, 1) := by decide +kernel
theorem dX5_isAdjectiveWord_17 : decode cX5_isAdjectiveWord 17 = .ok (.ireturn, 1) := by decide +kernel
theorem dX5_isVerbWord_0 : decode cX5_isVerbWord 0 = .ok (.iload_n 0, 1) := by decide +kernel
theorem dX5_isVerbWord_1 : decode cX5_isVerbWord 1 = .ok (.bipush 10, 2) := by decide +kernel
theorem dX5_isVerbWord_3 : decode cX5_isVerbWord 3 = .ok (.if_icmp .lt 13, 3) := by decide +kernel
theorem dX5_isVerbWord_6 : decode cX5_isVerbWord 6 = .ok (.iload_n 0, 1) := by decide +kernel
theorem dX5_isVerbWord_7 : decode cX5_isVerbWord 7 = .ok (.bipush 17, 2) := by decide +kernel
theorem dX5_isVerbWord_9 : decode cX5_isVerbWord 9 = .ok (.if_icmp .ge 7, 3) := by decide +kernel
theorem dX5_isVerbWord_12 : decode cX5_isVerbWord 12 = .ok (.iconst 1, 1) := by decide +kernel
theorem dX5_isVerbWord_13 : decode cX5_isVerbWord 13 = .ok (.goto 4, 3) := by decide +kernel
theorem dX5_isVerbWord_16 : decode cX5_isVerbWord 16 = .ok (.iconst 0, 1) := by decide +kernel
theorem dX5_isVerbWord_17 : decode cX5_isVerbWord 17 = .ok (.ireturn, 1) := by decide +kernel
theorem dX5_letterOf_0 : decode cX5_letterOf 0 = .ok (.iload_n 0, 1) := by decide +kernel
theorem dX5_letterOf_1 : decode cX5_letterOf 1 = .ok (.iconst 5, 1) := by decide +kernel
theorem dX5_letterOf_2 : decode cX5_letterOf 2 = .ok (.imul, 1) := by decide +kernel
theorem dX5_letterOf_3 : decode cX5_letterOf 3 = .ok (.iload_n 1, 1) := by decide +kernel
theorem dX5_letterOf_4 : decode cX5_letterOf 4 = .ok (.iadd, 1) := by decide +kernel
theorem dX5_letterOf_5 : decode cX5_letterOf 5 = .ok (.istore_n 2, 1) := by decide +kernel
theorem dX5_letterOf_6 : decode cX5_letterOf 6 = .ok (.iload_n 1, 1) := by decide +kernel
theorem dX5_letterOf_7 : decode cX5_letterOf 7 = .ok (.iconst 5, 1) := by decide +kernel
theorem dX5_letterOf_8 : decode cX5_letterOf 8 = .ok (.if_icmp .ge 23, 3) := by decide +kernel
theorem dX5_letterOf_11 : decode cX5_letterOf 11 = .ok (.iload_n 2, 1) := by decide +kernel
theorem dX5_letterOf_12 : decode cX5_letterOf 12 = .ok (.ifCond .lt 19, 3) := by decide +kernel
theorem dX5_letterOf_15 : decode cX5_letterOf 15 = .ok (.iload_n 2, 1) := by decide +kernel
theorem dX5_letterOf_16 : decode cX5_letterOf 16 = .ok (.getstatic 246, 3) := by decide +kernel
theorem dX5_letterOf_19 : decode cX5_letterOf 19 = .ok (.arraylength, 1) := by decide +kernel
theorem dX5_letterOf_20 : decode cX5_letterOf 20 = .ok (.if_icmp .ge 11, 3) := by decide +kernel
theorem dX5_letterOf_23 : decode cX5_letterOf 23 = .ok (.getstatic 246, 3) := by decide +kernel
theorem dX5_letterOf_26 : decode cX5_letterOf 26 = .ok (.iload_n 2, 1) := by decide +kernel
theorem dX5_letterOf_27 : decode cX5_letterOf 27 = .ok (.caload, 1) := by decide +kernel
theorem dX5_letterOf_28 : decode cX5_letterOf 28 = .ok (.goto 5, 3) := by decide +kernel
theorem dX5_letterOf_31 : decode cX5_letterOf 31 = .ok (.bipush 32, 2) := by decide +kernel
theorem dX5_letterOf_33 : decode cX5_letterOf 33 = .ok (.ireturn, 1) := by decide +kernel
set_option maxRecDepth 20000 in
theorem ggX5_lengthOf_X5_letterOf : GoodIn wsX5_lengthOf wsX5_letterOf := goodIn_r _ [4, 5] (by decide +kernel) (by decide +kernel)
set_option maxRecDepth 20000 in
theorem gX5_lengthOf_X5_letterOf : GoodIn wsX5_lengthOf (va_wsS RX5 148 yX5_letterOf wsX5_letterOf) := goodIn_app (goodIn_of _ (by decide +kernel)) ggX5_lengthOf_X5_letterOf
theorem dX5_lengthOf_0 : decode cX5_lengthOf 0 = .ok (.iconst 0, 1) := by decide +kernel
theorem dX5_lengthOf_1 : decode cX5_lengthOf 1 = .ok (.istore_n 1, 1) := by decide +kernel
theorem dX5_lengthOf_2 : decode cX5_lengthOf 2 = .ok (.iload_n 1, 1) := by decide +kernel
theorem dX5_lengthOf_3 : decode cX5_lengthOf 3 = .ok (.iconst 5, 1) := by decide +kernel
theorem dX5_lengthOf_4 : decode cX5_lengthOf 4 = .ok (.if_icmp .ge 19, 3) := by decide +kernel
theorem dX5_lengthOf_7 : decode cX5_lengthOf 7 = .ok (.iload_n 0, 1) := by decide +kernel
theorem dX5_lengthOf_8 : decode cX5_lengthOf 8 = .ok (.iload_n 1, 1) := by decide +kernel
theorem dX5_lengthOf_9 : decode cX5_lengthOf 9 = .ok (.invokestatic 148, 3) := by decide +kernel
theorem dX5_lengthOf_12 : decode cX5_lengthOf 12 = .ok (.bipush 32, 2) := by decide +kernel
theorem dX5_lengthOf_14 : decode cX5_lengthOf 14 = .ok (.if_icmp .eq 9, 3) := by decide +kernel
theorem dX5_lengthOf_17 : decode cX5_lengthOf 17 = .ok (.iinc 1 1, 3) := by decide +kernel
theorem dX5_lengthOf_20 : decode cX5_lengthOf 20 = .ok (.goto (-18), 3) := by decide +kernel
theorem dX5_lengthOf_23 : decode cX5_lengthOf 23 = .ok (.iload_n 1, 1) := by decide +kernel
theorem dX5_lengthOf_24 : decode cX5_lengthOf 24 = .ok (.ireturn, 1) := by decide +kernel
theorem dJ6_bitCount_0f7a4_0 : decode cJ6_bitCount_0f7a4 0 = .ok (.iload_n 0, 1) := by decide +kernel
theorem dJ6_bitCount_0f7a4_1 : decode cJ6_bitCount_0f7a4 1 = .ok (.iload_n 0, 1) := by decide +kernel
theorem dJ6_bitCount_0f7a4_2 : decode cJ6_bitCount_0f7a4 2 = .ok (.iconst 1, 1) := by decide +kernel
theorem dJ6_bitCount_0f7a4_3 : decode cJ6_bitCount_0f7a4 3 = .ok (.iushr, 1) := by decide +kernel
theorem dJ6_bitCount_0f7a4_4 : decode cJ6_bitCount_0f7a4 4 = .ok (.ldc_w 265, 3) := by decide +kernel
theorem dJ6_bitCount_0f7a4_7 : decode cJ6_bitCount_0f7a4 7 = .ok (.iand, 1) := by decide +kernel
theorem dJ6_bitCount_0f7a4_8 : decode cJ6_bitCount_0f7a4 8 = .ok (.isub, 1) := by decide +kernel
theorem dJ6_bitCount_0f7a4_9 : decode cJ6_bitCount_0f7a4 9 = .ok (.istore_n 0, 1) := by decide +kernel
theorem dJ6_bitCount_0f7a4_10 : decode cJ6_bitCount_0f7a4 10 = .ok (.iload_n 0, 1) := by decide +kernel
theorem dJ6_bitCount_0f7a4_11 : decode cJ6_bitCount_0f7a4 11 = .ok (.ldc_w 266, 3) := by decide +kernel
theorem dJ6_bitCount_0f7a4_14 : decode cJ6_bitCount_0f7a4 14 = .ok (.iand, 1) := by decide +kernel
theorem dJ6_bitCount_0f7a4_15 : decode cJ6_bitCount_0f7a4 15 = .ok (.iload_n 0, 1) := by decide +kernel
theorem dJ6_bitCount_0f7a4_16 : decode cJ6_bitCount_0f7a4 16 = .ok (.iconst 2, 1) := by decide +kernel
theorem dJ6_bitCount_0f7a4_17 : decode cJ6_bitCount_0f7a4 17 = .ok (.iushr, 1) := by decide +kernel
theorem dJ6_bitCount_0f7a4_18 : decode cJ6_bitCount_0f7a4 18 = .ok (.ldc_w 266, 3) := by decide +kernel
theorem dJ6_bitCount_0f7a4_21 : decode cJ6_bitCount_0f7a4 21 = .ok (.iand, 1) := by decide +kernel
theorem dJ6_bitCount_0f7a4_22 : decode cJ6_bitCount_0f7a4 22 = .ok (.iadd, 1) := by decide +kernel
theorem dJ6_bitCount_0f7a4_23 : decode cJ6_bitCount_0f7a4 23 = .ok (.istore_n 0, 1) := by decide +kernel
theorem dJ6_bitCount_0f7a4_24 : decode cJ6_bitCount_0f7a4 24 = .ok (.iload_n 0, 1) := by decide +kernel
theorem dJ6_bitCount_0f7a4_25 : decode cJ6_bitCount_0f7a4 25 = .ok (.iload_n 0, 1) := by decide +kernel
theorem dJ6_bitCount_0f7a4_26 : decode cJ6_bitCount_0f7a4 26 = .ok (.iconst 4, 1) := by decide +kernel
theorem dJ6_bitCount_0f7a4_27 : decode cJ6_bitCount_0f7a4 27 = .ok (.iushr, 1) := by decide +kernel
theorem dJ6_bitCount_0f7a4_28 : decode cJ6_bitCount_0f7a4 28 = .ok (.iadd, 1) := by decide +kernel
theorem dJ6_bitCount_0f7a4_29 : decode cJ6_bitCount_0f7a4 29 = .ok (.ldc_w 267, 3) := by decide +kernel
theorem dJ6_bitCount_0f7a4_32 : decode cJ6_bitCount_0f7a4 32 = .ok (.iand, 1) := by decide +kernel
theorem dJ6_bitCount_0f7a4_33 : decode cJ6_bitCount_0f7a4 33 = .ok (.istore_n 0, 1) := by decide +kernel
theorem dJ6_bitCount_0f7a4_34 : decode cJ6_bitCount_0f7a4 34 = .ok (.iload_n 0, 1) := by decide +kernel
theorem dJ6_bitCount_0f7a4_35 : decode cJ6_bitCount_0f7a4 35 = .ok (.iload_n 0, 1) := by decide +kernel
theorem dJ6_bitCount_0f7a4_36 : decode cJ6_bitCount_0f7a4 36 = .ok (.bipush 8, 2) := by decide +kernel
theorem dJ6_bitCount_0f7a4_38 : decode cJ6_bitCount_0f7a4 38 = .ok (.iushr, 1) := by decide +kernel
theorem dJ6_bitCount_0f7a4_39 : decode cJ6_bitCount_0f7a4 39 = .ok (.iadd, 1) := by decide +kernel
theorem dJ6_bitCount_0f7a4_40 : decode cJ6_bitCount_0f7a4 40 = .ok (.istore_n 0, 1) := by decide +kernel
theorem dJ6_bitCount_0f7a4_41 : decode cJ6_bitCount_0f7a4 41 = .ok (.iload_n 0, 1) := by decide +kernel
theorem dJ6_bitCount_0f7a4_42 : decode cJ6_bitCount_0f7a4 42 = .ok (.iload_n 0, 1) := by decide +kernel
theorem dJ6_bitCount_0f7a4_43 : decode cJ6_bitCount_0f7a4 43 = .ok (.bipush 16, 2) := by decide +kernel
theorem dJ6_bitCount_0f7a4_45 : decode cJ6_bitCount_0f7a4 45 = .ok (.iushr, 1) := by decide +kernel
theorem dJ6_bitCount_0f7a4_46 : decode cJ6_bitCount_0f7a4 46 = .ok (.iadd, 1) := by decide +kernel
theorem dJ6_bitCount_0f7a4_47 : decode cJ6_bitCount_0f7a4 47 = .ok (.istore_n 0, 1) := by decide +kernel
theorem dJ6_bitCount_0f7a4_48 : decode cJ6_bitCount_0f7a4 48 = .ok (.iload_n 0, 1) := by decide +kernel
theorem dJ6_bitCount_0f7a4_49 : decode cJ6_bitCount_0f7a4 49 = .ok (.bipush 63, 2) := by decide +kernel
theorem dJ6_bitCount_0f7a4_51 : decode cJ6_bitCount_0f7a4 51 = .ok (.iand, 1) := by decide +kernel
theorem dJ6_bitCount_0f7a4_52 : decode cJ6_bitCount_0f7a4 52 = .ok (.ireturn, 1) := by decide +kernel
theorem dJ9_max_7cf53_0 : decode cJ9_max_7cf53 0 = .ok (.iload_n 0, 1) := by decide +kernel
theorem dJ9_max_7cf53_1 : decode cJ9_max_7cf53 1 = .ok (.iload_n 1, 1) := by decide +kernel
theorem dJ9_max_7cf53_2 : decode cJ9_max_7cf53 2 = .ok (.if_icmp .lt 7, 3) := by decide +kernel
theorem dJ9_max_7cf53_5 : decode cJ9_max_7cf53 5 = .ok (.iload_n 0, 1) := by decide +kernel
theorem dJ9_max_7cf53_6 : decode cJ9_max_7cf53 6 = .ok (.goto 4, 3) := by decide +kernel
theorem dJ9_max_7cf53_9 : decode cJ9_max_7cf53 9 = .ok (.iload_n 1, 1) := by decide +kernel
theorem dJ9_max_7cf53_10 : decode cJ9_max_7cf53 10 = .ok (.ireturn, 1) := by decide +kernel
theorem dL_cell_0 : decode cL_cell 0 = .ok (.iload_n 1, 1) := by decide +kernel
theorem dL_cell_1 : decode cL_cell 1 = .ok (.aload_n 0, 1) := by decide +kernel
theorem dL_cell_2 : decode cL_cell 2 = .ok (.arraylength, 1) := by decide +kernel
theorem dL_cell_3 : decode cL_cell 3 = .ok (.if_icmp .ge 9, 3) := by decide +kernel
theorem dL_cell_6 : decode cL_cell 6 = .ok (.aload_n 0, 1) := by decide +kernel
theorem dL_cell_7 : decode cL_cell 7 = .ok (.iload_n 1, 1) := by decide +kernel
theorem dL_cell_8 : decode cL_cell 8 = .ok (.iaload, 1) := by decide +kernel
theorem dL_cell_9 : decode cL_cell 9 = .ok (.goto 15, 3) := by decide +kernel
theorem dL_cell_12 : decode cL_cell 12 = .ok (.sipush 7919, 3) := by decide +kernel
theorem dL_cell_15 : decode cL_cell 15 = .ok (.iload_n 1, 1) := by decide +kernel
theorem dL_cell_16 : decode cL_cell 16 = .ok (.iconst 3, 1) := by decide +kernel
theorem dL_cell_17 : decode cL_cell 17 = .ok (.iadd, 1) := by decide +kernel
theorem dL_cell_18 : decode cL_cell 18 = .ok (.imul, 1) := by decide +kernel
theorem dL_cell_19 : decode cL_cell 19 = .ok (.iload_n 1, 1) := by decide +kernel
theorem dL_cell_20 : decode cL_cell 20 = .ok (.bipush 11, 2) := by decide +kernel
theorem dL_cell_22 : decode cL_cell 22 = .ok (.iadd, 1) := by decide +kernel
theorem dL_cell_23 : decode cL_cell 23 = .ok (.imul, 1) := by decide +kernel
theorem dL_cell_24 : decode cL_cell 24 = .ok (.ireturn, 1) := by decide +kernel
theorem dL_low_0 : decode cL_low 0 = .ok (.iload_n 0, 1) := by decide +kernel
theorem dL_low_1 : decode cL_low 1 = .ok (.ldc 7, 2) := by decide +kernel
theorem dL_low_3 : decode cL_low 3 = .ok (.iand, 1) := by decide +kernel
theorem dL_low_4 : decode cL_low 4 = .ok (.iload_n 1, 1) := by decide +kernel
theorem dL_low_5 : decode cL_low 5 = .ok (.irem, 1) := by decide +kernel
theorem dL_low_6 : decode cL_low 6 = .ok (.ireturn, 1) := by decide +kernel
set_option maxRecDepth 20000 in
theorem ggL_isBox_X5_noun : GoodIn wsL_isBox wsX5_noun := goodIn_ca (goodIn_r _ [5, 6, 7, 8, 9, 10, 11, 12, 13, 14, 15, 16, 17, 18, 19, 20, 21, 22, 23, 24, 25, 26, 27, 28, 29, 30, 31, 32, 33, 34, 35, 36, 37, 38] (by decide +kernel) (by decide +kernel)) (goodIn_sub (fun _ h => List.mem_cons_of_mem _ (List.mem_append_right _ h)) (by decide +kernel))
set_option maxRecDepth 20000 in
theorem gL_isBox_X5_noun : GoodIn wsL_isBox (wsV RL 8 RX5 yX5_noun wsX5_noun) := goodIn_app (goodIn_of _ (by decide +kernel)) ggL_isBox_X5_noun
theorem dL_isBox_0 : decode cL_isBox 0 = .ok (.aload_n 0, 1) := by decide +kernel
theorem dL_isBox_1 : decode cL_isBox 1 = .ok (.iload_n 1, 1) := by decide +kernel
theorem dL_isBox_2 : decode cL_isBox 2 = .ok (.invokevirtual 8, 3) := by decide +kernel
theorem dL_isBox_5 : decode cL_isBox 5 = .ok (.iconst 1, 1) := by decide +kernel
theorem dL_isBox_6 : decode cL_isBox 6 = .ok (.if_icmp .eq 12, 3) := by decide +kernel
theorem dL_isBox_9 : decode cL_isBox 9 = .ok (.aload_n 0, 1) := by decide +kernel
theorem dL_isBox_10 : decode cL_isBox 10 = .ok (.iload_n 1, 1) := by decide +kernel
theorem dL_isBox_11 : decode cL_isBox 11 = .ok (.invokevirtual 8, 3) := by decide +kernel
theorem dL_isBox_14 : decode cL_isBox 14 = .ok (.iconst 5, 1) := by decide +kernel
theorem dL_isBox_15 : decode cL_isBox 15 = .ok (.if_icmp .ne 7, 3) := by decide +kernel
theorem dL_isBox_18 : decode cL_isBox 18 = .ok (.iconst 1, 1) := by decide +kernel
theorem dL_isBox_19 : decode cL_isBox 19 = .ok (.goto 4, 3) := by decide +kernel
theorem dL_isBox_22 : decode cL_isBox 22 = .ok (.iconst 0, 1) := by decide +kernel
theorem dL_isBox_23 : decode cL_isBox 23 = .ok (.ireturn, 1) := by decide +kernel
set_option maxRecDepth 20000 in
theorem ggL_grow_L_low : GoodIn wsL_grow wsL_low := goodIn_r _ [4, 5] (by decide +kernel) (by decide +kernel)
set_option maxRecDepth 20000 in
theorem gL_grow_L_low : GoodIn wsL_grow (va_wsS RL 14 yL_low wsL_low) := goodIn_app (goodIn_of _ (by decide +kernel)) ggL_grow_L_low
set_option maxRecDepth 20000 in
theorem ggL_grow_X5_objects : GoodIn wsL_grow wsX5_objects := goodIn_r _ [10, 11, 12, 13, 138, 139, 140, 141, 142, 143, 144, 145, 146, 147, 148, 149, 150, 151, 152, 153, 154, 155, 156, 157, 158, 159] (by decide +kernel) (by decide +kernel)
set_option maxRecDepth 20000 in
theorem gL_grow_X5_objects : GoodIn wsL_grow (wsV RL 20 RX5 yX5_objects wsX5_objects) := goodIn_app (goodIn_of _ (by decide +kernel)) ggL_grow_X5_objects
set_option maxRecDepth 20000 in
theorem ggL_grow_X5_fitting : GoodIn wsL_grow wsX5_fitting := goodIn_ca (goodIn_r _ [17, 18, 19, 11, 12, 20, 21, 9, 22, 23, 24, 25, 26, 27, 28, 29, 30, 31, 32, 33, 138, 139, 140, 141, 142, 143, 144, 145, 146, 147, 148, 149, 150, 151, 152, 153, 154, 155, 156, 157, 158, 159] (by decide +kernel) (by decide +kernel)) (goodIn_sub (fun _ h => List.mem_cons_of_mem _ (List.mem_append_left _ (List.mem_append_left _ (List.mem_append_right _ h)))) (by decide +kernel))
set_option maxRecDepth 20000 in
theorem gL_grow_X5_fitting : GoodIn wsL_grow (wsV RL 24 RX5 yX5_fitting wsX5_fitting) := goodIn_app (goodIn_of _ (by decide +kernel)) ggL_grow_X5_fitting
set_option maxRecDepth 20000 in
theorem ggL_grow_L_isBox : GoodIn wsL_grow wsL_isBox := goodIn_ca (goodIn_r _ [36, 37, 38, 39, 9, 40, 18, 19, 11, 12, 41, 42, 43, 44, 29, 45, 31, 138, 139, 140, 141, 142, 143, 144, 145, 146, 147, 148, 149, 150, 151, 152, 153, 154, 155, 156, 157, 158, 159] (by decide +kernel) (by decide +kernel)) (goodIn_sub (fun _ h => List.mem_cons_of_mem _ (List.mem_append_left _ (List.mem_append_left _ (List.mem_append_right _ h)))) (by decide +kernel))
set_option maxRecDepth 20000 in
theorem gL_grow_L_isBox : GoodIn wsL_grow (va_wsS RL 27 yL_isBox wsL_isBox) := goodIn_app (goodIn_of _ (by decide +kernel)) ggL_grow_L_isBox
set_option maxRecDepth 20000 in
theorem ggL_grow_X5_objectsAt : GoodIn wsL_grow wsX5_objectsAt := goodIn_ca (goodIn_r _ [49, 18, 19, 11, 12, 50, 51, 52, 29, 53, 31, 54, 55, 56, 57, 58, 59, 60, 61, 138, 139, 140, 141, 142, 143, 144, 145, 146, 147, 148, 149, 150, 151, 152, 153, 154, 155, 156, 157, 158, 159] (by decide +kernel) (by decide +kernel)) (goodIn_sub (fun _ h => List.mem_cons_of_mem _ (List.mem_append_left _ (List.mem_append_left _ (List.mem_append_right _ h)))) (by decide +kernel))
set_option maxRecDepth 20000 in
theorem gL_grow_X5_objectsAt : GoodIn wsL_grow (wsV RL 31 RX5 yX5_objectsAt wsX5_objectsAt) := goodIn_app (goodIn_of _ (by decide +kernel)) ggL_grow_X5_objectsAt
set_option maxRecDepth 20000 in
theorem ggL_grow_X5_addObject : GoodIn wsL_grow wsX5_addObject := goodIn_ca (goodIn_ca (goodIn_r _ [65, 66, 67, 68, 69, 11, 12, 13, 20, 21, 9, 22, 23, 24, 25, 70, 71, 72, 29, 73, 32, 74, 75, 76, 43, 44, 45, 31, 77, 78, 79, 80, 81, 82, 83, 84, 51, 52, 53, 54, 85, 56, 57, 58, 59, 60, 61, 26, 27, 28, 30, 33, 86, 87, 88, 89, 90, 91, 92, 93, 94, 95, 96, 97, 98, 99, 100, 101, 102, 103, 104, 105, 106, 107, 108, 109, 110, 111, 112, 113, 114, 115, 116, 117, 118, 119, 120, 121, 122, 123, 124, 125, 126, 127, 128, 129, 130, 131, 132, 133, 134, 135, 136, 137, 138, 139, 140, 141, 142, 143, 144, 145, 146, 147, 148, 149, 150, 151, 152, 153, 154, 155, 156, 157, 158, 159, 160, 161, 162, 163, 164, 165, 166, 167] (by decide +kernel) (by decide +kernel)) (goodIn_sub (fun _ h => List.mem_cons_of_mem _ (List.mem_append_left _ (List.mem_append_right _ h))) (by decide +kernel))) (goodIn_sub (fun _ h => List.mem_cons_of_mem _ (List.mem_append_right _ h)) (by decide +kernel))
set_option maxRecDepth 20000 in
theorem gL_grow_X5_addObject : GoodIn wsL_grow (wsV RL 34 RX5 yX5_addObject wsX5_addObject) := goodIn_app (goodIn_of _ (by decide +kernel)) ggL_grow_X5_addObject
theorem dL_grow_0 : decode cL_grow 0 = .ok (.iload_n 1, 1) := by decide +kernel
theorem dL_grow_1 : decode cL_grow 1 = .ok (.iconst 4, 1) := by decide +kernel
theorem dL_grow_2 : decode cL_grow 2 = .ok (.ishr, 1) := by decide +kernel
theorem dL_grow_3 : decode cL_grow 3 = .ok (.bipush 6, 2) := by decide +kernel
theorem dL_grow_5 : decode cL_grow 5 = .ok (.invokestatic 14, 3) := by decide +kernel
theorem dL_grow_8 : decode cL_grow 8 = .ok (.istore_n 2, 1) := by decide +kernel
theorem dL_grow_9 : decode cL_grow 9 = .ok (.iload_n 1, 1) := by decide +kernel
theorem dL_grow_10 : decode cL_grow 10 = .ok (.bipush 7, 2) := by decide +kernel
theorem dL_grow_12 : decode cL_grow 12 = .ok (.ishr, 1) := by decide +kernel
theorem dL_grow_13 : decode cL_grow 13 = .ok (.iconst 4, 1) := by decide +kernel
theorem dL_grow_14 : decode cL_grow 14 = .ok (.invokestatic 14, 3) := by decide +kernel
theorem dL_grow_17 : decode cL_grow 17 = .ok (.istore_n 3, 1) := by decide +kernel
theorem dL_grow_18 : decode cL_grow 18 = .ok (.aload_n 0, 1) := by decide +kernel
theorem dL_grow_19 : decode cL_grow 19 = .ok (.invokevirtual 20, 3) := by decide +kernel
theorem dL_grow_22 : decode cL_grow 22 = .ok (.bipush 12, 2) := by decide +kernel
theorem dL_grow_24 : decode cL_grow 24 = .ok (.if_icmp .eq 12, 3) := by decide +kernel
theorem dL_grow_27 : decode cL_grow 27 = .ok (.aload_n 0, 1) := by decide +kernel
theorem dL_grow_28 : decode cL_grow 28 = .ok (.iload_n 2, 1) := by decide +kernel
theorem dL_grow_29 : decode cL_grow 29 = .ok (.iload_n 3, 1) := by decide +kernel
theorem dL_grow_30 : decode cL_grow 30 = .ok (.invokevirtual 24, 3) := by decide +kernel
theorem dL_grow_33 : decode cL_grow 33 = .ok (.ifCond .eq 4, 3) := by decide +kernel
theorem dL_grow_36 : decode cL_grow 36 = .ok (.return_, 1) := by decide +kernel
theorem dL_grow_37 : decode cL_grow 37 = .ok (.iload_n 1, 1) := by decide +kernel
theorem dL_grow_38 : decode cL_grow 38 = .ok (.bipush 9, 2) := by decide +kernel
theorem dL_grow_40 : decode cL_grow 40 = .ok (.ishr, 1) := by decide +kernel
theorem dL_grow_41 : decode cL_grow 41 = .ok (.bipush 7, 2) := by decide +kernel
theorem dL_grow_43 : decode cL_grow 43 = .ok (.invokestatic 14, 3) := by decide +kernel
theorem dL_grow_46 : decode cL_grow 46 = .ok (.istore 4, 2) := by decide +kernel
theorem dL_grow_48 : decode cL_grow 48 = .ok (.aload_n 0, 1) := by decide +kernel
theorem dL_grow_49 : decode cL_grow 49 = .ok (.invokevirtual 20, 3) := by decide +kernel
theorem dL_grow_52 : decode cL_grow 52 = .ok (.ifCond .ne 7, 3) := by decide +kernel
theorem dL_grow_55 : decode cL_grow 55 = .ok (.iconst 0, 1) := by decide +kernel
theorem dL_grow_56 : decode cL_grow 56 = .ok (.goto 13, 3) := by decide +kernel
theorem dL_grow_59 : decode cL_grow 59 = .ok (.iload_n 1, 1) := by decide +kernel
theorem dL_grow_60 : decode cL_grow 60 = .ok (.iconst 5, 1) := by decide +kernel
theorem dL_grow_61 : decode cL_grow 61 = .ok (.ishr, 1) := by decide +kernel
theorem dL_grow_62 : decode cL_grow 62 = .ok (.aload_n 0, 1) := by decide +kernel
theorem dL_grow_63 : decode cL_grow 63 = .ok (.invokevirtual 20, 3) := by decide +kernel
theorem dL_grow_66 : decode cL_grow 66 = .ok (.invokestatic 14, 3) := by decide +kernel
theorem dL_grow_69 : decode cL_grow 69 = .ok (.istore 5, 2) := by decide +kernel
theorem dL_grow_71 : decode cL_grow 71 = .ok (.iload 4, 2) := by decide +kernel
theorem dL_grow_73 : decode cL_grow 73 = .ok (.iconst 5, 1) := by decide +kernel
theorem dL_grow_74 : decode cL_grow 74 = .ok (.if_icmp .ne 45, 3) := by decide +kernel
theorem dL_grow_77 : decode cL_grow 77 = .ok (.aload_n 0, 1) := by decide +kernel
theorem dL_grow_78 : decode cL_grow 78 = .ok (.invokevirtual 20, 3) := by decide +kernel
theorem dL_grow_81 : decode cL_grow 81 = .ok (.ifCond .le 38, 3) := by decide +kernel
theorem dL_grow_84 : decode cL_grow 84 = .ok (.iload_n 2, 1) := by decide +kernel
theorem dL_grow_85 : decode cL_grow 85 = .ok (.iconst 1, 1) := by decide +kernel
theorem dL_grow_86 : decode cL_grow 86 = .ok (.if_icmp .eq 33, 3) := by decide +kernel
theorem dL_grow_89 : decode cL_grow 89 = .ok (.iload_n 2, 1) := by decide +kernel
theorem dL_grow_90 : decode cL_grow 90 = .ok (.iconst 5, 1) := by decide +kernel
theorem dL_grow_91 : decode cL_grow 91 = .ok (.if_icmp .eq 28, 3) := by decide +kernel
theorem dL_grow_94 : decode cL_grow 94 = .ok (.aload_n 0, 1) := by decide +kernel
theorem dL_grow_95 : decode cL_grow 95 = .ok (.iload 5, 2) := by decide +kernel
theorem dL_grow_97 : decode cL_grow 97 = .ok (.invokestatic 27, 3) := by decide +kernel
theorem dL_grow_100 : decode cL_grow 100 = .ok (.ifCond .eq 19, 3) := by decide +kernel
theorem dL_grow_103 : decode cL_grow 103 = .ok (.aload_n 0, 1) := by decide +kernel
theorem dL_grow_104 : decode cL_grow 104 = .ok (.iconst 5, 1) := by decide +kernel
theorem dL_grow_105 : decode cL_grow 105 = .ok (.iload 5, 2) := by decide +kernel
theorem dL_grow_107 : decode cL_grow 107 = .ok (.iadd, 1) := by decide +kernel
theorem dL_grow_108 : decode cL_grow 108 = .ok (.invokevirtual 31, 3) := by decide +kernel
theorem dL_grow_111 : decode cL_grow 111 = .ok (.iconst 4, 1) := by decide +kernel
theorem dL_grow_112 : decode cL_grow 112 = .ok (.if_icmp .ge 7, 3) := by decide +kernel
theorem dL_grow_115 : decode cL_grow 115 = .ok (.iconst 1, 1) := by decide +kernel
theorem dL_grow_116 : decode cL_grow 116 = .ok (.goto 4, 3) := by decide +kernel
theorem dL_grow_119 : decode cL_grow 119 = .ok (.iconst 0, 1) := by decide +kernel
theorem dL_grow_120 : decode cL_grow 120 = .ok (.istore 6, 2) := by decide +kernel
theorem dL_grow_122 : decode cL_grow 122 = .ok (.iload 4, 2) := by decide +kernel
theorem dL_grow_124 : decode cL_grow 124 = .ok (.iconst 4, 1) := by decide +kernel
theorem dL_grow_125 : decode cL_grow 125 = .ok (.if_icmp .ne 17, 3) := by decide +kernel
theorem dL_grow_128 : decode cL_grow 128 = .ok (.aload_n 0, 1) := by decide +kernel
theorem dL_grow_129 : decode cL_grow 129 = .ok (.iconst 4, 1) := by decide +kernel
theorem dL_grow_130 : decode cL_grow 130 = .ok (.invokevirtual 31, 3) := by decide +kernel
theorem dL_grow_133 : decode cL_grow 133 = .ok (.bipush 6, 2) := by decide +kernel
theorem dL_grow_135 : decode cL_grow 135 = .ok (.if_icmp .ge 7, 3) := by decide +kernel
theorem dL_grow_138 : decode cL_grow 138 = .ok (.iconst 1, 1) := by decide +kernel
theorem dL_grow_139 : decode cL_grow 139 = .ok (.goto 4, 3) := by decide +kernel
theorem dL_grow_142 : decode cL_grow 142 = .ok (.iconst 0, 1) := by decide +kernel
theorem dL_grow_143 : decode cL_grow 143 = .ok (.istore 7, 2) := by decide +kernel
theorem dL_grow_145 : decode cL_grow 145 = .ok (.aload_n 0, 1) := by decide +kernel
theorem dL_grow_146 : decode cL_grow 146 = .ok (.iload_n 2, 1) := by decide +kernel
theorem dL_grow_147 : decode cL_grow 147 = .ok (.iload_n 3, 1) := by decide +kernel
theorem dL_grow_148 : decode cL_grow 148 = .ok (.iload 6, 2) := by decide +kernel
theorem dL_grow_150 : decode cL_grow 150 = .ok (.ifCond .eq 10, 3) := by decide +kernel
theorem dL_grow_153 : decode cL_grow 153 = .ok (.iconst 5, 1) := by decide +kernel
theorem dL_grow_154 : decode cL_grow 154 = .ok (.iload 5, 2) := by decide +kernel
theorem dL_grow_156 : decode cL_grow 156 = .ok (.iadd, 1) := by decide +kernel
theorem dL_grow_157 : decode cL_grow 157 = .ok (.goto 16, 3) := by decide +kernel
theorem dL_grow_160 : decode cL_grow 160 = .ok (.iload 7, 2) := by decide +kernel
theorem dL_grow_162 : decode cL_grow 162 = .ok (.ifCond .eq 7, 3) := by decide +kernel
theorem dL_grow_165 : decode cL_grow 165 = .ok (.iconst 4, 1) := by decide +kernel
theorem dL_grow_166 : decode cL_grow 166 = .ok (.goto 7, 3) := by decide +kernel
theorem dL_grow_169 : decode cL_grow 169 = .ok (.iload 4, 2) := by decide +kernel
theorem dL_grow_171 : decode cL_grow 171 = .ok (.iconst 4, 1) := by decide +kernel
theorem dL_grow_172 : decode cL_grow 172 = .ok (.irem, 1) := by decide +kernel
theorem dL_grow_173 : decode cL_grow 173 = .ok (.invokevirtual 34, 3) := by decide +kernel
theorem dL_grow_176 : decode cL_grow 176 = .ok (.istore 8, 2) := by decide +kernel
theorem dL_grow_178 : decode cL_grow 178 = .ok (.return_, 1) := by decide +kernel
set_option maxRecDepth 20000 in
theorem ggL_describe_X5_objects : GoodIn wsL_describe wsX5_objects := goodIn_r _ [5, 6, 7, 8, 66, 67, 68, 69, 70, 71, 72, 73, 74, 75, 76, 77, 78, 79, 80, 81, 82, 83, 84, 85, 86, 87] (by decide +kernel) (by decide +kernel)
set_option maxRecDepth 20000 in
theorem gL_describe_X5_objects : GoodIn wsL_describe (wsV RL 20 RX5 yX5_objects wsX5_objects) := goodIn_app (goodIn_of _ (by decide +kernel)) ggL_describe_X5_objects
set_option maxRecDepth 20000 in
theorem ggL_describe_L_low : GoodIn wsL_describe wsL_low := goodIn_r _ [12, 13] (by decide +kernel) (by decide +kernel)
set_option maxRecDepth 20000 in
theorem gL_describe_L_low : GoodIn wsL_describe (va_wsS RL 14 yL_low wsL_low) := goodIn_app (goodIn_of _ (by decide +kernel)) ggL_describe_L_low
set_option maxRecDepth 20000 in
theorem ggL_describe_X5_appendWord : GoodIn wsL_describe wsX5_appendWord := goodIn_ca (goodIn_ca (goodIn_r _ [17, 18, 19, 20, 21, 22, 23, 24, 25, 26, 27, 28, 29, 30, 31, 32, 33, 34, 35, 36, 4, 37, 38, 39, 40, 41, 42, 43, 44, 45, 46, 47, 48, 49, 66, 67, 68, 69, 70, 71, 72, 88, 89] (by decide +kernel) (by decide +kernel)) (goodIn_sub (fun _ h => List.mem_cons_of_mem _ (List.mem_append_left _ (List.mem_append_right _ h))) (by decide +kernel))) (goodIn_sub (fun _ h => List.mem_cons_of_mem _ (List.mem_append_right _ h)) (by decide +kernel))
set_option maxRecDepth 20000 in
theorem gL_describe_X5_appendWord : GoodIn wsL_describe (wsV RL 38 RX5 yX5_appendWord wsX5_appendWord) := goodIn_app (goodIn_of _ (by decide +kernel)) ggL_describe_X5_appendWord
set_option maxRecDepth 20000 in
theorem ggL_describe_X5_adjective : GoodIn wsL_describe wsX5_adjective := goodIn_ca (goodIn_r _ [53, 18, 19, 6, 7, 54, 55, 56, 57, 58, 59, 60, 66, 67, 68, 69, 70, 71, 72, 73, 74, 75, 76, 77, 78, 79, 80, 81, 82, 83, 84, 85, 86, 87] (by decide +kernel) (by decide +kernel)) (goodIn_sub (fun _ h => List.mem_cons_of_mem _ (List.mem_append_left _ (List.mem_append_right _ h))) (by decide +kernel))
set_option maxRecDepth 20000 in
theorem gL_describe_X5_adjective : GoodIn wsL_describe (wsV RL 41 RX5 yX5_adjective wsX5_adjective) := goodIn_app (goodIn_of _ (by decide +kernel)) ggL_describe_X5_adjective
set_option maxRecDepth 20000 in
theorem ggL_describe_X5_noun : GoodIn wsL_describe wsX5_noun := goodIn_ca (goodIn_r _ [64, 18, 19, 6, 7, 65, 55, 56, 57, 58, 59, 60, 66, 67, 68, 69, 70, 71, 72, 73, 74, 75, 76, 77, 78, 79, 80, 81, 82, 83, 84, 85, 86, 87] (by decide +kernel) (by decide +kernel)) (goodIn_sub (fun _ h => List.mem_cons_of_mem _ (List.mem_append_left _ (List.mem_append_right _ h))) (by decide +kernel))
set_option maxRecDepth 20000 in
theorem gL_describe_X5_noun : GoodIn wsL_describe (wsV RL 8 RX5 yX5_noun wsX5_noun) := goodIn_app (goodIn_of _ (by decide +kernel)) ggL_describe_X5_noun
theorem dL_describe_0 : decode cL_describe 0 = .ok (.aload_n 0, 1) := by decide +kernel
theorem dL_describe_1 : decode cL_describe 1 = .ok (.invokevirtual 20, 3) := by decide +kernel
theorem dL_describe_4 : decode cL_describe 4 = .ok (.ifCond .ne 7, 3) := by decide +kernel
theorem dL_describe_7 : decode cL_describe 7 = .ok (.iconst 0, 1) := by decide +kernel
theorem dL_describe_8 : decode cL_describe 8 = .ok (.goto 13, 3) := by decide +kernel
theorem dL_describe_11 : decode cL_describe 11 = .ok (.iload_n 1, 1) := by decide +kernel
theorem dL_describe_12 : decode cL_describe 12 = .ok (.iconst 3, 1) := by decide +kernel
theorem dL_describe_13 : decode cL_describe 13 = .ok (.ishr, 1) := by decide +kernel
theorem dL_describe_14 : decode cL_describe 14 = .ok (.aload_n 0, 1) := by decide +kernel
theorem dL_describe_15 : decode cL_describe 15 = .ok (.invokevirtual 20, 3) := by decide +kernel
theorem dL_describe_18 : decode cL_describe 18 = .ok (.invokestatic 14, 3) := by decide +kernel
theorem dL_describe_21 : decode cL_describe 21 = .ok (.istore_n 2, 1) := by decide +kernel
theorem dL_describe_22 : decode cL_describe 22 = .ok (.aload_n 0, 1) := by decide +kernel
theorem dL_describe_23 : decode cL_describe 23 = .ok (.invokevirtual 20, 3) := by decide +kernel
theorem dL_describe_26 : decode cL_describe 26 = .ok (.ifCond .le 14, 3) := by decide +kernel
theorem dL_describe_29 : decode cL_describe 29 = .ok (.iload_n 1, 1) := by decide +kernel
theorem dL_describe_30 : decode cL_describe 30 = .ok (.bipush 7, 2) := by decide +kernel
theorem dL_describe_32 : decode cL_describe 32 = .ok (.iand, 1) := by decide +kernel
theorem dL_describe_33 : decode cL_describe 33 = .ok (.ifCond .le 7, 3) := by decide +kernel
theorem dL_describe_36 : decode cL_describe 36 = .ok (.iconst 1, 1) := by decide +kernel
theorem dL_describe_37 : decode cL_describe 37 = .ok (.goto 4, 3) := by decide +kernel
theorem dL_describe_40 : decode cL_describe 40 = .ok (.iconst 0, 1) := by decide +kernel
theorem dL_describe_41 : decode cL_describe 41 = .ok (.istore_n 3, 1) := by decide +kernel
theorem dL_describe_42 : decode cL_describe 42 = .ok (.iload_n 1, 1) := by decide +kernel
theorem dL_describe_43 : decode cL_describe 43 = .ok (.iconst 5, 1) := by decide +kernel
theorem dL_describe_44 : decode cL_describe 44 = .ok (.ishr, 1) := by decide +kernel
theorem dL_describe_45 : decode cL_describe 45 = .ok (.iconst 1, 1) := by decide +kernel
theorem dL_describe_46 : decode cL_describe 46 = .ok (.iand, 1) := by decide +kernel
theorem dL_describe_47 : decode cL_describe 47 = .ok (.ifCond .ne 10, 3) := by decide +kernel
theorem dL_describe_50 : decode cL_describe 50 = .ok (.aload_n 0, 1) := by decide +kernel
theorem dL_describe_51 : decode cL_describe 51 = .ok (.bipush 21, 2) := by decide +kernel
theorem dL_describe_53 : decode cL_describe 53 = .ok (.invokevirtual 38, 3) := by decide +kernel
theorem dL_describe_56 : decode cL_describe 56 = .ok (.pop, 1) := by decide +kernel
theorem dL_describe_57 : decode cL_describe 57 = .ok (.iload_n 1, 1) := by decide +kernel
theorem dL_describe_58 : decode cL_describe 58 = .ok (.bipush 6, 2) := by decide +kernel
theorem dL_describe_60 : decode cL_describe 60 = .ok (.ishr, 1) := by decide +kernel
theorem dL_describe_61 : decode cL_describe 61 = .ok (.iconst 1, 1) := by decide +kernel
theorem dL_describe_62 : decode cL_describe 62 = .ok (.iand, 1) := by decide +kernel
theorem dL_describe_63 : decode cL_describe 63 = .ok (.ifCond .ne 31, 3) := by decide +kernel
theorem dL_describe_66 : decode cL_describe 66 = .ok (.aload_n 0, 1) := by decide +kernel
