theorem inX1 : ∀ w ∈ wsX10, w ∈ lw_tbl := fun w h => wsL_law_in w (inlX1 w h)
theorem inJ6 : ∀ w ∈ wsJ60, w ∈ lw_tbl := by decide +kernel
theorem inJ9 : ∀ w ∈ wsJ90, w ∈ lw_tbl := by decide +kernel
theorem inJ7 : ∀ w ∈ wsJ70, w ∈ lw_tbl := by decide +kernel
set_option maxRecDepth 20000 in
theorem ggX0_init_X0_orderByNumbers : GoodIn wsX0_init wsX0_orderByNumbers := goodIn_r _ [24, 25, 26, 27, 23, 28, 6, 7, 29, 30, 31, 32, 33, 34, 35, 36, 37, 38, 39, 40, 41, 42, 43] (by decide +kernel) (by decide +kernel)
set_option maxRecDepth 20000 in
theorem gX0_init_X0_orderByNumbers : GoodIn wsX0_init (wsV RX0 57 RX0 yX0_orderByNumbers wsX0_orderByNumbers) := goodIn_app (goodIn_of _ (by decide +kernel)) ggX0_init_X0_orderByNumbers
theorem dX0_init_0 : decode cX0_init 0 = .ok (.aload_n 0, 1) := by decide +kernel
theorem dX0_init_1 : decode cX0_init 1 = .ok (.invokespecial 1, 3) := by decide +kernel
theorem dX0_init_4 : decode cX0_init 4 = .ok (.aload_n 0, 1) := by decide +kernel
theorem dX0_init_5 : decode cX0_init 5 = .ok (.iconst 1, 1) := by decide +kernel
theorem dX0_init_6 : decode cX0_init 6 = .ok (.putfield 7, 3) := by decide +kernel
theorem dX0_init_9 : decode cX0_init 9 = .ok (.aload_n 0, 1) := by decide +kernel
theorem dX0_init_10 : decode cX0_init 10 = .ok (.bipush 12, 2) := by decide +kernel
theorem dX0_init_12 : decode cX0_init 12 = .ok (.newarray .int, 2) := by decide +kernel
theorem dX0_init_14 : decode cX0_init 14 = .ok (.putfield 13, 3) := by decide +kernel
theorem dX0_init_17 : decode cX0_init 17 = .ok (.aload_n 0, 1) := by decide +kernel
theorem dX0_init_18 : decode cX0_init 18 = .ok (.bipush 12, 2) := by decide +kernel
theorem dX0_init_20 : decode cX0_init 20 = .ok (.newarray .int, 2) := by decide +kernel
theorem dX0_init_22 : decode cX0_init 22 = .ok (.putfield 17, 3) := by decide +kernel
theorem dX0_init_25 : decode cX0_init 25 = .ok (.aload_n 0, 1) := by decide +kernel
theorem dX0_init_26 : decode cX0_init 26 = .ok (.iconst 0, 1) := by decide +kernel
theorem dX0_init_27 : decode cX0_init 27 = .ok (.putfield 20, 3) := by decide +kernel
theorem dX0_init_30 : decode cX0_init 30 = .ok (.aload_n 0, 1) := by decide +kernel
theorem dX0_init_31 : decode cX0_init 31 = .ok (.iconst 0, 1) := by decide +kernel
theorem dX0_init_32 : decode cX0_init 32 = .ok (.putfield 23, 3) := by decide +kernel
theorem dX0_init_35 : decode cX0_init 35 = .ok (.aload_n 0, 1) := by decide +kernel
theorem dX0_init_36 : decode cX0_init 36 = .ok (.bipush 12, 2) := by decide +kernel
theorem dX0_init_38 : decode cX0_init 38 = .ok (.newarray .int, 2) := by decide +kernel
theorem dX0_init_40 : decode cX0_init 40 = .ok (.putfield 26, 3) := by decide +kernel
theorem dX0_init_43 : decode cX0_init 43 = .ok (.aload_n 0, 1) := by decide +kernel
theorem dX0_init_44 : decode cX0_init 44 = .ok (.iconst 0, 1) := by decide +kernel
theorem dX0_init_45 : decode cX0_init 45 = .ok (.putfield 29, 3) := by decide +kernel
theorem dX0_init_48 : decode cX0_init 48 = .ok (.aload_n 0, 1) := by decide +kernel
theorem dX0_init_49 : decode cX0_init 49 = .ok (.bipush 10, 2) := by decide +kernel
theorem dX0_init_51 : decode cX0_init 51 = .ok (.newarray .int, 2) := by decide +kernel
theorem dX0_init_53 : decode cX0_init 53 = .ok (.putfield 32, 3) := by decide +kernel
theorem dX0_init_56 : decode cX0_init 56 = .ok (.aload_n 0, 1) := by decide +kernel
theorem dX0_init_57 : decode cX0_init 57 = .ok (.bipush 10, 2) := by decide +kernel
theorem dX0_init_59 : decode cX0_init 59 = .ok (.newarray .int, 2) := by decide +kernel
theorem dX0_init_61 : decode cX0_init 61 = .ok (.putfield 35, 3) := by decide +kernel
theorem dX0_init_64 : decode cX0_init 64 = .ok (.aload_n 0, 1) := by decide +kernel
theorem dX0_init_65 : decode cX0_init 65 = .ok (.bipush 10, 2) := by decide +kernel
theorem dX0_init_67 : decode cX0_init 67 = .ok (.newarray .int, 2) := by decide +kernel
theorem dX0_init_69 : decode cX0_init 69 = .ok (.putfield 38, 3) := by decide +kernel
theorem dX0_init_72 : decode cX0_init 72 = .ok (.aload_n 0, 1) := by decide +kernel
theorem dX0_init_73 : decode cX0_init 73 = .ok (.bipush 10, 2) := by decide +kernel
theorem dX0_init_75 : decode cX0_init 75 = .ok (.newarray .int, 2) := by decide +kernel
theorem dX0_init_77 : decode cX0_init 77 = .ok (.putfield 41, 3) := by decide +kernel
theorem dX0_init_80 : decode cX0_init 80 = .ok (.aload_n 0, 1) := by decide +kernel
theorem dX0_init_81 : decode cX0_init 81 = .ok (.iconst 0, 1) := by decide +kernel
theorem dX0_init_82 : decode cX0_init 82 = .ok (.putfield 44, 3) := by decide +kernel
theorem dX0_init_85 : decode cX0_init 85 = .ok (.aload_n 0, 1) := by decide +kernel
theorem dX0_init_86 : decode cX0_init 86 = .ok (.bipush 10, 2) := by decide +kernel
theorem dX0_init_88 : decode cX0_init 88 = .ok (.newarray .int, 2) := by decide +kernel
theorem dX0_init_90 : decode cX0_init 90 = .ok (.putfield 47, 3) := by decide +kernel
theorem dX0_init_93 : decode cX0_init 93 = .ok (.aload_n 0, 1) := by decide +kernel
theorem dX0_init_94 : decode cX0_init 94 = .ok (.bipush 10, 2) := by decide +kernel
theorem dX0_init_96 : decode cX0_init 96 = .ok (.newarray .int, 2) := by decide +kernel
theorem dX0_init_98 : decode cX0_init 98 = .ok (.putfield 50, 3) := by decide +kernel
theorem dX0_init_101 : decode cX0_init 101 = .ok (.aload_n 0, 1) := by decide +kernel
theorem dX0_init_102 : decode cX0_init 102 = .ok (.lconst 0, 1) := by decide +kernel
theorem dX0_init_103 : decode cX0_init 103 = .ok (.putfield 53, 3) := by decide +kernel
theorem dX0_init_106 : decode cX0_init 106 = .ok (.aload_n 0, 1) := by decide +kernel
theorem dX0_init_107 : decode cX0_init 107 = .ok (.invokevirtual 57, 3) := by decide +kernel
theorem dX0_init_110 : decode cX0_init 110 = .ok (.return_, 1) := by decide +kernel
set_option maxRecDepth 20000 in
theorem ggX0_things_X0_orderByNumbers : GoodIn wsX0_things wsX0_orderByNumbers := goodIn_r _ [9, 10, 11, 12, 8, 13, 14, 15, 16, 17, 18, 19, 20, 21, 22, 23, 24, 25, 26, 27, 28, 29, 30] (by decide +kernel) (by decide +kernel)
set_option maxRecDepth 20000 in
theorem gX0_things_X0_orderByNumbers : GoodIn wsX0_things (wsV RX0 57 RX0 yX0_orderByNumbers wsX0_orderByNumbers) := goodIn_app (goodIn_of _ (by decide +kernel)) ggX0_things_X0_orderByNumbers
theorem dX0_things_0 : decode cX0_things 0 = .ok (.iload_n 1, 1) := by decide +kernel
theorem dX0_things_1 : decode cX0_things 1 = .ok (.iconst 1, 1) := by decide +kernel
theorem dX0_things_2 : decode cX0_things 2 = .ok (.if_icmp .lt 9, 3) := by decide +kernel
theorem dX0_things_5 : decode cX0_things 5 = .ok (.iload_n 1, 1) := by decide +kernel
theorem dX0_things_6 : decode cX0_things 6 = .ok (.bipush 12, 2) := by decide +kernel
theorem dX0_things_8 : decode cX0_things 8 = .ok (.if_icmp .le 5, 3) := by decide +kernel
theorem dX0_things_11 : decode cX0_things 11 = .ok (.iconst (-1), 1) := by decide +kernel
theorem dX0_things_12 : decode cX0_things 12 = .ok (.ireturn, 1) := by decide +kernel
theorem dX0_things_13 : decode cX0_things 13 = .ok (.aload_n 0, 1) := by decide +kernel
theorem dX0_things_14 : decode cX0_things 14 = .ok (.getfield 7, 3) := by decide +kernel
theorem dX0_things_17 : decode cX0_things 17 = .ok (.istore_n 2, 1) := by decide +kernel
theorem dX0_things_18 : decode cX0_things 18 = .ok (.aload_n 0, 1) := by decide +kernel
theorem dX0_things_19 : decode cX0_things 19 = .ok (.iload_n 1, 1) := by decide +kernel
theorem dX0_things_20 : decode cX0_things 20 = .ok (.putfield 7, 3) := by decide +kernel
theorem dX0_things_23 : decode cX0_things 23 = .ok (.aload_n 0, 1) := by decide +kernel
theorem dX0_things_24 : decode cX0_things 24 = .ok (.iconst 0, 1) := by decide +kernel
theorem dX0_things_25 : decode cX0_things 25 = .ok (.putfield 20, 3) := by decide +kernel
theorem dX0_things_28 : decode cX0_things 28 = .ok (.aload_n 0, 1) := by decide +kernel
theorem dX0_things_29 : decode cX0_things 29 = .ok (.iconst 0, 1) := by decide +kernel
theorem dX0_things_30 : decode cX0_things 30 = .ok (.putfield 23, 3) := by decide +kernel
theorem dX0_things_33 : decode cX0_things 33 = .ok (.aload_n 0, 1) := by decide +kernel
theorem dX0_things_34 : decode cX0_things 34 = .ok (.iconst 0, 1) := by decide +kernel
theorem dX0_things_35 : decode cX0_things 35 = .ok (.putfield 29, 3) := by decide +kernel
theorem dX0_things_38 : decode cX0_things 38 = .ok (.aload_n 0, 1) := by decide +kernel
theorem dX0_things_39 : decode cX0_things 39 = .ok (.invokevirtual 57, 3) := by decide +kernel
theorem dX0_things_42 : decode cX0_things 42 = .ok (.iload_n 2, 1) := by decide +kernel
theorem dX0_things_43 : decode cX0_things 43 = .ok (.ireturn, 1) := by decide +kernel
set_option maxRecDepth 20000 in
theorem ggX0_swap_X0_isThing : GoodIn wsX0_swap wsX0_isThing := goodIn_r _ [11, 12, 32, 33, 34, 35, 36, 37, 38, 39, 40, 41, 42, 43, 44, 45, 46] (by decide +kernel) (by decide +kernel)
set_option maxRecDepth 20000 in
theorem gX0_swap_X0_isThing : GoodIn wsX0_swap (wsV RX0 60 RX0 yX0_isThing wsX0_isThing) := goodIn_app (goodIn_of _ (by decide +kernel)) ggX0_swap_X0_isThing
set_option maxRecDepth 20000 in
theorem ggX0_swap_X0_putAt : GoodIn wsX0_swap wsX0_putAt := goodIn_r _ [16, 1, 17, 32, 33, 34, 35, 36, 37, 38, 39, 40, 41, 42, 43, 44, 45, 46] (by decide +kernel) (by decide +kernel)
set_option maxRecDepth 20000 in
theorem gX0_swap_X0_putAt : GoodIn wsX0_swap (wsV RX0 64 RX0 yX0_putAt wsX0_putAt) := goodIn_app (goodIn_of _ (by decide +kernel)) ggX0_swap_X0_putAt
set_option maxRecDepth 20000 in
theorem ggX0_swap_X0_thingsOf : GoodIn wsX0_swap wsX0_thingsOf := goodIn_r _ [21, 12, 22, 23, 24, 10, 25, 17, 26, 27, 28, 29, 30, 31, 32, 33, 34, 35, 36, 37, 38, 39, 40, 41, 42, 43, 44, 45, 46] (by decide +kernel) (by decide +kernel)
set_option maxRecDepth 20000 in
theorem gX0_swap_X0_thingsOf : GoodIn wsX0_swap (wsV RX0 68 RX0 yX0_thingsOf wsX0_thingsOf) := goodIn_app (goodIn_of _ (by decide +kernel)) ggX0_swap_X0_thingsOf
theorem dX0_swap_0 : decode cX0_swap 0 = .ok (.aload_n 0, 1) := by decide +kernel
theorem dX0_swap_1 : decode cX0_swap 1 = .ok (.iload_n 1, 1) := by decide +kernel
theorem dX0_swap_2 : decode cX0_swap 2 = .ok (.invokevirtual 60, 3) := by decide +kernel
theorem dX0_swap_5 : decode cX0_swap 5 = .ok (.ifCond .eq 11, 3) := by decide +kernel
theorem dX0_swap_8 : decode cX0_swap 8 = .ok (.aload_n 0, 1) := by decide +kernel
theorem dX0_swap_9 : decode cX0_swap 9 = .ok (.iload_n 2, 1) := by decide +kernel
theorem dX0_swap_10 : decode cX0_swap 10 = .ok (.invokevirtual 60, 3) := by decide +kernel
theorem dX0_swap_13 : decode cX0_swap 13 = .ok (.ifCond .ne 5, 3) := by decide +kernel
theorem dX0_swap_16 : decode cX0_swap 16 = .ok (.iconst (-1), 1) := by decide +kernel
theorem dX0_swap_17 : decode cX0_swap 17 = .ok (.ireturn, 1) := by decide +kernel
theorem dX0_swap_18 : decode cX0_swap 18 = .ok (.aload_n 0, 1) := by decide +kernel
theorem dX0_swap_19 : decode cX0_swap 19 = .ok (.getfield 13, 3) := by decide +kernel
theorem dX0_swap_22 : decode cX0_swap 22 = .ok (.iload_n 1, 1) := by decide +kernel
theorem dX0_swap_23 : decode cX0_swap 23 = .ok (.iaload, 1) := by decide +kernel
theorem dX0_swap_24 : decode cX0_swap 24 = .ok (.istore_n 3, 1) := by decide +kernel
theorem dX0_swap_25 : decode cX0_swap 25 = .ok (.aload_n 0, 1) := by decide +kernel
theorem dX0_swap_26 : decode cX0_swap 26 = .ok (.getfield 13, 3) := by decide +kernel
theorem dX0_swap_29 : decode cX0_swap 29 = .ok (.iload_n 2, 1) := by decide +kernel
theorem dX0_swap_30 : decode cX0_swap 30 = .ok (.iaload, 1) := by decide +kernel
theorem dX0_swap_31 : decode cX0_swap 31 = .ok (.istore 4, 2) := by decide +kernel
theorem dX0_swap_33 : decode cX0_swap 33 = .ok (.aload_n 0, 1) := by decide +kernel
theorem dX0_swap_34 : decode cX0_swap 34 = .ok (.iload_n 1, 1) := by decide +kernel
theorem dX0_swap_35 : decode cX0_swap 35 = .ok (.iload 4, 2) := by decide +kernel
theorem dX0_swap_37 : decode cX0_swap 37 = .ok (.invokevirtual 64, 3) := by decide +kernel
theorem dX0_swap_40 : decode cX0_swap 40 = .ok (.aload_n 0, 1) := by decide +kernel
theorem dX0_swap_41 : decode cX0_swap 41 = .ok (.iload_n 2, 1) := by decide +kernel
theorem dX0_swap_42 : decode cX0_swap 42 = .ok (.iload_n 3, 1) := by decide +kernel
theorem dX0_swap_43 : decode cX0_swap 43 = .ok (.invokevirtual 64, 3) := by decide +kernel
theorem dX0_swap_46 : decode cX0_swap 46 = .ok (.iconst 0, 1) := by decide +kernel
theorem dX0_swap_47 : decode cX0_swap 47 = .ok (.istore 5, 2) := by decide +kernel
theorem dX0_swap_49 : decode cX0_swap 49 = .ok (.iload 5, 2) := by decide +kernel
theorem dX0_swap_51 : decode cX0_swap 51 = .ok (.aload_n 0, 1) := by decide +kernel
theorem dX0_swap_52 : decode cX0_swap 52 = .ok (.getfield 29, 3) := by decide +kernel
theorem dX0_swap_55 : decode cX0_swap 55 = .ok (.if_icmp .ge 41, 3) := by decide +kernel
theorem dX0_swap_58 : decode cX0_swap 58 = .ok (.aload_n 0, 1) := by decide +kernel
theorem dX0_swap_59 : decode cX0_swap 59 = .ok (.getfield 41, 3) := by decide +kernel
theorem dX0_swap_62 : decode cX0_swap 62 = .ok (.iload 5, 2) := by decide +kernel
theorem dX0_swap_64 : decode cX0_swap 64 = .ok (.aload_n 0, 1) := by decide +kernel
theorem dX0_swap_65 : decode cX0_swap 65 = .ok (.aload_n 0, 1) := by decide +kernel
theorem dX0_swap_66 : decode cX0_swap 66 = .ok (.getfield 32, 3) := by decide +kernel
theorem dX0_swap_69 : decode cX0_swap 69 = .ok (.iload 5, 2) := by decide +kernel
theorem dX0_swap_71 : decode cX0_swap 71 = .ok (.iaload, 1) := by decide +kernel
theorem dX0_swap_72 : decode cX0_swap 72 = .ok (.aload_n 0, 1) := by decide +kernel
theorem dX0_swap_73 : decode cX0_swap 73 = .ok (.getfield 35, 3) := by decide +kernel
theorem dX0_swap_76 : decode cX0_swap 76 = .ok (.iload 5, 2) := by decide +kernel
theorem dX0_swap_78 : decode cX0_swap 78 = .ok (.iaload, 1) := by decide +kernel
theorem dX0_swap_79 : decode cX0_swap 79 = .ok (.aload_n 0, 1) := by decide +kernel
theorem dX0_swap_80 : decode cX0_swap 80 = .ok (.getfield 38, 3) := by decide +kernel
theorem dX0_swap_83 : decode cX0_swap 83 = .ok (.iload 5, 2) := by decide +kernel
theorem dX0_swap_85 : decode cX0_swap 85 = .ok (.iaload, 1) := by decide +kernel
theorem dX0_swap_86 : decode cX0_swap 86 = .ok (.invokevirtual 68, 3) := by decide +kernel
theorem dX0_swap_89 : decode cX0_swap 89 = .ok (.iastore, 1) := by decide +kernel
theorem dX0_swap_90 : decode cX0_swap 90 = .ok (.iinc 5 1, 3) := by decide +kernel
theorem dX0_swap_93 : decode cX0_swap 93 = .ok (.goto (-44), 3) := by decide +kernel
theorem dX0_swap_96 : decode cX0_swap 96 = .ok (.iconst 1, 1) := by decide +kernel
theorem dX0_swap_97 : decode cX0_swap 97 = .ok (.ireturn, 1) := by decide +kernel
set_option maxRecDepth 20000 in
theorem ggX0_second_X0_isThing : GoodIn wsX0_second wsX0_isThing := goodIn_r _ [6, 7, 8, 9, 10, 11, 12, 13, 14, 15, 16, 17, 18, 19, 20, 21, 22] (by decide +kernel) (by decide +kernel)
set_option maxRecDepth 20000 in
theorem gX0_second_X0_isThing : GoodIn wsX0_second (wsV RX0 60 RX0 yX0_isThing wsX0_isThing) := goodIn_app (goodIn_of _ (by decide +kernel)) ggX0_second_X0_isThing
theorem dX0_second_0 : decode cX0_second 0 = .ok (.aload_n 0, 1) := by decide +kernel
theorem dX0_second_1 : decode cX0_second 1 = .ok (.iload_n 1, 1) := by decide +kernel
theorem dX0_second_2 : decode cX0_second 2 = .ok (.invokevirtual 60, 3) := by decide +kernel
theorem dX0_second_5 : decode cX0_second 5 = .ok (.ifCond .eq 12, 3) := by decide +kernel
theorem dX0_second_8 : decode cX0_second 8 = .ok (.aload_n 0, 1) := by decide +kernel
theorem dX0_second_9 : decode cX0_second 9 = .ok (.getfield 13, 3) := by decide +kernel
theorem dX0_second_12 : decode cX0_second 12 = .ok (.iload_n 1, 1) := by decide +kernel
theorem dX0_second_13 : decode cX0_second 13 = .ok (.iaload, 1) := by decide +kernel
theorem dX0_second_14 : decode cX0_second 14 = .ok (.goto 4, 3) := by decide +kernel
theorem dX0_second_17 : decode cX0_second 17 = .ok (.iconst (-1), 1) := by decide +kernel
theorem dX0_second_18 : decode cX0_second 18 = .ok (.ireturn, 1) := by decide +kernel
set_option maxRecDepth 20000 in
theorem ggX0_heap_X0_canBeHeap : GoodIn wsX0_heap wsX0_canBeHeap := goodIn_r _ [10, 11, 12, 13, 9, 14, 15, 16, 17, 18, 19, 20, 21, 22, 23, 39, 40, 41, 42, 43, 44, 45, 46, 47, 48, 49, 50, 51, 52, 53] (by decide +kernel) (by decide +kernel)
set_option maxRecDepth 20000 in
theorem gX0_heap_X0_canBeHeap : GoodIn wsX0_heap (wsV RX0 72 RX0 yX0_canBeHeap wsX0_canBeHeap) := goodIn_app (goodIn_of _ (by decide +kernel)) ggX0_heap_X0_canBeHeap
set_option maxRecDepth 20000 in
theorem ggX0_heap_X0_thingsOf : GoodIn wsX0_heap wsX0_thingsOf := goodIn_r _ [27, 19, 28, 29, 30, 9, 31, 32, 33, 34, 35, 36, 37, 38, 39, 40, 41, 42, 43, 44, 45, 46, 47, 48, 49, 50, 51, 52, 53] (by decide +kernel) (by decide +kernel)
set_option maxRecDepth 20000 in
theorem gX0_heap_X0_thingsOf : GoodIn wsX0_heap (wsV RX0 68 RX0 yX0_thingsOf wsX0_thingsOf) := goodIn_app (goodIn_of _ (by decide +kernel)) ggX0_heap_X0_thingsOf
theorem dX0_heap_0 : decode cX0_heap 0 = .ok (.aload_n 0, 1) := by decide +kernel
theorem dX0_heap_1 : decode cX0_heap 1 = .ok (.iload_n 1, 1) := by decide +kernel
theorem dX0_heap_2 : decode cX0_heap 2 = .ok (.iload_n 2, 1) := by decide +kernel
theorem dX0_heap_3 : decode cX0_heap 3 = .ok (.iload_n 3, 1) := by decide +kernel
theorem dX0_heap_4 : decode cX0_heap 4 = .ok (.invokevirtual 72, 3) := by decide +kernel
theorem dX0_heap_7 : decode cX0_heap 7 = .ok (.ifCond .ne 5, 3) := by decide +kernel
theorem dX0_heap_10 : decode cX0_heap 10 = .ok (.iconst (-1), 1) := by decide +kernel
theorem dX0_heap_11 : decode cX0_heap 11 = .ok (.ireturn, 1) := by decide +kernel
theorem dX0_heap_12 : decode cX0_heap 12 = .ok (.aload_n 0, 1) := by decide +kernel
theorem dX0_heap_13 : decode cX0_heap 13 = .ok (.getfield 29, 3) := by decide +kernel
theorem dX0_heap_16 : decode cX0_heap 16 = .ok (.bipush 10, 2) := by decide +kernel
theorem dX0_heap_18 : decode cX0_heap 18 = .ok (.if_icmp .lt 6, 3) := by decide +kernel
theorem dX0_heap_21 : decode cX0_heap 21 = .ok (.bipush (-3), 2) := by decide +kernel
theorem dX0_heap_23 : decode cX0_heap 23 = .ok (.ireturn, 1) := by decide +kernel
theorem dX0_heap_24 : decode cX0_heap 24 = .ok (.aload_n 0, 1) := by decide +kernel
theorem dX0_heap_25 : decode cX0_heap 25 = .ok (.getfield 29, 3) := by decide +kernel
theorem dX0_heap_28 : decode cX0_heap 28 = .ok (.istore 4, 2) := by decide +kernel
theorem dX0_heap_30 : decode cX0_heap 30 = .ok (.aload_n 0, 1) := by decide +kernel
theorem dX0_heap_31 : decode cX0_heap 31 = .ok (.getfield 32, 3) := by decide +kernel
theorem dX0_heap_34 : decode cX0_heap 34 = .ok (.iload 4, 2) := by decide +kernel
theorem dX0_heap_36 : decode cX0_heap 36 = .ok (.iload_n 1, 1) := by decide +kernel
theorem dX0_heap_37 : decode cX0_heap 37 = .ok (.iastore, 1) := by decide +kernel
theorem dX0_heap_38 : decode cX0_heap 38 = .ok (.aload_n 0, 1) := by decide +kernel
theorem dX0_heap_39 : decode cX0_heap 39 = .ok (.getfield 35, 3) := by decide +kernel
theorem dX0_heap_42 : decode cX0_heap 42 = .ok (.iload 4, 2) := by decide +kernel
theorem dX0_heap_44 : decode cX0_heap 44 = .ok (.iload_n 2, 1) := by decide +kernel
theorem dX0_heap_45 : decode cX0_heap 45 = .ok (.iastore, 1) := by decide +kernel
theorem dX0_heap_46 : decode cX0_heap 46 = .ok (.aload_n 0, 1) := by decide +kernel
theorem dX0_heap_47 : decode cX0_heap 47 = .ok (.getfield 38, 3) := by decide +kernel
theorem dX0_heap_50 : decode cX0_heap 50 = .ok (.iload 4, 2) := by decide +kernel
theorem dX0_heap_52 : decode cX0_heap 52 = .ok (.iload_n 3, 1) := by decide +kernel
theorem dX0_heap_53 : decode cX0_heap 53 = .ok (.iastore, 1) := by decide +kernel
theorem dX0_heap_54 : decode cX0_heap 54 = .ok (.aload_n 0, 1) := by decide +kernel
theorem dX0_heap_55 : decode cX0_heap 55 = .ok (.getfield 41, 3) := by decide +kernel
theorem dX0_heap_58 : decode cX0_heap 58 = .ok (.iload 4, 2) := by decide +kernel
theorem dX0_heap_60 : decode cX0_heap 60 = .ok (.aload_n 0, 1) := by decide +kernel
theorem dX0_heap_61 : decode cX0_heap 61 = .ok (.iload_n 1, 1) := by decide +kernel
theorem dX0_heap_62 : decode cX0_heap 62 = .ok (.iload_n 2, 1) := by decide +kernel
theorem dX0_heap_63 : decode cX0_heap 63 = .ok (.iload_n 3, 1) := by decide +kernel
theorem dX0_heap_64 : decode cX0_heap 64 = .ok (.invokevirtual 68, 3) := by decide +kernel
theorem dX0_heap_67 : decode cX0_heap 67 = .ok (.iastore, 1) := by decide +kernel
theorem dX0_heap_68 : decode cX0_heap 68 = .ok (.aload_n 0, 1) := by decide +kernel
theorem dX0_heap_69 : decode cX0_heap 69 = .ok (.dup, 1) := by decide +kernel
theorem dX0_heap_70 : decode cX0_heap 70 = .ok (.getfield 29, 3) := by decide +kernel
theorem dX0_heap_73 : decode cX0_heap 73 = .ok (.iconst 1, 1) := by decide +kernel
theorem dX0_heap_74 : decode cX0_heap 74 = .ok (.iadd, 1) := by decide +kernel
theorem dX0_heap_75 : decode cX0_heap 75 = .ok (.putfield 29, 3) := by decide +kernel
theorem dX0_heap_78 : decode cX0_heap 78 = .ok (.iload 4, 2) := by decide +kernel
theorem dX0_heap_80 : decode cX0_heap 80 = .ok (.ireturn, 1) := by decide +kernel
theorem dX0_drop_0 : decode cX0_drop 0 = .ok (.aload_n 0, 1) := by decide +kernel
theorem dX0_drop_1 : decode cX0_drop 1 = .ok (.getfield 29, 3) := by decide +kernel
theorem dX0_drop_4 : decode cX0_drop 4 = .ok (.ifCond .ne 6, 3) := by decide +kernel
theorem dX0_drop_7 : decode cX0_drop 7 = .ok (.bipush (-2), 2) := by decide +kernel
theorem dX0_drop_9 : decode cX0_drop 9 = .ok (.ireturn, 1) := by decide +kernel
theorem dX0_drop_10 : decode cX0_drop 10 = .ok (.aload_n 0, 1) := by decide +kernel
theorem dX0_drop_11 : decode cX0_drop 11 = .ok (.dup, 1) := by decide +kernel
theorem dX0_drop_12 : decode cX0_drop 12 = .ok (.getfield 29, 3) := by decide +kernel
theorem dX0_drop_15 : decode cX0_drop 15 = .ok (.iconst 1, 1) := by decide +kernel
theorem dX0_drop_16 : decode cX0_drop 16 = .ok (.isub, 1) := by decide +kernel
theorem dX0_drop_17 : decode cX0_drop 17 = .ok (.putfield 29, 3) := by decide +kernel
theorem dX0_drop_20 : decode cX0_drop 20 = .ok (.aload_n 0, 1) := by decide +kernel
theorem dX0_drop_21 : decode cX0_drop 21 = .ok (.getfield 29, 3) := by decide +kernel
theorem dX0_drop_24 : decode cX0_drop 24 = .ok (.ireturn, 1) := by decide +kernel
set_option maxRecDepth 20000 in
theorem ggX0_has_X0_isHeap : GoodIn wsX0_has wsX0_isHeap := goodIn_r _ [8, 9, 21, 22, 23, 24, 25, 26, 27, 28, 29, 30, 31, 32, 33, 34, 35] (by decide +kernel) (by decide +kernel)
set_option maxRecDepth 20000 in
theorem gX0_has_X0_isHeap : GoodIn wsX0_has (wsV RX0 76 RX0 yX0_isHeap wsX0_isHeap) := goodIn_app (goodIn_of _ (by decide +kernel)) ggX0_has_X0_isHeap
set_option maxRecDepth 20000 in
theorem ggX0_has_X0_isThing : GoodIn wsX0_has wsX0_isThing := goodIn_r _ [13, 14, 21, 22, 23, 24, 25, 26, 27, 28, 29, 30, 31, 32, 33, 34, 35] (by decide +kernel) (by decide +kernel)
set_option maxRecDepth 20000 in
theorem gX0_has_X0_isThing : GoodIn wsX0_has (wsV RX0 60 RX0 yX0_isThing wsX0_isThing) := goodIn_app (goodIn_of _ (by decide +kernel)) ggX0_has_X0_isThing
set_option maxRecDepth 20000 in
theorem ggX0_has_X0_traceOf : GoodIn wsX0_has wsX0_traceOf := goodIn_r _ [17] (by decide +kernel) (by decide +kernel)
set_option maxRecDepth 20000 in
theorem gX0_has_X0_traceOf : GoodIn wsX0_has (va_wsS RX0 79 yX0_traceOf wsX0_traceOf) := goodIn_app (goodIn_of _ (by decide +kernel)) ggX0_has_X0_traceOf
set_option maxRecDepth 20000 in
theorem ggX0_has_X0_bitOf : GoodIn wsX0_has wsX0_bitOf := goodIn_r _ [20] (by decide +kernel) (by decide +kernel)
set_option maxRecDepth 20000 in
theorem gX0_has_X0_bitOf : GoodIn wsX0_has (va_wsS RX0 83 yX0_bitOf wsX0_bitOf) := goodIn_app (goodIn_of _ (by decide +kernel)) ggX0_has_X0_bitOf
theorem dX0_has_0 : decode cX0_has 0 = .ok (.aload_n 0, 1) := by decide +kernel
theorem dX0_has_1 : decode cX0_has 1 = .ok (.iload_n 1, 1) := by decide +kernel
theorem dX0_has_2 : decode cX0_has 2 = .ok (.invokevirtual 76, 3) := by decide +kernel
theorem dX0_has_5 : decode cX0_has 5 = .ok (.ifCond .eq 11, 3) := by decide +kernel
theorem dX0_has_8 : decode cX0_has 8 = .ok (.aload_n 0, 1) := by decide +kernel
theorem dX0_has_9 : decode cX0_has 9 = .ok (.iload_n 2, 1) := by decide +kernel
theorem dX0_has_10 : decode cX0_has 10 = .ok (.invokevirtual 60, 3) := by decide +kernel
theorem dX0_has_13 : decode cX0_has 13 = .ok (.ifCond .ne 5, 3) := by decide +kernel
theorem dX0_has_16 : decode cX0_has 16 = .ok (.iconst (-1), 1) := by decide +kernel
theorem dX0_has_17 : decode cX0_has 17 = .ok (.ireturn, 1) := by decide +kernel
theorem dX0_has_18 : decode cX0_has 18 = .ok (.aload_n 0, 1) := by decide +kernel
theorem dX0_has_19 : decode cX0_has 19 = .ok (.dup, 1) := by decide +kernel
theorem dX0_has_20 : decode cX0_has 20 = .ok (.getfield 53, 3) := by decide +kernel
theorem dX0_has_23 : decode cX0_has 23 = .ok (.aload_n 0, 1) := by decide +kernel
theorem dX0_has_24 : decode cX0_has 24 = .ok (.getfield 32, 3) := by decide +kernel
theorem dX0_has_27 : decode cX0_has 27 = .ok (.iload_n 1, 1) := by decide +kernel
theorem dX0_has_28 : decode cX0_has 28 = .ok (.iaload, 1) := by decide +kernel
theorem dX0_has_29 : decode cX0_has 29 = .ok (.invokestatic 79, 3) := by decide +kernel
theorem dX0_has_32 : decode cX0_has 32 = .ok (.i2l, 1) := by decide +kernel
theorem dX0_has_33 : decode cX0_has 33 = .ok (.ladd, 1) := by decide +kernel
theorem dX0_has_34 : decode cX0_has 34 = .ok (.putfield 53, 3) := by decide +kernel
theorem dX0_has_37 : decode cX0_has 37 = .ok (.aload_n 0, 1) := by decide +kernel
theorem dX0_has_38 : decode cX0_has 38 = .ok (.getfield 41, 3) := by decide +kernel
theorem dX0_has_41 : decode cX0_has 41 = .ok (.iload_n 1, 1) := by decide +kernel
theorem dX0_has_42 : decode cX0_has 42 = .ok (.iaload, 1) := by decide +kernel
theorem dX0_has_43 : decode cX0_has 43 = .ok (.iload_n 2, 1) := by decide +kernel
theorem dX0_has_44 : decode cX0_has 44 = .ok (.invokestatic 83, 3) := by decide +kernel
theorem dX0_has_47 : decode cX0_has 47 = .ok (.ireturn, 1) := by decide +kernel
set_option maxRecDepth 20000 in
theorem ggX0_bits_X0_isHeap : GoodIn wsX0_bits wsX0_isHeap := goodIn_r _ [6, 7, 8, 9, 10, 11, 12, 13, 14, 15, 16, 17, 18, 19, 20, 21, 22] (by decide +kernel) (by decide +kernel)
set_option maxRecDepth 20000 in
theorem gX0_bits_X0_isHeap : GoodIn wsX0_bits (wsV RX0 76 RX0 yX0_isHeap wsX0_isHeap) := goodIn_app (goodIn_of _ (by decide +kernel)) ggX0_bits_X0_isHeap
theorem dX0_bits_0 : decode cX0_bits 0 = .ok (.aload_n 0, 1) := by decide +kernel
theorem dX0_bits_1 : decode cX0_bits 1 = .ok (.iload_n 1, 1) := by decide +kernel
theorem dX0_bits_2 : decode cX0_bits 2 = .ok (.invokevirtual 76, 3) := by decide +kernel
theorem dX0_bits_5 : decode cX0_bits 5 = .ok (.ifCond .eq 12, 3) := by decide +kernel
theorem dX0_bits_8 : decode cX0_bits 8 = .ok (.aload_n 0, 1) := by decide +kernel
theorem dX0_bits_9 : decode cX0_bits 9 = .ok (.getfield 41, 3) := by decide +kernel
theorem dX0_bits_12 : decode cX0_bits 12 = .ok (.iload_n 1, 1) := by decide +kernel
theorem dX0_bits_13 : decode cX0_bits 13 = .ok (.iaload, 1) := by decide +kernel
theorem dX0_bits_14 : decode cX0_bits 14 = .ok (.goto 4, 3) := by decide +kernel
theorem dX0_bits_17 : decode cX0_bits 17 = .ok (.iconst (-1), 1) := by decide +kernel
theorem dX0_bits_18 : decode cX0_bits 18 = .ok (.ireturn, 1) := by decide +kernel
set_option maxRecDepth 20000 in
theorem ggX0_hold_X0_isThing : GoodIn wsX0_hold wsX0_isThing := goodIn_r _ [7, 8, 16, 17, 18, 19, 20, 21, 22, 23, 24, 25, 26, 27, 28, 29, 30] (by decide +kernel) (by decide +kernel)
set_option maxRecDepth 20000 in
theorem gX0_hold_X0_isThing : GoodIn wsX0_hold (wsV RX0 60 RX0 yX0_isThing wsX0_isThing) := goodIn_app (goodIn_of _ (by decide +kernel)) ggX0_hold_X0_isThing
set_option maxRecDepth 20000 in
theorem ggX0_hold_X0_isHeld : GoodIn wsX0_hold wsX0_isHeld := goodIn_r _ [12, 2, 13, 14, 6, 15, 16, 17, 18, 19, 20, 21, 22, 23, 24, 25, 26, 27, 28, 29, 30] (by decide +kernel) (by decide +kernel)
set_option maxRecDepth 20000 in
theorem gX0_hold_X0_isHeld : GoodIn wsX0_hold (wsV RX0 87 RX0 yX0_isHeld wsX0_isHeld) := goodIn_app (goodIn_of _ (by decide +kernel)) ggX0_hold_X0_isHeld
set_option maxRecDepth 20000 in
theorem ggX0_hold_X0_bitOf : GoodIn wsX0_hold wsX0_bitOf := goodIn_r _ [15] (by decide +kernel) (by decide +kernel)
set_option maxRecDepth 20000 in
theorem gX0_hold_X0_bitOf : GoodIn wsX0_hold (va_wsS RX0 83 yX0_bitOf wsX0_bitOf) := goodIn_app (goodIn_of _ (by decide +kernel)) ggX0_hold_X0_bitOf
theorem dX0_hold_0 : decode cX0_hold 0 = .ok (.aload_n 0, 1) := by decide +kernel
theorem dX0_hold_1 : decode cX0_hold 1 = .ok (.iload_n 1, 1) := by decide +kernel
theorem dX0_hold_2 : decode cX0_hold 2 = .ok (.invokevirtual 60, 3) := by decide +kernel
theorem dX0_hold_5 : decode cX0_hold 5 = .ok (.ifCond .eq 13, 3) := by decide +kernel
theorem dX0_hold_8 : decode cX0_hold 8 = .ok (.iload_n 2, 1) := by decide +kernel
theorem dX0_hold_9 : decode cX0_hold 9 = .ok (.iconst (-1), 1) := by decide +kernel
theorem dX0_hold_10 : decode cX0_hold 10 = .ok (.if_icmp .lt 8, 3) := by decide +kernel
theorem dX0_hold_13 : decode cX0_hold 13 = .ok (.iload_n 2, 1) := by decide +kernel
theorem dX0_hold_14 : decode cX0_hold 14 = .ok (.iconst 1, 1) := by decide +kernel
theorem dX0_hold_15 : decode cX0_hold 15 = .ok (.if_icmp .le 6, 3) := by decide +kernel
theorem dX0_hold_18 : decode cX0_hold 18 = .ok (.bipush (-2), 2) := by decide +kernel
theorem dX0_hold_20 : decode cX0_hold 20 = .ok (.ireturn, 1) := by decide +kernel
theorem dX0_hold_21 : decode cX0_hold 21 = .ok (.aload_n 0, 1) := by decide +kernel
theorem dX0_hold_22 : decode cX0_hold 22 = .ok (.iload_n 1, 1) := by decide +kernel
theorem dX0_hold_23 : decode cX0_hold 23 = .ok (.invokevirtual 87, 3) := by decide +kernel
theorem dX0_hold_26 : decode cX0_hold 26 = .ok (.ifCond .eq 14, 3) := by decide +kernel
theorem dX0_hold_29 : decode cX0_hold 29 = .ok (.aload_n 0, 1) := by decide +kernel
theorem dX0_hold_30 : decode cX0_hold 30 = .ok (.getfield 23, 3) := by decide +kernel
theorem dX0_hold_33 : decode cX0_hold 33 = .ok (.iload_n 1, 1) := by decide +kernel
theorem dX0_hold_34 : decode cX0_hold 34 = .ok (.invokestatic 83, 3) := by decide +kernel
theorem dX0_hold_37 : decode cX0_hold 37 = .ok (.goto 4, 3) := by decide +kernel
theorem dX0_hold_40 : decode cX0_hold 40 = .ok (.iconst (-1), 1) := by decide +kernel
theorem dX0_hold_41 : decode cX0_hold 41 = .ok (.istore_n 3, 1) := by decide +kernel
theorem dX0_hold_42 : decode cX0_hold 42 = .ok (.iconst 1, 1) := by decide +kernel
theorem dX0_hold_43 : decode cX0_hold 43 = .ok (.iload_n 1, 1) := by decide +kernel
theorem dX0_hold_44 : decode cX0_hold 44 = .ok (.ishl, 1) := by decide +kernel
theorem dX0_hold_45 : decode cX0_hold 45 = .ok (.istore 4, 2) := by decide +kernel
theorem dX0_hold_47 : decode cX0_hold 47 = .ok (.aload_n 0, 1) := by decide +kernel
theorem dX0_hold_48 : decode cX0_hold 48 = .ok (.iload_n 2, 1) := by decide +kernel
theorem dX0_hold_49 : decode cX0_hold 49 = .ok (.iconst (-1), 1) := by decide +kernel
theorem dX0_hold_50 : decode cX0_hold 50 = .ok (.if_icmp .ne 15, 3) := by decide +kernel
theorem dX0_hold_53 : decode cX0_hold 53 = .ok (.aload_n 0, 1) := by decide +kernel
theorem dX0_hold_54 : decode cX0_hold 54 = .ok (.getfield 20, 3) := by decide +kernel
theorem dX0_hold_57 : decode cX0_hold 57 = .ok (.iload 4, 2) := by decide +kernel
theorem dX0_hold_59 : decode cX0_hold 59 = .ok (.iconst (-1), 1) := by decide +kernel
theorem dX0_hold_60 : decode cX0_hold 60 = .ok (.ixor, 1) := by decide +kernel
theorem dX0_hold_61 : decode cX0_hold 61 = .ok (.iand, 1) := by decide +kernel
theorem dX0_hold_62 : decode cX0_hold 62 = .ok (.goto 10, 3) := by decide +kernel
theorem dX0_hold_65 : decode cX0_hold 65 = .ok (.aload_n 0, 1) := by decide +kernel
theorem dX0_hold_66 : decode cX0_hold 66 = .ok (.getfield 20, 3) := by decide +kernel
theorem dX0_hold_69 : decode cX0_hold 69 = .ok (.iload 4, 2) := by decide +kernel
theorem dX0_hold_71 : decode cX0_hold 71 = .ok (.ior, 1) := by decide +kernel
theorem dX0_hold_72 : decode cX0_hold 72 = .ok (.putfield 20, 3) := by decide +kernel
theorem dX0_hold_75 : decode cX0_hold 75 = .ok (.aload_n 0, 1) := by decide +kernel
theorem dX0_hold_76 : decode cX0_hold 76 = .ok (.iload_n 2, 1) := by decide +kernel
theorem dX0_hold_77 : decode cX0_hold 77 = .ok (.iconst 1, 1) := by decide +kernel
theorem dX0_hold_78 : decode cX0_hold 78 = .ok (.if_icmp .ne 13, 3) := by decide +kernel
theorem dX0_hold_81 : decode cX0_hold 81 = .ok (.aload_n 0, 1) := by decide +kernel
theorem dX0_hold_82 : decode cX0_hold 82 = .ok (.getfield 23, 3) := by decide +kernel
theorem dX0_hold_85 : decode cX0_hold 85 = .ok (.iload 4, 2) := by decide +kernel
theorem dX0_hold_87 : decode cX0_hold 87 = .ok (.ior, 1) := by decide +kernel
theorem dX0_hold_88 : decode cX0_hold 88 = .ok (.goto 12, 3) := by decide +kernel
theorem dX0_hold_91 : decode cX0_hold 91 = .ok (.aload_n 0, 1) := by decide +kernel
theorem dX0_hold_92 : decode cX0_hold 92 = .ok (.getfield 23, 3) := by decide +kernel
theorem dX0_hold_95 : decode cX0_hold 95 = .ok (.iload 4, 2) := by decide +kernel
theorem dX0_hold_97 : decode cX0_hold 97 = .ok (.iconst (-1), 1) := by decide +kernel
theorem dX0_hold_98 : decode cX0_hold 98 = .ok (.ixor, 1) := by decide +kernel
theorem dX0_hold_99 : decode cX0_hold 99 = .ok (.iand, 1) := by decide +kernel
theorem dX0_hold_100 : decode cX0_hold 100 = .ok (.putfield 23, 3) := by decide +kernel
theorem dX0_hold_103 : decode cX0_hold 103 = .ok (.iload_n 3, 1) := by decide +kernel
theorem dX0_hold_104 : decode cX0_hold 104 = .ok (.ireturn, 1) := by decide +kernel
set_option maxRecDepth 20000 in
theorem ggX0_orderByNumbers_X0_putAt : GoodIn wsX0_orderByNumbers wsX0_putAt := goodIn_r _ [5, 6, 7, 8, 9, 10, 11, 12, 13, 14, 15, 16, 17, 18, 19, 20, 21, 22] (by decide +kernel) (by decide +kernel)
set_option maxRecDepth 20000 in
theorem gX0_orderByNumbers_X0_putAt : GoodIn wsX0_orderByNumbers (wsV RX0 64 RX0 yX0_putAt wsX0_putAt) := goodIn_app (goodIn_of _ (by decide +kernel)) ggX0_orderByNumbers_X0_putAt
theorem dX0_orderByNumbers_0 : decode cX0_orderByNumbers 0 = .ok (.iconst 0, 1) := by decide +kernel
theorem dX0_orderByNumbers_1 : decode cX0_orderByNumbers 1 = .ok (.istore_n 1, 1) := by decide +kernel
theorem dX0_orderByNumbers_2 : decode cX0_orderByNumbers 2 = .ok (.iload_n 1, 1) := by decide +kernel
theorem dX0_orderByNumbers_3 : decode cX0_orderByNumbers 3 = .ok (.bipush 12, 2) := by decide +kernel
theorem dX0_orderByNumbers_5 : decode cX0_orderByNumbers 5 = .ok (.if_icmp .ge 15, 3) := by decide +kernel
theorem dX0_orderByNumbers_8 : decode cX0_orderByNumbers 8 = .ok (.aload_n 0, 1) := by decide +kernel
theorem dX0_orderByNumbers_9 : decode cX0_orderByNumbers 9 = .ok (.iload_n 1, 1) := by decide +kernel
theorem dX0_orderByNumbers_10 : decode cX0_orderByNumbers 10 = .ok (.iload_n 1, 1) := by decide +kernel
theorem dX0_orderByNumbers_11 : decode cX0_orderByNumbers 11 = .ok (.invokevirtual 64, 3) := by decide +kernel
theorem dX0_orderByNumbers_14 : decode cX0_orderByNumbers 14 = .ok (.iinc 1 1, 3) := by decide +kernel
theorem dX0_orderByNumbers_17 : decode cX0_orderByNumbers 17 = .ok (.goto (-15), 3) := by decide +kernel
theorem dX0_orderByNumbers_20 : decode cX0_orderByNumbers 20 = .ok (.return_, 1) := by decide +kernel
theorem dX0_putAt_0 : decode cX0_putAt 0 = .ok (.aload_n 0, 1) := by decide +kernel
theorem dX0_putAt_1 : decode cX0_putAt 1 = .ok (.getfield 13, 3) := by decide +kernel
theorem dX0_putAt_4 : decode cX0_putAt 4 = .ok (.iload_n 1, 1) := by decide +kernel
theorem dX0_putAt_5 : decode cX0_putAt 5 = .ok (.iload_n 2, 1) := by decide +kernel
theorem dX0_putAt_6 : decode cX0_putAt 6 = .ok (.iastore, 1) := by decide +kernel
theorem dX0_putAt_7 : decode cX0_putAt 7 = .ok (.aload_n 0, 1) := by decide +kernel
theorem dX0_putAt_8 : decode cX0_putAt 8 = .ok (.getfield 17, 3) := by decide +kernel
theorem dX0_putAt_11 : decode cX0_putAt 11 = .ok (.iload_n 2, 1) := by decide +kernel
theorem dX0_putAt_12 : decode cX0_putAt 12 = .ok (.iload_n 1, 1) := by decide +kernel
theorem dX0_putAt_13 : decode cX0_putAt 13 = .ok (.iastore, 1) := by decide +kernel
theorem dX0_putAt_14 : decode cX0_putAt 14 = .ok (.return_, 1) := by decide +kernel
theorem dX0_isThing_0 : decode cX0_isThing 0 = .ok (.iload_n 1, 1) := by decide +kernel
theorem dX0_isThing_1 : decode cX0_isThing 1 = .ok (.ifCond .lt 15, 3) := by decide +kernel
theorem dX0_isThing_4 : decode cX0_isThing 4 = .ok (.iload_n 1, 1) := by decide +kernel
theorem dX0_isThing_5 : decode cX0_isThing 5 = .ok (.aload_n 0, 1) := by decide +kernel
theorem dX0_isThing_6 : decode cX0_isThing 6 = .ok (.getfield 7, 3) := by decide +kernel
theorem dX0_isThing_9 : decode cX0_isThing 9 = .ok (.if_icmp .ge 7, 3) := by decide +kernel
theorem dX0_isThing_12 : decode cX0_isThing 12 = .ok (.iconst 1, 1) := by decide +kernel
theorem dX0_isThing_13 : decode cX0_isThing 13 = .ok (.goto 4, 3) := by decide +kernel
theorem dX0_isThing_16 : decode cX0_isThing 16 = .ok (.iconst 0, 1) := by decide +kernel
theorem dX0_isThing_17 : decode cX0_isThing 17 = .ok (.ireturn, 1) := by decide +kernel
theorem dX0_isHeap_0 : decode cX0_isHeap 0 = .ok (.iload_n 1, 1) := by decide +kernel
theorem dX0_isHeap_1 : decode cX0_isHeap 1 = .ok (.ifCond .lt 15, 3) := by decide +kernel
theorem dX0_isHeap_4 : decode cX0_isHeap 4 = .ok (.iload_n 1, 1) := by decide +kernel
theorem dX0_isHeap_5 : decode cX0_isHeap 5 = .ok (.aload_n 0, 1) := by decide +kernel
theorem dX0_isHeap_6 : decode cX0_isHeap 6 = .ok (.getfield 29, 3) := by decide +kernel
theorem dX0_isHeap_9 : decode cX0_isHeap 9 = .ok (.if_icmp .ge 7, 3) := by decide +kernel
theorem dX0_isHeap_12 : decode cX0_isHeap 12 = .ok (.iconst 1, 1) := by decide +kernel
theorem dX0_isHeap_13 : decode cX0_isHeap 13 = .ok (.goto 4, 3) := by decide +kernel
theorem dX0_isHeap_16 : decode cX0_isHeap 16 = .ok (.iconst 0, 1) := by decide +kernel
theorem dX0_isHeap_17 : decode cX0_isHeap 17 = .ok (.ireturn, 1) := by decide +kernel
set_option maxRecDepth 20000 in
theorem ggX0_isHeld_X0_bitOf : GoodIn wsX0_isHeld wsX0_bitOf := goodIn_r _ [5] (by decide +kernel) (by decide +kernel)
set_option maxRecDepth 20000 in
theorem gX0_isHeld_X0_bitOf : GoodIn wsX0_isHeld (va_wsS RX0 83 yX0_bitOf wsX0_bitOf) := goodIn_app (goodIn_of _ (by decide +kernel)) ggX0_isHeld_X0_bitOf
theorem dX0_isHeld_0 : decode cX0_isHeld 0 = .ok (.aload_n 0, 1) := by decide +kernel
theorem dX0_isHeld_1 : decode cX0_isHeld 1 = .ok (.getfield 20, 3) := by decide +kernel
theorem dX0_isHeld_4 : decode cX0_isHeld 4 = .ok (.iload_n 1, 1) := by decide +kernel
theorem dX0_isHeld_5 : decode cX0_isHeld 5 = .ok (.invokestatic 83, 3) := by decide +kernel
theorem dX0_isHeld_8 : decode cX0_isHeld 8 = .ok (.iconst 1, 1) := by decide +kernel
theorem dX0_isHeld_9 : decode cX0_isHeld 9 = .ok (.if_icmp .ne 7, 3) := by decide +kernel
theorem dX0_isHeld_12 : decode cX0_isHeld 12 = .ok (.iconst 1, 1) := by decide +kernel
theorem dX0_isHeld_13 : decode cX0_isHeld 13 = .ok (.goto 4, 3) := by decide +kernel
theorem dX0_isHeld_16 : decode cX0_isHeld 16 = .ok (.iconst 0, 1) := by decide +kernel
theorem dX0_isHeld_17 : decode cX0_isHeld 17 = .ok (.ireturn, 1) := by decide +kernel
set_option maxRecDepth 20000 in
theorem ggX0_canBeHeap_X0_isColouring : GoodIn wsX0_canBeHeap wsX0_isColouring := goodIn_r _ [5, 6, 7, 8, 4, 9, 10, 15, 16, 17, 18, 19, 20, 21, 22, 23, 24, 25, 26, 27, 28, 29] (by decide +kernel) (by decide +kernel)
set_option maxRecDepth 20000 in
theorem gX0_canBeHeap_X0_isColouring : GoodIn wsX0_canBeHeap (wsV RX0 90 RX0 yX0_isColouring wsX0_isColouring) := goodIn_app (goodIn_of _ (by decide +kernel)) ggX0_canBeHeap_X0_isColouring
set_option maxRecDepth 20000 in
theorem ggX0_canBeHeap_X0_isThing : GoodIn wsX0_canBeHeap wsX0_isThing := goodIn_r _ [14, 10, 15, 16, 17, 18, 19, 20, 21, 22, 23, 24, 25, 26, 27, 28, 29] (by decide +kernel) (by decide +kernel)
set_option maxRecDepth 20000 in
theorem gX0_canBeHeap_X0_isThing : GoodIn wsX0_canBeHeap (wsV RX0 60 RX0 yX0_isThing wsX0_isThing) := goodIn_app (goodIn_of _ (by decide +kernel)) ggX0_canBeHeap_X0_isThing
theorem dX0_canBeHeap_0 : decode cX0_canBeHeap 0 = .ok (.iload_n 1, 1) := by decide +kernel
theorem dX0_canBeHeap_1 : decode cX0_canBeHeap 1 = .ok (.tableswitch 89 0 3 #[31, 37, 37, 64], 31) := by decide +kernel
theorem dX0_canBeHeap_32 : decode cX0_canBeHeap 32 = .ok (.aload_n 0, 1) := by decide +kernel
theorem dX0_canBeHeap_33 : decode cX0_canBeHeap 33 = .ok (.iload_n 2, 1) := by decide +kernel
theorem dX0_canBeHeap_34 : decode cX0_canBeHeap 34 = .ok (.invokevirtual 90, 3) := by decide +kernel
theorem dX0_canBeHeap_37 : decode cX0_canBeHeap 37 = .ok (.ireturn, 1) := by decide +kernel
theorem dX0_canBeHeap_38 : decode cX0_canBeHeap 38 = .ok (.aload_n 0, 1) := by decide +kernel
theorem dX0_canBeHeap_39 : decode cX0_canBeHeap 39 = .ok (.iload_n 2, 1) := by decide +kernel
theorem dX0_canBeHeap_40 : decode cX0_canBeHeap 40 = .ok (.invokevirtual 60, 3) := by decide +kernel
theorem dX0_canBeHeap_43 : decode cX0_canBeHeap 43 = .ok (.ifCond .eq 20, 3) := by decide +kernel
theorem dX0_canBeHeap_46 : decode cX0_canBeHeap 46 = .ok (.aload_n 0, 1) := by decide +kernel
theorem dX0_canBeHeap_47 : decode cX0_canBeHeap 47 = .ok (.iload_n 3, 1) := by decide +kernel
theorem dX0_canBeHeap_48 : decode cX0_canBeHeap 48 = .ok (.invokevirtual 60, 3) := by decide +kernel
theorem dX0_canBeHeap_51 : decode cX0_canBeHeap 51 = .ok (.ifCond .eq 12, 3) := by decide +kernel
theorem dX0_canBeHeap_54 : decode cX0_canBeHeap 54 = .ok (.iload_n 2, 1) := by decide +kernel
theorem dX0_canBeHeap_55 : decode cX0_canBeHeap 55 = .ok (.iload_n 3, 1) := by decide +kernel
theorem dX0_canBeHeap_56 : decode cX0_canBeHeap 56 = .ok (.if_icmp .gt 7, 3) := by decide +kernel
theorem dX0_canBeHeap_59 : decode cX0_canBeHeap 59 = .ok (.iconst 1, 1) := by decide +kernel
theorem dX0_canBeHeap_60 : decode cX0_canBeHeap 60 = .ok (.goto 4, 3) := by decide +kernel
theorem dX0_canBeHeap_63 : decode cX0_canBeHeap 63 = .ok (.iconst 0, 1) := by decide +kernel
theorem dX0_canBeHeap_64 : decode cX0_canBeHeap 64 = .ok (.ireturn, 1) := by decide +kernel
theorem dX0_canBeHeap_65 : decode cX0_canBeHeap 65 = .ok (.aload_n 0, 1) := by decide +kernel
theorem dX0_canBeHeap_66 : decode cX0_canBeHeap 66 = .ok (.iload_n 2, 1) := by decide +kernel
theorem dX0_canBeHeap_67 : decode cX0_canBeHeap 67 = .ok (.invokevirtual 60, 3) := by decide +kernel
theorem dX0_canBeHeap_70 : decode cX0_canBeHeap 70 = .ok (.ifCond .eq 18, 3) := by decide +kernel
theorem dX0_canBeHeap_73 : decode cX0_canBeHeap 73 = .ok (.iload_n 3, 1) := by decide +kernel
theorem dX0_canBeHeap_74 : decode cX0_canBeHeap 74 = .ok (.iconst 1, 1) := by decide +kernel
theorem dX0_canBeHeap_75 : decode cX0_canBeHeap 75 = .ok (.if_icmp .lt 13, 3) := by decide +kernel
theorem dX0_canBeHeap_78 : decode cX0_canBeHeap 78 = .ok (.iload_n 3, 1) := by decide +kernel
theorem dX0_canBeHeap_79 : decode cX0_canBeHeap 79 = .ok (.bipush 12, 2) := by decide +kernel
theorem dX0_canBeHeap_81 : decode cX0_canBeHeap 81 = .ok (.if_icmp .gt 7, 3) := by decide +kernel
theorem dX0_canBeHeap_84 : decode cX0_canBeHeap 84 = .ok (.iconst 1, 1) := by decide +kernel
theorem dX0_canBeHeap_85 : decode cX0_canBeHeap 85 = .ok (.goto 4, 3) := by decide +kernel
theorem dX0_canBeHeap_88 : decode cX0_canBeHeap 88 = .ok (.iconst 0, 1) := by decide +kernel
theorem dX0_canBeHeap_89 : decode cX0_canBeHeap 89 = .ok (.ireturn, 1) := by decide +kernel
theorem dX0_canBeHeap_90 : decode cX0_canBeHeap 90 = .ok (.iconst 0, 1) := by decide +kernel
theorem dX0_canBeHeap_91 : decode cX0_canBeHeap 91 = .ok (.ireturn, 1) := by decide +kernel
set_option maxRecDepth 20000 in
theorem ggX0_thingsOf_X0_belongs : GoodIn wsX0_thingsOf wsX0_belongs := goodIn_r _ [6, 7, 8, 9, 5, 10, 11, 12, 13, 14, 15, 16, 17, 18, 19, 20, 21, 22, 23, 24, 25, 26, 27, 28] (by decide +kernel) (by decide +kernel)
set_option maxRecDepth 20000 in
theorem gX0_thingsOf_X0_belongs : GoodIn wsX0_thingsOf (wsV RX0 93 RX0 yX0_belongs wsX0_belongs) := goodIn_app (goodIn_of _ (by decide +kernel)) ggX0_thingsOf_X0_belongs
theorem dX0_thingsOf_0 : decode cX0_thingsOf 0 = .ok (.iconst 0, 1) := by decide +kernel
theorem dX0_thingsOf_1 : decode cX0_thingsOf 1 = .ok (.istore 4, 2) := by decide +kernel
theorem dX0_thingsOf_3 : decode cX0_thingsOf 3 = .ok (.iconst 0, 1) := by decide +kernel
theorem dX0_thingsOf_4 : decode cX0_thingsOf 4 = .ok (.istore 5, 2) := by decide +kernel
theorem dX0_thingsOf_6 : decode cX0_thingsOf 6 = .ok (.iload 5, 2) := by decide +kernel
theorem dX0_thingsOf_8 : decode cX0_thingsOf 8 = .ok (.aload_n 0, 1) := by decide +kernel
theorem dX0_thingsOf_9 : decode cX0_thingsOf 9 = .ok (.getfield 7, 3) := by decide +kernel
theorem dX0_thingsOf_12 : decode cX0_thingsOf 12 = .ok (.if_icmp .ge 30, 3) := by decide +kernel
theorem dX0_thingsOf_15 : decode cX0_thingsOf 15 = .ok (.aload_n 0, 1) := by decide +kernel
theorem dX0_thingsOf_16 : decode cX0_thingsOf 16 = .ok (.iload 5, 2) := by decide +kernel
theorem dX0_thingsOf_18 : decode cX0_thingsOf 18 = .ok (.iload_n 1, 1) := by decide +kernel
theorem dX0_thingsOf_19 : decode cX0_thingsOf 19 = .ok (.iload_n 2, 1) := by decide +kernel
theorem dX0_thingsOf_20 : decode cX0_thingsOf 20 = .ok (.iload_n 3, 1) := by decide +kernel
theorem dX0_thingsOf_21 : decode cX0_thingsOf 21 = .ok (.invokevirtual 93, 3) := by decide +kernel
theorem dX0_thingsOf_24 : decode cX0_thingsOf 24 = .ok (.ifCond .eq 12, 3) := by decide +kernel
theorem dX0_thingsOf_27 : decode cX0_thingsOf 27 = .ok (.iload 4, 2) := by decide +kernel
theorem dX0_thingsOf_29 : decode cX0_thingsOf 29 = .ok (.iconst 1, 1) := by decide +kernel
theorem dX0_thingsOf_30 : decode cX0_thingsOf 30 = .ok (.iload 5, 2) := by decide +kernel
theorem dX0_thingsOf_32 : decode cX0_thingsOf 32 = .ok (.ishl, 1) := by decide +kernel
theorem dX0_thingsOf_33 : decode cX0_thingsOf 33 = .ok (.ior, 1) := by decide +kernel
theorem dX0_thingsOf_34 : decode cX0_thingsOf 34 = .ok (.istore 4, 2) := by decide +kernel
theorem dX0_thingsOf_36 : decode cX0_thingsOf 36 = .ok (.iinc 5 1, 3) := by decide +kernel
theorem dX0_thingsOf_39 : decode cX0_thingsOf 39 = .ok (.goto (-33), 3) := by decide +kernel
theorem dX0_thingsOf_42 : decode cX0_thingsOf 42 = .ok (.iload 4, 2) := by decide +kernel
theorem dX0_thingsOf_44 : decode cX0_thingsOf 44 = .ok (.ireturn, 1) := by decide +kernel
set_option maxRecDepth 20000 in
theorem ggX0_belongs_X0_isWithin : GoodIn wsX0_belongs wsX0_isWithin := goodIn_r _ [5] (by decide +kernel) (by decide +kernel)
set_option maxRecDepth 20000 in
theorem gX0_belongs_X0_isWithin : GoodIn wsX0_belongs (va_wsS RX0 97 yX0_isWithin wsX0_isWithin) := goodIn_app (goodIn_of _ (by decide +kernel)) ggX0_belongs_X0_isWithin
set_option maxRecDepth 20000 in
theorem ggX0_belongs_X0_bitOf : GoodIn wsX0_belongs wsX0_bitOf := goodIn_r _ [8] (by decide +kernel) (by decide +kernel)
set_option maxRecDepth 20000 in
theorem gX0_belongs_X0_bitOf : GoodIn wsX0_belongs (va_wsS RX0 83 yX0_bitOf wsX0_bitOf) := goodIn_app (goodIn_of _ (by decide +kernel)) ggX0_belongs_X0_bitOf
theorem dX0_belongs_0 : decode cX0_belongs 0 = .ok (.iload_n 2, 1) := by decide +kernel
theorem dX0_belongs_1 : decode cX0_belongs 1 = .ok (.tableswitch 73 1 3 #[27, 35, 48], 27) := by decide +kernel
theorem dX0_belongs_28 : decode cX0_belongs 28 = .ok (.iload_n 1, 1) := by decide +kernel
theorem dX0_belongs_29 : decode cX0_belongs 29 = .ok (.iload_n 3, 1) := by decide +kernel
theorem dX0_belongs_30 : decode cX0_belongs 30 = .ok (.iload 4, 2) := by decide +kernel
theorem dX0_belongs_32 : decode cX0_belongs 32 = .ok (.invokestatic 97, 3) := by decide +kernel
theorem dX0_belongs_35 : decode cX0_belongs 35 = .ok (.ireturn, 1) := by decide +kernel
theorem dX0_belongs_36 : decode cX0_belongs 36 = .ok (.aload_n 0, 1) := by decide +kernel
theorem dX0_belongs_37 : decode cX0_belongs 37 = .ok (.getfield 17, 3) := by decide +kernel
theorem dX0_belongs_40 : decode cX0_belongs 40 = .ok (.iload_n 1, 1) := by decide +kernel
theorem dX0_belongs_41 : decode cX0_belongs 41 = .ok (.iaload, 1) := by decide +kernel
theorem dX0_belongs_42 : decode cX0_belongs 42 = .ok (.iload_n 3, 1) := by decide +kernel
theorem dX0_belongs_43 : decode cX0_belongs 43 = .ok (.iload 4, 2) := by decide +kernel
theorem dX0_belongs_45 : decode cX0_belongs 45 = .ok (.invokestatic 97, 3) := by decide +kernel
theorem dX0_belongs_48 : decode cX0_belongs 48 = .ok (.ireturn, 1) := by decide +kernel
theorem dX0_belongs_49 : decode cX0_belongs 49 = .ok (.iload_n 1, 1) := by decide +kernel
theorem dX0_belongs_50 : decode cX0_belongs 50 = .ok (.iload_n 3, 1) := by decide +kernel
theorem dX0_belongs_51 : decode cX0_belongs 51 = .ok (.if_icmp .lt 21, 3) := by decide +kernel
theorem dX0_belongs_54 : decode cX0_belongs 54 = .ok (.iload 4, 2) := by decide +kernel
theorem dX0_belongs_56 : decode cX0_belongs 56 = .ok (.ifCond .le 16, 3) := by decide +kernel
theorem dX0_belongs_59 : decode cX0_belongs 59 = .ok (.iload_n 1, 1) := by decide +kernel
theorem dX0_belongs_60 : decode cX0_belongs 60 = .ok (.iload_n 3, 1) := by decide +kernel
theorem dX0_belongs_61 : decode cX0_belongs 61 = .ok (.isub, 1) := by decide +kernel
theorem dX0_belongs_62 : decode cX0_belongs 62 = .ok (.iload 4, 2) := by decide +kernel
theorem dX0_belongs_64 : decode cX0_belongs 64 = .ok (.irem, 1) := by decide +kernel
theorem dX0_belongs_65 : decode cX0_belongs 65 = .ok (.ifCond .ne 7, 3) := by decide +kernel
theorem dX0_belongs_68 : decode cX0_belongs 68 = .ok (.iconst 1, 1) := by decide +kernel
theorem dX0_belongs_69 : decode cX0_belongs 69 = .ok (.goto 4, 3) := by decide +kernel
theorem dX0_belongs_72 : decode cX0_belongs 72 = .ok (.iconst 0, 1) := by decide +kernel
theorem dX0_belongs_73 : decode cX0_belongs 73 = .ok (.ireturn, 1) := by decide +kernel
theorem dX0_belongs_74 : decode cX0_belongs 74 = .ok (.iload_n 3, 1) := by decide +kernel
theorem dX0_belongs_75 : decode cX0_belongs 75 = .ok (.iload_n 1, 1) := by decide +kernel
theorem dX0_belongs_76 : decode cX0_belongs 76 = .ok (.invokestatic 83, 3) := by decide +kernel
theorem dX0_belongs_79 : decode cX0_belongs 79 = .ok (.iconst 1, 1) := by decide +kernel
theorem dX0_belongs_80 : decode cX0_belongs 80 = .ok (.if_icmp .ne 7, 3) := by decide +kernel
theorem dX0_belongs_83 : decode cX0_belongs 83 = .ok (.iconst 1, 1) := by decide +kernel
theorem dX0_belongs_84 : decode cX0_belongs 84 = .ok (.goto 4, 3) := by decide +kernel
theorem dX0_belongs_87 : decode cX0_belongs 87 = .ok (.iconst 0, 1) := by decide +kernel
theorem dX0_belongs_88 : decode cX0_belongs 88 = .ok (.ireturn, 1) := by decide +kernel
theorem dX0_isWithin_0 : decode cX0_isWithin 0 = .ok (.iload_n 0, 1) := by decide +kernel
theorem dX0_isWithin_1 : decode cX0_isWithin 1 = .ok (.iload_n 1, 1) := by decide +kernel
theorem dX0_isWithin_2 : decode cX0_isWithin 2 = .ok (.if_icmp .lt 12, 3) := by decide +kernel
theorem dX0_isWithin_5 : decode cX0_isWithin 5 = .ok (.iload_n 0, 1) := by decide +kernel
theorem dX0_isWithin_6 : decode cX0_isWithin 6 = .ok (.iload_n 2, 1) := by decide +kernel
theorem dX0_isWithin_7 : decode cX0_isWithin 7 = .ok (.if_icmp .gt 7, 3) := by decide +kernel
theorem dX0_isWithin_10 : decode cX0_isWithin 10 = .ok (.iconst 1, 1) := by decide +kernel
theorem dX0_isWithin_11 : decode cX0_isWithin 11 = .ok (.goto 4, 3) := by decide +kernel
theorem dX0_isWithin_14 : decode cX0_isWithin 14 = .ok (.iconst 0, 1) := by decide +kernel
theorem dX0_isWithin_15 : decode cX0_isWithin 15 = .ok (.ireturn, 1) := by decide +kernel
theorem dX0_traceOf_0 : decode cX0_traceOf 0 = .ok (.iload_n 0, 1) := by decide +kernel
theorem dX0_traceOf_1 : decode cX0_traceOf 1 = .ok (.tableswitch 37 1 3 #[27, 30, 33], 27) := by decide +kernel
theorem dX0_traceOf_28 : decode cX0_traceOf 28 = .ok (.bipush 10, 2) := by decide +kernel
theorem dX0_traceOf_30 : decode cX0_traceOf 30 = .ok (.ireturn, 1) := by decide +kernel
theorem dX0_traceOf_31 : decode cX0_traceOf 31 = .ok (.bipush 110, 2) := by decide +kernel
theorem dX0_traceOf_33 : decode cX0_traceOf 33 = .ok (.ireturn, 1) := by decide +kernel
theorem dX0_traceOf_34 : decode cX0_traceOf 34 = .ok (.sipush 1000, 3) := by decide +kernel
theorem dX0_traceOf_37 : decode cX0_traceOf 37 = .ok (.ireturn, 1) := by decide +kernel
theorem dX0_traceOf_38 : decode cX0_traceOf 38 = .ok (.iconst 1, 1) := by decide +kernel
theorem dX0_traceOf_39 : decode cX0_traceOf 39 = .ok (.ireturn, 1) := by decide +kernel
theorem dX0_bitOf_0 : decode cX0_bitOf 0 = .ok (.iload_n 0, 1) := by decide +kernel
theorem dX0_bitOf_1 : decode cX0_bitOf 1 = .ok (.iload_n 1, 1) := by decide +kernel
theorem dX0_bitOf_2 : decode cX0_bitOf 2 = .ok (.ishr, 1) := by decide +kernel
theorem dX0_bitOf_3 : decode cX0_bitOf 3 = .ok (.iconst 1, 1) := by decide +kernel
theorem dX0_bitOf_4 : decode cX0_bitOf 4 = .ok (.iand, 1) := by decide +kernel
theorem dX0_bitOf_5 : decode cX0_bitOf 5 = .ok (.ireturn, 1) := by decide +kernel
set_option maxRecDepth 20000 in
theorem ggX0_off_X0_isColouring : GoodIn wsX0_off wsX0_isColouring := goodIn_r _ [5, 6, 7, 8, 4, 9, 10, 35, 36, 37, 38, 39, 40, 41, 42, 43, 44, 45, 46, 47, 48, 49] (by decide +kernel) (by decide +kernel)
set_option maxRecDepth 20000 in
theorem gX0_off_X0_isColouring : GoodIn wsX0_off (wsV RX0 90 RX0 yX0_isColouring wsX0_isColouring) := goodIn_app (goodIn_of _ (by decide +kernel)) ggX0_off_X0_isColouring
set_option maxRecDepth 20000 in
theorem ggX0_off_X0_isHeap : GoodIn wsX0_off wsX0_isHeap := goodIn_r _ [14, 15, 35, 36, 37, 38, 39, 40, 41, 42, 43, 44, 45, 46, 47, 48, 49] (by decide +kernel) (by decide +kernel)
set_option maxRecDepth 20000 in
theorem gX0_off_X0_isHeap : GoodIn wsX0_off (wsV RX0 76 RX0 yX0_isHeap wsX0_isHeap) := goodIn_app (goodIn_of _ (by decide +kernel)) ggX0_off_X0_isHeap
set_option maxRecDepth 20000 in
theorem ggX0_off_X0_offOf : GoodIn wsX0_off wsX0_offOf := goodIn_r _ [19, 20, 21, 22, 23, 24, 25, 26, 4, 27, 28, 29, 30, 31, 32, 33, 34, 35, 36, 37, 38, 39, 40, 41, 42, 43, 44, 45, 46, 47, 48, 49] (by decide +kernel) (by decide +kernel)
set_option maxRecDepth 20000 in
theorem gX0_off_X0_offOf : GoodIn wsX0_off (wsV RX0 100 RX0 yX0_offOf wsX0_offOf) := goodIn_app (goodIn_of _ (by decide +kernel)) ggX0_off_X0_offOf
theorem dX0_off_0 : decode cX0_off 0 = .ok (.aload_n 0, 1) := by decide +kernel
theorem dX0_off_1 : decode cX0_off 1 = .ok (.iload_n 1, 1) := by decide +kernel
theorem dX0_off_2 : decode cX0_off 2 = .ok (.invokevirtual 90, 3) := by decide +kernel
theorem dX0_off_5 : decode cX0_off 5 = .ok (.ifCond .eq 20, 3) := by decide +kernel
theorem dX0_off_8 : decode cX0_off 8 = .ok (.aload_n 0, 1) := by decide +kernel
theorem dX0_off_9 : decode cX0_off 9 = .ok (.iload_n 2, 1) := by decide +kernel
theorem dX0_off_10 : decode cX0_off 10 = .ok (.invokevirtual 76, 3) := by decide +kernel
theorem dX0_off_13 : decode cX0_off 13 = .ok (.ifCond .eq 12, 3) := by decide +kernel
theorem dX0_off_16 : decode cX0_off 16 = .ok (.aload_n 0, 1) := by decide +kernel
theorem dX0_off_17 : decode cX0_off 17 = .ok (.iload_n 1, 1) := by decide +kernel
theorem dX0_off_18 : decode cX0_off 18 = .ok (.iload_n 2, 1) := by decide +kernel
theorem dX0_off_19 : decode cX0_off 19 = .ok (.invokevirtual 100, 3) := by decide +kernel
theorem dX0_off_22 : decode cX0_off 22 = .ok (.goto 4, 3) := by decide +kernel
theorem dX0_off_25 : decode cX0_off 25 = .ok (.iconst (-1), 1) := by decide +kernel
theorem dX0_off_26 : decode cX0_off 26 = .ok (.ireturn, 1) := by decide +kernel
set_option maxRecDepth 20000 in
theorem ggX0_worst_X0_isColouring : GoodIn wsX0_worst wsX0_isColouring := goodIn_r _ [5, 6, 7, 8, 4, 9, 10, 38, 39, 40, 41, 42, 43, 44, 45, 46, 47, 48, 49, 50, 51, 52] (by decide +kernel) (by decide +kernel)
set_option maxRecDepth 20000 in
theorem gX0_worst_X0_isColouring : GoodIn wsX0_worst (wsV RX0 90 RX0 yX0_isColouring wsX0_isColouring) := goodIn_app (goodIn_of _ (by decide +kernel)) ggX0_worst_X0_isColouring
set_option maxRecDepth 20000 in
theorem ggX0_worst_X0_worstOf : GoodIn wsX0_worst wsX0_worstOf := goodIn_r _ [14, 15, 16, 17, 18, 19, 20, 21, 22, 4, 23, 24, 25, 26, 27, 28, 29, 30, 31, 32, 33, 34, 35, 36, 37, 38, 39, 40, 41, 42, 43, 44, 45, 46, 47, 48, 49, 50, 51, 52] (by decide +kernel) (by decide +kernel)
set_option maxRecDepth 20000 in
theorem gX0_worst_X0_worstOf : GoodIn wsX0_worst (wsV RX0 103 RX0 yX0_worstOf wsX0_worstOf) := goodIn_app (goodIn_of _ (by decide +kernel)) ggX0_worst_X0_worstOf
theorem dX0_worst_0 : decode cX0_worst 0 = .ok (.aload_n 0, 1) := by decide +kernel
theorem dX0_worst_1 : decode cX0_worst 1 = .ok (.iload_n 1, 1) := by decide +kernel
theorem dX0_worst_2 : decode cX0_worst 2 = .ok (.invokevirtual 90, 3) := by decide +kernel
theorem dX0_worst_5 : decode cX0_worst 5 = .ok (.ifCond .eq 11, 3) := by decide +kernel
theorem dX0_worst_8 : decode cX0_worst 8 = .ok (.aload_n 0, 1) := by decide +kernel
theorem dX0_worst_9 : decode cX0_worst 9 = .ok (.iload_n 1, 1) := by decide +kernel
theorem dX0_worst_10 : decode cX0_worst 10 = .ok (.invokevirtual 103, 3) := by decide +kernel
theorem dX0_worst_13 : decode cX0_worst 13 = .ok (.goto 4, 3) := by decide +kernel
theorem dX0_worst_16 : decode cX0_worst 16 = .ok (.iconst (-1), 1) := by decide +kernel
theorem dX0_worst_17 : decode cX0_worst 17 = .ok (.ireturn, 1) := by decide +kernel
set_option maxRecDepth 20000 in
theorem ggX0_squares_X0_isColouring : GoodIn wsX0_squares wsX0_isColouring := goodIn_r _ [5, 6, 7, 8, 4, 9, 10, 35, 36, 37, 38, 39, 40, 41, 42, 43, 44, 45, 46, 47, 48, 49] (by decide +kernel) (by decide +kernel)
set_option maxRecDepth 20000 in
theorem gX0_squares_X0_isColouring : GoodIn wsX0_squares (wsV RX0 90 RX0 yX0_isColouring wsX0_isColouring) := goodIn_app (goodIn_of _ (by decide +kernel)) ggX0_squares_X0_isColouring
set_option maxRecDepth 20000 in
theorem ggX0_squares_X0_squaresOf : GoodIn wsX0_squares wsX0_squaresOf := goodIn_r _ [14, 15, 16, 17, 18, 4, 19, 20, 21, 22, 23, 24, 25, 26, 27, 28, 29, 30, 31, 32, 33, 34, 35, 36, 37, 38, 39, 40, 41, 42, 43, 44, 45, 46, 47, 48, 49] (by decide +kernel) (by decide +kernel)
set_option maxRecDepth 20000 in
theorem gX0_squares_X0_squaresOf : GoodIn wsX0_squares (wsV RX0 106 RX0 yX0_squaresOf wsX0_squaresOf) := goodIn_app (goodIn_of _ (by decide +kernel)) ggX0_squares_X0_squaresOf
theorem dX0_squares_0 : decode cX0_squares 0 = .ok (.aload_n 0, 1) := by decide +kernel
theorem dX0_squares_1 : decode cX0_squares 1 = .ok (.iload_n 1, 1) := by decide +kernel
theorem dX0_squares_2 : decode cX0_squares 2 = .ok (.invokevirtual 90, 3) := by decide +kernel
theorem dX0_squares_5 : decode cX0_squares 5 = .ok (.ifCond .eq 11, 3) := by decide +kernel
theorem dX0_squares_8 : decode cX0_squares 8 = .ok (.aload_n 0, 1) := by decide +kernel
theorem dX0_squares_9 : decode cX0_squares 9 = .ok (.iload_n 1, 1) := by decide +kernel
theorem dX0_squares_10 : decode cX0_squares 10 = .ok (.invokevirtual 106, 3) := by decide +kernel
theorem dX0_squares_13 : decode cX0_squares 13 = .ok (.goto 4, 3) := by decide +kernel
theorem dX0_squares_16 : decode cX0_squares 16 = .ok (.iconst (-1), 1) := by decide +kernel
theorem dX0_squares_17 : decode cX0_squares 17 = .ok (.ireturn, 1) := by decide +kernel
set_option maxRecDepth 20000 in
theorem ggX0_times_X0_bitOf : GoodIn wsX0_times wsX0_bitOf := goodIn_r _ [11] (by decide +kernel) (by decide +kernel)
set_option maxRecDepth 20000 in
theorem gX0_times_X0_bitOf : GoodIn wsX0_times (va_wsS RX0 83 yX0_bitOf wsX0_bitOf) := goodIn_app (goodIn_of _ (by decide +kernel)) ggX0_times_X0_bitOf
theorem dX0_times_0 : decode cX0_times 0 = .ok (.iconst 0, 1) := by decide +kernel
theorem dX0_times_1 : decode cX0_times 1 = .ok (.istore_n 1, 1) := by decide +kernel
theorem dX0_times_2 : decode cX0_times 2 = .ok (.iconst 0, 1) := by decide +kernel
theorem dX0_times_3 : decode cX0_times 3 = .ok (.istore_n 2, 1) := by decide +kernel
theorem dX0_times_4 : decode cX0_times 4 = .ok (.iload_n 2, 1) := by decide +kernel
theorem dX0_times_5 : decode cX0_times 5 = .ok (.aload_n 0, 1) := by decide +kernel
theorem dX0_times_6 : decode cX0_times 6 = .ok (.getfield 7, 3) := by decide +kernel
theorem dX0_times_9 : decode cX0_times 9 = .ok (.if_icmp .ge 49, 3) := by decide +kernel
theorem dX0_times_12 : decode cX0_times 12 = .ok (.iconst 0, 1) := by decide +kernel
theorem dX0_times_13 : decode cX0_times 13 = .ok (.istore_n 3, 1) := by decide +kernel
theorem dX0_times_14 : decode cX0_times 14 = .ok (.iconst 0, 1) := by decide +kernel
theorem dX0_times_15 : decode cX0_times 15 = .ok (.istore 4, 2) := by decide +kernel
theorem dX0_times_17 : decode cX0_times 17 = .ok (.iload 4, 2) := by decide +kernel
theorem dX0_times_19 : decode cX0_times 19 = .ok (.aload_n 0, 1) := by decide +kernel
theorem dX0_times_20 : decode cX0_times 20 = .ok (.getfield 29, 3) := by decide +kernel
theorem dX0_times_23 : decode cX0_times 23 = .ok (.if_icmp .ge 23, 3) := by decide +kernel
