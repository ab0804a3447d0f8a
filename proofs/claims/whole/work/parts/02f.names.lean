theorem dX1_isHeap_3 : decode cX1_isHeap 3 = .ok (.getfield 41, 3) := by decide +kernel
theorem dX1_isHeap_6 : decode cX1_isHeap 6 = .ok (.iconst 1, 1) := by decide +kernel
theorem dX1_isHeap_7 : decode cX1_isHeap 7 = .ok (.isub, 1) := by decide +kernel
theorem dX1_isHeap_8 : decode cX1_isHeap 8 = .ok (.invokestatic 44, 3) := by decide +kernel
theorem dX1_isHeap_11 : decode cX1_isHeap 11 = .ok (.ireturn, 1) := by decide +kernel
set_option maxRecDepth 20000 in
theorem ggX1_has_X1_isHeap : GoodIn wsX1_has wsX1_isHeap := goodIn_r _ [10, 11, 12, 13, 9, 14, 31, 32, 33, 34, 35, 36, 37, 38, 39, 40, 41, 42, 43, 44, 45, 46] (by decide +kernel) (by decide +kernel)
set_option maxRecDepth 20000 in
theorem gX1_has_X1_isHeap : GoodIn wsX1_has (wsV RX1 59 RX1 yX1_isHeap wsX1_isHeap) := goodIn_app (goodIn_of _ (by decide +kernel)) ggX1_has_X1_isHeap
set_option maxRecDepth 20000 in
theorem ggX1_has_X1_isThing : GoodIn wsX1_has wsX1_isThing := goodIn_r _ [18, 19, 12, 13, 9, 14, 31, 32, 33, 34, 35, 36, 37, 38, 39, 40, 41, 42, 43, 44, 45, 46] (by decide +kernel) (by decide +kernel)
set_option maxRecDepth 20000 in
theorem gX1_has_X1_isThing : GoodIn wsX1_has (wsV RX1 48 RX1 yX1_isThing wsX1_isThing) := goodIn_app (goodIn_of _ (by decide +kernel)) ggX1_has_X1_isThing
set_option maxRecDepth 20000 in
theorem ggX1_has_X1_holds : GoodIn wsX1_has wsX1_holds := goodIn_r _ [23, 2, 24, 25, 12, 13, 9, 14, 26, 27, 28, 29, 30, 31, 32, 33, 34, 35, 36, 37, 38, 39, 40, 41, 42, 43, 44, 45, 46] (by decide +kernel) (by decide +kernel)
set_option maxRecDepth 20000 in
theorem gX1_has_X1_holds : GoodIn wsX1_has (wsV RX1 72 RX1 yX1_holds wsX1_holds) := goodIn_app (goodIn_of _ (by decide +kernel)) ggX1_has_X1_holds
theorem dX1_has_0 : decode cX1_has 0 = .ok (.aload_n 0, 1) := by decide +kernel
theorem dX1_has_1 : decode cX1_has 1 = .ok (.iload_n 1, 1) := by decide +kernel
theorem dX1_has_2 : decode cX1_has 2 = .ok (.invokevirtual 59, 3) := by decide +kernel
theorem dX1_has_5 : decode cX1_has 5 = .ok (.ifCond .eq 11, 3) := by decide +kernel
theorem dX1_has_8 : decode cX1_has 8 = .ok (.aload_n 0, 1) := by decide +kernel
theorem dX1_has_9 : decode cX1_has 9 = .ok (.iload_n 2, 1) := by decide +kernel
theorem dX1_has_10 : decode cX1_has 10 = .ok (.invokevirtual 48, 3) := by decide +kernel
theorem dX1_has_13 : decode cX1_has 13 = .ok (.ifCond .ne 5, 3) := by decide +kernel
theorem dX1_has_16 : decode cX1_has 16 = .ok (.iconst (-1), 1) := by decide +kernel
theorem dX1_has_17 : decode cX1_has 17 = .ok (.ireturn, 1) := by decide +kernel
theorem dX1_has_18 : decode cX1_has 18 = .ok (.aload_n 0, 1) := by decide +kernel
theorem dX1_has_19 : decode cX1_has 19 = .ok (.dup, 1) := by decide +kernel
theorem dX1_has_20 : decode cX1_has 20 = .ok (.getfield 62, 3) := by decide +kernel
theorem dX1_has_23 : decode cX1_has 23 = .ok (.aload_n 0, 1) := by decide +kernel
theorem dX1_has_24 : decode cX1_has 24 = .ok (.getfield 20, 3) := by decide +kernel
theorem dX1_has_27 : decode cX1_has 27 = .ok (.iload_n 1, 1) := by decide +kernel
theorem dX1_has_28 : decode cX1_has 28 = .ok (.iaload, 1) := by decide +kernel
theorem dX1_has_29 : decode cX1_has 29 = .ok (.ifCond .ne 7, 3) := by decide +kernel
theorem dX1_has_32 : decode cX1_has 32 = .ok (.lconst 1, 1) := by decide +kernel
theorem dX1_has_33 : decode cX1_has 33 = .ok (.goto 38, 3) := by decide +kernel
theorem dX1_has_36 : decode cX1_has 36 = .ok (.aload_n 0, 1) := by decide +kernel
theorem dX1_has_37 : decode cX1_has 37 = .ok (.getfield 20, 3) := by decide +kernel
theorem dX1_has_40 : decode cX1_has 40 = .ok (.iload_n 1, 1) := by decide +kernel
theorem dX1_has_41 : decode cX1_has 41 = .ok (.iaload, 1) := by decide +kernel
theorem dX1_has_42 : decode cX1_has 42 = .ok (.iconst 1, 1) := by decide +kernel
theorem dX1_has_43 : decode cX1_has 43 = .ok (.if_icmp .ne 9, 3) := by decide +kernel
theorem dX1_has_46 : decode cX1_has 46 = .ok (.ldc2_w 66, 3) := by decide +kernel
theorem dX1_has_49 : decode cX1_has 49 = .ok (.goto 22, 3) := by decide +kernel
theorem dX1_has_52 : decode cX1_has 52 = .ok (.aload_n 0, 1) := by decide +kernel
theorem dX1_has_53 : decode cX1_has 53 = .ok (.getfield 20, 3) := by decide +kernel
theorem dX1_has_56 : decode cX1_has 56 = .ok (.iload_n 1, 1) := by decide +kernel
theorem dX1_has_57 : decode cX1_has 57 = .ok (.iaload, 1) := by decide +kernel
theorem dX1_has_58 : decode cX1_has 58 = .ok (.iconst 2, 1) := by decide +kernel
theorem dX1_has_59 : decode cX1_has 59 = .ok (.if_icmp .ne 9, 3) := by decide +kernel
theorem dX1_has_62 : decode cX1_has 62 = .ok (.ldc2_w 68, 3) := by decide +kernel
theorem dX1_has_65 : decode cX1_has 65 = .ok (.goto 6, 3) := by decide +kernel
theorem dX1_has_68 : decode cX1_has 68 = .ok (.ldc2_w 70, 3) := by decide +kernel
theorem dX1_has_71 : decode cX1_has 71 = .ok (.ladd, 1) := by decide +kernel
theorem dX1_has_72 : decode cX1_has 72 = .ok (.putfield 62, 3) := by decide +kernel
theorem dX1_has_75 : decode cX1_has 75 = .ok (.aload_n 0, 1) := by decide +kernel
theorem dX1_has_76 : decode cX1_has 76 = .ok (.iload_n 1, 1) := by decide +kernel
theorem dX1_has_77 : decode cX1_has 77 = .ok (.iload_n 2, 1) := by decide +kernel
theorem dX1_has_78 : decode cX1_has 78 = .ok (.invokevirtual 72, 3) := by decide +kernel
theorem dX1_has_81 : decode cX1_has 81 = .ok (.ifCond .eq 7, 3) := by decide +kernel
theorem dX1_has_84 : decode cX1_has 84 = .ok (.iconst 1, 1) := by decide +kernel
theorem dX1_has_85 : decode cX1_has 85 = .ok (.goto 4, 3) := by decide +kernel
theorem dX1_has_88 : decode cX1_has 88 = .ok (.iconst 0, 1) := by decide +kernel
theorem dX1_has_89 : decode cX1_has 89 = .ok (.ireturn, 1) := by decide +kernel
set_option maxRecDepth 20000 in
theorem ggX1_bits_X1_isHeap : GoodIn wsX1_bits wsX1_isHeap := goodIn_r _ [5, 6, 7, 8, 4, 9, 27, 28, 29, 30, 31, 32, 33, 34, 35, 36, 37, 38, 39, 40, 41, 42] (by decide +kernel) (by decide +kernel)
set_option maxRecDepth 20000 in
theorem gX1_bits_X1_isHeap : GoodIn wsX1_bits (wsV RX1 59 RX1 yX1_isHeap wsX1_isHeap) := goodIn_app (goodIn_of _ (by decide +kernel)) ggX1_bits_X1_isHeap
set_option maxRecDepth 20000 in
theorem ggX1_bits_X1_bitsOf : GoodIn wsX1_bits wsX1_bitsOf := goodIn_r _ [13, 14, 15, 16, 17, 4, 18, 19, 20, 21, 7, 8, 9, 22, 23, 24, 25, 26, 27, 28, 29, 30, 31, 32, 33, 34, 35, 36, 37, 38, 39, 40, 41, 42] (by decide +kernel) (by decide +kernel)
set_option maxRecDepth 20000 in
theorem gX1_bits_X1_bitsOf : GoodIn wsX1_bits (wsV RX1 76 RX1 yX1_bitsOf wsX1_bitsOf) := goodIn_app (goodIn_of _ (by decide +kernel)) ggX1_bits_X1_bitsOf
theorem dX1_bits_0 : decode cX1_bits 0 = .ok (.aload_n 0, 1) := by decide +kernel
theorem dX1_bits_1 : decode cX1_bits 1 = .ok (.iload_n 1, 1) := by decide +kernel
theorem dX1_bits_2 : decode cX1_bits 2 = .ok (.invokevirtual 59, 3) := by decide +kernel
theorem dX1_bits_5 : decode cX1_bits 5 = .ok (.ifCond .eq 11, 3) := by decide +kernel
theorem dX1_bits_8 : decode cX1_bits 8 = .ok (.aload_n 0, 1) := by decide +kernel
theorem dX1_bits_9 : decode cX1_bits 9 = .ok (.iload_n 1, 1) := by decide +kernel
theorem dX1_bits_10 : decode cX1_bits 10 = .ok (.invokevirtual 76, 3) := by decide +kernel
theorem dX1_bits_13 : decode cX1_bits 13 = .ok (.goto 4, 3) := by decide +kernel
theorem dX1_bits_16 : decode cX1_bits 16 = .ok (.iconst (-1), 1) := by decide +kernel
theorem dX1_bits_17 : decode cX1_bits 17 = .ok (.ireturn, 1) := by decide +kernel
set_option maxRecDepth 20000 in
theorem ggX1_bitsOf_X1_holds : GoodIn wsX1_bitsOf wsX1_holds := goodIn_r _ [6, 7, 8, 9, 10, 11, 5, 12, 13, 14, 15, 16, 17, 18, 19, 20, 21, 22, 23, 24, 25, 26, 27, 28, 29, 30, 31, 32, 33] (by decide +kernel) (by decide +kernel)
set_option maxRecDepth 20000 in
theorem gX1_bitsOf_X1_holds : GoodIn wsX1_bitsOf (wsV RX1 72 RX1 yX1_holds wsX1_holds) := goodIn_app (goodIn_of _ (by decide +kernel)) ggX1_bitsOf_X1_holds
theorem dX1_bitsOf_0 : decode cX1_bitsOf 0 = .ok (.iconst 0, 1) := by decide +kernel
theorem dX1_bitsOf_1 : decode cX1_bitsOf 1 = .ok (.istore_n 2, 1) := by decide +kernel
theorem dX1_bitsOf_2 : decode cX1_bitsOf 2 = .ok (.iconst 0, 1) := by decide +kernel
theorem dX1_bitsOf_3 : decode cX1_bitsOf 3 = .ok (.istore_n 3, 1) := by decide +kernel
theorem dX1_bitsOf_4 : decode cX1_bitsOf 4 = .ok (.iload_n 3, 1) := by decide +kernel
theorem dX1_bitsOf_5 : decode cX1_bitsOf 5 = .ok (.aload_n 0, 1) := by decide +kernel
theorem dX1_bitsOf_6 : decode cX1_bitsOf 6 = .ok (.getfield 7, 3) := by decide +kernel
theorem dX1_bitsOf_9 : decode cX1_bitsOf 9 = .ok (.if_icmp .ge 28, 3) := by decide +kernel
theorem dX1_bitsOf_12 : decode cX1_bitsOf 12 = .ok (.iload_n 2, 1) := by decide +kernel
theorem dX1_bitsOf_13 : decode cX1_bitsOf 13 = .ok (.aload_n 0, 1) := by decide +kernel
theorem dX1_bitsOf_14 : decode cX1_bitsOf 14 = .ok (.iload_n 1, 1) := by decide +kernel
theorem dX1_bitsOf_15 : decode cX1_bitsOf 15 = .ok (.iload_n 3, 1) := by decide +kernel
theorem dX1_bitsOf_16 : decode cX1_bitsOf 16 = .ok (.invokevirtual 72, 3) := by decide +kernel
theorem dX1_bitsOf_19 : decode cX1_bitsOf 19 = .ok (.ifCond .eq 9, 3) := by decide +kernel
theorem dX1_bitsOf_22 : decode cX1_bitsOf 22 = .ok (.iconst 1, 1) := by decide +kernel
theorem dX1_bitsOf_23 : decode cX1_bitsOf 23 = .ok (.iload_n 3, 1) := by decide +kernel
theorem dX1_bitsOf_24 : decode cX1_bitsOf 24 = .ok (.ishl, 1) := by decide +kernel
theorem dX1_bitsOf_25 : decode cX1_bitsOf 25 = .ok (.goto 4, 3) := by decide +kernel
theorem dX1_bitsOf_28 : decode cX1_bitsOf 28 = .ok (.iconst 0, 1) := by decide +kernel
theorem dX1_bitsOf_29 : decode cX1_bitsOf 29 = .ok (.ior, 1) := by decide +kernel
theorem dX1_bitsOf_30 : decode cX1_bitsOf 30 = .ok (.istore_n 2, 1) := by decide +kernel
theorem dX1_bitsOf_31 : decode cX1_bitsOf 31 = .ok (.iinc 3 1, 3) := by decide +kernel
theorem dX1_bitsOf_34 : decode cX1_bitsOf 34 = .ok (.goto (-30), 3) := by decide +kernel
theorem dX1_bitsOf_37 : decode cX1_bitsOf 37 = .ok (.iload_n 2, 1) := by decide +kernel
theorem dX1_bitsOf_38 : decode cX1_bitsOf 38 = .ok (.ireturn, 1) := by decide +kernel
set_option maxRecDepth 20000 in
theorem ggX1_hold_X1_isThing : GoodIn wsX1_hold wsX1_isThing := goodIn_r _ [6, 7, 8, 9, 5, 10, 11, 12, 13, 14, 15, 16, 17, 18, 19, 20, 21, 22, 23, 24, 25, 26] (by decide +kernel) (by decide +kernel)
set_option maxRecDepth 20000 in
theorem gX1_hold_X1_isThing : GoodIn wsX1_hold (wsV RX1 48 RX1 yX1_isThing wsX1_isThing) := goodIn_app (goodIn_of _ (by decide +kernel)) ggX1_hold_X1_isThing
set_option maxRecDepth 20000 in
theorem ggX1_hold_X1_in : GoodIn wsX1_hold wsX1_in := goodIn_r _ [10] (by decide +kernel) (by decide +kernel)
set_option maxRecDepth 20000 in
theorem gX1_hold_X1_in : GoodIn wsX1_hold (va_wsS RX1 44 yX1_in wsX1_in) := goodIn_app (goodIn_of _ (by decide +kernel)) ggX1_hold_X1_in
theorem dX1_hold_0 : decode cX1_hold 0 = .ok (.aload_n 0, 1) := by decide +kernel
theorem dX1_hold_1 : decode cX1_hold 1 = .ok (.iload_n 1, 1) := by decide +kernel
theorem dX1_hold_2 : decode cX1_hold 2 = .ok (.invokevirtual 48, 3) := by decide +kernel
theorem dX1_hold_5 : decode cX1_hold 5 = .ok (.ifCond .eq 12, 3) := by decide +kernel
theorem dX1_hold_8 : decode cX1_hold 8 = .ok (.iload_n 2, 1) := by decide +kernel
theorem dX1_hold_9 : decode cX1_hold 9 = .ok (.iconst (-1), 1) := by decide +kernel
theorem dX1_hold_10 : decode cX1_hold 10 = .ok (.iconst 1, 1) := by decide +kernel
theorem dX1_hold_11 : decode cX1_hold 11 = .ok (.invokestatic 44, 3) := by decide +kernel
theorem dX1_hold_14 : decode cX1_hold 14 = .ok (.ifCond .ne 6, 3) := by decide +kernel
theorem dX1_hold_17 : decode cX1_hold 17 = .ok (.bipush (-2), 2) := by decide +kernel
theorem dX1_hold_19 : decode cX1_hold 19 = .ok (.ireturn, 1) := by decide +kernel
theorem dX1_hold_20 : decode cX1_hold 20 = .ok (.aload_n 0, 1) := by decide +kernel
theorem dX1_hold_21 : decode cX1_hold 21 = .ok (.getfield 17, 3) := by decide +kernel
theorem dX1_hold_24 : decode cX1_hold 24 = .ok (.iload_n 1, 1) := by decide +kernel
theorem dX1_hold_25 : decode cX1_hold 25 = .ok (.iaload, 1) := by decide +kernel
theorem dX1_hold_26 : decode cX1_hold 26 = .ok (.istore_n 3, 1) := by decide +kernel
theorem dX1_hold_27 : decode cX1_hold 27 = .ok (.aload_n 0, 1) := by decide +kernel
theorem dX1_hold_28 : decode cX1_hold 28 = .ok (.getfield 17, 3) := by decide +kernel
theorem dX1_hold_31 : decode cX1_hold 31 = .ok (.iload_n 1, 1) := by decide +kernel
theorem dX1_hold_32 : decode cX1_hold 32 = .ok (.iload_n 2, 1) := by decide +kernel
theorem dX1_hold_33 : decode cX1_hold 33 = .ok (.iastore, 1) := by decide +kernel
theorem dX1_hold_34 : decode cX1_hold 34 = .ok (.iload_n 3, 1) := by decide +kernel
theorem dX1_hold_35 : decode cX1_hold 35 = .ok (.ireturn, 1) := by decide +kernel
theorem dX1_ones_0 : decode cX1_ones 0 = .ok (.iconst 0, 1) := by decide +kernel
theorem dX1_ones_1 : decode cX1_ones 1 = .ok (.istore_n 1, 1) := by decide +kernel
theorem dX1_ones_2 : decode cX1_ones 2 = .ok (.iload_n 0, 1) := by decide +kernel
theorem dX1_ones_3 : decode cX1_ones 3 = .ok (.istore_n 2, 1) := by decide +kernel
theorem dX1_ones_4 : decode cX1_ones 4 = .ok (.iload_n 2, 1) := by decide +kernel
theorem dX1_ones_5 : decode cX1_ones 5 = .ok (.ifCond .eq 15, 3) := by decide +kernel
theorem dX1_ones_8 : decode cX1_ones 8 = .ok (.iinc 1 1, 3) := by decide +kernel
theorem dX1_ones_11 : decode cX1_ones 11 = .ok (.iload_n 2, 1) := by decide +kernel
theorem dX1_ones_12 : decode cX1_ones 12 = .ok (.iload_n 2, 1) := by decide +kernel
theorem dX1_ones_13 : decode cX1_ones 13 = .ok (.iconst 1, 1) := by decide +kernel
theorem dX1_ones_14 : decode cX1_ones 14 = .ok (.isub, 1) := by decide +kernel
theorem dX1_ones_15 : decode cX1_ones 15 = .ok (.iand, 1) := by decide +kernel
theorem dX1_ones_16 : decode cX1_ones 16 = .ok (.istore_n 2, 1) := by decide +kernel
theorem dX1_ones_17 : decode cX1_ones 17 = .ok (.goto (-13), 3) := by decide +kernel
theorem dX1_ones_20 : decode cX1_ones 20 = .ok (.iload_n 1, 1) := by decide +kernel
theorem dX1_ones_21 : decode cX1_ones 21 = .ok (.ireturn, 1) := by decide +kernel
theorem dX1_size_0 : decode cX1_size 0 = .ok (.iload_n 0, 1) := by decide +kernel
theorem dX1_size_1 : decode cX1_size 1 = .ok (.ifCond .ge 8, 3) := by decide +kernel
theorem dX1_size_4 : decode cX1_size 4 = .ok (.iload_n 0, 1) := by decide +kernel
theorem dX1_size_5 : decode cX1_size 5 = .ok (.ineg, 1) := by decide +kernel
theorem dX1_size_6 : decode cX1_size 6 = .ok (.goto 4, 3) := by decide +kernel
theorem dX1_size_9 : decode cX1_size 9 = .ok (.iload_n 0, 1) := by decide +kernel
theorem dX1_size_10 : decode cX1_size 10 = .ok (.ireturn, 1) := by decide +kernel
set_option maxRecDepth 20000 in
theorem ggX1_offOf_X1_ones : GoodIn wsX1_offOf wsX1_ones := goodIn_r _ [4] (by decide +kernel) (by decide +kernel)
set_option maxRecDepth 20000 in
theorem gX1_offOf_X1_ones : GoodIn wsX1_offOf (va_wsS RX1 79 yX1_ones wsX1_ones) := goodIn_app (goodIn_of _ (by decide +kernel)) ggX1_offOf_X1_ones
set_option maxRecDepth 20000 in
theorem ggX1_offOf_X1_size : GoodIn wsX1_offOf wsX1_size := goodIn_r _ [7] (by decide +kernel) (by decide +kernel)
set_option maxRecDepth 20000 in
theorem gX1_offOf_X1_size : GoodIn wsX1_offOf (va_wsS RX1 82 yX1_size wsX1_size) := goodIn_app (goodIn_of _ (by decide +kernel)) ggX1_offOf_X1_size
theorem dX1_offOf_0 : decode cX1_offOf 0 = .ok (.iconst 2, 1) := by decide +kernel
theorem dX1_offOf_1 : decode cX1_offOf 1 = .ok (.iload_n 0, 1) := by decide +kernel
theorem dX1_offOf_2 : decode cX1_offOf 2 = .ok (.iload_n 1, 1) := by decide +kernel
theorem dX1_offOf_3 : decode cX1_offOf 3 = .ok (.iand, 1) := by decide +kernel
theorem dX1_offOf_4 : decode cX1_offOf 4 = .ok (.invokestatic 79, 3) := by decide +kernel
theorem dX1_offOf_7 : decode cX1_offOf 7 = .ok (.imul, 1) := by decide +kernel
theorem dX1_offOf_8 : decode cX1_offOf 8 = .ok (.iload_n 1, 1) := by decide +kernel
theorem dX1_offOf_9 : decode cX1_offOf 9 = .ok (.invokestatic 79, 3) := by decide +kernel
theorem dX1_offOf_12 : decode cX1_offOf 12 = .ok (.isub, 1) := by decide +kernel
theorem dX1_offOf_13 : decode cX1_offOf 13 = .ok (.invokestatic 82, 3) := by decide +kernel
theorem dX1_offOf_16 : decode cX1_offOf 16 = .ok (.ireturn, 1) := by decide +kernel
set_option maxRecDepth 20000 in
theorem ggX1_isColouring_X1_in : GoodIn wsX1_isColouring wsX1_in := goodIn_r _ [5] (by decide +kernel) (by decide +kernel)
set_option maxRecDepth 20000 in
theorem gX1_isColouring_X1_in : GoodIn wsX1_isColouring (va_wsS RX1 44 yX1_in wsX1_in) := goodIn_app (goodIn_of _ (by decide +kernel)) ggX1_isColouring_X1_in
theorem dX1_isColouring_0 : decode cX1_isColouring 0 = .ok (.iload_n 1, 1) := by decide +kernel
theorem dX1_isColouring_1 : decode cX1_isColouring 1 = .ok (.iconst 0, 1) := by decide +kernel
theorem dX1_isColouring_2 : decode cX1_isColouring 2 = .ok (.iconst 1, 1) := by decide +kernel
theorem dX1_isColouring_3 : decode cX1_isColouring 3 = .ok (.aload_n 0, 1) := by decide +kernel
theorem dX1_isColouring_4 : decode cX1_isColouring 4 = .ok (.getfield 7, 3) := by decide +kernel
theorem dX1_isColouring_7 : decode cX1_isColouring 7 = .ok (.ishl, 1) := by decide +kernel
theorem dX1_isColouring_8 : decode cX1_isColouring 8 = .ok (.iconst 1, 1) := by decide +kernel
theorem dX1_isColouring_9 : decode cX1_isColouring 9 = .ok (.isub, 1) := by decide +kernel
theorem dX1_isColouring_10 : decode cX1_isColouring 10 = .ok (.invokestatic 44, 3) := by decide +kernel
theorem dX1_isColouring_13 : decode cX1_isColouring 13 = .ok (.ireturn, 1) := by decide +kernel
set_option maxRecDepth 20000 in
theorem ggX1_off_X1_isColouring : GoodIn wsX1_off wsX1_isColouring := goodIn_r _ [5, 6, 7, 8, 4, 9, 40, 41, 42, 43, 44, 45, 46, 47, 48, 49, 50, 51, 52, 53, 54, 55] (by decide +kernel) (by decide +kernel)
set_option maxRecDepth 20000 in
theorem gX1_off_X1_isColouring : GoodIn wsX1_off (wsV RX1 85 RX1 yX1_isColouring wsX1_isColouring) := goodIn_app (goodIn_of _ (by decide +kernel)) ggX1_off_X1_isColouring
set_option maxRecDepth 20000 in
theorem ggX1_off_X1_isHeap : GoodIn wsX1_off wsX1_isHeap := goodIn_r _ [13, 14, 7, 8, 4, 9, 40, 41, 42, 43, 44, 45, 46, 47, 48, 49, 50, 51, 52, 53, 54, 55] (by decide +kernel) (by decide +kernel)
set_option maxRecDepth 20000 in
theorem gX1_off_X1_isHeap : GoodIn wsX1_off (wsV RX1 59 RX1 yX1_isHeap wsX1_isHeap) := goodIn_app (goodIn_of _ (by decide +kernel)) ggX1_off_X1_isHeap
set_option maxRecDepth 20000 in
theorem ggX1_off_X1_bitsOf : GoodIn wsX1_off wsX1_bitsOf := goodIn_r _ [18, 6, 19, 20, 21, 4, 22, 23, 24, 25, 7, 8, 9, 26, 27, 28, 29, 30, 40, 41, 42, 43, 44, 45, 46, 47, 48, 49, 50, 51, 52, 53, 54, 55] (by decide +kernel) (by decide +kernel)
set_option maxRecDepth 20000 in
theorem gX1_off_X1_bitsOf : GoodIn wsX1_off (wsV RX1 76 RX1 yX1_bitsOf wsX1_bitsOf) := goodIn_app (goodIn_of _ (by decide +kernel)) ggX1_off_X1_bitsOf
set_option maxRecDepth 20000 in
theorem ggX1_off_X1_offOf : GoodIn wsX1_off wsX1_offOf := goodIn_r _ [33, 34, 35, 4, 36, 37, 38, 39] (by decide +kernel) (by decide +kernel)
set_option maxRecDepth 20000 in
theorem gX1_off_X1_offOf : GoodIn wsX1_off (va_wsS RX1 88 yX1_offOf wsX1_offOf) := goodIn_app (goodIn_of _ (by decide +kernel)) ggX1_off_X1_offOf
theorem dX1_off_0 : decode cX1_off 0 = .ok (.aload_n 0, 1) := by decide +kernel
theorem dX1_off_1 : decode cX1_off 1 = .ok (.iload_n 1, 1) := by decide +kernel
theorem dX1_off_2 : decode cX1_off 2 = .ok (.invokevirtual 85, 3) := by decide +kernel
theorem dX1_off_5 : decode cX1_off 5 = .ok (.ifCond .eq 23, 3) := by decide +kernel
theorem dX1_off_8 : decode cX1_off 8 = .ok (.aload_n 0, 1) := by decide +kernel
theorem dX1_off_9 : decode cX1_off 9 = .ok (.iload_n 2, 1) := by decide +kernel
theorem dX1_off_10 : decode cX1_off 10 = .ok (.invokevirtual 59, 3) := by decide +kernel
theorem dX1_off_13 : decode cX1_off 13 = .ok (.ifCond .eq 15, 3) := by decide +kernel
theorem dX1_off_16 : decode cX1_off 16 = .ok (.iload_n 1, 1) := by decide +kernel
theorem dX1_off_17 : decode cX1_off 17 = .ok (.aload_n 0, 1) := by decide +kernel
theorem dX1_off_18 : decode cX1_off 18 = .ok (.iload_n 2, 1) := by decide +kernel
theorem dX1_off_19 : decode cX1_off 19 = .ok (.invokevirtual 76, 3) := by decide +kernel
theorem dX1_off_22 : decode cX1_off 22 = .ok (.invokestatic 88, 3) := by decide +kernel
theorem dX1_off_25 : decode cX1_off 25 = .ok (.goto 4, 3) := by decide +kernel
theorem dX1_off_28 : decode cX1_off 28 = .ok (.iconst (-1), 1) := by decide +kernel
theorem dX1_off_29 : decode cX1_off 29 = .ok (.ireturn, 1) := by decide +kernel
set_option maxRecDepth 20000 in
theorem ggX1_collect_X1_bitsOf : GoodIn wsX1_collect wsX1_bitsOf := goodIn_r _ [7, 8, 9, 10, 11, 6, 12, 13, 14, 15, 16, 17, 18, 19, 20, 21, 22, 23, 24, 25, 26, 27, 28, 29, 30, 31, 32, 33, 34, 35, 36, 37, 38, 39] (by decide +kernel) (by decide +kernel)
set_option maxRecDepth 20000 in
theorem gX1_collect_X1_bitsOf : GoodIn wsX1_collect (wsV RX1 76 RX1 yX1_bitsOf wsX1_bitsOf) := goodIn_app (goodIn_of _ (by decide +kernel)) ggX1_collect_X1_bitsOf
theorem dX1_collect_0 : decode cX1_collect 0 = .ok (.iconst 0, 1) := by decide +kernel
theorem dX1_collect_1 : decode cX1_collect 1 = .ok (.istore_n 1, 1) := by decide +kernel
theorem dX1_collect_2 : decode cX1_collect 2 = .ok (.iload_n 1, 1) := by decide +kernel
theorem dX1_collect_3 : decode cX1_collect 3 = .ok (.aload_n 0, 1) := by decide +kernel
theorem dX1_collect_4 : decode cX1_collect 4 = .ok (.getfield 41, 3) := by decide +kernel
theorem dX1_collect_7 : decode cX1_collect 7 = .ok (.if_icmp .ge 20, 3) := by decide +kernel
theorem dX1_collect_10 : decode cX1_collect 10 = .ok (.aload_n 0, 1) := by decide +kernel
theorem dX1_collect_11 : decode cX1_collect 11 = .ok (.getfield 35, 3) := by decide +kernel
theorem dX1_collect_14 : decode cX1_collect 14 = .ok (.iload_n 1, 1) := by decide +kernel
theorem dX1_collect_15 : decode cX1_collect 15 = .ok (.aload_n 0, 1) := by decide +kernel
theorem dX1_collect_16 : decode cX1_collect 16 = .ok (.iload_n 1, 1) := by decide +kernel
theorem dX1_collect_17 : decode cX1_collect 17 = .ok (.invokevirtual 76, 3) := by decide +kernel
theorem dX1_collect_20 : decode cX1_collect 20 = .ok (.iastore, 1) := by decide +kernel
theorem dX1_collect_21 : decode cX1_collect 21 = .ok (.iinc 1 1, 3) := by decide +kernel
theorem dX1_collect_24 : decode cX1_collect 24 = .ok (.goto (-22), 3) := by decide +kernel
theorem dX1_collect_27 : decode cX1_collect 27 = .ok (.return_, 1) := by decide +kernel
set_option maxRecDepth 20000 in
theorem ggX1_worstOf_X1_offOf : GoodIn wsX1_worstOf wsX1_offOf := goodIn_r _ [6, 7, 8, 5, 9, 10, 11, 12] (by decide +kernel) (by decide +kernel)
set_option maxRecDepth 20000 in
theorem gX1_worstOf_X1_offOf : GoodIn wsX1_worstOf (va_wsS RX1 88 yX1_offOf wsX1_offOf) := goodIn_app (goodIn_of _ (by decide +kernel)) ggX1_worstOf_X1_offOf
theorem dX1_worstOf_0 : decode cX1_worstOf 0 = .ok (.iconst 0, 1) := by decide +kernel
theorem dX1_worstOf_1 : decode cX1_worstOf 1 = .ok (.istore_n 2, 1) := by decide +kernel
theorem dX1_worstOf_2 : decode cX1_worstOf 2 = .ok (.iconst 0, 1) := by decide +kernel
theorem dX1_worstOf_3 : decode cX1_worstOf 3 = .ok (.istore_n 3, 1) := by decide +kernel
theorem dX1_worstOf_4 : decode cX1_worstOf 4 = .ok (.iload_n 3, 1) := by decide +kernel
theorem dX1_worstOf_5 : decode cX1_worstOf 5 = .ok (.aload_n 0, 1) := by decide +kernel
theorem dX1_worstOf_6 : decode cX1_worstOf 6 = .ok (.getfield 41, 3) := by decide +kernel
theorem dX1_worstOf_9 : decode cX1_worstOf 9 = .ok (.if_icmp .ge 34, 3) := by decide +kernel
theorem dX1_worstOf_12 : decode cX1_worstOf 12 = .ok (.iload_n 1, 1) := by decide +kernel
theorem dX1_worstOf_13 : decode cX1_worstOf 13 = .ok (.aload_n 0, 1) := by decide +kernel
theorem dX1_worstOf_14 : decode cX1_worstOf 14 = .ok (.getfield 35, 3) := by decide +kernel
theorem dX1_worstOf_17 : decode cX1_worstOf 17 = .ok (.iload_n 3, 1) := by decide +kernel
theorem dX1_worstOf_18 : decode cX1_worstOf 18 = .ok (.iaload, 1) := by decide +kernel
theorem dX1_worstOf_19 : decode cX1_worstOf 19 = .ok (.invokestatic 88, 3) := by decide +kernel
theorem dX1_worstOf_22 : decode cX1_worstOf 22 = .ok (.istore 4, 2) := by decide +kernel
theorem dX1_worstOf_24 : decode cX1_worstOf 24 = .ok (.iload 4, 2) := by decide +kernel
theorem dX1_worstOf_26 : decode cX1_worstOf 26 = .ok (.iload_n 2, 1) := by decide +kernel
theorem dX1_worstOf_27 : decode cX1_worstOf 27 = .ok (.if_icmp .le 8, 3) := by decide +kernel
theorem dX1_worstOf_30 : decode cX1_worstOf 30 = .ok (.iload 4, 2) := by decide +kernel
theorem dX1_worstOf_32 : decode cX1_worstOf 32 = .ok (.goto 4, 3) := by decide +kernel
theorem dX1_worstOf_35 : decode cX1_worstOf 35 = .ok (.iload_n 2, 1) := by decide +kernel
theorem dX1_worstOf_36 : decode cX1_worstOf 36 = .ok (.istore_n 2, 1) := by decide +kernel
theorem dX1_worstOf_37 : decode cX1_worstOf 37 = .ok (.iinc 3 1, 3) := by decide +kernel
theorem dX1_worstOf_40 : decode cX1_worstOf 40 = .ok (.goto (-36), 3) := by decide +kernel
theorem dX1_worstOf_43 : decode cX1_worstOf 43 = .ok (.iload_n 2, 1) := by decide +kernel
theorem dX1_worstOf_44 : decode cX1_worstOf 44 = .ok (.ireturn, 1) := by decide +kernel
set_option maxRecDepth 20000 in
theorem ggX1_squaresOf_X1_offOf : GoodIn wsX1_squaresOf wsX1_offOf := goodIn_r _ [6, 7, 8, 5, 9, 10, 11, 12] (by decide +kernel) (by decide +kernel)
set_option maxRecDepth 20000 in
theorem gX1_squaresOf_X1_offOf : GoodIn wsX1_squaresOf (va_wsS RX1 88 yX1_offOf wsX1_offOf) := goodIn_app (goodIn_of _ (by decide +kernel)) ggX1_squaresOf_X1_offOf
theorem dX1_squaresOf_0 : decode cX1_squaresOf 0 = .ok (.iconst 0, 1) := by decide +kernel
theorem dX1_squaresOf_1 : decode cX1_squaresOf 1 = .ok (.istore_n 2, 1) := by decide +kernel
theorem dX1_squaresOf_2 : decode cX1_squaresOf 2 = .ok (.iconst 0, 1) := by decide +kernel
theorem dX1_squaresOf_3 : decode cX1_squaresOf 3 = .ok (.istore_n 3, 1) := by decide +kernel
theorem dX1_squaresOf_4 : decode cX1_squaresOf 4 = .ok (.iload_n 3, 1) := by decide +kernel
theorem dX1_squaresOf_5 : decode cX1_squaresOf 5 = .ok (.aload_n 0, 1) := by decide +kernel
theorem dX1_squaresOf_6 : decode cX1_squaresOf 6 = .ok (.getfield 41, 3) := by decide +kernel
theorem dX1_squaresOf_9 : decode cX1_squaresOf 9 = .ok (.if_icmp .ge 29, 3) := by decide +kernel
theorem dX1_squaresOf_12 : decode cX1_squaresOf 12 = .ok (.iload_n 1, 1) := by decide +kernel
theorem dX1_squaresOf_13 : decode cX1_squaresOf 13 = .ok (.aload_n 0, 1) := by decide +kernel
theorem dX1_squaresOf_14 : decode cX1_squaresOf 14 = .ok (.getfield 35, 3) := by decide +kernel
theorem dX1_squaresOf_17 : decode cX1_squaresOf 17 = .ok (.iload_n 3, 1) := by decide +kernel
theorem dX1_squaresOf_18 : decode cX1_squaresOf 18 = .ok (.iaload, 1) := by decide +kernel
theorem dX1_squaresOf_19 : decode cX1_squaresOf 19 = .ok (.invokestatic 88, 3) := by decide +kernel
theorem dX1_squaresOf_22 : decode cX1_squaresOf 22 = .ok (.istore 4, 2) := by decide +kernel
theorem dX1_squaresOf_24 : decode cX1_squaresOf 24 = .ok (.iload_n 2, 1) := by decide +kernel
theorem dX1_squaresOf_25 : decode cX1_squaresOf 25 = .ok (.iload 4, 2) := by decide +kernel
theorem dX1_squaresOf_27 : decode cX1_squaresOf 27 = .ok (.iload 4, 2) := by decide +kernel
theorem dX1_squaresOf_29 : decode cX1_squaresOf 29 = .ok (.imul, 1) := by decide +kernel
theorem dX1_squaresOf_30 : decode cX1_squaresOf 30 = .ok (.iadd, 1) := by decide +kernel
theorem dX1_squaresOf_31 : decode cX1_squaresOf 31 = .ok (.istore_n 2, 1) := by decide +kernel
theorem dX1_squaresOf_32 : decode cX1_squaresOf 32 = .ok (.iinc 3 1, 3) := by decide +kernel
theorem dX1_squaresOf_35 : decode cX1_squaresOf 35 = .ok (.goto (-31), 3) := by decide +kernel
theorem dX1_squaresOf_38 : decode cX1_squaresOf 38 = .ok (.iload_n 2, 1) := by decide +kernel
theorem dX1_squaresOf_39 : decode cX1_squaresOf 39 = .ok (.ireturn, 1) := by decide +kernel
set_option maxRecDepth 20000 in
theorem ggX1_worst_X1_collect : GoodIn wsX1_worst wsX1_collect := goodIn_r _ [5, 6, 7, 8, 9, 10, 4, 11, 12, 13, 14, 15, 16, 17, 18, 19, 20, 21, 22, 23, 24, 25, 26, 27, 45, 46, 47, 48, 49, 50, 51, 52, 53, 54, 55, 56, 57, 58, 59, 60] (by decide +kernel) (by decide +kernel)
set_option maxRecDepth 20000 in
theorem gX1_worst_X1_collect : GoodIn wsX1_worst (wsV RX1 92 RX1 yX1_collect wsX1_collect) := goodIn_app (goodIn_of _ (by decide +kernel)) ggX1_worst_X1_collect
set_option maxRecDepth 20000 in
theorem ggX1_worst_X1_isColouring : GoodIn wsX1_worst wsX1_isColouring := goodIn_r _ [31, 12, 20, 21, 4, 22, 45, 46, 47, 48, 49, 50, 51, 52, 53, 54, 55, 56, 57, 58, 59, 60] (by decide +kernel) (by decide +kernel)
set_option maxRecDepth 20000 in
theorem gX1_worst_X1_isColouring : GoodIn wsX1_worst (wsV RX1 85 RX1 yX1_isColouring wsX1_isColouring) := goodIn_app (goodIn_of _ (by decide +kernel)) ggX1_worst_X1_isColouring
set_option maxRecDepth 20000 in
theorem ggX1_worst_X1_worstOf : GoodIn wsX1_worst wsX1_worstOf := goodIn_r _ [35, 6, 7, 36, 37, 4, 38, 39, 40, 41, 42, 43, 44, 45, 46, 47, 48, 49, 50, 51, 52, 53, 54, 55, 56, 57, 58, 59, 60] (by decide +kernel) (by decide +kernel)
set_option maxRecDepth 20000 in
theorem gX1_worst_X1_worstOf : GoodIn wsX1_worst (wsV RX1 95 RX1 yX1_worstOf wsX1_worstOf) := goodIn_app (goodIn_of _ (by decide +kernel)) ggX1_worst_X1_worstOf
theorem dX1_worst_0 : decode cX1_worst 0 = .ok (.aload_n 0, 1) := by decide +kernel
theorem dX1_worst_1 : decode cX1_worst 1 = .ok (.invokevirtual 92, 3) := by decide +kernel
theorem dX1_worst_4 : decode cX1_worst 4 = .ok (.aload_n 0, 1) := by decide +kernel
theorem dX1_worst_5 : decode cX1_worst 5 = .ok (.iload_n 1, 1) := by decide +kernel
theorem dX1_worst_6 : decode cX1_worst 6 = .ok (.invokevirtual 85, 3) := by decide +kernel
theorem dX1_worst_9 : decode cX1_worst 9 = .ok (.ifCond .eq 11, 3) := by decide +kernel
theorem dX1_worst_12 : decode cX1_worst 12 = .ok (.aload_n 0, 1) := by decide +kernel
theorem dX1_worst_13 : decode cX1_worst 13 = .ok (.iload_n 1, 1) := by decide +kernel
theorem dX1_worst_14 : decode cX1_worst 14 = .ok (.invokevirtual 95, 3) := by decide +kernel
theorem dX1_worst_17 : decode cX1_worst 17 = .ok (.goto 4, 3) := by decide +kernel
theorem dX1_worst_20 : decode cX1_worst 20 = .ok (.iconst (-1), 1) := by decide +kernel
theorem dX1_worst_21 : decode cX1_worst 21 = .ok (.ireturn, 1) := by decide +kernel
set_option maxRecDepth 20000 in
theorem ggX1_squares_X1_collect : GoodIn wsX1_squares wsX1_collect := goodIn_r _ [5, 6, 7, 8, 9, 10, 4, 11, 12, 13, 14, 15, 16, 17, 18, 19, 20, 21, 22, 23, 24, 25, 26, 27, 45, 46, 47, 48, 49, 50, 51, 52, 53, 54, 55, 56, 57, 58, 59, 60] (by decide +kernel) (by decide +kernel)
set_option maxRecDepth 20000 in
theorem gX1_squares_X1_collect : GoodIn wsX1_squares (wsV RX1 92 RX1 yX1_collect wsX1_collect) := goodIn_app (goodIn_of _ (by decide +kernel)) ggX1_squares_X1_collect
set_option maxRecDepth 20000 in
theorem ggX1_squares_X1_isColouring : GoodIn wsX1_squares wsX1_isColouring := goodIn_r _ [31, 12, 20, 21, 4, 22, 45, 46, 47, 48, 49, 50, 51, 52, 53, 54, 55, 56, 57, 58, 59, 60] (by decide +kernel) (by decide +kernel)
set_option maxRecDepth 20000 in
theorem gX1_squares_X1_isColouring : GoodIn wsX1_squares (wsV RX1 85 RX1 yX1_isColouring wsX1_isColouring) := goodIn_app (goodIn_of _ (by decide +kernel)) ggX1_squares_X1_isColouring
set_option maxRecDepth 20000 in
theorem ggX1_squares_X1_squaresOf : GoodIn wsX1_squares wsX1_squaresOf := goodIn_r _ [35, 6, 7, 36, 37, 4, 38, 39, 40, 41, 42, 43, 44, 45, 46, 47, 48, 49, 50, 51, 52, 53, 54, 55, 56, 57, 58, 59, 60] (by decide +kernel) (by decide +kernel)
set_option maxRecDepth 20000 in
theorem gX1_squares_X1_squaresOf : GoodIn wsX1_squares (wsV RX1 98 RX1 yX1_squaresOf wsX1_squaresOf) := goodIn_app (goodIn_of _ (by decide +kernel)) ggX1_squares_X1_squaresOf
theorem dX1_squares_0 : decode cX1_squares 0 = .ok (.aload_n 0, 1) := by decide +kernel
theorem dX1_squares_1 : decode cX1_squares 1 = .ok (.invokevirtual 92, 3) := by decide +kernel
theorem dX1_squares_4 : decode cX1_squares 4 = .ok (.aload_n 0, 1) := by decide +kernel
theorem dX1_squares_5 : decode cX1_squares 5 = .ok (.iload_n 1, 1) := by decide +kernel
theorem dX1_squares_6 : decode cX1_squares 6 = .ok (.invokevirtual 85, 3) := by decide +kernel
theorem dX1_squares_9 : decode cX1_squares 9 = .ok (.ifCond .eq 11, 3) := by decide +kernel
theorem dX1_squares_12 : decode cX1_squares 12 = .ok (.aload_n 0, 1) := by decide +kernel
theorem dX1_squares_13 : decode cX1_squares 13 = .ok (.iload_n 1, 1) := by decide +kernel
theorem dX1_squares_14 : decode cX1_squares 14 = .ok (.invokevirtual 98, 3) := by decide +kernel
theorem dX1_squares_17 : decode cX1_squares 17 = .ok (.goto 4, 3) := by decide +kernel
theorem dX1_squares_20 : decode cX1_squares 20 = .ok (.iconst (-1), 1) := by decide +kernel
theorem dX1_squares_21 : decode cX1_squares 21 = .ok (.ireturn, 1) := by decide +kernel
set_option maxRecDepth 20000 in
theorem ggX1_times_X1_holds : GoodIn wsX1_times wsX1_holds := goodIn_r _ [7, 8, 9, 10, 11, 12, 6, 13, 14, 15, 16, 17, 18, 19, 20, 21, 22, 23, 24, 25, 26, 27, 28, 29, 30, 31, 32, 33, 34] (by decide +kernel) (by decide +kernel)
set_option maxRecDepth 20000 in
theorem gX1_times_X1_holds : GoodIn wsX1_times (wsV RX1 72 RX1 yX1_holds wsX1_holds) := goodIn_app (goodIn_of _ (by decide +kernel)) ggX1_times_X1_holds
theorem dX1_times_0 : decode cX1_times 0 = .ok (.iconst 0, 1) := by decide +kernel
theorem dX1_times_1 : decode cX1_times 1 = .ok (.istore_n 1, 1) := by decide +kernel
theorem dX1_times_2 : decode cX1_times 2 = .ok (.iconst 0, 1) := by decide +kernel
theorem dX1_times_3 : decode cX1_times 3 = .ok (.istore_n 2, 1) := by decide +kernel
theorem dX1_times_4 : decode cX1_times 4 = .ok (.iload_n 2, 1) := by decide +kernel
theorem dX1_times_5 : decode cX1_times 5 = .ok (.aload_n 0, 1) := by decide +kernel
theorem dX1_times_6 : decode cX1_times 6 = .ok (.getfield 7, 3) := by decide +kernel
theorem dX1_times_9 : decode cX1_times 9 = .ok (.if_icmp .ge 58, 3) := by decide +kernel
theorem dX1_times_12 : decode cX1_times 12 = .ok (.iconst 0, 1) := by decide +kernel
theorem dX1_times_13 : decode cX1_times 13 = .ok (.istore_n 3, 1) := by decide +kernel
theorem dX1_times_14 : decode cX1_times 14 = .ok (.iconst 0, 1) := by decide +kernel
theorem dX1_times_15 : decode cX1_times 15 = .ok (.istore 4, 2) := by decide +kernel
theorem dX1_times_17 : decode cX1_times 17 = .ok (.iload 4, 2) := by decide +kernel
theorem dX1_times_19 : decode cX1_times 19 = .ok (.aload_n 0, 1) := by decide +kernel
theorem dX1_times_20 : decode cX1_times 20 = .ok (.getfield 41, 3) := by decide +kernel
theorem dX1_times_23 : decode cX1_times 23 = .ok (.if_icmp .ge 27, 3) := by decide +kernel
theorem dX1_times_26 : decode cX1_times 26 = .ok (.iload_n 3, 1) := by decide +kernel
theorem dX1_times_27 : decode cX1_times 27 = .ok (.aload_n 0, 1) := by decide +kernel
theorem dX1_times_28 : decode cX1_times 28 = .ok (.iload 4, 2) := by decide +kernel
theorem dX1_times_30 : decode cX1_times 30 = .ok (.iload_n 2, 1) := by decide +kernel
theorem dX1_times_31 : decode cX1_times 31 = .ok (.invokevirtual 72, 3) := by decide +kernel
theorem dX1_times_34 : decode cX1_times 34 = .ok (.ifCond .eq 7, 3) := by decide +kernel
theorem dX1_times_37 : decode cX1_times 37 = .ok (.iconst 1, 1) := by decide +kernel
theorem dX1_times_38 : decode cX1_times 38 = .ok (.goto 4, 3) := by decide +kernel
theorem dX1_times_41 : decode cX1_times 41 = .ok (.iconst 0, 1) := by decide +kernel
theorem dX1_times_42 : decode cX1_times 42 = .ok (.iadd, 1) := by decide +kernel
theorem dX1_times_43 : decode cX1_times 43 = .ok (.istore_n 3, 1) := by decide +kernel
theorem dX1_times_44 : decode cX1_times 44 = .ok (.iinc 4 1, 3) := by decide +kernel
theorem dX1_times_47 : decode cX1_times 47 = .ok (.goto (-30), 3) := by decide +kernel
theorem dX1_times_50 : decode cX1_times 50 = .ok (.iload_n 3, 1) := by decide +kernel
theorem dX1_times_51 : decode cX1_times 51 = .ok (.iload_n 1, 1) := by decide +kernel
theorem dX1_times_52 : decode cX1_times 52 = .ok (.if_icmp .le 7, 3) := by decide +kernel
theorem dX1_times_55 : decode cX1_times 55 = .ok (.iload_n 3, 1) := by decide +kernel
theorem dX1_times_56 : decode cX1_times 56 = .ok (.goto 4, 3) := by decide +kernel
theorem dX1_times_59 : decode cX1_times 59 = .ok (.iload_n 1, 1) := by decide +kernel
theorem dX1_times_60 : decode cX1_times 60 = .ok (.istore_n 1, 1) := by decide +kernel
theorem dX1_times_61 : decode cX1_times 61 = .ok (.iinc 2 1, 3) := by decide +kernel
theorem dX1_times_64 : decode cX1_times 64 = .ok (.goto (-60), 3) := by decide +kernel
theorem dX1_times_67 : decode cX1_times 67 = .ok (.iload_n 1, 1) := by decide +kernel
theorem dX1_times_68 : decode cX1_times 68 = .ok (.ireturn, 1) := by decide +kernel
theorem dX1_keeps_0 : decode cX1_keeps 0 = .ok (.iconst 1, 1) := by decide +kernel
theorem dX1_keeps_1 : decode cX1_keeps 1 = .ok (.istore_n 2, 1) := by decide +kernel
theorem dX1_keeps_2 : decode cX1_keeps 2 = .ok (.iconst 0, 1) := by decide +kernel
theorem dX1_keeps_3 : decode cX1_keeps 3 = .ok (.istore_n 3, 1) := by decide +kernel
theorem dX1_keeps_4 : decode cX1_keeps 4 = .ok (.iload_n 3, 1) := by decide +kernel
theorem dX1_keeps_5 : decode cX1_keeps 5 = .ok (.aload_n 0, 1) := by decide +kernel
theorem dX1_keeps_6 : decode cX1_keeps 6 = .ok (.getfield 7, 3) := by decide +kernel
theorem dX1_keeps_9 : decode cX1_keeps 9 = .ok (.if_icmp .ge 42, 3) := by decide +kernel
theorem dX1_keeps_12 : decode cX1_keeps 12 = .ok (.iload_n 2, 1) := by decide +kernel
theorem dX1_keeps_13 : decode cX1_keeps 13 = .ok (.ifCond .eq 30, 3) := by decide +kernel
theorem dX1_keeps_16 : decode cX1_keeps 16 = .ok (.aload_n 0, 1) := by decide +kernel
theorem dX1_keeps_17 : decode cX1_keeps 17 = .ok (.getfield 17, 3) := by decide +kernel
theorem dX1_keeps_20 : decode cX1_keeps 20 = .ok (.iload_n 3, 1) := by decide +kernel
theorem dX1_keeps_21 : decode cX1_keeps 21 = .ok (.iaload, 1) := by decide +kernel
theorem dX1_keeps_22 : decode cX1_keeps 22 = .ok (.ifCond .lt 17, 3) := by decide +kernel
theorem dX1_keeps_25 : decode cX1_keeps 25 = .ok (.aload_n 0, 1) := by decide +kernel
theorem dX1_keeps_26 : decode cX1_keeps 26 = .ok (.getfield 17, 3) := by decide +kernel
theorem dX1_keeps_29 : decode cX1_keeps 29 = .ok (.iload_n 3, 1) := by decide +kernel
theorem dX1_keeps_30 : decode cX1_keeps 30 = .ok (.iaload, 1) := by decide +kernel
theorem dX1_keeps_31 : decode cX1_keeps 31 = .ok (.iload_n 1, 1) := by decide +kernel
theorem dX1_keeps_32 : decode cX1_keeps 32 = .ok (.iload_n 3, 1) := by decide +kernel
theorem dX1_keeps_33 : decode cX1_keeps 33 = .ok (.ishr, 1) := by decide +kernel
theorem dX1_keeps_34 : decode cX1_keeps 34 = .ok (.iconst 1, 1) := by decide +kernel
theorem dX1_keeps_35 : decode cX1_keeps 35 = .ok (.iand, 1) := by decide +kernel
theorem dX1_keeps_36 : decode cX1_keeps 36 = .ok (.if_icmp .ne 7, 3) := by decide +kernel
theorem dX1_keeps_39 : decode cX1_keeps 39 = .ok (.iconst 1, 1) := by decide +kernel
theorem dX1_keeps_40 : decode cX1_keeps 40 = .ok (.goto 4, 3) := by decide +kernel
theorem dX1_keeps_43 : decode cX1_keeps 43 = .ok (.iconst 0, 1) := by decide +kernel
theorem dX1_keeps_44 : decode cX1_keeps 44 = .ok (.istore_n 2, 1) := by decide +kernel
theorem dX1_keeps_45 : decode cX1_keeps 45 = .ok (.iinc 3 1, 3) := by decide +kernel
theorem dX1_keeps_48 : decode cX1_keeps 48 = .ok (.goto (-44), 3) := by decide +kernel
theorem dX1_keeps_51 : decode cX1_keeps 51 = .ok (.iload_n 2, 1) := by decide +kernel
theorem dX1_keeps_52 : decode cX1_keeps 52 = .ok (.ireturn, 1) := by decide +kernel
set_option maxRecDepth 20000 in
theorem ggX1_goThrough_X1_collect : GoodIn wsX1_goThrough wsX1_collect := goodIn_r _ [10, 11, 12, 13, 14, 15, 9, 16, 3, 17, 18, 19, 20, 21, 22, 23, 24, 25, 26, 27, 28, 29, 30, 31, 54, 55, 56, 57, 58, 59, 60, 61, 62, 63, 64, 65, 66, 67, 68, 69] (by decide +kernel) (by decide +kernel)
set_option maxRecDepth 20000 in
theorem gX1_goThrough_X1_collect : GoodIn wsX1_goThrough (wsV RX1 92 RX1 yX1_collect wsX1_collect) := goodIn_app (goodIn_of _ (by decide +kernel)) ggX1_goThrough_X1_collect
set_option maxRecDepth 20000 in
theorem ggX1_goThrough_X1_keeps : GoodIn wsX1_goThrough wsX1_keeps := goodIn_r _ [35, 3, 36, 54, 55, 56, 57, 58, 59, 60, 61, 62, 63, 64, 65, 66, 67, 68, 69] (by decide +kernel) (by decide +kernel)
set_option maxRecDepth 20000 in
theorem gX1_goThrough_X1_keeps : GoodIn wsX1_goThrough (wsV RX1 105 RX1 yX1_keeps wsX1_keeps) := goodIn_app (goodIn_of _ (by decide +kernel)) ggX1_goThrough_X1_keeps
set_option maxRecDepth 20000 in
theorem ggX1_goThrough_X1_worstOf : GoodIn wsX1_goThrough wsX1_worstOf := goodIn_r _ [40, 11, 12, 41, 42, 9, 43, 44, 45, 46, 47, 48, 49, 54, 55, 56, 57, 58, 59, 60, 61, 62, 63, 64, 65, 66, 67, 68, 69] (by decide +kernel) (by decide +kernel)
set_option maxRecDepth 20000 in
theorem gX1_goThrough_X1_worstOf : GoodIn wsX1_goThrough (wsV RX1 95 RX1 yX1_worstOf wsX1_worstOf) := goodIn_app (goodIn_of _ (by decide +kernel)) ggX1_goThrough_X1_worstOf
set_option maxRecDepth 20000 in
theorem ggX1_goThrough_X1_squaresOf : GoodIn wsX1_goThrough wsX1_squaresOf := goodIn_r _ [53, 11, 12, 41, 42, 9, 43, 44, 45, 46, 47, 48, 49, 54, 55, 56, 57, 58, 59, 60, 61, 62, 63, 64, 65, 66, 67, 68, 69] (by decide +kernel) (by decide +kernel)
set_option maxRecDepth 20000 in
theorem gX1_goThrough_X1_squaresOf : GoodIn wsX1_goThrough (wsV RX1 98 RX1 yX1_squaresOf wsX1_squaresOf) := goodIn_app (goodIn_of _ (by decide +kernel)) ggX1_goThrough_X1_squaresOf
theorem dX1_goThrough_0 : decode cX1_goThrough 0 = .ok (.aload_n 0, 1) := by decide +kernel
theorem dX1_goThrough_1 : decode cX1_goThrough 1 = .ok (.invokevirtual 92, 3) := by decide +kernel
theorem dX1_goThrough_4 : decode cX1_goThrough 4 = .ok (.sipush 1000, 3) := by decide +kernel
theorem dX1_goThrough_7 : decode cX1_goThrough 7 = .ok (.istore_n 1, 1) := by decide +kernel
theorem dX1_goThrough_8 : decode cX1_goThrough 8 = .ok (.aload_n 0, 1) := by decide +kernel
theorem dX1_goThrough_9 : decode cX1_goThrough 9 = .ok (.ldc 101, 2) := by decide +kernel
theorem dX1_goThrough_11 : decode cX1_goThrough 11 = .ok (.putfield 102, 3) := by decide +kernel
theorem dX1_goThrough_14 : decode cX1_goThrough 14 = .ok (.iconst 0, 1) := by decide +kernel
theorem dX1_goThrough_15 : decode cX1_goThrough 15 = .ok (.istore_n 2, 1) := by decide +kernel
theorem dX1_goThrough_16 : decode cX1_goThrough 16 = .ok (.iload_n 2, 1) := by decide +kernel
theorem dX1_goThrough_17 : decode cX1_goThrough 17 = .ok (.iconst 1, 1) := by decide +kernel
theorem dX1_goThrough_18 : decode cX1_goThrough 18 = .ok (.aload_n 0, 1) := by decide +kernel
theorem dX1_goThrough_19 : decode cX1_goThrough 19 = .ok (.getfield 7, 3) := by decide +kernel
theorem dX1_goThrough_22 : decode cX1_goThrough 22 = .ok (.ishl, 1) := by decide +kernel
theorem dX1_goThrough_23 : decode cX1_goThrough 23 = .ok (.if_icmp .ge 111, 3) := by decide +kernel
theorem dX1_goThrough_26 : decode cX1_goThrough 26 = .ok (.aload_n 0, 1) := by decide +kernel
theorem dX1_goThrough_27 : decode cX1_goThrough 27 = .ok (.iload_n 2, 1) := by decide +kernel
theorem dX1_goThrough_28 : decode cX1_goThrough 28 = .ok (.invokevirtual 105, 3) := by decide +kernel
theorem dX1_goThrough_31 : decode cX1_goThrough 31 = .ok (.ifCond .eq 97, 3) := by decide +kernel
theorem dX1_goThrough_34 : decode cX1_goThrough 34 = .ok (.aload_n 0, 1) := by decide +kernel
theorem dX1_goThrough_35 : decode cX1_goThrough 35 = .ok (.iload_n 2, 1) := by decide +kernel
theorem dX1_goThrough_36 : decode cX1_goThrough 36 = .ok (.invokevirtual 95, 3) := by decide +kernel
theorem dX1_goThrough_39 : decode cX1_goThrough 39 = .ok (.istore_n 3, 1) := by decide +kernel
theorem dX1_goThrough_40 : decode cX1_goThrough 40 = .ok (.aload_n 0, 1) := by decide +kernel
theorem dX1_goThrough_41 : decode cX1_goThrough 41 = .ok (.iload_n 2, 1) := by decide +kernel
theorem dX1_goThrough_42 : decode cX1_goThrough 42 = .ok (.invokevirtual 98, 3) := by decide +kernel
theorem dX1_goThrough_45 : decode cX1_goThrough 45 = .ok (.istore 4, 2) := by decide +kernel
theorem dX1_goThrough_47 : decode cX1_goThrough 47 = .ok (.aload_n 0, 1) := by decide +kernel
theorem dX1_goThrough_48 : decode cX1_goThrough 48 = .ok (.iload_n 3, 1) := by decide +kernel
theorem dX1_goThrough_49 : decode cX1_goThrough 49 = .ok (.iload_n 1, 1) := by decide +kernel
theorem dX1_goThrough_50 : decode cX1_goThrough 50 = .ok (.if_icmp .ge 7, 3) := by decide +kernel
theorem dX1_goThrough_53 : decode cX1_goThrough 53 = .ok (.iload_n 2, 1) := by decide +kernel
theorem dX1_goThrough_54 : decode cX1_goThrough 54 = .ok (.goto 7, 3) := by decide +kernel
theorem dX1_goThrough_57 : decode cX1_goThrough 57 = .ok (.aload_n 0, 1) := by decide +kernel
theorem dX1_goThrough_58 : decode cX1_goThrough 58 = .ok (.getfield 108, 3) := by decide +kernel
theorem dX1_goThrough_61 : decode cX1_goThrough 61 = .ok (.putfield 108, 3) := by decide +kernel
theorem dX1_goThrough_64 : decode cX1_goThrough 64 = .ok (.aload_n 0, 1) := by decide +kernel
theorem dX1_goThrough_65 : decode cX1_goThrough 65 = .ok (.iload_n 3, 1) := by decide +kernel
theorem dX1_goThrough_66 : decode cX1_goThrough 66 = .ok (.iload_n 1, 1) := by decide +kernel
theorem dX1_goThrough_67 : decode cX1_goThrough 67 = .ok (.if_icmp .ge 7, 3) := by decide +kernel
theorem dX1_goThrough_70 : decode cX1_goThrough 70 = .ok (.iconst 1, 1) := by decide +kernel
theorem dX1_goThrough_71 : decode cX1_goThrough 71 = .ok (.goto 21, 3) := by decide +kernel
theorem dX1_goThrough_74 : decode cX1_goThrough 74 = .ok (.iload_n 3, 1) := by decide +kernel
theorem dX1_goThrough_75 : decode cX1_goThrough 75 = .ok (.iload_n 1, 1) := by decide +kernel
theorem dX1_goThrough_76 : decode cX1_goThrough 76 = .ok (.if_icmp .ne 12, 3) := by decide +kernel
theorem dX1_goThrough_79 : decode cX1_goThrough 79 = .ok (.aload_n 0, 1) := by decide +kernel
theorem dX1_goThrough_80 : decode cX1_goThrough 80 = .ok (.getfield 111, 3) := by decide +kernel
theorem dX1_goThrough_83 : decode cX1_goThrough 83 = .ok (.iconst 1, 1) := by decide +kernel
theorem dX1_goThrough_84 : decode cX1_goThrough 84 = .ok (.iadd, 1) := by decide +kernel
theorem dX1_goThrough_85 : decode cX1_goThrough 85 = .ok (.goto 7, 3) := by decide +kernel
theorem dX1_goThrough_88 : decode cX1_goThrough 88 = .ok (.aload_n 0, 1) := by decide +kernel
theorem dX1_goThrough_89 : decode cX1_goThrough 89 = .ok (.getfield 111, 3) := by decide +kernel
theorem dX1_goThrough_92 : decode cX1_goThrough 92 = .ok (.putfield 111, 3) := by decide +kernel
theorem dX1_goThrough_95 : decode cX1_goThrough 95 = .ok (.iload_n 3, 1) := by decide +kernel
theorem dX1_goThrough_96 : decode cX1_goThrough 96 = .ok (.iload_n 1, 1) := by decide +kernel
theorem dX1_goThrough_97 : decode cX1_goThrough 97 = .ok (.if_icmp .ge 7, 3) := by decide +kernel
theorem dX1_goThrough_100 : decode cX1_goThrough 100 = .ok (.iload_n 3, 1) := by decide +kernel
theorem dX1_goThrough_101 : decode cX1_goThrough 101 = .ok (.goto 4, 3) := by decide +kernel
theorem dX1_goThrough_104 : decode cX1_goThrough 104 = .ok (.iload_n 1, 1) := by decide +kernel
theorem dX1_goThrough_105 : decode cX1_goThrough 105 = .ok (.istore_n 1, 1) := by decide +kernel
theorem dX1_goThrough_106 : decode cX1_goThrough 106 = .ok (.aload_n 0, 1) := by decide +kernel
theorem dX1_goThrough_107 : decode cX1_goThrough 107 = .ok (.iload 4, 2) := by decide +kernel
theorem dX1_goThrough_109 : decode cX1_goThrough 109 = .ok (.aload_n 0, 1) := by decide +kernel
theorem dX1_goThrough_110 : decode cX1_goThrough 110 = .ok (.getfield 102, 3) := by decide +kernel
theorem dX1_goThrough_113 : decode cX1_goThrough 113 = .ok (.if_icmp .ge 8, 3) := by decide +kernel
theorem dX1_goThrough_116 : decode cX1_goThrough 116 = .ok (.iload 4, 2) := by decide +kernel
theorem dX1_goThrough_118 : decode cX1_goThrough 118 = .ok (.goto 7, 3) := by decide +kernel
theorem dX1_goThrough_121 : decode cX1_goThrough 121 = .ok (.aload_n 0, 1) := by decide +kernel
theorem dX1_goThrough_122 : decode cX1_goThrough 122 = .ok (.getfield 102, 3) := by decide +kernel
theorem dX1_goThrough_125 : decode cX1_goThrough 125 = .ok (.putfield 102, 3) := by decide +kernel
theorem dX1_goThrough_128 : decode cX1_goThrough 128 = .ok (.iinc 2 1, 3) := by decide +kernel
theorem dX1_goThrough_131 : decode cX1_goThrough 131 = .ok (.goto (-115), 3) := by decide +kernel
theorem dX1_goThrough_134 : decode cX1_goThrough 134 = .ok (.iload_n 1, 1) := by decide +kernel
theorem dX1_goThrough_135 : decode cX1_goThrough 135 = .ok (.ireturn, 1) := by decide +kernel
set_option maxRecDepth 20000 in
theorem ggX1_least_X1_goThrough : GoodIn wsX1_least wsX1_goThrough := goodIn_r _ [5, 6, 7, 8, 9, 10, 11, 12, 13, 4, 14, 15, 16, 17, 18, 19, 20, 21, 22, 23, 24, 25, 26, 27, 28, 29, 30, 31, 32, 33, 34, 35, 36, 37, 38, 39, 40, 41, 42, 43, 44, 45, 46, 47, 48, 49, 50, 51, 52, 53, 54, 55, 56, 57, 58, 59, 60, 61, 62, 63, 64, 65, 66, 67, 68, 69, 70, 71, 72, 73] (by decide +kernel) (by decide +kernel)
set_option maxRecDepth 20000 in
theorem gX1_least_X1_goThrough : GoodIn wsX1_least (wsV RX1 114 RX1 yX1_goThrough wsX1_goThrough) := goodIn_app (goodIn_of _ (by decide +kernel)) ggX1_least_X1_goThrough
theorem dX1_least_0 : decode cX1_least 0 = .ok (.aload_n 0, 1) := by decide +kernel
theorem dX1_least_1 : decode cX1_least 1 = .ok (.invokevirtual 114, 3) := by decide +kernel
theorem dX1_least_4 : decode cX1_least 4 = .ok (.ireturn, 1) := by decide +kernel
set_option maxRecDepth 20000 in
theorem ggX1_first_X1_goThrough : GoodIn wsX1_first wsX1_goThrough := goodIn_r _ [6, 7, 8, 9, 1, 10, 11, 12, 13, 5, 14, 15, 16, 17, 18, 19, 20, 21, 22, 23, 24, 25, 26, 27, 28, 29, 30, 31, 32, 33, 34, 35, 36, 37, 38, 39, 40, 41, 42, 43, 44, 45, 46, 47, 48, 49, 50, 51, 52, 53, 54, 55, 56, 57, 58, 59, 60, 61, 62, 63, 64, 65, 66, 67, 68, 69, 70, 71, 72, 73] (by decide +kernel) (by decide +kernel)
set_option maxRecDepth 20000 in
theorem gX1_first_X1_goThrough : GoodIn wsX1_first (wsV RX1 114 RX1 yX1_goThrough wsX1_goThrough) := goodIn_app (goodIn_of _ (by decide +kernel)) ggX1_first_X1_goThrough
theorem dX1_first_0 : decode cX1_first 0 = .ok (.aload_n 0, 1) := by decide +kernel
theorem dX1_first_1 : decode cX1_first 1 = .ok (.invokevirtual 114, 3) := by decide +kernel
theorem dX1_first_4 : decode cX1_first 4 = .ok (.istore_n 1, 1) := by decide +kernel
theorem dX1_first_5 : decode cX1_first 5 = .ok (.aload_n 0, 1) := by decide +kernel
theorem dX1_first_6 : decode cX1_first 6 = .ok (.getfield 108, 3) := by decide +kernel
theorem dX1_first_9 : decode cX1_first 9 = .ok (.ireturn, 1) := by decide +kernel
set_option maxRecDepth 20000 in
theorem ggX1_many_X1_goThrough : GoodIn wsX1_many wsX1_goThrough := goodIn_r _ [6, 7, 8, 9, 10, 1, 11, 12, 13, 5, 14, 15, 16, 17, 18, 19, 20, 21, 22, 23, 24, 25, 26, 27, 28, 29, 30, 31, 32, 33, 34, 35, 36, 37, 38, 39, 40, 41, 42, 43, 44, 45, 46, 47, 48, 49, 50, 51, 52, 53, 54, 55, 56, 57, 58, 59, 60, 61, 62, 63, 64, 65, 66, 67, 68, 69, 70, 71, 72, 73] (by decide +kernel) (by decide +kernel)
set_option maxRecDepth 20000 in
theorem gX1_many_X1_goThrough : GoodIn wsX1_many (wsV RX1 114 RX1 yX1_goThrough wsX1_goThrough) := goodIn_app (goodIn_of _ (by decide +kernel)) ggX1_many_X1_goThrough
theorem dX1_many_0 : decode cX1_many 0 = .ok (.aload_n 0, 1) := by decide +kernel
theorem dX1_many_1 : decode cX1_many 1 = .ok (.invokevirtual 114, 3) := by decide +kernel
theorem dX1_many_4 : decode cX1_many 4 = .ok (.istore_n 1, 1) := by decide +kernel
theorem dX1_many_5 : decode cX1_many 5 = .ok (.aload_n 0, 1) := by decide +kernel
theorem dX1_many_6 : decode cX1_many 6 = .ok (.getfield 111, 3) := by decide +kernel
theorem dX1_many_9 : decode cX1_many 9 = .ok (.ireturn, 1) := by decide +kernel
set_option maxRecDepth 20000 in
theorem ggX1_fewest_X1_goThrough : GoodIn wsX1_fewest wsX1_goThrough := goodIn_r _ [6, 7, 1, 8, 9, 10, 11, 12, 13, 5, 14, 15, 16, 17, 18, 19, 20, 21, 22, 23, 24, 25, 26, 27, 28, 29, 30, 31, 32, 33, 34, 35, 36, 37, 38, 39, 40, 41, 42, 43, 44, 45, 46, 47, 48, 49, 50, 51, 52, 53, 54, 55, 56, 57, 58, 59, 60, 61, 62, 63, 64, 65, 66, 67, 68, 69, 70, 71, 72, 73] (by decide +kernel) (by decide +kernel)
set_option maxRecDepth 20000 in
theorem gX1_fewest_X1_goThrough : GoodIn wsX1_fewest (wsV RX1 114 RX1 yX1_goThrough wsX1_goThrough) := goodIn_app (goodIn_of _ (by decide +kernel)) ggX1_fewest_X1_goThrough
theorem dX1_fewest_0 : decode cX1_fewest 0 = .ok (.aload_n 0, 1) := by decide +kernel
theorem dX1_fewest_1 : decode cX1_fewest 1 = .ok (.invokevirtual 114, 3) := by decide +kernel
theorem dX1_fewest_4 : decode cX1_fewest 4 = .ok (.istore_n 1, 1) := by decide +kernel
theorem dX1_fewest_5 : decode cX1_fewest 5 = .ok (.aload_n 0, 1) := by decide +kernel
theorem dX1_fewest_6 : decode cX1_fewest 6 = .ok (.getfield 102, 3) := by decide +kernel
theorem dX1_fewest_9 : decode cX1_fewest 9 = .ok (.ireturn, 1) := by decide +kernel
theorem dX1_turns_0 : decode cX1_turns 0 = .ok (.sipush 2730, 3) := by decide +kernel
theorem dX1_turns_3 : decode cX1_turns 3 = .ok (.iconst 1, 1) := by decide +kernel
theorem dX1_turns_4 : decode cX1_turns 4 = .ok (.aload_n 0, 1) := by decide +kernel
theorem dX1_turns_5 : decode cX1_turns 5 = .ok (.getfield 7, 3) := by decide +kernel
theorem dX1_turns_8 : decode cX1_turns 8 = .ok (.ishl, 1) := by decide +kernel
theorem dX1_turns_9 : decode cX1_turns 9 = .ok (.iconst 1, 1) := by decide +kernel
theorem dX1_turns_10 : decode cX1_turns 10 = .ok (.isub, 1) := by decide +kernel
theorem dX1_turns_11 : decode cX1_turns 11 = .ok (.iand, 1) := by decide +kernel
theorem dX1_turns_12 : decode cX1_turns 12 = .ok (.ireturn, 1) := by decide +kernel
set_option maxRecDepth 20000 in
theorem ggX1_partner_X1_placeOf : GoodIn wsX1_partner wsX1_placeOf := goodIn_r _ [7, 2, 8, 9, 10, 11, 12, 13, 14, 15, 16, 17, 18, 19, 20, 21, 22, 23] (by decide +kernel) (by decide +kernel)
set_option maxRecDepth 20000 in
theorem gX1_partner_X1_placeOf : GoodIn wsX1_partner (wsV RX1 55 RX1 yX1_placeOf wsX1_placeOf) := goodIn_app (goodIn_of _ (by decide +kernel)) ggX1_partner_X1_placeOf
theorem dX1_partner_0 : decode cX1_partner 0 = .ok (.iload_n 2, 1) := by decide +kernel
theorem dX1_partner_1 : decode cX1_partner 1 = .ok (.ifCond .eq 7, 3) := by decide +kernel
theorem dX1_partner_4 : decode cX1_partner 4 = .ok (.iload_n 1, 1) := by decide +kernel
theorem dX1_partner_5 : decode cX1_partner 5 = .ok (.goto 8, 3) := by decide +kernel
theorem dX1_partner_8 : decode cX1_partner 8 = .ok (.aload_n 0, 1) := by decide +kernel
theorem dX1_partner_9 : decode cX1_partner 9 = .ok (.iload_n 1, 1) := by decide +kernel
theorem dX1_partner_10 : decode cX1_partner 10 = .ok (.invokevirtual 55, 3) := by decide +kernel
theorem dX1_partner_13 : decode cX1_partner 13 = .ok (.istore_n 3, 1) := by decide +kernel
theorem dX1_partner_14 : decode cX1_partner 14 = .ok (.iload_n 3, 1) := by decide +kernel
theorem dX1_partner_15 : decode cX1_partner 15 = .ok (.iconst 2, 1) := by decide +kernel
theorem dX1_partner_16 : decode cX1_partner 16 = .ok (.irem, 1) := by decide +kernel
theorem dX1_partner_17 : decode cX1_partner 17 = .ok (.ifCond .ne 9, 3) := by decide +kernel
theorem dX1_partner_20 : decode cX1_partner 20 = .ok (.iload_n 3, 1) := by decide +kernel
theorem dX1_partner_21 : decode cX1_partner 21 = .ok (.iconst 1, 1) := by decide +kernel
theorem dX1_partner_22 : decode cX1_partner 22 = .ok (.iadd, 1) := by decide +kernel
theorem dX1_partner_23 : decode cX1_partner 23 = .ok (.goto 6, 3) := by decide +kernel
theorem dX1_partner_26 : decode cX1_partner 26 = .ok (.iload_n 3, 1) := by decide +kernel
theorem dX1_partner_27 : decode cX1_partner 27 = .ok (.iconst 1, 1) := by decide +kernel
theorem dX1_partner_28 : decode cX1_partner 28 = .ok (.isub, 1) := by decide +kernel
theorem dX1_partner_29 : decode cX1_partner 29 = .ok (.istore 4, 2) := by decide +kernel
theorem dX1_partner_31 : decode cX1_partner 31 = .ok (.iload 4, 2) := by decide +kernel
theorem dX1_partner_33 : decode cX1_partner 33 = .ok (.aload_n 0, 1) := by decide +kernel
theorem dX1_partner_34 : decode cX1_partner 34 = .ok (.getfield 7, 3) := by decide +kernel
theorem dX1_partner_37 : decode cX1_partner 37 = .ok (.if_icmp .lt 7, 3) := by decide +kernel
theorem dX1_partner_40 : decode cX1_partner 40 = .ok (.iconst (-1), 1) := by decide +kernel
theorem dX1_partner_41 : decode cX1_partner 41 = .ok (.goto 19, 3) := by decide +kernel
theorem dX1_partner_44 : decode cX1_partner 44 = .ok (.iload_n 2, 1) := by decide +kernel
theorem dX1_partner_45 : decode cX1_partner 45 = .ok (.ifCond .eq 8, 3) := by decide +kernel
theorem dX1_partner_48 : decode cX1_partner 48 = .ok (.iload 4, 2) := by decide +kernel
theorem dX1_partner_50 : decode cX1_partner 50 = .ok (.goto 10, 3) := by decide +kernel
theorem dX1_partner_53 : decode cX1_partner 53 = .ok (.aload_n 0, 1) := by decide +kernel
theorem dX1_partner_54 : decode cX1_partner 54 = .ok (.getfield 13, 3) := by decide +kernel
theorem dX1_partner_57 : decode cX1_partner 57 = .ok (.iload 4, 2) := by decide +kernel
theorem dX1_partner_59 : decode cX1_partner 59 = .ok (.iaload, 1) := by decide +kernel
theorem dX1_partner_60 : decode cX1_partner 60 = .ok (.ireturn, 1) := by decide +kernel
set_option maxRecDepth 20000 in
theorem ggX1_pairs_X1_partner : GoodIn wsX1_pairs wsX1_partner := goodIn_r _ [7, 1, 8, 9, 10, 11, 6, 12, 13, 14, 15, 16, 17, 18, 19, 20, 21, 22, 23, 24, 25, 26, 27, 28] (by decide +kernel) (by decide +kernel)
set_option maxRecDepth 20000 in
theorem gX1_pairs_X1_partner : GoodIn wsX1_pairs (wsV RX1 118 RX1 yX1_partner wsX1_partner) := goodIn_app (goodIn_of _ (by decide +kernel)) ggX1_pairs_X1_partner
theorem dX1_pairs_0 : decode cX1_pairs 0 = .ok (.iconst 0, 1) := by decide +kernel
theorem dX1_pairs_1 : decode cX1_pairs 1 = .ok (.istore_n 1, 1) := by decide +kernel
theorem dX1_pairs_2 : decode cX1_pairs 2 = .ok (.iload_n 1, 1) := by decide +kernel
theorem dX1_pairs_3 : decode cX1_pairs 3 = .ok (.aload_n 0, 1) := by decide +kernel
theorem dX1_pairs_4 : decode cX1_pairs 4 = .ok (.getfield 7, 3) := by decide +kernel
theorem dX1_pairs_7 : decode cX1_pairs 7 = .ok (.if_icmp .ge 16, 3) := by decide +kernel
theorem dX1_pairs_10 : decode cX1_pairs 10 = .ok (.aload_n 0, 1) := by decide +kernel
theorem dX1_pairs_11 : decode cX1_pairs 11 = .ok (.getfield 38, 3) := by decide +kernel
theorem dX1_pairs_14 : decode cX1_pairs 14 = .ok (.iload_n 1, 1) := by decide +kernel
theorem dX1_pairs_15 : decode cX1_pairs 15 = .ok (.iconst (-1), 1) := by decide +kernel
theorem dX1_pairs_16 : decode cX1_pairs 16 = .ok (.iastore, 1) := by decide +kernel
theorem dX1_pairs_17 : decode cX1_pairs 17 = .ok (.iinc 1 1, 3) := by decide +kernel
theorem dX1_pairs_20 : decode cX1_pairs 20 = .ok (.goto (-18), 3) := by decide +kernel
theorem dX1_pairs_23 : decode cX1_pairs 23 = .ok (.iconst 0, 1) := by decide +kernel
theorem dX1_pairs_24 : decode cX1_pairs 24 = .ok (.istore_n 1, 1) := by decide +kernel
theorem dX1_pairs_25 : decode cX1_pairs 25 = .ok (.iconst 0, 1) := by decide +kernel
theorem dX1_pairs_26 : decode cX1_pairs 26 = .ok (.istore_n 2, 1) := by decide +kernel
theorem dX1_pairs_27 : decode cX1_pairs 27 = .ok (.iload_n 2, 1) := by decide +kernel
theorem dX1_pairs_28 : decode cX1_pairs 28 = .ok (.aload_n 0, 1) := by decide +kernel
theorem dX1_pairs_29 : decode cX1_pairs 29 = .ok (.getfield 7, 3) := by decide +kernel
theorem dX1_pairs_32 : decode cX1_pairs 32 = .ok (.if_icmp .ge 136, 3) := by decide +kernel
theorem dX1_pairs_35 : decode cX1_pairs 35 = .ok (.aload_n 0, 1) := by decide +kernel
theorem dX1_pairs_36 : decode cX1_pairs 36 = .ok (.getfield 38, 3) := by decide +kernel
theorem dX1_pairs_39 : decode cX1_pairs 39 = .ok (.iload_n 2, 1) := by decide +kernel
theorem dX1_pairs_40 : decode cX1_pairs 40 = .ok (.iaload, 1) := by decide +kernel
theorem dX1_pairs_41 : decode cX1_pairs 41 = .ok (.ifCond .ge 110, 3) := by decide +kernel
theorem dX1_pairs_44 : decode cX1_pairs 44 = .ok (.aload_n 0, 1) := by decide +kernel
theorem dX1_pairs_45 : decode cX1_pairs 45 = .ok (.getfield 38, 3) := by decide +kernel
theorem dX1_pairs_48 : decode cX1_pairs 48 = .ok (.iload_n 2, 1) := by decide +kernel
theorem dX1_pairs_49 : decode cX1_pairs 49 = .ok (.iconst 0, 1) := by decide +kernel
theorem dX1_pairs_50 : decode cX1_pairs 50 = .ok (.iastore, 1) := by decide +kernel
theorem dX1_pairs_51 : decode cX1_pairs 51 = .ok (.iconst 1, 1) := by decide +kernel
theorem dX1_pairs_52 : decode cX1_pairs 52 = .ok (.istore_n 3, 1) := by decide +kernel
theorem dX1_pairs_53 : decode cX1_pairs 53 = .ok (.iload_n 3, 1) := by decide +kernel
theorem dX1_pairs_54 : decode cX1_pairs 54 = .ok (.ifCond .eq 97, 3) := by decide +kernel
theorem dX1_pairs_57 : decode cX1_pairs 57 = .ok (.iconst 0, 1) := by decide +kernel
theorem dX1_pairs_58 : decode cX1_pairs 58 = .ok (.istore_n 3, 1) := by decide +kernel
theorem dX1_pairs_59 : decode cX1_pairs 59 = .ok (.iconst 0, 1) := by decide +kernel
