theorem dX0_times_26 : decode cX0_times 26 = .ok (.iload_n 3, 1) := by decide +kernel
theorem dX0_times_27 : decode cX0_times 27 = .ok (.aload_n 0, 1) := by decide +kernel
theorem dX0_times_28 : decode cX0_times 28 = .ok (.getfield 41, 3) := by decide +kernel
theorem dX0_times_31 : decode cX0_times 31 = .ok (.iload 4, 2) := by decide +kernel
theorem dX0_times_33 : decode cX0_times 33 = .ok (.iaload, 1) := by decide +kernel
theorem dX0_times_34 : decode cX0_times 34 = .ok (.iload_n 2, 1) := by decide +kernel
theorem dX0_times_35 : decode cX0_times 35 = .ok (.invokestatic 83, 3) := by decide +kernel
theorem dX0_times_38 : decode cX0_times 38 = .ok (.iadd, 1) := by decide +kernel
theorem dX0_times_39 : decode cX0_times 39 = .ok (.istore_n 3, 1) := by decide +kernel
theorem dX0_times_40 : decode cX0_times 40 = .ok (.iinc 4 1, 3) := by decide +kernel
theorem dX0_times_43 : decode cX0_times 43 = .ok (.goto (-26), 3) := by decide +kernel
theorem dX0_times_46 : decode cX0_times 46 = .ok (.iload_n 1, 1) := by decide +kernel
theorem dX0_times_47 : decode cX0_times 47 = .ok (.iload_n 3, 1) := by decide +kernel
theorem dX0_times_48 : decode cX0_times 48 = .ok (.invokestatic 109, 3) := by decide +kernel
theorem dX0_times_51 : decode cX0_times 51 = .ok (.istore_n 1, 1) := by decide +kernel
theorem dX0_times_52 : decode cX0_times 52 = .ok (.iinc 2 1, 3) := by decide +kernel
theorem dX0_times_55 : decode cX0_times 55 = .ok (.goto (-51), 3) := by decide +kernel
theorem dX0_times_58 : decode cX0_times 58 = .ok (.iload_n 1, 1) := by decide +kernel
theorem dX0_times_59 : decode cX0_times 59 = .ok (.ireturn, 1) := by decide +kernel
set_option maxRecDepth 20000 in
theorem ggX0_least_X0_firstLeast : GoodIn wsX0_least wsX0_firstLeast := goodIn_r _ [5, 6, 7, 8, 9, 4, 10, 11, 12, 13, 14, 15, 16, 17, 18, 19, 20, 21, 22, 23, 24, 25, 26, 27, 28, 29, 30, 31, 32, 33, 34, 35, 36, 37, 38, 39, 40, 41, 42, 43, 44, 45, 46, 47, 48, 49, 50, 51, 52, 53, 54, 55, 56, 57, 58] (by decide +kernel) (by decide +kernel)
set_option maxRecDepth 20000 in
theorem gX0_least_X0_firstLeast : GoodIn wsX0_least (wsV RX0 114 RX0 yX0_firstLeast wsX0_firstLeast) := goodIn_app (goodIn_of _ (by decide +kernel)) ggX0_least_X0_firstLeast
set_option maxRecDepth 20000 in
theorem ggX0_least_X0_worstOf : GoodIn wsX0_least wsX0_worstOf := goodIn_r _ [10, 11, 12, 13, 14, 15, 16, 17, 18, 4, 19, 20, 21, 22, 23, 24, 25, 26, 27, 28, 29, 30, 31, 32, 33, 44, 45, 46, 47, 48, 49, 50, 51, 52, 53, 54, 55, 56, 57, 58] (by decide +kernel) (by decide +kernel)
set_option maxRecDepth 20000 in
theorem gX0_least_X0_worstOf : GoodIn wsX0_least (wsV RX0 103 RX0 yX0_worstOf wsX0_worstOf) := goodIn_app (goodIn_of _ (by decide +kernel)) ggX0_least_X0_worstOf
theorem dX0_least_0 : decode cX0_least 0 = .ok (.aload_n 0, 1) := by decide +kernel
theorem dX0_least_1 : decode cX0_least 1 = .ok (.aload_n 0, 1) := by decide +kernel
theorem dX0_least_2 : decode cX0_least 2 = .ok (.invokevirtual 114, 3) := by decide +kernel
theorem dX0_least_5 : decode cX0_least 5 = .ok (.invokevirtual 103, 3) := by decide +kernel
theorem dX0_least_8 : decode cX0_least 8 = .ok (.ireturn, 1) := by decide +kernel
set_option maxRecDepth 20000 in
theorem ggX0_first_X0_firstLeast : GoodIn wsX0_first wsX0_firstLeast := goodIn_r _ [5, 6, 7, 8, 9, 4, 10, 11, 12, 13, 14, 15, 16, 17, 18, 19, 20, 21, 22, 23, 24, 25, 26, 27, 28, 29, 30, 31, 32, 33, 34, 35, 36, 37, 38, 39, 40, 41, 42, 43, 44, 45, 46, 47, 48, 49, 50, 51, 52, 53, 54, 55, 56, 57, 58] (by decide +kernel) (by decide +kernel)
set_option maxRecDepth 20000 in
theorem gX0_first_X0_firstLeast : GoodIn wsX0_first (wsV RX0 114 RX0 yX0_firstLeast wsX0_firstLeast) := goodIn_app (goodIn_of _ (by decide +kernel)) ggX0_first_X0_firstLeast
theorem dX0_first_0 : decode cX0_first 0 = .ok (.aload_n 0, 1) := by decide +kernel
theorem dX0_first_1 : decode cX0_first 1 = .ok (.invokevirtual 114, 3) := by decide +kernel
theorem dX0_first_4 : decode cX0_first 4 = .ok (.ireturn, 1) := by decide +kernel
set_option maxRecDepth 20000 in
theorem ggX0_many_X0_firstLeast : GoodIn wsX0_many wsX0_firstLeast := goodIn_r _ [5, 6, 7, 8, 9, 4, 10, 11, 12, 13, 14, 15, 16, 17, 18, 19, 20, 21, 22, 23, 24, 25, 26, 27, 28, 29, 30, 31, 32, 33, 34, 35, 36, 37, 38, 39, 40, 41, 42, 43, 44, 45, 46, 47, 48, 49, 50, 51, 52, 53, 54, 55, 56, 57, 58] (by decide +kernel) (by decide +kernel)
set_option maxRecDepth 20000 in
theorem gX0_many_X0_firstLeast : GoodIn wsX0_many (wsV RX0 114 RX0 yX0_firstLeast wsX0_firstLeast) := goodIn_app (goodIn_of _ (by decide +kernel)) ggX0_many_X0_firstLeast
set_option maxRecDepth 20000 in
theorem ggX0_many_X0_worstOf : GoodIn wsX0_many wsX0_worstOf := goodIn_r _ [10, 11, 12, 13, 14, 15, 16, 17, 18, 4, 19, 20, 21, 22, 23, 24, 25, 26, 27, 28, 29, 30, 31, 32, 33, 44, 45, 46, 47, 48, 49, 50, 51, 52, 53, 54, 55, 56, 57, 58] (by decide +kernel) (by decide +kernel)
set_option maxRecDepth 20000 in
theorem gX0_many_X0_worstOf : GoodIn wsX0_many (wsV RX0 103 RX0 yX0_worstOf wsX0_worstOf) := goodIn_app (goodIn_of _ (by decide +kernel)) ggX0_many_X0_worstOf
set_option maxRecDepth 20000 in
theorem ggX0_many_X0_colouringCount : GoodIn wsX0_many wsX0_colouringCount := goodIn_r _ [37, 38, 44, 45, 46, 47, 48, 49, 50, 51, 52, 53, 54, 55, 56, 57, 58] (by decide +kernel) (by decide +kernel)
set_option maxRecDepth 20000 in
theorem gX0_many_X0_colouringCount : GoodIn wsX0_many (wsV RX0 118 RX0 yX0_colouringCount wsX0_colouringCount) := goodIn_app (goodIn_of _ (by decide +kernel)) ggX0_many_X0_colouringCount
set_option maxRecDepth 20000 in
theorem ggX0_many_X0_keepsToHeld : GoodIn wsX0_many wsX0_keepsToHeld := goodIn_r _ [42, 43, 6, 44, 45, 46, 47, 48, 49, 50, 51, 52, 53, 54, 55, 56, 57, 58] (by decide +kernel) (by decide +kernel)
set_option maxRecDepth 20000 in
theorem gX0_many_X0_keepsToHeld : GoodIn wsX0_many (wsV RX0 121 RX0 yX0_keepsToHeld wsX0_keepsToHeld) := goodIn_app (goodIn_of _ (by decide +kernel)) ggX0_many_X0_keepsToHeld
theorem dX0_many_0 : decode cX0_many 0 = .ok (.aload_n 0, 1) := by decide +kernel
theorem dX0_many_1 : decode cX0_many 1 = .ok (.invokevirtual 114, 3) := by decide +kernel
theorem dX0_many_4 : decode cX0_many 4 = .ok (.istore_n 1, 1) := by decide +kernel
theorem dX0_many_5 : decode cX0_many 5 = .ok (.aload_n 0, 1) := by decide +kernel
theorem dX0_many_6 : decode cX0_many 6 = .ok (.iload_n 1, 1) := by decide +kernel
theorem dX0_many_7 : decode cX0_many 7 = .ok (.invokevirtual 103, 3) := by decide +kernel
theorem dX0_many_10 : decode cX0_many 10 = .ok (.istore_n 2, 1) := by decide +kernel
theorem dX0_many_11 : decode cX0_many 11 = .ok (.iconst 0, 1) := by decide +kernel
theorem dX0_many_12 : decode cX0_many 12 = .ok (.istore_n 3, 1) := by decide +kernel
theorem dX0_many_13 : decode cX0_many 13 = .ok (.iload_n 1, 1) := by decide +kernel
theorem dX0_many_14 : decode cX0_many 14 = .ok (.istore 4, 2) := by decide +kernel
theorem dX0_many_16 : decode cX0_many 16 = .ok (.iload 4, 2) := by decide +kernel
theorem dX0_many_18 : decode cX0_many 18 = .ok (.aload_n 0, 1) := by decide +kernel
theorem dX0_many_19 : decode cX0_many 19 = .ok (.invokevirtual 118, 3) := by decide +kernel
theorem dX0_many_22 : decode cX0_many 22 = .ok (.if_icmp .ge 31, 3) := by decide +kernel
theorem dX0_many_25 : decode cX0_many 25 = .ok (.aload_n 0, 1) := by decide +kernel
theorem dX0_many_26 : decode cX0_many 26 = .ok (.iload 4, 2) := by decide +kernel
theorem dX0_many_28 : decode cX0_many 28 = .ok (.invokevirtual 121, 3) := by decide +kernel
theorem dX0_many_31 : decode cX0_many 31 = .ok (.ifCond .eq 16, 3) := by decide +kernel
theorem dX0_many_34 : decode cX0_many 34 = .ok (.aload_n 0, 1) := by decide +kernel
theorem dX0_many_35 : decode cX0_many 35 = .ok (.iload 4, 2) := by decide +kernel
theorem dX0_many_37 : decode cX0_many 37 = .ok (.invokevirtual 103, 3) := by decide +kernel
theorem dX0_many_40 : decode cX0_many 40 = .ok (.iload_n 2, 1) := by decide +kernel
theorem dX0_many_41 : decode cX0_many 41 = .ok (.if_icmp .ne 6, 3) := by decide +kernel
theorem dX0_many_44 : decode cX0_many 44 = .ok (.iinc 3 1, 3) := by decide +kernel
theorem dX0_many_47 : decode cX0_many 47 = .ok (.iinc 4 1, 3) := by decide +kernel
theorem dX0_many_50 : decode cX0_many 50 = .ok (.goto (-34), 3) := by decide +kernel
theorem dX0_many_53 : decode cX0_many 53 = .ok (.iload_n 3, 1) := by decide +kernel
theorem dX0_many_54 : decode cX0_many 54 = .ok (.ireturn, 1) := by decide +kernel
set_option maxRecDepth 20000 in
theorem ggX0_fewest_X0_squaresOf : GoodIn wsX0_fewest wsX0_squaresOf := goodIn_r _ [10, 11, 12, 13, 14, 9, 15, 16, 17, 18, 4, 19, 20, 21, 22, 23, 24, 25, 26, 27, 28, 29, 40, 41, 42, 43, 44, 45, 46, 47, 48, 49, 50, 51, 52, 53, 54] (by decide +kernel) (by decide +kernel)
set_option maxRecDepth 20000 in
theorem gX0_fewest_X0_squaresOf : GoodIn wsX0_fewest (wsV RX0 106 RX0 yX0_squaresOf wsX0_squaresOf) := goodIn_app (goodIn_of _ (by decide +kernel)) ggX0_fewest_X0_squaresOf
set_option maxRecDepth 20000 in
theorem ggX0_fewest_X0_colouringCount : GoodIn wsX0_fewest wsX0_colouringCount := goodIn_r _ [33, 34, 40, 41, 42, 43, 44, 45, 46, 47, 48, 49, 50, 51, 52, 53, 54] (by decide +kernel) (by decide +kernel)
set_option maxRecDepth 20000 in
theorem gX0_fewest_X0_colouringCount : GoodIn wsX0_fewest (wsV RX0 118 RX0 yX0_colouringCount wsX0_colouringCount) := goodIn_app (goodIn_of _ (by decide +kernel)) ggX0_fewest_X0_colouringCount
set_option maxRecDepth 20000 in
theorem ggX0_fewest_X0_keepsToHeld : GoodIn wsX0_fewest wsX0_keepsToHeld := goodIn_r _ [38, 39, 1, 40, 41, 42, 43, 44, 45, 46, 47, 48, 49, 50, 51, 52, 53, 54] (by decide +kernel) (by decide +kernel)
set_option maxRecDepth 20000 in
theorem gX0_fewest_X0_keepsToHeld : GoodIn wsX0_fewest (wsV RX0 121 RX0 yX0_keepsToHeld wsX0_keepsToHeld) := goodIn_app (goodIn_of _ (by decide +kernel)) ggX0_fewest_X0_keepsToHeld
theorem dX0_fewest_0 : decode cX0_fewest 0 = .ok (.aload_n 0, 1) := by decide +kernel
theorem dX0_fewest_1 : decode cX0_fewest 1 = .ok (.aload_n 0, 1) := by decide +kernel
theorem dX0_fewest_2 : decode cX0_fewest 2 = .ok (.getfield 23, 3) := by decide +kernel
theorem dX0_fewest_5 : decode cX0_fewest 5 = .ok (.invokevirtual 106, 3) := by decide +kernel
theorem dX0_fewest_8 : decode cX0_fewest 8 = .ok (.istore_n 1, 1) := by decide +kernel
theorem dX0_fewest_9 : decode cX0_fewest 9 = .ok (.aload_n 0, 1) := by decide +kernel
theorem dX0_fewest_10 : decode cX0_fewest 10 = .ok (.getfield 23, 3) := by decide +kernel
theorem dX0_fewest_13 : decode cX0_fewest 13 = .ok (.iconst 1, 1) := by decide +kernel
theorem dX0_fewest_14 : decode cX0_fewest 14 = .ok (.iadd, 1) := by decide +kernel
theorem dX0_fewest_15 : decode cX0_fewest 15 = .ok (.istore_n 2, 1) := by decide +kernel
theorem dX0_fewest_16 : decode cX0_fewest 16 = .ok (.iload_n 2, 1) := by decide +kernel
theorem dX0_fewest_17 : decode cX0_fewest 17 = .ok (.aload_n 0, 1) := by decide +kernel
theorem dX0_fewest_18 : decode cX0_fewest 18 = .ok (.invokevirtual 118, 3) := by decide +kernel
theorem dX0_fewest_21 : decode cX0_fewest 21 = .ok (.if_icmp .ge 27, 3) := by decide +kernel
theorem dX0_fewest_24 : decode cX0_fewest 24 = .ok (.aload_n 0, 1) := by decide +kernel
theorem dX0_fewest_25 : decode cX0_fewest 25 = .ok (.iload_n 2, 1) := by decide +kernel
theorem dX0_fewest_26 : decode cX0_fewest 26 = .ok (.invokevirtual 121, 3) := by decide +kernel
theorem dX0_fewest_29 : decode cX0_fewest 29 = .ok (.ifCond .eq 13, 3) := by decide +kernel
theorem dX0_fewest_32 : decode cX0_fewest 32 = .ok (.iload_n 1, 1) := by decide +kernel
theorem dX0_fewest_33 : decode cX0_fewest 33 = .ok (.aload_n 0, 1) := by decide +kernel
theorem dX0_fewest_34 : decode cX0_fewest 34 = .ok (.iload_n 2, 1) := by decide +kernel
theorem dX0_fewest_35 : decode cX0_fewest 35 = .ok (.invokevirtual 106, 3) := by decide +kernel
theorem dX0_fewest_38 : decode cX0_fewest 38 = .ok (.invokestatic 124, 3) := by decide +kernel
theorem dX0_fewest_41 : decode cX0_fewest 41 = .ok (.istore_n 1, 1) := by decide +kernel
theorem dX0_fewest_42 : decode cX0_fewest 42 = .ok (.iinc 2 1, 3) := by decide +kernel
theorem dX0_fewest_45 : decode cX0_fewest 45 = .ok (.goto (-29), 3) := by decide +kernel
theorem dX0_fewest_48 : decode cX0_fewest 48 = .ok (.iload_n 1, 1) := by decide +kernel
theorem dX0_fewest_49 : decode cX0_fewest 49 = .ok (.ireturn, 1) := by decide +kernel
theorem dX0_turns_0 : decode cX0_turns 0 = .ok (.iconst 0, 1) := by decide +kernel
theorem dX0_turns_1 : decode cX0_turns 1 = .ok (.istore_n 1, 1) := by decide +kernel
theorem dX0_turns_2 : decode cX0_turns 2 = .ok (.iconst 1, 1) := by decide +kernel
theorem dX0_turns_3 : decode cX0_turns 3 = .ok (.istore_n 2, 1) := by decide +kernel
theorem dX0_turns_4 : decode cX0_turns 4 = .ok (.iload_n 2, 1) := by decide +kernel
theorem dX0_turns_5 : decode cX0_turns 5 = .ok (.aload_n 0, 1) := by decide +kernel
theorem dX0_turns_6 : decode cX0_turns 6 = .ok (.getfield 7, 3) := by decide +kernel
theorem dX0_turns_9 : decode cX0_turns 9 = .ok (.if_icmp .ge 15, 3) := by decide +kernel
theorem dX0_turns_12 : decode cX0_turns 12 = .ok (.iload_n 1, 1) := by decide +kernel
theorem dX0_turns_13 : decode cX0_turns 13 = .ok (.iconst 1, 1) := by decide +kernel
theorem dX0_turns_14 : decode cX0_turns 14 = .ok (.iload_n 2, 1) := by decide +kernel
theorem dX0_turns_15 : decode cX0_turns 15 = .ok (.ishl, 1) := by decide +kernel
theorem dX0_turns_16 : decode cX0_turns 16 = .ok (.ior, 1) := by decide +kernel
theorem dX0_turns_17 : decode cX0_turns 17 = .ok (.istore_n 1, 1) := by decide +kernel
theorem dX0_turns_18 : decode cX0_turns 18 = .ok (.iinc 2 2, 3) := by decide +kernel
theorem dX0_turns_21 : decode cX0_turns 21 = .ok (.goto (-17), 3) := by decide +kernel
theorem dX0_turns_24 : decode cX0_turns 24 = .ok (.iload_n 1, 1) := by decide +kernel
theorem dX0_turns_25 : decode cX0_turns 25 = .ok (.ireturn, 1) := by decide +kernel
set_option maxRecDepth 20000 in
theorem ggX0_pairs_J7_fill_53178 : GoodIn wsX0_pairs wsJ7_fill_53178 := goodIn_r _ [6] (by decide +kernel) (by decide +kernel)
set_option maxRecDepth 20000 in
theorem gX0_pairs_J7_fill_53178 : GoodIn wsX0_pairs (va_wsS RX0 127 yJ7_fill_53178 wsJ7_fill_53178) := goodIn_app (goodIn_of _ (by decide +kernel)) ggX0_pairs_J7_fill_53178
set_option maxRecDepth 20000 in
theorem ggX0_pairs_X0_colourAlongPairs : GoodIn wsX0_pairs wsX0_colourAlongPairs := goodIn_r _ [11, 2, 1, 12, 13, 14, 10, 15, 16, 17, 18, 19, 20, 21, 22, 23, 24, 25, 26, 27, 28, 29, 30, 31, 32, 33, 34, 35, 36, 37, 38, 39, 40] (by decide +kernel) (by decide +kernel)
set_option maxRecDepth 20000 in
theorem gX0_pairs_X0_colourAlongPairs : GoodIn wsX0_pairs (wsV RX0 133 RX0 yX0_colourAlongPairs wsX0_colourAlongPairs) := goodIn_app (goodIn_of _ (by decide +kernel)) ggX0_pairs_X0_colourAlongPairs
theorem dX0_pairs_0 : decode cX0_pairs 0 = .ok (.aload_n 0, 1) := by decide +kernel
theorem dX0_pairs_1 : decode cX0_pairs 1 = .ok (.getfield 26, 3) := by decide +kernel
theorem dX0_pairs_4 : decode cX0_pairs 4 = .ok (.iconst (-1), 1) := by decide +kernel
theorem dX0_pairs_5 : decode cX0_pairs 5 = .ok (.invokestatic 127, 3) := by decide +kernel
theorem dX0_pairs_8 : decode cX0_pairs 8 = .ok (.iconst 0, 1) := by decide +kernel
theorem dX0_pairs_9 : decode cX0_pairs 9 = .ok (.istore_n 1, 1) := by decide +kernel
theorem dX0_pairs_10 : decode cX0_pairs 10 = .ok (.iconst 0, 1) := by decide +kernel
theorem dX0_pairs_11 : decode cX0_pairs 11 = .ok (.istore_n 2, 1) := by decide +kernel
theorem dX0_pairs_12 : decode cX0_pairs 12 = .ok (.iload_n 2, 1) := by decide +kernel
theorem dX0_pairs_13 : decode cX0_pairs 13 = .ok (.aload_n 0, 1) := by decide +kernel
theorem dX0_pairs_14 : decode cX0_pairs 14 = .ok (.getfield 7, 3) := by decide +kernel
theorem dX0_pairs_17 : decode cX0_pairs 17 = .ok (.if_icmp .ge 49, 3) := by decide +kernel
theorem dX0_pairs_20 : decode cX0_pairs 20 = .ok (.aload_n 0, 1) := by decide +kernel
theorem dX0_pairs_21 : decode cX0_pairs 21 = .ok (.getfield 26, 3) := by decide +kernel
theorem dX0_pairs_24 : decode cX0_pairs 24 = .ok (.iload_n 2, 1) := by decide +kernel
theorem dX0_pairs_25 : decode cX0_pairs 25 = .ok (.iaload, 1) := by decide +kernel
theorem dX0_pairs_26 : decode cX0_pairs 26 = .ok (.iconst (-1), 1) := by decide +kernel
theorem dX0_pairs_27 : decode cX0_pairs 27 = .ok (.if_icmp .ne 22, 3) := by decide +kernel
theorem dX0_pairs_30 : decode cX0_pairs 30 = .ok (.aload_n 0, 1) := by decide +kernel
theorem dX0_pairs_31 : decode cX0_pairs 31 = .ok (.getfield 26, 3) := by decide +kernel
theorem dX0_pairs_34 : decode cX0_pairs 34 = .ok (.iload_n 2, 1) := by decide +kernel
theorem dX0_pairs_35 : decode cX0_pairs 35 = .ok (.iconst 0, 1) := by decide +kernel
theorem dX0_pairs_36 : decode cX0_pairs 36 = .ok (.iastore, 1) := by decide +kernel
theorem dX0_pairs_37 : decode cX0_pairs 37 = .ok (.aload_n 0, 1) := by decide +kernel
theorem dX0_pairs_38 : decode cX0_pairs 38 = .ok (.iload_n 2, 1) := by decide +kernel
theorem dX0_pairs_39 : decode cX0_pairs 39 = .ok (.iconst 1, 1) := by decide +kernel
theorem dX0_pairs_40 : decode cX0_pairs 40 = .ok (.invokevirtual 133, 3) := by decide +kernel
theorem dX0_pairs_43 : decode cX0_pairs 43 = .ok (.aload_n 0, 1) := by decide +kernel
theorem dX0_pairs_44 : decode cX0_pairs 44 = .ok (.iload_n 2, 1) := by decide +kernel
theorem dX0_pairs_45 : decode cX0_pairs 45 = .ok (.iconst 0, 1) := by decide +kernel
theorem dX0_pairs_46 : decode cX0_pairs 46 = .ok (.invokevirtual 133, 3) := by decide +kernel
theorem dX0_pairs_49 : decode cX0_pairs 49 = .ok (.iload_n 1, 1) := by decide +kernel
theorem dX0_pairs_50 : decode cX0_pairs 50 = .ok (.aload_n 0, 1) := by decide +kernel
theorem dX0_pairs_51 : decode cX0_pairs 51 = .ok (.getfield 26, 3) := by decide +kernel
theorem dX0_pairs_54 : decode cX0_pairs 54 = .ok (.iload_n 2, 1) := by decide +kernel
theorem dX0_pairs_55 : decode cX0_pairs 55 = .ok (.iaload, 1) := by decide +kernel
theorem dX0_pairs_56 : decode cX0_pairs 56 = .ok (.iload_n 2, 1) := by decide +kernel
theorem dX0_pairs_57 : decode cX0_pairs 57 = .ok (.ishl, 1) := by decide +kernel
theorem dX0_pairs_58 : decode cX0_pairs 58 = .ok (.ior, 1) := by decide +kernel
theorem dX0_pairs_59 : decode cX0_pairs 59 = .ok (.istore_n 1, 1) := by decide +kernel
theorem dX0_pairs_60 : decode cX0_pairs 60 = .ok (.iinc 2 1, 3) := by decide +kernel
theorem dX0_pairs_63 : decode cX0_pairs 63 = .ok (.goto (-51), 3) := by decide +kernel
theorem dX0_pairs_66 : decode cX0_pairs 66 = .ok (.iload_n 1, 1) := by decide +kernel
theorem dX0_pairs_67 : decode cX0_pairs 67 = .ok (.ireturn, 1) := by decide +kernel
set_option maxRecDepth 20000 in
theorem ggX0_come_X0_colourOnComing : GoodIn wsX0_come wsX0_colourOnComing := goodIn_r _ [6, 7, 8, 9, 10, 11, 12, 5, 13, 14, 15, 16, 17, 18, 19, 20, 21, 22, 23, 24, 25, 26, 27, 28, 29, 30, 31, 32, 33, 34, 35, 36, 37, 38, 39, 40, 41, 42] (by decide +kernel) (by decide +kernel)
set_option maxRecDepth 20000 in
theorem gX0_come_X0_colourOnComing : GoodIn wsX0_come (wsV RX0 137 RX0 yX0_colourOnComing wsX0_colourOnComing) := goodIn_app (goodIn_of _ (by decide +kernel)) ggX0_come_X0_colourOnComing
theorem dX0_come_0 : decode cX0_come 0 = .ok (.iconst 0, 1) := by decide +kernel
theorem dX0_come_1 : decode cX0_come 1 = .ok (.istore_n 1, 1) := by decide +kernel
theorem dX0_come_2 : decode cX0_come 2 = .ok (.iconst 0, 1) := by decide +kernel
theorem dX0_come_3 : decode cX0_come 3 = .ok (.istore_n 2, 1) := by decide +kernel
theorem dX0_come_4 : decode cX0_come 4 = .ok (.iload_n 2, 1) := by decide +kernel
theorem dX0_come_5 : decode cX0_come 5 = .ok (.aload_n 0, 1) := by decide +kernel
theorem dX0_come_6 : decode cX0_come 6 = .ok (.getfield 7, 3) := by decide +kernel
theorem dX0_come_9 : decode cX0_come 9 = .ok (.if_icmp .ge 20, 3) := by decide +kernel
theorem dX0_come_12 : decode cX0_come 12 = .ok (.iload_n 1, 1) := by decide +kernel
theorem dX0_come_13 : decode cX0_come 13 = .ok (.aload_n 0, 1) := by decide +kernel
theorem dX0_come_14 : decode cX0_come 14 = .ok (.iload_n 2, 1) := by decide +kernel
theorem dX0_come_15 : decode cX0_come 15 = .ok (.iload_n 1, 1) := by decide +kernel
theorem dX0_come_16 : decode cX0_come 16 = .ok (.invokevirtual 137, 3) := by decide +kernel
theorem dX0_come_19 : decode cX0_come 19 = .ok (.iload_n 2, 1) := by decide +kernel
theorem dX0_come_20 : decode cX0_come 20 = .ok (.ishl, 1) := by decide +kernel
theorem dX0_come_21 : decode cX0_come 21 = .ok (.ior, 1) := by decide +kernel
theorem dX0_come_22 : decode cX0_come 22 = .ok (.istore_n 1, 1) := by decide +kernel
theorem dX0_come_23 : decode cX0_come 23 = .ok (.iinc 2 1, 3) := by decide +kernel
theorem dX0_come_26 : decode cX0_come 26 = .ok (.goto (-22), 3) := by decide +kernel
theorem dX0_come_29 : decode cX0_come 29 = .ok (.iload_n 1, 1) := by decide +kernel
theorem dX0_come_30 : decode cX0_come 30 = .ok (.ireturn, 1) := by decide +kernel
theorem dX0_colouringCount_0 : decode cX0_colouringCount 0 = .ok (.iconst 1, 1) := by decide +kernel
theorem dX0_colouringCount_1 : decode cX0_colouringCount 1 = .ok (.aload_n 0, 1) := by decide +kernel
theorem dX0_colouringCount_2 : decode cX0_colouringCount 2 = .ok (.getfield 7, 3) := by decide +kernel
theorem dX0_colouringCount_5 : decode cX0_colouringCount 5 = .ok (.ishl, 1) := by decide +kernel
theorem dX0_colouringCount_6 : decode cX0_colouringCount 6 = .ok (.ireturn, 1) := by decide +kernel
set_option maxRecDepth 20000 in
theorem ggX0_isColouring_X0_colouringCount : GoodIn wsX0_isColouring wsX0_colouringCount := goodIn_r _ [5, 6, 7, 8, 9, 10, 11, 12, 13, 14, 15, 16, 17, 18, 19, 20, 21] (by decide +kernel) (by decide +kernel)
set_option maxRecDepth 20000 in
theorem gX0_isColouring_X0_colouringCount : GoodIn wsX0_isColouring (wsV RX0 118 RX0 yX0_colouringCount wsX0_colouringCount) := goodIn_app (goodIn_of _ (by decide +kernel)) ggX0_isColouring_X0_colouringCount
theorem dX0_isColouring_0 : decode cX0_isColouring 0 = .ok (.iload_n 1, 1) := by decide +kernel
theorem dX0_isColouring_1 : decode cX0_isColouring 1 = .ok (.ifCond .lt 15, 3) := by decide +kernel
theorem dX0_isColouring_4 : decode cX0_isColouring 4 = .ok (.iload_n 1, 1) := by decide +kernel
theorem dX0_isColouring_5 : decode cX0_isColouring 5 = .ok (.aload_n 0, 1) := by decide +kernel
theorem dX0_isColouring_6 : decode cX0_isColouring 6 = .ok (.invokevirtual 118, 3) := by decide +kernel
theorem dX0_isColouring_9 : decode cX0_isColouring 9 = .ok (.if_icmp .ge 7, 3) := by decide +kernel
theorem dX0_isColouring_12 : decode cX0_isColouring 12 = .ok (.iconst 1, 1) := by decide +kernel
theorem dX0_isColouring_13 : decode cX0_isColouring 13 = .ok (.goto 4, 3) := by decide +kernel
theorem dX0_isColouring_16 : decode cX0_isColouring 16 = .ok (.iconst 0, 1) := by decide +kernel
theorem dX0_isColouring_17 : decode cX0_isColouring 17 = .ok (.ireturn, 1) := by decide +kernel
theorem dX0_keepsToHeld_0 : decode cX0_keepsToHeld 0 = .ok (.iload_n 1, 1) := by decide +kernel
theorem dX0_keepsToHeld_1 : decode cX0_keepsToHeld 1 = .ok (.aload_n 0, 1) := by decide +kernel
theorem dX0_keepsToHeld_2 : decode cX0_keepsToHeld 2 = .ok (.getfield 20, 3) := by decide +kernel
theorem dX0_keepsToHeld_5 : decode cX0_keepsToHeld 5 = .ok (.iand, 1) := by decide +kernel
theorem dX0_keepsToHeld_6 : decode cX0_keepsToHeld 6 = .ok (.aload_n 0, 1) := by decide +kernel
theorem dX0_keepsToHeld_7 : decode cX0_keepsToHeld 7 = .ok (.getfield 23, 3) := by decide +kernel
theorem dX0_keepsToHeld_10 : decode cX0_keepsToHeld 10 = .ok (.if_icmp .ne 7, 3) := by decide +kernel
theorem dX0_keepsToHeld_13 : decode cX0_keepsToHeld 13 = .ok (.iconst 1, 1) := by decide +kernel
theorem dX0_keepsToHeld_14 : decode cX0_keepsToHeld 14 = .ok (.goto 4, 3) := by decide +kernel
theorem dX0_keepsToHeld_17 : decode cX0_keepsToHeld 17 = .ok (.iconst 0, 1) := by decide +kernel
theorem dX0_keepsToHeld_18 : decode cX0_keepsToHeld 18 = .ok (.ireturn, 1) := by decide +kernel
set_option maxRecDepth 20000 in
theorem ggX0_leaning_J6_bitCount_0f7a4 : GoodIn wsX0_leaning wsJ6_bitCount_0f7a4 := goodIn_r _ [4, 5, 6, 7] (by decide +kernel) (by decide +kernel)
set_option maxRecDepth 20000 in
theorem gX0_leaning_J6_bitCount_0f7a4 : GoodIn wsX0_leaning (va_wsS RX0 140 yJ6_bitCount_0f7a4 wsJ6_bitCount_0f7a4) := goodIn_app (goodIn_of _ (by decide +kernel)) ggX0_leaning_J6_bitCount_0f7a4
theorem dX0_leaning_0 : decode cX0_leaning 0 = .ok (.iconst 2, 1) := by decide +kernel
theorem dX0_leaning_1 : decode cX0_leaning 1 = .ok (.iload_n 0, 1) := by decide +kernel
theorem dX0_leaning_2 : decode cX0_leaning 2 = .ok (.iload_n 1, 1) := by decide +kernel
theorem dX0_leaning_3 : decode cX0_leaning 3 = .ok (.iand, 1) := by decide +kernel
theorem dX0_leaning_4 : decode cX0_leaning 4 = .ok (.invokestatic 140, 3) := by decide +kernel
theorem dX0_leaning_7 : decode cX0_leaning 7 = .ok (.imul, 1) := by decide +kernel
theorem dX0_leaning_8 : decode cX0_leaning 8 = .ok (.iload_n 0, 1) := by decide +kernel
theorem dX0_leaning_9 : decode cX0_leaning 9 = .ok (.invokestatic 140, 3) := by decide +kernel
theorem dX0_leaning_12 : decode cX0_leaning 12 = .ok (.isub, 1) := by decide +kernel
theorem dX0_leaning_13 : decode cX0_leaning 13 = .ok (.ireturn, 1) := by decide +kernel
set_option maxRecDepth 20000 in
theorem ggX0_offOf_X0_leaning : GoodIn wsX0_offOf wsX0_leaning := goodIn_r _ [9, 10, 11, 12, 13, 14, 15, 16] (by decide +kernel) (by decide +kernel)
set_option maxRecDepth 20000 in
theorem gX0_offOf_X0_leaning : GoodIn wsX0_offOf (va_wsS RX0 145 yX0_leaning wsX0_leaning) := goodIn_app (goodIn_of _ (by decide +kernel)) ggX0_offOf_X0_leaning
theorem dX0_offOf_0 : decode cX0_offOf 0 = .ok (.aload_n 0, 1) := by decide +kernel
theorem dX0_offOf_1 : decode cX0_offOf 1 = .ok (.getfield 41, 3) := by decide +kernel
theorem dX0_offOf_4 : decode cX0_offOf 4 = .ok (.iload_n 2, 1) := by decide +kernel
theorem dX0_offOf_5 : decode cX0_offOf 5 = .ok (.iaload, 1) := by decide +kernel
theorem dX0_offOf_6 : decode cX0_offOf 6 = .ok (.iload_n 1, 1) := by decide +kernel
theorem dX0_offOf_7 : decode cX0_offOf 7 = .ok (.invokestatic 145, 3) := by decide +kernel
theorem dX0_offOf_10 : decode cX0_offOf 10 = .ok (.invokestatic 148, 3) := by decide +kernel
theorem dX0_offOf_13 : decode cX0_offOf 13 = .ok (.ireturn, 1) := by decide +kernel
set_option maxRecDepth 20000 in
theorem ggX0_worstOf_X0_offOf : GoodIn wsX0_worstOf wsX0_offOf := goodIn_r _ [10, 11, 12, 13, 4, 14, 15, 16, 9, 17, 18, 19, 20, 21, 22, 23, 24, 25, 26, 27, 28, 29, 30, 31, 32, 33, 34, 35, 36, 37, 38, 39] (by decide +kernel) (by decide +kernel)
set_option maxRecDepth 20000 in
theorem gX0_worstOf_X0_offOf : GoodIn wsX0_worstOf (wsV RX0 100 RX0 yX0_offOf wsX0_offOf) := goodIn_app (goodIn_of _ (by decide +kernel)) ggX0_worstOf_X0_offOf
theorem dX0_worstOf_0 : decode cX0_worstOf 0 = .ok (.iconst 0, 1) := by decide +kernel
theorem dX0_worstOf_1 : decode cX0_worstOf 1 = .ok (.istore_n 2, 1) := by decide +kernel
theorem dX0_worstOf_2 : decode cX0_worstOf 2 = .ok (.iconst 0, 1) := by decide +kernel
theorem dX0_worstOf_3 : decode cX0_worstOf 3 = .ok (.istore_n 3, 1) := by decide +kernel
theorem dX0_worstOf_4 : decode cX0_worstOf 4 = .ok (.iload_n 3, 1) := by decide +kernel
theorem dX0_worstOf_5 : decode cX0_worstOf 5 = .ok (.aload_n 0, 1) := by decide +kernel
theorem dX0_worstOf_6 : decode cX0_worstOf 6 = .ok (.getfield 29, 3) := by decide +kernel
theorem dX0_worstOf_9 : decode cX0_worstOf 9 = .ok (.if_icmp .ge 20, 3) := by decide +kernel
theorem dX0_worstOf_12 : decode cX0_worstOf 12 = .ok (.iload_n 2, 1) := by decide +kernel
theorem dX0_worstOf_13 : decode cX0_worstOf 13 = .ok (.aload_n 0, 1) := by decide +kernel
theorem dX0_worstOf_14 : decode cX0_worstOf 14 = .ok (.iload_n 1, 1) := by decide +kernel
theorem dX0_worstOf_15 : decode cX0_worstOf 15 = .ok (.iload_n 3, 1) := by decide +kernel
theorem dX0_worstOf_16 : decode cX0_worstOf 16 = .ok (.invokevirtual 100, 3) := by decide +kernel
theorem dX0_worstOf_19 : decode cX0_worstOf 19 = .ok (.invokestatic 109, 3) := by decide +kernel
theorem dX0_worstOf_22 : decode cX0_worstOf 22 = .ok (.istore_n 2, 1) := by decide +kernel
theorem dX0_worstOf_23 : decode cX0_worstOf 23 = .ok (.iinc 3 1, 3) := by decide +kernel
theorem dX0_worstOf_26 : decode cX0_worstOf 26 = .ok (.goto (-22), 3) := by decide +kernel
theorem dX0_worstOf_29 : decode cX0_worstOf 29 = .ok (.iload_n 2, 1) := by decide +kernel
theorem dX0_worstOf_30 : decode cX0_worstOf 30 = .ok (.ireturn, 1) := by decide +kernel
set_option maxRecDepth 20000 in
theorem ggX0_squaresOf_X0_offOf : GoodIn wsX0_squaresOf wsX0_offOf := goodIn_r _ [6, 7, 8, 9, 10, 11, 12, 13, 5, 14, 15, 16, 17, 18, 19, 20, 21, 22, 23, 24, 25, 26, 27, 28, 29, 30, 31, 32, 33, 34, 35, 36] (by decide +kernel) (by decide +kernel)
set_option maxRecDepth 20000 in
theorem gX0_squaresOf_X0_offOf : GoodIn wsX0_squaresOf (wsV RX0 100 RX0 yX0_offOf wsX0_offOf) := goodIn_app (goodIn_of _ (by decide +kernel)) ggX0_squaresOf_X0_offOf
theorem dX0_squaresOf_0 : decode cX0_squaresOf 0 = .ok (.iconst 0, 1) := by decide +kernel
theorem dX0_squaresOf_1 : decode cX0_squaresOf 1 = .ok (.istore_n 2, 1) := by decide +kernel
theorem dX0_squaresOf_2 : decode cX0_squaresOf 2 = .ok (.iconst 0, 1) := by decide +kernel
theorem dX0_squaresOf_3 : decode cX0_squaresOf 3 = .ok (.istore_n 3, 1) := by decide +kernel
theorem dX0_squaresOf_4 : decode cX0_squaresOf 4 = .ok (.iload_n 3, 1) := by decide +kernel
theorem dX0_squaresOf_5 : decode cX0_squaresOf 5 = .ok (.aload_n 0, 1) := by decide +kernel
theorem dX0_squaresOf_6 : decode cX0_squaresOf 6 = .ok (.getfield 29, 3) := by decide +kernel
theorem dX0_squaresOf_9 : decode cX0_squaresOf 9 = .ok (.if_icmp .ge 25, 3) := by decide +kernel
theorem dX0_squaresOf_12 : decode cX0_squaresOf 12 = .ok (.aload_n 0, 1) := by decide +kernel
theorem dX0_squaresOf_13 : decode cX0_squaresOf 13 = .ok (.iload_n 1, 1) := by decide +kernel
theorem dX0_squaresOf_14 : decode cX0_squaresOf 14 = .ok (.iload_n 3, 1) := by decide +kernel
theorem dX0_squaresOf_15 : decode cX0_squaresOf 15 = .ok (.invokevirtual 100, 3) := by decide +kernel
theorem dX0_squaresOf_18 : decode cX0_squaresOf 18 = .ok (.istore 4, 2) := by decide +kernel
theorem dX0_squaresOf_20 : decode cX0_squaresOf 20 = .ok (.iload_n 2, 1) := by decide +kernel
theorem dX0_squaresOf_21 : decode cX0_squaresOf 21 = .ok (.iload 4, 2) := by decide +kernel
theorem dX0_squaresOf_23 : decode cX0_squaresOf 23 = .ok (.iload 4, 2) := by decide +kernel
theorem dX0_squaresOf_25 : decode cX0_squaresOf 25 = .ok (.imul, 1) := by decide +kernel
theorem dX0_squaresOf_26 : decode cX0_squaresOf 26 = .ok (.iadd, 1) := by decide +kernel
theorem dX0_squaresOf_27 : decode cX0_squaresOf 27 = .ok (.istore_n 2, 1) := by decide +kernel
theorem dX0_squaresOf_28 : decode cX0_squaresOf 28 = .ok (.iinc 3 1, 3) := by decide +kernel
theorem dX0_squaresOf_31 : decode cX0_squaresOf 31 = .ok (.goto (-27), 3) := by decide +kernel
theorem dX0_squaresOf_34 : decode cX0_squaresOf 34 = .ok (.iload_n 2, 1) := by decide +kernel
theorem dX0_squaresOf_35 : decode cX0_squaresOf 35 = .ok (.ireturn, 1) := by decide +kernel
set_option maxRecDepth 20000 in
theorem ggX0_firstLeast_X0_worstOf : GoodIn wsX0_firstLeast wsX0_worstOf := goodIn_r _ [6, 7, 8, 9, 10, 11, 12, 13, 14, 5, 15, 16, 17, 18, 19, 20, 21, 22, 23, 24, 25, 26, 27, 28, 29, 40, 41, 42, 43, 44, 45, 46, 47, 48, 49, 50, 51, 52, 53, 54] (by decide +kernel) (by decide +kernel)
set_option maxRecDepth 20000 in
theorem gX0_firstLeast_X0_worstOf : GoodIn wsX0_firstLeast (wsV RX0 103 RX0 yX0_worstOf wsX0_worstOf) := goodIn_app (goodIn_of _ (by decide +kernel)) ggX0_firstLeast_X0_worstOf
set_option maxRecDepth 20000 in
theorem ggX0_firstLeast_X0_colouringCount : GoodIn wsX0_firstLeast wsX0_colouringCount := goodIn_r _ [33, 34, 40, 41, 42, 43, 44, 45, 46, 47, 48, 49, 50, 51, 52, 53, 54] (by decide +kernel) (by decide +kernel)
set_option maxRecDepth 20000 in
theorem gX0_firstLeast_X0_colouringCount : GoodIn wsX0_firstLeast (wsV RX0 118 RX0 yX0_colouringCount wsX0_colouringCount) := goodIn_app (goodIn_of _ (by decide +kernel)) ggX0_firstLeast_X0_colouringCount
set_option maxRecDepth 20000 in
theorem ggX0_firstLeast_X0_keepsToHeld : GoodIn wsX0_firstLeast wsX0_keepsToHeld := goodIn_r _ [38, 39, 1, 40, 41, 42, 43, 44, 45, 46, 47, 48, 49, 50, 51, 52, 53, 54] (by decide +kernel) (by decide +kernel)
set_option maxRecDepth 20000 in
theorem gX0_firstLeast_X0_keepsToHeld : GoodIn wsX0_firstLeast (wsV RX0 121 RX0 yX0_keepsToHeld wsX0_keepsToHeld) := goodIn_app (goodIn_of _ (by decide +kernel)) ggX0_firstLeast_X0_keepsToHeld
theorem dX0_firstLeast_0 : decode cX0_firstLeast 0 = .ok (.aload_n 0, 1) := by decide +kernel
theorem dX0_firstLeast_1 : decode cX0_firstLeast 1 = .ok (.getfield 23, 3) := by decide +kernel
theorem dX0_firstLeast_4 : decode cX0_firstLeast 4 = .ok (.istore_n 1, 1) := by decide +kernel
theorem dX0_firstLeast_5 : decode cX0_firstLeast 5 = .ok (.aload_n 0, 1) := by decide +kernel
theorem dX0_firstLeast_6 : decode cX0_firstLeast 6 = .ok (.iload_n 1, 1) := by decide +kernel
theorem dX0_firstLeast_7 : decode cX0_firstLeast 7 = .ok (.invokevirtual 103, 3) := by decide +kernel
theorem dX0_firstLeast_10 : decode cX0_firstLeast 10 = .ok (.istore_n 2, 1) := by decide +kernel
theorem dX0_firstLeast_11 : decode cX0_firstLeast 11 = .ok (.iload_n 1, 1) := by decide +kernel
theorem dX0_firstLeast_12 : decode cX0_firstLeast 12 = .ok (.iconst 1, 1) := by decide +kernel
theorem dX0_firstLeast_13 : decode cX0_firstLeast 13 = .ok (.iadd, 1) := by decide +kernel
theorem dX0_firstLeast_14 : decode cX0_firstLeast 14 = .ok (.istore_n 3, 1) := by decide +kernel
theorem dX0_firstLeast_15 : decode cX0_firstLeast 15 = .ok (.iload_n 3, 1) := by decide +kernel
theorem dX0_firstLeast_16 : decode cX0_firstLeast 16 = .ok (.aload_n 0, 1) := by decide +kernel
theorem dX0_firstLeast_17 : decode cX0_firstLeast 17 = .ok (.invokevirtual 118, 3) := by decide +kernel
theorem dX0_firstLeast_20 : decode cX0_firstLeast 20 = .ok (.if_icmp .ge 35, 3) := by decide +kernel
theorem dX0_firstLeast_23 : decode cX0_firstLeast 23 = .ok (.aload_n 0, 1) := by decide +kernel
theorem dX0_firstLeast_24 : decode cX0_firstLeast 24 = .ok (.iload_n 3, 1) := by decide +kernel
theorem dX0_firstLeast_25 : decode cX0_firstLeast 25 = .ok (.invokevirtual 121, 3) := by decide +kernel
theorem dX0_firstLeast_28 : decode cX0_firstLeast 28 = .ok (.ifCond .eq 21, 3) := by decide +kernel
theorem dX0_firstLeast_31 : decode cX0_firstLeast 31 = .ok (.aload_n 0, 1) := by decide +kernel
theorem dX0_firstLeast_32 : decode cX0_firstLeast 32 = .ok (.iload_n 3, 1) := by decide +kernel
theorem dX0_firstLeast_33 : decode cX0_firstLeast 33 = .ok (.invokevirtual 103, 3) := by decide +kernel
theorem dX0_firstLeast_36 : decode cX0_firstLeast 36 = .ok (.istore 4, 2) := by decide +kernel
theorem dX0_firstLeast_38 : decode cX0_firstLeast 38 = .ok (.iload 4, 2) := by decide +kernel
theorem dX0_firstLeast_40 : decode cX0_firstLeast 40 = .ok (.iload_n 2, 1) := by decide +kernel
theorem dX0_firstLeast_41 : decode cX0_firstLeast 41 = .ok (.if_icmp .ge 8, 3) := by decide +kernel
theorem dX0_firstLeast_44 : decode cX0_firstLeast 44 = .ok (.iload 4, 2) := by decide +kernel
theorem dX0_firstLeast_46 : decode cX0_firstLeast 46 = .ok (.istore_n 2, 1) := by decide +kernel
theorem dX0_firstLeast_47 : decode cX0_firstLeast 47 = .ok (.iload_n 3, 1) := by decide +kernel
theorem dX0_firstLeast_48 : decode cX0_firstLeast 48 = .ok (.istore_n 1, 1) := by decide +kernel
theorem dX0_firstLeast_49 : decode cX0_firstLeast 49 = .ok (.iinc 3 1, 3) := by decide +kernel
theorem dX0_firstLeast_52 : decode cX0_firstLeast 52 = .ok (.goto (-37), 3) := by decide +kernel
theorem dX0_firstLeast_55 : decode cX0_firstLeast 55 = .ok (.iload_n 1, 1) := by decide +kernel
theorem dX0_firstLeast_56 : decode cX0_firstLeast 56 = .ok (.ireturn, 1) := by decide +kernel
set_option maxRecDepth 20000 in
theorem ggX0_colourAlongPairs_X0_partnerInFirstOrder : GoodIn wsX0_colourAlongPairs wsX0_partnerInFirstOrder := goodIn_r _ [7, 8, 9, 10, 6, 11, 1, 18, 19, 20, 21, 22, 23, 24, 25, 26, 27, 28, 29, 30, 31, 32] (by decide +kernel) (by decide +kernel)
set_option maxRecDepth 20000 in
theorem gX0_colourAlongPairs_X0_partnerInFirstOrder : GoodIn wsX0_colourAlongPairs (wsV RX0 151 RX0 yX0_partnerInFirstOrder wsX0_partnerInFirstOrder) := goodIn_app (goodIn_of _ (by decide +kernel)) ggX0_colourAlongPairs_X0_partnerInFirstOrder
set_option maxRecDepth 20000 in
theorem ggX0_colourAlongPairs_X0_partnerInSecondOrder : GoodIn wsX0_colourAlongPairs wsX0_partnerInSecondOrder := goodIn_r _ [15, 16, 17, 8, 9, 10, 6, 11, 1, 18, 19, 20, 21, 22, 23, 24, 25, 26, 27, 28, 29, 30, 31, 32] (by decide +kernel) (by decide +kernel)
set_option maxRecDepth 20000 in
theorem gX0_colourAlongPairs_X0_partnerInSecondOrder : GoodIn wsX0_colourAlongPairs (wsV RX0 154 RX0 yX0_partnerInSecondOrder wsX0_partnerInSecondOrder) := goodIn_app (goodIn_of _ (by decide +kernel)) ggX0_colourAlongPairs_X0_partnerInSecondOrder
theorem dX0_colourAlongPairs_0 : decode cX0_colourAlongPairs 0 = .ok (.iload_n 1, 1) := by decide +kernel
theorem dX0_colourAlongPairs_1 : decode cX0_colourAlongPairs 1 = .ok (.istore_n 3, 1) := by decide +kernel
theorem dX0_colourAlongPairs_2 : decode cX0_colourAlongPairs 2 = .ok (.iload_n 2, 1) := by decide +kernel
theorem dX0_colourAlongPairs_3 : decode cX0_colourAlongPairs 3 = .ok (.istore 4, 2) := by decide +kernel
theorem dX0_colourAlongPairs_5 : decode cX0_colourAlongPairs 5 = .ok (.iconst 0, 1) := by decide +kernel
theorem dX0_colourAlongPairs_6 : decode cX0_colourAlongPairs 6 = .ok (.istore 5, 2) := by decide +kernel
theorem dX0_colourAlongPairs_8 : decode cX0_colourAlongPairs 8 = .ok (.iload 5, 2) := by decide +kernel
theorem dX0_colourAlongPairs_10 : decode cX0_colourAlongPairs 10 = .ok (.aload_n 0, 1) := by decide +kernel
theorem dX0_colourAlongPairs_11 : decode cX0_colourAlongPairs 11 = .ok (.getfield 7, 3) := by decide +kernel
theorem dX0_colourAlongPairs_14 : decode cX0_colourAlongPairs 14 = .ok (.if_icmp .ge 78, 3) := by decide +kernel
theorem dX0_colourAlongPairs_17 : decode cX0_colourAlongPairs 17 = .ok (.iload 4, 2) := by decide +kernel
theorem dX0_colourAlongPairs_19 : decode cX0_colourAlongPairs 19 = .ok (.ifCond .eq 11, 3) := by decide +kernel
theorem dX0_colourAlongPairs_22 : decode cX0_colourAlongPairs 22 = .ok (.aload_n 0, 1) := by decide +kernel
theorem dX0_colourAlongPairs_23 : decode cX0_colourAlongPairs 23 = .ok (.iload_n 3, 1) := by decide +kernel
theorem dX0_colourAlongPairs_24 : decode cX0_colourAlongPairs 24 = .ok (.invokevirtual 151, 3) := by decide +kernel
theorem dX0_colourAlongPairs_27 : decode cX0_colourAlongPairs 27 = .ok (.goto 8, 3) := by decide +kernel
theorem dX0_colourAlongPairs_30 : decode cX0_colourAlongPairs 30 = .ok (.aload_n 0, 1) := by decide +kernel
theorem dX0_colourAlongPairs_31 : decode cX0_colourAlongPairs 31 = .ok (.iload_n 3, 1) := by decide +kernel
theorem dX0_colourAlongPairs_32 : decode cX0_colourAlongPairs 32 = .ok (.invokevirtual 154, 3) := by decide +kernel
theorem dX0_colourAlongPairs_35 : decode cX0_colourAlongPairs 35 = .ok (.istore 6, 2) := by decide +kernel
theorem dX0_colourAlongPairs_37 : decode cX0_colourAlongPairs 37 = .ok (.iload 6, 2) := by decide +kernel
theorem dX0_colourAlongPairs_39 : decode cX0_colourAlongPairs 39 = .ok (.bipush (-9), 2) := by decide +kernel
theorem dX0_colourAlongPairs_41 : decode cX0_colourAlongPairs 41 = .ok (.if_icmp .eq 14, 3) := by decide +kernel
theorem dX0_colourAlongPairs_44 : decode cX0_colourAlongPairs 44 = .ok (.aload_n 0, 1) := by decide +kernel
theorem dX0_colourAlongPairs_45 : decode cX0_colourAlongPairs 45 = .ok (.getfield 26, 3) := by decide +kernel
theorem dX0_colourAlongPairs_48 : decode cX0_colourAlongPairs 48 = .ok (.iload 6, 2) := by decide +kernel
theorem dX0_colourAlongPairs_50 : decode cX0_colourAlongPairs 50 = .ok (.iaload, 1) := by decide +kernel
theorem dX0_colourAlongPairs_51 : decode cX0_colourAlongPairs 51 = .ok (.iconst (-1), 1) := by decide +kernel
theorem dX0_colourAlongPairs_52 : decode cX0_colourAlongPairs 52 = .ok (.if_icmp .eq 4, 3) := by decide +kernel
theorem dX0_colourAlongPairs_55 : decode cX0_colourAlongPairs 55 = .ok (.return_, 1) := by decide +kernel
theorem dX0_colourAlongPairs_56 : decode cX0_colourAlongPairs 56 = .ok (.aload_n 0, 1) := by decide +kernel
theorem dX0_colourAlongPairs_57 : decode cX0_colourAlongPairs 57 = .ok (.getfield 26, 3) := by decide +kernel
theorem dX0_colourAlongPairs_60 : decode cX0_colourAlongPairs 60 = .ok (.iload 6, 2) := by decide +kernel
theorem dX0_colourAlongPairs_62 : decode cX0_colourAlongPairs 62 = .ok (.iconst 1, 1) := by decide +kernel
theorem dX0_colourAlongPairs_63 : decode cX0_colourAlongPairs 63 = .ok (.aload_n 0, 1) := by decide +kernel
theorem dX0_colourAlongPairs_64 : decode cX0_colourAlongPairs 64 = .ok (.getfield 26, 3) := by decide +kernel
theorem dX0_colourAlongPairs_67 : decode cX0_colourAlongPairs 67 = .ok (.iload_n 3, 1) := by decide +kernel
theorem dX0_colourAlongPairs_68 : decode cX0_colourAlongPairs 68 = .ok (.iaload, 1) := by decide +kernel
theorem dX0_colourAlongPairs_69 : decode cX0_colourAlongPairs 69 = .ok (.isub, 1) := by decide +kernel
theorem dX0_colourAlongPairs_70 : decode cX0_colourAlongPairs 70 = .ok (.iastore, 1) := by decide +kernel
theorem dX0_colourAlongPairs_71 : decode cX0_colourAlongPairs 71 = .ok (.iload 6, 2) := by decide +kernel
theorem dX0_colourAlongPairs_73 : decode cX0_colourAlongPairs 73 = .ok (.istore_n 3, 1) := by decide +kernel
theorem dX0_colourAlongPairs_74 : decode cX0_colourAlongPairs 74 = .ok (.iload 4, 2) := by decide +kernel
theorem dX0_colourAlongPairs_76 : decode cX0_colourAlongPairs 76 = .ok (.ifCond .ne 7, 3) := by decide +kernel
theorem dX0_colourAlongPairs_79 : decode cX0_colourAlongPairs 79 = .ok (.iconst 1, 1) := by decide +kernel
theorem dX0_colourAlongPairs_80 : decode cX0_colourAlongPairs 80 = .ok (.goto 4, 3) := by decide +kernel
theorem dX0_colourAlongPairs_83 : decode cX0_colourAlongPairs 83 = .ok (.iconst 0, 1) := by decide +kernel
theorem dX0_colourAlongPairs_84 : decode cX0_colourAlongPairs 84 = .ok (.istore 4, 2) := by decide +kernel
theorem dX0_colourAlongPairs_86 : decode cX0_colourAlongPairs 86 = .ok (.iinc 5 1, 3) := by decide +kernel
theorem dX0_colourAlongPairs_89 : decode cX0_colourAlongPairs 89 = .ok (.goto (-81), 3) := by decide +kernel
theorem dX0_colourAlongPairs_92 : decode cX0_colourAlongPairs 92 = .ok (.return_, 1) := by decide +kernel
set_option maxRecDepth 20000 in
theorem ggX0_partnerInFirstOrder_X0_isThing : GoodIn wsX0_partnerInFirstOrder wsX0_isThing := goodIn_r _ [5, 6, 7, 8, 9, 10, 11, 12, 13, 14, 15, 16, 17, 18, 19, 20, 21] (by decide +kernel) (by decide +kernel)
set_option maxRecDepth 20000 in
theorem gX0_partnerInFirstOrder_X0_isThing : GoodIn wsX0_partnerInFirstOrder (wsV RX0 60 RX0 yX0_isThing wsX0_isThing) := goodIn_app (goodIn_of _ (by decide +kernel)) ggX0_partnerInFirstOrder_X0_isThing
theorem dX0_partnerInFirstOrder_0 : decode cX0_partnerInFirstOrder 0 = .ok (.iload_n 1, 1) := by decide +kernel
theorem dX0_partnerInFirstOrder_1 : decode cX0_partnerInFirstOrder 1 = .ok (.iconst 1, 1) := by decide +kernel
theorem dX0_partnerInFirstOrder_2 : decode cX0_partnerInFirstOrder 2 = .ok (.ixor, 1) := by decide +kernel
theorem dX0_partnerInFirstOrder_3 : decode cX0_partnerInFirstOrder 3 = .ok (.istore_n 2, 1) := by decide +kernel
theorem dX0_partnerInFirstOrder_4 : decode cX0_partnerInFirstOrder 4 = .ok (.aload_n 0, 1) := by decide +kernel
theorem dX0_partnerInFirstOrder_5 : decode cX0_partnerInFirstOrder 5 = .ok (.iload_n 2, 1) := by decide +kernel
theorem dX0_partnerInFirstOrder_6 : decode cX0_partnerInFirstOrder 6 = .ok (.invokevirtual 60, 3) := by decide +kernel
theorem dX0_partnerInFirstOrder_9 : decode cX0_partnerInFirstOrder 9 = .ok (.ifCond .eq 7, 3) := by decide +kernel
theorem dX0_partnerInFirstOrder_12 : decode cX0_partnerInFirstOrder 12 = .ok (.iload_n 2, 1) := by decide +kernel
theorem dX0_partnerInFirstOrder_13 : decode cX0_partnerInFirstOrder 13 = .ok (.goto 5, 3) := by decide +kernel
theorem dX0_partnerInFirstOrder_16 : decode cX0_partnerInFirstOrder 16 = .ok (.bipush (-9), 2) := by decide +kernel
theorem dX0_partnerInFirstOrder_18 : decode cX0_partnerInFirstOrder 18 = .ok (.ireturn, 1) := by decide +kernel
set_option maxRecDepth 20000 in
theorem ggX0_partnerInSecondOrder_X0_isThing : GoodIn wsX0_partnerInSecondOrder wsX0_isThing := goodIn_r _ [7, 8, 9, 10, 11, 12, 13, 14, 15, 16, 17, 18, 19, 20, 21, 22, 23] (by decide +kernel) (by decide +kernel)
set_option maxRecDepth 20000 in
theorem gX0_partnerInSecondOrder_X0_isThing : GoodIn wsX0_partnerInSecondOrder (wsV RX0 60 RX0 yX0_isThing wsX0_isThing) := goodIn_app (goodIn_of _ (by decide +kernel)) ggX0_partnerInSecondOrder_X0_isThing
theorem dX0_partnerInSecondOrder_0 : decode cX0_partnerInSecondOrder 0 = .ok (.aload_n 0, 1) := by decide +kernel
theorem dX0_partnerInSecondOrder_1 : decode cX0_partnerInSecondOrder 1 = .ok (.getfield 17, 3) := by decide +kernel
theorem dX0_partnerInSecondOrder_4 : decode cX0_partnerInSecondOrder 4 = .ok (.iload_n 1, 1) := by decide +kernel
theorem dX0_partnerInSecondOrder_5 : decode cX0_partnerInSecondOrder 5 = .ok (.iaload, 1) := by decide +kernel
theorem dX0_partnerInSecondOrder_6 : decode cX0_partnerInSecondOrder 6 = .ok (.iconst 1, 1) := by decide +kernel
theorem dX0_partnerInSecondOrder_7 : decode cX0_partnerInSecondOrder 7 = .ok (.ixor, 1) := by decide +kernel
theorem dX0_partnerInSecondOrder_8 : decode cX0_partnerInSecondOrder 8 = .ok (.istore_n 2, 1) := by decide +kernel
theorem dX0_partnerInSecondOrder_9 : decode cX0_partnerInSecondOrder 9 = .ok (.aload_n 0, 1) := by decide +kernel
theorem dX0_partnerInSecondOrder_10 : decode cX0_partnerInSecondOrder 10 = .ok (.iload_n 2, 1) := by decide +kernel
theorem dX0_partnerInSecondOrder_11 : decode cX0_partnerInSecondOrder 11 = .ok (.invokevirtual 60, 3) := by decide +kernel
theorem dX0_partnerInSecondOrder_14 : decode cX0_partnerInSecondOrder 14 = .ok (.ifCond .eq 12, 3) := by decide +kernel
theorem dX0_partnerInSecondOrder_17 : decode cX0_partnerInSecondOrder 17 = .ok (.aload_n 0, 1) := by decide +kernel
theorem dX0_partnerInSecondOrder_18 : decode cX0_partnerInSecondOrder 18 = .ok (.getfield 13, 3) := by decide +kernel
theorem dX0_partnerInSecondOrder_21 : decode cX0_partnerInSecondOrder 21 = .ok (.iload_n 2, 1) := by decide +kernel
theorem dX0_partnerInSecondOrder_22 : decode cX0_partnerInSecondOrder 22 = .ok (.iaload, 1) := by decide +kernel
theorem dX0_partnerInSecondOrder_23 : decode cX0_partnerInSecondOrder 23 = .ok (.goto 5, 3) := by decide +kernel
theorem dX0_partnerInSecondOrder_26 : decode cX0_partnerInSecondOrder 26 = .ok (.bipush (-9), 2) := by decide +kernel
theorem dX0_partnerInSecondOrder_28 : decode cX0_partnerInSecondOrder 28 = .ok (.ireturn, 1) := by decide +kernel
set_option maxRecDepth 20000 in
theorem ggX0_colourOnComing_X0_isHeld : GoodIn wsX0_colourOnComing wsX0_isHeld := goodIn_r _ [8, 9, 10, 11, 7, 12, 23, 24, 25, 26, 27, 28, 29, 30, 31, 32, 33, 34, 35, 36, 37] (by decide +kernel) (by decide +kernel)
set_option maxRecDepth 20000 in
theorem gX0_colourOnComing_X0_isHeld : GoodIn wsX0_colourOnComing (wsV RX0 87 RX0 yX0_isHeld wsX0_isHeld) := goodIn_app (goodIn_of _ (by decide +kernel)) ggX0_colourOnComing_X0_isHeld
set_option maxRecDepth 20000 in
theorem ggX0_colourOnComing_X0_bitOf : GoodIn wsX0_colourOnComing wsX0_bitOf := goodIn_r _ [12] (by decide +kernel) (by decide +kernel)
set_option maxRecDepth 20000 in
theorem gX0_colourOnComing_X0_bitOf : GoodIn wsX0_colourOnComing (va_wsS RX0 83 yX0_bitOf wsX0_bitOf) := goodIn_app (goodIn_of _ (by decide +kernel)) ggX0_colourOnComing_X0_bitOf
set_option maxRecDepth 20000 in
theorem ggX0_colourOnComing_X0_leaning : GoodIn wsX0_colourOnComing wsX0_leaning := goodIn_r _ [15, 16, 17, 18, 19, 20, 21, 22] (by decide +kernel) (by decide +kernel)
set_option maxRecDepth 20000 in
theorem gX0_colourOnComing_X0_leaning : GoodIn wsX0_colourOnComing (va_wsS RX0 145 yX0_leaning wsX0_leaning) := goodIn_app (goodIn_of _ (by decide +kernel)) ggX0_colourOnComing_X0_leaning
theorem dX0_colourOnComing_0 : decode cX0_colourOnComing 0 = .ok (.aload_n 0, 1) := by decide +kernel
theorem dX0_colourOnComing_1 : decode cX0_colourOnComing 1 = .ok (.iload_n 1, 1) := by decide +kernel
theorem dX0_colourOnComing_2 : decode cX0_colourOnComing 2 = .ok (.invokevirtual 87, 3) := by decide +kernel
theorem dX0_colourOnComing_5 : decode cX0_colourOnComing 5 = .ok (.ifCond .eq 12, 3) := by decide +kernel
theorem dX0_colourOnComing_8 : decode cX0_colourOnComing 8 = .ok (.aload_n 0, 1) := by decide +kernel
theorem dX0_colourOnComing_9 : decode cX0_colourOnComing 9 = .ok (.getfield 23, 3) := by decide +kernel
theorem dX0_colourOnComing_12 : decode cX0_colourOnComing 12 = .ok (.iload_n 1, 1) := by decide +kernel
theorem dX0_colourOnComing_13 : decode cX0_colourOnComing 13 = .ok (.invokestatic 83, 3) := by decide +kernel
theorem dX0_colourOnComing_16 : decode cX0_colourOnComing 16 = .ok (.ireturn, 1) := by decide +kernel
theorem dX0_colourOnComing_17 : decode cX0_colourOnComing 17 = .ok (.iconst 1, 1) := by decide +kernel
theorem dX0_colourOnComing_18 : decode cX0_colourOnComing 18 = .ok (.iload_n 1, 1) := by decide +kernel
theorem dX0_colourOnComing_19 : decode cX0_colourOnComing 19 = .ok (.ishl, 1) := by decide +kernel
theorem dX0_colourOnComing_20 : decode cX0_colourOnComing 20 = .ok (.iconst 1, 1) := by decide +kernel
theorem dX0_colourOnComing_21 : decode cX0_colourOnComing 21 = .ok (.isub, 1) := by decide +kernel
theorem dX0_colourOnComing_22 : decode cX0_colourOnComing 22 = .ok (.istore_n 3, 1) := by decide +kernel
theorem dX0_colourOnComing_23 : decode cX0_colourOnComing 23 = .ok (.iconst 0, 1) := by decide +kernel
theorem dX0_colourOnComing_24 : decode cX0_colourOnComing 24 = .ok (.istore 4, 2) := by decide +kernel
theorem dX0_colourOnComing_26 : decode cX0_colourOnComing 26 = .ok (.iconst 0, 1) := by decide +kernel
theorem dX0_colourOnComing_27 : decode cX0_colourOnComing 27 = .ok (.istore 5, 2) := by decide +kernel
theorem dX0_colourOnComing_29 : decode cX0_colourOnComing 29 = .ok (.iload 5, 2) := by decide +kernel
theorem dX0_colourOnComing_31 : decode cX0_colourOnComing 31 = .ok (.aload_n 0, 1) := by decide +kernel
theorem dX0_colourOnComing_32 : decode cX0_colourOnComing 32 = .ok (.getfield 29, 3) := by decide +kernel
theorem dX0_colourOnComing_35 : decode cX0_colourOnComing 35 = .ok (.if_icmp .ge 42, 3) := by decide +kernel
theorem dX0_colourOnComing_38 : decode cX0_colourOnComing 38 = .ok (.aload_n 0, 1) := by decide +kernel
theorem dX0_colourOnComing_39 : decode cX0_colourOnComing 39 = .ok (.getfield 41, 3) := by decide +kernel
theorem dX0_colourOnComing_42 : decode cX0_colourOnComing 42 = .ok (.iload 5, 2) := by decide +kernel
theorem dX0_colourOnComing_44 : decode cX0_colourOnComing 44 = .ok (.iaload, 1) := by decide +kernel
theorem dX0_colourOnComing_45 : decode cX0_colourOnComing 45 = .ok (.iload_n 1, 1) := by decide +kernel
theorem dX0_colourOnComing_46 : decode cX0_colourOnComing 46 = .ok (.invokestatic 83, 3) := by decide +kernel
theorem dX0_colourOnComing_49 : decode cX0_colourOnComing 49 = .ok (.iconst 1, 1) := by decide +kernel
theorem dX0_colourOnComing_50 : decode cX0_colourOnComing 50 = .ok (.if_icmp .ne 21, 3) := by decide +kernel
theorem dX0_colourOnComing_53 : decode cX0_colourOnComing 53 = .ok (.iload 4, 2) := by decide +kernel
theorem dX0_colourOnComing_55 : decode cX0_colourOnComing 55 = .ok (.aload_n 0, 1) := by decide +kernel
theorem dX0_colourOnComing_56 : decode cX0_colourOnComing 56 = .ok (.getfield 41, 3) := by decide +kernel
theorem dX0_colourOnComing_59 : decode cX0_colourOnComing 59 = .ok (.iload 5, 2) := by decide +kernel
theorem dX0_colourOnComing_61 : decode cX0_colourOnComing 61 = .ok (.iaload, 1) := by decide +kernel
theorem dX0_colourOnComing_62 : decode cX0_colourOnComing 62 = .ok (.iload_n 3, 1) := by decide +kernel
theorem dX0_colourOnComing_63 : decode cX0_colourOnComing 63 = .ok (.iand, 1) := by decide +kernel
theorem dX0_colourOnComing_64 : decode cX0_colourOnComing 64 = .ok (.iload_n 2, 1) := by decide +kernel
theorem dX0_colourOnComing_65 : decode cX0_colourOnComing 65 = .ok (.invokestatic 145, 3) := by decide +kernel
theorem dX0_colourOnComing_68 : decode cX0_colourOnComing 68 = .ok (.iadd, 1) := by decide +kernel
theorem dX0_colourOnComing_69 : decode cX0_colourOnComing 69 = .ok (.istore 4, 2) := by decide +kernel
theorem dX0_colourOnComing_71 : decode cX0_colourOnComing 71 = .ok (.iinc 5 1, 3) := by decide +kernel
theorem dX0_colourOnComing_74 : decode cX0_colourOnComing 74 = .ok (.goto (-45), 3) := by decide +kernel
theorem dX0_colourOnComing_77 : decode cX0_colourOnComing 77 = .ok (.iload 4, 2) := by decide +kernel
theorem dX0_colourOnComing_79 : decode cX0_colourOnComing 79 = .ok (.ifCond .ge 7, 3) := by decide +kernel
theorem dX0_colourOnComing_82 : decode cX0_colourOnComing 82 = .ok (.iconst 1, 1) := by decide +kernel
theorem dX0_colourOnComing_83 : decode cX0_colourOnComing 83 = .ok (.goto 4, 3) := by decide +kernel
theorem dX0_colourOnComing_86 : decode cX0_colourOnComing 86 = .ok (.iconst 0, 1) := by decide +kernel
theorem dX0_colourOnComing_87 : decode cX0_colourOnComing 87 = .ok (.ireturn, 1) := by decide +kernel
set_option maxRecDepth 20000 in
theorem ggX0_step_X0_isStepLength : GoodIn wsX0_step wsX0_isStepLength := goodIn_r _ [7] (by decide +kernel) (by decide +kernel)
set_option maxRecDepth 20000 in
theorem gX0_step_X0_isStepLength : GoodIn wsX0_step (va_wsS RX0 157 yX0_isStepLength wsX0_isStepLength) := goodIn_app (goodIn_of _ (by decide +kernel)) ggX0_step_X0_isStepLength
theorem dX0_step_0 : decode cX0_step 0 = .ok (.iload_n 1, 1) := by decide +kernel
theorem dX0_step_1 : decode cX0_step 1 = .ok (.invokestatic 157, 3) := by decide +kernel
theorem dX0_step_4 : decode cX0_step 4 = .ok (.ifCond .eq 10, 3) := by decide +kernel
theorem dX0_step_7 : decode cX0_step 7 = .ok (.iload_n 2, 1) := by decide +kernel
theorem dX0_step_8 : decode cX0_step 8 = .ok (.invokestatic 157, 3) := by decide +kernel
theorem dX0_step_11 : decode cX0_step 11 = .ok (.ifCond .ne 5, 3) := by decide +kernel
theorem dX0_step_14 : decode cX0_step 14 = .ok (.iconst (-1), 1) := by decide +kernel
theorem dX0_step_15 : decode cX0_step 15 = .ok (.ireturn, 1) := by decide +kernel
theorem dX0_step_16 : decode cX0_step 16 = .ok (.aload_n 0, 1) := by decide +kernel
theorem dX0_step_17 : decode cX0_step 17 = .ok (.getfield 44, 3) := by decide +kernel
theorem dX0_step_20 : decode cX0_step 20 = .ok (.bipush 10, 2) := by decide +kernel
theorem dX0_step_22 : decode cX0_step 22 = .ok (.if_icmp .lt 6, 3) := by decide +kernel
theorem dX0_step_25 : decode cX0_step 25 = .ok (.bipush (-3), 2) := by decide +kernel
theorem dX0_step_27 : decode cX0_step 27 = .ok (.ireturn, 1) := by decide +kernel
theorem dX0_step_28 : decode cX0_step 28 = .ok (.aload_n 0, 1) := by decide +kernel
theorem dX0_step_29 : decode cX0_step 29 = .ok (.getfield 44, 3) := by decide +kernel
theorem dX0_step_32 : decode cX0_step 32 = .ok (.istore_n 3, 1) := by decide +kernel
theorem dX0_step_33 : decode cX0_step 33 = .ok (.aload_n 0, 1) := by decide +kernel
theorem dX0_step_34 : decode cX0_step 34 = .ok (.getfield 47, 3) := by decide +kernel
theorem dX0_step_37 : decode cX0_step 37 = .ok (.iload_n 3, 1) := by decide +kernel
theorem dX0_step_38 : decode cX0_step 38 = .ok (.iload_n 1, 1) := by decide +kernel
theorem dX0_step_39 : decode cX0_step 39 = .ok (.iastore, 1) := by decide +kernel
theorem dX0_step_40 : decode cX0_step 40 = .ok (.aload_n 0, 1) := by decide +kernel
theorem dX0_step_41 : decode cX0_step 41 = .ok (.getfield 50, 3) := by decide +kernel
theorem dX0_step_44 : decode cX0_step 44 = .ok (.iload_n 3, 1) := by decide +kernel
theorem dX0_step_45 : decode cX0_step 45 = .ok (.iload_n 2, 1) := by decide +kernel
theorem dX0_step_46 : decode cX0_step 46 = .ok (.iastore, 1) := by decide +kernel
theorem dX0_step_47 : decode cX0_step 47 = .ok (.aload_n 0, 1) := by decide +kernel
theorem dX0_step_48 : decode cX0_step 48 = .ok (.dup, 1) := by decide +kernel
theorem dX0_step_49 : decode cX0_step 49 = .ok (.getfield 44, 3) := by decide +kernel
theorem dX0_step_52 : decode cX0_step 52 = .ok (.iconst 1, 1) := by decide +kernel
theorem dX0_step_53 : decode cX0_step 53 = .ok (.iadd, 1) := by decide +kernel
theorem dX0_step_54 : decode cX0_step 54 = .ok (.putfield 44, 3) := by decide +kernel
theorem dX0_step_57 : decode cX0_step 57 = .ok (.iload_n 3, 1) := by decide +kernel
theorem dX0_step_58 : decode cX0_step 58 = .ok (.ireturn, 1) := by decide +kernel
theorem dX0_clear_0 : decode cX0_clear 0 = .ok (.aload_n 0, 1) := by decide +kernel
theorem dX0_clear_1 : decode cX0_clear 1 = .ok (.getfield 44, 3) := by decide +kernel
theorem dX0_clear_4 : decode cX0_clear 4 = .ok (.istore_n 1, 1) := by decide +kernel
theorem dX0_clear_5 : decode cX0_clear 5 = .ok (.aload_n 0, 1) := by decide +kernel
theorem dX0_clear_6 : decode cX0_clear 6 = .ok (.iconst 0, 1) := by decide +kernel
theorem dX0_clear_7 : decode cX0_clear 7 = .ok (.putfield 44, 3) := by decide +kernel
theorem dX0_clear_10 : decode cX0_clear 10 = .ok (.iload_n 1, 1) := by decide +kernel
theorem dX0_clear_11 : decode cX0_clear 11 = .ok (.ireturn, 1) := by decide +kernel
set_option maxRecDepth 20000 in
theorem ggX0_stray_X0_signingCount : GoodIn wsX0_stray wsX0_signingCount := goodIn_r _ [5, 6, 26, 27, 28, 29, 30, 31, 32, 33, 34, 35, 36, 37, 38, 39, 40] (by decide +kernel) (by decide +kernel)
set_option maxRecDepth 20000 in
theorem gX0_stray_X0_signingCount : GoodIn wsX0_stray (wsV RX0 160 RX0 yX0_signingCount wsX0_signingCount) := goodIn_app (goodIn_of _ (by decide +kernel)) ggX0_stray_X0_signingCount
set_option maxRecDepth 20000 in
theorem ggX0_stray_X0_strayOf : GoodIn wsX0_stray wsX0_strayOf := goodIn_r _ [10, 6, 11, 12, 13, 14, 15, 16, 17, 18, 4, 19, 20, 21, 22, 23, 24, 25, 26, 27, 28, 29, 30, 31, 32, 33, 34, 35, 36, 37, 38, 39, 40] (by decide +kernel) (by decide +kernel)
set_option maxRecDepth 20000 in
theorem gX0_stray_X0_strayOf : GoodIn wsX0_stray (wsV RX0 163 RX0 yX0_strayOf wsX0_strayOf) := goodIn_app (goodIn_of _ (by decide +kernel)) ggX0_stray_X0_strayOf
theorem dX0_stray_0 : decode cX0_stray 0 = .ok (.iload_n 1, 1) := by decide +kernel
theorem dX0_stray_1 : decode cX0_stray 1 = .ok (.ifCond .lt 19, 3) := by decide +kernel
theorem dX0_stray_4 : decode cX0_stray 4 = .ok (.iload_n 1, 1) := by decide +kernel
theorem dX0_stray_5 : decode cX0_stray 5 = .ok (.aload_n 0, 1) := by decide +kernel
theorem dX0_stray_6 : decode cX0_stray 6 = .ok (.invokevirtual 160, 3) := by decide +kernel
theorem dX0_stray_9 : decode cX0_stray 9 = .ok (.if_icmp .ge 11, 3) := by decide +kernel
theorem dX0_stray_12 : decode cX0_stray 12 = .ok (.aload_n 0, 1) := by decide +kernel
theorem dX0_stray_13 : decode cX0_stray 13 = .ok (.iload_n 1, 1) := by decide +kernel
theorem dX0_stray_14 : decode cX0_stray 14 = .ok (.invokevirtual 163, 3) := by decide +kernel
theorem dX0_stray_17 : decode cX0_stray 17 = .ok (.goto 4, 3) := by decide +kernel
theorem dX0_stray_20 : decode cX0_stray 20 = .ok (.iconst (-1), 1) := by decide +kernel
theorem dX0_stray_21 : decode cX0_stray 21 = .ok (.ireturn, 1) := by decide +kernel
set_option maxRecDepth 20000 in
theorem ggX0_straight_X0_straightest : GoodIn wsX0_straight wsX0_straightest := goodIn_r _ [5, 6, 7, 8, 4, 9, 10, 11, 12, 13, 14, 15, 16, 17, 18, 19, 20, 21, 22, 23, 24, 25, 26, 27, 28, 29, 34, 35, 36, 37, 38, 39, 40, 41, 42, 43, 44, 45, 46, 47, 48] (by decide +kernel) (by decide +kernel)
set_option maxRecDepth 20000 in
theorem gX0_straight_X0_straightest : GoodIn wsX0_straight (wsV RX0 166 RX0 yX0_straightest wsX0_straightest) := goodIn_app (goodIn_of _ (by decide +kernel)) ggX0_straight_X0_straightest
set_option maxRecDepth 20000 in
theorem ggX0_straight_X0_strayOf : GoodIn wsX0_straight wsX0_strayOf := goodIn_r _ [9, 10, 11, 12, 13, 14, 15, 16, 17, 18, 4, 19, 20, 21, 22, 23, 24, 25, 34, 35, 36, 37, 38, 39, 40, 41, 42, 43, 44, 45, 46, 47, 48] (by decide +kernel) (by decide +kernel)
set_option maxRecDepth 20000 in
theorem gX0_straight_X0_strayOf : GoodIn wsX0_straight (wsV RX0 163 RX0 yX0_strayOf wsX0_strayOf) := goodIn_app (goodIn_of _ (by decide +kernel)) ggX0_straight_X0_strayOf
set_option maxRecDepth 20000 in
theorem ggX0_straight_X0_nearest : GoodIn wsX0_straight wsX0_nearest := goodIn_r _ [33, 10, 11, 12, 20, 21, 4, 22, 23, 24, 15, 25, 13, 14, 16, 34, 35, 36, 37, 38, 39, 40, 41, 42, 43, 44, 45, 46, 47, 48] (by decide +kernel) (by decide +kernel)
set_option maxRecDepth 20000 in
theorem gX0_straight_X0_nearest : GoodIn wsX0_straight (wsV RX0 169 RX0 yX0_nearest wsX0_nearest) := goodIn_app (goodIn_of _ (by decide +kernel)) ggX0_straight_X0_nearest
