theorem dX1_pairs_60 : decode cX1_pairs 60 = .ok (.istore 4, 2) := by decide +kernel
theorem dX1_pairs_62 : decode cX1_pairs 62 = .ok (.iload 4, 2) := by decide +kernel
theorem dX1_pairs_64 : decode cX1_pairs 64 = .ok (.iconst 2, 1) := by decide +kernel
theorem dX1_pairs_65 : decode cX1_pairs 65 = .ok (.aload_n 0, 1) := by decide +kernel
theorem dX1_pairs_66 : decode cX1_pairs 66 = .ok (.getfield 7, 3) := by decide +kernel
theorem dX1_pairs_69 : decode cX1_pairs 69 = .ok (.imul, 1) := by decide +kernel
theorem dX1_pairs_70 : decode cX1_pairs 70 = .ok (.if_icmp .ge 78, 3) := by decide +kernel
theorem dX1_pairs_73 : decode cX1_pairs 73 = .ok (.aload_n 0, 1) := by decide +kernel
theorem dX1_pairs_74 : decode cX1_pairs 74 = .ok (.iload 4, 2) := by decide +kernel
theorem dX1_pairs_76 : decode cX1_pairs 76 = .ok (.iconst 2, 1) := by decide +kernel
theorem dX1_pairs_77 : decode cX1_pairs 77 = .ok (.idiv, 1) := by decide +kernel
theorem dX1_pairs_78 : decode cX1_pairs 78 = .ok (.iload 4, 2) := by decide +kernel
theorem dX1_pairs_80 : decode cX1_pairs 80 = .ok (.iconst 2, 1) := by decide +kernel
theorem dX1_pairs_81 : decode cX1_pairs 81 = .ok (.irem, 1) := by decide +kernel
theorem dX1_pairs_82 : decode cX1_pairs 82 = .ok (.ifCond .ne 7, 3) := by decide +kernel
theorem dX1_pairs_85 : decode cX1_pairs 85 = .ok (.iconst 1, 1) := by decide +kernel
theorem dX1_pairs_86 : decode cX1_pairs 86 = .ok (.goto 4, 3) := by decide +kernel
theorem dX1_pairs_89 : decode cX1_pairs 89 = .ok (.iconst 0, 1) := by decide +kernel
theorem dX1_pairs_90 : decode cX1_pairs 90 = .ok (.invokevirtual 118, 3) := by decide +kernel
theorem dX1_pairs_93 : decode cX1_pairs 93 = .ok (.istore 5, 2) := by decide +kernel
theorem dX1_pairs_95 : decode cX1_pairs 95 = .ok (.aload_n 0, 1) := by decide +kernel
theorem dX1_pairs_96 : decode cX1_pairs 96 = .ok (.getfield 38, 3) := by decide +kernel
theorem dX1_pairs_99 : decode cX1_pairs 99 = .ok (.iload 4, 2) := by decide +kernel
theorem dX1_pairs_101 : decode cX1_pairs 101 = .ok (.iconst 2, 1) := by decide +kernel
theorem dX1_pairs_102 : decode cX1_pairs 102 = .ok (.idiv, 1) := by decide +kernel
theorem dX1_pairs_103 : decode cX1_pairs 103 = .ok (.iaload, 1) := by decide +kernel
theorem dX1_pairs_104 : decode cX1_pairs 104 = .ok (.ifCond .lt 38, 3) := by decide +kernel
theorem dX1_pairs_107 : decode cX1_pairs 107 = .ok (.iload 5, 2) := by decide +kernel
theorem dX1_pairs_109 : decode cX1_pairs 109 = .ok (.ifCond .lt 33, 3) := by decide +kernel
theorem dX1_pairs_112 : decode cX1_pairs 112 = .ok (.aload_n 0, 1) := by decide +kernel
theorem dX1_pairs_113 : decode cX1_pairs 113 = .ok (.getfield 38, 3) := by decide +kernel
theorem dX1_pairs_116 : decode cX1_pairs 116 = .ok (.iload 5, 2) := by decide +kernel
theorem dX1_pairs_118 : decode cX1_pairs 118 = .ok (.iaload, 1) := by decide +kernel
theorem dX1_pairs_119 : decode cX1_pairs 119 = .ok (.ifCond .ge 23, 3) := by decide +kernel
theorem dX1_pairs_122 : decode cX1_pairs 122 = .ok (.aload_n 0, 1) := by decide +kernel
theorem dX1_pairs_123 : decode cX1_pairs 123 = .ok (.getfield 38, 3) := by decide +kernel
theorem dX1_pairs_126 : decode cX1_pairs 126 = .ok (.iload 5, 2) := by decide +kernel
theorem dX1_pairs_128 : decode cX1_pairs 128 = .ok (.iconst 1, 1) := by decide +kernel
theorem dX1_pairs_129 : decode cX1_pairs 129 = .ok (.aload_n 0, 1) := by decide +kernel
theorem dX1_pairs_130 : decode cX1_pairs 130 = .ok (.getfield 38, 3) := by decide +kernel
theorem dX1_pairs_133 : decode cX1_pairs 133 = .ok (.iload 4, 2) := by decide +kernel
theorem dX1_pairs_135 : decode cX1_pairs 135 = .ok (.iconst 2, 1) := by decide +kernel
theorem dX1_pairs_136 : decode cX1_pairs 136 = .ok (.idiv, 1) := by decide +kernel
theorem dX1_pairs_137 : decode cX1_pairs 137 = .ok (.iaload, 1) := by decide +kernel
theorem dX1_pairs_138 : decode cX1_pairs 138 = .ok (.isub, 1) := by decide +kernel
theorem dX1_pairs_139 : decode cX1_pairs 139 = .ok (.iastore, 1) := by decide +kernel
theorem dX1_pairs_140 : decode cX1_pairs 140 = .ok (.iconst 1, 1) := by decide +kernel
theorem dX1_pairs_141 : decode cX1_pairs 141 = .ok (.istore_n 3, 1) := by decide +kernel
theorem dX1_pairs_142 : decode cX1_pairs 142 = .ok (.iinc 4 1, 3) := by decide +kernel
theorem dX1_pairs_145 : decode cX1_pairs 145 = .ok (.goto (-83), 3) := by decide +kernel
theorem dX1_pairs_148 : decode cX1_pairs 148 = .ok (.goto (-95), 3) := by decide +kernel
theorem dX1_pairs_151 : decode cX1_pairs 151 = .ok (.iload_n 1, 1) := by decide +kernel
theorem dX1_pairs_152 : decode cX1_pairs 152 = .ok (.aload_n 0, 1) := by decide +kernel
theorem dX1_pairs_153 : decode cX1_pairs 153 = .ok (.getfield 38, 3) := by decide +kernel
theorem dX1_pairs_156 : decode cX1_pairs 156 = .ok (.iload_n 2, 1) := by decide +kernel
theorem dX1_pairs_157 : decode cX1_pairs 157 = .ok (.iaload, 1) := by decide +kernel
theorem dX1_pairs_158 : decode cX1_pairs 158 = .ok (.iload_n 2, 1) := by decide +kernel
theorem dX1_pairs_159 : decode cX1_pairs 159 = .ok (.ishl, 1) := by decide +kernel
theorem dX1_pairs_160 : decode cX1_pairs 160 = .ok (.ior, 1) := by decide +kernel
theorem dX1_pairs_161 : decode cX1_pairs 161 = .ok (.istore_n 1, 1) := by decide +kernel
theorem dX1_pairs_162 : decode cX1_pairs 162 = .ok (.iinc 2 1, 3) := by decide +kernel
theorem dX1_pairs_165 : decode cX1_pairs 165 = .ok (.goto (-138), 3) := by decide +kernel
theorem dX1_pairs_168 : decode cX1_pairs 168 = .ok (.iload_n 1, 1) := by decide +kernel
theorem dX1_pairs_169 : decode cX1_pairs 169 = .ok (.ireturn, 1) := by decide +kernel
set_option maxRecDepth 20000 in
theorem ggX1_come_X1_collect : GoodIn wsX1_come wsX1_collect := goodIn_r _ [9, 2, 3, 10, 11, 12, 8, 13, 1, 14, 15, 16, 17, 18, 19, 20, 21, 22, 23, 24, 25, 26, 27, 28, 32, 33, 34, 35, 36, 37, 38, 39, 40, 41, 42, 43, 44, 45, 46, 47] (by decide +kernel) (by decide +kernel)
set_option maxRecDepth 20000 in
theorem gX1_come_X1_collect : GoodIn wsX1_come (wsV RX1 92 RX1 yX1_collect wsX1_collect) := goodIn_app (goodIn_of _ (by decide +kernel)) ggX1_come_X1_collect
set_option maxRecDepth 20000 in
theorem ggX1_come_X1_ones : GoodIn wsX1_come wsX1_ones := goodIn_r _ [31] (by decide +kernel) (by decide +kernel)
set_option maxRecDepth 20000 in
theorem gX1_come_X1_ones : GoodIn wsX1_come (va_wsS RX1 79 yX1_ones wsX1_ones) := goodIn_app (goodIn_of _ (by decide +kernel)) ggX1_come_X1_ones
theorem dX1_come_0 : decode cX1_come 0 = .ok (.iconst 0, 1) := by decide +kernel
theorem dX1_come_1 : decode cX1_come 1 = .ok (.istore_n 1, 1) := by decide +kernel
theorem dX1_come_2 : decode cX1_come 2 = .ok (.iconst 0, 1) := by decide +kernel
theorem dX1_come_3 : decode cX1_come 3 = .ok (.istore_n 2, 1) := by decide +kernel
theorem dX1_come_4 : decode cX1_come 4 = .ok (.aload_n 0, 1) := by decide +kernel
theorem dX1_come_5 : decode cX1_come 5 = .ok (.invokevirtual 92, 3) := by decide +kernel
theorem dX1_come_8 : decode cX1_come 8 = .ok (.iconst 0, 1) := by decide +kernel
theorem dX1_come_9 : decode cX1_come 9 = .ok (.istore_n 3, 1) := by decide +kernel
theorem dX1_come_10 : decode cX1_come 10 = .ok (.iload_n 3, 1) := by decide +kernel
theorem dX1_come_11 : decode cX1_come 11 = .ok (.aload_n 0, 1) := by decide +kernel
theorem dX1_come_12 : decode cX1_come 12 = .ok (.getfield 7, 3) := by decide +kernel
theorem dX1_come_15 : decode cX1_come 15 = .ok (.if_icmp .ge 137, 3) := by decide +kernel
theorem dX1_come_18 : decode cX1_come 18 = .ok (.iconst 0, 1) := by decide +kernel
theorem dX1_come_19 : decode cX1_come 19 = .ok (.istore 4, 2) := by decide +kernel
theorem dX1_come_21 : decode cX1_come 21 = .ok (.iconst 0, 1) := by decide +kernel
theorem dX1_come_22 : decode cX1_come 22 = .ok (.istore 5, 2) := by decide +kernel
theorem dX1_come_24 : decode cX1_come 24 = .ok (.iload 5, 2) := by decide +kernel
theorem dX1_come_26 : decode cX1_come 26 = .ok (.aload_n 0, 1) := by decide +kernel
theorem dX1_come_27 : decode cX1_come 27 = .ok (.getfield 41, 3) := by decide +kernel
theorem dX1_come_30 : decode cX1_come 30 = .ok (.if_icmp .ge 56, 3) := by decide +kernel
theorem dX1_come_33 : decode cX1_come 33 = .ok (.aload_n 0, 1) := by decide +kernel
theorem dX1_come_34 : decode cX1_come 34 = .ok (.getfield 35, 3) := by decide +kernel
theorem dX1_come_37 : decode cX1_come 37 = .ok (.iload 5, 2) := by decide +kernel
theorem dX1_come_39 : decode cX1_come 39 = .ok (.iaload, 1) := by decide +kernel
theorem dX1_come_40 : decode cX1_come 40 = .ok (.iload_n 3, 1) := by decide +kernel
theorem dX1_come_41 : decode cX1_come 41 = .ok (.ishr, 1) := by decide +kernel
theorem dX1_come_42 : decode cX1_come 42 = .ok (.iconst 1, 1) := by decide +kernel
theorem dX1_come_43 : decode cX1_come 43 = .ok (.iand, 1) := by decide +kernel
theorem dX1_come_44 : decode cX1_come 44 = .ok (.iconst 1, 1) := by decide +kernel
theorem dX1_come_45 : decode cX1_come 45 = .ok (.if_icmp .ne 35, 3) := by decide +kernel
theorem dX1_come_48 : decode cX1_come 48 = .ok (.iload 4, 2) := by decide +kernel
theorem dX1_come_50 : decode cX1_come 50 = .ok (.iconst 2, 1) := by decide +kernel
theorem dX1_come_51 : decode cX1_come 51 = .ok (.aload_n 0, 1) := by decide +kernel
theorem dX1_come_52 : decode cX1_come 52 = .ok (.getfield 35, 3) := by decide +kernel
theorem dX1_come_55 : decode cX1_come 55 = .ok (.iload 5, 2) := by decide +kernel
theorem dX1_come_57 : decode cX1_come 57 = .ok (.iaload, 1) := by decide +kernel
theorem dX1_come_58 : decode cX1_come 58 = .ok (.iload_n 1, 1) := by decide +kernel
theorem dX1_come_59 : decode cX1_come 59 = .ok (.iand, 1) := by decide +kernel
theorem dX1_come_60 : decode cX1_come 60 = .ok (.invokestatic 79, 3) := by decide +kernel
theorem dX1_come_63 : decode cX1_come 63 = .ok (.imul, 1) := by decide +kernel
theorem dX1_come_64 : decode cX1_come 64 = .ok (.aload_n 0, 1) := by decide +kernel
theorem dX1_come_65 : decode cX1_come 65 = .ok (.getfield 35, 3) := by decide +kernel
theorem dX1_come_68 : decode cX1_come 68 = .ok (.iload 5, 2) := by decide +kernel
theorem dX1_come_70 : decode cX1_come 70 = .ok (.iaload, 1) := by decide +kernel
theorem dX1_come_71 : decode cX1_come 71 = .ok (.iload_n 2, 1) := by decide +kernel
theorem dX1_come_72 : decode cX1_come 72 = .ok (.iand, 1) := by decide +kernel
theorem dX1_come_73 : decode cX1_come 73 = .ok (.invokestatic 79, 3) := by decide +kernel
theorem dX1_come_76 : decode cX1_come 76 = .ok (.isub, 1) := by decide +kernel
theorem dX1_come_77 : decode cX1_come 77 = .ok (.iadd, 1) := by decide +kernel
theorem dX1_come_78 : decode cX1_come 78 = .ok (.istore 4, 2) := by decide +kernel
theorem dX1_come_80 : decode cX1_come 80 = .ok (.iinc 5 1, 3) := by decide +kernel
theorem dX1_come_83 : decode cX1_come 83 = .ok (.goto (-59), 3) := by decide +kernel
theorem dX1_come_86 : decode cX1_come 86 = .ok (.aload_n 0, 1) := by decide +kernel
theorem dX1_come_87 : decode cX1_come 87 = .ok (.getfield 17, 3) := by decide +kernel
theorem dX1_come_90 : decode cX1_come 90 = .ok (.iload_n 3, 1) := by decide +kernel
theorem dX1_come_91 : decode cX1_come 91 = .ok (.iaload, 1) := by decide +kernel
theorem dX1_come_92 : decode cX1_come 92 = .ok (.ifCond .ge 16, 3) := by decide +kernel
theorem dX1_come_95 : decode cX1_come 95 = .ok (.iload 4, 2) := by decide +kernel
theorem dX1_come_97 : decode cX1_come 97 = .ok (.ifCond .ge 7, 3) := by decide +kernel
theorem dX1_come_100 : decode cX1_come 100 = .ok (.iconst 1, 1) := by decide +kernel
theorem dX1_come_101 : decode cX1_come 101 = .ok (.goto 22, 3) := by decide +kernel
theorem dX1_come_104 : decode cX1_come 104 = .ok (.iconst 0, 1) := by decide +kernel
theorem dX1_come_105 : decode cX1_come 105 = .ok (.goto 18, 3) := by decide +kernel
theorem dX1_come_108 : decode cX1_come 108 = .ok (.aload_n 0, 1) := by decide +kernel
theorem dX1_come_109 : decode cX1_come 109 = .ok (.getfield 17, 3) := by decide +kernel
theorem dX1_come_112 : decode cX1_come 112 = .ok (.iload_n 3, 1) := by decide +kernel
theorem dX1_come_113 : decode cX1_come 113 = .ok (.iaload, 1) := by decide +kernel
theorem dX1_come_114 : decode cX1_come 114 = .ok (.iconst 1, 1) := by decide +kernel
theorem dX1_come_115 : decode cX1_come 115 = .ok (.if_icmp .ne 7, 3) := by decide +kernel
theorem dX1_come_118 : decode cX1_come 118 = .ok (.iconst 1, 1) := by decide +kernel
theorem dX1_come_119 : decode cX1_come 119 = .ok (.goto 4, 3) := by decide +kernel
theorem dX1_come_122 : decode cX1_come 122 = .ok (.iconst 0, 1) := by decide +kernel
theorem dX1_come_123 : decode cX1_come 123 = .ok (.istore 5, 2) := by decide +kernel
theorem dX1_come_125 : decode cX1_come 125 = .ok (.iload_n 1, 1) := by decide +kernel
theorem dX1_come_126 : decode cX1_come 126 = .ok (.iload 5, 2) := by decide +kernel
theorem dX1_come_128 : decode cX1_come 128 = .ok (.ifCond .eq 9, 3) := by decide +kernel
theorem dX1_come_131 : decode cX1_come 131 = .ok (.iconst 1, 1) := by decide +kernel
theorem dX1_come_132 : decode cX1_come 132 = .ok (.iload_n 3, 1) := by decide +kernel
theorem dX1_come_133 : decode cX1_come 133 = .ok (.ishl, 1) := by decide +kernel
theorem dX1_come_134 : decode cX1_come 134 = .ok (.goto 4, 3) := by decide +kernel
theorem dX1_come_137 : decode cX1_come 137 = .ok (.iconst 0, 1) := by decide +kernel
theorem dX1_come_138 : decode cX1_come 138 = .ok (.ior, 1) := by decide +kernel
theorem dX1_come_139 : decode cX1_come 139 = .ok (.istore_n 1, 1) := by decide +kernel
theorem dX1_come_140 : decode cX1_come 140 = .ok (.iload_n 2, 1) := by decide +kernel
theorem dX1_come_141 : decode cX1_come 141 = .ok (.iconst 1, 1) := by decide +kernel
theorem dX1_come_142 : decode cX1_come 142 = .ok (.iload_n 3, 1) := by decide +kernel
theorem dX1_come_143 : decode cX1_come 143 = .ok (.ishl, 1) := by decide +kernel
theorem dX1_come_144 : decode cX1_come 144 = .ok (.ior, 1) := by decide +kernel
theorem dX1_come_145 : decode cX1_come 145 = .ok (.istore_n 2, 1) := by decide +kernel
theorem dX1_come_146 : decode cX1_come 146 = .ok (.iinc 3 1, 3) := by decide +kernel
theorem dX1_come_149 : decode cX1_come 149 = .ok (.goto (-139), 3) := by decide +kernel
theorem dX1_come_152 : decode cX1_come 152 = .ok (.iload_n 1, 1) := by decide +kernel
theorem dX1_come_153 : decode cX1_come 153 = .ok (.ireturn, 1) := by decide +kernel
set_option maxRecDepth 20000 in
theorem ggX1_step_X1_in : GoodIn wsX1_step wsX1_in := goodIn_r _ [7] (by decide +kernel) (by decide +kernel)
set_option maxRecDepth 20000 in
theorem gX1_step_X1_in : GoodIn wsX1_step (va_wsS RX1 44 yX1_in wsX1_in) := goodIn_app (goodIn_of _ (by decide +kernel)) ggX1_step_X1_in
theorem dX1_step_0 : decode cX1_step 0 = .ok (.iload_n 1, 1) := by decide +kernel
theorem dX1_step_1 : decode cX1_step 1 = .ok (.bipush (-20), 2) := by decide +kernel
theorem dX1_step_3 : decode cX1_step 3 = .ok (.bipush 20, 2) := by decide +kernel
theorem dX1_step_5 : decode cX1_step 5 = .ok (.invokestatic 44, 3) := by decide +kernel
theorem dX1_step_8 : decode cX1_step 8 = .ok (.ifCond .eq 14, 3) := by decide +kernel
theorem dX1_step_11 : decode cX1_step 11 = .ok (.iload_n 2, 1) := by decide +kernel
theorem dX1_step_12 : decode cX1_step 12 = .ok (.bipush (-20), 2) := by decide +kernel
theorem dX1_step_14 : decode cX1_step 14 = .ok (.bipush 20, 2) := by decide +kernel
theorem dX1_step_16 : decode cX1_step 16 = .ok (.invokestatic 44, 3) := by decide +kernel
theorem dX1_step_19 : decode cX1_step 19 = .ok (.ifCond .ne 5, 3) := by decide +kernel
theorem dX1_step_22 : decode cX1_step 22 = .ok (.iconst (-1), 1) := by decide +kernel
theorem dX1_step_23 : decode cX1_step 23 = .ok (.ireturn, 1) := by decide +kernel
theorem dX1_step_24 : decode cX1_step 24 = .ok (.aload_n 0, 1) := by decide +kernel
theorem dX1_step_25 : decode cX1_step 25 = .ok (.getfield 122, 3) := by decide +kernel
theorem dX1_step_28 : decode cX1_step 28 = .ok (.bipush 10, 2) := by decide +kernel
theorem dX1_step_30 : decode cX1_step 30 = .ok (.if_icmp .ne 6, 3) := by decide +kernel
theorem dX1_step_33 : decode cX1_step 33 = .ok (.bipush (-3), 2) := by decide +kernel
theorem dX1_step_35 : decode cX1_step 35 = .ok (.ireturn, 1) := by decide +kernel
theorem dX1_step_36 : decode cX1_step 36 = .ok (.aload_n 0, 1) := by decide +kernel
theorem dX1_step_37 : decode cX1_step 37 = .ok (.getfield 29, 3) := by decide +kernel
theorem dX1_step_40 : decode cX1_step 40 = .ok (.aload_n 0, 1) := by decide +kernel
theorem dX1_step_41 : decode cX1_step 41 = .ok (.getfield 122, 3) := by decide +kernel
theorem dX1_step_44 : decode cX1_step 44 = .ok (.iload_n 1, 1) := by decide +kernel
theorem dX1_step_45 : decode cX1_step 45 = .ok (.iastore, 1) := by decide +kernel
theorem dX1_step_46 : decode cX1_step 46 = .ok (.aload_n 0, 1) := by decide +kernel
theorem dX1_step_47 : decode cX1_step 47 = .ok (.getfield 32, 3) := by decide +kernel
theorem dX1_step_50 : decode cX1_step 50 = .ok (.aload_n 0, 1) := by decide +kernel
theorem dX1_step_51 : decode cX1_step 51 = .ok (.getfield 122, 3) := by decide +kernel
theorem dX1_step_54 : decode cX1_step 54 = .ok (.iload_n 2, 1) := by decide +kernel
theorem dX1_step_55 : decode cX1_step 55 = .ok (.iastore, 1) := by decide +kernel
theorem dX1_step_56 : decode cX1_step 56 = .ok (.aload_n 0, 1) := by decide +kernel
theorem dX1_step_57 : decode cX1_step 57 = .ok (.dup, 1) := by decide +kernel
theorem dX1_step_58 : decode cX1_step 58 = .ok (.getfield 122, 3) := by decide +kernel
theorem dX1_step_61 : decode cX1_step 61 = .ok (.iconst 1, 1) := by decide +kernel
theorem dX1_step_62 : decode cX1_step 62 = .ok (.iadd, 1) := by decide +kernel
theorem dX1_step_63 : decode cX1_step 63 = .ok (.putfield 122, 3) := by decide +kernel
theorem dX1_step_66 : decode cX1_step 66 = .ok (.aload_n 0, 1) := by decide +kernel
theorem dX1_step_67 : decode cX1_step 67 = .ok (.getfield 122, 3) := by decide +kernel
theorem dX1_step_70 : decode cX1_step 70 = .ok (.iconst 1, 1) := by decide +kernel
theorem dX1_step_71 : decode cX1_step 71 = .ok (.isub, 1) := by decide +kernel
theorem dX1_step_72 : decode cX1_step 72 = .ok (.ireturn, 1) := by decide +kernel
theorem dX1_clear_0 : decode cX1_clear 0 = .ok (.aload_n 0, 1) := by decide +kernel
theorem dX1_clear_1 : decode cX1_clear 1 = .ok (.getfield 122, 3) := by decide +kernel
theorem dX1_clear_4 : decode cX1_clear 4 = .ok (.istore_n 1, 1) := by decide +kernel
theorem dX1_clear_5 : decode cX1_clear 5 = .ok (.aload_n 0, 1) := by decide +kernel
theorem dX1_clear_6 : decode cX1_clear 6 = .ok (.iconst 0, 1) := by decide +kernel
theorem dX1_clear_7 : decode cX1_clear 7 = .ok (.putfield 122, 3) := by decide +kernel
theorem dX1_clear_10 : decode cX1_clear 10 = .ok (.iload_n 1, 1) := by decide +kernel
theorem dX1_clear_11 : decode cX1_clear 11 = .ok (.ireturn, 1) := by decide +kernel
set_option maxRecDepth 20000 in
theorem ggX1_far_X1_size : GoodIn wsX1_far wsX1_size := goodIn_r _ [4] (by decide +kernel) (by decide +kernel)
set_option maxRecDepth 20000 in
theorem gX1_far_X1_size : GoodIn wsX1_far (va_wsS RX1 82 yX1_size wsX1_size) := goodIn_app (goodIn_of _ (by decide +kernel)) ggX1_far_X1_size
theorem dX1_far_0 : decode cX1_far 0 = .ok (.iload_n 0, 1) := by decide +kernel
theorem dX1_far_1 : decode cX1_far 1 = .ok (.invokestatic 82, 3) := by decide +kernel
theorem dX1_far_4 : decode cX1_far 4 = .ok (.iload_n 1, 1) := by decide +kernel
theorem dX1_far_5 : decode cX1_far 5 = .ok (.invokestatic 82, 3) := by decide +kernel
theorem dX1_far_8 : decode cX1_far 8 = .ok (.if_icmp .le 10, 3) := by decide +kernel
theorem dX1_far_11 : decode cX1_far 11 = .ok (.iload_n 0, 1) := by decide +kernel
theorem dX1_far_12 : decode cX1_far 12 = .ok (.invokestatic 82, 3) := by decide +kernel
theorem dX1_far_15 : decode cX1_far 15 = .ok (.goto 7, 3) := by decide +kernel
theorem dX1_far_18 : decode cX1_far 18 = .ok (.iload_n 1, 1) := by decide +kernel
theorem dX1_far_19 : decode cX1_far 19 = .ok (.invokestatic 82, 3) := by decide +kernel
theorem dX1_far_22 : decode cX1_far 22 = .ok (.ireturn, 1) := by decide +kernel
set_option maxRecDepth 20000 in
theorem ggX1_strayOf_X1_far : GoodIn wsX1_strayOf wsX1_far := goodIn_r _ [7, 8, 9, 6, 10] (by decide +kernel) (by decide +kernel)
set_option maxRecDepth 20000 in
theorem gX1_strayOf_X1_far : GoodIn wsX1_strayOf (va_wsS RX1 125 yX1_far wsX1_far) := goodIn_app (goodIn_of _ (by decide +kernel)) ggX1_strayOf_X1_far
theorem dX1_strayOf_0 : decode cX1_strayOf 0 = .ok (.iconst 0, 1) := by decide +kernel
theorem dX1_strayOf_1 : decode cX1_strayOf 1 = .ok (.istore_n 2, 1) := by decide +kernel
theorem dX1_strayOf_2 : decode cX1_strayOf 2 = .ok (.iconst 0, 1) := by decide +kernel
theorem dX1_strayOf_3 : decode cX1_strayOf 3 = .ok (.istore_n 3, 1) := by decide +kernel
theorem dX1_strayOf_4 : decode cX1_strayOf 4 = .ok (.iconst 0, 1) := by decide +kernel
theorem dX1_strayOf_5 : decode cX1_strayOf 5 = .ok (.istore 4, 2) := by decide +kernel
theorem dX1_strayOf_7 : decode cX1_strayOf 7 = .ok (.iconst 0, 1) := by decide +kernel
theorem dX1_strayOf_8 : decode cX1_strayOf 8 = .ok (.istore 5, 2) := by decide +kernel
theorem dX1_strayOf_10 : decode cX1_strayOf 10 = .ok (.iload 5, 2) := by decide +kernel
theorem dX1_strayOf_12 : decode cX1_strayOf 12 = .ok (.aload_n 0, 1) := by decide +kernel
theorem dX1_strayOf_13 : decode cX1_strayOf 13 = .ok (.getfield 122, 3) := by decide +kernel
theorem dX1_strayOf_16 : decode cX1_strayOf 16 = .ok (.if_icmp .ge 74, 3) := by decide +kernel
theorem dX1_strayOf_19 : decode cX1_strayOf 19 = .ok (.iload_n 1, 1) := by decide +kernel
theorem dX1_strayOf_20 : decode cX1_strayOf 20 = .ok (.iload 5, 2) := by decide +kernel
theorem dX1_strayOf_22 : decode cX1_strayOf 22 = .ok (.ishr, 1) := by decide +kernel
theorem dX1_strayOf_23 : decode cX1_strayOf 23 = .ok (.iconst 1, 1) := by decide +kernel
theorem dX1_strayOf_24 : decode cX1_strayOf 24 = .ok (.iand, 1) := by decide +kernel
theorem dX1_strayOf_25 : decode cX1_strayOf 25 = .ok (.iconst 1, 1) := by decide +kernel
theorem dX1_strayOf_26 : decode cX1_strayOf 26 = .ok (.if_icmp .ne 7, 3) := by decide +kernel
theorem dX1_strayOf_29 : decode cX1_strayOf 29 = .ok (.iconst (-1), 1) := by decide +kernel
theorem dX1_strayOf_30 : decode cX1_strayOf 30 = .ok (.goto 4, 3) := by decide +kernel
theorem dX1_strayOf_33 : decode cX1_strayOf 33 = .ok (.iconst 1, 1) := by decide +kernel
theorem dX1_strayOf_34 : decode cX1_strayOf 34 = .ok (.istore 6, 2) := by decide +kernel
theorem dX1_strayOf_36 : decode cX1_strayOf 36 = .ok (.iload_n 2, 1) := by decide +kernel
theorem dX1_strayOf_37 : decode cX1_strayOf 37 = .ok (.iload 6, 2) := by decide +kernel
theorem dX1_strayOf_39 : decode cX1_strayOf 39 = .ok (.aload_n 0, 1) := by decide +kernel
theorem dX1_strayOf_40 : decode cX1_strayOf 40 = .ok (.getfield 29, 3) := by decide +kernel
theorem dX1_strayOf_43 : decode cX1_strayOf 43 = .ok (.iload 5, 2) := by decide +kernel
theorem dX1_strayOf_45 : decode cX1_strayOf 45 = .ok (.iaload, 1) := by decide +kernel
theorem dX1_strayOf_46 : decode cX1_strayOf 46 = .ok (.imul, 1) := by decide +kernel
theorem dX1_strayOf_47 : decode cX1_strayOf 47 = .ok (.iadd, 1) := by decide +kernel
theorem dX1_strayOf_48 : decode cX1_strayOf 48 = .ok (.istore_n 2, 1) := by decide +kernel
theorem dX1_strayOf_49 : decode cX1_strayOf 49 = .ok (.iload_n 3, 1) := by decide +kernel
theorem dX1_strayOf_50 : decode cX1_strayOf 50 = .ok (.iload 6, 2) := by decide +kernel
theorem dX1_strayOf_52 : decode cX1_strayOf 52 = .ok (.aload_n 0, 1) := by decide +kernel
theorem dX1_strayOf_53 : decode cX1_strayOf 53 = .ok (.getfield 32, 3) := by decide +kernel
theorem dX1_strayOf_56 : decode cX1_strayOf 56 = .ok (.iload 5, 2) := by decide +kernel
theorem dX1_strayOf_58 : decode cX1_strayOf 58 = .ok (.iaload, 1) := by decide +kernel
theorem dX1_strayOf_59 : decode cX1_strayOf 59 = .ok (.imul, 1) := by decide +kernel
theorem dX1_strayOf_60 : decode cX1_strayOf 60 = .ok (.iadd, 1) := by decide +kernel
theorem dX1_strayOf_61 : decode cX1_strayOf 61 = .ok (.istore_n 3, 1) := by decide +kernel
theorem dX1_strayOf_62 : decode cX1_strayOf 62 = .ok (.iload_n 2, 1) := by decide +kernel
theorem dX1_strayOf_63 : decode cX1_strayOf 63 = .ok (.iload_n 3, 1) := by decide +kernel
theorem dX1_strayOf_64 : decode cX1_strayOf 64 = .ok (.invokestatic 125, 3) := by decide +kernel
theorem dX1_strayOf_67 : decode cX1_strayOf 67 = .ok (.iload 4, 2) := by decide +kernel
theorem dX1_strayOf_69 : decode cX1_strayOf 69 = .ok (.if_icmp .le 11, 3) := by decide +kernel
theorem dX1_strayOf_72 : decode cX1_strayOf 72 = .ok (.iload_n 2, 1) := by decide +kernel
theorem dX1_strayOf_73 : decode cX1_strayOf 73 = .ok (.iload_n 3, 1) := by decide +kernel
theorem dX1_strayOf_74 : decode cX1_strayOf 74 = .ok (.invokestatic 125, 3) := by decide +kernel
theorem dX1_strayOf_77 : decode cX1_strayOf 77 = .ok (.goto 5, 3) := by decide +kernel
theorem dX1_strayOf_80 : decode cX1_strayOf 80 = .ok (.iload 4, 2) := by decide +kernel
theorem dX1_strayOf_82 : decode cX1_strayOf 82 = .ok (.istore 4, 2) := by decide +kernel
theorem dX1_strayOf_84 : decode cX1_strayOf 84 = .ok (.iinc 5 1, 3) := by decide +kernel
theorem dX1_strayOf_87 : decode cX1_strayOf 87 = .ok (.goto (-77), 3) := by decide +kernel
theorem dX1_strayOf_90 : decode cX1_strayOf 90 = .ok (.iload 4, 2) := by decide +kernel
theorem dX1_strayOf_92 : decode cX1_strayOf 92 = .ok (.ireturn, 1) := by decide +kernel
set_option maxRecDepth 20000 in
theorem ggX1_stray_X1_in : GoodIn wsX1_stray wsX1_in := goodIn_r _ [5] (by decide +kernel) (by decide +kernel)
set_option maxRecDepth 20000 in
theorem gX1_stray_X1_in : GoodIn wsX1_stray (va_wsS RX1 44 yX1_in wsX1_in) := goodIn_app (goodIn_of _ (by decide +kernel)) ggX1_stray_X1_in
set_option maxRecDepth 20000 in
theorem ggX1_stray_X1_strayOf : GoodIn wsX1_stray wsX1_strayOf := goodIn_r _ [9, 1, 10, 11, 12, 13, 4, 14, 15, 16, 17, 18, 19, 20, 21, 22, 23, 24, 25, 26, 27, 28, 29, 30, 31, 32, 33] (by decide +kernel) (by decide +kernel)
set_option maxRecDepth 20000 in
theorem gX1_stray_X1_strayOf : GoodIn wsX1_stray (wsV RX1 128 RX1 yX1_strayOf wsX1_strayOf) := goodIn_app (goodIn_of _ (by decide +kernel)) ggX1_stray_X1_strayOf
theorem dX1_stray_0 : decode cX1_stray 0 = .ok (.iload_n 1, 1) := by decide +kernel
theorem dX1_stray_1 : decode cX1_stray 1 = .ok (.iconst 0, 1) := by decide +kernel
theorem dX1_stray_2 : decode cX1_stray 2 = .ok (.iconst 1, 1) := by decide +kernel
theorem dX1_stray_3 : decode cX1_stray 3 = .ok (.aload_n 0, 1) := by decide +kernel
theorem dX1_stray_4 : decode cX1_stray 4 = .ok (.getfield 122, 3) := by decide +kernel
theorem dX1_stray_7 : decode cX1_stray 7 = .ok (.ishl, 1) := by decide +kernel
theorem dX1_stray_8 : decode cX1_stray 8 = .ok (.iconst 1, 1) := by decide +kernel
theorem dX1_stray_9 : decode cX1_stray 9 = .ok (.isub, 1) := by decide +kernel
theorem dX1_stray_10 : decode cX1_stray 10 = .ok (.invokestatic 44, 3) := by decide +kernel
theorem dX1_stray_13 : decode cX1_stray 13 = .ok (.ifCond .eq 11, 3) := by decide +kernel
theorem dX1_stray_16 : decode cX1_stray 16 = .ok (.aload_n 0, 1) := by decide +kernel
theorem dX1_stray_17 : decode cX1_stray 17 = .ok (.iload_n 1, 1) := by decide +kernel
theorem dX1_stray_18 : decode cX1_stray 18 = .ok (.invokevirtual 128, 3) := by decide +kernel
theorem dX1_stray_21 : decode cX1_stray 21 = .ok (.goto 4, 3) := by decide +kernel
theorem dX1_stray_24 : decode cX1_stray 24 = .ok (.iconst (-1), 1) := by decide +kernel
theorem dX1_stray_25 : decode cX1_stray 25 = .ok (.ireturn, 1) := by decide +kernel
set_option maxRecDepth 20000 in
theorem ggX1_nearest_X1_far : GoodIn wsX1_nearest wsX1_far := goodIn_r _ [7, 8, 9, 6, 10] (by decide +kernel) (by decide +kernel)
set_option maxRecDepth 20000 in
theorem gX1_nearest_X1_far : GoodIn wsX1_nearest (va_wsS RX1 125 yX1_far wsX1_far) := goodIn_app (goodIn_of _ (by decide +kernel)) ggX1_nearest_X1_far
theorem dX1_nearest_0 : decode cX1_nearest 0 = .ok (.iconst 0, 1) := by decide +kernel
theorem dX1_nearest_1 : decode cX1_nearest 1 = .ok (.istore_n 1, 1) := by decide +kernel
theorem dX1_nearest_2 : decode cX1_nearest 2 = .ok (.iconst 0, 1) := by decide +kernel
theorem dX1_nearest_3 : decode cX1_nearest 3 = .ok (.istore_n 2, 1) := by decide +kernel
theorem dX1_nearest_4 : decode cX1_nearest 4 = .ok (.iconst 0, 1) := by decide +kernel
theorem dX1_nearest_5 : decode cX1_nearest 5 = .ok (.istore_n 3, 1) := by decide +kernel
theorem dX1_nearest_6 : decode cX1_nearest 6 = .ok (.iconst 0, 1) := by decide +kernel
theorem dX1_nearest_7 : decode cX1_nearest 7 = .ok (.istore 4, 2) := by decide +kernel
theorem dX1_nearest_9 : decode cX1_nearest 9 = .ok (.iload 4, 2) := by decide +kernel
theorem dX1_nearest_11 : decode cX1_nearest 11 = .ok (.aload_n 0, 1) := by decide +kernel
theorem dX1_nearest_12 : decode cX1_nearest 12 = .ok (.getfield 122, 3) := by decide +kernel
theorem dX1_nearest_15 : decode cX1_nearest 15 = .ok (.if_icmp .ge 115, 3) := by decide +kernel
theorem dX1_nearest_18 : decode cX1_nearest 18 = .ok (.iload_n 1, 1) := by decide +kernel
theorem dX1_nearest_19 : decode cX1_nearest 19 = .ok (.aload_n 0, 1) := by decide +kernel
theorem dX1_nearest_20 : decode cX1_nearest 20 = .ok (.getfield 29, 3) := by decide +kernel
theorem dX1_nearest_23 : decode cX1_nearest 23 = .ok (.iload 4, 2) := by decide +kernel
theorem dX1_nearest_25 : decode cX1_nearest 25 = .ok (.iaload, 1) := by decide +kernel
theorem dX1_nearest_26 : decode cX1_nearest 26 = .ok (.isub, 1) := by decide +kernel
theorem dX1_nearest_27 : decode cX1_nearest 27 = .ok (.iload_n 2, 1) := by decide +kernel
theorem dX1_nearest_28 : decode cX1_nearest 28 = .ok (.aload_n 0, 1) := by decide +kernel
theorem dX1_nearest_29 : decode cX1_nearest 29 = .ok (.getfield 32, 3) := by decide +kernel
theorem dX1_nearest_32 : decode cX1_nearest 32 = .ok (.iload 4, 2) := by decide +kernel
theorem dX1_nearest_34 : decode cX1_nearest 34 = .ok (.iaload, 1) := by decide +kernel
theorem dX1_nearest_35 : decode cX1_nearest 35 = .ok (.isub, 1) := by decide +kernel
theorem dX1_nearest_36 : decode cX1_nearest 36 = .ok (.invokestatic 125, 3) := by decide +kernel
theorem dX1_nearest_39 : decode cX1_nearest 39 = .ok (.iload_n 1, 1) := by decide +kernel
theorem dX1_nearest_40 : decode cX1_nearest 40 = .ok (.aload_n 0, 1) := by decide +kernel
theorem dX1_nearest_41 : decode cX1_nearest 41 = .ok (.getfield 29, 3) := by decide +kernel
theorem dX1_nearest_44 : decode cX1_nearest 44 = .ok (.iload 4, 2) := by decide +kernel
theorem dX1_nearest_46 : decode cX1_nearest 46 = .ok (.iaload, 1) := by decide +kernel
theorem dX1_nearest_47 : decode cX1_nearest 47 = .ok (.iadd, 1) := by decide +kernel
theorem dX1_nearest_48 : decode cX1_nearest 48 = .ok (.iload_n 2, 1) := by decide +kernel
theorem dX1_nearest_49 : decode cX1_nearest 49 = .ok (.aload_n 0, 1) := by decide +kernel
theorem dX1_nearest_50 : decode cX1_nearest 50 = .ok (.getfield 32, 3) := by decide +kernel
theorem dX1_nearest_53 : decode cX1_nearest 53 = .ok (.iload 4, 2) := by decide +kernel
theorem dX1_nearest_55 : decode cX1_nearest 55 = .ok (.iaload, 1) := by decide +kernel
theorem dX1_nearest_56 : decode cX1_nearest 56 = .ok (.iadd, 1) := by decide +kernel
theorem dX1_nearest_57 : decode cX1_nearest 57 = .ok (.invokestatic 125, 3) := by decide +kernel
theorem dX1_nearest_60 : decode cX1_nearest 60 = .ok (.if_icmp .ge 7, 3) := by decide +kernel
theorem dX1_nearest_63 : decode cX1_nearest 63 = .ok (.iconst 1, 1) := by decide +kernel
theorem dX1_nearest_64 : decode cX1_nearest 64 = .ok (.goto 4, 3) := by decide +kernel
theorem dX1_nearest_67 : decode cX1_nearest 67 = .ok (.iconst 0, 1) := by decide +kernel
theorem dX1_nearest_68 : decode cX1_nearest 68 = .ok (.istore 5, 2) := by decide +kernel
theorem dX1_nearest_70 : decode cX1_nearest 70 = .ok (.iload 5, 2) := by decide +kernel
theorem dX1_nearest_72 : decode cX1_nearest 72 = .ok (.ifCond .eq 7, 3) := by decide +kernel
theorem dX1_nearest_75 : decode cX1_nearest 75 = .ok (.iconst (-1), 1) := by decide +kernel
theorem dX1_nearest_76 : decode cX1_nearest 76 = .ok (.goto 4, 3) := by decide +kernel
theorem dX1_nearest_79 : decode cX1_nearest 79 = .ok (.iconst 1, 1) := by decide +kernel
theorem dX1_nearest_80 : decode cX1_nearest 80 = .ok (.istore 6, 2) := by decide +kernel
theorem dX1_nearest_82 : decode cX1_nearest 82 = .ok (.iload_n 1, 1) := by decide +kernel
theorem dX1_nearest_83 : decode cX1_nearest 83 = .ok (.iload 6, 2) := by decide +kernel
theorem dX1_nearest_85 : decode cX1_nearest 85 = .ok (.aload_n 0, 1) := by decide +kernel
theorem dX1_nearest_86 : decode cX1_nearest 86 = .ok (.getfield 29, 3) := by decide +kernel
theorem dX1_nearest_89 : decode cX1_nearest 89 = .ok (.iload 4, 2) := by decide +kernel
theorem dX1_nearest_91 : decode cX1_nearest 91 = .ok (.iaload, 1) := by decide +kernel
theorem dX1_nearest_92 : decode cX1_nearest 92 = .ok (.imul, 1) := by decide +kernel
theorem dX1_nearest_93 : decode cX1_nearest 93 = .ok (.iadd, 1) := by decide +kernel
theorem dX1_nearest_94 : decode cX1_nearest 94 = .ok (.istore_n 1, 1) := by decide +kernel
theorem dX1_nearest_95 : decode cX1_nearest 95 = .ok (.iload_n 2, 1) := by decide +kernel
theorem dX1_nearest_96 : decode cX1_nearest 96 = .ok (.iload 6, 2) := by decide +kernel
theorem dX1_nearest_98 : decode cX1_nearest 98 = .ok (.aload_n 0, 1) := by decide +kernel
theorem dX1_nearest_99 : decode cX1_nearest 99 = .ok (.getfield 32, 3) := by decide +kernel
theorem dX1_nearest_102 : decode cX1_nearest 102 = .ok (.iload 4, 2) := by decide +kernel
theorem dX1_nearest_104 : decode cX1_nearest 104 = .ok (.iaload, 1) := by decide +kernel
theorem dX1_nearest_105 : decode cX1_nearest 105 = .ok (.imul, 1) := by decide +kernel
theorem dX1_nearest_106 : decode cX1_nearest 106 = .ok (.iadd, 1) := by decide +kernel
theorem dX1_nearest_107 : decode cX1_nearest 107 = .ok (.istore_n 2, 1) := by decide +kernel
theorem dX1_nearest_108 : decode cX1_nearest 108 = .ok (.iload_n 3, 1) := by decide +kernel
theorem dX1_nearest_109 : decode cX1_nearest 109 = .ok (.iload 5, 2) := by decide +kernel
theorem dX1_nearest_111 : decode cX1_nearest 111 = .ok (.ifCond .eq 10, 3) := by decide +kernel
theorem dX1_nearest_114 : decode cX1_nearest 114 = .ok (.iconst 1, 1) := by decide +kernel
theorem dX1_nearest_115 : decode cX1_nearest 115 = .ok (.iload 4, 2) := by decide +kernel
theorem dX1_nearest_117 : decode cX1_nearest 117 = .ok (.ishl, 1) := by decide +kernel
theorem dX1_nearest_118 : decode cX1_nearest 118 = .ok (.goto 4, 3) := by decide +kernel
theorem dX1_nearest_121 : decode cX1_nearest 121 = .ok (.iconst 0, 1) := by decide +kernel
theorem dX1_nearest_122 : decode cX1_nearest 122 = .ok (.ior, 1) := by decide +kernel
theorem dX1_nearest_123 : decode cX1_nearest 123 = .ok (.istore_n 3, 1) := by decide +kernel
theorem dX1_nearest_124 : decode cX1_nearest 124 = .ok (.iinc 4 1, 3) := by decide +kernel
theorem dX1_nearest_127 : decode cX1_nearest 127 = .ok (.goto (-118), 3) := by decide +kernel
theorem dX1_nearest_130 : decode cX1_nearest 130 = .ok (.iload_n 3, 1) := by decide +kernel
theorem dX1_nearest_131 : decode cX1_nearest 131 = .ok (.ireturn, 1) := by decide +kernel
set_option maxRecDepth 20000 in
theorem ggX1_straight_X1_in : GoodIn wsX1_straight wsX1_in := goodIn_r _ [5] (by decide +kernel) (by decide +kernel)
set_option maxRecDepth 20000 in
theorem gX1_straight_X1_in : GoodIn wsX1_straight (va_wsS RX1 44 yX1_in wsX1_in) := goodIn_app (goodIn_of _ (by decide +kernel)) ggX1_straight_X1_in
set_option maxRecDepth 20000 in
theorem ggX1_straight_X1_nearest : GoodIn wsX1_straight wsX1_nearest := goodIn_r _ [9, 1, 10, 11, 12, 13, 4, 14, 15, 16, 17, 22, 23, 24, 25, 26, 27, 28, 29, 30, 31, 32, 33, 34, 35, 36, 37] (by decide +kernel) (by decide +kernel)
set_option maxRecDepth 20000 in
theorem gX1_straight_X1_nearest : GoodIn wsX1_straight (wsV RX1 131 RX1 yX1_nearest wsX1_nearest) := goodIn_app (goodIn_of _ (by decide +kernel)) ggX1_straight_X1_nearest
set_option maxRecDepth 20000 in
theorem ggX1_straight_X1_strayOf : GoodIn wsX1_straight wsX1_strayOf := goodIn_r _ [21, 1, 10, 11, 12, 13, 4, 14, 15, 16, 17, 22, 23, 24, 25, 26, 27, 28, 29, 30, 31, 32, 33, 34, 35, 36, 37] (by decide +kernel) (by decide +kernel)
set_option maxRecDepth 20000 in
theorem gX1_straight_X1_strayOf : GoodIn wsX1_straight (wsV RX1 128 RX1 yX1_strayOf wsX1_strayOf) := goodIn_app (goodIn_of _ (by decide +kernel)) ggX1_straight_X1_strayOf
theorem dX1_straight_0 : decode cX1_straight 0 = .ok (.iload_n 1, 1) := by decide +kernel
theorem dX1_straight_1 : decode cX1_straight 1 = .ok (.iconst 0, 1) := by decide +kernel
theorem dX1_straight_2 : decode cX1_straight 2 = .ok (.iconst 2, 1) := by decide +kernel
theorem dX1_straight_3 : decode cX1_straight 3 = .ok (.invokestatic 44, 3) := by decide +kernel
theorem dX1_straight_6 : decode cX1_straight 6 = .ok (.ifCond .ne 5, 3) := by decide +kernel
theorem dX1_straight_9 : decode cX1_straight 9 = .ok (.iconst (-1), 1) := by decide +kernel
theorem dX1_straight_10 : decode cX1_straight 10 = .ok (.ireturn, 1) := by decide +kernel
theorem dX1_straight_11 : decode cX1_straight 11 = .ok (.iload_n 1, 1) := by decide +kernel
theorem dX1_straight_12 : decode cX1_straight 12 = .ok (.iconst 2, 1) := by decide +kernel
theorem dX1_straight_13 : decode cX1_straight 13 = .ok (.if_icmp .ne 8, 3) := by decide +kernel
theorem dX1_straight_16 : decode cX1_straight 16 = .ok (.aload_n 0, 1) := by decide +kernel
theorem dX1_straight_17 : decode cX1_straight 17 = .ok (.invokevirtual 131, 3) := by decide +kernel
theorem dX1_straight_20 : decode cX1_straight 20 = .ok (.ireturn, 1) := by decide +kernel
theorem dX1_straight_21 : decode cX1_straight 21 = .ok (.iconst 0, 1) := by decide +kernel
theorem dX1_straight_22 : decode cX1_straight 22 = .ok (.istore_n 2, 1) := by decide +kernel
theorem dX1_straight_23 : decode cX1_straight 23 = .ok (.aload_n 0, 1) := by decide +kernel
theorem dX1_straight_24 : decode cX1_straight 24 = .ok (.iconst 0, 1) := by decide +kernel
theorem dX1_straight_25 : decode cX1_straight 25 = .ok (.invokevirtual 128, 3) := by decide +kernel
theorem dX1_straight_28 : decode cX1_straight 28 = .ok (.istore_n 3, 1) := by decide +kernel
theorem dX1_straight_29 : decode cX1_straight 29 = .ok (.iconst 1, 1) := by decide +kernel
theorem dX1_straight_30 : decode cX1_straight 30 = .ok (.istore 4, 2) := by decide +kernel
theorem dX1_straight_32 : decode cX1_straight 32 = .ok (.iload 4, 2) := by decide +kernel
theorem dX1_straight_34 : decode cX1_straight 34 = .ok (.iconst 1, 1) := by decide +kernel
theorem dX1_straight_35 : decode cX1_straight 35 = .ok (.aload_n 0, 1) := by decide +kernel
theorem dX1_straight_36 : decode cX1_straight 36 = .ok (.getfield 122, 3) := by decide +kernel
theorem dX1_straight_39 : decode cX1_straight 39 = .ok (.ishl, 1) := by decide +kernel
theorem dX1_straight_40 : decode cX1_straight 40 = .ok (.if_icmp .ge 43, 3) := by decide +kernel
theorem dX1_straight_43 : decode cX1_straight 43 = .ok (.aload_n 0, 1) := by decide +kernel
theorem dX1_straight_44 : decode cX1_straight 44 = .ok (.iload 4, 2) := by decide +kernel
theorem dX1_straight_46 : decode cX1_straight 46 = .ok (.invokevirtual 128, 3) := by decide +kernel
theorem dX1_straight_49 : decode cX1_straight 49 = .ok (.istore 5, 2) := by decide +kernel
theorem dX1_straight_51 : decode cX1_straight 51 = .ok (.iload 5, 2) := by decide +kernel
theorem dX1_straight_53 : decode cX1_straight 53 = .ok (.iload_n 3, 1) := by decide +kernel
theorem dX1_straight_54 : decode cX1_straight 54 = .ok (.if_icmp .ge 8, 3) := by decide +kernel
theorem dX1_straight_57 : decode cX1_straight 57 = .ok (.iload 4, 2) := by decide +kernel
theorem dX1_straight_59 : decode cX1_straight 59 = .ok (.goto 4, 3) := by decide +kernel
theorem dX1_straight_62 : decode cX1_straight 62 = .ok (.iload_n 2, 1) := by decide +kernel
theorem dX1_straight_63 : decode cX1_straight 63 = .ok (.istore_n 2, 1) := by decide +kernel
theorem dX1_straight_64 : decode cX1_straight 64 = .ok (.iload 5, 2) := by decide +kernel
theorem dX1_straight_66 : decode cX1_straight 66 = .ok (.iload_n 3, 1) := by decide +kernel
theorem dX1_straight_67 : decode cX1_straight 67 = .ok (.if_icmp .ge 8, 3) := by decide +kernel
theorem dX1_straight_70 : decode cX1_straight 70 = .ok (.iload 5, 2) := by decide +kernel
theorem dX1_straight_72 : decode cX1_straight 72 = .ok (.goto 4, 3) := by decide +kernel
theorem dX1_straight_75 : decode cX1_straight 75 = .ok (.iload_n 3, 1) := by decide +kernel
theorem dX1_straight_76 : decode cX1_straight 76 = .ok (.istore_n 3, 1) := by decide +kernel
theorem dX1_straight_77 : decode cX1_straight 77 = .ok (.iinc 4 1, 3) := by decide +kernel
theorem dX1_straight_80 : decode cX1_straight 80 = .ok (.goto (-48), 3) := by decide +kernel
theorem dX1_straight_83 : decode cX1_straight 83 = .ok (.iload_n 1, 1) := by decide +kernel
theorem dX1_straight_84 : decode cX1_straight 84 = .ok (.ifCond .ne 7, 3) := by decide +kernel
theorem dX1_straight_87 : decode cX1_straight 87 = .ok (.iload_n 3, 1) := by decide +kernel
theorem dX1_straight_88 : decode cX1_straight 88 = .ok (.goto 4, 3) := by decide +kernel
theorem dX1_straight_91 : decode cX1_straight 91 = .ok (.iload_n 2, 1) := by decide +kernel
theorem dX1_straight_92 : decode cX1_straight 92 = .ok (.ireturn, 1) := by decide +kernel
theorem dX1_count_0 : decode cX1_count 0 = .ok (.iconst 0, 1) := by decide +kernel
theorem dX1_count_1 : decode cX1_count 1 = .ok (.istore_n 2, 1) := by decide +kernel
theorem dX1_count_2 : decode cX1_count 2 = .ok (.iload_n 1, 1) := by decide +kernel
theorem dX1_count_3 : decode cX1_count 3 = .ok (.tableswitch 79 0 3 #[29, 34, 39, 44], 29) := by decide +kernel
theorem dX1_count_32 : decode cX1_count 32 = .ok (.aload_n 0, 1) := by decide +kernel
theorem dX1_count_33 : decode cX1_count 33 = .ok (.getfield 7, 3) := by decide +kernel
theorem dX1_count_36 : decode cX1_count 36 = .ok (.ireturn, 1) := by decide +kernel
theorem dX1_count_37 : decode cX1_count 37 = .ok (.aload_n 0, 1) := by decide +kernel
theorem dX1_count_38 : decode cX1_count 38 = .ok (.getfield 41, 3) := by decide +kernel
theorem dX1_count_41 : decode cX1_count 41 = .ok (.ireturn, 1) := by decide +kernel
theorem dX1_count_42 : decode cX1_count 42 = .ok (.aload_n 0, 1) := by decide +kernel
theorem dX1_count_43 : decode cX1_count 43 = .ok (.getfield 122, 3) := by decide +kernel
theorem dX1_count_46 : decode cX1_count 46 = .ok (.ireturn, 1) := by decide +kernel
theorem dX1_count_47 : decode cX1_count 47 = .ok (.iconst 0, 1) := by decide +kernel
theorem dX1_count_48 : decode cX1_count 48 = .ok (.istore_n 3, 1) := by decide +kernel
theorem dX1_count_49 : decode cX1_count 49 = .ok (.iload_n 3, 1) := by decide +kernel
theorem dX1_count_50 : decode cX1_count 50 = .ok (.aload_n 0, 1) := by decide +kernel
theorem dX1_count_51 : decode cX1_count 51 = .ok (.getfield 7, 3) := by decide +kernel
theorem dX1_count_54 : decode cX1_count 54 = .ok (.if_icmp .ge 26, 3) := by decide +kernel
theorem dX1_count_57 : decode cX1_count 57 = .ok (.iload_n 2, 1) := by decide +kernel
theorem dX1_count_58 : decode cX1_count 58 = .ok (.aload_n 0, 1) := by decide +kernel
theorem dX1_count_59 : decode cX1_count 59 = .ok (.getfield 17, 3) := by decide +kernel
theorem dX1_count_62 : decode cX1_count 62 = .ok (.iload_n 3, 1) := by decide +kernel
theorem dX1_count_63 : decode cX1_count 63 = .ok (.iaload, 1) := by decide +kernel
theorem dX1_count_64 : decode cX1_count 64 = .ok (.ifCond .ge 7, 3) := by decide +kernel
theorem dX1_count_67 : decode cX1_count 67 = .ok (.iconst 0, 1) := by decide +kernel
theorem dX1_count_68 : decode cX1_count 68 = .ok (.goto 4, 3) := by decide +kernel
theorem dX1_count_71 : decode cX1_count 71 = .ok (.iconst 1, 1) := by decide +kernel
theorem dX1_count_72 : decode cX1_count 72 = .ok (.iadd, 1) := by decide +kernel
theorem dX1_count_73 : decode cX1_count 73 = .ok (.istore_n 2, 1) := by decide +kernel
theorem dX1_count_74 : decode cX1_count 74 = .ok (.iinc 3 1, 3) := by decide +kernel
theorem dX1_count_77 : decode cX1_count 77 = .ok (.goto (-28), 3) := by decide +kernel
theorem dX1_count_80 : decode cX1_count 80 = .ok (.iload_n 2, 1) := by decide +kernel
theorem dX1_count_81 : decode cX1_count 81 = .ok (.ireturn, 1) := by decide +kernel
theorem dX1_count_82 : decode cX1_count 82 = .ok (.iconst (-1), 1) := by decide +kernel
theorem dX1_count_83 : decode cX1_count 83 = .ok (.ireturn, 1) := by decide +kernel
theorem dX1_trace_0 : decode cX1_trace 0 = .ok (.aload_n 0, 1) := by decide +kernel
theorem dX1_trace_1 : decode cX1_trace 1 = .ok (.getfield 62, 3) := by decide +kernel
theorem dX1_trace_4 : decode cX1_trace 4 = .ok (.lreturn, 1) := by decide +kernel
theorem dJ6_bitCount_0f7a4_0 : decode cJ6_bitCount_0f7a4 0 = .ok (.iload_n 0, 1) := by decide +kernel
theorem dJ6_bitCount_0f7a4_1 : decode cJ6_bitCount_0f7a4 1 = .ok (.iload_n 0, 1) := by decide +kernel
theorem dJ6_bitCount_0f7a4_2 : decode cJ6_bitCount_0f7a4 2 = .ok (.iconst 1, 1) := by decide +kernel
theorem dJ6_bitCount_0f7a4_3 : decode cJ6_bitCount_0f7a4 3 = .ok (.iushr, 1) := by decide +kernel
theorem dJ6_bitCount_0f7a4_4 : decode cJ6_bitCount_0f7a4 4 = .ok (.ldc_w 265, 3) := by decide +kernel
theorem dJ6_bitCount_0f7a4_7 : decode cJ6_bitCount_0f7a4 7 = .ok (.iand, 1) := by decide +kernel
theorem dJ6_bitCount_0f7a4_8 : decode cJ6_bitCount_0f7a4 8 = .ok (.isub, 1) := by decide +kernel
theorem dJ6_bitCount_0f7a4_9 : decode cJ6_bitCount_0f7a4 9 = .ok (.istore_n 0, 1) := by decide +kernel
theorem dJ6_bitCount_0f7a4_10 : decode cJ6_bitCount_0f7a4 10 = .ok (.iload_n 0, 1) := by decide +kernel
theorem dJ6_bitCount_0f7a4_11 : decode cJ6_bitCount_0f7a4 11 = .ok (.ldc_w 266, 3) := by decide +kernel
theorem dJ6_bitCount_0f7a4_14 : decode cJ6_bitCount_0f7a4 14 = .ok (.iand, 1) := by decide +kernel
theorem dJ6_bitCount_0f7a4_15 : decode cJ6_bitCount_0f7a4 15 = .ok (.iload_n 0, 1) := by decide +kernel
theorem dJ6_bitCount_0f7a4_16 : decode cJ6_bitCount_0f7a4 16 = .ok (.iconst 2, 1) := by decide +kernel
theorem dJ6_bitCount_0f7a4_17 : decode cJ6_bitCount_0f7a4 17 = .ok (.iushr, 1) := by decide +kernel
theorem dJ6_bitCount_0f7a4_18 : decode cJ6_bitCount_0f7a4 18 = .ok (.ldc_w 266, 3) := by decide +kernel
theorem dJ6_bitCount_0f7a4_21 : decode cJ6_bitCount_0f7a4 21 = .ok (.iand, 1) := by decide +kernel
theorem dJ6_bitCount_0f7a4_22 : decode cJ6_bitCount_0f7a4 22 = .ok (.iadd, 1) := by decide +kernel
theorem dJ6_bitCount_0f7a4_23 : decode cJ6_bitCount_0f7a4 23 = .ok (.istore_n 0, 1) := by decide +kernel
theorem dJ6_bitCount_0f7a4_24 : decode cJ6_bitCount_0f7a4 24 = .ok (.iload_n 0, 1) := by decide +kernel
theorem dJ6_bitCount_0f7a4_25 : decode cJ6_bitCount_0f7a4 25 = .ok (.iload_n 0, 1) := by decide +kernel
theorem dJ6_bitCount_0f7a4_26 : decode cJ6_bitCount_0f7a4 26 = .ok (.iconst 4, 1) := by decide +kernel
theorem dJ6_bitCount_0f7a4_27 : decode cJ6_bitCount_0f7a4 27 = .ok (.iushr, 1) := by decide +kernel
theorem dJ6_bitCount_0f7a4_28 : decode cJ6_bitCount_0f7a4 28 = .ok (.iadd, 1) := by decide +kernel
theorem dJ6_bitCount_0f7a4_29 : decode cJ6_bitCount_0f7a4 29 = .ok (.ldc_w 267, 3) := by decide +kernel
theorem dJ6_bitCount_0f7a4_32 : decode cJ6_bitCount_0f7a4 32 = .ok (.iand, 1) := by decide +kernel
theorem dJ6_bitCount_0f7a4_33 : decode cJ6_bitCount_0f7a4 33 = .ok (.istore_n 0, 1) := by decide +kernel
theorem dJ6_bitCount_0f7a4_34 : decode cJ6_bitCount_0f7a4 34 = .ok (.iload_n 0, 1) := by decide +kernel
theorem dJ6_bitCount_0f7a4_35 : decode cJ6_bitCount_0f7a4 35 = .ok (.iload_n 0, 1) := by decide +kernel
theorem dJ6_bitCount_0f7a4_36 : decode cJ6_bitCount_0f7a4 36 = .ok (.bipush 8, 2) := by decide +kernel
theorem dJ6_bitCount_0f7a4_38 : decode cJ6_bitCount_0f7a4 38 = .ok (.iushr, 1) := by decide +kernel
theorem dJ6_bitCount_0f7a4_39 : decode cJ6_bitCount_0f7a4 39 = .ok (.iadd, 1) := by decide +kernel
theorem dJ6_bitCount_0f7a4_40 : decode cJ6_bitCount_0f7a4 40 = .ok (.istore_n 0, 1) := by decide +kernel
theorem dJ6_bitCount_0f7a4_41 : decode cJ6_bitCount_0f7a4 41 = .ok (.iload_n 0, 1) := by decide +kernel
theorem dJ6_bitCount_0f7a4_42 : decode cJ6_bitCount_0f7a4 42 = .ok (.iload_n 0, 1) := by decide +kernel
theorem dJ6_bitCount_0f7a4_43 : decode cJ6_bitCount_0f7a4 43 = .ok (.bipush 16, 2) := by decide +kernel
theorem dJ6_bitCount_0f7a4_45 : decode cJ6_bitCount_0f7a4 45 = .ok (.iushr, 1) := by decide +kernel
theorem dJ6_bitCount_0f7a4_46 : decode cJ6_bitCount_0f7a4 46 = .ok (.iadd, 1) := by decide +kernel
theorem dJ6_bitCount_0f7a4_47 : decode cJ6_bitCount_0f7a4 47 = .ok (.istore_n 0, 1) := by decide +kernel
theorem dJ6_bitCount_0f7a4_48 : decode cJ6_bitCount_0f7a4 48 = .ok (.iload_n 0, 1) := by decide +kernel
theorem dJ6_bitCount_0f7a4_49 : decode cJ6_bitCount_0f7a4 49 = .ok (.bipush 63, 2) := by decide +kernel
theorem dJ6_bitCount_0f7a4_51 : decode cJ6_bitCount_0f7a4 51 = .ok (.iand, 1) := by decide +kernel
theorem dJ6_bitCount_0f7a4_52 : decode cJ6_bitCount_0f7a4 52 = .ok (.ireturn, 1) := by decide +kernel
theorem dJ9_abs_0f7a4_0 : decode cJ9_abs_0f7a4 0 = .ok (.iload_n 0, 1) := by decide +kernel
theorem dJ9_abs_0f7a4_1 : decode cJ9_abs_0f7a4 1 = .ok (.ifCond .ge 8, 3) := by decide +kernel
theorem dJ9_abs_0f7a4_4 : decode cJ9_abs_0f7a4 4 = .ok (.iload_n 0, 1) := by decide +kernel
theorem dJ9_abs_0f7a4_5 : decode cJ9_abs_0f7a4 5 = .ok (.ineg, 1) := by decide +kernel
theorem dJ9_abs_0f7a4_6 : decode cJ9_abs_0f7a4 6 = .ok (.goto 4, 3) := by decide +kernel
theorem dJ9_abs_0f7a4_9 : decode cJ9_abs_0f7a4 9 = .ok (.iload_n 0, 1) := by decide +kernel
theorem dJ9_abs_0f7a4_10 : decode cJ9_abs_0f7a4 10 = .ok (.ireturn, 1) := by decide +kernel
theorem dJ9_max_7cf53_0 : decode cJ9_max_7cf53 0 = .ok (.iload_n 0, 1) := by decide +kernel
theorem dJ9_max_7cf53_1 : decode cJ9_max_7cf53 1 = .ok (.iload_n 1, 1) := by decide +kernel
theorem dJ9_max_7cf53_2 : decode cJ9_max_7cf53 2 = .ok (.if_icmp .lt 7, 3) := by decide +kernel
theorem dJ9_max_7cf53_5 : decode cJ9_max_7cf53 5 = .ok (.iload_n 0, 1) := by decide +kernel
theorem dJ9_max_7cf53_6 : decode cJ9_max_7cf53 6 = .ok (.goto 4, 3) := by decide +kernel
theorem dJ9_max_7cf53_9 : decode cJ9_max_7cf53 9 = .ok (.iload_n 1, 1) := by decide +kernel
theorem dJ9_max_7cf53_10 : decode cJ9_max_7cf53 10 = .ok (.ireturn, 1) := by decide +kernel
theorem dJ9_min_7cf53_0 : decode cJ9_min_7cf53 0 = .ok (.iload_n 0, 1) := by decide +kernel
theorem dJ9_min_7cf53_1 : decode cJ9_min_7cf53 1 = .ok (.iload_n 1, 1) := by decide +kernel
theorem dJ9_min_7cf53_2 : decode cJ9_min_7cf53 2 = .ok (.if_icmp .gt 7, 3) := by decide +kernel
theorem dJ9_min_7cf53_5 : decode cJ9_min_7cf53 5 = .ok (.iload_n 0, 1) := by decide +kernel
theorem dJ9_min_7cf53_6 : decode cJ9_min_7cf53 6 = .ok (.goto 4, 3) := by decide +kernel
theorem dJ9_min_7cf53_9 : decode cJ9_min_7cf53 9 = .ok (.iload_n 1, 1) := by decide +kernel
theorem dJ9_min_7cf53_10 : decode cJ9_min_7cf53 10 = .ok (.ireturn, 1) := by decide +kernel
theorem dJ7_fill_53178_0 : decode cJ7_fill_53178 0 = .ok (.iconst 0, 1) := by decide +kernel
theorem dJ7_fill_53178_1 : decode cJ7_fill_53178 1 = .ok (.istore_n 2, 1) := by decide +kernel
theorem dJ7_fill_53178_2 : decode cJ7_fill_53178 2 = .ok (.aload_n 0, 1) := by decide +kernel
theorem dJ7_fill_53178_3 : decode cJ7_fill_53178 3 = .ok (.arraylength, 1) := by decide +kernel
theorem dJ7_fill_53178_4 : decode cJ7_fill_53178 4 = .ok (.istore_n 3, 1) := by decide +kernel
theorem dJ7_fill_53178_5 : decode cJ7_fill_53178 5 = .ok (.iload_n 2, 1) := by decide +kernel
theorem dJ7_fill_53178_6 : decode cJ7_fill_53178 6 = .ok (.iload_n 3, 1) := by decide +kernel
theorem dJ7_fill_53178_7 : decode cJ7_fill_53178 7 = .ok (.if_icmp .ge 13, 3) := by decide +kernel
theorem dJ7_fill_53178_10 : decode cJ7_fill_53178 10 = .ok (.aload_n 0, 1) := by decide +kernel
theorem dJ7_fill_53178_11 : decode cJ7_fill_53178 11 = .ok (.iload_n 2, 1) := by decide +kernel
theorem dJ7_fill_53178_12 : decode cJ7_fill_53178 12 = .ok (.iload_n 1, 1) := by decide +kernel
theorem dJ7_fill_53178_13 : decode cJ7_fill_53178 13 = .ok (.iastore, 1) := by decide +kernel
theorem dJ7_fill_53178_14 : decode cJ7_fill_53178 14 = .ok (.iinc 2 1, 3) := by decide +kernel
theorem dJ7_fill_53178_17 : decode cJ7_fill_53178 17 = .ok (.goto (-12), 3) := by decide +kernel
theorem dJ7_fill_53178_20 : decode cJ7_fill_53178 20 = .ok (.return_, 1) := by decide +kernel
set_option maxRecDepth 20000 in
theorem ggL_law_X0_init : GoodIn wsL_law wsX0_init := goodIn_r _ [8, 9, 10, 11, 12, 13, 14, 15, 16, 17, 18, 19, 20, 21, 22, 23, 24, 25, 26, 27, 28, 29, 30, 2, 31, 32, 33, 34, 35, 458, 459, 460, 461, 462, 463, 464, 465, 466, 467, 468, 469, 470, 471, 472] (by decide +kernel) (by decide +kernel)
set_option maxRecDepth 20000 in
theorem gL_law_X0_init : GoodIn wsL_law (wsX0_init) := ggL_law_X0_init
set_option maxRecDepth 20000 in
theorem ggL_law_X1_init : GoodIn wsL_law wsX1_init := goodIn_r _ [38, 39, 10, 11, 40, 13, 41, 42, 43, 44, 45, 46, 47, 48, 49, 50, 473, 474, 475, 476, 477, 478, 479, 480, 481, 482, 483, 484, 485, 486, 487, 488] (by decide +kernel) (by decide +kernel)
set_option maxRecDepth 20000 in
theorem gL_law_X1_init : GoodIn wsL_law (wsX1_init) := ggL_law_X1_init
set_option maxRecDepth 20000 in
theorem ggL_law_X0_things : GoodIn wsL_law wsX0_things := goodIn_r _ [54, 12, 16, 17, 19, 28, 29, 30, 2, 31, 32, 33, 34, 35, 14, 15, 458, 459, 460, 461, 462, 463, 464, 465, 466, 467, 468, 469, 470, 471, 472] (by decide +kernel) (by decide +kernel)
set_option maxRecDepth 20000 in
theorem gL_law_X0_things : GoodIn wsL_law (wsV RL 13 RX0 yX0_things wsX0_things) := goodIn_app (goodIn_of _ (by decide +kernel)) ggL_law_X0_things
set_option maxRecDepth 20000 in
theorem ggL_law_X1_things : GoodIn wsL_law wsX1_things := goodIn_r _ [58, 40, 50, 41, 42, 59, 60, 5, 61, 473, 474, 475, 476, 477, 478, 479, 480, 481, 482, 483, 484, 485, 486, 487, 488] (by decide +kernel) (by decide +kernel)
set_option maxRecDepth 20000 in
theorem gL_law_X1_things : GoodIn wsL_law (wsV RL 17 RX1 yX1_things wsX1_things) := goodIn_app (goodIn_of _ (by decide +kernel)) ggL_law_X1_things
set_option maxRecDepth 20000 in
theorem ggL_law_X0_swap : GoodIn wsL_law wsX0_swap := goodIn_r _ [65, 14, 19, 23, 20, 21, 22, 66, 67, 68, 2, 69, 12, 32, 33, 34, 35, 15, 70, 71, 72, 73, 74, 75, 76, 77, 78, 79, 80, 81, 82, 83, 458, 459, 460, 461, 462, 463, 464, 465, 466, 467, 468, 469, 470, 471, 472] (by decide +kernel) (by decide +kernel)
set_option maxRecDepth 20000 in
theorem gL_law_X0_swap : GoodIn wsL_law (wsV RL 18 RX0 yX0_swap wsX0_swap) := goodIn_app (goodIn_of _ (by decide +kernel)) ggL_law_X0_swap
set_option maxRecDepth 20000 in
theorem ggL_law_X1_swap : GoodIn wsL_law wsX1_swap := goodIn_r _ [87, 41, 88, 89, 90, 5, 91, 40, 59, 60, 61, 473, 474, 475, 476, 477, 478, 479, 480, 481, 482, 483, 484, 485, 486, 487, 488] (by decide +kernel) (by decide +kernel)
set_option maxRecDepth 20000 in
theorem gL_law_X1_swap : GoodIn wsL_law (wsV RL 22 RX1 yX1_swap wsX1_swap) := goodIn_app (goodIn_of _ (by decide +kernel)) ggL_law_X1_swap
set_option maxRecDepth 20000 in
theorem ggL_law_X0_second : GoodIn wsL_law wsX0_second := goodIn_r _ [95, 14, 66, 67, 68, 2, 69, 12, 458, 459, 460, 461, 462, 463, 464, 465, 466, 467, 468, 469, 470, 471, 472] (by decide +kernel) (by decide +kernel)
set_option maxRecDepth 20000 in
theorem gL_law_X0_second : GoodIn wsL_law (wsV RL 23 RX0 yX0_second wsX0_second) := goodIn_app (goodIn_of _ (by decide +kernel)) ggL_law_X0_second
set_option maxRecDepth 20000 in
theorem ggL_law_X1_second : GoodIn wsL_law wsX1_second := goodIn_r _ [99, 41, 88, 89, 90, 5, 91, 40, 59, 60, 61, 473, 474, 475, 476, 477, 478, 479, 480, 481, 482, 483, 484, 485, 486, 487, 488] (by decide +kernel) (by decide +kernel)
set_option maxRecDepth 20000 in
theorem gL_law_X1_second : GoodIn wsL_law (wsV RL 26 RX1 yX1_second wsX1_second) := goodIn_app (goodIn_of _ (by decide +kernel)) ggL_law_X1_second
set_option maxRecDepth 20000 in
theorem ggL_law_X0_heap : GoodIn wsL_law wsX0_heap := goodIn_r _ [103, 19, 20, 21, 22, 23, 104, 105, 106, 2, 107, 108, 109, 110, 111, 112, 113, 114, 115, 12, 66, 67, 68, 69, 70, 71, 72, 73, 74, 75, 76, 77, 15, 78, 79, 80, 81, 82, 83, 458, 459, 460, 461, 462, 463, 464, 465, 466, 467, 468, 469, 470, 471, 472] (by decide +kernel) (by decide +kernel)
set_option maxRecDepth 20000 in
theorem gL_law_X0_heap : GoodIn wsL_law (wsV RL 27 RX0 yX0_heap wsX0_heap) := goodIn_app (goodIn_of _ (by decide +kernel)) ggL_law_X0_heap
set_option maxRecDepth 20000 in
theorem ggL_law_X1_heap : GoodIn wsL_law wsX1_heap := goodIn_r _ [119, 50, 43, 44, 45, 120, 121, 122, 5, 123, 40, 59, 60, 61, 88, 89, 90, 91, 473, 474, 475, 476, 477, 478, 479, 480, 481, 482, 483, 484, 485, 486, 487, 488] (by decide +kernel) (by decide +kernel)
set_option maxRecDepth 20000 in
theorem gL_law_X1_heap : GoodIn wsL_law (wsV RL 31 RX1 yX1_heap wsX1_heap) := goodIn_app (goodIn_of _ (by decide +kernel)) ggL_law_X1_heap
set_option maxRecDepth 20000 in
theorem ggL_law_X0_drop : GoodIn wsL_law wsX0_drop := goodIn_r _ [127, 19, 458, 459, 460, 461, 462, 463, 464, 465, 466, 467, 468, 469, 470, 471, 472] (by decide +kernel) (by decide +kernel)
set_option maxRecDepth 20000 in
theorem gL_law_X0_drop : GoodIn wsL_law (wsV RL 32 RX0 yX0_drop wsX0_drop) := goodIn_app (goodIn_of _ (by decide +kernel)) ggL_law_X0_drop
set_option maxRecDepth 20000 in
theorem ggL_law_X1_drop : GoodIn wsL_law wsX1_drop := goodIn_r _ [131, 50, 473, 474, 475, 476, 477, 478, 479, 480, 481, 482, 483, 484, 485, 486, 487, 488] (by decide +kernel) (by decide +kernel)
set_option maxRecDepth 20000 in
theorem gL_law_X1_drop : GoodIn wsL_law (wsV RL 36 RX1 yX1_drop wsX1_drop) := goodIn_app (goodIn_of _ (by decide +kernel)) ggL_law_X1_drop
set_option maxRecDepth 20000 in
theorem ggL_law_X0_has : GoodIn wsL_law wsX0_has := goodIn_r _ [135, 27, 20, 23, 136, 137, 138, 2, 139, 19, 66, 67, 68, 69, 12, 140, 141, 142, 81, 82, 83, 458, 459, 460, 461, 462, 463, 464, 465, 466, 467, 468, 469, 470, 471, 472] (by decide +kernel) (by decide +kernel)
set_option maxRecDepth 20000 in
theorem gL_law_X0_has : GoodIn wsL_law (wsV RL 37 RX0 yX0_has wsX0_has) := goodIn_app (goodIn_of _ (by decide +kernel)) ggL_law_X0_has
set_option maxRecDepth 20000 in
theorem ggL_law_X1_has : GoodIn wsL_law wsX1_has := goodIn_r _ [146, 147, 43, 148, 149, 150, 151, 152, 153, 5, 154, 50, 59, 60, 61, 88, 89, 90, 91, 40, 155, 156, 157, 158, 44, 45, 159, 160, 161, 162, 41, 473, 474, 475, 476, 477, 478, 479, 480, 481, 482, 483, 484, 485, 486, 487, 488] (by decide +kernel) (by decide +kernel)
set_option maxRecDepth 20000 in
theorem gL_law_X1_has : GoodIn wsL_law (wsV RL 40 RX1 yX1_has wsX1_has) := goodIn_app (goodIn_of _ (by decide +kernel)) ggL_law_X1_has
set_option maxRecDepth 20000 in
theorem ggL_law_X0_bits : GoodIn wsL_law wsX0_bits := goodIn_r _ [166, 23, 136, 137, 138, 2, 139, 19, 458, 459, 460, 461, 462, 463, 464, 465, 466, 467, 468, 469, 470, 471, 472] (by decide +kernel) (by decide +kernel)
set_option maxRecDepth 20000 in
theorem gL_law_X0_bits : GoodIn wsL_law (wsV RL 41 RX0 yX0_bits wsX0_bits) := goodIn_app (goodIn_of _ (by decide +kernel)) ggL_law_X0_bits
set_option maxRecDepth 20000 in
theorem ggL_law_X1_bits : GoodIn wsL_law wsX1_bits := goodIn_r _ [170, 151, 152, 153, 5, 154, 50, 59, 60, 61, 171, 172, 173, 174, 40, 155, 156, 157, 158, 43, 44, 45, 159, 160, 161, 162, 41, 473, 474, 475, 476, 477, 478, 479, 480, 481, 482, 483, 484, 485, 486, 487, 488] (by decide +kernel) (by decide +kernel)
set_option maxRecDepth 20000 in
theorem gL_law_X1_bits : GoodIn wsL_law (wsV RL 44 RX1 yX1_bits wsX1_bits) := goodIn_app (goodIn_of _ (by decide +kernel)) ggL_law_X1_bits
set_option maxRecDepth 20000 in
theorem ggL_law_X0_hold : GoodIn wsL_law wsX0_hold := goodIn_r _ [178, 17, 16, 66, 67, 68, 2, 69, 12, 179, 180, 181, 182, 81, 82, 83, 458, 459, 460, 461, 462, 463, 464, 465, 466, 467, 468, 469, 470, 471, 472] (by decide +kernel) (by decide +kernel)
set_option maxRecDepth 20000 in
theorem gL_law_X0_hold : GoodIn wsL_law (wsV RL 45 RX0 yX0_hold wsX0_hold) := goodIn_app (goodIn_of _ (by decide +kernel)) ggL_law_X0_hold
set_option maxRecDepth 20000 in
theorem ggL_law_X1_hold : GoodIn wsL_law wsX1_hold := goodIn_r _ [186, 42, 88, 89, 90, 5, 91, 40, 59, 60, 61, 473, 474, 475, 476, 477, 478, 479, 480, 481, 482, 483, 484, 485, 486, 487, 488] (by decide +kernel) (by decide +kernel)
set_option maxRecDepth 20000 in
theorem gL_law_X1_hold : GoodIn wsL_law (wsV RL 48 RX1 yX1_hold wsX1_hold) := goodIn_app (goodIn_of _ (by decide +kernel)) ggL_law_X1_hold
set_option maxRecDepth 20000 in
theorem ggL_law_X0_off : GoodIn wsL_law wsX0_off := goodIn_r _ [190, 108, 109, 110, 2, 111, 112, 113, 114, 115, 12, 136, 137, 138, 139, 19, 191, 192, 193, 194, 23, 195, 196, 197, 198, 199, 200, 201, 202, 203, 204, 205, 206, 207, 208, 458, 459, 460, 461, 462, 463, 464, 465, 466, 467, 468, 469, 470, 471, 472] (by decide +kernel) (by decide +kernel)
set_option maxRecDepth 20000 in
theorem gL_law_X0_off : GoodIn wsL_law (wsV RL 49 RX0 yX0_off wsX0_off) := goodIn_app (goodIn_of _ (by decide +kernel)) ggL_law_X0_off
set_option maxRecDepth 20000 in
theorem ggL_law_X1_off : GoodIn wsL_law wsX1_off := goodIn_r _ [212, 213, 214, 215, 5, 216, 40, 59, 60, 61, 151, 152, 153, 154, 50, 171, 172, 173, 174, 155, 156, 157, 158, 43, 44, 45, 159, 160, 161, 162, 41, 217, 218, 219, 220, 221, 222, 223, 224, 225, 473, 474, 475, 476, 477, 478, 479, 480, 481, 482, 483, 484, 485, 486, 487, 488] (by decide +kernel) (by decide +kernel)
set_option maxRecDepth 20000 in
theorem gL_law_X1_off : GoodIn wsL_law (wsV RL 52 RX1 yX1_off wsX1_off) := goodIn_app (goodIn_of _ (by decide +kernel)) ggL_law_X1_off
set_option maxRecDepth 20000 in
theorem ggL_law_X0_worst : GoodIn wsL_law wsX0_worst := goodIn_r _ [229, 108, 109, 110, 2, 111, 112, 113, 114, 115, 12, 230, 231, 232, 233, 19, 234, 235, 197, 236, 191, 192, 193, 194, 23, 195, 196, 198, 199, 200, 201, 202, 203, 204, 205, 206, 207, 208, 458, 459, 460, 461, 462, 463, 464, 465, 466, 467, 468, 469, 470, 471, 472] (by decide +kernel) (by decide +kernel)
set_option maxRecDepth 20000 in
theorem gL_law_X0_worst : GoodIn wsL_law (wsV RL 53 RX0 yX0_worst wsX0_worst) := goodIn_app (goodIn_of _ (by decide +kernel)) ggL_law_X0_worst
set_option maxRecDepth 20000 in
theorem ggL_law_X1_worst : GoodIn wsL_law wsX1_worst := goodIn_r _ [240, 241, 242, 243, 5, 244, 50, 48, 171, 172, 173, 174, 40, 155, 156, 157, 158, 43, 44, 45, 59, 60, 61, 159, 160, 161, 162, 41, 213, 214, 215, 216, 245, 246, 247, 248, 217, 218, 219, 220, 221, 222, 223, 224, 225, 473, 474, 475, 476, 477, 478, 479, 480, 481, 482, 483, 484, 485, 486, 487, 488] (by decide +kernel) (by decide +kernel)
set_option maxRecDepth 20000 in
theorem gL_law_X1_worst : GoodIn wsL_law (wsV RL 56 RX1 yX1_worst wsX1_worst) := goodIn_app (goodIn_of _ (by decide +kernel)) ggL_law_X1_worst
set_option maxRecDepth 20000 in
theorem ggL_law_X0_squares : GoodIn wsL_law wsX0_squares := goodIn_r _ [252, 108, 109, 110, 2, 111, 112, 113, 114, 115, 12, 253, 254, 255, 256, 19, 191, 192, 193, 194, 23, 195, 196, 197, 198, 199, 200, 201, 202, 203, 204, 205, 206, 207, 208, 458, 459, 460, 461, 462, 463, 464, 465, 466, 467, 468, 469, 470, 471, 472] (by decide +kernel) (by decide +kernel)
set_option maxRecDepth 20000 in
theorem gL_law_X0_squares : GoodIn wsL_law (wsV RL 57 RX0 yX0_squares wsX0_squares) := goodIn_app (goodIn_of _ (by decide +kernel)) ggL_law_X0_squares
set_option maxRecDepth 20000 in
theorem ggL_law_X1_squares : GoodIn wsL_law wsX1_squares := goodIn_r _ [260, 241, 242, 243, 5, 244, 50, 48, 171, 172, 173, 174, 40, 155, 156, 157, 158, 43, 44, 45, 59, 60, 61, 159, 160, 161, 162, 41, 213, 214, 215, 216, 261, 262, 263, 264, 217, 218, 219, 220, 221, 222, 223, 224, 225, 473, 474, 475, 476, 477, 478, 479, 480, 481, 482, 483, 484, 485, 486, 487, 488] (by decide +kernel) (by decide +kernel)
set_option maxRecDepth 20000 in
theorem gL_law_X1_squares : GoodIn wsL_law (wsV RL 60 RX1 yX1_squares wsX1_squares) := goodIn_app (goodIn_of _ (by decide +kernel)) ggL_law_X1_squares
set_option maxRecDepth 20000 in
theorem ggL_law_X0_times : GoodIn wsL_law wsX0_times := goodIn_r _ [268, 12, 19, 23, 234, 235, 197, 236, 81, 82, 2, 83, 458, 459, 460, 461, 462, 463, 464, 465, 466, 467, 468, 469, 470, 471, 472] (by decide +kernel) (by decide +kernel)
set_option maxRecDepth 20000 in
theorem gL_law_X0_times : GoodIn wsL_law (wsV RL 61 RX0 yX0_times wsX0_times) := goodIn_app (goodIn_of _ (by decide +kernel)) ggL_law_X0_times
set_option maxRecDepth 20000 in
theorem ggL_law_X1_times : GoodIn wsL_law wsX1_times := goodIn_r _ [272, 40, 50, 155, 156, 157, 5, 158, 43, 44, 45, 59, 60, 61, 159, 160, 161, 162, 41, 473, 474, 475, 476, 477, 478, 479, 480, 481, 482, 483, 484, 485, 486, 487, 488] (by decide +kernel) (by decide +kernel)
set_option maxRecDepth 20000 in
theorem gL_law_X1_times : GoodIn wsL_law (wsV RL 64 RX1 yX1_times wsX1_times) := goodIn_app (goodIn_of _ (by decide +kernel)) ggL_law_X1_times
set_option maxRecDepth 20000 in
theorem ggL_law_X0_least : GoodIn wsL_law wsX0_least := goodIn_r _ [276, 277, 278, 279, 2, 280, 17, 230, 231, 232, 233, 19, 234, 235, 197, 236, 191, 192, 193, 194, 23, 195, 196, 198, 199, 200, 201, 202, 203, 204, 205, 206, 207, 208, 112, 113, 114, 115, 12, 281, 282, 283, 284, 16, 458, 459, 460, 461, 462, 463, 464, 465, 466, 467, 468, 469, 470, 471, 472] (by decide +kernel) (by decide +kernel)
set_option maxRecDepth 20000 in
theorem gL_law_X0_least : GoodIn wsL_law (wsV RL 65 RX0 yX0_least wsX0_least) := goodIn_app (goodIn_of _ (by decide +kernel)) ggL_law_X0_least
set_option maxRecDepth 20000 in
theorem ggL_law_X1_least : GoodIn wsL_law wsX1_least := goodIn_r _ [288, 289, 290, 291, 5, 292, 293, 294, 40, 295, 296, 241, 242, 243, 244, 50, 48, 171, 172, 173, 174, 155, 156, 157, 158, 43, 44, 45, 59, 60, 61, 159, 160, 161, 162, 41, 297, 298, 299, 300, 42, 245, 246, 247, 248, 217, 218, 219, 220, 221, 222, 223, 224, 225, 261, 262, 263, 264, 473, 474, 475, 476, 477, 478, 479, 480, 481, 482, 483, 484, 485, 486, 487, 488] (by decide +kernel) (by decide +kernel)
set_option maxRecDepth 20000 in
theorem gL_law_X1_least : GoodIn wsL_law (wsV RL 68 RX1 yX1_least wsX1_least) := goodIn_app (goodIn_of _ (by decide +kernel)) ggL_law_X1_least
set_option maxRecDepth 20000 in
theorem ggL_law_X0_first : GoodIn wsL_law wsX0_first := goodIn_r _ [304, 277, 278, 279, 2, 280, 17, 230, 231, 232, 233, 19, 234, 235, 197, 236, 191, 192, 193, 194, 23, 195, 196, 198, 199, 200, 201, 202, 203, 204, 205, 206, 207, 208, 112, 113, 114, 115, 12, 281, 282, 283, 284, 16, 458, 459, 460, 461, 462, 463, 464, 465, 466, 467, 468, 469, 470, 471, 472] (by decide +kernel) (by decide +kernel)
set_option maxRecDepth 20000 in
theorem gL_law_X0_first : GoodIn wsL_law (wsV RL 69 RX0 yX0_first wsX0_first) := goodIn_app (goodIn_of _ (by decide +kernel)) ggL_law_X0_first
set_option maxRecDepth 20000 in
theorem ggL_law_X1_first : GoodIn wsL_law wsX1_first := goodIn_r _ [308, 295, 289, 290, 291, 5, 292, 293, 294, 40, 296, 241, 242, 243, 244, 50, 48, 171, 172, 173, 174, 155, 156, 157, 158, 43, 44, 45, 59, 60, 61, 159, 160, 161, 162, 41, 297, 298, 299, 300, 42, 245, 246, 247, 248, 217, 218, 219, 220, 221, 222, 223, 224, 225, 261, 262, 263, 264, 473, 474, 475, 476, 477, 478, 479, 480, 481, 482, 483, 484, 485, 486, 487, 488] (by decide +kernel) (by decide +kernel)
set_option maxRecDepth 20000 in
theorem gL_law_X1_first : GoodIn wsL_law (wsV RL 72 RX1 yX1_first wsX1_first) := goodIn_app (goodIn_of _ (by decide +kernel)) ggL_law_X1_first
set_option maxRecDepth 20000 in
theorem ggL_law_X0_many : GoodIn wsL_law wsX0_many := goodIn_r _ [312, 277, 278, 279, 2, 280, 17, 230, 231, 232, 233, 19, 234, 235, 197, 236, 191, 192, 193, 194, 23, 195, 196, 198, 199, 200, 201, 202, 203, 204, 205, 206, 207, 208, 112, 113, 114, 115, 12, 281, 282, 283, 284, 16, 458, 459, 460, 461, 462, 463, 464, 465, 466, 467, 468, 469, 470, 471, 472] (by decide +kernel) (by decide +kernel)
set_option maxRecDepth 20000 in
theorem gL_law_X0_many : GoodIn wsL_law (wsV RL 73 RX0 yX0_many wsX0_many) := goodIn_app (goodIn_of _ (by decide +kernel)) ggL_law_X0_many
set_option maxRecDepth 20000 in
theorem ggL_law_X1_many : GoodIn wsL_law wsX1_many := goodIn_r _ [316, 296, 289, 290, 291, 5, 292, 293, 294, 40, 295, 241, 242, 243, 244, 50, 48, 171, 172, 173, 174, 155, 156, 157, 158, 43, 44, 45, 59, 60, 61, 159, 160, 161, 162, 41, 297, 298, 299, 300, 42, 245, 246, 247, 248, 217, 218, 219, 220, 221, 222, 223, 224, 225, 261, 262, 263, 264, 473, 474, 475, 476, 477, 478, 479, 480, 481, 482, 483, 484, 485, 486, 487, 488] (by decide +kernel) (by decide +kernel)
set_option maxRecDepth 20000 in
theorem gL_law_X1_many : GoodIn wsL_law (wsV RL 76 RX1 yX1_many wsX1_many) := goodIn_app (goodIn_of _ (by decide +kernel)) ggL_law_X1_many
set_option maxRecDepth 20000 in
theorem ggL_law_X0_fewest : GoodIn wsL_law wsX0_fewest := goodIn_r _ [320, 17, 321, 322, 197, 323, 253, 254, 255, 2, 256, 19, 191, 192, 193, 194, 23, 195, 196, 198, 199, 200, 201, 202, 203, 204, 205, 206, 207, 208, 112, 113, 114, 115, 12, 281, 282, 283, 284, 16, 458, 459, 460, 461, 462, 463, 464, 465, 466, 467, 468, 469, 470, 471, 472] (by decide +kernel) (by decide +kernel)
set_option maxRecDepth 20000 in
theorem gL_law_X0_fewest : GoodIn wsL_law (wsV RL 77 RX0 yX0_fewest wsX0_fewest) := goodIn_app (goodIn_of _ (by decide +kernel)) ggL_law_X0_fewest
set_option maxRecDepth 20000 in
theorem ggL_law_X1_fewest : GoodIn wsL_law wsX1_fewest := goodIn_r _ [327, 294, 289, 290, 291, 5, 292, 293, 40, 295, 296, 241, 242, 243, 244, 50, 48, 171, 172, 173, 174, 155, 156, 157, 158, 43, 44, 45, 59, 60, 61, 159, 160, 161, 162, 41, 297, 298, 299, 300, 42, 245, 246, 247, 248, 217, 218, 219, 220, 221, 222, 223, 224, 225, 261, 262, 263, 264, 473, 474, 475, 476, 477, 478, 479, 480, 481, 482, 483, 484, 485, 486, 487, 488] (by decide +kernel) (by decide +kernel)
set_option maxRecDepth 20000 in
theorem gL_law_X1_fewest : GoodIn wsL_law (wsV RL 80 RX1 yX1_fewest wsX1_fewest) := goodIn_app (goodIn_of _ (by decide +kernel)) ggL_law_X1_fewest
set_option maxRecDepth 20000 in
theorem ggL_law_X0_turns : GoodIn wsL_law wsX0_turns := goodIn_r _ [331, 12, 458, 459, 460, 461, 462, 463, 464, 465, 466, 467, 468, 469, 470, 471, 472] (by decide +kernel) (by decide +kernel)
set_option maxRecDepth 20000 in
theorem gL_law_X0_turns : GoodIn wsL_law (wsV RL 81 RX0 yX0_turns wsX0_turns) := goodIn_app (goodIn_of _ (by decide +kernel)) ggL_law_X0_turns
set_option maxRecDepth 20000 in
theorem ggL_law_X1_turns : GoodIn wsL_law wsX1_turns := goodIn_r _ [335, 40, 473, 474, 475, 476, 477, 478, 479, 480, 481, 482, 483, 484, 485, 486, 487, 488] (by decide +kernel) (by decide +kernel)
set_option maxRecDepth 20000 in
theorem gL_law_X1_turns : GoodIn wsL_law (wsV RL 84 RX1 yX1_turns wsX1_turns) := goodIn_app (goodIn_of _ (by decide +kernel)) ggL_law_X1_turns
set_option maxRecDepth 20000 in
theorem ggL_law_X0_pairs : GoodIn wsL_law wsX0_pairs := goodIn_r _ [339, 18, 12, 340, 341, 342, 343, 344, 345, 346, 2, 347, 348, 349, 350, 351, 66, 67, 68, 69, 352, 353, 354, 355, 15, 14, 458, 459, 460, 461, 462, 463, 464, 465, 466, 467, 468, 469, 470, 471, 472] (by decide +kernel) (by decide +kernel)
set_option maxRecDepth 20000 in
theorem gL_law_X0_pairs : GoodIn wsL_law (wsV RL 85 RX0 yX0_pairs wsX0_pairs) := goodIn_app (goodIn_of _ (by decide +kernel)) ggL_law_X0_pairs
set_option maxRecDepth 20000 in
theorem ggL_law_X1_pairs : GoodIn wsL_law wsX1_pairs := goodIn_r _ [359, 40, 49, 360, 361, 362, 5, 363, 41, 159, 160, 161, 162, 473, 474, 475, 476, 477, 478, 479, 480, 481, 482, 483, 484, 485, 486, 487, 488] (by decide +kernel) (by decide +kernel)
set_option maxRecDepth 20000 in
theorem gL_law_X1_pairs : GoodIn wsL_law (wsV RL 88 RX1 yX1_pairs wsX1_pairs) := goodIn_app (goodIn_of _ (by decide +kernel)) ggL_law_X1_pairs
set_option maxRecDepth 20000 in
theorem ggL_law_X0_come : GoodIn wsL_law wsX0_come := goodIn_r _ [367, 12, 368, 369, 370, 2, 371, 17, 19, 23, 179, 180, 181, 182, 16, 81, 82, 83, 199, 200, 201, 202, 203, 204, 205, 206, 207, 208, 458, 459, 460, 461, 462, 463, 464, 465, 466, 467, 468, 469, 470, 471, 472] (by decide +kernel) (by decide +kernel)
set_option maxRecDepth 20000 in
theorem gL_law_X0_come : GoodIn wsL_law (wsV RL 89 RX0 yX0_come wsX0_come) := goodIn_app (goodIn_of _ (by decide +kernel)) ggL_law_X0_come
set_option maxRecDepth 20000 in
theorem ggL_law_X1_come : GoodIn wsL_law wsX1_come := goodIn_r _ [375, 40, 50, 48, 42, 241, 242, 243, 5, 244, 171, 172, 173, 174, 155, 156, 157, 158, 43, 44, 45, 59, 60, 61, 159, 160, 161, 162, 41, 220, 221, 222, 473, 474, 475, 476, 477, 478, 479, 480, 481, 482, 483, 484, 485, 486, 487, 488] (by decide +kernel) (by decide +kernel)
set_option maxRecDepth 20000 in
theorem gL_law_X1_come : GoodIn wsL_law (wsV RL 92 RX1 yX1_come wsX1_come) := goodIn_app (goodIn_of _ (by decide +kernel)) ggL_law_X1_come
set_option maxRecDepth 20000 in
theorem ggL_law_X0_step : GoodIn wsL_law wsX0_step := goodIn_r _ [379, 24, 25, 26, 380, 381, 2, 382, 458, 459, 460, 461, 462, 463, 464, 465, 466, 467, 468, 469, 470, 471, 472] (by decide +kernel) (by decide +kernel)
set_option maxRecDepth 20000 in
theorem gL_law_X0_step : GoodIn wsL_law (wsV RL 93 RX0 yX0_step wsX0_step) := goodIn_app (goodIn_of _ (by decide +kernel)) ggL_law_X0_step
set_option maxRecDepth 20000 in
theorem ggL_law_X1_step : GoodIn wsL_law wsX1_step := goodIn_r _ [386, 387, 46, 47, 59, 60, 5, 61, 473, 474, 475, 476, 477, 478, 479, 480, 481, 482, 483, 484, 485, 486, 487, 488] (by decide +kernel) (by decide +kernel)
set_option maxRecDepth 20000 in
theorem gL_law_X1_step : GoodIn wsL_law (wsV RL 96 RX1 yX1_step wsX1_step) := goodIn_app (goodIn_of _ (by decide +kernel)) ggL_law_X1_step
set_option maxRecDepth 20000 in
theorem ggL_law_X0_clear : GoodIn wsL_law wsX0_clear := goodIn_r _ [391, 24, 458, 459, 460, 461, 462, 463, 464, 465, 466, 467, 468, 469, 470, 471, 472] (by decide +kernel) (by decide +kernel)
set_option maxRecDepth 20000 in
theorem gL_law_X0_clear : GoodIn wsL_law (wsV RL 97 RX0 yX0_clear wsX0_clear) := goodIn_app (goodIn_of _ (by decide +kernel)) ggL_law_X0_clear
set_option maxRecDepth 20000 in
theorem ggL_law_X1_clear : GoodIn wsL_law wsX1_clear := goodIn_r _ [395, 387, 473, 474, 475, 476, 477, 478, 479, 480, 481, 482, 483, 484, 485, 486, 487, 488] (by decide +kernel) (by decide +kernel)
set_option maxRecDepth 20000 in
theorem gL_law_X1_clear : GoodIn wsL_law (wsV RL 100 RX1 yX1_clear wsX1_clear) := goodIn_app (goodIn_of _ (by decide +kernel)) ggL_law_X1_clear
set_option maxRecDepth 20000 in
theorem ggL_law_X0_stray : GoodIn wsL_law wsX0_stray := goodIn_r _ [399, 400, 401, 402, 2, 403, 24, 404, 405, 406, 407, 25, 26, 234, 235, 197, 236, 81, 82, 83, 408, 409, 410, 195, 196, 198, 458, 459, 460, 461, 462, 463, 464, 465, 466, 467, 468, 469, 470, 471, 472] (by decide +kernel) (by decide +kernel)
set_option maxRecDepth 20000 in
theorem gL_law_X0_stray : GoodIn wsL_law (wsV RL 101 RX0 yX0_stray wsX0_stray) := goodIn_app (goodIn_of _ (by decide +kernel)) ggL_law_X0_stray
set_option maxRecDepth 20000 in
theorem ggL_law_X1_stray : GoodIn wsL_law wsX1_stray := goodIn_r _ [414, 387, 59, 60, 5, 61, 415, 416, 417, 418, 46, 47, 419, 420, 421, 223, 224, 225, 473, 474, 475, 476, 477, 478, 479, 480, 481, 482, 483, 484, 485, 486, 487, 488] (by decide +kernel) (by decide +kernel)
set_option maxRecDepth 20000 in
theorem gL_law_X1_stray : GoodIn wsL_law (wsV RL 104 RX1 yX1_stray wsX1_stray) := goodIn_app (goodIn_of _ (by decide +kernel)) ggL_law_X1_stray
set_option maxRecDepth 20000 in
theorem ggL_law_X0_straight : GoodIn wsL_law wsX0_straight := goodIn_r _ [425, 426, 427, 428, 2, 429, 404, 405, 406, 407, 24, 25, 26, 234, 235, 197, 236, 81, 82, 83, 408, 409, 410, 195, 196, 198, 400, 401, 402, 403, 430, 431, 432, 433, 458, 459, 460, 461, 462, 463, 464, 465, 466, 467, 468, 469, 470, 471, 472] (by decide +kernel) (by decide +kernel)
set_option maxRecDepth 20000 in
theorem gL_law_X0_straight : GoodIn wsL_law (wsV RL 105 RX0 yX0_straight wsX0_straight) := goodIn_app (goodIn_of _ (by decide +kernel)) ggL_law_X0_straight
set_option maxRecDepth 20000 in
theorem ggL_law_X1_straight : GoodIn wsL_law wsX1_straight := goodIn_r _ [437, 387, 59, 60, 5, 61, 438, 439, 440, 441, 46, 47, 419, 420, 421, 223, 224, 225, 415, 416, 417, 418, 473, 474, 475, 476, 477, 478, 479, 480, 481, 482, 483, 484, 485, 486, 487, 488] (by decide +kernel) (by decide +kernel)
set_option maxRecDepth 20000 in
theorem gL_law_X1_straight : GoodIn wsL_law (wsV RL 108 RX1 yX1_straight wsX1_straight) := goodIn_app (goodIn_of _ (by decide +kernel)) ggL_law_X1_straight
set_option maxRecDepth 20000 in
theorem ggL_law_X0_count : GoodIn wsL_law wsX0_count := goodIn_r _ [445, 12, 19, 24, 16, 202, 203, 204, 205, 206, 207, 208, 458, 459, 460, 461, 462, 463, 464, 465, 466, 467, 468, 469, 470, 471, 472] (by decide +kernel) (by decide +kernel)
set_option maxRecDepth 20000 in
theorem gL_law_X0_count : GoodIn wsL_law (wsV RL 109 RX0 yX0_count wsX0_count) := goodIn_app (goodIn_of _ (by decide +kernel)) ggL_law_X0_count
set_option maxRecDepth 20000 in
theorem ggL_law_X1_count : GoodIn wsL_law wsX1_count := goodIn_r _ [449, 40, 50, 387, 42, 473, 474, 475, 476, 477, 478, 479, 480, 481, 482, 483, 484, 485, 486, 487, 488] (by decide +kernel) (by decide +kernel)
set_option maxRecDepth 20000 in
theorem gL_law_X1_count : GoodIn wsL_law (wsV RL 112 RX1 yX1_count wsX1_count) := goodIn_app (goodIn_of _ (by decide +kernel)) ggL_law_X1_count
set_option maxRecDepth 20000 in
theorem ggL_law_X0_trace : GoodIn wsL_law wsX0_trace := goodIn_r _ [453, 27, 458, 459, 460, 461, 462, 463, 464, 465, 466, 467, 468, 469, 470, 471, 472] (by decide +kernel) (by decide +kernel)
set_option maxRecDepth 20000 in
theorem gL_law_X0_trace : GoodIn wsL_law (wsV RL 113 RX0 yX0_trace wsX0_trace) := goodIn_app (goodIn_of _ (by decide +kernel)) ggL_law_X0_trace
set_option maxRecDepth 20000 in
theorem ggL_law_X1_trace : GoodIn wsL_law wsX1_trace := goodIn_r _ [457, 147, 473, 474, 475, 476, 477, 478, 479, 480, 481, 482, 483, 484, 485, 486, 487, 488] (by decide +kernel) (by decide +kernel)
set_option maxRecDepth 20000 in
theorem gL_law_X1_trace : GoodIn wsL_law (wsV RL 117 RX1 yX1_trace wsX1_trace) := goodIn_app (goodIn_of _ (by decide +kernel)) ggL_law_X1_trace
