theorem dX6_passes_62 : decode cX6_passes 62 = .ok (.isub, 1) := by decide +kernel
theorem dX6_passes_63 : decode cX6_passes 63 = .ok (.dup2, 1) := by decide +kernel
theorem dX6_passes_64 : decode cX6_passes 64 = .ok (.iaload, 1) := by decide +kernel
theorem dX6_passes_65 : decode cX6_passes 65 = .ok (.iconst 1, 1) := by decide +kernel
theorem dX6_passes_66 : decode cX6_passes 66 = .ok (.iadd, 1) := by decide +kernel
theorem dX6_passes_67 : decode cX6_passes 67 = .ok (.iastore, 1) := by decide +kernel
theorem dX6_passes_68 : decode cX6_passes 68 = .ok (.iinc 1 (-1), 3) := by decide +kernel
theorem dX6_passes_71 : decode cX6_passes 71 = .ok (.goto (-52), 3) := by decide +kernel
theorem dX6_passes_74 : decode cX6_passes 74 = .ok (.iconst 0, 1) := by decide +kernel
theorem dX6_passes_75 : decode cX6_passes 75 = .ok (.istore_n 1, 1) := by decide +kernel
theorem dX6_passes_76 : decode cX6_passes 76 = .ok (.iload_n 1, 1) := by decide +kernel
theorem dX6_passes_77 : decode cX6_passes 77 = .ok (.aload_n 0, 1) := by decide +kernel
theorem dX6_passes_78 : decode cX6_passes 78 = .ok (.getfield 7, 3) := by decide +kernel
theorem dX6_passes_81 : decode cX6_passes 81 = .ok (.iconst 0, 1) := by decide +kernel
theorem dX6_passes_82 : decode cX6_passes 82 = .ok (.iaload, 1) := by decide +kernel
theorem dX6_passes_83 : decode cX6_passes 83 = .ok (.iconst 1, 1) := by decide +kernel
theorem dX6_passes_84 : decode cX6_passes 84 = .ok (.isub, 1) := by decide +kernel
theorem dX6_passes_85 : decode cX6_passes 85 = .ok (.if_icmp .ge 72, 3) := by decide +kernel
theorem dX6_passes_88 : decode cX6_passes 88 = .ok (.iload_n 1, 1) := by decide +kernel
theorem dX6_passes_89 : decode cX6_passes 89 = .ok (.invokestatic 40, 3) := by decide +kernel
theorem dX6_passes_92 : decode cX6_passes 92 = .ok (.istore_n 2, 1) := by decide +kernel
theorem dX6_passes_93 : decode cX6_passes 93 = .ok (.aload_n 0, 1) := by decide +kernel
theorem dX6_passes_94 : decode cX6_passes 94 = .ok (.getfield 7, 3) := by decide +kernel
theorem dX6_passes_97 : decode cX6_passes 97 = .ok (.iload_n 2, 1) := by decide +kernel
theorem dX6_passes_98 : decode cX6_passes 98 = .ok (.bipush 15, 2) := by decide +kernel
theorem dX6_passes_100 : decode cX6_passes 100 = .ok (.iadd, 1) := by decide +kernel
theorem dX6_passes_101 : decode cX6_passes 101 = .ok (.dup2, 1) := by decide +kernel
theorem dX6_passes_102 : decode cX6_passes 102 = .ok (.iaload, 1) := by decide +kernel
theorem dX6_passes_103 : decode cX6_passes 103 = .ok (.aload_n 0, 1) := by decide +kernel
theorem dX6_passes_104 : decode cX6_passes 104 = .ok (.getfield 7, 3) := by decide +kernel
theorem dX6_passes_107 : decode cX6_passes 107 = .ok (.iload_n 2, 1) := by decide +kernel
theorem dX6_passes_108 : decode cX6_passes 108 = .ok (.iconst 5, 1) := by decide +kernel
theorem dX6_passes_109 : decode cX6_passes 109 = .ok (.iadd, 1) := by decide +kernel
theorem dX6_passes_110 : decode cX6_passes 110 = .ok (.iaload, 1) := by decide +kernel
theorem dX6_passes_111 : decode cX6_passes 111 = .ok (.iadd, 1) := by decide +kernel
theorem dX6_passes_112 : decode cX6_passes 112 = .ok (.iastore, 1) := by decide +kernel
theorem dX6_passes_113 : decode cX6_passes 113 = .ok (.aload_n 0, 1) := by decide +kernel
theorem dX6_passes_114 : decode cX6_passes 114 = .ok (.getfield 7, 3) := by decide +kernel
theorem dX6_passes_117 : decode cX6_passes 117 = .ok (.iload_n 2, 1) := by decide +kernel
theorem dX6_passes_118 : decode cX6_passes 118 = .ok (.bipush 9, 2) := by decide +kernel
theorem dX6_passes_120 : decode cX6_passes 120 = .ok (.iadd, 1) := by decide +kernel
theorem dX6_passes_121 : decode cX6_passes 121 = .ok (.iconst 5, 1) := by decide +kernel
theorem dX6_passes_122 : decode cX6_passes 122 = .ok (.iadd, 1) := by decide +kernel
theorem dX6_passes_123 : decode cX6_passes 123 = .ok (.dup2, 1) := by decide +kernel
theorem dX6_passes_124 : decode cX6_passes 124 = .ok (.iaload, 1) := by decide +kernel
theorem dX6_passes_125 : decode cX6_passes 125 = .ok (.aload_n 0, 1) := by decide +kernel
theorem dX6_passes_126 : decode cX6_passes 126 = .ok (.getfield 7, 3) := by decide +kernel
theorem dX6_passes_129 : decode cX6_passes 129 = .ok (.iload_n 2, 1) := by decide +kernel
theorem dX6_passes_130 : decode cX6_passes 130 = .ok (.iconst 5, 1) := by decide +kernel
theorem dX6_passes_131 : decode cX6_passes 131 = .ok (.iadd, 1) := by decide +kernel
theorem dX6_passes_132 : decode cX6_passes 132 = .ok (.iaload, 1) := by decide +kernel
theorem dX6_passes_133 : decode cX6_passes 133 = .ok (.aload_n 0, 1) := by decide +kernel
theorem dX6_passes_134 : decode cX6_passes 134 = .ok (.getfield 7, 3) := by decide +kernel
theorem dX6_passes_137 : decode cX6_passes 137 = .ok (.iload_n 2, 1) := by decide +kernel
theorem dX6_passes_138 : decode cX6_passes 138 = .ok (.iconst 4, 1) := by decide +kernel
theorem dX6_passes_139 : decode cX6_passes 139 = .ok (.iadd, 1) := by decide +kernel
theorem dX6_passes_140 : decode cX6_passes 140 = .ok (.iaload, 1) := by decide +kernel
theorem dX6_passes_141 : decode cX6_passes 141 = .ok (.if_icmp .lt 7, 3) := by decide +kernel
theorem dX6_passes_144 : decode cX6_passes 144 = .ok (.iconst 1, 1) := by decide +kernel
theorem dX6_passes_145 : decode cX6_passes 145 = .ok (.goto 4, 3) := by decide +kernel
theorem dX6_passes_148 : decode cX6_passes 148 = .ok (.iconst 0, 1) := by decide +kernel
theorem dX6_passes_149 : decode cX6_passes 149 = .ok (.iadd, 1) := by decide +kernel
theorem dX6_passes_150 : decode cX6_passes 150 = .ok (.iastore, 1) := by decide +kernel
theorem dX6_passes_151 : decode cX6_passes 151 = .ok (.iinc 1 1, 3) := by decide +kernel
theorem dX6_passes_154 : decode cX6_passes 154 = .ok (.goto (-78), 3) := by decide +kernel
theorem dX6_passes_157 : decode cX6_passes 157 = .ok (.return_, 1) := by decide +kernel
set_option maxRecDepth 20000 in
theorem ggX6_made_X6_of : GoodIn wsX6_made wsX6_of := goodIn_r _ [5] (by decide +kernel) (by decide +kernel)
set_option maxRecDepth 20000 in
theorem gX6_made_X6_of : GoodIn wsX6_made (va_wsS RX6 40 yX6_of wsX6_of) := goodIn_app (goodIn_of _ (by decide +kernel)) ggX6_made_X6_of
theorem dX6_made_0 : decode cX6_made 0 = .ok (.aload_n 0, 1) := by decide +kernel
theorem dX6_made_1 : decode cX6_made 1 = .ok (.getfield 7, 3) := by decide +kernel
theorem dX6_made_4 : decode cX6_made 4 = .ok (.iconst 0, 1) := by decide +kernel
theorem dX6_made_5 : decode cX6_made 5 = .ok (.iaload, 1) := by decide +kernel
theorem dX6_made_6 : decode cX6_made 6 = .ok (.ifCond .ne 7, 3) := by decide +kernel
theorem dX6_made_9 : decode cX6_made 9 = .ok (.iconst 0, 1) := by decide +kernel
theorem dX6_made_10 : decode cX6_made 10 = .ok (.goto 24, 3) := by decide +kernel
theorem dX6_made_13 : decode cX6_made 13 = .ok (.aload_n 0, 1) := by decide +kernel
theorem dX6_made_14 : decode cX6_made 14 = .ok (.getfield 7, 3) := by decide +kernel
theorem dX6_made_17 : decode cX6_made 17 = .ok (.aload_n 0, 1) := by decide +kernel
theorem dX6_made_18 : decode cX6_made 18 = .ok (.getfield 7, 3) := by decide +kernel
theorem dX6_made_21 : decode cX6_made 21 = .ok (.iconst 0, 1) := by decide +kernel
theorem dX6_made_22 : decode cX6_made 22 = .ok (.iaload, 1) := by decide +kernel
theorem dX6_made_23 : decode cX6_made 23 = .ok (.iconst 1, 1) := by decide +kernel
theorem dX6_made_24 : decode cX6_made 24 = .ok (.isub, 1) := by decide +kernel
theorem dX6_made_25 : decode cX6_made 25 = .ok (.invokestatic 40, 3) := by decide +kernel
theorem dX6_made_28 : decode cX6_made 28 = .ok (.bipush 9, 2) := by decide +kernel
theorem dX6_made_30 : decode cX6_made 30 = .ok (.iadd, 1) := by decide +kernel
theorem dX6_made_31 : decode cX6_made 31 = .ok (.iconst 4, 1) := by decide +kernel
theorem dX6_made_32 : decode cX6_made 32 = .ok (.iadd, 1) := by decide +kernel
theorem dX6_made_33 : decode cX6_made 33 = .ok (.iaload, 1) := by decide +kernel
theorem dX6_made_34 : decode cX6_made 34 = .ok (.ireturn, 1) := by decide +kernel
set_option maxRecDepth 20000 in
theorem ggX6_goes_X6_made : GoodIn wsX6_goes wsX6_made := goodIn_r _ [6, 1, 7, 8, 5, 9, 43, 44, 45, 46, 47, 48, 49, 50, 51, 52, 53, 54] (by decide +kernel) (by decide +kernel)
set_option maxRecDepth 20000 in
theorem gX6_goes_X6_made : GoodIn wsX6_goes (wsV RX6 105 RX6 yX6_made wsX6_made) := goodIn_app (goodIn_of _ (by decide +kernel)) ggX6_goes_X6_made
set_option maxRecDepth 20000 in
theorem ggX6_goes_X6_laysDown : GoodIn wsX6_goes wsX6_laysDown := goodIn_r _ [13, 14, 1, 43, 44, 45, 46, 47, 48, 49, 50, 51, 52, 53, 54] (by decide +kernel) (by decide +kernel)
set_option maxRecDepth 20000 in
theorem gX6_goes_X6_laysDown : GoodIn wsX6_goes (wsV RX6 108 RX6 yX6_laysDown wsX6_laysDown) := goodIn_app (goodIn_of _ (by decide +kernel)) ggX6_goes_X6_laysDown
set_option maxRecDepth 20000 in
theorem ggX6_goes_X6_passes : GoodIn wsX6_goes wsX6_passes := goodIn_r _ [18, 1, 19, 20, 21, 5, 22, 7, 8, 9, 23, 24, 25, 26, 27, 28, 29, 30, 14, 31, 32, 33, 34, 35, 36, 37, 38, 39, 40, 41, 42, 43, 44, 45, 46, 47, 48, 49, 50, 51, 52, 53, 54] (by decide +kernel) (by decide +kernel)
set_option maxRecDepth 20000 in
theorem gX6_goes_X6_passes : GoodIn wsX6_goes (wsV RX6 111 RX6 yX6_passes wsX6_passes) := goodIn_app (goodIn_of _ (by decide +kernel)) ggX6_goes_X6_passes
theorem dX6_goes_0 : decode cX6_goes 0 = .ok (.aload_n 0, 1) := by decide +kernel
theorem dX6_goes_1 : decode cX6_goes 1 = .ok (.invokevirtual 105, 3) := by decide +kernel
theorem dX6_goes_4 : decode cX6_goes 4 = .ok (.istore_n 2, 1) := by decide +kernel
theorem dX6_goes_5 : decode cX6_goes 5 = .ok (.aload_n 0, 1) := by decide +kernel
theorem dX6_goes_6 : decode cX6_goes 6 = .ok (.aload_n 0, 1) := by decide +kernel
theorem dX6_goes_7 : decode cX6_goes 7 = .ok (.getfield 7, 3) := by decide +kernel
theorem dX6_goes_10 : decode cX6_goes 10 = .ok (.iconst 1, 1) := by decide +kernel
theorem dX6_goes_11 : decode cX6_goes 11 = .ok (.iaload, 1) := by decide +kernel
theorem dX6_goes_12 : decode cX6_goes 12 = .ok (.iconst 1, 1) := by decide +kernel
theorem dX6_goes_13 : decode cX6_goes 13 = .ok (.iadd, 1) := by decide +kernel
theorem dX6_goes_14 : decode cX6_goes 14 = .ok (.aload_n 0, 1) := by decide +kernel
theorem dX6_goes_15 : decode cX6_goes 15 = .ok (.getfield 7, 3) := by decide +kernel
theorem dX6_goes_18 : decode cX6_goes 18 = .ok (.iconst 1, 1) := by decide +kernel
theorem dX6_goes_19 : decode cX6_goes 19 = .ok (.iaload, 1) := by decide +kernel
theorem dX6_goes_20 : decode cX6_goes 20 = .ok (.iload_n 1, 1) := by decide +kernel
theorem dX6_goes_21 : decode cX6_goes 21 = .ok (.iadd, 1) := by decide +kernel
theorem dX6_goes_22 : decode cX6_goes 22 = .ok (.invokevirtual 108, 3) := by decide +kernel
theorem dX6_goes_25 : decode cX6_goes 25 = .ok (.iconst 0, 1) := by decide +kernel
theorem dX6_goes_26 : decode cX6_goes 26 = .ok (.istore_n 3, 1) := by decide +kernel
theorem dX6_goes_27 : decode cX6_goes 27 = .ok (.iload_n 3, 1) := by decide +kernel
theorem dX6_goes_28 : decode cX6_goes 28 = .ok (.iload_n 1, 1) := by decide +kernel
theorem dX6_goes_29 : decode cX6_goes 29 = .ok (.if_icmp .ge 13, 3) := by decide +kernel
theorem dX6_goes_32 : decode cX6_goes 32 = .ok (.aload_n 0, 1) := by decide +kernel
theorem dX6_goes_33 : decode cX6_goes 33 = .ok (.invokevirtual 111, 3) := by decide +kernel
theorem dX6_goes_36 : decode cX6_goes 36 = .ok (.iinc 3 1, 3) := by decide +kernel
theorem dX6_goes_39 : decode cX6_goes 39 = .ok (.goto (-12), 3) := by decide +kernel
theorem dX6_goes_42 : decode cX6_goes 42 = .ok (.aload_n 0, 1) := by decide +kernel
theorem dX6_goes_43 : decode cX6_goes 43 = .ok (.invokevirtual 105, 3) := by decide +kernel
theorem dX6_goes_46 : decode cX6_goes 46 = .ok (.iload_n 2, 1) := by decide +kernel
theorem dX6_goes_47 : decode cX6_goes 47 = .ok (.isub, 1) := by decide +kernel
theorem dX6_goes_48 : decode cX6_goes 48 = .ok (.ireturn, 1) := by decide +kernel
set_option maxRecDepth 20000 in
theorem ggX6_run_X6_within : GoodIn wsX6_run wsX6_within := goodIn_r _ [5] (by decide +kernel) (by decide +kernel)
set_option maxRecDepth 20000 in
theorem gX6_run_X6_within : GoodIn wsX6_run (va_wsS RX6 29 yX6_within wsX6_within) := goodIn_app (goodIn_of _ (by decide +kernel)) ggX6_run_X6_within
set_option maxRecDepth 20000 in
theorem ggX6_run_X6_refused : GoodIn wsX6_run wsX6_refused := goodIn_r _ [9, 10, 61, 62, 63, 64, 65, 66, 67, 68, 69, 70, 71, 72] (by decide +kernel) (by decide +kernel)
set_option maxRecDepth 20000 in
theorem gX6_run_X6_refused : GoodIn wsX6_run (wsV RX6 36 RX6 yX6_refused wsX6_refused) := goodIn_app (goodIn_of _ (by decide +kernel)) ggX6_run_X6_refused
set_option maxRecDepth 20000 in
theorem ggX6_run_X6_saves : GoodIn wsX6_run wsX6_saves := goodIn_r _ [14, 15, 16, 1, 61, 62, 63, 64, 65, 66, 67, 68, 69, 70, 71, 72] (by decide +kernel) (by decide +kernel)
set_option maxRecDepth 20000 in
theorem gX6_run_X6_saves : GoodIn wsX6_run (wsV RX6 51 RX6 yX6_saves wsX6_saves) := goodIn_app (goodIn_of _ (by decide +kernel)) ggX6_run_X6_saves
set_option maxRecDepth 20000 in
theorem ggX6_run_X6_goes : GoodIn wsX6_run wsX6_goes := goodIn_r _ [20, 1, 21, 22, 23, 4, 24, 25, 26, 27, 28, 29, 30, 31, 32, 33, 34, 35, 36, 37, 38, 39, 40, 41, 42, 43, 44, 45, 46, 47, 48, 49, 50, 51, 52, 53, 54, 55, 56, 57, 58, 59, 60, 61, 62, 63, 64, 65, 66, 67, 68, 69, 70, 71, 72] (by decide +kernel) (by decide +kernel)
set_option maxRecDepth 20000 in
theorem gX6_run_X6_goes : GoodIn wsX6_run (wsV RX6 114 RX6 yX6_goes wsX6_goes) := goodIn_app (goodIn_of _ (by decide +kernel)) ggX6_run_X6_goes
theorem dX6_run_0 : decode cX6_run 0 = .ok (.aload_n 0, 1) := by decide +kernel
theorem dX6_run_1 : decode cX6_run 1 = .ok (.iload_n 1, 1) := by decide +kernel
theorem dX6_run_2 : decode cX6_run 2 = .ok (.iconst 0, 1) := by decide +kernel
theorem dX6_run_3 : decode cX6_run 3 = .ok (.sipush 2000, 3) := by decide +kernel
theorem dX6_run_6 : decode cX6_run 6 = .ok (.invokestatic 29, 3) := by decide +kernel
theorem dX6_run_9 : decode cX6_run 9 = .ok (.ifCond .ne 7, 3) := by decide +kernel
theorem dX6_run_12 : decode cX6_run 12 = .ok (.iconst 1, 1) := by decide +kernel
theorem dX6_run_13 : decode cX6_run 13 = .ok (.goto 31, 3) := by decide +kernel
theorem dX6_run_16 : decode cX6_run 16 = .ok (.aload_n 0, 1) := by decide +kernel
theorem dX6_run_17 : decode cX6_run 17 = .ok (.getfield 7, 3) := by decide +kernel
theorem dX6_run_20 : decode cX6_run 20 = .ok (.iconst 0, 1) := by decide +kernel
theorem dX6_run_21 : decode cX6_run 21 = .ok (.iaload, 1) := by decide +kernel
theorem dX6_run_22 : decode cX6_run 22 = .ok (.ifCond .eq 17, 3) := by decide +kernel
theorem dX6_run_25 : decode cX6_run 25 = .ok (.aload_n 0, 1) := by decide +kernel
theorem dX6_run_26 : decode cX6_run 26 = .ok (.getfield 7, 3) := by decide +kernel
theorem dX6_run_29 : decode cX6_run 29 = .ok (.iconst 1, 1) := by decide +kernel
theorem dX6_run_30 : decode cX6_run 30 = .ok (.iaload, 1) := by decide +kernel
theorem dX6_run_31 : decode cX6_run 31 = .ok (.iload_n 1, 1) := by decide +kernel
theorem dX6_run_32 : decode cX6_run 32 = .ok (.iadd, 1) := by decide +kernel
theorem dX6_run_33 : decode cX6_run 33 = .ok (.sipush 10000, 3) := by decide +kernel
theorem dX6_run_36 : decode cX6_run 36 = .ok (.if_icmp .le 7, 3) := by decide +kernel
theorem dX6_run_39 : decode cX6_run 39 = .ok (.iconst 2, 1) := by decide +kernel
theorem dX6_run_40 : decode cX6_run 40 = .ok (.goto 4, 3) := by decide +kernel
theorem dX6_run_43 : decode cX6_run 43 = .ok (.iconst 0, 1) := by decide +kernel
theorem dX6_run_44 : decode cX6_run 44 = .ok (.invokevirtual 36, 3) := by decide +kernel
theorem dX6_run_47 : decode cX6_run 47 = .ok (.ifCond .eq 5, 3) := by decide +kernel
theorem dX6_run_50 : decode cX6_run 50 = .ok (.iconst 0, 1) := by decide +kernel
theorem dX6_run_51 : decode cX6_run 51 = .ok (.ireturn, 1) := by decide +kernel
theorem dX6_run_52 : decode cX6_run 52 = .ok (.aload_n 0, 1) := by decide +kernel
theorem dX6_run_53 : decode cX6_run 53 = .ok (.invokevirtual 51, 3) := by decide +kernel
theorem dX6_run_56 : decode cX6_run 56 = .ok (.aload_n 0, 1) := by decide +kernel
theorem dX6_run_57 : decode cX6_run 57 = .ok (.iload_n 1, 1) := by decide +kernel
theorem dX6_run_58 : decode cX6_run 58 = .ok (.invokevirtual 114, 3) := by decide +kernel
theorem dX6_run_61 : decode cX6_run 61 = .ok (.ireturn, 1) := by decide +kernel
set_option maxRecDepth 20000 in
theorem ggX6_empties_X6_of : GoodIn wsX6_empties wsX6_of := goodIn_r _ [5] (by decide +kernel) (by decide +kernel)
set_option maxRecDepth 20000 in
theorem gX6_empties_X6_of : GoodIn wsX6_empties (va_wsS RX6 40 yX6_of wsX6_of) := goodIn_app (goodIn_of _ (by decide +kernel)) ggX6_empties_X6_of
theorem dX6_empties_0 : decode cX6_empties 0 = .ok (.aload_n 0, 1) := by decide +kernel
theorem dX6_empties_1 : decode cX6_empties 1 = .ok (.getfield 7, 3) := by decide +kernel
theorem dX6_empties_4 : decode cX6_empties 4 = .ok (.iconst 1, 1) := by decide +kernel
theorem dX6_empties_5 : decode cX6_empties 5 = .ok (.iconst 0, 1) := by decide +kernel
theorem dX6_empties_6 : decode cX6_empties 6 = .ok (.iastore, 1) := by decide +kernel
theorem dX6_empties_7 : decode cX6_empties 7 = .ok (.iconst 0, 1) := by decide +kernel
theorem dX6_empties_8 : decode cX6_empties 8 = .ok (.istore_n 1, 1) := by decide +kernel
theorem dX6_empties_9 : decode cX6_empties 9 = .ok (.iload_n 1, 1) := by decide +kernel
theorem dX6_empties_10 : decode cX6_empties 10 = .ok (.aload_n 0, 1) := by decide +kernel
theorem dX6_empties_11 : decode cX6_empties 11 = .ok (.getfield 7, 3) := by decide +kernel
theorem dX6_empties_14 : decode cX6_empties 14 = .ok (.iconst 0, 1) := by decide +kernel
theorem dX6_empties_15 : decode cX6_empties 15 = .ok (.iaload, 1) := by decide +kernel
theorem dX6_empties_16 : decode cX6_empties 16 = .ok (.if_icmp .ge 57, 3) := by decide +kernel
theorem dX6_empties_19 : decode cX6_empties 19 = .ok (.iload_n 1, 1) := by decide +kernel
theorem dX6_empties_20 : decode cX6_empties 20 = .ok (.invokestatic 40, 3) := by decide +kernel
theorem dX6_empties_23 : decode cX6_empties 23 = .ok (.istore_n 2, 1) := by decide +kernel
theorem dX6_empties_24 : decode cX6_empties 24 = .ok (.iconst 5, 1) := by decide +kernel
theorem dX6_empties_25 : decode cX6_empties 25 = .ok (.istore_n 3, 1) := by decide +kernel
theorem dX6_empties_26 : decode cX6_empties 26 = .ok (.iload_n 3, 1) := by decide +kernel
theorem dX6_empties_27 : decode cX6_empties 27 = .ok (.bipush 16, 2) := by decide +kernel
theorem dX6_empties_29 : decode cX6_empties 29 = .ok (.if_icmp .ge 18, 3) := by decide +kernel
theorem dX6_empties_32 : decode cX6_empties 32 = .ok (.aload_n 0, 1) := by decide +kernel
theorem dX6_empties_33 : decode cX6_empties 33 = .ok (.getfield 7, 3) := by decide +kernel
theorem dX6_empties_36 : decode cX6_empties 36 = .ok (.iload_n 2, 1) := by decide +kernel
theorem dX6_empties_37 : decode cX6_empties 37 = .ok (.iload_n 3, 1) := by decide +kernel
theorem dX6_empties_38 : decode cX6_empties 38 = .ok (.iadd, 1) := by decide +kernel
theorem dX6_empties_39 : decode cX6_empties 39 = .ok (.iconst 0, 1) := by decide +kernel
theorem dX6_empties_40 : decode cX6_empties 40 = .ok (.iastore, 1) := by decide +kernel
theorem dX6_empties_41 : decode cX6_empties 41 = .ok (.iinc 3 1, 3) := by decide +kernel
theorem dX6_empties_44 : decode cX6_empties 44 = .ok (.goto (-18), 3) := by decide +kernel
theorem dX6_empties_47 : decode cX6_empties 47 = .ok (.aload_n 0, 1) := by decide +kernel
theorem dX6_empties_48 : decode cX6_empties 48 = .ok (.getfield 7, 3) := by decide +kernel
theorem dX6_empties_51 : decode cX6_empties 51 = .ok (.iload_n 2, 1) := by decide +kernel
theorem dX6_empties_52 : decode cX6_empties 52 = .ok (.bipush 6, 2) := by decide +kernel
theorem dX6_empties_54 : decode cX6_empties 54 = .ok (.iadd, 1) := by decide +kernel
theorem dX6_empties_55 : decode cX6_empties 55 = .ok (.iconst (-1), 1) := by decide +kernel
theorem dX6_empties_56 : decode cX6_empties 56 = .ok (.iastore, 1) := by decide +kernel
theorem dX6_empties_57 : decode cX6_empties 57 = .ok (.aload_n 0, 1) := by decide +kernel
theorem dX6_empties_58 : decode cX6_empties 58 = .ok (.getfield 7, 3) := by decide +kernel
theorem dX6_empties_61 : decode cX6_empties 61 = .ok (.iload_n 2, 1) := by decide +kernel
theorem dX6_empties_62 : decode cX6_empties 62 = .ok (.bipush 7, 2) := by decide +kernel
theorem dX6_empties_64 : decode cX6_empties 64 = .ok (.iadd, 1) := by decide +kernel
theorem dX6_empties_65 : decode cX6_empties 65 = .ok (.iconst 1, 1) := by decide +kernel
theorem dX6_empties_66 : decode cX6_empties 66 = .ok (.iastore, 1) := by decide +kernel
theorem dX6_empties_67 : decode cX6_empties 67 = .ok (.iinc 1 1, 3) := by decide +kernel
theorem dX6_empties_70 : decode cX6_empties 70 = .ok (.goto (-61), 3) := by decide +kernel
theorem dX6_empties_73 : decode cX6_empties 73 = .ok (.return_, 1) := by decide +kernel
set_option maxRecDepth 20000 in
theorem ggX6_restart_X6_saves : GoodIn wsX6_restart wsX6_saves := goodIn_r _ [7, 8, 9, 2, 17, 18, 19, 20, 21, 22, 23, 24, 25, 26, 27, 28] (by decide +kernel) (by decide +kernel)
set_option maxRecDepth 20000 in
theorem gX6_restart_X6_saves : GoodIn wsX6_restart (wsV RX6 51 RX6 yX6_saves wsX6_saves) := goodIn_app (goodIn_of _ (by decide +kernel)) ggX6_restart_X6_saves
set_option maxRecDepth 20000 in
theorem ggX6_restart_X6_empties : GoodIn wsX6_restart wsX6_empties := goodIn_r _ [13, 2, 14, 15, 6, 16, 17, 18, 19, 20, 21, 22, 23, 24, 25, 26, 27, 28] (by decide +kernel) (by decide +kernel)
set_option maxRecDepth 20000 in
theorem gX6_restart_X6_empties : GoodIn wsX6_restart (wsV RX6 117 RX6 yX6_empties wsX6_empties) := goodIn_app (goodIn_of _ (by decide +kernel)) ggX6_restart_X6_empties
theorem dX6_restart_0 : decode cX6_restart 0 = .ok (.aload_n 0, 1) := by decide +kernel
theorem dX6_restart_1 : decode cX6_restart 1 = .ok (.iconst 0, 1) := by decide +kernel
theorem dX6_restart_2 : decode cX6_restart 2 = .ok (.putfield 25, 3) := by decide +kernel
theorem dX6_restart_5 : decode cX6_restart 5 = .ok (.aload_n 0, 1) := by decide +kernel
theorem dX6_restart_6 : decode cX6_restart 6 = .ok (.invokevirtual 51, 3) := by decide +kernel
theorem dX6_restart_9 : decode cX6_restart 9 = .ok (.aload_n 0, 1) := by decide +kernel
theorem dX6_restart_10 : decode cX6_restart 10 = .ok (.getfield 7, 3) := by decide +kernel
theorem dX6_restart_13 : decode cX6_restart 13 = .ok (.iconst 1, 1) := by decide +kernel
theorem dX6_restart_14 : decode cX6_restart 14 = .ok (.iaload, 1) := by decide +kernel
theorem dX6_restart_15 : decode cX6_restart 15 = .ok (.istore_n 1, 1) := by decide +kernel
theorem dX6_restart_16 : decode cX6_restart 16 = .ok (.aload_n 0, 1) := by decide +kernel
theorem dX6_restart_17 : decode cX6_restart 17 = .ok (.invokevirtual 117, 3) := by decide +kernel
theorem dX6_restart_20 : decode cX6_restart 20 = .ok (.iload_n 1, 1) := by decide +kernel
theorem dX6_restart_21 : decode cX6_restart 21 = .ok (.ireturn, 1) := by decide +kernel
theorem dX6_now_0 : decode cX6_now 0 = .ok (.aload_n 0, 1) := by decide +kernel
theorem dX6_now_1 : decode cX6_now 1 = .ok (.iconst 0, 1) := by decide +kernel
theorem dX6_now_2 : decode cX6_now 2 = .ok (.putfield 25, 3) := by decide +kernel
theorem dX6_now_5 : decode cX6_now 5 = .ok (.aload_n 0, 1) := by decide +kernel
theorem dX6_now_6 : decode cX6_now 6 = .ok (.getfield 7, 3) := by decide +kernel
theorem dX6_now_9 : decode cX6_now 9 = .ok (.iconst 1, 1) := by decide +kernel
theorem dX6_now_10 : decode cX6_now 10 = .ok (.iaload, 1) := by decide +kernel
theorem dX6_now_11 : decode cX6_now 11 = .ok (.ireturn, 1) := by decide +kernel
set_option maxRecDepth 20000 in
theorem ggX6_output_X6_made : GoodIn wsX6_output wsX6_made := goodIn_r _ [6, 7, 8, 9, 5, 10, 11, 12, 13, 14, 15, 16, 17, 18, 19, 20, 21, 22] (by decide +kernel) (by decide +kernel)
set_option maxRecDepth 20000 in
theorem gX6_output_X6_made : GoodIn wsX6_output (wsV RX6 105 RX6 yX6_made wsX6_made) := goodIn_app (goodIn_of _ (by decide +kernel)) ggX6_output_X6_made
theorem dX6_output_0 : decode cX6_output 0 = .ok (.aload_n 0, 1) := by decide +kernel
theorem dX6_output_1 : decode cX6_output 1 = .ok (.iconst 0, 1) := by decide +kernel
theorem dX6_output_2 : decode cX6_output 2 = .ok (.putfield 25, 3) := by decide +kernel
theorem dX6_output_5 : decode cX6_output 5 = .ok (.aload_n 0, 1) := by decide +kernel
theorem dX6_output_6 : decode cX6_output 6 = .ok (.invokevirtual 105, 3) := by decide +kernel
theorem dX6_output_9 : decode cX6_output 9 = .ok (.ireturn, 1) := by decide +kernel
set_option maxRecDepth 20000 in
theorem ggX6_setting_X6_isMachine : GoodIn wsX6_setting wsX6_isMachine := goodIn_r _ [6, 1, 7, 8, 5, 9, 18, 19, 20, 21, 22, 23, 24, 25, 26, 27, 28, 29] (by decide +kernel) (by decide +kernel)
set_option maxRecDepth 20000 in
theorem gX6_setting_X6_isMachine : GoodIn wsX6_setting (wsV RX6 58 RX6 yX6_isMachine wsX6_isMachine) := goodIn_app (goodIn_of _ (by decide +kernel)) ggX6_setting_X6_isMachine
set_option maxRecDepth 20000 in
theorem ggX6_setting_X6_within : GoodIn wsX6_setting wsX6_within := goodIn_r _ [9] (by decide +kernel) (by decide +kernel)
set_option maxRecDepth 20000 in
theorem gX6_setting_X6_within : GoodIn wsX6_setting (va_wsS RX6 29 yX6_within wsX6_within) := goodIn_app (goodIn_of _ (by decide +kernel)) ggX6_setting_X6_within
set_option maxRecDepth 20000 in
theorem ggX6_setting_X6_refused : GoodIn wsX6_setting wsX6_refused := goodIn_r _ [13, 14, 18, 19, 20, 21, 22, 23, 24, 25, 26, 27, 28, 29] (by decide +kernel) (by decide +kernel)
set_option maxRecDepth 20000 in
theorem gX6_setting_X6_refused : GoodIn wsX6_setting (wsV RX6 36 RX6 yX6_refused wsX6_refused) := goodIn_app (goodIn_of _ (by decide +kernel)) ggX6_setting_X6_refused
set_option maxRecDepth 20000 in
theorem ggX6_setting_X6_of : GoodIn wsX6_setting wsX6_of := goodIn_r _ [17] (by decide +kernel) (by decide +kernel)
set_option maxRecDepth 20000 in
theorem gX6_setting_X6_of : GoodIn wsX6_setting (va_wsS RX6 40 yX6_of wsX6_of) := goodIn_app (goodIn_of _ (by decide +kernel)) ggX6_setting_X6_of
theorem dX6_setting_0 : decode cX6_setting 0 = .ok (.aload_n 0, 1) := by decide +kernel
theorem dX6_setting_1 : decode cX6_setting 1 = .ok (.aload_n 0, 1) := by decide +kernel
theorem dX6_setting_2 : decode cX6_setting 2 = .ok (.iload_n 1, 1) := by decide +kernel
theorem dX6_setting_3 : decode cX6_setting 3 = .ok (.invokevirtual 58, 3) := by decide +kernel
theorem dX6_setting_6 : decode cX6_setting 6 = .ok (.ifCond .ne 7, 3) := by decide +kernel
theorem dX6_setting_9 : decode cX6_setting 9 = .ok (.iconst 1, 1) := by decide +kernel
theorem dX6_setting_10 : decode cX6_setting 10 = .ok (.goto 17, 3) := by decide +kernel
theorem dX6_setting_13 : decode cX6_setting 13 = .ok (.iload_n 2, 1) := by decide +kernel
theorem dX6_setting_14 : decode cX6_setting 14 = .ok (.iconst 0, 1) := by decide +kernel
theorem dX6_setting_15 : decode cX6_setting 15 = .ok (.iconst 4, 1) := by decide +kernel
theorem dX6_setting_16 : decode cX6_setting 16 = .ok (.invokestatic 29, 3) := by decide +kernel
theorem dX6_setting_19 : decode cX6_setting 19 = .ok (.ifCond .eq 7, 3) := by decide +kernel
theorem dX6_setting_22 : decode cX6_setting 22 = .ok (.iconst 0, 1) := by decide +kernel
theorem dX6_setting_23 : decode cX6_setting 23 = .ok (.goto 4, 3) := by decide +kernel
theorem dX6_setting_26 : decode cX6_setting 26 = .ok (.iconst 2, 1) := by decide +kernel
theorem dX6_setting_27 : decode cX6_setting 27 = .ok (.invokevirtual 36, 3) := by decide +kernel
theorem dX6_setting_30 : decode cX6_setting 30 = .ok (.ifCond .eq 7, 3) := by decide +kernel
theorem dX6_setting_33 : decode cX6_setting 33 = .ok (.iconst 0, 1) := by decide +kernel
theorem dX6_setting_34 : decode cX6_setting 34 = .ok (.goto 14, 3) := by decide +kernel
theorem dX6_setting_37 : decode cX6_setting 37 = .ok (.aload_n 0, 1) := by decide +kernel
theorem dX6_setting_38 : decode cX6_setting 38 = .ok (.getfield 7, 3) := by decide +kernel
theorem dX6_setting_41 : decode cX6_setting 41 = .ok (.iload_n 1, 1) := by decide +kernel
theorem dX6_setting_42 : decode cX6_setting 42 = .ok (.invokestatic 40, 3) := by decide +kernel
theorem dX6_setting_45 : decode cX6_setting 45 = .ok (.iload_n 2, 1) := by decide +kernel
theorem dX6_setting_46 : decode cX6_setting 46 = .ok (.iadd, 1) := by decide +kernel
theorem dX6_setting_47 : decode cX6_setting 47 = .ok (.iaload, 1) := by decide +kernel
theorem dX6_setting_48 : decode cX6_setting 48 = .ok (.ireturn, 1) := by decide +kernel
set_option maxRecDepth 20000 in
theorem ggX6_tellMachine_X6_of : GoodIn wsX6_tellMachine wsX6_of := goodIn_r _ [5] (by decide +kernel) (by decide +kernel)
set_option maxRecDepth 20000 in
theorem gX6_tellMachine_X6_of : GoodIn wsX6_tellMachine (va_wsS RX6 40 yX6_of wsX6_of) := goodIn_app (goodIn_of _ (by decide +kernel)) ggX6_tellMachine_X6_of
theorem dX6_tellMachine_0 : decode cX6_tellMachine 0 = .ok (.aload_n 0, 1) := by decide +kernel
theorem dX6_tellMachine_1 : decode cX6_tellMachine 1 = .ok (.getfield 7, 3) := by decide +kernel
theorem dX6_tellMachine_4 : decode cX6_tellMachine 4 = .ok (.iload_n 1, 1) := by decide +kernel
theorem dX6_tellMachine_5 : decode cX6_tellMachine 5 = .ok (.invokestatic 40, 3) := by decide +kernel
theorem dX6_tellMachine_8 : decode cX6_tellMachine 8 = .ok (.iconst 5, 1) := by decide +kernel
theorem dX6_tellMachine_9 : decode cX6_tellMachine 9 = .ok (.iadd, 1) := by decide +kernel
theorem dX6_tellMachine_10 : decode cX6_tellMachine 10 = .ok (.iload_n 2, 1) := by decide +kernel
theorem dX6_tellMachine_11 : decode cX6_tellMachine 11 = .ok (.iadd, 1) := by decide +kernel
theorem dX6_tellMachine_12 : decode cX6_tellMachine 12 = .ok (.iaload, 1) := by decide +kernel
theorem dX6_tellMachine_13 : decode cX6_tellMachine 13 = .ok (.ireturn, 1) := by decide +kernel
set_option maxRecDepth 20000 in
theorem ggX6_machine_X6_isMachine : GoodIn wsX6_machine wsX6_isMachine := goodIn_r _ [5, 6, 7, 8, 4, 9, 22, 23, 24, 25, 26, 27, 28, 29, 30, 31, 32, 33] (by decide +kernel) (by decide +kernel)
set_option maxRecDepth 20000 in
theorem gX6_machine_X6_isMachine : GoodIn wsX6_machine (wsV RX6 58 RX6 yX6_isMachine wsX6_isMachine) := goodIn_app (goodIn_of _ (by decide +kernel)) ggX6_machine_X6_isMachine
set_option maxRecDepth 20000 in
theorem ggX6_machine_X6_within : GoodIn wsX6_machine wsX6_within := goodIn_r _ [9] (by decide +kernel) (by decide +kernel)
set_option maxRecDepth 20000 in
theorem gX6_machine_X6_within : GoodIn wsX6_machine (va_wsS RX6 29 yX6_within wsX6_within) := goodIn_app (goodIn_of _ (by decide +kernel)) ggX6_machine_X6_within
set_option maxRecDepth 20000 in
theorem ggX6_machine_X6_refused : GoodIn wsX6_machine wsX6_refused := goodIn_r _ [13, 14, 22, 23, 24, 25, 26, 27, 28, 29, 30, 31, 32, 33] (by decide +kernel) (by decide +kernel)
set_option maxRecDepth 20000 in
theorem gX6_machine_X6_refused : GoodIn wsX6_machine (wsV RX6 36 RX6 yX6_refused wsX6_refused) := goodIn_app (goodIn_of _ (by decide +kernel)) ggX6_machine_X6_refused
set_option maxRecDepth 20000 in
theorem ggX6_machine_X6_tellMachine : GoodIn wsX6_machine wsX6_tellMachine := goodIn_r _ [18, 6, 19, 20, 4, 21, 22, 23, 24, 25, 26, 27, 28, 29, 30, 31, 32, 33] (by decide +kernel) (by decide +kernel)
set_option maxRecDepth 20000 in
theorem gX6_machine_X6_tellMachine : GoodIn wsX6_machine (wsV RX6 120 RX6 yX6_tellMachine wsX6_tellMachine) := goodIn_app (goodIn_of _ (by decide +kernel)) ggX6_machine_X6_tellMachine
theorem dX6_machine_0 : decode cX6_machine 0 = .ok (.aload_n 0, 1) := by decide +kernel
theorem dX6_machine_1 : decode cX6_machine 1 = .ok (.aload_n 0, 1) := by decide +kernel
theorem dX6_machine_2 : decode cX6_machine 2 = .ok (.iload_n 1, 1) := by decide +kernel
theorem dX6_machine_3 : decode cX6_machine 3 = .ok (.invokevirtual 58, 3) := by decide +kernel
theorem dX6_machine_6 : decode cX6_machine 6 = .ok (.ifCond .ne 7, 3) := by decide +kernel
theorem dX6_machine_9 : decode cX6_machine 9 = .ok (.iconst 1, 1) := by decide +kernel
theorem dX6_machine_10 : decode cX6_machine 10 = .ok (.goto 17, 3) := by decide +kernel
theorem dX6_machine_13 : decode cX6_machine 13 = .ok (.iload_n 2, 1) := by decide +kernel
theorem dX6_machine_14 : decode cX6_machine 14 = .ok (.iconst 0, 1) := by decide +kernel
theorem dX6_machine_15 : decode cX6_machine 15 = .ok (.iconst 3, 1) := by decide +kernel
theorem dX6_machine_16 : decode cX6_machine 16 = .ok (.invokestatic 29, 3) := by decide +kernel
theorem dX6_machine_19 : decode cX6_machine 19 = .ok (.ifCond .eq 7, 3) := by decide +kernel
theorem dX6_machine_22 : decode cX6_machine 22 = .ok (.iconst 0, 1) := by decide +kernel
theorem dX6_machine_23 : decode cX6_machine 23 = .ok (.goto 4, 3) := by decide +kernel
theorem dX6_machine_26 : decode cX6_machine 26 = .ok (.iconst 2, 1) := by decide +kernel
theorem dX6_machine_27 : decode cX6_machine 27 = .ok (.invokevirtual 36, 3) := by decide +kernel
theorem dX6_machine_30 : decode cX6_machine 30 = .ok (.ifCond .eq 7, 3) := by decide +kernel
theorem dX6_machine_33 : decode cX6_machine 33 = .ok (.iconst 0, 1) := by decide +kernel
theorem dX6_machine_34 : decode cX6_machine 34 = .ok (.goto 9, 3) := by decide +kernel
theorem dX6_machine_37 : decode cX6_machine 37 = .ok (.aload_n 0, 1) := by decide +kernel
theorem dX6_machine_38 : decode cX6_machine 38 = .ok (.iload_n 1, 1) := by decide +kernel
theorem dX6_machine_39 : decode cX6_machine 39 = .ok (.iload_n 2, 1) := by decide +kernel
theorem dX6_machine_40 : decode cX6_machine 40 = .ok (.invokevirtual 120, 3) := by decide +kernel
theorem dX6_machine_43 : decode cX6_machine 43 = .ok (.ireturn, 1) := by decide +kernel
set_option maxRecDepth 20000 in
theorem ggX6_count_X6_isMachine : GoodIn wsX6_count wsX6_isMachine := goodIn_r _ [6, 1, 7, 8, 5, 9, 18, 19, 20, 21, 22, 23, 24, 25, 26, 27, 28, 29] (by decide +kernel) (by decide +kernel)
set_option maxRecDepth 20000 in
theorem gX6_count_X6_isMachine : GoodIn wsX6_count (wsV RX6 58 RX6 yX6_isMachine wsX6_isMachine) := goodIn_app (goodIn_of _ (by decide +kernel)) ggX6_count_X6_isMachine
set_option maxRecDepth 20000 in
theorem ggX6_count_X6_within : GoodIn wsX6_count wsX6_within := goodIn_r _ [9] (by decide +kernel) (by decide +kernel)
set_option maxRecDepth 20000 in
theorem gX6_count_X6_within : GoodIn wsX6_count (va_wsS RX6 29 yX6_within wsX6_within) := goodIn_app (goodIn_of _ (by decide +kernel)) ggX6_count_X6_within
set_option maxRecDepth 20000 in
theorem ggX6_count_X6_refused : GoodIn wsX6_count wsX6_refused := goodIn_r _ [13, 14, 18, 19, 20, 21, 22, 23, 24, 25, 26, 27, 28, 29] (by decide +kernel) (by decide +kernel)
set_option maxRecDepth 20000 in
theorem gX6_count_X6_refused : GoodIn wsX6_count (wsV RX6 36 RX6 yX6_refused wsX6_refused) := goodIn_app (goodIn_of _ (by decide +kernel)) ggX6_count_X6_refused
set_option maxRecDepth 20000 in
theorem ggX6_count_X6_of : GoodIn wsX6_count wsX6_of := goodIn_r _ [17] (by decide +kernel) (by decide +kernel)
set_option maxRecDepth 20000 in
theorem gX6_count_X6_of : GoodIn wsX6_count (va_wsS RX6 40 yX6_of wsX6_of) := goodIn_app (goodIn_of _ (by decide +kernel)) ggX6_count_X6_of
theorem dX6_count_0 : decode cX6_count 0 = .ok (.aload_n 0, 1) := by decide +kernel
theorem dX6_count_1 : decode cX6_count 1 = .ok (.aload_n 0, 1) := by decide +kernel
theorem dX6_count_2 : decode cX6_count 2 = .ok (.iload_n 1, 1) := by decide +kernel
theorem dX6_count_3 : decode cX6_count 3 = .ok (.invokevirtual 58, 3) := by decide +kernel
theorem dX6_count_6 : decode cX6_count 6 = .ok (.ifCond .ne 7, 3) := by decide +kernel
theorem dX6_count_9 : decode cX6_count 9 = .ok (.iconst 1, 1) := by decide +kernel
theorem dX6_count_10 : decode cX6_count 10 = .ok (.goto 17, 3) := by decide +kernel
theorem dX6_count_13 : decode cX6_count 13 = .ok (.iload_n 2, 1) := by decide +kernel
theorem dX6_count_14 : decode cX6_count 14 = .ok (.iconst 0, 1) := by decide +kernel
theorem dX6_count_15 : decode cX6_count 15 = .ok (.iconst 5, 1) := by decide +kernel
theorem dX6_count_16 : decode cX6_count 16 = .ok (.invokestatic 29, 3) := by decide +kernel
theorem dX6_count_19 : decode cX6_count 19 = .ok (.ifCond .eq 7, 3) := by decide +kernel
theorem dX6_count_22 : decode cX6_count 22 = .ok (.iconst 0, 1) := by decide +kernel
theorem dX6_count_23 : decode cX6_count 23 = .ok (.goto 4, 3) := by decide +kernel
theorem dX6_count_26 : decode cX6_count 26 = .ok (.iconst 2, 1) := by decide +kernel
theorem dX6_count_27 : decode cX6_count 27 = .ok (.invokevirtual 36, 3) := by decide +kernel
theorem dX6_count_30 : decode cX6_count 30 = .ok (.ifCond .eq 7, 3) := by decide +kernel
theorem dX6_count_33 : decode cX6_count 33 = .ok (.iconst 0, 1) := by decide +kernel
theorem dX6_count_34 : decode cX6_count 34 = .ok (.goto 17, 3) := by decide +kernel
theorem dX6_count_37 : decode cX6_count 37 = .ok (.aload_n 0, 1) := by decide +kernel
theorem dX6_count_38 : decode cX6_count 38 = .ok (.getfield 7, 3) := by decide +kernel
theorem dX6_count_41 : decode cX6_count 41 = .ok (.iload_n 1, 1) := by decide +kernel
theorem dX6_count_42 : decode cX6_count 42 = .ok (.invokestatic 40, 3) := by decide +kernel
theorem dX6_count_45 : decode cX6_count 45 = .ok (.bipush 9, 2) := by decide +kernel
theorem dX6_count_47 : decode cX6_count 47 = .ok (.iadd, 1) := by decide +kernel
theorem dX6_count_48 : decode cX6_count 48 = .ok (.iload_n 2, 1) := by decide +kernel
theorem dX6_count_49 : decode cX6_count 49 = .ok (.iadd, 1) := by decide +kernel
theorem dX6_count_50 : decode cX6_count 50 = .ok (.iaload, 1) := by decide +kernel
theorem dX6_count_51 : decode cX6_count 51 = .ok (.ireturn, 1) := by decide +kernel
set_option maxRecDepth 20000 in
theorem ggX6_meanFill_X6_isMachine : GoodIn wsX6_meanFill wsX6_isMachine := goodIn_r _ [6, 1, 7, 8, 5, 9, 18, 19, 20, 21, 22, 23, 24, 25, 26, 27, 28, 29] (by decide +kernel) (by decide +kernel)
set_option maxRecDepth 20000 in
theorem gX6_meanFill_X6_isMachine : GoodIn wsX6_meanFill (wsV RX6 58 RX6 yX6_isMachine wsX6_isMachine) := goodIn_app (goodIn_of _ (by decide +kernel)) ggX6_meanFill_X6_isMachine
set_option maxRecDepth 20000 in
theorem ggX6_meanFill_X6_refused : GoodIn wsX6_meanFill wsX6_refused := goodIn_r _ [13, 14, 18, 19, 20, 21, 22, 23, 24, 25, 26, 27, 28, 29] (by decide +kernel) (by decide +kernel)
set_option maxRecDepth 20000 in
theorem gX6_meanFill_X6_refused : GoodIn wsX6_meanFill (wsV RX6 36 RX6 yX6_refused wsX6_refused) := goodIn_app (goodIn_of _ (by decide +kernel)) ggX6_meanFill_X6_refused
set_option maxRecDepth 20000 in
theorem ggX6_meanFill_X6_of : GoodIn wsX6_meanFill wsX6_of := goodIn_r _ [17] (by decide +kernel) (by decide +kernel)
set_option maxRecDepth 20000 in
theorem gX6_meanFill_X6_of : GoodIn wsX6_meanFill (va_wsS RX6 40 yX6_of wsX6_of) := goodIn_app (goodIn_of _ (by decide +kernel)) ggX6_meanFill_X6_of
theorem dX6_meanFill_0 : decode cX6_meanFill 0 = .ok (.aload_n 0, 1) := by decide +kernel
theorem dX6_meanFill_1 : decode cX6_meanFill 1 = .ok (.aload_n 0, 1) := by decide +kernel
theorem dX6_meanFill_2 : decode cX6_meanFill 2 = .ok (.iload_n 1, 1) := by decide +kernel
theorem dX6_meanFill_3 : decode cX6_meanFill 3 = .ok (.invokevirtual 58, 3) := by decide +kernel
theorem dX6_meanFill_6 : decode cX6_meanFill 6 = .ok (.ifCond .eq 7, 3) := by decide +kernel
theorem dX6_meanFill_9 : decode cX6_meanFill 9 = .ok (.iconst 0, 1) := by decide +kernel
theorem dX6_meanFill_10 : decode cX6_meanFill 10 = .ok (.goto 4, 3) := by decide +kernel
theorem dX6_meanFill_13 : decode cX6_meanFill 13 = .ok (.iconst 1, 1) := by decide +kernel
theorem dX6_meanFill_14 : decode cX6_meanFill 14 = .ok (.invokevirtual 36, 3) := by decide +kernel
theorem dX6_meanFill_17 : decode cX6_meanFill 17 = .ok (.ifCond .ne 12, 3) := by decide +kernel
theorem dX6_meanFill_20 : decode cX6_meanFill 20 = .ok (.aload_n 0, 1) := by decide +kernel
theorem dX6_meanFill_21 : decode cX6_meanFill 21 = .ok (.getfield 7, 3) := by decide +kernel
theorem dX6_meanFill_24 : decode cX6_meanFill 24 = .ok (.iconst 1, 1) := by decide +kernel
theorem dX6_meanFill_25 : decode cX6_meanFill 25 = .ok (.iaload, 1) := by decide +kernel
theorem dX6_meanFill_26 : decode cX6_meanFill 26 = .ok (.ifCond .ne 5, 3) := by decide +kernel
theorem dX6_meanFill_29 : decode cX6_meanFill 29 = .ok (.dconst 0, 1) := by decide +kernel
theorem dX6_meanFill_30 : decode cX6_meanFill 30 = .ok (.dreturn, 1) := by decide +kernel
theorem dX6_meanFill_31 : decode cX6_meanFill 31 = .ok (.aload_n 0, 1) := by decide +kernel
theorem dX6_meanFill_32 : decode cX6_meanFill 32 = .ok (.getfield 7, 3) := by decide +kernel
theorem dX6_meanFill_35 : decode cX6_meanFill 35 = .ok (.iload_n 1, 1) := by decide +kernel
theorem dX6_meanFill_36 : decode cX6_meanFill 36 = .ok (.invokestatic 40, 3) := by decide +kernel
theorem dX6_meanFill_39 : decode cX6_meanFill 39 = .ok (.bipush 15, 2) := by decide +kernel
theorem dX6_meanFill_41 : decode cX6_meanFill 41 = .ok (.iadd, 1) := by decide +kernel
theorem dX6_meanFill_42 : decode cX6_meanFill 42 = .ok (.iaload, 1) := by decide +kernel
theorem dX6_meanFill_43 : decode cX6_meanFill 43 = .ok (.i2d, 1) := by decide +kernel
theorem dX6_meanFill_44 : decode cX6_meanFill 44 = .ok (.aload_n 0, 1) := by decide +kernel
theorem dX6_meanFill_45 : decode cX6_meanFill 45 = .ok (.getfield 7, 3) := by decide +kernel
theorem dX6_meanFill_48 : decode cX6_meanFill 48 = .ok (.iconst 1, 1) := by decide +kernel
theorem dX6_meanFill_49 : decode cX6_meanFill 49 = .ok (.iaload, 1) := by decide +kernel
theorem dX6_meanFill_50 : decode cX6_meanFill 50 = .ok (.i2d, 1) := by decide +kernel
theorem dX6_meanFill_51 : decode cX6_meanFill 51 = .ok (.ddiv, 1) := by decide +kernel
theorem dX6_meanFill_52 : decode cX6_meanFill 52 = .ok (.dreturn, 1) := by decide +kernel
set_option maxRecDepth 20000 in
theorem ggX6_bottles_X6_of : GoodIn wsX6_bottles wsX6_of := goodIn_r _ [5] (by decide +kernel) (by decide +kernel)
set_option maxRecDepth 20000 in
theorem gX6_bottles_X6_of : GoodIn wsX6_bottles (va_wsS RX6 40 yX6_of wsX6_of) := goodIn_app (goodIn_of _ (by decide +kernel)) ggX6_bottles_X6_of
theorem dX6_bottles_0 : decode cX6_bottles 0 = .ok (.iconst 0, 1) := by decide +kernel
theorem dX6_bottles_1 : decode cX6_bottles 1 = .ok (.istore_n 1, 1) := by decide +kernel
theorem dX6_bottles_2 : decode cX6_bottles 2 = .ok (.iconst 0, 1) := by decide +kernel
theorem dX6_bottles_3 : decode cX6_bottles 3 = .ok (.istore_n 2, 1) := by decide +kernel
theorem dX6_bottles_4 : decode cX6_bottles 4 = .ok (.iload_n 2, 1) := by decide +kernel
theorem dX6_bottles_5 : decode cX6_bottles 5 = .ok (.aload_n 0, 1) := by decide +kernel
theorem dX6_bottles_6 : decode cX6_bottles 6 = .ok (.getfield 7, 3) := by decide +kernel
theorem dX6_bottles_9 : decode cX6_bottles 9 = .ok (.iconst 0, 1) := by decide +kernel
theorem dX6_bottles_10 : decode cX6_bottles 10 = .ok (.iaload, 1) := by decide +kernel
theorem dX6_bottles_11 : decode cX6_bottles 11 = .ok (.if_icmp .ge 45, 3) := by decide +kernel
theorem dX6_bottles_14 : decode cX6_bottles 14 = .ok (.iload_n 1, 1) := by decide +kernel
theorem dX6_bottles_15 : decode cX6_bottles 15 = .ok (.aload_n 0, 1) := by decide +kernel
theorem dX6_bottles_16 : decode cX6_bottles 16 = .ok (.getfield 7, 3) := by decide +kernel
theorem dX6_bottles_19 : decode cX6_bottles 19 = .ok (.iload_n 2, 1) := by decide +kernel
theorem dX6_bottles_20 : decode cX6_bottles 20 = .ok (.invokestatic 40, 3) := by decide +kernel
theorem dX6_bottles_23 : decode cX6_bottles 23 = .ok (.iconst 5, 1) := by decide +kernel
theorem dX6_bottles_24 : decode cX6_bottles 24 = .ok (.iadd, 1) := by decide +kernel
theorem dX6_bottles_25 : decode cX6_bottles 25 = .ok (.iaload, 1) := by decide +kernel
theorem dX6_bottles_26 : decode cX6_bottles 26 = .ok (.aload_n 0, 1) := by decide +kernel
theorem dX6_bottles_27 : decode cX6_bottles 27 = .ok (.getfield 7, 3) := by decide +kernel
theorem dX6_bottles_30 : decode cX6_bottles 30 = .ok (.iload_n 2, 1) := by decide +kernel
theorem dX6_bottles_31 : decode cX6_bottles 31 = .ok (.invokestatic 40, 3) := by decide +kernel
theorem dX6_bottles_34 : decode cX6_bottles 34 = .ok (.bipush 6, 2) := by decide +kernel
theorem dX6_bottles_36 : decode cX6_bottles 36 = .ok (.iadd, 1) := by decide +kernel
theorem dX6_bottles_37 : decode cX6_bottles 37 = .ok (.iaload, 1) := by decide +kernel
theorem dX6_bottles_38 : decode cX6_bottles 38 = .ok (.iconst (-1), 1) := by decide +kernel
theorem dX6_bottles_39 : decode cX6_bottles 39 = .ok (.if_icmp .ne 7, 3) := by decide +kernel
theorem dX6_bottles_42 : decode cX6_bottles 42 = .ok (.iconst 0, 1) := by decide +kernel
theorem dX6_bottles_43 : decode cX6_bottles 43 = .ok (.goto 4, 3) := by decide +kernel
theorem dX6_bottles_46 : decode cX6_bottles 46 = .ok (.iconst 1, 1) := by decide +kernel
theorem dX6_bottles_47 : decode cX6_bottles 47 = .ok (.iadd, 1) := by decide +kernel
theorem dX6_bottles_48 : decode cX6_bottles 48 = .ok (.iadd, 1) := by decide +kernel
theorem dX6_bottles_49 : decode cX6_bottles 49 = .ok (.istore_n 1, 1) := by decide +kernel
theorem dX6_bottles_50 : decode cX6_bottles 50 = .ok (.iinc 2 1, 3) := by decide +kernel
theorem dX6_bottles_53 : decode cX6_bottles 53 = .ok (.goto (-49), 3) := by decide +kernel
theorem dX6_bottles_56 : decode cX6_bottles 56 = .ok (.iload_n 1, 1) := by decide +kernel
theorem dX6_bottles_57 : decode cX6_bottles 57 = .ok (.ireturn, 1) := by decide +kernel
set_option maxRecDepth 20000 in
theorem ggX6_inside_X6_bottles : GoodIn wsX6_inside wsX6_bottles := goodIn_r _ [6, 7, 8, 9, 5, 10, 11, 12, 13, 14, 15, 16, 17, 18, 19, 20, 21, 22] (by decide +kernel) (by decide +kernel)
set_option maxRecDepth 20000 in
theorem gX6_inside_X6_bottles : GoodIn wsX6_inside (wsV RX6 123 RX6 yX6_bottles wsX6_bottles) := goodIn_app (goodIn_of _ (by decide +kernel)) ggX6_inside_X6_bottles
theorem dX6_inside_0 : decode cX6_inside 0 = .ok (.aload_n 0, 1) := by decide +kernel
theorem dX6_inside_1 : decode cX6_inside 1 = .ok (.iconst 0, 1) := by decide +kernel
theorem dX6_inside_2 : decode cX6_inside 2 = .ok (.putfield 25, 3) := by decide +kernel
theorem dX6_inside_5 : decode cX6_inside 5 = .ok (.aload_n 0, 1) := by decide +kernel
theorem dX6_inside_6 : decode cX6_inside 6 = .ok (.invokevirtual 123, 3) := by decide +kernel
theorem dX6_inside_9 : decode cX6_inside 9 = .ok (.ireturn, 1) := by decide +kernel
set_option maxRecDepth 20000 in
theorem ggX6_most_X6_isDown : GoodIn wsX6_most wsX6_isDown := goodIn_r _ [6, 7, 11, 12, 13, 14, 15, 16, 17, 18, 19, 20, 21, 22] (by decide +kernel) (by decide +kernel)
set_option maxRecDepth 20000 in
theorem gX6_most_X6_isDown : GoodIn wsX6_most (wsV RX6 84 RX6 yX6_isDown wsX6_isDown) := goodIn_app (goodIn_of _ (by decide +kernel)) ggX6_most_X6_isDown
set_option maxRecDepth 20000 in
theorem ggX6_most_X6_of : GoodIn wsX6_most wsX6_of := goodIn_r _ [10] (by decide +kernel) (by decide +kernel)
set_option maxRecDepth 20000 in
theorem gX6_most_X6_of : GoodIn wsX6_most (va_wsS RX6 40 yX6_of wsX6_of) := goodIn_app (goodIn_of _ (by decide +kernel)) ggX6_most_X6_of
theorem dX6_most_0 : decode cX6_most 0 = .ok (.iconst 0, 1) := by decide +kernel
theorem dX6_most_1 : decode cX6_most 1 = .ok (.istore_n 3, 1) := by decide +kernel
theorem dX6_most_2 : decode cX6_most 2 = .ok (.iconst 1, 1) := by decide +kernel
theorem dX6_most_3 : decode cX6_most 3 = .ok (.istore 4, 2) := by decide +kernel
theorem dX6_most_5 : decode cX6_most 5 = .ok (.iload 4, 2) := by decide +kernel
theorem dX6_most_7 : decode cX6_most 7 = .ok (.iload_n 2, 1) := by decide +kernel
theorem dX6_most_8 : decode cX6_most 8 = .ok (.if_icmp .gt 27, 3) := by decide +kernel
theorem dX6_most_11 : decode cX6_most 11 = .ok (.iload_n 3, 1) := by decide +kernel
theorem dX6_most_12 : decode cX6_most 12 = .ok (.aload_n 0, 1) := by decide +kernel
theorem dX6_most_13 : decode cX6_most 13 = .ok (.iload_n 1, 1) := by decide +kernel
theorem dX6_most_14 : decode cX6_most 14 = .ok (.iload 4, 2) := by decide +kernel
theorem dX6_most_16 : decode cX6_most 16 = .ok (.invokevirtual 84, 3) := by decide +kernel
theorem dX6_most_19 : decode cX6_most 19 = .ok (.ifCond .eq 7, 3) := by decide +kernel
theorem dX6_most_22 : decode cX6_most 22 = .ok (.iconst 0, 1) := by decide +kernel
theorem dX6_most_23 : decode cX6_most 23 = .ok (.goto 4, 3) := by decide +kernel
theorem dX6_most_26 : decode cX6_most 26 = .ok (.iconst 1, 1) := by decide +kernel
theorem dX6_most_27 : decode cX6_most 27 = .ok (.iadd, 1) := by decide +kernel
theorem dX6_most_28 : decode cX6_most 28 = .ok (.istore_n 3, 1) := by decide +kernel
theorem dX6_most_29 : decode cX6_most 29 = .ok (.iinc 4 1, 3) := by decide +kernel
theorem dX6_most_32 : decode cX6_most 32 = .ok (.goto (-27), 3) := by decide +kernel
theorem dX6_most_35 : decode cX6_most 35 = .ok (.iload_n 3, 1) := by decide +kernel
theorem dX6_most_36 : decode cX6_most 36 = .ok (.aload_n 0, 1) := by decide +kernel
theorem dX6_most_37 : decode cX6_most 37 = .ok (.getfield 7, 3) := by decide +kernel
theorem dX6_most_40 : decode cX6_most 40 = .ok (.iload_n 1, 1) := by decide +kernel
theorem dX6_most_41 : decode cX6_most 41 = .ok (.invokestatic 40, 3) := by decide +kernel
theorem dX6_most_44 : decode cX6_most 44 = .ok (.iconst 1, 1) := by decide +kernel
theorem dX6_most_45 : decode cX6_most 45 = .ok (.iadd, 1) := by decide +kernel
theorem dX6_most_46 : decode cX6_most 46 = .ok (.iaload, 1) := by decide +kernel
theorem dX6_most_47 : decode cX6_most 47 = .ok (.idiv, 1) := by decide +kernel
theorem dX6_most_48 : decode cX6_most 48 = .ok (.ireturn, 1) := by decide +kernel
set_option maxRecDepth 20000 in
theorem ggX6_slowestOf_X6_laysDown : GoodIn wsX6_slowestOf wsX6_laysDown := goodIn_r _ [6, 7, 1, 19, 20, 21, 22, 23, 24, 25, 26, 27, 28, 29, 30] (by decide +kernel) (by decide +kernel)
set_option maxRecDepth 20000 in
theorem gX6_slowestOf_X6_laysDown : GoodIn wsX6_slowestOf (wsV RX6 108 RX6 yX6_laysDown wsX6_laysDown) := goodIn_app (goodIn_of _ (by decide +kernel)) ggX6_slowestOf_X6_laysDown
set_option maxRecDepth 20000 in
theorem ggX6_slowestOf_X6_most : GoodIn wsX6_slowestOf wsX6_most := goodIn_r _ [11, 1, 12, 13, 14, 5, 15, 7, 16, 17, 18, 19, 20, 21, 22, 23, 24, 25, 26, 27, 28, 29, 30] (by decide +kernel) (by decide +kernel)
set_option maxRecDepth 20000 in
theorem gX6_slowestOf_X6_most : GoodIn wsX6_slowestOf (wsV RX6 126 RX6 yX6_most wsX6_most) := goodIn_app (goodIn_of _ (by decide +kernel)) ggX6_slowestOf_X6_most
theorem dX6_slowestOf_0 : decode cX6_slowestOf 0 = .ok (.aload_n 0, 1) := by decide +kernel
theorem dX6_slowestOf_1 : decode cX6_slowestOf 1 = .ok (.iconst 1, 1) := by decide +kernel
theorem dX6_slowestOf_2 : decode cX6_slowestOf 2 = .ok (.iload_n 1, 1) := by decide +kernel
theorem dX6_slowestOf_3 : decode cX6_slowestOf 3 = .ok (.invokevirtual 108, 3) := by decide +kernel
theorem dX6_slowestOf_6 : decode cX6_slowestOf 6 = .ok (.iconst 0, 1) := by decide +kernel
theorem dX6_slowestOf_7 : decode cX6_slowestOf 7 = .ok (.istore_n 2, 1) := by decide +kernel
theorem dX6_slowestOf_8 : decode cX6_slowestOf 8 = .ok (.iconst 1, 1) := by decide +kernel
theorem dX6_slowestOf_9 : decode cX6_slowestOf 9 = .ok (.istore_n 3, 1) := by decide +kernel
theorem dX6_slowestOf_10 : decode cX6_slowestOf 10 = .ok (.iload_n 3, 1) := by decide +kernel
theorem dX6_slowestOf_11 : decode cX6_slowestOf 11 = .ok (.aload_n 0, 1) := by decide +kernel
theorem dX6_slowestOf_12 : decode cX6_slowestOf 12 = .ok (.getfield 7, 3) := by decide +kernel
theorem dX6_slowestOf_15 : decode cX6_slowestOf 15 = .ok (.iconst 0, 1) := by decide +kernel
theorem dX6_slowestOf_16 : decode cX6_slowestOf 16 = .ok (.iaload, 1) := by decide +kernel
theorem dX6_slowestOf_17 : decode cX6_slowestOf 17 = .ok (.if_icmp .ge 30, 3) := by decide +kernel
theorem dX6_slowestOf_20 : decode cX6_slowestOf 20 = .ok (.aload_n 0, 1) := by decide +kernel
theorem dX6_slowestOf_21 : decode cX6_slowestOf 21 = .ok (.iload_n 3, 1) := by decide +kernel
theorem dX6_slowestOf_22 : decode cX6_slowestOf 22 = .ok (.iload_n 1, 1) := by decide +kernel
theorem dX6_slowestOf_23 : decode cX6_slowestOf 23 = .ok (.invokevirtual 126, 3) := by decide +kernel
theorem dX6_slowestOf_26 : decode cX6_slowestOf 26 = .ok (.aload_n 0, 1) := by decide +kernel
theorem dX6_slowestOf_27 : decode cX6_slowestOf 27 = .ok (.iload_n 2, 1) := by decide +kernel
theorem dX6_slowestOf_28 : decode cX6_slowestOf 28 = .ok (.iload_n 1, 1) := by decide +kernel
theorem dX6_slowestOf_29 : decode cX6_slowestOf 29 = .ok (.invokevirtual 126, 3) := by decide +kernel
theorem dX6_slowestOf_32 : decode cX6_slowestOf 32 = .ok (.if_icmp .ge 7, 3) := by decide +kernel
theorem dX6_slowestOf_35 : decode cX6_slowestOf 35 = .ok (.iload_n 3, 1) := by decide +kernel
theorem dX6_slowestOf_36 : decode cX6_slowestOf 36 = .ok (.goto 4, 3) := by decide +kernel
theorem dX6_slowestOf_39 : decode cX6_slowestOf 39 = .ok (.iload_n 2, 1) := by decide +kernel
theorem dX6_slowestOf_40 : decode cX6_slowestOf 40 = .ok (.istore_n 2, 1) := by decide +kernel
theorem dX6_slowestOf_41 : decode cX6_slowestOf 41 = .ok (.iinc 3 1, 3) := by decide +kernel
theorem dX6_slowestOf_44 : decode cX6_slowestOf 44 = .ok (.goto (-34), 3) := by decide +kernel
theorem dX6_slowestOf_47 : decode cX6_slowestOf 47 = .ok (.iload_n 2, 1) := by decide +kernel
theorem dX6_slowestOf_48 : decode cX6_slowestOf 48 = .ok (.ireturn, 1) := by decide +kernel
set_option maxRecDepth 20000 in
theorem ggX6_refusedLimit_X6_within : GoodIn wsX6_refusedLimit wsX6_within := goodIn_r _ [5] (by decide +kernel) (by decide +kernel)
set_option maxRecDepth 20000 in
theorem gX6_refusedLimit_X6_within : GoodIn wsX6_refusedLimit (va_wsS RX6 29 yX6_within wsX6_within) := goodIn_app (goodIn_of _ (by decide +kernel)) ggX6_refusedLimit_X6_within
set_option maxRecDepth 20000 in
theorem ggX6_refusedLimit_X6_refused : GoodIn wsX6_refusedLimit wsX6_refused := goodIn_r _ [9, 10, 11, 12, 13, 14, 15, 16, 17, 18, 19, 20, 21, 22] (by decide +kernel) (by decide +kernel)
set_option maxRecDepth 20000 in
theorem gX6_refusedLimit_X6_refused : GoodIn wsX6_refusedLimit (wsV RX6 36 RX6 yX6_refused wsX6_refused) := goodIn_app (goodIn_of _ (by decide +kernel)) ggX6_refusedLimit_X6_refused
theorem dX6_refusedLimit_0 : decode cX6_refusedLimit 0 = .ok (.aload_n 0, 1) := by decide +kernel
theorem dX6_refusedLimit_1 : decode cX6_refusedLimit 1 = .ok (.iload_n 1, 1) := by decide +kernel
theorem dX6_refusedLimit_2 : decode cX6_refusedLimit 2 = .ok (.iconst 1, 1) := by decide +kernel
theorem dX6_refusedLimit_3 : decode cX6_refusedLimit 3 = .ok (.sipush 10000, 3) := by decide +kernel
theorem dX6_refusedLimit_6 : decode cX6_refusedLimit 6 = .ok (.invokestatic 29, 3) := by decide +kernel
theorem dX6_refusedLimit_9 : decode cX6_refusedLimit 9 = .ok (.ifCond .ne 7, 3) := by decide +kernel
theorem dX6_refusedLimit_12 : decode cX6_refusedLimit 12 = .ok (.iconst 1, 1) := by decide +kernel
theorem dX6_refusedLimit_13 : decode cX6_refusedLimit 13 = .ok (.goto 17, 3) := by decide +kernel
theorem dX6_refusedLimit_16 : decode cX6_refusedLimit 16 = .ok (.aload_n 0, 1) := by decide +kernel
theorem dX6_refusedLimit_17 : decode cX6_refusedLimit 17 = .ok (.getfield 7, 3) := by decide +kernel
theorem dX6_refusedLimit_20 : decode cX6_refusedLimit 20 = .ok (.iconst 0, 1) := by decide +kernel
theorem dX6_refusedLimit_21 : decode cX6_refusedLimit 21 = .ok (.iaload, 1) := by decide +kernel
theorem dX6_refusedLimit_22 : decode cX6_refusedLimit 22 = .ok (.ifCond .ne 7, 3) := by decide +kernel
theorem dX6_refusedLimit_25 : decode cX6_refusedLimit 25 = .ok (.iconst 2, 1) := by decide +kernel
theorem dX6_refusedLimit_26 : decode cX6_refusedLimit 26 = .ok (.goto 4, 3) := by decide +kernel
theorem dX6_refusedLimit_29 : decode cX6_refusedLimit 29 = .ok (.iconst 0, 1) := by decide +kernel
theorem dX6_refusedLimit_30 : decode cX6_refusedLimit 30 = .ok (.invokevirtual 36, 3) := by decide +kernel
theorem dX6_refusedLimit_33 : decode cX6_refusedLimit 33 = .ok (.ireturn, 1) := by decide +kernel
set_option maxRecDepth 20000 in
theorem ggX6_bound_X6_refusedLimit : GoodIn wsX6_bound wsX6_refusedLimit := goodIn_r _ [5, 6, 7, 8, 4, 9, 10, 11, 12, 13, 14, 35, 36, 37, 38, 39, 40, 41, 42, 43, 44, 45, 46] (by decide +kernel) (by decide +kernel)
set_option maxRecDepth 20000 in
theorem gX6_bound_X6_refusedLimit : GoodIn wsX6_bound (wsV RX6 129 RX6 yX6_refusedLimit wsX6_refusedLimit) := goodIn_app (goodIn_of _ (by decide +kernel)) ggX6_bound_X6_refusedLimit
set_option maxRecDepth 20000 in
theorem ggX6_bound_X6_slowestOf : GoodIn wsX6_bound wsX6_slowestOf := goodIn_r _ [18, 6, 19, 20, 21, 4, 22, 23, 24, 25, 26, 27, 28, 29, 30, 31, 32, 33, 34, 35, 36, 37, 38, 39, 40, 41, 42, 43, 44, 45, 46] (by decide +kernel) (by decide +kernel)
set_option maxRecDepth 20000 in
theorem gX6_bound_X6_slowestOf : GoodIn wsX6_bound (wsV RX6 132 RX6 yX6_slowestOf wsX6_slowestOf) := goodIn_app (goodIn_of _ (by decide +kernel)) ggX6_bound_X6_slowestOf
set_option maxRecDepth 20000 in
theorem ggX6_bound_X6_most : GoodIn wsX6_bound wsX6_most := goodIn_r _ [27, 6, 28, 29, 30, 4, 31, 23, 32, 33, 34, 35, 36, 37, 38, 39, 40, 41, 42, 43, 44, 45, 46] (by decide +kernel) (by decide +kernel)
set_option maxRecDepth 20000 in
theorem gX6_bound_X6_most : GoodIn wsX6_bound (wsV RX6 126 RX6 yX6_most wsX6_most) := goodIn_app (goodIn_of _ (by decide +kernel)) ggX6_bound_X6_most
theorem dX6_bound_0 : decode cX6_bound 0 = .ok (.aload_n 0, 1) := by decide +kernel
theorem dX6_bound_1 : decode cX6_bound 1 = .ok (.iload_n 1, 1) := by decide +kernel
theorem dX6_bound_2 : decode cX6_bound 2 = .ok (.invokevirtual 129, 3) := by decide +kernel
theorem dX6_bound_5 : decode cX6_bound 5 = .ok (.ifCond .eq 7, 3) := by decide +kernel
theorem dX6_bound_8 : decode cX6_bound 8 = .ok (.iconst 0, 1) := by decide +kernel
theorem dX6_bound_9 : decode cX6_bound 9 = .ok (.goto 13, 3) := by decide +kernel
theorem dX6_bound_12 : decode cX6_bound 12 = .ok (.aload_n 0, 1) := by decide +kernel
theorem dX6_bound_13 : decode cX6_bound 13 = .ok (.aload_n 0, 1) := by decide +kernel
theorem dX6_bound_14 : decode cX6_bound 14 = .ok (.iload_n 1, 1) := by decide +kernel
theorem dX6_bound_15 : decode cX6_bound 15 = .ok (.invokevirtual 132, 3) := by decide +kernel
theorem dX6_bound_18 : decode cX6_bound 18 = .ok (.iload_n 1, 1) := by decide +kernel
theorem dX6_bound_19 : decode cX6_bound 19 = .ok (.invokevirtual 126, 3) := by decide +kernel
theorem dX6_bound_22 : decode cX6_bound 22 = .ok (.ireturn, 1) := by decide +kernel
set_option maxRecDepth 20000 in
theorem ggX6_slowest_X6_refusedLimit : GoodIn wsX6_slowest wsX6_refusedLimit := goodIn_r _ [5, 6, 7, 8, 4, 9, 10, 11, 12, 13, 14, 35, 36, 37, 38, 39, 40, 41, 42, 43, 44, 45, 46] (by decide +kernel) (by decide +kernel)
set_option maxRecDepth 20000 in
theorem gX6_slowest_X6_refusedLimit : GoodIn wsX6_slowest (wsV RX6 129 RX6 yX6_refusedLimit wsX6_refusedLimit) := goodIn_app (goodIn_of _ (by decide +kernel)) ggX6_slowest_X6_refusedLimit
set_option maxRecDepth 20000 in
theorem ggX6_slowest_X6_slowestOf : GoodIn wsX6_slowest wsX6_slowestOf := goodIn_r _ [18, 6, 19, 20, 21, 4, 22, 23, 24, 25, 26, 27, 28, 29, 30, 31, 32, 33, 34, 35, 36, 37, 38, 39, 40, 41, 42, 43, 44, 45, 46] (by decide +kernel) (by decide +kernel)
set_option maxRecDepth 20000 in
theorem gX6_slowest_X6_slowestOf : GoodIn wsX6_slowest (wsV RX6 132 RX6 yX6_slowestOf wsX6_slowestOf) := goodIn_app (goodIn_of _ (by decide +kernel)) ggX6_slowest_X6_slowestOf
theorem dX6_slowest_0 : decode cX6_slowest 0 = .ok (.aload_n 0, 1) := by decide +kernel
theorem dX6_slowest_1 : decode cX6_slowest 1 = .ok (.iload_n 1, 1) := by decide +kernel
theorem dX6_slowest_2 : decode cX6_slowest 2 = .ok (.invokevirtual 129, 3) := by decide +kernel
theorem dX6_slowest_5 : decode cX6_slowest 5 = .ok (.ifCond .eq 7, 3) := by decide +kernel
theorem dX6_slowest_8 : decode cX6_slowest 8 = .ok (.iconst 0, 1) := by decide +kernel
theorem dX6_slowest_9 : decode cX6_slowest 9 = .ok (.goto 8, 3) := by decide +kernel
theorem dX6_slowest_12 : decode cX6_slowest 12 = .ok (.aload_n 0, 1) := by decide +kernel
theorem dX6_slowest_13 : decode cX6_slowest 13 = .ok (.iload_n 1, 1) := by decide +kernel
theorem dX6_slowest_14 : decode cX6_slowest 14 = .ok (.invokevirtual 132, 3) := by decide +kernel
theorem dX6_slowest_17 : decode cX6_slowest 17 = .ok (.ireturn, 1) := by decide +kernel
set_option maxRecDepth 20000 in
theorem ggX6_idle_X6_of : GoodIn wsX6_idle wsX6_of := goodIn_r _ [5] (by decide +kernel) (by decide +kernel)
set_option maxRecDepth 20000 in
theorem gX6_idle_X6_of : GoodIn wsX6_idle (va_wsS RX6 40 yX6_of wsX6_of) := goodIn_app (goodIn_of _ (by decide +kernel)) ggX6_idle_X6_of
theorem dX6_idle_0 : decode cX6_idle 0 = .ok (.aload_n 0, 1) := by decide +kernel
theorem dX6_idle_1 : decode cX6_idle 1 = .ok (.getfield 7, 3) := by decide +kernel
theorem dX6_idle_4 : decode cX6_idle 4 = .ok (.iload_n 1, 1) := by decide +kernel
theorem dX6_idle_5 : decode cX6_idle 5 = .ok (.invokestatic 40, 3) := by decide +kernel
theorem dX6_idle_8 : decode cX6_idle 8 = .ok (.bipush 9, 2) := by decide +kernel
theorem dX6_idle_10 : decode cX6_idle 10 = .ok (.iadd, 1) := by decide +kernel
theorem dX6_idle_11 : decode cX6_idle 11 = .ok (.iconst 2, 1) := by decide +kernel
theorem dX6_idle_12 : decode cX6_idle 12 = .ok (.iadd, 1) := by decide +kernel
theorem dX6_idle_13 : decode cX6_idle 13 = .ok (.iconst 1, 1) := by decide +kernel
theorem dX6_idle_14 : decode cX6_idle 14 = .ok (.isub, 1) := by decide +kernel
theorem dX6_idle_15 : decode cX6_idle 15 = .ok (.iaload, 1) := by decide +kernel
theorem dX6_idle_16 : decode cX6_idle 16 = .ok (.aload_n 0, 1) := by decide +kernel
theorem dX6_idle_17 : decode cX6_idle 17 = .ok (.getfield 7, 3) := by decide +kernel
theorem dX6_idle_20 : decode cX6_idle 20 = .ok (.iload_n 1, 1) := by decide +kernel
theorem dX6_idle_21 : decode cX6_idle 21 = .ok (.invokestatic 40, 3) := by decide +kernel
theorem dX6_idle_24 : decode cX6_idle 24 = .ok (.bipush 9, 2) := by decide +kernel
theorem dX6_idle_26 : decode cX6_idle 26 = .ok (.iadd, 1) := by decide +kernel
theorem dX6_idle_27 : decode cX6_idle 27 = .ok (.iconst 3, 1) := by decide +kernel
theorem dX6_idle_28 : decode cX6_idle 28 = .ok (.iadd, 1) := by decide +kernel
theorem dX6_idle_29 : decode cX6_idle 29 = .ok (.iconst 1, 1) := by decide +kernel
theorem dX6_idle_30 : decode cX6_idle 30 = .ok (.isub, 1) := by decide +kernel
theorem dX6_idle_31 : decode cX6_idle 31 = .ok (.iaload, 1) := by decide +kernel
theorem dX6_idle_32 : decode cX6_idle 32 = .ok (.iadd, 1) := by decide +kernel
theorem dX6_idle_33 : decode cX6_idle 33 = .ok (.ireturn, 1) := by decide +kernel
set_option maxRecDepth 20000 in
theorem ggX6_limiting_X6_refused : GoodIn wsX6_limiting wsX6_refused := goodIn_r _ [6, 7, 15, 16, 17, 18, 19, 20, 21, 22, 23, 24, 25, 26] (by decide +kernel) (by decide +kernel)
set_option maxRecDepth 20000 in
theorem gX6_limiting_X6_refused : GoodIn wsX6_limiting (wsV RX6 36 RX6 yX6_refused wsX6_refused) := goodIn_app (goodIn_of _ (by decide +kernel)) ggX6_limiting_X6_refused
set_option maxRecDepth 20000 in
theorem ggX6_limiting_X6_idle : GoodIn wsX6_limiting wsX6_idle := goodIn_r _ [11, 1, 12, 13, 5, 14, 15, 16, 17, 18, 19, 20, 21, 22, 23, 24, 25, 26] (by decide +kernel) (by decide +kernel)
set_option maxRecDepth 20000 in
theorem gX6_limiting_X6_idle : GoodIn wsX6_limiting (wsV RX6 135 RX6 yX6_idle wsX6_idle) := goodIn_app (goodIn_of _ (by decide +kernel)) ggX6_limiting_X6_idle
theorem dX6_limiting_0 : decode cX6_limiting 0 = .ok (.aload_n 0, 1) := by decide +kernel
theorem dX6_limiting_1 : decode cX6_limiting 1 = .ok (.aload_n 0, 1) := by decide +kernel
theorem dX6_limiting_2 : decode cX6_limiting 2 = .ok (.getfield 7, 3) := by decide +kernel
theorem dX6_limiting_5 : decode cX6_limiting 5 = .ok (.iconst 0, 1) := by decide +kernel
theorem dX6_limiting_6 : decode cX6_limiting 6 = .ok (.iaload, 1) := by decide +kernel
