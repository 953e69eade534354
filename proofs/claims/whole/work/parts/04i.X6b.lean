theorem dX6_addRandomStops_52 : decode cX6_addRandomStops 52 = .ok (.iload_n 1, 1) := by decide +kernel
theorem dX6_addRandomStops_53 : decode cX6_addRandomStops 53 = .ok (.invokevirtual 58, 3) := by decide +kernel
theorem dX6_addRandomStops_56 : decode cX6_addRandomStops 56 = .ok (.ifCond .ne 7, 3) := by decide +kernel
theorem dX6_addRandomStops_59 : decode cX6_addRandomStops 59 = .ok (.iconst 1, 1) := by decide +kernel
theorem dX6_addRandomStops_60 : decode cX6_addRandomStops 60 = .ok (.goto 31, 3) := by decide +kernel
theorem dX6_addRandomStops_63 : decode cX6_addRandomStops 63 = .ok (.iload 6, 2) := by decide +kernel
theorem dX6_addRandomStops_65 : decode cX6_addRandomStops 65 = .ok (.ifCond .ne 7, 3) := by decide +kernel
theorem dX6_addRandomStops_68 : decode cX6_addRandomStops 68 = .ok (.iconst 2, 1) := by decide +kernel
theorem dX6_addRandomStops_69 : decode cX6_addRandomStops 69 = .ok (.goto 22, 3) := by decide +kernel
theorem dX6_addRandomStops_72 : decode cX6_addRandomStops 72 = .ok (.aload_n 0, 1) := by decide +kernel
theorem dX6_addRandomStops_73 : decode cX6_addRandomStops 73 = .ok (.getfield 7, 3) := by decide +kernel
theorem dX6_addRandomStops_76 : decode cX6_addRandomStops 76 = .ok (.iconst 2, 1) := by decide +kernel
theorem dX6_addRandomStops_77 : decode cX6_addRandomStops 77 = .ok (.iaload, 1) := by decide +kernel
theorem dX6_addRandomStops_78 : decode cX6_addRandomStops 78 = .ok (.iload 5, 2) := by decide +kernel
theorem dX6_addRandomStops_80 : decode cX6_addRandomStops 80 = .ok (.iadd, 1) := by decide +kernel
theorem dX6_addRandomStops_81 : decode cX6_addRandomStops 81 = .ok (.bipush 40, 2) := by decide +kernel
theorem dX6_addRandomStops_83 : decode cX6_addRandomStops 83 = .ok (.if_icmp .le 7, 3) := by decide +kernel
theorem dX6_addRandomStops_86 : decode cX6_addRandomStops 86 = .ok (.iconst 3, 1) := by decide +kernel
theorem dX6_addRandomStops_87 : decode cX6_addRandomStops 87 = .ok (.goto 4, 3) := by decide +kernel
theorem dX6_addRandomStops_90 : decode cX6_addRandomStops 90 = .ok (.iconst 0, 1) := by decide +kernel
theorem dX6_addRandomStops_91 : decode cX6_addRandomStops 91 = .ok (.invokevirtual 36, 3) := by decide +kernel
theorem dX6_addRandomStops_94 : decode cX6_addRandomStops 94 = .ok (.ifCond .eq 5, 3) := by decide +kernel
theorem dX6_addRandomStops_97 : decode cX6_addRandomStops 97 = .ok (.iconst 0, 1) := by decide +kernel
theorem dX6_addRandomStops_98 : decode cX6_addRandomStops 98 = .ok (.ireturn, 1) := by decide +kernel
theorem dX6_addRandomStops_99 : decode cX6_addRandomStops 99 = .ok (.aload_n 0, 1) := by decide +kernel
theorem dX6_addRandomStops_100 : decode cX6_addRandomStops 100 = .ok (.invokevirtual 51, 3) := by decide +kernel
theorem dX6_addRandomStops_103 : decode cX6_addRandomStops 103 = .ok (.aload_n 0, 1) := by decide +kernel
theorem dX6_addRandomStops_104 : decode cX6_addRandomStops 104 = .ok (.iload_n 2, 1) := by decide +kernel
theorem dX6_addRandomStops_105 : decode cX6_addRandomStops 105 = .ok (.i2l, 1) := by decide +kernel
theorem dX6_addRandomStops_106 : decode cX6_addRandomStops 106 = .ok (.putfield 69, 3) := by decide +kernel
theorem dX6_addRandomStops_109 : decode cX6_addRandomStops 109 = .ok (.aload_n 0, 1) := by decide +kernel
theorem dX6_addRandomStops_110 : decode cX6_addRandomStops 110 = .ok (.getfield 7, 3) := by decide +kernel
theorem dX6_addRandomStops_113 : decode cX6_addRandomStops 113 = .ok (.iconst 1, 1) := by decide +kernel
theorem dX6_addRandomStops_114 : decode cX6_addRandomStops 114 = .ok (.iaload, 1) := by decide +kernel
theorem dX6_addRandomStops_115 : decode cX6_addRandomStops 115 = .ok (.istore 7, 2) := by decide +kernel
theorem dX6_addRandomStops_117 : decode cX6_addRandomStops 117 = .ok (.iconst 1, 1) := by decide +kernel
theorem dX6_addRandomStops_118 : decode cX6_addRandomStops 118 = .ok (.istore 8, 2) := by decide +kernel
theorem dX6_addRandomStops_120 : decode cX6_addRandomStops 120 = .ok (.iconst 0, 1) := by decide +kernel
theorem dX6_addRandomStops_121 : decode cX6_addRandomStops 121 = .ok (.istore 9, 2) := by decide +kernel
theorem dX6_addRandomStops_123 : decode cX6_addRandomStops 123 = .ok (.iload 9, 2) := by decide +kernel
theorem dX6_addRandomStops_125 : decode cX6_addRandomStops 125 = .ok (.iload 5, 2) := by decide +kernel
theorem dX6_addRandomStops_127 : decode cX6_addRandomStops 127 = .ok (.if_icmp .ge 80, 3) := by decide +kernel
theorem dX6_addRandomStops_130 : decode cX6_addRandomStops 130 = .ok (.iload 8, 2) := by decide +kernel
theorem dX6_addRandomStops_132 : decode cX6_addRandomStops 132 = .ok (.ifCond .eq 75, 3) := by decide +kernel
theorem dX6_addRandomStops_135 : decode cX6_addRandomStops 135 = .ok (.iload 7, 2) := by decide +kernel
theorem dX6_addRandomStops_137 : decode cX6_addRandomStops 137 = .ok (.iconst 1, 1) := by decide +kernel
theorem dX6_addRandomStops_138 : decode cX6_addRandomStops 138 = .ok (.iadd, 1) := by decide +kernel
theorem dX6_addRandomStops_139 : decode cX6_addRandomStops 139 = .ok (.aload_n 0, 1) := by decide +kernel
theorem dX6_addRandomStops_140 : decode cX6_addRandomStops 140 = .ok (.invokevirtual 80, 3) := by decide +kernel
theorem dX6_addRandomStops_143 : decode cX6_addRandomStops 143 = .ok (.iconst 2, 1) := by decide +kernel
theorem dX6_addRandomStops_144 : decode cX6_addRandomStops 144 = .ok (.iload_n 3, 1) := by decide +kernel
theorem dX6_addRandomStops_145 : decode cX6_addRandomStops 145 = .ok (.imul, 1) := by decide +kernel
theorem dX6_addRandomStops_146 : decode cX6_addRandomStops 146 = .ok (.irem, 1) := by decide +kernel
theorem dX6_addRandomStops_147 : decode cX6_addRandomStops 147 = .ok (.iadd, 1) := by decide +kernel
theorem dX6_addRandomStops_148 : decode cX6_addRandomStops 148 = .ok (.istore 10, 2) := by decide +kernel
theorem dX6_addRandomStops_150 : decode cX6_addRandomStops 150 = .ok (.iload 10, 2) := by decide +kernel
theorem dX6_addRandomStops_152 : decode cX6_addRandomStops 152 = .ok (.sipush 10000, 3) := by decide +kernel
theorem dX6_addRandomStops_155 : decode cX6_addRandomStops 155 = .ok (.if_icmp .gt 7, 3) := by decide +kernel
theorem dX6_addRandomStops_158 : decode cX6_addRandomStops 158 = .ok (.iconst 1, 1) := by decide +kernel
theorem dX6_addRandomStops_159 : decode cX6_addRandomStops 159 = .ok (.goto 4, 3) := by decide +kernel
theorem dX6_addRandomStops_162 : decode cX6_addRandomStops 162 = .ok (.iconst 0, 1) := by decide +kernel
theorem dX6_addRandomStops_163 : decode cX6_addRandomStops 163 = .ok (.istore 8, 2) := by decide +kernel
theorem dX6_addRandomStops_165 : decode cX6_addRandomStops 165 = .ok (.iload 8, 2) := by decide +kernel
theorem dX6_addRandomStops_167 : decode cX6_addRandomStops 167 = .ok (.ifCond .eq 34, 3) := by decide +kernel
theorem dX6_addRandomStops_170 : decode cX6_addRandomStops 170 = .ok (.iconst 1, 1) := by decide +kernel
theorem dX6_addRandomStops_171 : decode cX6_addRandomStops 171 = .ok (.aload_n 0, 1) := by decide +kernel
theorem dX6_addRandomStops_172 : decode cX6_addRandomStops 172 = .ok (.invokevirtual 80, 3) := by decide +kernel
theorem dX6_addRandomStops_175 : decode cX6_addRandomStops 175 = .ok (.iconst 2, 1) := by decide +kernel
theorem dX6_addRandomStops_176 : decode cX6_addRandomStops 176 = .ok (.iload 4, 2) := by decide +kernel
theorem dX6_addRandomStops_178 : decode cX6_addRandomStops 178 = .ok (.imul, 1) := by decide +kernel
theorem dX6_addRandomStops_179 : decode cX6_addRandomStops 179 = .ok (.irem, 1) := by decide +kernel
theorem dX6_addRandomStops_180 : decode cX6_addRandomStops 180 = .ok (.iadd, 1) := by decide +kernel
theorem dX6_addRandomStops_181 : decode cX6_addRandomStops 181 = .ok (.istore 11, 2) := by decide +kernel
theorem dX6_addRandomStops_183 : decode cX6_addRandomStops 183 = .ok (.aload_n 0, 1) := by decide +kernel
theorem dX6_addRandomStops_184 : decode cX6_addRandomStops 184 = .ok (.iload_n 1, 1) := by decide +kernel
theorem dX6_addRandomStops_185 : decode cX6_addRandomStops 185 = .ok (.iload 10, 2) := by decide +kernel
theorem dX6_addRandomStops_187 : decode cX6_addRandomStops 187 = .ok (.iload 11, 2) := by decide +kernel
theorem dX6_addRandomStops_189 : decode cX6_addRandomStops 189 = .ok (.invokevirtual 64, 3) := by decide +kernel
theorem dX6_addRandomStops_192 : decode cX6_addRandomStops 192 = .ok (.iload 10, 2) := by decide +kernel
theorem dX6_addRandomStops_194 : decode cX6_addRandomStops 194 = .ok (.iload 11, 2) := by decide +kernel
theorem dX6_addRandomStops_196 : decode cX6_addRandomStops 196 = .ok (.iadd, 1) := by decide +kernel
theorem dX6_addRandomStops_197 : decode cX6_addRandomStops 197 = .ok (.iconst 1, 1) := by decide +kernel
theorem dX6_addRandomStops_198 : decode cX6_addRandomStops 198 = .ok (.isub, 1) := by decide +kernel
theorem dX6_addRandomStops_199 : decode cX6_addRandomStops 199 = .ok (.istore 7, 2) := by decide +kernel
theorem dX6_addRandomStops_201 : decode cX6_addRandomStops 201 = .ok (.iinc 9 1, 3) := by decide +kernel
theorem dX6_addRandomStops_204 : decode cX6_addRandomStops 204 = .ok (.goto (-81), 3) := by decide +kernel
theorem dX6_addRandomStops_207 : decode cX6_addRandomStops 207 = .ok (.aload_n 0, 1) := by decide +kernel
theorem dX6_addRandomStops_208 : decode cX6_addRandomStops 208 = .ok (.getfield 7, 3) := by decide +kernel
theorem dX6_addRandomStops_211 : decode cX6_addRandomStops 211 = .ok (.iconst 2, 1) := by decide +kernel
theorem dX6_addRandomStops_212 : decode cX6_addRandomStops 212 = .ok (.iaload, 1) := by decide +kernel
theorem dX6_addRandomStops_213 : decode cX6_addRandomStops 213 = .ok (.ireturn, 1) := by decide +kernel
set_option maxRecDepth 20000 in
theorem ggX6_clearStops_X6_saves : GoodIn wsX6_clearStops wsX6_saves := goodIn_r _ [7, 8, 9, 2, 10, 11, 12, 13, 14, 15, 16, 17, 18, 19, 20, 21] (by decide +kernel) (by decide +kernel)
set_option maxRecDepth 20000 in
theorem gX6_clearStops_X6_saves : GoodIn wsX6_clearStops (wsV RX6 51 RX6 yX6_saves wsX6_saves) := goodIn_app (goodIn_of _ (by decide +kernel)) ggX6_clearStops_X6_saves
theorem dX6_clearStops_0 : decode cX6_clearStops 0 = .ok (.aload_n 0, 1) := by decide +kernel
theorem dX6_clearStops_1 : decode cX6_clearStops 1 = .ok (.iconst 0, 1) := by decide +kernel
theorem dX6_clearStops_2 : decode cX6_clearStops 2 = .ok (.putfield 25, 3) := by decide +kernel
theorem dX6_clearStops_5 : decode cX6_clearStops 5 = .ok (.aload_n 0, 1) := by decide +kernel
theorem dX6_clearStops_6 : decode cX6_clearStops 6 = .ok (.invokevirtual 51, 3) := by decide +kernel
theorem dX6_clearStops_9 : decode cX6_clearStops 9 = .ok (.aload_n 0, 1) := by decide +kernel
theorem dX6_clearStops_10 : decode cX6_clearStops 10 = .ok (.getfield 7, 3) := by decide +kernel
theorem dX6_clearStops_13 : decode cX6_clearStops 13 = .ok (.iconst 2, 1) := by decide +kernel
theorem dX6_clearStops_14 : decode cX6_clearStops 14 = .ok (.iaload, 1) := by decide +kernel
theorem dX6_clearStops_15 : decode cX6_clearStops 15 = .ok (.istore_n 1, 1) := by decide +kernel
theorem dX6_clearStops_16 : decode cX6_clearStops 16 = .ok (.iconst 0, 1) := by decide +kernel
theorem dX6_clearStops_17 : decode cX6_clearStops 17 = .ok (.istore_n 2, 1) := by decide +kernel
theorem dX6_clearStops_18 : decode cX6_clearStops 18 = .ok (.iconst 0, 1) := by decide +kernel
theorem dX6_clearStops_19 : decode cX6_clearStops 19 = .ok (.istore_n 3, 1) := by decide +kernel
theorem dX6_clearStops_20 : decode cX6_clearStops 20 = .ok (.iload_n 3, 1) := by decide +kernel
theorem dX6_clearStops_21 : decode cX6_clearStops 21 = .ok (.iload_n 1, 1) := by decide +kernel
theorem dX6_clearStops_22 : decode cX6_clearStops 22 = .ok (.if_icmp .ge 80, 3) := by decide +kernel
theorem dX6_clearStops_25 : decode cX6_clearStops 25 = .ok (.aload_n 0, 1) := by decide +kernel
theorem dX6_clearStops_26 : decode cX6_clearStops 26 = .ok (.getfield 7, 3) := by decide +kernel
theorem dX6_clearStops_29 : decode cX6_clearStops 29 = .ok (.sipush 131, 3) := by decide +kernel
theorem dX6_clearStops_32 : decode cX6_clearStops 32 = .ok (.iconst 3, 1) := by decide +kernel
theorem dX6_clearStops_33 : decode cX6_clearStops 33 = .ok (.iload_n 3, 1) := by decide +kernel
theorem dX6_clearStops_34 : decode cX6_clearStops 34 = .ok (.imul, 1) := by decide +kernel
theorem dX6_clearStops_35 : decode cX6_clearStops 35 = .ok (.iadd, 1) := by decide +kernel
theorem dX6_clearStops_36 : decode cX6_clearStops 36 = .ok (.iconst 1, 1) := by decide +kernel
theorem dX6_clearStops_37 : decode cX6_clearStops 37 = .ok (.iadd, 1) := by decide +kernel
theorem dX6_clearStops_38 : decode cX6_clearStops 38 = .ok (.iaload, 1) := by decide +kernel
theorem dX6_clearStops_39 : decode cX6_clearStops 39 = .ok (.aload_n 0, 1) := by decide +kernel
theorem dX6_clearStops_40 : decode cX6_clearStops 40 = .ok (.getfield 7, 3) := by decide +kernel
theorem dX6_clearStops_43 : decode cX6_clearStops 43 = .ok (.iconst 1, 1) := by decide +kernel
theorem dX6_clearStops_44 : decode cX6_clearStops 44 = .ok (.iaload, 1) := by decide +kernel
theorem dX6_clearStops_45 : decode cX6_clearStops 45 = .ok (.if_icmp .gt 51, 3) := by decide +kernel
theorem dX6_clearStops_48 : decode cX6_clearStops 48 = .ok (.iconst 0, 1) := by decide +kernel
theorem dX6_clearStops_49 : decode cX6_clearStops 49 = .ok (.istore 4, 2) := by decide +kernel
theorem dX6_clearStops_51 : decode cX6_clearStops 51 = .ok (.iload 4, 2) := by decide +kernel
theorem dX6_clearStops_53 : decode cX6_clearStops 53 = .ok (.iconst 3, 1) := by decide +kernel
theorem dX6_clearStops_54 : decode cX6_clearStops 54 = .ok (.if_icmp .ge 39, 3) := by decide +kernel
theorem dX6_clearStops_57 : decode cX6_clearStops 57 = .ok (.aload_n 0, 1) := by decide +kernel
theorem dX6_clearStops_58 : decode cX6_clearStops 58 = .ok (.getfield 7, 3) := by decide +kernel
theorem dX6_clearStops_61 : decode cX6_clearStops 61 = .ok (.sipush 131, 3) := by decide +kernel
theorem dX6_clearStops_64 : decode cX6_clearStops 64 = .ok (.iconst 3, 1) := by decide +kernel
theorem dX6_clearStops_65 : decode cX6_clearStops 65 = .ok (.iload_n 2, 1) := by decide +kernel
theorem dX6_clearStops_66 : decode cX6_clearStops 66 = .ok (.imul, 1) := by decide +kernel
theorem dX6_clearStops_67 : decode cX6_clearStops 67 = .ok (.iadd, 1) := by decide +kernel
theorem dX6_clearStops_68 : decode cX6_clearStops 68 = .ok (.iload 4, 2) := by decide +kernel
theorem dX6_clearStops_70 : decode cX6_clearStops 70 = .ok (.iadd, 1) := by decide +kernel
theorem dX6_clearStops_71 : decode cX6_clearStops 71 = .ok (.aload_n 0, 1) := by decide +kernel
theorem dX6_clearStops_72 : decode cX6_clearStops 72 = .ok (.getfield 7, 3) := by decide +kernel
theorem dX6_clearStops_75 : decode cX6_clearStops 75 = .ok (.sipush 131, 3) := by decide +kernel
theorem dX6_clearStops_78 : decode cX6_clearStops 78 = .ok (.iconst 3, 1) := by decide +kernel
theorem dX6_clearStops_79 : decode cX6_clearStops 79 = .ok (.iload_n 3, 1) := by decide +kernel
theorem dX6_clearStops_80 : decode cX6_clearStops 80 = .ok (.imul, 1) := by decide +kernel
theorem dX6_clearStops_81 : decode cX6_clearStops 81 = .ok (.iadd, 1) := by decide +kernel
theorem dX6_clearStops_82 : decode cX6_clearStops 82 = .ok (.iload 4, 2) := by decide +kernel
theorem dX6_clearStops_84 : decode cX6_clearStops 84 = .ok (.iadd, 1) := by decide +kernel
theorem dX6_clearStops_85 : decode cX6_clearStops 85 = .ok (.iaload, 1) := by decide +kernel
theorem dX6_clearStops_86 : decode cX6_clearStops 86 = .ok (.iastore, 1) := by decide +kernel
theorem dX6_clearStops_87 : decode cX6_clearStops 87 = .ok (.iinc 4 1, 3) := by decide +kernel
theorem dX6_clearStops_90 : decode cX6_clearStops 90 = .ok (.goto (-39), 3) := by decide +kernel
theorem dX6_clearStops_93 : decode cX6_clearStops 93 = .ok (.iinc 2 1, 3) := by decide +kernel
theorem dX6_clearStops_96 : decode cX6_clearStops 96 = .ok (.iinc 3 1, 3) := by decide +kernel
theorem dX6_clearStops_99 : decode cX6_clearStops 99 = .ok (.goto (-79), 3) := by decide +kernel
theorem dX6_clearStops_102 : decode cX6_clearStops 102 = .ok (.aload_n 0, 1) := by decide +kernel
theorem dX6_clearStops_103 : decode cX6_clearStops 103 = .ok (.getfield 7, 3) := by decide +kernel
theorem dX6_clearStops_106 : decode cX6_clearStops 106 = .ok (.iconst 2, 1) := by decide +kernel
theorem dX6_clearStops_107 : decode cX6_clearStops 107 = .ok (.iload_n 2, 1) := by decide +kernel
theorem dX6_clearStops_108 : decode cX6_clearStops 108 = .ok (.iastore, 1) := by decide +kernel
theorem dX6_clearStops_109 : decode cX6_clearStops 109 = .ok (.iload_n 1, 1) := by decide +kernel
theorem dX6_clearStops_110 : decode cX6_clearStops 110 = .ok (.iload_n 2, 1) := by decide +kernel
theorem dX6_clearStops_111 : decode cX6_clearStops 111 = .ok (.isub, 1) := by decide +kernel
theorem dX6_clearStops_112 : decode cX6_clearStops 112 = .ok (.ireturn, 1) := by decide +kernel
theorem dX6_size_0 : decode cX6_size 0 = .ok (.aload_n 0, 1) := by decide +kernel
theorem dX6_size_1 : decode cX6_size 1 = .ok (.iconst 0, 1) := by decide +kernel
theorem dX6_size_2 : decode cX6_size 2 = .ok (.putfield 25, 3) := by decide +kernel
theorem dX6_size_5 : decode cX6_size 5 = .ok (.aload_n 0, 1) := by decide +kernel
theorem dX6_size_6 : decode cX6_size 6 = .ok (.getfield 7, 3) := by decide +kernel
theorem dX6_size_9 : decode cX6_size 9 = .ok (.iload_n 1, 1) := by decide +kernel
theorem dX6_size_10 : decode cX6_size 10 = .ok (.ifCond .eq 7, 3) := by decide +kernel
theorem dX6_size_13 : decode cX6_size 13 = .ok (.iconst 2, 1) := by decide +kernel
theorem dX6_size_14 : decode cX6_size 14 = .ok (.goto 4, 3) := by decide +kernel
theorem dX6_size_17 : decode cX6_size 17 = .ok (.iconst 0, 1) := by decide +kernel
theorem dX6_size_18 : decode cX6_size 18 = .ok (.iaload, 1) := by decide +kernel
theorem dX6_size_19 : decode cX6_size 19 = .ok (.ireturn, 1) := by decide +kernel
set_option maxRecDepth 20000 in
theorem ggX6_stop_X6_within : GoodIn wsX6_stop wsX6_within := goodIn_r _ [5] (by decide +kernel) (by decide +kernel)
set_option maxRecDepth 20000 in
theorem gX6_stop_X6_within : GoodIn wsX6_stop (va_wsS RX6 29 yX6_within wsX6_within) := goodIn_app (goodIn_of _ (by decide +kernel)) ggX6_stop_X6_within
set_option maxRecDepth 20000 in
theorem ggX6_stop_X6_refused : GoodIn wsX6_stop wsX6_refused := goodIn_r _ [9, 10, 11, 12, 13, 14, 15, 16, 17, 18, 19, 20, 21, 22] (by decide +kernel) (by decide +kernel)
set_option maxRecDepth 20000 in
theorem gX6_stop_X6_refused : GoodIn wsX6_stop (wsV RX6 36 RX6 yX6_refused wsX6_refused) := goodIn_app (goodIn_of _ (by decide +kernel)) ggX6_stop_X6_refused
theorem dX6_stop_0 : decode cX6_stop 0 = .ok (.aload_n 0, 1) := by decide +kernel
theorem dX6_stop_1 : decode cX6_stop 1 = .ok (.iload_n 1, 1) := by decide +kernel
theorem dX6_stop_2 : decode cX6_stop 2 = .ok (.iconst 0, 1) := by decide +kernel
theorem dX6_stop_3 : decode cX6_stop 3 = .ok (.aload_n 0, 1) := by decide +kernel
theorem dX6_stop_4 : decode cX6_stop 4 = .ok (.getfield 7, 3) := by decide +kernel
theorem dX6_stop_7 : decode cX6_stop 7 = .ok (.iconst 2, 1) := by decide +kernel
theorem dX6_stop_8 : decode cX6_stop 8 = .ok (.iaload, 1) := by decide +kernel
theorem dX6_stop_9 : decode cX6_stop 9 = .ok (.iconst 1, 1) := by decide +kernel
theorem dX6_stop_10 : decode cX6_stop 10 = .ok (.isub, 1) := by decide +kernel
theorem dX6_stop_11 : decode cX6_stop 11 = .ok (.invokestatic 29, 3) := by decide +kernel
theorem dX6_stop_14 : decode cX6_stop 14 = .ok (.ifCond .ne 7, 3) := by decide +kernel
theorem dX6_stop_17 : decode cX6_stop 17 = .ok (.iconst 1, 1) := by decide +kernel
theorem dX6_stop_18 : decode cX6_stop 18 = .ok (.goto 17, 3) := by decide +kernel
theorem dX6_stop_21 : decode cX6_stop 21 = .ok (.iload_n 2, 1) := by decide +kernel
theorem dX6_stop_22 : decode cX6_stop 22 = .ok (.iconst 0, 1) := by decide +kernel
theorem dX6_stop_23 : decode cX6_stop 23 = .ok (.iconst 2, 1) := by decide +kernel
theorem dX6_stop_24 : decode cX6_stop 24 = .ok (.invokestatic 29, 3) := by decide +kernel
theorem dX6_stop_27 : decode cX6_stop 27 = .ok (.ifCond .eq 7, 3) := by decide +kernel
theorem dX6_stop_30 : decode cX6_stop 30 = .ok (.iconst 0, 1) := by decide +kernel
theorem dX6_stop_31 : decode cX6_stop 31 = .ok (.goto 4, 3) := by decide +kernel
theorem dX6_stop_34 : decode cX6_stop 34 = .ok (.iconst 2, 1) := by decide +kernel
theorem dX6_stop_35 : decode cX6_stop 35 = .ok (.invokevirtual 36, 3) := by decide +kernel
theorem dX6_stop_38 : decode cX6_stop 38 = .ok (.ifCond .eq 5, 3) := by decide +kernel
theorem dX6_stop_41 : decode cX6_stop 41 = .ok (.iconst 0, 1) := by decide +kernel
theorem dX6_stop_42 : decode cX6_stop 42 = .ok (.ireturn, 1) := by decide +kernel
theorem dX6_stop_43 : decode cX6_stop 43 = .ok (.aload_n 0, 1) := by decide +kernel
theorem dX6_stop_44 : decode cX6_stop 44 = .ok (.getfield 7, 3) := by decide +kernel
theorem dX6_stop_47 : decode cX6_stop 47 = .ok (.sipush 131, 3) := by decide +kernel
theorem dX6_stop_50 : decode cX6_stop 50 = .ok (.iconst 3, 1) := by decide +kernel
theorem dX6_stop_51 : decode cX6_stop 51 = .ok (.iload_n 1, 1) := by decide +kernel
theorem dX6_stop_52 : decode cX6_stop 52 = .ok (.imul, 1) := by decide +kernel
theorem dX6_stop_53 : decode cX6_stop 53 = .ok (.iadd, 1) := by decide +kernel
theorem dX6_stop_54 : decode cX6_stop 54 = .ok (.iload_n 2, 1) := by decide +kernel
theorem dX6_stop_55 : decode cX6_stop 55 = .ok (.iadd, 1) := by decide +kernel
theorem dX6_stop_56 : decode cX6_stop 56 = .ok (.iaload, 1) := by decide +kernel
theorem dX6_stop_57 : decode cX6_stop 57 = .ok (.ireturn, 1) := by decide +kernel
theorem dX6_laysDown_0 : decode cX6_laysDown 0 = .ok (.iload_n 1, 1) := by decide +kernel
theorem dX6_laysDown_1 : decode cX6_laysDown 1 = .ok (.istore_n 3, 1) := by decide +kernel
theorem dX6_laysDown_2 : decode cX6_laysDown 2 = .ok (.iload_n 3, 1) := by decide +kernel
theorem dX6_laysDown_3 : decode cX6_laysDown 3 = .ok (.iload_n 2, 1) := by decide +kernel
theorem dX6_laysDown_4 : decode cX6_laysDown 4 = .ok (.if_icmp .gt 16, 3) := by decide +kernel
theorem dX6_laysDown_7 : decode cX6_laysDown 7 = .ok (.aload_n 0, 1) := by decide +kernel
theorem dX6_laysDown_8 : decode cX6_laysDown 8 = .ok (.getfield 22, 3) := by decide +kernel
theorem dX6_laysDown_11 : decode cX6_laysDown 11 = .ok (.iload_n 3, 1) := by decide +kernel
theorem dX6_laysDown_12 : decode cX6_laysDown 12 = .ok (.iconst 0, 1) := by decide +kernel
theorem dX6_laysDown_13 : decode cX6_laysDown 13 = .ok (.iastore, 1) := by decide +kernel
theorem dX6_laysDown_14 : decode cX6_laysDown 14 = .ok (.iinc 3 1, 3) := by decide +kernel
theorem dX6_laysDown_17 : decode cX6_laysDown 17 = .ok (.goto (-15), 3) := by decide +kernel
theorem dX6_laysDown_20 : decode cX6_laysDown 20 = .ok (.iconst 0, 1) := by decide +kernel
theorem dX6_laysDown_21 : decode cX6_laysDown 21 = .ok (.istore_n 3, 1) := by decide +kernel
theorem dX6_laysDown_22 : decode cX6_laysDown 22 = .ok (.iload_n 3, 1) := by decide +kernel
theorem dX6_laysDown_23 : decode cX6_laysDown 23 = .ok (.aload_n 0, 1) := by decide +kernel
theorem dX6_laysDown_24 : decode cX6_laysDown 24 = .ok (.getfield 7, 3) := by decide +kernel
theorem dX6_laysDown_27 : decode cX6_laysDown 27 = .ok (.iconst 2, 1) := by decide +kernel
theorem dX6_laysDown_28 : decode cX6_laysDown 28 = .ok (.iaload, 1) := by decide +kernel
theorem dX6_laysDown_29 : decode cX6_laysDown 29 = .ok (.if_icmp .ge 101, 3) := by decide +kernel
theorem dX6_laysDown_32 : decode cX6_laysDown 32 = .ok (.aload_n 0, 1) := by decide +kernel
theorem dX6_laysDown_33 : decode cX6_laysDown 33 = .ok (.getfield 7, 3) := by decide +kernel
theorem dX6_laysDown_36 : decode cX6_laysDown 36 = .ok (.sipush 131, 3) := by decide +kernel
theorem dX6_laysDown_39 : decode cX6_laysDown 39 = .ok (.iconst 3, 1) := by decide +kernel
theorem dX6_laysDown_40 : decode cX6_laysDown 40 = .ok (.iload_n 3, 1) := by decide +kernel
theorem dX6_laysDown_41 : decode cX6_laysDown 41 = .ok (.imul, 1) := by decide +kernel
theorem dX6_laysDown_42 : decode cX6_laysDown 42 = .ok (.iadd, 1) := by decide +kernel
theorem dX6_laysDown_43 : decode cX6_laysDown 43 = .ok (.iconst 1, 1) := by decide +kernel
theorem dX6_laysDown_44 : decode cX6_laysDown 44 = .ok (.iadd, 1) := by decide +kernel
theorem dX6_laysDown_45 : decode cX6_laysDown 45 = .ok (.iaload, 1) := by decide +kernel
theorem dX6_laysDown_46 : decode cX6_laysDown 46 = .ok (.istore 4, 2) := by decide +kernel
theorem dX6_laysDown_48 : decode cX6_laysDown 48 = .ok (.iload 4, 2) := by decide +kernel
theorem dX6_laysDown_50 : decode cX6_laysDown 50 = .ok (.aload_n 0, 1) := by decide +kernel
theorem dX6_laysDown_51 : decode cX6_laysDown 51 = .ok (.getfield 7, 3) := by decide +kernel
theorem dX6_laysDown_54 : decode cX6_laysDown 54 = .ok (.sipush 131, 3) := by decide +kernel
theorem dX6_laysDown_57 : decode cX6_laysDown 57 = .ok (.iconst 3, 1) := by decide +kernel
theorem dX6_laysDown_58 : decode cX6_laysDown 58 = .ok (.iload_n 3, 1) := by decide +kernel
theorem dX6_laysDown_59 : decode cX6_laysDown 59 = .ok (.imul, 1) := by decide +kernel
theorem dX6_laysDown_60 : decode cX6_laysDown 60 = .ok (.iadd, 1) := by decide +kernel
theorem dX6_laysDown_61 : decode cX6_laysDown 61 = .ok (.iconst 2, 1) := by decide +kernel
theorem dX6_laysDown_62 : decode cX6_laysDown 62 = .ok (.iadd, 1) := by decide +kernel
theorem dX6_laysDown_63 : decode cX6_laysDown 63 = .ok (.iaload, 1) := by decide +kernel
theorem dX6_laysDown_64 : decode cX6_laysDown 64 = .ok (.iadd, 1) := by decide +kernel
theorem dX6_laysDown_65 : decode cX6_laysDown 65 = .ok (.istore 5, 2) := by decide +kernel
theorem dX6_laysDown_67 : decode cX6_laysDown 67 = .ok (.iload 4, 2) := by decide +kernel
theorem dX6_laysDown_69 : decode cX6_laysDown 69 = .ok (.iload_n 1, 1) := by decide +kernel
theorem dX6_laysDown_70 : decode cX6_laysDown 70 = .ok (.if_icmp .le 8, 3) := by decide +kernel
theorem dX6_laysDown_73 : decode cX6_laysDown 73 = .ok (.iload 4, 2) := by decide +kernel
theorem dX6_laysDown_75 : decode cX6_laysDown 75 = .ok (.goto 4, 3) := by decide +kernel
theorem dX6_laysDown_78 : decode cX6_laysDown 78 = .ok (.iload_n 1, 1) := by decide +kernel
theorem dX6_laysDown_79 : decode cX6_laysDown 79 = .ok (.istore 6, 2) := by decide +kernel
theorem dX6_laysDown_81 : decode cX6_laysDown 81 = .ok (.iload 6, 2) := by decide +kernel
theorem dX6_laysDown_83 : decode cX6_laysDown 83 = .ok (.iload 5, 2) := by decide +kernel
theorem dX6_laysDown_85 : decode cX6_laysDown 85 = .ok (.if_icmp .ge 39, 3) := by decide +kernel
theorem dX6_laysDown_88 : decode cX6_laysDown 88 = .ok (.iload 6, 2) := by decide +kernel
theorem dX6_laysDown_90 : decode cX6_laysDown 90 = .ok (.iload_n 2, 1) := by decide +kernel
theorem dX6_laysDown_91 : decode cX6_laysDown 91 = .ok (.if_icmp .gt 33, 3) := by decide +kernel
theorem dX6_laysDown_94 : decode cX6_laysDown 94 = .ok (.aload_n 0, 1) := by decide +kernel
theorem dX6_laysDown_95 : decode cX6_laysDown 95 = .ok (.getfield 22, 3) := by decide +kernel
theorem dX6_laysDown_98 : decode cX6_laysDown 98 = .ok (.iload 6, 2) := by decide +kernel
theorem dX6_laysDown_100 : decode cX6_laysDown 100 = .ok (.dup2, 1) := by decide +kernel
theorem dX6_laysDown_101 : decode cX6_laysDown 101 = .ok (.iaload, 1) := by decide +kernel
theorem dX6_laysDown_102 : decode cX6_laysDown 102 = .ok (.iconst 1, 1) := by decide +kernel
theorem dX6_laysDown_103 : decode cX6_laysDown 103 = .ok (.aload_n 0, 1) := by decide +kernel
theorem dX6_laysDown_104 : decode cX6_laysDown 104 = .ok (.getfield 7, 3) := by decide +kernel
theorem dX6_laysDown_107 : decode cX6_laysDown 107 = .ok (.sipush 131, 3) := by decide +kernel
theorem dX6_laysDown_110 : decode cX6_laysDown 110 = .ok (.iconst 3, 1) := by decide +kernel
theorem dX6_laysDown_111 : decode cX6_laysDown 111 = .ok (.iload_n 3, 1) := by decide +kernel
theorem dX6_laysDown_112 : decode cX6_laysDown 112 = .ok (.imul, 1) := by decide +kernel
theorem dX6_laysDown_113 : decode cX6_laysDown 113 = .ok (.iadd, 1) := by decide +kernel
theorem dX6_laysDown_114 : decode cX6_laysDown 114 = .ok (.iaload, 1) := by decide +kernel
theorem dX6_laysDown_115 : decode cX6_laysDown 115 = .ok (.ishl, 1) := by decide +kernel
theorem dX6_laysDown_116 : decode cX6_laysDown 116 = .ok (.ior, 1) := by decide +kernel
theorem dX6_laysDown_117 : decode cX6_laysDown 117 = .ok (.iastore, 1) := by decide +kernel
theorem dX6_laysDown_118 : decode cX6_laysDown 118 = .ok (.iinc 6 1, 3) := by decide +kernel
theorem dX6_laysDown_121 : decode cX6_laysDown 121 = .ok (.goto (-40), 3) := by decide +kernel
theorem dX6_laysDown_124 : decode cX6_laysDown 124 = .ok (.iinc 3 1, 3) := by decide +kernel
theorem dX6_laysDown_127 : decode cX6_laysDown 127 = .ok (.goto (-105), 3) := by decide +kernel
theorem dX6_laysDown_130 : decode cX6_laysDown 130 = .ok (.return_, 1) := by decide +kernel
theorem dX6_isDown_0 : decode cX6_isDown 0 = .ok (.aload_n 0, 1) := by decide +kernel
theorem dX6_isDown_1 : decode cX6_isDown 1 = .ok (.getfield 22, 3) := by decide +kernel
theorem dX6_isDown_4 : decode cX6_isDown 4 = .ok (.iload_n 2, 1) := by decide +kernel
theorem dX6_isDown_5 : decode cX6_isDown 5 = .ok (.iaload, 1) := by decide +kernel
theorem dX6_isDown_6 : decode cX6_isDown 6 = .ok (.iload_n 1, 1) := by decide +kernel
theorem dX6_isDown_7 : decode cX6_isDown 7 = .ok (.ishr, 1) := by decide +kernel
theorem dX6_isDown_8 : decode cX6_isDown 8 = .ok (.iconst 1, 1) := by decide +kernel
theorem dX6_isDown_9 : decode cX6_isDown 9 = .ok (.iand, 1) := by decide +kernel
theorem dX6_isDown_10 : decode cX6_isDown 10 = .ok (.iconst 1, 1) := by decide +kernel
theorem dX6_isDown_11 : decode cX6_isDown 11 = .ok (.if_icmp .ne 7, 3) := by decide +kernel
theorem dX6_isDown_14 : decode cX6_isDown 14 = .ok (.iconst 1, 1) := by decide +kernel
theorem dX6_isDown_15 : decode cX6_isDown 15 = .ok (.goto 4, 3) := by decide +kernel
theorem dX6_isDown_18 : decode cX6_isDown 18 = .ok (.iconst 0, 1) := by decide +kernel
theorem dX6_isDown_19 : decode cX6_isDown 19 = .ok (.ireturn, 1) := by decide +kernel
theorem dX6_cycle_0 : decode cX6_cycle 0 = .ok (.aload_n 0, 1) := by decide +kernel
theorem dX6_cycle_1 : decode cX6_cycle 1 = .ok (.getfield 7, 3) := by decide +kernel
theorem dX6_cycle_4 : decode cX6_cycle 4 = .ok (.iload_n 1, 1) := by decide +kernel
theorem dX6_cycle_5 : decode cX6_cycle 5 = .ok (.aload_n 0, 1) := by decide +kernel
theorem dX6_cycle_6 : decode cX6_cycle 6 = .ok (.getfield 7, 3) := by decide +kernel
theorem dX6_cycle_9 : decode cX6_cycle 9 = .ok (.iload_n 1, 1) := by decide +kernel
theorem dX6_cycle_10 : decode cX6_cycle 10 = .ok (.bipush 7, 2) := by decide +kernel
theorem dX6_cycle_12 : decode cX6_cycle 12 = .ok (.iadd, 1) := by decide +kernel
theorem dX6_cycle_13 : decode cX6_cycle 13 = .ok (.iaload, 1) := by decide +kernel
theorem dX6_cycle_14 : decode cX6_cycle 14 = .ok (.iconst 1, 1) := by decide +kernel
theorem dX6_cycle_15 : decode cX6_cycle 15 = .ok (.if_icmp .ne 7, 3) := by decide +kernel
theorem dX6_cycle_18 : decode cX6_cycle 18 = .ok (.iconst 1, 1) := by decide +kernel
theorem dX6_cycle_19 : decode cX6_cycle 19 = .ok (.goto 4, 3) := by decide +kernel
theorem dX6_cycle_22 : decode cX6_cycle 22 = .ok (.iconst 0, 1) := by decide +kernel
theorem dX6_cycle_23 : decode cX6_cycle 23 = .ok (.iadd, 1) := by decide +kernel
theorem dX6_cycle_24 : decode cX6_cycle 24 = .ok (.iaload, 1) := by decide +kernel
theorem dX6_cycle_25 : decode cX6_cycle 25 = .ok (.ireturn, 1) := by decide +kernel
set_option maxRecDepth 20000 in
theorem ggX6_speeds_X6_of : GoodIn wsX6_speeds wsX6_of := goodIn_r _ [5] (by decide +kernel) (by decide +kernel)
set_option maxRecDepth 20000 in
theorem gX6_speeds_X6_of : GoodIn wsX6_speeds (va_wsS RX6 40 yX6_of wsX6_of) := goodIn_app (goodIn_of _ (by decide +kernel)) ggX6_speeds_X6_of
theorem dX6_speeds_0 : decode cX6_speeds 0 = .ok (.iload_n 1, 1) := by decide +kernel
theorem dX6_speeds_1 : decode cX6_speeds 1 = .ok (.invokestatic 40, 3) := by decide +kernel
theorem dX6_speeds_4 : decode cX6_speeds 4 = .ok (.istore_n 2, 1) := by decide +kernel
theorem dX6_speeds_5 : decode cX6_speeds 5 = .ok (.aload_n 0, 1) := by decide +kernel
theorem dX6_speeds_6 : decode cX6_speeds 6 = .ok (.getfield 7, 3) := by decide +kernel
theorem dX6_speeds_9 : decode cX6_speeds 9 = .ok (.iload_n 2, 1) := by decide +kernel
theorem dX6_speeds_10 : decode cX6_speeds 10 = .ok (.iconst 5, 1) := by decide +kernel
theorem dX6_speeds_11 : decode cX6_speeds 11 = .ok (.iadd, 1) := by decide +kernel
theorem dX6_speeds_12 : decode cX6_speeds 12 = .ok (.iaload, 1) := by decide +kernel
theorem dX6_speeds_13 : decode cX6_speeds 13 = .ok (.istore_n 3, 1) := by decide +kernel
theorem dX6_speeds_14 : decode cX6_speeds 14 = .ok (.iload_n 1, 1) := by decide +kernel
theorem dX6_speeds_15 : decode cX6_speeds 15 = .ok (.aload_n 0, 1) := by decide +kernel
theorem dX6_speeds_16 : decode cX6_speeds 16 = .ok (.getfield 7, 3) := by decide +kernel
theorem dX6_speeds_19 : decode cX6_speeds 19 = .ok (.iconst 0, 1) := by decide +kernel
theorem dX6_speeds_20 : decode cX6_speeds 20 = .ok (.iaload, 1) := by decide +kernel
theorem dX6_speeds_21 : decode cX6_speeds 21 = .ok (.iconst 1, 1) := by decide +kernel
theorem dX6_speeds_22 : decode cX6_speeds 22 = .ok (.isub, 1) := by decide +kernel
theorem dX6_speeds_23 : decode cX6_speeds 23 = .ok (.if_icmp .eq 15, 3) := by decide +kernel
theorem dX6_speeds_26 : decode cX6_speeds 26 = .ok (.iload_n 3, 1) := by decide +kernel
theorem dX6_speeds_27 : decode cX6_speeds 27 = .ok (.aload_n 0, 1) := by decide +kernel
theorem dX6_speeds_28 : decode cX6_speeds 28 = .ok (.getfield 7, 3) := by decide +kernel
theorem dX6_speeds_31 : decode cX6_speeds 31 = .ok (.iload_n 2, 1) := by decide +kernel
theorem dX6_speeds_32 : decode cX6_speeds 32 = .ok (.iconst 2, 1) := by decide +kernel
theorem dX6_speeds_33 : decode cX6_speeds 33 = .ok (.iadd, 1) := by decide +kernel
theorem dX6_speeds_34 : decode cX6_speeds 34 = .ok (.iaload, 1) := by decide +kernel
theorem dX6_speeds_35 : decode cX6_speeds 35 = .ok (.if_icmp .gt 7, 3) := by decide +kernel
theorem dX6_speeds_38 : decode cX6_speeds 38 = .ok (.iconst 1, 1) := by decide +kernel
theorem dX6_speeds_39 : decode cX6_speeds 39 = .ok (.goto 4, 3) := by decide +kernel
theorem dX6_speeds_42 : decode cX6_speeds 42 = .ok (.iconst 0, 1) := by decide +kernel
theorem dX6_speeds_43 : decode cX6_speeds 43 = .ok (.istore 4, 2) := by decide +kernel
theorem dX6_speeds_45 : decode cX6_speeds 45 = .ok (.aload_n 0, 1) := by decide +kernel
theorem dX6_speeds_46 : decode cX6_speeds 46 = .ok (.getfield 7, 3) := by decide +kernel
theorem dX6_speeds_49 : decode cX6_speeds 49 = .ok (.iload_n 2, 1) := by decide +kernel
theorem dX6_speeds_50 : decode cX6_speeds 50 = .ok (.bipush 7, 2) := by decide +kernel
theorem dX6_speeds_52 : decode cX6_speeds 52 = .ok (.iadd, 1) := by decide +kernel
theorem dX6_speeds_53 : decode cX6_speeds 53 = .ok (.iload 4, 2) := by decide +kernel
theorem dX6_speeds_55 : decode cX6_speeds 55 = .ok (.ifCond .eq 7, 3) := by decide +kernel
theorem dX6_speeds_58 : decode cX6_speeds 58 = .ok (.iconst 1, 1) := by decide +kernel
theorem dX6_speeds_59 : decode cX6_speeds 59 = .ok (.goto 28, 3) := by decide +kernel
theorem dX6_speeds_62 : decode cX6_speeds 62 = .ok (.iload_n 3, 1) := by decide +kernel
theorem dX6_speeds_63 : decode cX6_speeds 63 = .ok (.aload_n 0, 1) := by decide +kernel
theorem dX6_speeds_64 : decode cX6_speeds 64 = .ok (.getfield 7, 3) := by decide +kernel
theorem dX6_speeds_67 : decode cX6_speeds 67 = .ok (.iload_n 2, 1) := by decide +kernel
theorem dX6_speeds_68 : decode cX6_speeds 68 = .ok (.iconst 3, 1) := by decide +kernel
theorem dX6_speeds_69 : decode cX6_speeds 69 = .ok (.iadd, 1) := by decide +kernel
theorem dX6_speeds_70 : decode cX6_speeds 70 = .ok (.iaload, 1) := by decide +kernel
theorem dX6_speeds_71 : decode cX6_speeds 71 = .ok (.if_icmp .lt 7, 3) := by decide +kernel
theorem dX6_speeds_74 : decode cX6_speeds 74 = .ok (.iconst 0, 1) := by decide +kernel
theorem dX6_speeds_75 : decode cX6_speeds 75 = .ok (.goto 12, 3) := by decide +kernel
theorem dX6_speeds_78 : decode cX6_speeds 78 = .ok (.aload_n 0, 1) := by decide +kernel
theorem dX6_speeds_79 : decode cX6_speeds 79 = .ok (.getfield 7, 3) := by decide +kernel
theorem dX6_speeds_82 : decode cX6_speeds 82 = .ok (.iload_n 2, 1) := by decide +kernel
theorem dX6_speeds_83 : decode cX6_speeds 83 = .ok (.bipush 7, 2) := by decide +kernel
theorem dX6_speeds_85 : decode cX6_speeds 85 = .ok (.iadd, 1) := by decide +kernel
theorem dX6_speeds_86 : decode cX6_speeds 86 = .ok (.iaload, 1) := by decide +kernel
theorem dX6_speeds_87 : decode cX6_speeds 87 = .ok (.iastore, 1) := by decide +kernel
theorem dX6_speeds_88 : decode cX6_speeds 88 = .ok (.return_, 1) := by decide +kernel
set_option maxRecDepth 20000 in
theorem ggX6_leaves_X6_of : GoodIn wsX6_leaves wsX6_of := goodIn_r _ [5] (by decide +kernel) (by decide +kernel)
set_option maxRecDepth 20000 in
theorem gX6_leaves_X6_of : GoodIn wsX6_leaves (va_wsS RX6 40 yX6_of wsX6_of) := goodIn_app (goodIn_of _ (by decide +kernel)) ggX6_leaves_X6_of
set_option maxRecDepth 20000 in
theorem ggX6_leaves_X6_isDown : GoodIn wsX6_leaves wsX6_isDown := goodIn_r _ [9, 10, 15, 16, 17, 18, 19, 20, 21, 22, 23, 24, 25, 26] (by decide +kernel) (by decide +kernel)
set_option maxRecDepth 20000 in
theorem gX6_leaves_X6_isDown : GoodIn wsX6_leaves (wsV RX6 84 RX6 yX6_isDown wsX6_isDown) := goodIn_app (goodIn_of _ (by decide +kernel)) ggX6_leaves_X6_isDown
set_option maxRecDepth 20000 in
theorem ggX6_leaves_X6_cycle : GoodIn wsX6_leaves wsX6_cycle := goodIn_r _ [14, 1, 15, 16, 17, 18, 19, 20, 21, 22, 23, 24, 25, 26] (by decide +kernel) (by decide +kernel)
set_option maxRecDepth 20000 in
theorem gX6_leaves_X6_cycle : GoodIn wsX6_leaves (wsV RX6 87 RX6 yX6_cycle wsX6_cycle) := goodIn_app (goodIn_of _ (by decide +kernel)) ggX6_leaves_X6_cycle
theorem dX6_leaves_0 : decode cX6_leaves 0 = .ok (.iload_n 1, 1) := by decide +kernel
theorem dX6_leaves_1 : decode cX6_leaves 1 = .ok (.invokestatic 40, 3) := by decide +kernel
theorem dX6_leaves_4 : decode cX6_leaves 4 = .ok (.istore_n 3, 1) := by decide +kernel
theorem dX6_leaves_5 : decode cX6_leaves 5 = .ok (.iload_n 3, 1) := by decide +kernel
theorem dX6_leaves_6 : decode cX6_leaves 6 = .ok (.bipush 16, 2) := by decide +kernel
theorem dX6_leaves_8 : decode cX6_leaves 8 = .ok (.iadd, 1) := by decide +kernel
theorem dX6_leaves_9 : decode cX6_leaves 9 = .ok (.istore 4, 2) := by decide +kernel
theorem dX6_leaves_11 : decode cX6_leaves 11 = .ok (.iconst 1, 1) := by decide +kernel
theorem dX6_leaves_12 : decode cX6_leaves 12 = .ok (.istore 5, 2) := by decide +kernel
theorem dX6_leaves_14 : decode cX6_leaves 14 = .ok (.iload_n 1, 1) := by decide +kernel
theorem dX6_leaves_15 : decode cX6_leaves 15 = .ok (.aload_n 0, 1) := by decide +kernel
theorem dX6_leaves_16 : decode cX6_leaves 16 = .ok (.getfield 7, 3) := by decide +kernel
theorem dX6_leaves_19 : decode cX6_leaves 19 = .ok (.iconst 0, 1) := by decide +kernel
theorem dX6_leaves_20 : decode cX6_leaves 20 = .ok (.iaload, 1) := by decide +kernel
theorem dX6_leaves_21 : decode cX6_leaves 21 = .ok (.iconst 1, 1) := by decide +kernel
theorem dX6_leaves_22 : decode cX6_leaves 22 = .ok (.isub, 1) := by decide +kernel
theorem dX6_leaves_23 : decode cX6_leaves 23 = .ok (.if_icmp .ge 95, 3) := by decide +kernel
theorem dX6_leaves_26 : decode cX6_leaves 26 = .ok (.aload_n 0, 1) := by decide +kernel
theorem dX6_leaves_27 : decode cX6_leaves 27 = .ok (.getfield 7, 3) := by decide +kernel
theorem dX6_leaves_30 : decode cX6_leaves 30 = .ok (.iload_n 3, 1) := by decide +kernel
theorem dX6_leaves_31 : decode cX6_leaves 31 = .ok (.iconst 5, 1) := by decide +kernel
theorem dX6_leaves_32 : decode cX6_leaves 32 = .ok (.iadd, 1) := by decide +kernel
theorem dX6_leaves_33 : decode cX6_leaves 33 = .ok (.iaload, 1) := by decide +kernel
theorem dX6_leaves_34 : decode cX6_leaves 34 = .ok (.ifCond .ne 47, 3) := by decide +kernel
theorem dX6_leaves_37 : decode cX6_leaves 37 = .ok (.aload_n 0, 1) := by decide +kernel
theorem dX6_leaves_38 : decode cX6_leaves 38 = .ok (.getfield 7, 3) := by decide +kernel
theorem dX6_leaves_41 : decode cX6_leaves 41 = .ok (.iload 4, 2) := by decide +kernel
theorem dX6_leaves_43 : decode cX6_leaves 43 = .ok (.bipush 6, 2) := by decide +kernel
theorem dX6_leaves_45 : decode cX6_leaves 45 = .ok (.iadd, 1) := by decide +kernel
theorem dX6_leaves_46 : decode cX6_leaves 46 = .ok (.iaload, 1) := by decide +kernel
theorem dX6_leaves_47 : decode cX6_leaves 47 = .ok (.iconst (-1), 1) := by decide +kernel
theorem dX6_leaves_48 : decode cX6_leaves 48 = .ok (.if_icmp .ne 33, 3) := by decide +kernel
theorem dX6_leaves_51 : decode cX6_leaves 51 = .ok (.aload_n 0, 1) := by decide +kernel
theorem dX6_leaves_52 : decode cX6_leaves 52 = .ok (.iload_n 1, 1) := by decide +kernel
theorem dX6_leaves_53 : decode cX6_leaves 53 = .ok (.iconst 1, 1) := by decide +kernel
theorem dX6_leaves_54 : decode cX6_leaves 54 = .ok (.iadd, 1) := by decide +kernel
theorem dX6_leaves_55 : decode cX6_leaves 55 = .ok (.iload_n 2, 1) := by decide +kernel
theorem dX6_leaves_56 : decode cX6_leaves 56 = .ok (.invokevirtual 84, 3) := by decide +kernel
theorem dX6_leaves_59 : decode cX6_leaves 59 = .ok (.ifCond .ne 22, 3) := by decide +kernel
theorem dX6_leaves_62 : decode cX6_leaves 62 = .ok (.aload_n 0, 1) := by decide +kernel
theorem dX6_leaves_63 : decode cX6_leaves 63 = .ok (.getfield 7, 3) := by decide +kernel
theorem dX6_leaves_66 : decode cX6_leaves 66 = .ok (.iload 4, 2) := by decide +kernel
theorem dX6_leaves_68 : decode cX6_leaves 68 = .ok (.bipush 6, 2) := by decide +kernel
theorem dX6_leaves_70 : decode cX6_leaves 70 = .ok (.iadd, 1) := by decide +kernel
theorem dX6_leaves_71 : decode cX6_leaves 71 = .ok (.aload_n 0, 1) := by decide +kernel
theorem dX6_leaves_72 : decode cX6_leaves 72 = .ok (.iload 4, 2) := by decide +kernel
theorem dX6_leaves_74 : decode cX6_leaves 74 = .ok (.invokevirtual 87, 3) := by decide +kernel
theorem dX6_leaves_77 : decode cX6_leaves 77 = .ok (.iastore, 1) := by decide +kernel
theorem dX6_leaves_78 : decode cX6_leaves 78 = .ok (.goto 40, 3) := by decide +kernel
theorem dX6_leaves_81 : decode cX6_leaves 81 = .ok (.aload_n 0, 1) := by decide +kernel
theorem dX6_leaves_82 : decode cX6_leaves 82 = .ok (.getfield 7, 3) := by decide +kernel
theorem dX6_leaves_85 : decode cX6_leaves 85 = .ok (.iload_n 3, 1) := by decide +kernel
theorem dX6_leaves_86 : decode cX6_leaves 86 = .ok (.iconst 5, 1) := by decide +kernel
theorem dX6_leaves_87 : decode cX6_leaves 87 = .ok (.iadd, 1) := by decide +kernel
theorem dX6_leaves_88 : decode cX6_leaves 88 = .ok (.iaload, 1) := by decide +kernel
theorem dX6_leaves_89 : decode cX6_leaves 89 = .ok (.aload_n 0, 1) := by decide +kernel
theorem dX6_leaves_90 : decode cX6_leaves 90 = .ok (.getfield 7, 3) := by decide +kernel
theorem dX6_leaves_93 : decode cX6_leaves 93 = .ok (.iload_n 3, 1) := by decide +kernel
theorem dX6_leaves_94 : decode cX6_leaves 94 = .ok (.iconst 4, 1) := by decide +kernel
theorem dX6_leaves_95 : decode cX6_leaves 95 = .ok (.iadd, 1) := by decide +kernel
theorem dX6_leaves_96 : decode cX6_leaves 96 = .ok (.iaload, 1) := by decide +kernel
theorem dX6_leaves_97 : decode cX6_leaves 97 = .ok (.if_icmp .ge 18, 3) := by decide +kernel
theorem dX6_leaves_100 : decode cX6_leaves 100 = .ok (.aload_n 0, 1) := by decide +kernel
theorem dX6_leaves_101 : decode cX6_leaves 101 = .ok (.getfield 7, 3) := by decide +kernel
theorem dX6_leaves_104 : decode cX6_leaves 104 = .ok (.iload_n 3, 1) := by decide +kernel
theorem dX6_leaves_105 : decode cX6_leaves 105 = .ok (.iconst 5, 1) := by decide +kernel
theorem dX6_leaves_106 : decode cX6_leaves 106 = .ok (.iadd, 1) := by decide +kernel
theorem dX6_leaves_107 : decode cX6_leaves 107 = .ok (.dup2, 1) := by decide +kernel
theorem dX6_leaves_108 : decode cX6_leaves 108 = .ok (.iaload, 1) := by decide +kernel
theorem dX6_leaves_109 : decode cX6_leaves 109 = .ok (.iconst 1, 1) := by decide +kernel
theorem dX6_leaves_110 : decode cX6_leaves 110 = .ok (.iadd, 1) := by decide +kernel
theorem dX6_leaves_111 : decode cX6_leaves 111 = .ok (.iastore, 1) := by decide +kernel
theorem dX6_leaves_112 : decode cX6_leaves 112 = .ok (.goto 6, 3) := by decide +kernel
theorem dX6_leaves_115 : decode cX6_leaves 115 = .ok (.iconst 0, 1) := by decide +kernel
theorem dX6_leaves_116 : decode cX6_leaves 116 = .ok (.istore 5, 2) := by decide +kernel
theorem dX6_leaves_118 : decode cX6_leaves 118 = .ok (.iload 5, 2) := by decide +kernel
theorem dX6_leaves_120 : decode cX6_leaves 120 = .ok (.ifCond .eq 28, 3) := by decide +kernel
theorem dX6_leaves_123 : decode cX6_leaves 123 = .ok (.aload_n 0, 1) := by decide +kernel
theorem dX6_leaves_124 : decode cX6_leaves 124 = .ok (.getfield 7, 3) := by decide +kernel
theorem dX6_leaves_127 : decode cX6_leaves 127 = .ok (.iload_n 3, 1) := by decide +kernel
theorem dX6_leaves_128 : decode cX6_leaves 128 = .ok (.bipush 6, 2) := by decide +kernel
theorem dX6_leaves_130 : decode cX6_leaves 130 = .ok (.iadd, 1) := by decide +kernel
theorem dX6_leaves_131 : decode cX6_leaves 131 = .ok (.iconst (-1), 1) := by decide +kernel
theorem dX6_leaves_132 : decode cX6_leaves 132 = .ok (.iastore, 1) := by decide +kernel
theorem dX6_leaves_133 : decode cX6_leaves 133 = .ok (.aload_n 0, 1) := by decide +kernel
theorem dX6_leaves_134 : decode cX6_leaves 134 = .ok (.getfield 7, 3) := by decide +kernel
theorem dX6_leaves_137 : decode cX6_leaves 137 = .ok (.iload_n 3, 1) := by decide +kernel
theorem dX6_leaves_138 : decode cX6_leaves 138 = .ok (.bipush 9, 2) := by decide +kernel
theorem dX6_leaves_140 : decode cX6_leaves 140 = .ok (.iadd, 1) := by decide +kernel
theorem dX6_leaves_141 : decode cX6_leaves 141 = .ok (.iconst 4, 1) := by decide +kernel
theorem dX6_leaves_142 : decode cX6_leaves 142 = .ok (.iadd, 1) := by decide +kernel
theorem dX6_leaves_143 : decode cX6_leaves 143 = .ok (.dup2, 1) := by decide +kernel
theorem dX6_leaves_144 : decode cX6_leaves 144 = .ok (.iaload, 1) := by decide +kernel
theorem dX6_leaves_145 : decode cX6_leaves 145 = .ok (.iconst 1, 1) := by decide +kernel
theorem dX6_leaves_146 : decode cX6_leaves 146 = .ok (.iadd, 1) := by decide +kernel
theorem dX6_leaves_147 : decode cX6_leaves 147 = .ok (.iastore, 1) := by decide +kernel
theorem dX6_leaves_148 : decode cX6_leaves 148 = .ok (.return_, 1) := by decide +kernel
set_option maxRecDepth 20000 in
theorem ggX6_takes_X6_of : GoodIn wsX6_takes wsX6_of := goodIn_r _ [5] (by decide +kernel) (by decide +kernel)
set_option maxRecDepth 20000 in
theorem gX6_takes_X6_of : GoodIn wsX6_takes (va_wsS RX6 40 yX6_of wsX6_of) := goodIn_app (goodIn_of _ (by decide +kernel)) ggX6_takes_X6_of
set_option maxRecDepth 20000 in
theorem ggX6_takes_X6_cycle : GoodIn wsX6_takes wsX6_cycle := goodIn_r _ [9, 1, 10, 11, 12, 13, 14, 15, 16, 17, 18, 19, 20, 21] (by decide +kernel) (by decide +kernel)
set_option maxRecDepth 20000 in
theorem gX6_takes_X6_cycle : GoodIn wsX6_takes (wsV RX6 87 RX6 yX6_cycle wsX6_cycle) := goodIn_app (goodIn_of _ (by decide +kernel)) ggX6_takes_X6_cycle
theorem dX6_takes_0 : decode cX6_takes 0 = .ok (.iload_n 1, 1) := by decide +kernel
theorem dX6_takes_1 : decode cX6_takes 1 = .ok (.invokestatic 40, 3) := by decide +kernel
theorem dX6_takes_4 : decode cX6_takes 4 = .ok (.istore_n 2, 1) := by decide +kernel
theorem dX6_takes_5 : decode cX6_takes 5 = .ok (.iload_n 1, 1) := by decide +kernel
theorem dX6_takes_6 : decode cX6_takes 6 = .ok (.ifCond .eq 17, 3) := by decide +kernel
theorem dX6_takes_9 : decode cX6_takes 9 = .ok (.aload_n 0, 1) := by decide +kernel
theorem dX6_takes_10 : decode cX6_takes 10 = .ok (.getfield 7, 3) := by decide +kernel
theorem dX6_takes_13 : decode cX6_takes 13 = .ok (.iload_n 2, 1) := by decide +kernel
theorem dX6_takes_14 : decode cX6_takes 14 = .ok (.bipush 16, 2) := by decide +kernel
theorem dX6_takes_16 : decode cX6_takes 16 = .ok (.isub, 1) := by decide +kernel
theorem dX6_takes_17 : decode cX6_takes 17 = .ok (.iconst 5, 1) := by decide +kernel
theorem dX6_takes_18 : decode cX6_takes 18 = .ok (.iadd, 1) := by decide +kernel
theorem dX6_takes_19 : decode cX6_takes 19 = .ok (.iaload, 1) := by decide +kernel
theorem dX6_takes_20 : decode cX6_takes 20 = .ok (.ifCond .le 7, 3) := by decide +kernel
theorem dX6_takes_23 : decode cX6_takes 23 = .ok (.iconst 1, 1) := by decide +kernel
theorem dX6_takes_24 : decode cX6_takes 24 = .ok (.goto 4, 3) := by decide +kernel
theorem dX6_takes_27 : decode cX6_takes 27 = .ok (.iconst 0, 1) := by decide +kernel
theorem dX6_takes_28 : decode cX6_takes 28 = .ok (.istore_n 3, 1) := by decide +kernel
theorem dX6_takes_29 : decode cX6_takes 29 = .ok (.iload_n 3, 1) := by decide +kernel
theorem dX6_takes_30 : decode cX6_takes 30 = .ok (.ifCond .eq 36, 3) := by decide +kernel
theorem dX6_takes_33 : decode cX6_takes 33 = .ok (.aload_n 0, 1) := by decide +kernel
theorem dX6_takes_34 : decode cX6_takes 34 = .ok (.getfield 7, 3) := by decide +kernel
theorem dX6_takes_37 : decode cX6_takes 37 = .ok (.iload_n 2, 1) := by decide +kernel
theorem dX6_takes_38 : decode cX6_takes 38 = .ok (.bipush 6, 2) := by decide +kernel
theorem dX6_takes_40 : decode cX6_takes 40 = .ok (.iadd, 1) := by decide +kernel
theorem dX6_takes_41 : decode cX6_takes 41 = .ok (.aload_n 0, 1) := by decide +kernel
theorem dX6_takes_42 : decode cX6_takes 42 = .ok (.iload_n 2, 1) := by decide +kernel
theorem dX6_takes_43 : decode cX6_takes 43 = .ok (.invokevirtual 87, 3) := by decide +kernel
theorem dX6_takes_46 : decode cX6_takes 46 = .ok (.iastore, 1) := by decide +kernel
theorem dX6_takes_47 : decode cX6_takes 47 = .ok (.iload_n 1, 1) := by decide +kernel
theorem dX6_takes_48 : decode cX6_takes 48 = .ok (.ifCond .le 18, 3) := by decide +kernel
theorem dX6_takes_51 : decode cX6_takes 51 = .ok (.aload_n 0, 1) := by decide +kernel
theorem dX6_takes_52 : decode cX6_takes 52 = .ok (.getfield 7, 3) := by decide +kernel
theorem dX6_takes_55 : decode cX6_takes 55 = .ok (.iload_n 2, 1) := by decide +kernel
theorem dX6_takes_56 : decode cX6_takes 56 = .ok (.bipush 16, 2) := by decide +kernel
theorem dX6_takes_58 : decode cX6_takes 58 = .ok (.isub, 1) := by decide +kernel
theorem dX6_takes_59 : decode cX6_takes 59 = .ok (.iconst 5, 1) := by decide +kernel
theorem dX6_takes_60 : decode cX6_takes 60 = .ok (.iadd, 1) := by decide +kernel
theorem dX6_takes_61 : decode cX6_takes 61 = .ok (.dup2, 1) := by decide +kernel
theorem dX6_takes_62 : decode cX6_takes 62 = .ok (.iaload, 1) := by decide +kernel
theorem dX6_takes_63 : decode cX6_takes 63 = .ok (.iconst 1, 1) := by decide +kernel
theorem dX6_takes_64 : decode cX6_takes 64 = .ok (.isub, 1) := by decide +kernel
theorem dX6_takes_65 : decode cX6_takes 65 = .ok (.iastore, 1) := by decide +kernel
theorem dX6_takes_66 : decode cX6_takes 66 = .ok (.return_, 1) := by decide +kernel
set_option maxRecDepth 20000 in
theorem ggX6_turns_X6_of : GoodIn wsX6_turns wsX6_of := goodIn_r _ [5] (by decide +kernel) (by decide +kernel)
set_option maxRecDepth 20000 in
theorem gX6_turns_X6_of : GoodIn wsX6_turns (va_wsS RX6 40 yX6_of wsX6_of) := goodIn_app (goodIn_of _ (by decide +kernel)) ggX6_turns_X6_of
set_option maxRecDepth 20000 in
theorem ggX6_turns_X6_speeds : GoodIn wsX6_turns wsX6_speeds := goodIn_r _ [9, 1, 2, 3, 4, 5, 27, 28, 29, 30, 31, 32, 33, 34, 35, 36, 37, 38] (by decide +kernel) (by decide +kernel)
set_option maxRecDepth 20000 in
theorem gX6_turns_X6_speeds : GoodIn wsX6_turns (wsV RX6 90 RX6 yX6_speeds wsX6_speeds) := goodIn_app (goodIn_of _ (by decide +kernel)) ggX6_turns_X6_speeds
set_option maxRecDepth 20000 in
theorem ggX6_turns_X6_isDown : GoodIn wsX6_turns wsX6_isDown := goodIn_r _ [13, 14, 27, 28, 29, 30, 31, 32, 33, 34, 35, 36, 37, 38] (by decide +kernel) (by decide +kernel)
set_option maxRecDepth 20000 in
theorem gX6_turns_X6_isDown : GoodIn wsX6_turns (wsV RX6 84 RX6 yX6_isDown wsX6_isDown) := goodIn_app (goodIn_of _ (by decide +kernel)) ggX6_turns_X6_isDown
set_option maxRecDepth 20000 in
theorem ggX6_turns_X6_leaves : GoodIn wsX6_turns wsX6_leaves := goodIn_r _ [18, 1, 2, 3, 4, 5, 10, 11, 12, 13, 14, 19, 20, 21, 22, 27, 28, 29, 30, 31, 32, 33, 34, 35, 36, 37, 38] (by decide +kernel) (by decide +kernel)
set_option maxRecDepth 20000 in
theorem gX6_turns_X6_leaves : GoodIn wsX6_turns (wsV RX6 94 RX6 yX6_leaves wsX6_leaves) := goodIn_app (goodIn_of _ (by decide +kernel)) ggX6_turns_X6_leaves
set_option maxRecDepth 20000 in
theorem ggX6_turns_X6_takes : GoodIn wsX6_turns wsX6_takes := goodIn_r _ [26, 1, 2, 3, 4, 5, 19, 20, 21, 22, 27, 28, 29, 30, 31, 32, 33, 34, 35, 36, 37, 38] (by decide +kernel) (by decide +kernel)
set_option maxRecDepth 20000 in
theorem gX6_turns_X6_takes : GoodIn wsX6_turns (wsV RX6 98 RX6 yX6_takes wsX6_takes) := goodIn_app (goodIn_of _ (by decide +kernel)) ggX6_turns_X6_takes
theorem dX6_turns_0 : decode cX6_turns 0 = .ok (.iload_n 1, 1) := by decide +kernel
theorem dX6_turns_1 : decode cX6_turns 1 = .ok (.invokestatic 40, 3) := by decide +kernel
theorem dX6_turns_4 : decode cX6_turns 4 = .ok (.istore_n 3, 1) := by decide +kernel
theorem dX6_turns_5 : decode cX6_turns 5 = .ok (.aload_n 0, 1) := by decide +kernel
theorem dX6_turns_6 : decode cX6_turns 6 = .ok (.iload_n 1, 1) := by decide +kernel
theorem dX6_turns_7 : decode cX6_turns 7 = .ok (.invokevirtual 90, 3) := by decide +kernel
theorem dX6_turns_10 : decode cX6_turns 10 = .ok (.aload_n 0, 1) := by decide +kernel
theorem dX6_turns_11 : decode cX6_turns 11 = .ok (.iload_n 1, 1) := by decide +kernel
theorem dX6_turns_12 : decode cX6_turns 12 = .ok (.iload_n 2, 1) := by decide +kernel
theorem dX6_turns_13 : decode cX6_turns 13 = .ok (.invokevirtual 84, 3) := by decide +kernel
theorem dX6_turns_16 : decode cX6_turns 16 = .ok (.ifCond .eq 5, 3) := by decide +kernel
theorem dX6_turns_19 : decode cX6_turns 19 = .ok (.iconst 4, 1) := by decide +kernel
theorem dX6_turns_20 : decode cX6_turns 20 = .ok (.ireturn, 1) := by decide +kernel
theorem dX6_turns_21 : decode cX6_turns 21 = .ok (.aload_n 0, 1) := by decide +kernel
theorem dX6_turns_22 : decode cX6_turns 22 = .ok (.getfield 7, 3) := by decide +kernel
theorem dX6_turns_25 : decode cX6_turns 25 = .ok (.iload_n 3, 1) := by decide +kernel
theorem dX6_turns_26 : decode cX6_turns 26 = .ok (.bipush 6, 2) := by decide +kernel
theorem dX6_turns_28 : decode cX6_turns 28 = .ok (.iadd, 1) := by decide +kernel
theorem dX6_turns_29 : decode cX6_turns 29 = .ok (.iaload, 1) := by decide +kernel
theorem dX6_turns_30 : decode cX6_turns 30 = .ok (.ifCond .ne 9, 3) := by decide +kernel
theorem dX6_turns_33 : decode cX6_turns 33 = .ok (.aload_n 0, 1) := by decide +kernel
theorem dX6_turns_34 : decode cX6_turns 34 = .ok (.iload_n 1, 1) := by decide +kernel
theorem dX6_turns_35 : decode cX6_turns 35 = .ok (.iload_n 2, 1) := by decide +kernel
theorem dX6_turns_36 : decode cX6_turns 36 = .ok (.invokevirtual 94, 3) := by decide +kernel
theorem dX6_turns_39 : decode cX6_turns 39 = .ok (.aload_n 0, 1) := by decide +kernel
theorem dX6_turns_40 : decode cX6_turns 40 = .ok (.getfield 7, 3) := by decide +kernel
theorem dX6_turns_43 : decode cX6_turns 43 = .ok (.iload_n 3, 1) := by decide +kernel
theorem dX6_turns_44 : decode cX6_turns 44 = .ok (.bipush 6, 2) := by decide +kernel
theorem dX6_turns_46 : decode cX6_turns 46 = .ok (.iadd, 1) := by decide +kernel
theorem dX6_turns_47 : decode cX6_turns 47 = .ok (.iaload, 1) := by decide +kernel
theorem dX6_turns_48 : decode cX6_turns 48 = .ok (.iconst (-1), 1) := by decide +kernel
theorem dX6_turns_49 : decode cX6_turns 49 = .ok (.if_icmp .ne 8, 3) := by decide +kernel
theorem dX6_turns_52 : decode cX6_turns 52 = .ok (.aload_n 0, 1) := by decide +kernel
theorem dX6_turns_53 : decode cX6_turns 53 = .ok (.iload_n 1, 1) := by decide +kernel
theorem dX6_turns_54 : decode cX6_turns 54 = .ok (.invokevirtual 98, 3) := by decide +kernel
theorem dX6_turns_57 : decode cX6_turns 57 = .ok (.aload_n 0, 1) := by decide +kernel
theorem dX6_turns_58 : decode cX6_turns 58 = .ok (.getfield 7, 3) := by decide +kernel
theorem dX6_turns_61 : decode cX6_turns 61 = .ok (.iload_n 3, 1) := by decide +kernel
theorem dX6_turns_62 : decode cX6_turns 62 = .ok (.bipush 6, 2) := by decide +kernel
theorem dX6_turns_64 : decode cX6_turns 64 = .ok (.iadd, 1) := by decide +kernel
theorem dX6_turns_65 : decode cX6_turns 65 = .ok (.iaload, 1) := by decide +kernel
theorem dX6_turns_66 : decode cX6_turns 66 = .ok (.ifCond .le 36, 3) := by decide +kernel
theorem dX6_turns_69 : decode cX6_turns 69 = .ok (.aload_n 0, 1) := by decide +kernel
theorem dX6_turns_70 : decode cX6_turns 70 = .ok (.getfield 7, 3) := by decide +kernel
theorem dX6_turns_73 : decode cX6_turns 73 = .ok (.iload_n 3, 1) := by decide +kernel
theorem dX6_turns_74 : decode cX6_turns 74 = .ok (.bipush 6, 2) := by decide +kernel
theorem dX6_turns_76 : decode cX6_turns 76 = .ok (.iadd, 1) := by decide +kernel
theorem dX6_turns_77 : decode cX6_turns 77 = .ok (.dup2, 1) := by decide +kernel
theorem dX6_turns_78 : decode cX6_turns 78 = .ok (.iaload, 1) := by decide +kernel
theorem dX6_turns_79 : decode cX6_turns 79 = .ok (.iconst 1, 1) := by decide +kernel
theorem dX6_turns_80 : decode cX6_turns 80 = .ok (.isub, 1) := by decide +kernel
theorem dX6_turns_81 : decode cX6_turns 81 = .ok (.iastore, 1) := by decide +kernel
theorem dX6_turns_82 : decode cX6_turns 82 = .ok (.aload_n 0, 1) := by decide +kernel
theorem dX6_turns_83 : decode cX6_turns 83 = .ok (.getfield 7, 3) := by decide +kernel
theorem dX6_turns_86 : decode cX6_turns 86 = .ok (.iload_n 3, 1) := by decide +kernel
theorem dX6_turns_87 : decode cX6_turns 87 = .ok (.bipush 6, 2) := by decide +kernel
theorem dX6_turns_89 : decode cX6_turns 89 = .ok (.iadd, 1) := by decide +kernel
theorem dX6_turns_90 : decode cX6_turns 90 = .ok (.iaload, 1) := by decide +kernel
theorem dX6_turns_91 : decode cX6_turns 91 = .ok (.ifCond .ne 9, 3) := by decide +kernel
theorem dX6_turns_94 : decode cX6_turns 94 = .ok (.aload_n 0, 1) := by decide +kernel
theorem dX6_turns_95 : decode cX6_turns 95 = .ok (.iload_n 1, 1) := by decide +kernel
theorem dX6_turns_96 : decode cX6_turns 96 = .ok (.iload_n 2, 1) := by decide +kernel
theorem dX6_turns_97 : decode cX6_turns 97 = .ok (.invokevirtual 94, 3) := by decide +kernel
theorem dX6_turns_100 : decode cX6_turns 100 = .ok (.iconst 1, 1) := by decide +kernel
theorem dX6_turns_101 : decode cX6_turns 101 = .ok (.ireturn, 1) := by decide +kernel
theorem dX6_turns_102 : decode cX6_turns 102 = .ok (.aload_n 0, 1) := by decide +kernel
theorem dX6_turns_103 : decode cX6_turns 103 = .ok (.getfield 7, 3) := by decide +kernel
theorem dX6_turns_106 : decode cX6_turns 106 = .ok (.iload_n 3, 1) := by decide +kernel
theorem dX6_turns_107 : decode cX6_turns 107 = .ok (.bipush 6, 2) := by decide +kernel
theorem dX6_turns_109 : decode cX6_turns 109 = .ok (.iadd, 1) := by decide +kernel
theorem dX6_turns_110 : decode cX6_turns 110 = .ok (.iaload, 1) := by decide +kernel
theorem dX6_turns_111 : decode cX6_turns 111 = .ok (.ifCond .ne 7, 3) := by decide +kernel
theorem dX6_turns_114 : decode cX6_turns 114 = .ok (.iconst 3, 1) := by decide +kernel
theorem dX6_turns_115 : decode cX6_turns 115 = .ok (.goto 4, 3) := by decide +kernel
theorem dX6_turns_118 : decode cX6_turns 118 = .ok (.iconst 2, 1) := by decide +kernel
theorem dX6_turns_119 : decode cX6_turns 119 = .ok (.ireturn, 1) := by decide +kernel
set_option maxRecDepth 20000 in
theorem ggX6_passes_X6_turns : GoodIn wsX6_passes wsX6_turns := goodIn_r _ [6, 1, 7, 8, 5, 9, 10, 11, 12, 13, 14, 15, 16, 17, 18, 19, 20, 21, 22, 23, 24, 25, 26, 27, 28, 29, 30, 31, 32, 33, 34, 35, 36, 37, 38, 39, 40, 41, 42] (by decide +kernel) (by decide +kernel)
set_option maxRecDepth 20000 in
theorem gX6_passes_X6_turns : GoodIn wsX6_passes (wsV RX6 101 RX6 yX6_turns wsX6_turns) := goodIn_app (goodIn_of _ (by decide +kernel)) ggX6_passes_X6_turns
set_option maxRecDepth 20000 in
theorem ggX6_passes_X6_of : GoodIn wsX6_passes wsX6_of := goodIn_r _ [9] (by decide +kernel) (by decide +kernel)
set_option maxRecDepth 20000 in
theorem gX6_passes_X6_of : GoodIn wsX6_passes (va_wsS RX6 40 yX6_of wsX6_of) := goodIn_app (goodIn_of _ (by decide +kernel)) ggX6_passes_X6_of
theorem dX6_passes_0 : decode cX6_passes 0 = .ok (.aload_n 0, 1) := by decide +kernel
theorem dX6_passes_1 : decode cX6_passes 1 = .ok (.getfield 7, 3) := by decide +kernel
theorem dX6_passes_4 : decode cX6_passes 4 = .ok (.iconst 1, 1) := by decide +kernel
theorem dX6_passes_5 : decode cX6_passes 5 = .ok (.dup2, 1) := by decide +kernel
theorem dX6_passes_6 : decode cX6_passes 6 = .ok (.iaload, 1) := by decide +kernel
theorem dX6_passes_7 : decode cX6_passes 7 = .ok (.iconst 1, 1) := by decide +kernel
theorem dX6_passes_8 : decode cX6_passes 8 = .ok (.iadd, 1) := by decide +kernel
theorem dX6_passes_9 : decode cX6_passes 9 = .ok (.iastore, 1) := by decide +kernel
theorem dX6_passes_10 : decode cX6_passes 10 = .ok (.aload_n 0, 1) := by decide +kernel
theorem dX6_passes_11 : decode cX6_passes 11 = .ok (.getfield 7, 3) := by decide +kernel
theorem dX6_passes_14 : decode cX6_passes 14 = .ok (.iconst 0, 1) := by decide +kernel
theorem dX6_passes_15 : decode cX6_passes 15 = .ok (.iaload, 1) := by decide +kernel
theorem dX6_passes_16 : decode cX6_passes 16 = .ok (.iconst 1, 1) := by decide +kernel
theorem dX6_passes_17 : decode cX6_passes 17 = .ok (.isub, 1) := by decide +kernel
theorem dX6_passes_18 : decode cX6_passes 18 = .ok (.istore_n 1, 1) := by decide +kernel
theorem dX6_passes_19 : decode cX6_passes 19 = .ok (.iload_n 1, 1) := by decide +kernel
theorem dX6_passes_20 : decode cX6_passes 20 = .ok (.ifCond .lt 54, 3) := by decide +kernel
theorem dX6_passes_23 : decode cX6_passes 23 = .ok (.aload_n 0, 1) := by decide +kernel
theorem dX6_passes_24 : decode cX6_passes 24 = .ok (.iload_n 1, 1) := by decide +kernel
theorem dX6_passes_25 : decode cX6_passes 25 = .ok (.aload_n 0, 1) := by decide +kernel
theorem dX6_passes_26 : decode cX6_passes 26 = .ok (.getfield 7, 3) := by decide +kernel
theorem dX6_passes_29 : decode cX6_passes 29 = .ok (.iconst 1, 1) := by decide +kernel
theorem dX6_passes_30 : decode cX6_passes 30 = .ok (.iaload, 1) := by decide +kernel
theorem dX6_passes_31 : decode cX6_passes 31 = .ok (.invokevirtual 101, 3) := by decide +kernel
theorem dX6_passes_34 : decode cX6_passes 34 = .ok (.istore_n 2, 1) := by decide +kernel
theorem dX6_passes_35 : decode cX6_passes 35 = .ok (.aload_n 0, 1) := by decide +kernel
theorem dX6_passes_36 : decode cX6_passes 36 = .ok (.getfield 7, 3) := by decide +kernel
theorem dX6_passes_39 : decode cX6_passes 39 = .ok (.iload_n 1, 1) := by decide +kernel
theorem dX6_passes_40 : decode cX6_passes 40 = .ok (.invokestatic 40, 3) := by decide +kernel
theorem dX6_passes_43 : decode cX6_passes 43 = .ok (.bipush 8, 2) := by decide +kernel
theorem dX6_passes_45 : decode cX6_passes 45 = .ok (.iadd, 1) := by decide +kernel
theorem dX6_passes_46 : decode cX6_passes 46 = .ok (.iload_n 2, 1) := by decide +kernel
theorem dX6_passes_47 : decode cX6_passes 47 = .ok (.iastore, 1) := by decide +kernel
theorem dX6_passes_48 : decode cX6_passes 48 = .ok (.aload_n 0, 1) := by decide +kernel
theorem dX6_passes_49 : decode cX6_passes 49 = .ok (.getfield 7, 3) := by decide +kernel
theorem dX6_passes_52 : decode cX6_passes 52 = .ok (.iload_n 1, 1) := by decide +kernel
theorem dX6_passes_53 : decode cX6_passes 53 = .ok (.invokestatic 40, 3) := by decide +kernel
theorem dX6_passes_56 : decode cX6_passes 56 = .ok (.bipush 9, 2) := by decide +kernel
theorem dX6_passes_58 : decode cX6_passes 58 = .ok (.iadd, 1) := by decide +kernel
theorem dX6_passes_59 : decode cX6_passes 59 = .ok (.iload_n 2, 1) := by decide +kernel
theorem dX6_passes_60 : decode cX6_passes 60 = .ok (.iadd, 1) := by decide +kernel
theorem dX6_passes_61 : decode cX6_passes 61 = .ok (.iconst 1, 1) := by decide +kernel
