theorem dL_refused_18 : decode cL_refused 18 = .ok (.bipush 8, 2) := by decide +kernel
theorem dL_refused_20 : decode cL_refused 20 = .ok (.iconst 1, 1) := by decide +kernel
theorem dL_refused_21 : decode cL_refused 21 = .ok (.iconst 1, 1) := by decide +kernel
theorem dL_refused_22 : decode cL_refused 22 = .ok (.iconst 0, 1) := by decide +kernel
theorem dL_refused_23 : decode cL_refused 23 = .ok (.iconst 0, 1) := by decide +kernel
theorem dL_refused_24 : decode cL_refused 24 = .ok (.invokestatic 109, 3) := by decide +kernel
theorem dL_refused_27 : decode cL_refused 27 = .ok (.ldc 27, 2) := by decide +kernel
theorem dL_refused_29 : decode cL_refused 29 = .ok (.if_icmp .ne 127, 3) := by decide +kernel
theorem dL_refused_32 : decode cL_refused 32 = .ok (.aload_n 0, 1) := by decide +kernel
theorem dL_refused_33 : decode cL_refused 33 = .ok (.iconst (-1), 1) := by decide +kernel
theorem dL_refused_34 : decode cL_refused 34 = .ok (.iconst 0, 1) := by decide +kernel
theorem dL_refused_35 : decode cL_refused 35 = .ok (.invokestatic 112, 3) := by decide +kernel
theorem dL_refused_38 : decode cL_refused 38 = .ok (.ldc 27, 2) := by decide +kernel
theorem dL_refused_40 : decode cL_refused 40 = .ok (.if_icmp .ne 116, 3) := by decide +kernel
theorem dL_refused_43 : decode cL_refused 43 = .ok (.aload_n 0, 1) := by decide +kernel
theorem dL_refused_44 : decode cL_refused 44 = .ok (.bipush 8, 2) := by decide +kernel
theorem dL_refused_46 : decode cL_refused 46 = .ok (.iconst 1, 1) := by decide +kernel
theorem dL_refused_47 : decode cL_refused 47 = .ok (.iconst 1, 1) := by decide +kernel
theorem dL_refused_48 : decode cL_refused 48 = .ok (.invokestatic 114, 3) := by decide +kernel
theorem dL_refused_51 : decode cL_refused 51 = .ok (.ldc 27, 2) := by decide +kernel
theorem dL_refused_53 : decode cL_refused 53 = .ok (.if_icmp .ne 103, 3) := by decide +kernel
theorem dL_refused_56 : decode cL_refused 56 = .ok (.aload_n 0, 1) := by decide +kernel
theorem dL_refused_57 : decode cL_refused 57 = .ok (.bipush 8, 2) := by decide +kernel
theorem dL_refused_59 : decode cL_refused 59 = .ok (.iconst 1, 1) := by decide +kernel
theorem dL_refused_60 : decode cL_refused 60 = .ok (.iconst 1, 1) := by decide +kernel
theorem dL_refused_61 : decode cL_refused 61 = .ok (.iconst 1, 1) := by decide +kernel
theorem dL_refused_62 : decode cL_refused 62 = .ok (.iconst 1, 1) := by decide +kernel
theorem dL_refused_63 : decode cL_refused 63 = .ok (.invokestatic 116, 3) := by decide +kernel
theorem dL_refused_66 : decode cL_refused 66 = .ok (.ldc 27, 2) := by decide +kernel
theorem dL_refused_68 : decode cL_refused 68 = .ok (.if_icmp .ne 88, 3) := by decide +kernel
theorem dL_refused_71 : decode cL_refused 71 = .ok (.aload_n 0, 1) := by decide +kernel
theorem dL_refused_72 : decode cL_refused 72 = .ok (.bipush 40, 2) := by decide +kernel
theorem dL_refused_74 : decode cL_refused 74 = .ok (.iconst 0, 1) := by decide +kernel
theorem dL_refused_75 : decode cL_refused 75 = .ok (.invokestatic 100, 3) := by decide +kernel
theorem dL_refused_78 : decode cL_refused 78 = .ok (.ldc 27, 2) := by decide +kernel
theorem dL_refused_80 : decode cL_refused 80 = .ok (.if_icmp .ne 76, 3) := by decide +kernel
theorem dL_refused_83 : decode cL_refused 83 = .ok (.aload_n 0, 1) := by decide +kernel
theorem dL_refused_84 : decode cL_refused 84 = .ok (.sipush 3000, 3) := by decide +kernel
theorem dL_refused_87 : decode cL_refused 87 = .ok (.invokestatic 118, 3) := by decide +kernel
theorem dL_refused_90 : decode cL_refused 90 = .ok (.ldc 17, 2) := by decide +kernel
theorem dL_refused_92 : decode cL_refused 92 = .ok (.if_icmp .ne 64, 3) := by decide +kernel
theorem dL_refused_95 : decode cL_refused 95 = .ok (.aload_n 0, 1) := by decide +kernel
theorem dL_refused_96 : decode cL_refused 96 = .ok (.bipush 8, 2) := by decide +kernel
theorem dL_refused_98 : decode cL_refused 98 = .ok (.iconst 0, 1) := by decide +kernel
theorem dL_refused_99 : decode cL_refused 99 = .ok (.invokestatic 96, 3) := by decide +kernel
theorem dL_refused_102 : decode cL_refused 102 = .ok (.ldc 27, 2) := by decide +kernel
theorem dL_refused_104 : decode cL_refused 104 = .ok (.if_icmp .ne 52, 3) := by decide +kernel
theorem dL_refused_107 : decode cL_refused 107 = .ok (.aload_n 0, 1) := by decide +kernel
theorem dL_refused_108 : decode cL_refused 108 = .ok (.bipush 8, 2) := by decide +kernel
theorem dL_refused_110 : decode cL_refused 110 = .ok (.iconst 0, 1) := by decide +kernel
theorem dL_refused_111 : decode cL_refused 111 = .ok (.invokestatic 98, 3) := by decide +kernel
theorem dL_refused_114 : decode cL_refused 114 = .ok (.ldc 27, 2) := by decide +kernel
theorem dL_refused_116 : decode cL_refused 116 = .ok (.if_icmp .ne 40, 3) := by decide +kernel
theorem dL_refused_119 : decode cL_refused 119 = .ok (.aload_n 0, 1) := by decide +kernel
theorem dL_refused_120 : decode cL_refused 120 = .ok (.iconst (-1), 1) := by decide +kernel
theorem dL_refused_121 : decode cL_refused 121 = .ok (.iconst 0, 1) := by decide +kernel
theorem dL_refused_122 : decode cL_refused 122 = .ok (.invokestatic 91, 3) := by decide +kernel
theorem dL_refused_125 : decode cL_refused 125 = .ok (.ldc 27, 2) := by decide +kernel
theorem dL_refused_127 : decode cL_refused 127 = .ok (.if_icmp .ne 29, 3) := by decide +kernel
theorem dL_refused_130 : decode cL_refused 130 = .ok (.aload_n 0, 1) := by decide +kernel
theorem dL_refused_131 : decode cL_refused 131 = .ok (.iconst (-1), 1) := by decide +kernel
theorem dL_refused_132 : decode cL_refused 132 = .ok (.invokestatic 121, 3) := by decide +kernel
theorem dL_refused_135 : decode cL_refused 135 = .ok (.ldc 17, 2) := by decide +kernel
theorem dL_refused_137 : decode cL_refused 137 = .ok (.if_icmp .ne 19, 3) := by decide +kernel
theorem dL_refused_140 : decode cL_refused 140 = .ok (.aload_n 0, 1) := by decide +kernel
theorem dL_refused_141 : decode cL_refused 141 = .ok (.sipush 20000, 3) := by decide +kernel
theorem dL_refused_144 : decode cL_refused 144 = .ok (.invokestatic 123, 3) := by decide +kernel
theorem dL_refused_147 : decode cL_refused 147 = .ok (.ldc 17, 2) := by decide +kernel
theorem dL_refused_149 : decode cL_refused 149 = .ok (.if_icmp .ne 7, 3) := by decide +kernel
theorem dL_refused_152 : decode cL_refused 152 = .ok (.iconst 1, 1) := by decide +kernel
theorem dL_refused_153 : decode cL_refused 153 = .ok (.goto 4, 3) := by decide +kernel
theorem dL_refused_156 : decode cL_refused 156 = .ok (.iconst 0, 1) := by decide +kernel
theorem dL_refused_157 : decode cL_refused 157 = .ok (.istore_n 3, 1) := by decide +kernel
theorem dL_refused_158 : decode cL_refused 158 = .ok (.iload_n 3, 1) := by decide +kernel
theorem dL_refused_159 : decode cL_refused 159 = .ok (.ifCond .eq 67, 3) := by decide +kernel
theorem dL_refused_162 : decode cL_refused 162 = .ok (.aload_n 0, 1) := by decide +kernel
theorem dL_refused_163 : decode cL_refused 163 = .ok (.bipush 8, 2) := by decide +kernel
theorem dL_refused_165 : decode cL_refused 165 = .ok (.iconst 0, 1) := by decide +kernel
theorem dL_refused_166 : decode cL_refused 166 = .ok (.iconst 1, 1) := by decide +kernel
theorem dL_refused_167 : decode cL_refused 167 = .ok (.invokestatic 125, 3) := by decide +kernel
theorem dL_refused_170 : decode cL_refused 170 = .ok (.ldc 27, 2) := by decide +kernel
theorem dL_refused_172 : decode cL_refused 172 = .ok (.if_icmp .ne 54, 3) := by decide +kernel
theorem dL_refused_175 : decode cL_refused 175 = .ok (.aload_n 0, 1) := by decide +kernel
theorem dL_refused_176 : decode cL_refused 176 = .ok (.bipush 8, 2) := by decide +kernel
theorem dL_refused_178 : decode cL_refused 178 = .ok (.iconst 1, 1) := by decide +kernel
theorem dL_refused_179 : decode cL_refused 179 = .ok (.iconst 1, 1) := by decide +kernel
theorem dL_refused_180 : decode cL_refused 180 = .ok (.invokestatic 127, 3) := by decide +kernel
theorem dL_refused_183 : decode cL_refused 183 = .ok (.ldc 27, 2) := by decide +kernel
theorem dL_refused_185 : decode cL_refused 185 = .ok (.if_icmp .ne 41, 3) := by decide +kernel
theorem dL_refused_188 : decode cL_refused 188 = .ok (.aload_n 0, 1) := by decide +kernel
theorem dL_refused_189 : decode cL_refused 189 = .ok (.sipush 3000, 3) := by decide +kernel
theorem dL_refused_192 : decode cL_refused 192 = .ok (.iconst 1, 1) := by decide +kernel
theorem dL_refused_193 : decode cL_refused 193 = .ok (.invokestatic 129, 3) := by decide +kernel
theorem dL_refused_196 : decode cL_refused 196 = .ok (.ldc 17, 2) := by decide +kernel
theorem dL_refused_198 : decode cL_refused 198 = .ok (.if_icmp .ne 28, 3) := by decide +kernel
theorem dL_refused_201 : decode cL_refused 201 = .ok (.aload_n 0, 1) := by decide +kernel
theorem dL_refused_202 : decode cL_refused 202 = .ok (.sipush 999, 3) := by decide +kernel
theorem dL_refused_205 : decode cL_refused 205 = .ok (.invokestatic 131, 3) := by decide +kernel
theorem dL_refused_208 : decode cL_refused 208 = .ok (.ldc 17, 2) := by decide +kernel
theorem dL_refused_210 : decode cL_refused 210 = .ok (.if_icmp .ne 16, 3) := by decide +kernel
theorem dL_refused_213 : decode cL_refused 213 = .ok (.aload_n 0, 1) := by decide +kernel
theorem dL_refused_214 : decode cL_refused 214 = .ok (.invokestatic 102, 3) := by decide +kernel
theorem dL_refused_217 : decode cL_refused 217 = .ok (.lload_n 1, 1) := by decide +kernel
theorem dL_refused_218 : decode cL_refused 218 = .ok (.lcmp, 1) := by decide +kernel
theorem dL_refused_219 : decode cL_refused 219 = .ok (.ifCond .ne 7, 3) := by decide +kernel
theorem dL_refused_222 : decode cL_refused 222 = .ok (.iconst 1, 1) := by decide +kernel
theorem dL_refused_223 : decode cL_refused 223 = .ok (.goto 4, 3) := by decide +kernel
theorem dL_refused_226 : decode cL_refused 226 = .ok (.iconst 0, 1) := by decide +kernel
theorem dL_refused_227 : decode cL_refused 227 = .ok (.ireturn, 1) := by decide +kernel
theorem dL_areFit_0 : decode cL_areFit 0 = .ok (.aload_n 0, 1) := by decide +kernel
theorem dL_areFit_1 : decode cL_areFit 1 = .ok (.iconst 0, 1) := by decide +kernel
theorem dL_areFit_2 : decode cL_areFit 2 = .ok (.invokevirtual 87, 3) := by decide +kernel
theorem dL_areFit_5 : decode cL_areFit 5 = .ok (.istore_n 1, 1) := by decide +kernel
theorem dL_areFit_6 : decode cL_areFit 6 = .ok (.iconst 0, 1) := by decide +kernel
theorem dL_areFit_7 : decode cL_areFit 7 = .ok (.istore_n 2, 1) := by decide +kernel
theorem dL_areFit_8 : decode cL_areFit 8 = .ok (.iconst 1, 1) := by decide +kernel
theorem dL_areFit_9 : decode cL_areFit 9 = .ok (.istore_n 3, 1) := by decide +kernel
theorem dL_areFit_10 : decode cL_areFit 10 = .ok (.iconst 0, 1) := by decide +kernel
theorem dL_areFit_11 : decode cL_areFit 11 = .ok (.istore 4, 2) := by decide +kernel
theorem dL_areFit_13 : decode cL_areFit 13 = .ok (.iload 4, 2) := by decide +kernel
theorem dL_areFit_15 : decode cL_areFit 15 = .ok (.iload_n 1, 1) := by decide +kernel
theorem dL_areFit_16 : decode cL_areFit 16 = .ok (.if_icmp .ge 373, 3) := by decide +kernel
theorem dL_areFit_19 : decode cL_areFit 19 = .ok (.iload_n 3, 1) := by decide +kernel
theorem dL_areFit_20 : decode cL_areFit 20 = .ok (.ifCond .eq 369, 3) := by decide +kernel
theorem dL_areFit_23 : decode cL_areFit 23 = .ok (.aload_n 0, 1) := by decide +kernel
theorem dL_areFit_24 : decode cL_areFit 24 = .ok (.iload 4, 2) := by decide +kernel
theorem dL_areFit_26 : decode cL_areFit 26 = .ok (.iconst 1, 1) := by decide +kernel
theorem dL_areFit_27 : decode cL_areFit 27 = .ok (.invokestatic 91, 3) := by decide +kernel
theorem dL_areFit_30 : decode cL_areFit 30 = .ok (.aload_n 0, 1) := by decide +kernel
theorem dL_areFit_31 : decode cL_areFit 31 = .ok (.iload 4, 2) := by decide +kernel
theorem dL_areFit_33 : decode cL_areFit 33 = .ok (.iconst 2, 1) := by decide +kernel
theorem dL_areFit_34 : decode cL_areFit 34 = .ok (.invokestatic 91, 3) := by decide +kernel
theorem dL_areFit_37 : decode cL_areFit 37 = .ok (.iadd, 1) := by decide +kernel
theorem dL_areFit_38 : decode cL_areFit 38 = .ok (.istore 5, 2) := by decide +kernel
theorem dL_areFit_40 : decode cL_areFit 40 = .ok (.aload_n 0, 1) := by decide +kernel
theorem dL_areFit_41 : decode cL_areFit 41 = .ok (.iload 4, 2) := by decide +kernel
theorem dL_areFit_43 : decode cL_areFit 43 = .ok (.iconst 1, 1) := by decide +kernel
theorem dL_areFit_44 : decode cL_areFit 44 = .ok (.invokestatic 98, 3) := by decide +kernel
theorem dL_areFit_47 : decode cL_areFit 47 = .ok (.ifCond .lt 7, 3) := by decide +kernel
theorem dL_areFit_50 : decode cL_areFit 50 = .ok (.iconst 1, 1) := by decide +kernel
theorem dL_areFit_51 : decode cL_areFit 51 = .ok (.goto 4, 3) := by decide +kernel
theorem dL_areFit_54 : decode cL_areFit 54 = .ok (.iconst 0, 1) := by decide +kernel
theorem dL_areFit_55 : decode cL_areFit 55 = .ok (.istore 6, 2) := by decide +kernel
theorem dL_areFit_57 : decode cL_areFit 57 = .ok (.iload_n 2, 1) := by decide +kernel
theorem dL_areFit_58 : decode cL_areFit 58 = .ok (.iload 6, 2) := by decide +kernel
theorem dL_areFit_60 : decode cL_areFit 60 = .ok (.aload_n 0, 1) := by decide +kernel
theorem dL_areFit_61 : decode cL_areFit 61 = .ok (.iload 4, 2) := by decide +kernel
theorem dL_areFit_63 : decode cL_areFit 63 = .ok (.iconst 0, 1) := by decide +kernel
theorem dL_areFit_64 : decode cL_areFit 64 = .ok (.invokestatic 98, 3) := by decide +kernel
theorem dL_areFit_67 : decode cL_areFit 67 = .ok (.iadd, 1) := by decide +kernel
theorem dL_areFit_68 : decode cL_areFit 68 = .ok (.iadd, 1) := by decide +kernel
theorem dL_areFit_69 : decode cL_areFit 69 = .ok (.istore_n 2, 1) := by decide +kernel
theorem dL_areFit_70 : decode cL_areFit 70 = .ok (.aload_n 0, 1) := by decide +kernel
theorem dL_areFit_71 : decode cL_areFit 71 = .ok (.iload 4, 2) := by decide +kernel
theorem dL_areFit_73 : decode cL_areFit 73 = .ok (.iconst 0, 1) := by decide +kernel
theorem dL_areFit_74 : decode cL_areFit 74 = .ok (.invokestatic 91, 3) := by decide +kernel
theorem dL_areFit_77 : decode cL_areFit 77 = .ok (.iload 5, 2) := by decide +kernel
theorem dL_areFit_79 : decode cL_areFit 79 = .ok (.iadd, 1) := by decide +kernel
theorem dL_areFit_80 : decode cL_areFit 80 = .ok (.aload_n 0, 1) := by decide +kernel
theorem dL_areFit_81 : decode cL_areFit 81 = .ok (.iload 4, 2) := by decide +kernel
theorem dL_areFit_83 : decode cL_areFit 83 = .ok (.iconst 3, 1) := by decide +kernel
theorem dL_areFit_84 : decode cL_areFit 84 = .ok (.invokestatic 91, 3) := by decide +kernel
theorem dL_areFit_87 : decode cL_areFit 87 = .ok (.iadd, 1) := by decide +kernel
theorem dL_areFit_88 : decode cL_areFit 88 = .ok (.aload_n 0, 1) := by decide +kernel
theorem dL_areFit_89 : decode cL_areFit 89 = .ok (.invokevirtual 81, 3) := by decide +kernel
theorem dL_areFit_92 : decode cL_areFit 92 = .ok (.if_icmp .ne 88, 3) := by decide +kernel
theorem dL_areFit_95 : decode cL_areFit 95 = .ok (.aload_n 0, 1) := by decide +kernel
theorem dL_areFit_96 : decode cL_areFit 96 = .ok (.iload 4, 2) := by decide +kernel
theorem dL_areFit_98 : decode cL_areFit 98 = .ok (.iconst 4, 1) := by decide +kernel
theorem dL_areFit_99 : decode cL_areFit 99 = .ok (.invokestatic 91, 3) := by decide +kernel
theorem dL_areFit_102 : decode cL_areFit 102 = .ok (.aload_n 0, 1) := by decide +kernel
theorem dL_areFit_103 : decode cL_areFit 103 = .ok (.iload 4, 2) := by decide +kernel
theorem dL_areFit_105 : decode cL_areFit 105 = .ok (.iconst 0, 1) := by decide +kernel
theorem dL_areFit_106 : decode cL_areFit 106 = .ok (.invokestatic 91, 3) := by decide +kernel
theorem dL_areFit_109 : decode cL_areFit 109 = .ok (.if_icmp .gt 71, 3) := by decide +kernel
theorem dL_areFit_112 : decode cL_areFit 112 = .ok (.aload_n 0, 1) := by decide +kernel
theorem dL_areFit_113 : decode cL_areFit 113 = .ok (.iload 4, 2) := by decide +kernel
theorem dL_areFit_115 : decode cL_areFit 115 = .ok (.iconst 1, 1) := by decide +kernel
theorem dL_areFit_116 : decode cL_areFit 116 = .ok (.invokestatic 98, 3) := by decide +kernel
theorem dL_areFit_119 : decode cL_areFit 119 = .ok (.bipush 20, 2) := by decide +kernel
theorem dL_areFit_121 : decode cL_areFit 121 = .ok (.if_icmp .ge 59, 3) := by decide +kernel
theorem dL_areFit_124 : decode cL_areFit 124 = .ok (.aload_n 0, 1) := by decide +kernel
theorem dL_areFit_125 : decode cL_areFit 125 = .ok (.iload 4, 2) := by decide +kernel
theorem dL_areFit_127 : decode cL_areFit 127 = .ok (.iconst 0, 1) := by decide +kernel
theorem dL_areFit_128 : decode cL_areFit 128 = .ok (.invokestatic 98, 3) := by decide +kernel
theorem dL_areFit_131 : decode cL_areFit 131 = .ok (.ifCond .lt 49, 3) := by decide +kernel
theorem dL_areFit_134 : decode cL_areFit 134 = .ok (.aload_n 0, 1) := by decide +kernel
theorem dL_areFit_135 : decode cL_areFit 135 = .ok (.iload 4, 2) := by decide +kernel
theorem dL_areFit_137 : decode cL_areFit 137 = .ok (.iconst 0, 1) := by decide +kernel
theorem dL_areFit_138 : decode cL_areFit 138 = .ok (.invokestatic 98, 3) := by decide +kernel
theorem dL_areFit_141 : decode cL_areFit 141 = .ok (.bipush 40, 2) := by decide +kernel
theorem dL_areFit_143 : decode cL_areFit 143 = .ok (.if_icmp .gt 37, 3) := by decide +kernel
theorem dL_areFit_146 : decode cL_areFit 146 = .ok (.aload_n 0, 1) := by decide +kernel
theorem dL_areFit_147 : decode cL_areFit 147 = .ok (.iload 4, 2) := by decide +kernel
theorem dL_areFit_149 : decode cL_areFit 149 = .ok (.iconst 3, 1) := by decide +kernel
theorem dL_areFit_150 : decode cL_areFit 150 = .ok (.invokestatic 98, 3) := by decide +kernel
theorem dL_areFit_153 : decode cL_areFit 153 = .ok (.ifCond .ne 7, 3) := by decide +kernel
theorem dL_areFit_156 : decode cL_areFit 156 = .ok (.iconst 1, 1) := by decide +kernel
theorem dL_areFit_157 : decode cL_areFit 157 = .ok (.goto 4, 3) := by decide +kernel
theorem dL_areFit_160 : decode cL_areFit 160 = .ok (.iconst 0, 1) := by decide +kernel
theorem dL_areFit_161 : decode cL_areFit 161 = .ok (.aload_n 0, 1) := by decide +kernel
theorem dL_areFit_162 : decode cL_areFit 162 = .ok (.invokevirtual 81, 3) := by decide +kernel
theorem dL_areFit_165 : decode cL_areFit 165 = .ok (.ifCond .ne 7, 3) := by decide +kernel
theorem dL_areFit_168 : decode cL_areFit 168 = .ok (.iconst 1, 1) := by decide +kernel
theorem dL_areFit_169 : decode cL_areFit 169 = .ok (.goto 4, 3) := by decide +kernel
theorem dL_areFit_172 : decode cL_areFit 172 = .ok (.iconst 0, 1) := by decide +kernel
theorem dL_areFit_173 : decode cL_areFit 173 = .ok (.if_icmp .ne 7, 3) := by decide +kernel
theorem dL_areFit_176 : decode cL_areFit 176 = .ok (.iconst 1, 1) := by decide +kernel
theorem dL_areFit_177 : decode cL_areFit 177 = .ok (.goto 4, 3) := by decide +kernel
theorem dL_areFit_180 : decode cL_areFit 180 = .ok (.iconst 0, 1) := by decide +kernel
theorem dL_areFit_181 : decode cL_areFit 181 = .ok (.istore_n 3, 1) := by decide +kernel
theorem dL_areFit_182 : decode cL_areFit 182 = .ok (.iload_n 3, 1) := by decide +kernel
theorem dL_areFit_183 : decode cL_areFit 183 = .ok (.ifCond .eq 99, 3) := by decide +kernel
theorem dL_areFit_186 : decode cL_areFit 186 = .ok (.iload 4, 2) := by decide +kernel
theorem dL_areFit_188 : decode cL_areFit 188 = .ok (.ifCond .gt 13, 3) := by decide +kernel
theorem dL_areFit_191 : decode cL_areFit 191 = .ok (.aload_n 0, 1) := by decide +kernel
theorem dL_areFit_192 : decode cL_areFit 192 = .ok (.iload 4, 2) := by decide +kernel
theorem dL_areFit_194 : decode cL_areFit 194 = .ok (.iconst 1, 1) := by decide +kernel
theorem dL_areFit_195 : decode cL_areFit 195 = .ok (.invokestatic 91, 3) := by decide +kernel
theorem dL_areFit_198 : decode cL_areFit 198 = .ok (.ifCond .ne 84, 3) := by decide +kernel
theorem dL_areFit_201 : decode cL_areFit 201 = .ok (.iload 4, 2) := by decide +kernel
theorem dL_areFit_203 : decode cL_areFit 203 = .ok (.iload_n 1, 1) := by decide +kernel
theorem dL_areFit_204 : decode cL_areFit 204 = .ok (.iconst 1, 1) := by decide +kernel
theorem dL_areFit_205 : decode cL_areFit 205 = .ok (.isub, 1) := by decide +kernel
theorem dL_areFit_206 : decode cL_areFit 206 = .ok (.if_icmp .lt 58, 3) := by decide +kernel
theorem dL_areFit_209 : decode cL_areFit 209 = .ok (.aload_n 0, 1) := by decide +kernel
theorem dL_areFit_210 : decode cL_areFit 210 = .ok (.iload 4, 2) := by decide +kernel
theorem dL_areFit_212 : decode cL_areFit 212 = .ok (.iconst 2, 1) := by decide +kernel
theorem dL_areFit_213 : decode cL_areFit 213 = .ok (.invokestatic 91, 3) := by decide +kernel
theorem dL_areFit_216 : decode cL_areFit 216 = .ok (.ifCond .ne 66, 3) := by decide +kernel
theorem dL_areFit_219 : decode cL_areFit 219 = .ok (.aload_n 0, 1) := by decide +kernel
theorem dL_areFit_220 : decode cL_areFit 220 = .ok (.iload 4, 2) := by decide +kernel
theorem dL_areFit_222 : decode cL_areFit 222 = .ok (.iconst 0, 1) := by decide +kernel
theorem dL_areFit_223 : decode cL_areFit 223 = .ok (.invokestatic 98, 3) := by decide +kernel
theorem dL_areFit_226 : decode cL_areFit 226 = .ok (.ifCond .ne 56, 3) := by decide +kernel
theorem dL_areFit_229 : decode cL_areFit 229 = .ok (.aload_n 0, 1) := by decide +kernel
theorem dL_areFit_230 : decode cL_areFit 230 = .ok (.iload 4, 2) := by decide +kernel
theorem dL_areFit_232 : decode cL_areFit 232 = .ok (.iconst 2, 1) := by decide +kernel
theorem dL_areFit_233 : decode cL_areFit 233 = .ok (.invokestatic 98, 3) := by decide +kernel
theorem dL_areFit_236 : decode cL_areFit 236 = .ok (.iconst 1, 1) := by decide +kernel
theorem dL_areFit_237 : decode cL_areFit 237 = .ok (.if_icmp .ne 45, 3) := by decide +kernel
theorem dL_areFit_240 : decode cL_areFit 240 = .ok (.aload_n 0, 1) := by decide +kernel
theorem dL_areFit_241 : decode cL_areFit 241 = .ok (.iload 4, 2) := by decide +kernel
theorem dL_areFit_243 : decode cL_areFit 243 = .ok (.iconst 5, 1) := by decide +kernel
theorem dL_areFit_244 : decode cL_areFit 244 = .ok (.invokestatic 91, 3) := by decide +kernel
theorem dL_areFit_247 : decode cL_areFit 247 = .ok (.ifCond .ne 35, 3) := by decide +kernel
theorem dL_areFit_250 : decode cL_areFit 250 = .ok (.aload_n 0, 1) := by decide +kernel
theorem dL_areFit_251 : decode cL_areFit 251 = .ok (.invokevirtual 84, 3) := by decide +kernel
theorem dL_areFit_254 : decode cL_areFit 254 = .ok (.aload_n 0, 1) := by decide +kernel
theorem dL_areFit_255 : decode cL_areFit 255 = .ok (.iload 4, 2) := by decide +kernel
theorem dL_areFit_257 : decode cL_areFit 257 = .ok (.iconst 4, 1) := by decide +kernel
theorem dL_areFit_258 : decode cL_areFit 258 = .ok (.invokestatic 91, 3) := by decide +kernel
theorem dL_areFit_261 : decode cL_areFit 261 = .ok (.if_icmp .ne 21, 3) := by decide +kernel
theorem dL_areFit_264 : decode cL_areFit 264 = .ok (.aload_n 0, 1) := by decide +kernel
theorem dL_areFit_265 : decode cL_areFit 265 = .ok (.iload 4, 2) := by decide +kernel
theorem dL_areFit_267 : decode cL_areFit 267 = .ok (.iconst 5, 1) := by decide +kernel
theorem dL_areFit_268 : decode cL_areFit 268 = .ok (.invokestatic 91, 3) := by decide +kernel
theorem dL_areFit_271 : decode cL_areFit 271 = .ok (.aload_n 0, 1) := by decide +kernel
theorem dL_areFit_272 : decode cL_areFit 272 = .ok (.invokevirtual 81, 3) := by decide +kernel
theorem dL_areFit_275 : decode cL_areFit 275 = .ok (.if_icmp .gt 7, 3) := by decide +kernel
theorem dL_areFit_278 : decode cL_areFit 278 = .ok (.iconst 1, 1) := by decide +kernel
theorem dL_areFit_279 : decode cL_areFit 279 = .ok (.goto 4, 3) := by decide +kernel
theorem dL_areFit_282 : decode cL_areFit 282 = .ok (.iconst 0, 1) := by decide +kernel
theorem dL_areFit_283 : decode cL_areFit 283 = .ok (.istore_n 3, 1) := by decide +kernel
theorem dL_areFit_284 : decode cL_areFit 284 = .ok (.iload_n 3, 1) := by decide +kernel
theorem dL_areFit_285 : decode cL_areFit 285 = .ok (.ifCond .eq 60, 3) := by decide +kernel
theorem dL_areFit_288 : decode cL_areFit 288 = .ok (.iload 4, 2) := by decide +kernel
theorem dL_areFit_290 : decode cL_areFit 290 = .ok (.iload_n 1, 1) := by decide +kernel
theorem dL_areFit_291 : decode cL_areFit 291 = .ok (.iconst 1, 1) := by decide +kernel
theorem dL_areFit_292 : decode cL_areFit 292 = .ok (.isub, 1) := by decide +kernel
theorem dL_areFit_293 : decode cL_areFit 293 = .ok (.if_icmp .eq 48, 3) := by decide +kernel
theorem dL_areFit_296 : decode cL_areFit 296 = .ok (.aload_n 0, 1) := by decide +kernel
theorem dL_areFit_297 : decode cL_areFit 297 = .ok (.iload 4, 2) := by decide +kernel
theorem dL_areFit_299 : decode cL_areFit 299 = .ok (.iconst 4, 1) := by decide +kernel
theorem dL_areFit_300 : decode cL_areFit 300 = .ok (.invokestatic 91, 3) := by decide +kernel
theorem dL_areFit_303 : decode cL_areFit 303 = .ok (.aload_n 0, 1) := by decide +kernel
theorem dL_areFit_304 : decode cL_areFit 304 = .ok (.iload 4, 2) := by decide +kernel
theorem dL_areFit_306 : decode cL_areFit 306 = .ok (.iconst 1, 1) := by decide +kernel
theorem dL_areFit_307 : decode cL_areFit 307 = .ok (.iadd, 1) := by decide +kernel
theorem dL_areFit_308 : decode cL_areFit 308 = .ok (.iconst 4, 1) := by decide +kernel
theorem dL_areFit_309 : decode cL_areFit 309 = .ok (.invokestatic 91, 3) := by decide +kernel
theorem dL_areFit_312 : decode cL_areFit 312 = .ok (.aload_n 0, 1) := by decide +kernel
theorem dL_areFit_313 : decode cL_areFit 313 = .ok (.iload 4, 2) := by decide +kernel
theorem dL_areFit_315 : decode cL_areFit 315 = .ok (.iconst 0, 1) := by decide +kernel
theorem dL_areFit_316 : decode cL_areFit 316 = .ok (.invokestatic 98, 3) := by decide +kernel
theorem dL_areFit_319 : decode cL_areFit 319 = .ok (.iadd, 1) := by decide +kernel
theorem dL_areFit_320 : decode cL_areFit 320 = .ok (.aload_n 0, 1) := by decide +kernel
theorem dL_areFit_321 : decode cL_areFit 321 = .ok (.iload 4, 2) := by decide +kernel
theorem dL_areFit_323 : decode cL_areFit 323 = .ok (.iconst 1, 1) := by decide +kernel
theorem dL_areFit_324 : decode cL_areFit 324 = .ok (.iadd, 1) := by decide +kernel
theorem dL_areFit_325 : decode cL_areFit 325 = .ok (.iconst 1, 1) := by decide +kernel
theorem dL_areFit_326 : decode cL_areFit 326 = .ok (.invokestatic 98, 3) := by decide +kernel
theorem dL_areFit_329 : decode cL_areFit 329 = .ok (.ifCond .lt 7, 3) := by decide +kernel
theorem dL_areFit_332 : decode cL_areFit 332 = .ok (.iconst 1, 1) := by decide +kernel
theorem dL_areFit_333 : decode cL_areFit 333 = .ok (.goto 4, 3) := by decide +kernel
theorem dL_areFit_336 : decode cL_areFit 336 = .ok (.iconst 0, 1) := by decide +kernel
theorem dL_areFit_337 : decode cL_areFit 337 = .ok (.iadd, 1) := by decide +kernel
theorem dL_areFit_338 : decode cL_areFit 338 = .ok (.if_icmp .ne 7, 3) := by decide +kernel
theorem dL_areFit_341 : decode cL_areFit 341 = .ok (.iconst 1, 1) := by decide +kernel
theorem dL_areFit_342 : decode cL_areFit 342 = .ok (.goto 4, 3) := by decide +kernel
theorem dL_areFit_345 : decode cL_areFit 345 = .ok (.iconst 0, 1) := by decide +kernel
theorem dL_areFit_346 : decode cL_areFit 346 = .ok (.istore_n 3, 1) := by decide +kernel
theorem dL_areFit_347 : decode cL_areFit 347 = .ok (.aload_n 0, 1) := by decide +kernel
theorem dL_areFit_348 : decode cL_areFit 348 = .ok (.invokestatic 133, 3) := by decide +kernel
theorem dL_areFit_351 : decode cL_areFit 351 = .ok (.istore 7, 2) := by decide +kernel
theorem dL_areFit_353 : decode cL_areFit 353 = .ok (.iload_n 3, 1) := by decide +kernel
theorem dL_areFit_354 : decode cL_areFit 354 = .ok (.ifCond .eq 27, 3) := by decide +kernel
theorem dL_areFit_357 : decode cL_areFit 357 = .ok (.iload 5, 2) := by decide +kernel
theorem dL_areFit_359 : decode cL_areFit 359 = .ok (.aload_n 0, 1) := by decide +kernel
theorem dL_areFit_360 : decode cL_areFit 360 = .ok (.iload 7, 2) := by decide +kernel
theorem dL_areFit_362 : decode cL_areFit 362 = .ok (.iconst 1, 1) := by decide +kernel
theorem dL_areFit_363 : decode cL_areFit 363 = .ok (.invokestatic 91, 3) := by decide +kernel
theorem dL_areFit_366 : decode cL_areFit 366 = .ok (.aload_n 0, 1) := by decide +kernel
theorem dL_areFit_367 : decode cL_areFit 367 = .ok (.iload 7, 2) := by decide +kernel
theorem dL_areFit_369 : decode cL_areFit 369 = .ok (.iconst 2, 1) := by decide +kernel
theorem dL_areFit_370 : decode cL_areFit 370 = .ok (.invokestatic 91, 3) := by decide +kernel
theorem dL_areFit_373 : decode cL_areFit 373 = .ok (.iadd, 1) := by decide +kernel
theorem dL_areFit_374 : decode cL_areFit 374 = .ok (.if_icmp .lt 7, 3) := by decide +kernel
theorem dL_areFit_377 : decode cL_areFit 377 = .ok (.iconst 1, 1) := by decide +kernel
theorem dL_areFit_378 : decode cL_areFit 378 = .ok (.goto 4, 3) := by decide +kernel
theorem dL_areFit_381 : decode cL_areFit 381 = .ok (.iconst 0, 1) := by decide +kernel
theorem dL_areFit_382 : decode cL_areFit 382 = .ok (.istore_n 3, 1) := by decide +kernel
theorem dL_areFit_383 : decode cL_areFit 383 = .ok (.iinc 4 1, 3) := by decide +kernel
theorem dL_areFit_386 : decode cL_areFit 386 = .ok (.goto (-373), 3) := by decide +kernel
theorem dL_areFit_389 : decode cL_areFit 389 = .ok (.iload_n 3, 1) := by decide +kernel
theorem dL_areFit_390 : decode cL_areFit 390 = .ok (.ifCond .eq 35, 3) := by decide +kernel
theorem dL_areFit_393 : decode cL_areFit 393 = .ok (.aload_n 0, 1) := by decide +kernel
theorem dL_areFit_394 : decode cL_areFit 394 = .ok (.invokevirtual 136, 3) := by decide +kernel
theorem dL_areFit_397 : decode cL_areFit 397 = .ok (.iload_n 2, 1) := by decide +kernel
theorem dL_areFit_398 : decode cL_areFit 398 = .ok (.if_icmp .ne 27, 3) := by decide +kernel
theorem dL_areFit_401 : decode cL_areFit 401 = .ok (.iload_n 1, 1) := by decide +kernel
theorem dL_areFit_402 : decode cL_areFit 402 = .ok (.ifCond .gt 19, 3) := by decide +kernel
theorem dL_areFit_405 : decode cL_areFit 405 = .ok (.aload_n 0, 1) := by decide +kernel
theorem dL_areFit_406 : decode cL_areFit 406 = .ok (.invokevirtual 84, 3) := by decide +kernel
theorem dL_areFit_409 : decode cL_areFit 409 = .ok (.ifCond .ne 16, 3) := by decide +kernel
theorem dL_areFit_412 : decode cL_areFit 412 = .ok (.aload_n 0, 1) := by decide +kernel
theorem dL_areFit_413 : decode cL_areFit 413 = .ok (.invokestatic 133, 3) := by decide +kernel
theorem dL_areFit_416 : decode cL_areFit 416 = .ok (.ldc 20, 2) := by decide +kernel
theorem dL_areFit_418 : decode cL_areFit 418 = .ok (.if_icmp .ne 7, 3) := by decide +kernel
theorem dL_areFit_421 : decode cL_areFit 421 = .ok (.iconst 1, 1) := by decide +kernel
theorem dL_areFit_422 : decode cL_areFit 422 = .ok (.goto 4, 3) := by decide +kernel
theorem dL_areFit_425 : decode cL_areFit 425 = .ok (.iconst 0, 1) := by decide +kernel
theorem dL_areFit_426 : decode cL_areFit 426 = .ok (.ireturn, 1) := by decide +kernel
theorem dL_isAnew_0 : decode cL_isAnew 0 = .ok (.aload_n 0, 1) := by decide +kernel
theorem dL_isAnew_1 : decode cL_isAnew 1 = .ok (.invokestatic 102, 3) := by decide +kernel
theorem dL_isAnew_4 : decode cL_isAnew 4 = .ok (.lstore_n 2, 1) := by decide +kernel
theorem dL_isAnew_5 : decode cL_isAnew 5 = .ok (.aload_n 0, 1) := by decide +kernel
theorem dL_isAnew_6 : decode cL_isAnew 6 = .ok (.iconst 0, 1) := by decide +kernel
theorem dL_isAnew_7 : decode cL_isAnew 7 = .ok (.invokevirtual 87, 3) := by decide +kernel
theorem dL_isAnew_10 : decode cL_isAnew 10 = .ok (.istore 4, 2) := by decide +kernel
theorem dL_isAnew_12 : decode cL_isAnew 12 = .ok (.iload 4, 2) := by decide +kernel
theorem dL_isAnew_14 : decode cL_isAnew 14 = .ok (.ifCond .ne 29, 3) := by decide +kernel
theorem dL_isAnew_17 : decode cL_isAnew 17 = .ok (.aload_n 0, 1) := by decide +kernel
theorem dL_isAnew_18 : decode cL_isAnew 18 = .ok (.iload_n 1, 1) := by decide +kernel
theorem dL_isAnew_19 : decode cL_isAnew 19 = .ok (.invokestatic 118, 3) := by decide +kernel
theorem dL_isAnew_22 : decode cL_isAnew 22 = .ok (.ldc 20, 2) := by decide +kernel
theorem dL_isAnew_24 : decode cL_isAnew 24 = .ok (.if_icmp .ne 17, 3) := by decide +kernel
theorem dL_isAnew_27 : decode cL_isAnew 27 = .ok (.aload_n 0, 1) := by decide +kernel
theorem dL_isAnew_28 : decode cL_isAnew 28 = .ok (.iload_n 1, 1) := by decide +kernel
theorem dL_isAnew_29 : decode cL_isAnew 29 = .ok (.invokestatic 121, 3) := by decide +kernel
theorem dL_isAnew_32 : decode cL_isAnew 32 = .ok (.ldc 20, 2) := by decide +kernel
theorem dL_isAnew_34 : decode cL_isAnew 34 = .ok (.if_icmp .ne 7, 3) := by decide +kernel
theorem dL_isAnew_37 : decode cL_isAnew 37 = .ok (.iconst 1, 1) := by decide +kernel
theorem dL_isAnew_38 : decode cL_isAnew 38 = .ok (.goto 4, 3) := by decide +kernel
theorem dL_isAnew_41 : decode cL_isAnew 41 = .ok (.iconst 0, 1) := by decide +kernel
theorem dL_isAnew_42 : decode cL_isAnew 42 = .ok (.ireturn, 1) := by decide +kernel
theorem dL_isAnew_43 : decode cL_isAnew 43 = .ok (.aload_n 0, 1) := by decide +kernel
theorem dL_isAnew_44 : decode cL_isAnew 44 = .ok (.iload 4, 2) := by decide +kernel
theorem dL_isAnew_46 : decode cL_isAnew 46 = .ok (.iconst 1, 1) := by decide +kernel
theorem dL_isAnew_47 : decode cL_isAnew 47 = .ok (.isub, 1) := by decide +kernel
theorem dL_isAnew_48 : decode cL_isAnew 48 = .ok (.iconst 5, 1) := by decide +kernel
theorem dL_isAnew_49 : decode cL_isAnew 49 = .ok (.iload_n 1, 1) := by decide +kernel
theorem dL_isAnew_50 : decode cL_isAnew 50 = .ok (.invokestatic 125, 3) := by decide +kernel
theorem dL_isAnew_53 : decode cL_isAnew 53 = .ok (.istore 5, 2) := by decide +kernel
theorem dL_isAnew_55 : decode cL_isAnew 55 = .ok (.aload_n 0, 1) := by decide +kernel
theorem dL_isAnew_56 : decode cL_isAnew 56 = .ok (.iload_n 1, 1) := by decide +kernel
theorem dL_isAnew_57 : decode cL_isAnew 57 = .ok (.invokestatic 121, 3) := by decide +kernel
theorem dL_isAnew_60 : decode cL_isAnew 60 = .ok (.istore 6, 2) := by decide +kernel
theorem dL_isAnew_62 : decode cL_isAnew 62 = .ok (.aload_n 0, 1) := by decide +kernel
theorem dL_isAnew_63 : decode cL_isAnew 63 = .ok (.iload_n 1, 1) := by decide +kernel
theorem dL_isAnew_64 : decode cL_isAnew 64 = .ok (.invokestatic 123, 3) := by decide +kernel
theorem dL_isAnew_67 : decode cL_isAnew 67 = .ok (.istore 7, 2) := by decide +kernel
theorem dL_isAnew_69 : decode cL_isAnew 69 = .ok (.aload_n 0, 1) := by decide +kernel
theorem dL_isAnew_70 : decode cL_isAnew 70 = .ok (.invokestatic 102, 3) := by decide +kernel
theorem dL_isAnew_73 : decode cL_isAnew 73 = .ok (.lload_n 2, 1) := by decide +kernel
theorem dL_isAnew_74 : decode cL_isAnew 74 = .ok (.lcmp, 1) := by decide +kernel
theorem dL_isAnew_75 : decode cL_isAnew 75 = .ok (.ifCond .ne 102, 3) := by decide +kernel
theorem dL_isAnew_78 : decode cL_isAnew 78 = .ok (.iload 5, 2) := by decide +kernel
theorem dL_isAnew_80 : decode cL_isAnew 80 = .ok (.ifCond .lt 97, 3) := by decide +kernel
theorem dL_isAnew_83 : decode cL_isAnew 83 = .ok (.iload 5, 2) := by decide +kernel
theorem dL_isAnew_85 : decode cL_isAnew 85 = .ok (.iload 6, 2) := by decide +kernel
theorem dL_isAnew_87 : decode cL_isAnew 87 = .ok (.if_icmp .gt 90, 3) := by decide +kernel
theorem dL_isAnew_90 : decode cL_isAnew 90 = .ok (.iload 7, 2) := by decide +kernel
theorem dL_isAnew_92 : decode cL_isAnew 92 = .ok (.ifCond .lt 85, 3) := by decide +kernel
theorem dL_isAnew_95 : decode cL_isAnew 95 = .ok (.iload 7, 2) := by decide +kernel
theorem dL_isAnew_97 : decode cL_isAnew 97 = .ok (.iload 4, 2) := by decide +kernel
theorem dL_isAnew_99 : decode cL_isAnew 99 = .ok (.if_icmp .ge 78, 3) := by decide +kernel
theorem dL_isAnew_102 : decode cL_isAnew 102 = .ok (.iload 6, 2) := by decide +kernel
theorem dL_isAnew_104 : decode cL_isAnew 104 = .ok (.iload_n 1, 1) := by decide +kernel
theorem dL_isAnew_105 : decode cL_isAnew 105 = .ok (.aload_n 0, 1) := by decide +kernel
