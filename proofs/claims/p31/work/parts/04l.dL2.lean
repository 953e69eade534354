theorem dL_isAnew_106 : decode cL_isAnew 106 = .ok (.iload 7, 2) := by decide +kernel
theorem dL_isAnew_108 : decode cL_isAnew 108 = .ok (.iconst 1, 1) := by decide +kernel
theorem dL_isAnew_109 : decode cL_isAnew 109 = .ok (.invokestatic 96, 3) := by decide +kernel
theorem dL_isAnew_112 : decode cL_isAnew 112 = .ok (.idiv, 1) := by decide +kernel
theorem dL_isAnew_113 : decode cL_isAnew 113 = .ok (.if_icmp .gt 64, 3) := by decide +kernel
theorem dL_isAnew_116 : decode cL_isAnew 116 = .ok (.aload_n 0, 1) := by decide +kernel
theorem dL_isAnew_117 : decode cL_isAnew 117 = .ok (.iload_n 1, 1) := by decide +kernel
theorem dL_isAnew_118 : decode cL_isAnew 118 = .ok (.iconst 1, 1) := by decide +kernel
theorem dL_isAnew_119 : decode cL_isAnew 119 = .ok (.iadd, 1) := by decide +kernel
theorem dL_isAnew_120 : decode cL_isAnew 120 = .ok (.invokestatic 121, 3) := by decide +kernel
theorem dL_isAnew_123 : decode cL_isAnew 123 = .ok (.iload 6, 2) := by decide +kernel
theorem dL_isAnew_125 : decode cL_isAnew 125 = .ok (.if_icmp .lt 52, 3) := by decide +kernel
theorem dL_isAnew_128 : decode cL_isAnew 128 = .ok (.aload_n 0, 1) := by decide +kernel
theorem dL_isAnew_129 : decode cL_isAnew 129 = .ok (.iconst 0, 1) := by decide +kernel
theorem dL_isAnew_130 : decode cL_isAnew 130 = .ok (.aload_n 0, 1) := by decide +kernel
theorem dL_isAnew_131 : decode cL_isAnew 131 = .ok (.iconst 0, 1) := by decide +kernel
theorem dL_isAnew_132 : decode cL_isAnew 132 = .ok (.iconst 4, 1) := by decide +kernel
theorem dL_isAnew_133 : decode cL_isAnew 133 = .ok (.invokestatic 96, 3) := by decide +kernel
theorem dL_isAnew_136 : decode cL_isAnew 136 = .ok (.iload_n 1, 1) := by decide +kernel
theorem dL_isAnew_137 : decode cL_isAnew 137 = .ok (.invokestatic 125, 3) := by decide +kernel
theorem dL_isAnew_140 : decode cL_isAnew 140 = .ok (.iload 5, 2) := by decide +kernel
theorem dL_isAnew_142 : decode cL_isAnew 142 = .ok (.if_icmp .ne 35, 3) := by decide +kernel
theorem dL_isAnew_145 : decode cL_isAnew 145 = .ok (.aload_n 0, 1) := by decide +kernel
theorem dL_isAnew_146 : decode cL_isAnew 146 = .ok (.iload 4, 2) := by decide +kernel
theorem dL_isAnew_148 : decode cL_isAnew 148 = .ok (.iconst 1, 1) := by decide +kernel
theorem dL_isAnew_149 : decode cL_isAnew 149 = .ok (.isub, 1) := by decide +kernel
theorem dL_isAnew_150 : decode cL_isAnew 150 = .ok (.iload_n 1, 1) := by decide +kernel
theorem dL_isAnew_151 : decode cL_isAnew 151 = .ok (.iload 5, 2) := by decide +kernel
theorem dL_isAnew_153 : decode cL_isAnew 153 = .ok (.invokestatic 127, 3) := by decide +kernel
theorem dL_isAnew_156 : decode cL_isAnew 156 = .ok (.ifCond .ne 21, 3) := by decide +kernel
theorem dL_isAnew_159 : decode cL_isAnew 159 = .ok (.aload_n 0, 1) := by decide +kernel
theorem dL_isAnew_160 : decode cL_isAnew 160 = .ok (.invokevirtual 139, 3) := by decide +kernel
theorem dL_isAnew_163 : decode cL_isAnew 163 = .ok (.ifCond .lt 14, 3) := by decide +kernel
theorem dL_isAnew_166 : decode cL_isAnew 166 = .ok (.aload_n 0, 1) := by decide +kernel
theorem dL_isAnew_167 : decode cL_isAnew 167 = .ok (.invokevirtual 136, 3) := by decide +kernel
theorem dL_isAnew_170 : decode cL_isAnew 170 = .ok (.ifCond .ne 7, 3) := by decide +kernel
theorem dL_isAnew_173 : decode cL_isAnew 173 = .ok (.iconst 1, 1) := by decide +kernel
theorem dL_isAnew_174 : decode cL_isAnew 174 = .ok (.goto 4, 3) := by decide +kernel
theorem dL_isAnew_177 : decode cL_isAnew 177 = .ok (.iconst 0, 1) := by decide +kernel
theorem dL_isAnew_178 : decode cL_isAnew 178 = .ok (.istore 8, 2) := by decide +kernel
theorem dL_isAnew_180 : decode cL_isAnew 180 = .ok (.iload 8, 2) := by decide +kernel
theorem dL_isAnew_182 : decode cL_isAnew 182 = .ok (.ifCond .eq 34, 3) := by decide +kernel
theorem dL_isAnew_185 : decode cL_isAnew 185 = .ok (.aload_n 0, 1) := by decide +kernel
theorem dL_isAnew_186 : decode cL_isAnew 186 = .ok (.iload_n 1, 1) := by decide +kernel
theorem dL_isAnew_187 : decode cL_isAnew 187 = .ok (.invokestatic 118, 3) := by decide +kernel
theorem dL_isAnew_190 : decode cL_isAnew 190 = .ok (.iload 5, 2) := by decide +kernel
theorem dL_isAnew_192 : decode cL_isAnew 192 = .ok (.if_icmp .ne 24, 3) := by decide +kernel
theorem dL_isAnew_195 : decode cL_isAnew 195 = .ok (.aload_n 0, 1) := by decide +kernel
theorem dL_isAnew_196 : decode cL_isAnew 196 = .ok (.invokevirtual 84, 3) := by decide +kernel
theorem dL_isAnew_199 : decode cL_isAnew 199 = .ok (.iload 5, 2) := by decide +kernel
theorem dL_isAnew_201 : decode cL_isAnew 201 = .ok (.if_icmp .ne 15, 3) := by decide +kernel
theorem dL_isAnew_204 : decode cL_isAnew 204 = .ok (.aload_n 0, 1) := by decide +kernel
theorem dL_isAnew_205 : decode cL_isAnew 205 = .ok (.invokevirtual 81, 3) := by decide +kernel
theorem dL_isAnew_208 : decode cL_isAnew 208 = .ok (.iload_n 1, 1) := by decide +kernel
theorem dL_isAnew_209 : decode cL_isAnew 209 = .ok (.if_icmp .ne 7, 3) := by decide +kernel
theorem dL_isAnew_212 : decode cL_isAnew 212 = .ok (.iconst 1, 1) := by decide +kernel
theorem dL_isAnew_213 : decode cL_isAnew 213 = .ok (.goto 4, 3) := by decide +kernel
theorem dL_isAnew_216 : decode cL_isAnew 216 = .ok (.iconst 0, 1) := by decide +kernel
theorem dL_isAnew_217 : decode cL_isAnew 217 = .ok (.istore 8, 2) := by decide +kernel
theorem dL_isAnew_219 : decode cL_isAnew 219 = .ok (.iload 8, 2) := by decide +kernel
theorem dL_isAnew_221 : decode cL_isAnew 221 = .ok (.ifCond .eq 30, 3) := by decide +kernel
theorem dL_isAnew_224 : decode cL_isAnew 224 = .ok (.aload_n 0, 1) := by decide +kernel
theorem dL_isAnew_225 : decode cL_isAnew 225 = .ok (.invokestatic 142, 3) := by decide +kernel
theorem dL_isAnew_228 : decode cL_isAnew 228 = .ok (.ifCond .lt 23, 3) := by decide +kernel
theorem dL_isAnew_231 : decode cL_isAnew 231 = .ok (.aload_n 0, 1) := by decide +kernel
theorem dL_isAnew_232 : decode cL_isAnew 232 = .ok (.invokestatic 142, 3) := by decide +kernel
theorem dL_isAnew_235 : decode cL_isAnew 235 = .ok (.ifCond .lt 16, 3) := by decide +kernel
theorem dL_isAnew_238 : decode cL_isAnew 238 = .ok (.aload_n 0, 1) := by decide +kernel
theorem dL_isAnew_239 : decode cL_isAnew 239 = .ok (.invokestatic 102, 3) := by decide +kernel
theorem dL_isAnew_242 : decode cL_isAnew 242 = .ok (.lload_n 2, 1) := by decide +kernel
theorem dL_isAnew_243 : decode cL_isAnew 243 = .ok (.lcmp, 1) := by decide +kernel
theorem dL_isAnew_244 : decode cL_isAnew 244 = .ok (.ifCond .ne 7, 3) := by decide +kernel
theorem dL_isAnew_247 : decode cL_isAnew 247 = .ok (.iconst 1, 1) := by decide +kernel
theorem dL_isAnew_248 : decode cL_isAnew 248 = .ok (.goto 4, 3) := by decide +kernel
theorem dL_isAnew_251 : decode cL_isAnew 251 = .ok (.iconst 0, 1) := by decide +kernel
theorem dL_isAnew_252 : decode cL_isAnew 252 = .ok (.ireturn, 1) := by decide +kernel
theorem dL_acts_0 : decode cL_acts 0 = .ok (.aload_n 0, 1) := by decide +kernel
theorem dL_acts_1 : decode cL_acts 1 = .ok (.iconst 0, 1) := by decide +kernel
theorem dL_acts_2 : decode cL_acts 2 = .ok (.invokevirtual 87, 3) := by decide +kernel
theorem dL_acts_5 : decode cL_acts 5 = .ok (.istore_n 3, 1) := by decide +kernel
theorem dL_acts_6 : decode cL_acts 6 = .ok (.iload_n 3, 1) := by decide +kernel
theorem dL_acts_7 : decode cL_acts 7 = .ok (.ifCond .ne 7, 3) := by decide +kernel
theorem dL_acts_10 : decode cL_acts 10 = .ok (.iconst 0, 1) := by decide +kernel
theorem dL_acts_11 : decode cL_acts 11 = .ok (.goto 6, 3) := by decide +kernel
theorem dL_acts_14 : decode cL_acts 14 = .ok (.iload_n 2, 1) := by decide +kernel
theorem dL_acts_15 : decode cL_acts 15 = .ok (.iload_n 3, 1) := by decide +kernel
theorem dL_acts_16 : decode cL_acts 16 = .ok (.irem, 1) := by decide +kernel
theorem dL_acts_17 : decode cL_acts 17 = .ok (.istore 4, 2) := by decide +kernel
theorem dL_acts_19 : decode cL_acts 19 = .ok (.iload_n 1, 1) := by decide +kernel
theorem dL_acts_20 : decode cL_acts 20 = .ok (.bipush 14, 2) := by decide +kernel
theorem dL_acts_22 : decode cL_acts 22 = .ok (.invokestatic 144, 3) := by decide +kernel
theorem dL_acts_25 : decode cL_acts 25 = .ok (.tableswitch 224 0 6 #[43, 74, 125, 139, 170, 198, 203], 43) := by decide +kernel
theorem dL_acts_68 : decode cL_acts 68 = .ok (.iconst 1, 1) := by decide +kernel
theorem dL_acts_69 : decode cL_acts 69 = .ok (.iload_n 2, 1) := by decide +kernel
theorem dL_acts_70 : decode cL_acts 70 = .ok (.bipush 9, 2) := by decide +kernel
theorem dL_acts_72 : decode cL_acts 72 = .ok (.irem, 1) := by decide +kernel
theorem dL_acts_73 : decode cL_acts 73 = .ok (.iadd, 1) := by decide +kernel
theorem dL_acts_74 : decode cL_acts 74 = .ok (.istore 5, 2) := by decide +kernel
theorem dL_acts_76 : decode cL_acts 76 = .ok (.aload_n 0, 1) := by decide +kernel
theorem dL_acts_77 : decode cL_acts 77 = .ok (.iload 5, 2) := by decide +kernel
theorem dL_acts_79 : decode cL_acts 79 = .ok (.iconst 1, 1) := by decide +kernel
theorem dL_acts_80 : decode cL_acts 80 = .ok (.iload_n 2, 1) := by decide +kernel
theorem dL_acts_81 : decode cL_acts 81 = .ok (.bipush 9, 2) := by decide +kernel
theorem dL_acts_83 : decode cL_acts 83 = .ok (.idiv, 1) := by decide +kernel
theorem dL_acts_84 : decode cL_acts 84 = .ok (.iload 5, 2) := by decide +kernel
theorem dL_acts_86 : decode cL_acts 86 = .ok (.irem, 1) := by decide +kernel
theorem dL_acts_87 : decode cL_acts 87 = .ok (.iadd, 1) := by decide +kernel
theorem dL_acts_88 : decode cL_acts 88 = .ok (.iload_n 2, 1) := by decide +kernel
theorem dL_acts_89 : decode cL_acts 89 = .ok (.bipush 81, 2) := by decide +kernel
theorem dL_acts_91 : decode cL_acts 91 = .ok (.idiv, 1) := by decide +kernel
theorem dL_acts_92 : decode cL_acts 92 = .ok (.bipush 6, 2) := by decide +kernel
theorem dL_acts_94 : decode cL_acts 94 = .ok (.irem, 1) := by decide +kernel
theorem dL_acts_95 : decode cL_acts 95 = .ok (.invokestatic 106, 3) := by decide +kernel
theorem dL_acts_98 : decode cL_acts 98 = .ok (.ireturn, 1) := by decide +kernel
theorem dL_acts_99 : decode cL_acts 99 = .ok (.iconst 1, 1) := by decide +kernel
theorem dL_acts_100 : decode cL_acts 100 = .ok (.iload_n 2, 1) := by decide +kernel
theorem dL_acts_101 : decode cL_acts 101 = .ok (.bipush 8, 2) := by decide +kernel
theorem dL_acts_103 : decode cL_acts 103 = .ok (.idiv, 1) := by decide +kernel
theorem dL_acts_104 : decode cL_acts 104 = .ok (.bipush 9, 2) := by decide +kernel
theorem dL_acts_106 : decode cL_acts 106 = .ok (.irem, 1) := by decide +kernel
theorem dL_acts_107 : decode cL_acts 107 = .ok (.iadd, 1) := by decide +kernel
theorem dL_acts_108 : decode cL_acts 108 = .ok (.istore 5, 2) := by decide +kernel
theorem dL_acts_110 : decode cL_acts 110 = .ok (.iload_n 2, 1) := by decide +kernel
theorem dL_acts_111 : decode cL_acts 111 = .ok (.bipush 72, 2) := by decide +kernel
theorem dL_acts_113 : decode cL_acts 113 = .ok (.idiv, 1) := by decide +kernel
theorem dL_acts_114 : decode cL_acts 114 = .ok (.bipush 9, 2) := by decide +kernel
theorem dL_acts_116 : decode cL_acts 116 = .ok (.irem, 1) := by decide +kernel
theorem dL_acts_117 : decode cL_acts 117 = .ok (.istore 6, 2) := by decide +kernel
theorem dL_acts_119 : decode cL_acts 119 = .ok (.aload_n 0, 1) := by decide +kernel
theorem dL_acts_120 : decode cL_acts 120 = .ok (.iload 4, 2) := by decide +kernel
theorem dL_acts_122 : decode cL_acts 122 = .ok (.iload 5, 2) := by decide +kernel
theorem dL_acts_124 : decode cL_acts 124 = .ok (.iconst 1, 1) := by decide +kernel
theorem dL_acts_125 : decode cL_acts 125 = .ok (.iload_n 2, 1) := by decide +kernel
theorem dL_acts_126 : decode cL_acts 126 = .ok (.sipush 648, 3) := by decide +kernel
theorem dL_acts_129 : decode cL_acts 129 = .ok (.idiv, 1) := by decide +kernel
theorem dL_acts_130 : decode cL_acts 130 = .ok (.iload 5, 2) := by decide +kernel
theorem dL_acts_132 : decode cL_acts 132 = .ok (.irem, 1) := by decide +kernel
theorem dL_acts_133 : decode cL_acts 133 = .ok (.iadd, 1) := by decide +kernel
theorem dL_acts_134 : decode cL_acts 134 = .ok (.iload_n 2, 1) := by decide +kernel
theorem dL_acts_135 : decode cL_acts 135 = .ok (.sipush 5000, 3) := by decide +kernel
theorem dL_acts_138 : decode cL_acts 138 = .ok (.idiv, 1) := by decide +kernel
theorem dL_acts_139 : decode cL_acts 139 = .ok (.iload 6, 2) := by decide +kernel
theorem dL_acts_141 : decode cL_acts 141 = .ok (.iconst 1, 1) := by decide +kernel
theorem dL_acts_142 : decode cL_acts 142 = .ok (.iadd, 1) := by decide +kernel
theorem dL_acts_143 : decode cL_acts 143 = .ok (.irem, 1) := by decide +kernel
theorem dL_acts_144 : decode cL_acts 144 = .ok (.iload 6, 2) := by decide +kernel
theorem dL_acts_146 : decode cL_acts 146 = .ok (.invokestatic 109, 3) := by decide +kernel
theorem dL_acts_149 : decode cL_acts 149 = .ok (.ireturn, 1) := by decide +kernel
theorem dL_acts_150 : decode cL_acts 150 = .ok (.aload_n 0, 1) := by decide +kernel
theorem dL_acts_151 : decode cL_acts 151 = .ok (.iload 4, 2) := by decide +kernel
theorem dL_acts_153 : decode cL_acts 153 = .ok (.iload_n 2, 1) := by decide +kernel
theorem dL_acts_154 : decode cL_acts 154 = .ok (.bipush 8, 2) := by decide +kernel
theorem dL_acts_156 : decode cL_acts 156 = .ok (.idiv, 1) := by decide +kernel
theorem dL_acts_157 : decode cL_acts 157 = .ok (.bipush 9, 2) := by decide +kernel
theorem dL_acts_159 : decode cL_acts 159 = .ok (.irem, 1) := by decide +kernel
theorem dL_acts_160 : decode cL_acts 160 = .ok (.invokestatic 112, 3) := by decide +kernel
theorem dL_acts_163 : decode cL_acts 163 = .ok (.ireturn, 1) := by decide +kernel
theorem dL_acts_164 : decode cL_acts 164 = .ok (.aload_n 0, 1) := by decide +kernel
theorem dL_acts_165 : decode cL_acts 165 = .ok (.iload 4, 2) := by decide +kernel
theorem dL_acts_167 : decode cL_acts 167 = .ok (.aload_n 0, 1) := by decide +kernel
theorem dL_acts_168 : decode cL_acts 168 = .ok (.invokevirtual 81, 3) := by decide +kernel
theorem dL_acts_171 : decode cL_acts 171 = .ok (.iconst 1, 1) := by decide +kernel
theorem dL_acts_172 : decode cL_acts 172 = .ok (.iadd, 1) := by decide +kernel
theorem dL_acts_173 : decode cL_acts 173 = .ok (.iload_n 2, 1) := by decide +kernel
theorem dL_acts_174 : decode cL_acts 174 = .ok (.bipush 8, 2) := by decide +kernel
theorem dL_acts_176 : decode cL_acts 176 = .ok (.idiv, 1) := by decide +kernel
theorem dL_acts_177 : decode cL_acts 177 = .ok (.bipush 50, 2) := by decide +kernel
theorem dL_acts_179 : decode cL_acts 179 = .ok (.irem, 1) := by decide +kernel
theorem dL_acts_180 : decode cL_acts 180 = .ok (.iadd, 1) := by decide +kernel
theorem dL_acts_181 : decode cL_acts 181 = .ok (.iconst 1, 1) := by decide +kernel
theorem dL_acts_182 : decode cL_acts 182 = .ok (.iload_n 2, 1) := by decide +kernel
theorem dL_acts_183 : decode cL_acts 183 = .ok (.sipush 400, 3) := by decide +kernel
theorem dL_acts_186 : decode cL_acts 186 = .ok (.idiv, 1) := by decide +kernel
theorem dL_acts_187 : decode cL_acts 187 = .ok (.bipush 30, 2) := by decide +kernel
theorem dL_acts_189 : decode cL_acts 189 = .ok (.irem, 1) := by decide +kernel
theorem dL_acts_190 : decode cL_acts 190 = .ok (.iadd, 1) := by decide +kernel
theorem dL_acts_191 : decode cL_acts 191 = .ok (.invokestatic 114, 3) := by decide +kernel
theorem dL_acts_194 : decode cL_acts 194 = .ok (.ireturn, 1) := by decide +kernel
theorem dL_acts_195 : decode cL_acts 195 = .ok (.aload_n 0, 1) := by decide +kernel
theorem dL_acts_196 : decode cL_acts 196 = .ok (.iload 4, 2) := by decide +kernel
theorem dL_acts_198 : decode cL_acts 198 = .ok (.iload_n 2, 1) := by decide +kernel
theorem dL_acts_199 : decode cL_acts 199 = .ok (.ldc 147, 2) := by decide +kernel
theorem dL_acts_201 : decode cL_acts 201 = .ok (.irem, 1) := by decide +kernel
theorem dL_acts_202 : decode cL_acts 202 = .ok (.iconst 1, 1) := by decide +kernel
theorem dL_acts_203 : decode cL_acts 203 = .ok (.iload_n 2, 1) := by decide +kernel
theorem dL_acts_204 : decode cL_acts 204 = .ok (.bipush 60, 2) := by decide +kernel
theorem dL_acts_206 : decode cL_acts 206 = .ok (.irem, 1) := by decide +kernel
theorem dL_acts_207 : decode cL_acts 207 = .ok (.iadd, 1) := by decide +kernel
theorem dL_acts_208 : decode cL_acts 208 = .ok (.iconst 1, 1) := by decide +kernel
theorem dL_acts_209 : decode cL_acts 209 = .ok (.iload_n 2, 1) := by decide +kernel
theorem dL_acts_210 : decode cL_acts 210 = .ok (.bipush 17, 2) := by decide +kernel
theorem dL_acts_212 : decode cL_acts 212 = .ok (.irem, 1) := by decide +kernel
theorem dL_acts_213 : decode cL_acts 213 = .ok (.iadd, 1) := by decide +kernel
theorem dL_acts_214 : decode cL_acts 214 = .ok (.iconst 1, 1) := by decide +kernel
theorem dL_acts_215 : decode cL_acts 215 = .ok (.iload_n 2, 1) := by decide +kernel
theorem dL_acts_216 : decode cL_acts 216 = .ok (.iconst 5, 1) := by decide +kernel
theorem dL_acts_217 : decode cL_acts 217 = .ok (.irem, 1) := by decide +kernel
theorem dL_acts_218 : decode cL_acts 218 = .ok (.iadd, 1) := by decide +kernel
theorem dL_acts_219 : decode cL_acts 219 = .ok (.invokestatic 116, 3) := by decide +kernel
theorem dL_acts_222 : decode cL_acts 222 = .ok (.ireturn, 1) := by decide +kernel
theorem dL_acts_223 : decode cL_acts 223 = .ok (.aload_n 0, 1) := by decide +kernel
theorem dL_acts_224 : decode cL_acts 224 = .ok (.invokevirtual 148, 3) := by decide +kernel
theorem dL_acts_227 : decode cL_acts 227 = .ok (.ireturn, 1) := by decide +kernel
theorem dL_acts_228 : decode cL_acts 228 = .ok (.iload_n 2, 1) := by decide +kernel
theorem dL_acts_229 : decode cL_acts 229 = .ok (.iconst 3, 1) := by decide +kernel
theorem dL_acts_230 : decode cL_acts 230 = .ok (.irem, 1) := by decide +kernel
theorem dL_acts_231 : decode cL_acts 231 = .ok (.ifCond .ne 10, 3) := by decide +kernel
theorem dL_acts_234 : decode cL_acts 234 = .ok (.aload_n 0, 1) := by decide +kernel
theorem dL_acts_235 : decode cL_acts 235 = .ok (.invokevirtual 139, 3) := by decide +kernel
theorem dL_acts_238 : decode cL_acts 238 = .ok (.goto 10, 3) := by decide +kernel
theorem dL_acts_241 : decode cL_acts 241 = .ok (.aload_n 0, 1) := by decide +kernel
theorem dL_acts_242 : decode cL_acts 242 = .ok (.iload_n 2, 1) := by decide +kernel
theorem dL_acts_243 : decode cL_acts 243 = .ok (.iconst 3, 1) := by decide +kernel
theorem dL_acts_244 : decode cL_acts 244 = .ok (.irem, 1) := by decide +kernel
theorem dL_acts_245 : decode cL_acts 245 = .ok (.invokestatic 118, 3) := by decide +kernel
theorem dL_acts_248 : decode cL_acts 248 = .ok (.ireturn, 1) := by decide +kernel
theorem dL_acts_249 : decode cL_acts 249 = .ok (.aload_n 0, 1) := by decide +kernel
theorem dL_acts_250 : decode cL_acts 250 = .ok (.iload_n 2, 1) := by decide +kernel
theorem dL_acts_251 : decode cL_acts 251 = .ok (.iconst 5, 1) := by decide +kernel
theorem dL_acts_252 : decode cL_acts 252 = .ok (.irem, 1) := by decide +kernel
theorem dL_acts_253 : decode cL_acts 253 = .ok (.ifCond .ne 12, 3) := by decide +kernel
theorem dL_acts_256 : decode cL_acts 256 = .ok (.iload_n 2, 1) := by decide +kernel
theorem dL_acts_257 : decode cL_acts 257 = .ok (.iconst 5, 1) := by decide +kernel
theorem dL_acts_258 : decode cL_acts 258 = .ok (.idiv, 1) := by decide +kernel
theorem dL_acts_259 : decode cL_acts 259 = .ok (.bipush 90, 2) := by decide +kernel
theorem dL_acts_261 : decode cL_acts 261 = .ok (.irem, 1) := by decide +kernel
theorem dL_acts_262 : decode cL_acts 262 = .ok (.goto 9, 3) := by decide +kernel
theorem dL_acts_265 : decode cL_acts 265 = .ok (.iload_n 2, 1) := by decide +kernel
theorem dL_acts_266 : decode cL_acts 266 = .ok (.iconst 5, 1) := by decide +kernel
theorem dL_acts_267 : decode cL_acts 267 = .ok (.idiv, 1) := by decide +kernel
theorem dL_acts_268 : decode cL_acts 268 = .ok (.bipush 7, 2) := by decide +kernel
theorem dL_acts_270 : decode cL_acts 270 = .ok (.irem, 1) := by decide +kernel
theorem dL_acts_271 : decode cL_acts 271 = .ok (.invokestatic 118, 3) := by decide +kernel
theorem dL_acts_274 : decode cL_acts 274 = .ok (.ireturn, 1) := by decide +kernel
theorem dL_law_0 : decode cL_law 0 = .ok (.new 10, 3) := by decide +kernel
theorem dL_law_3 : decode cL_law 3 = .ok (.dup, 1) := by decide +kernel
theorem dL_law_4 : decode cL_law 4 = .ok (.invokespecial 151, 3) := by decide +kernel
theorem dL_law_7 : decode cL_law 7 = .ok (.astore_n 1, 1) := by decide +kernel
theorem dL_law_8 : decode cL_law 8 = .ok (.aload_n 1, 1) := by decide +kernel
theorem dL_law_9 : decode cL_law 9 = .ok (.invokestatic 142, 3) := by decide +kernel
theorem dL_law_12 : decode cL_law 12 = .ok (.ldc 20, 2) := by decide +kernel
theorem dL_law_14 : decode cL_law 14 = .ok (.if_icmp .ne 21, 3) := by decide +kernel
theorem dL_law_17 : decode cL_law 17 = .ok (.aload_n 1, 1) := by decide +kernel
theorem dL_law_18 : decode cL_law 18 = .ok (.invokestatic 152, 3) := by decide +kernel
theorem dL_law_21 : decode cL_law 21 = .ok (.ifCond .eq 14, 3) := by decide +kernel
theorem dL_law_24 : decode cL_law 24 = .ok (.aload_n 1, 1) := by decide +kernel
theorem dL_law_25 : decode cL_law 25 = .ok (.invokestatic 156, 3) := by decide +kernel
theorem dL_law_28 : decode cL_law 28 = .ok (.ifCond .eq 7, 3) := by decide +kernel
theorem dL_law_31 : decode cL_law 31 = .ok (.iconst 1, 1) := by decide +kernel
theorem dL_law_32 : decode cL_law 32 = .ok (.goto 4, 3) := by decide +kernel
theorem dL_law_35 : decode cL_law 35 = .ok (.iconst 0, 1) := by decide +kernel
theorem dL_law_36 : decode cL_law 36 = .ok (.istore_n 2, 1) := by decide +kernel
theorem dL_law_37 : decode cL_law 37 = .ok (.iconst 0, 1) := by decide +kernel
theorem dL_law_38 : decode cL_law 38 = .ok (.istore_n 3, 1) := by decide +kernel
theorem dL_law_39 : decode cL_law 39 = .ok (.iload_n 3, 1) := by decide +kernel
theorem dL_law_40 : decode cL_law 40 = .ok (.bipush 40, 2) := by decide +kernel
theorem dL_law_42 : decode cL_law 42 = .ok (.if_icmp .ge 188, 3) := by decide +kernel
theorem dL_law_45 : decode cL_law 45 = .ok (.iload_n 2, 1) := by decide +kernel
theorem dL_law_46 : decode cL_law 46 = .ok (.ifCond .eq 184, 3) := by decide +kernel
theorem dL_law_49 : decode cL_law 49 = .ok (.aload_n 0, 1) := by decide +kernel
theorem dL_law_50 : decode cL_law 50 = .ok (.iconst 2, 1) := by decide +kernel
theorem dL_law_51 : decode cL_law 51 = .ok (.iload_n 3, 1) := by decide +kernel
theorem dL_law_52 : decode cL_law 52 = .ok (.imul, 1) := by decide +kernel
theorem dL_law_53 : decode cL_law 53 = .ok (.invokestatic 159, 3) := by decide +kernel
theorem dL_law_56 : decode cL_law 56 = .ok (.istore 4, 2) := by decide +kernel
theorem dL_law_58 : decode cL_law 58 = .ok (.aload_n 0, 1) := by decide +kernel
theorem dL_law_59 : decode cL_law 59 = .ok (.iconst 2, 1) := by decide +kernel
theorem dL_law_60 : decode cL_law 60 = .ok (.iload_n 3, 1) := by decide +kernel
theorem dL_law_61 : decode cL_law 61 = .ok (.imul, 1) := by decide +kernel
theorem dL_law_62 : decode cL_law 62 = .ok (.iconst 1, 1) := by decide +kernel
theorem dL_law_63 : decode cL_law 63 = .ok (.iadd, 1) := by decide +kernel
theorem dL_law_64 : decode cL_law 64 = .ok (.invokestatic 159, 3) := by decide +kernel
theorem dL_law_67 : decode cL_law 67 = .ok (.ldc 163, 2) := by decide +kernel
theorem dL_law_69 : decode cL_law 69 = .ok (.invokestatic 144, 3) := by decide +kernel
theorem dL_law_72 : decode cL_law 72 = .ok (.istore 5, 2) := by decide +kernel
theorem dL_law_74 : decode cL_law 74 = .ok (.aload_n 1, 1) := by decide +kernel
theorem dL_law_75 : decode cL_law 75 = .ok (.invokestatic 102, 3) := by decide +kernel
theorem dL_law_78 : decode cL_law 78 = .ok (.lstore 6, 2) := by decide +kernel
theorem dL_law_80 : decode cL_law 80 = .ok (.aload_n 1, 1) := by decide +kernel
theorem dL_law_81 : decode cL_law 81 = .ok (.iload_n 3, 1) := by decide +kernel
theorem dL_law_82 : decode cL_law 82 = .ok (.iconst 3, 1) := by decide +kernel
theorem dL_law_83 : decode cL_law 83 = .ok (.if_icmp .ge 7, 3) := by decide +kernel
theorem dL_law_86 : decode cL_law 86 = .ok (.iconst 0, 1) := by decide +kernel
theorem dL_law_87 : decode cL_law 87 = .ok (.goto 5, 3) := by decide +kernel
theorem dL_law_90 : decode cL_law 90 = .ok (.iload 4, 2) := by decide +kernel
theorem dL_law_92 : decode cL_law 92 = .ok (.iload 5, 2) := by decide +kernel
theorem dL_law_94 : decode cL_law 94 = .ok (.invokestatic 164, 3) := by decide +kernel
theorem dL_law_97 : decode cL_law 97 = .ok (.istore 8, 2) := by decide +kernel
theorem dL_law_99 : decode cL_law 99 = .ok (.iload 8, 2) := by decide +kernel
theorem dL_law_101 : decode cL_law 101 = .ok (.ifCond .ge 17, 3) := by decide +kernel
theorem dL_law_104 : decode cL_law 104 = .ok (.iload 8, 2) := by decide +kernel
theorem dL_law_106 : decode cL_law 106 = .ok (.ldc 20, 2) := by decide +kernel
theorem dL_law_108 : decode cL_law 108 = .ok (.if_icmp .eq 10, 3) := by decide +kernel
theorem dL_law_111 : decode cL_law 111 = .ok (.iload 8, 2) := by decide +kernel
theorem dL_law_113 : decode cL_law 113 = .ok (.ldc 27, 2) := by decide +kernel
theorem dL_law_115 : decode cL_law 115 = .ok (.if_icmp .ne 7, 3) := by decide +kernel
theorem dL_law_118 : decode cL_law 118 = .ok (.iconst 1, 1) := by decide +kernel
theorem dL_law_119 : decode cL_law 119 = .ok (.goto 4, 3) := by decide +kernel
theorem dL_law_122 : decode cL_law 122 = .ok (.iconst 0, 1) := by decide +kernel
theorem dL_law_123 : decode cL_law 123 = .ok (.istore_n 2, 1) := by decide +kernel
theorem dL_law_124 : decode cL_law 124 = .ok (.iload_n 2, 1) := by decide +kernel
theorem dL_law_125 : decode cL_law 125 = .ok (.ifCond .eq 46, 3) := by decide +kernel
theorem dL_law_128 : decode cL_law 128 = .ok (.iload 8, 2) := by decide +kernel
theorem dL_law_130 : decode cL_law 130 = .ok (.ifCond .lt 41, 3) := by decide +kernel
theorem dL_law_133 : decode cL_law 133 = .ok (.iload 4, 2) := by decide +kernel
theorem dL_law_135 : decode cL_law 135 = .ok (.bipush 25, 2) := by decide +kernel
theorem dL_law_137 : decode cL_law 137 = .ok (.ishr, 1) := by decide +kernel
theorem dL_law_138 : decode cL_law 138 = .ok (.iconst 3, 1) := by decide +kernel
theorem dL_law_139 : decode cL_law 139 = .ok (.iand, 1) := by decide +kernel
theorem dL_law_140 : decode cL_law 140 = .ok (.ifCond .ne 31, 3) := by decide +kernel
theorem dL_law_143 : decode cL_law 143 = .ok (.iload_n 3, 1) := by decide +kernel
theorem dL_law_144 : decode cL_law 144 = .ok (.iconst 3, 1) := by decide +kernel
theorem dL_law_145 : decode cL_law 145 = .ok (.if_icmp .le 26, 3) := by decide +kernel
theorem dL_law_148 : decode cL_law 148 = .ok (.aload_n 1, 1) := by decide +kernel
theorem dL_law_149 : decode cL_law 149 = .ok (.invokestatic 142, 3) := by decide +kernel
theorem dL_law_152 : decode cL_law 152 = .ok (.ifCond .lt 17, 3) := by decide +kernel
theorem dL_law_155 : decode cL_law 155 = .ok (.aload_n 1, 1) := by decide +kernel
theorem dL_law_156 : decode cL_law 156 = .ok (.invokestatic 102, 3) := by decide +kernel
theorem dL_law_159 : decode cL_law 159 = .ok (.lload 6, 2) := by decide +kernel
theorem dL_law_161 : decode cL_law 161 = .ok (.lcmp, 1) := by decide +kernel
theorem dL_law_162 : decode cL_law 162 = .ok (.ifCond .ne 7, 3) := by decide +kernel
theorem dL_law_165 : decode cL_law 165 = .ok (.iconst 1, 1) := by decide +kernel
theorem dL_law_166 : decode cL_law 166 = .ok (.goto 4, 3) := by decide +kernel
theorem dL_law_169 : decode cL_law 169 = .ok (.iconst 0, 1) := by decide +kernel
theorem dL_law_170 : decode cL_law 170 = .ok (.istore_n 2, 1) := by decide +kernel
theorem dL_law_171 : decode cL_law 171 = .ok (.iload_n 2, 1) := by decide +kernel
theorem dL_law_172 : decode cL_law 172 = .ok (.ifCond .eq 50, 3) := by decide +kernel
theorem dL_law_175 : decode cL_law 175 = .ok (.aload_n 1, 1) := by decide +kernel
theorem dL_law_176 : decode cL_law 176 = .ok (.invokestatic 156, 3) := by decide +kernel
theorem dL_law_179 : decode cL_law 179 = .ok (.ifCond .eq 43, 3) := by decide +kernel
theorem dL_law_182 : decode cL_law 182 = .ok (.iload_n 3, 1) := by decide +kernel
theorem dL_law_183 : decode cL_law 183 = .ok (.iconst 4, 1) := by decide +kernel
theorem dL_law_184 : decode cL_law 184 = .ok (.irem, 1) := by decide +kernel
theorem dL_law_185 : decode cL_law 185 = .ok (.iconst 2, 1) := by decide +kernel
theorem dL_law_186 : decode cL_law 186 = .ok (.if_icmp .ne 17, 3) := by decide +kernel
theorem dL_law_189 : decode cL_law 189 = .ok (.aload_n 1, 1) := by decide +kernel
theorem dL_law_190 : decode cL_law 190 = .ok (.iconst 1, 1) := by decide +kernel
theorem dL_law_191 : decode cL_law 191 = .ok (.iload 5, 2) := by decide +kernel
theorem dL_law_193 : decode cL_law 193 = .ok (.bipush 80, 2) := by decide +kernel
theorem dL_law_195 : decode cL_law 195 = .ok (.irem, 1) := by decide +kernel
theorem dL_law_196 : decode cL_law 196 = .ok (.iadd, 1) := by decide +kernel
theorem dL_law_197 : decode cL_law 197 = .ok (.invokestatic 167, 3) := by decide +kernel
theorem dL_law_200 : decode cL_law 200 = .ok (.ifCond .eq 22, 3) := by decide +kernel
theorem dL_law_203 : decode cL_law 203 = .ok (.iload_n 3, 1) := by decide +kernel
theorem dL_law_204 : decode cL_law 204 = .ok (.bipush 7, 2) := by decide +kernel
theorem dL_law_206 : decode cL_law 206 = .ok (.irem, 1) := by decide +kernel
theorem dL_law_207 : decode cL_law 207 = .ok (.iconst 5, 1) := by decide +kernel
theorem dL_law_208 : decode cL_law 208 = .ok (.if_icmp .ne 10, 3) := by decide +kernel
theorem dL_law_211 : decode cL_law 211 = .ok (.aload_n 1, 1) := by decide +kernel
theorem dL_law_212 : decode cL_law 212 = .ok (.invokestatic 152, 3) := by decide +kernel
theorem dL_law_215 : decode cL_law 215 = .ok (.ifCond .eq 7, 3) := by decide +kernel
theorem dL_law_218 : decode cL_law 218 = .ok (.iconst 1, 1) := by decide +kernel
theorem dL_law_219 : decode cL_law 219 = .ok (.goto 4, 3) := by decide +kernel
theorem dL_law_222 : decode cL_law 222 = .ok (.iconst 0, 1) := by decide +kernel
theorem dL_law_223 : decode cL_law 223 = .ok (.istore_n 2, 1) := by decide +kernel
theorem dL_law_224 : decode cL_law 224 = .ok (.iinc 3 1, 3) := by decide +kernel
theorem dL_law_227 : decode cL_law 227 = .ok (.goto (-188), 3) := by decide +kernel
theorem dL_law_230 : decode cL_law 230 = .ok (.iload_n 2, 1) := by decide +kernel
theorem dL_law_231 : decode cL_law 231 = .ok (.ifCond .eq 14, 3) := by decide +kernel
theorem dL_law_234 : decode cL_law 234 = .ok (.aload_n 1, 1) := by decide +kernel
theorem dL_law_235 : decode cL_law 235 = .ok (.invokestatic 152, 3) := by decide +kernel
theorem dL_law_238 : decode cL_law 238 = .ok (.ifCond .eq 7, 3) := by decide +kernel
theorem dL_law_241 : decode cL_law 241 = .ok (.iconst 1, 1) := by decide +kernel
theorem dL_law_242 : decode cL_law 242 = .ok (.goto 4, 3) := by decide +kernel
theorem dL_law_245 : decode cL_law 245 = .ok (.iconst 0, 1) := by decide +kernel
theorem dL_law_246 : decode cL_law 246 = .ok (.ireturn, 1) := by decide +kernel
