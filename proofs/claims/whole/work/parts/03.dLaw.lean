-- decode rows of Law
theorem d_Law_size_0 : decode b_Law_size 0 = .ok (.aload_n 0, 1) := by decide +kernel
theorem d_Law_size_1 : decode b_Law_size 1 = .ok (.iload_n 1, 1) := by decide +kernel
theorem d_Law_size_2 : decode b_Law_size 2 = .ok (.invokevirtual 7, 3) := by decide +kernel
theorem d_Law_size_5 : decode b_Law_size 5 = .ok (.goto 6, 3) := by decide +kernel
theorem d_Law_size_8 : decode b_Law_size 8 = .ok (.astore_n 2, 1) := by decide +kernel
theorem d_Law_size_9 : decode b_Law_size 9 = .ok (.iconst 1, 1) := by decide +kernel
theorem d_Law_size_10 : decode b_Law_size 10 = .ok (.ireturn, 1) := by decide +kernel
theorem d_Law_size_11 : decode b_Law_size 11 = .ok (.iconst 0, 1) := by decide +kernel
theorem d_Law_size_12 : decode b_Law_size 12 = .ok (.ireturn, 1) := by decide +kernel
theorem d_Law_put_0 : decode b_Law_put 0 = .ok (.aload 5, 2) := by decide +kernel
theorem d_Law_put_2 : decode b_Law_put 2 = .ok (.iconst 0, 1) := by decide +kernel
theorem d_Law_put_3 : decode b_Law_put 3 = .ok (.aload_n 0, 1) := by decide +kernel
theorem d_Law_put_4 : decode b_Law_put 4 = .ok (.iload_n 1, 1) := by decide +kernel
theorem d_Law_put_5 : decode b_Law_put 5 = .ok (.iload_n 2, 1) := by decide +kernel
theorem d_Law_put_6 : decode b_Law_put 6 = .ok (.lload_n 3, 1) := by decide +kernel
theorem d_Law_put_7 : decode b_Law_put 7 = .ok (.invokevirtual 15, 3) := by decide +kernel
theorem d_Law_put_10 : decode b_Law_put 10 = .ok (.lastore, 1) := by decide +kernel
theorem d_Law_put_11 : decode b_Law_put 11 = .ok (.goto 7, 3) := by decide +kernel
theorem d_Law_put_14 : decode b_Law_put 14 = .ok (.astore 6, 2) := by decide +kernel
theorem d_Law_put_16 : decode b_Law_put 16 = .ok (.iconst 1, 1) := by decide +kernel
theorem d_Law_put_17 : decode b_Law_put 17 = .ok (.ireturn, 1) := by decide +kernel
theorem d_Law_put_18 : decode b_Law_put 18 = .ok (.iconst 0, 1) := by decide +kernel
theorem d_Law_put_19 : decode b_Law_put 19 = .ok (.ireturn, 1) := by decide +kernel
theorem d_Law_unknown_0 : decode b_Law_unknown 0 = .ok (.aload_n 2, 1) := by decide +kernel
theorem d_Law_unknown_1 : decode b_Law_unknown 1 = .ok (.iconst 0, 1) := by decide +kernel
theorem d_Law_unknown_2 : decode b_Law_unknown 2 = .ok (.aload_n 0, 1) := by decide +kernel
theorem d_Law_unknown_3 : decode b_Law_unknown 3 = .ok (.iload_n 1, 1) := by decide +kernel
theorem d_Law_unknown_4 : decode b_Law_unknown 4 = .ok (.invokevirtual 21, 3) := by decide +kernel
theorem d_Law_unknown_7 : decode b_Law_unknown 7 = .ok (.i2l, 1) := by decide +kernel
theorem d_Law_unknown_8 : decode b_Law_unknown 8 = .ok (.lastore, 1) := by decide +kernel
theorem d_Law_unknown_9 : decode b_Law_unknown 9 = .ok (.goto 9, 3) := by decide +kernel
theorem d_Law_unknown_12 : decode b_Law_unknown 12 = .ok (.astore_n 3, 1) := by decide +kernel
theorem d_Law_unknown_13 : decode b_Law_unknown 13 = .ok (.iconst 1, 1) := by decide +kernel
theorem d_Law_unknown_14 : decode b_Law_unknown 14 = .ok (.ireturn, 1) := by decide +kernel
theorem d_Law_unknown_15 : decode b_Law_unknown 15 = .ok (.astore_n 3, 1) := by decide +kernel
theorem d_Law_unknown_16 : decode b_Law_unknown 16 = .ok (.iconst 2, 1) := by decide +kernel
theorem d_Law_unknown_17 : decode b_Law_unknown 17 = .ok (.ireturn, 1) := by decide +kernel
theorem d_Law_unknown_18 : decode b_Law_unknown 18 = .ok (.iconst 0, 1) := by decide +kernel
theorem d_Law_unknown_19 : decode b_Law_unknown 19 = .ok (.ireturn, 1) := by decide +kernel
theorem d_Law_determinant_0 : decode b_Law_determinant 0 = .ok (.aload_n 1, 1) := by decide +kernel
theorem d_Law_determinant_1 : decode b_Law_determinant 1 = .ok (.iconst 0, 1) := by decide +kernel
theorem d_Law_determinant_2 : decode b_Law_determinant 2 = .ok (.aload_n 0, 1) := by decide +kernel
theorem d_Law_determinant_3 : decode b_Law_determinant 3 = .ok (.invokevirtual 27, 3) := by decide +kernel
theorem d_Law_determinant_6 : decode b_Law_determinant 6 = .ok (.i2l, 1) := by decide +kernel
theorem d_Law_determinant_7 : decode b_Law_determinant 7 = .ok (.lastore, 1) := by decide +kernel
theorem d_Law_determinant_8 : decode b_Law_determinant 8 = .ok (.goto 6, 3) := by decide +kernel
theorem d_Law_determinant_11 : decode b_Law_determinant 11 = .ok (.astore_n 2, 1) := by decide +kernel
theorem d_Law_determinant_12 : decode b_Law_determinant 12 = .ok (.iconst 1, 1) := by decide +kernel
theorem d_Law_determinant_13 : decode b_Law_determinant 13 = .ok (.ireturn, 1) := by decide +kernel
theorem d_Law_determinant_14 : decode b_Law_determinant 14 = .ok (.iconst 0, 1) := by decide +kernel
theorem d_Law_determinant_15 : decode b_Law_determinant 15 = .ok (.ireturn, 1) := by decide +kernel
theorem d_Law_compare_0 : decode b_Law_compare 0 = .ok (.aload_n 3, 1) := by decide +kernel
theorem d_Law_compare_1 : decode b_Law_compare 1 = .ok (.iconst 0, 1) := by decide +kernel
theorem d_Law_compare_2 : decode b_Law_compare 2 = .ok (.aload_n 0, 1) := by decide +kernel
theorem d_Law_compare_3 : decode b_Law_compare 3 = .ok (.iload_n 1, 1) := by decide +kernel
theorem d_Law_compare_4 : decode b_Law_compare 4 = .ok (.iload_n 2, 1) := by decide +kernel
theorem d_Law_compare_5 : decode b_Law_compare 5 = .ok (.invokevirtual 31, 3) := by decide +kernel
theorem d_Law_compare_8 : decode b_Law_compare 8 = .ok (.i2l, 1) := by decide +kernel
theorem d_Law_compare_9 : decode b_Law_compare 9 = .ok (.lastore, 1) := by decide +kernel
theorem d_Law_compare_10 : decode b_Law_compare 10 = .ok (.goto 11, 3) := by decide +kernel
theorem d_Law_compare_13 : decode b_Law_compare 13 = .ok (.astore 4, 2) := by decide +kernel
theorem d_Law_compare_15 : decode b_Law_compare 15 = .ok (.iconst 1, 1) := by decide +kernel
theorem d_Law_compare_16 : decode b_Law_compare 16 = .ok (.ireturn, 1) := by decide +kernel
theorem d_Law_compare_17 : decode b_Law_compare 17 = .ok (.astore 4, 2) := by decide +kernel
theorem d_Law_compare_19 : decode b_Law_compare 19 = .ok (.iconst 2, 1) := by decide +kernel
theorem d_Law_compare_20 : decode b_Law_compare 20 = .ok (.ireturn, 1) := by decide +kernel
theorem d_Law_compare_21 : decode b_Law_compare 21 = .ok (.iconst 0, 1) := by decide +kernel
theorem d_Law_compare_22 : decode b_Law_compare 22 = .ok (.ireturn, 1) := by decide +kernel
theorem d_Law_part_0 : decode b_Law_part 0 = .ok (.aload_n 3, 1) := by decide +kernel
theorem d_Law_part_1 : decode b_Law_part 1 = .ok (.iconst 0, 1) := by decide +kernel
theorem d_Law_part_2 : decode b_Law_part 2 = .ok (.aload_n 0, 1) := by decide +kernel
theorem d_Law_part_3 : decode b_Law_part 3 = .ok (.iload_n 1, 1) := by decide +kernel
theorem d_Law_part_4 : decode b_Law_part 4 = .ok (.iload_n 2, 1) := by decide +kernel
theorem d_Law_part_5 : decode b_Law_part 5 = .ok (.invokevirtual 35, 3) := by decide +kernel
theorem d_Law_part_8 : decode b_Law_part 8 = .ok (.i2l, 1) := by decide +kernel
theorem d_Law_part_9 : decode b_Law_part 9 = .ok (.lastore, 1) := by decide +kernel
theorem d_Law_part_10 : decode b_Law_part 10 = .ok (.goto 7, 3) := by decide +kernel
theorem d_Law_part_13 : decode b_Law_part 13 = .ok (.astore 4, 2) := by decide +kernel
theorem d_Law_part_15 : decode b_Law_part 15 = .ok (.iconst 1, 1) := by decide +kernel
theorem d_Law_part_16 : decode b_Law_part 16 = .ok (.ireturn, 1) := by decide +kernel
theorem d_Law_part_17 : decode b_Law_part 17 = .ok (.iconst 0, 1) := by decide +kernel
theorem d_Law_part_18 : decode b_Law_part 18 = .ok (.ireturn, 1) := by decide +kernel
theorem d_Law_law_0 : decode code 0 = .ok (.new 8, 3) := by decide +kernel
theorem d_Law_law_3 : decode code 3 = .ok (.dup, 1) := by decide +kernel
theorem d_Law_law_4 : decode code 4 = .ok (.invokespecial 39, 3) := by decide +kernel
theorem d_Law_law_7 : decode code 7 = .ok (.astore_n 1, 1) := by decide +kernel
theorem d_Law_law_8 : decode code 8 = .ok (.new 40, 3) := by decide +kernel
theorem d_Law_law_11 : decode code 11 = .ok (.dup, 1) := by decide +kernel
theorem d_Law_law_12 : decode code 12 = .ok (.invokespecial 42, 3) := by decide +kernel
theorem d_Law_law_15 : decode code 15 = .ok (.astore_n 2, 1) := by decide +kernel
theorem d_Law_law_16 : decode code 16 = .ok (.iconst 1, 1) := by decide +kernel
theorem d_Law_law_17 : decode code 17 = .ok (.newarray .long, 2) := by decide +kernel
theorem d_Law_law_19 : decode code 19 = .ok (.astore_n 3, 1) := by decide +kernel
theorem d_Law_law_20 : decode code 20 = .ok (.iconst 0, 1) := by decide +kernel
theorem d_Law_law_21 : decode code 21 = .ok (.istore 4, 2) := by decide +kernel
theorem d_Law_law_23 : decode code 23 = .ok (.iload 4, 2) := by decide +kernel
theorem d_Law_law_25 : decode code 25 = .ok (.aload_n 0, 1) := by decide +kernel
theorem d_Law_law_26 : decode code 26 = .ok (.arraylength, 1) := by decide +kernel
theorem d_Law_law_27 : decode code 27 = .ok (.iconst 5, 1) := by decide +kernel
theorem d_Law_law_28 : decode code 28 = .ok (.isub, 1) := by decide +kernel
theorem d_Law_law_29 : decode code 29 = .ok (.if_icmp .gt 514, 3) := by decide +kernel
theorem d_Law_law_32 : decode code 32 = .ok (.aload_n 0, 1) := by decide +kernel
theorem d_Law_law_33 : decode code 33 = .ok (.iload 4, 2) := by decide +kernel
theorem d_Law_law_35 : decode code 35 = .ok (.iaload, 1) := by decide +kernel
theorem d_Law_law_36 : decode code 36 = .ok (.bipush 7, 2) := by decide +kernel
theorem d_Law_law_38 : decode code 38 = .ok (.iand, 1) := by decide +kernel
theorem d_Law_law_84 : decode code 84 = .ok (.aload_n 1, 1) := by decide +kernel
theorem d_Law_law_85 : decode code 85 = .ok (.aload_n 0, 1) := by decide +kernel
theorem d_Law_law_86 : decode code 86 = .ok (.iload 4, 2) := by decide +kernel
theorem d_Law_law_88 : decode code 88 = .ok (.iconst 1, 1) := by decide +kernel
theorem d_Law_law_89 : decode code 89 = .ok (.iadd, 1) := by decide +kernel
theorem d_Law_law_90 : decode code 90 = .ok (.iaload, 1) := by decide +kernel
theorem d_Law_law_91 : decode code 91 = .ok (.invokestatic 43, 3) := by decide +kernel
theorem d_Law_law_94 : decode code 94 = .ok (.istore 5, 2) := by decide +kernel
theorem d_Law_law_96 : decode code 96 = .ok (.aload_n 2, 1) := by decide +kernel
theorem d_Law_law_97 : decode code 97 = .ok (.aload_n 0, 1) := by decide +kernel
theorem d_Law_law_98 : decode code 98 = .ok (.iload 4, 2) := by decide +kernel
theorem d_Law_law_100 : decode code 100 = .ok (.iconst 1, 1) := by decide +kernel
theorem d_Law_law_101 : decode code 101 = .ok (.iadd, 1) := by decide +kernel
theorem d_Law_law_102 : decode code 102 = .ok (.iaload, 1) := by decide +kernel
theorem d_Law_law_103 : decode code 103 = .ok (.invokevirtual 48, 3) := by decide +kernel
theorem d_Law_law_106 : decode code 106 = .ok (.aload_n 2, 1) := by decide +kernel
theorem d_Law_law_107 : decode code 107 = .ok (.invokevirtual 49, 3) := by decide +kernel
theorem d_Law_law_110 : decode code 110 = .ok (.iload 5, 2) := by decide +kernel
theorem d_Law_law_112 : decode code 112 = .ok (.if_icmp .eq 5, 3) := by decide +kernel
theorem d_Law_law_115 : decode code 115 = .ok (.iconst 0, 1) := by decide +kernel
theorem d_Law_law_116 : decode code 116 = .ok (.ireturn, 1) := by decide +kernel
theorem d_Law_law_117 : decode code 117 = .ok (.goto 420, 3) := by decide +kernel
theorem d_Law_law_120 : decode code 120 = .ok (.aload_n 1, 1) := by decide +kernel
theorem d_Law_law_121 : decode code 121 = .ok (.aload_n 0, 1) := by decide +kernel
theorem d_Law_law_122 : decode code 122 = .ok (.iload 4, 2) := by decide +kernel
theorem d_Law_law_124 : decode code 124 = .ok (.iconst 1, 1) := by decide +kernel
theorem d_Law_law_125 : decode code 125 = .ok (.iadd, 1) := by decide +kernel
theorem d_Law_law_126 : decode code 126 = .ok (.iaload, 1) := by decide +kernel
theorem d_Law_law_127 : decode code 127 = .ok (.aload_n 0, 1) := by decide +kernel
theorem d_Law_law_128 : decode code 128 = .ok (.iload 4, 2) := by decide +kernel
theorem d_Law_law_130 : decode code 130 = .ok (.iconst 2, 1) := by decide +kernel
theorem d_Law_law_131 : decode code 131 = .ok (.iadd, 1) := by decide +kernel
theorem d_Law_law_132 : decode code 132 = .ok (.iaload, 1) := by decide +kernel
theorem d_Law_law_133 : decode code 133 = .ok (.aload_n 0, 1) := by decide +kernel
theorem d_Law_law_134 : decode code 134 = .ok (.iload 4, 2) := by decide +kernel
theorem d_Law_law_136 : decode code 136 = .ok (.iconst 3, 1) := by decide +kernel
theorem d_Law_law_137 : decode code 137 = .ok (.iadd, 1) := by decide +kernel
theorem d_Law_law_138 : decode code 138 = .ok (.iaload, 1) := by decide +kernel
theorem d_Law_law_139 : decode code 139 = .ok (.i2l, 1) := by decide +kernel
theorem d_Law_law_140 : decode code 140 = .ok (.bipush 32, 2) := by decide +kernel
theorem d_Law_law_142 : decode code 142 = .ok (.lshl, 1) := by decide +kernel
theorem d_Law_law_143 : decode code 143 = .ok (.aload_n 0, 1) := by decide +kernel
theorem d_Law_law_144 : decode code 144 = .ok (.iload 4, 2) := by decide +kernel
theorem d_Law_law_146 : decode code 146 = .ok (.iconst 4, 1) := by decide +kernel
theorem d_Law_law_147 : decode code 147 = .ok (.iadd, 1) := by decide +kernel
theorem d_Law_law_148 : decode code 148 = .ok (.iaload, 1) := by decide +kernel
theorem d_Law_law_149 : decode code 149 = .ok (.i2l, 1) := by decide +kernel
theorem d_Law_law_150 : decode code 150 = .ok (.ldc2_w 52, 3) := by decide +kernel
theorem d_Law_law_153 : decode code 153 = .ok (.land, 1) := by decide +kernel
theorem d_Law_law_154 : decode code 154 = .ok (.lor, 1) := by decide +kernel
theorem d_Law_law_155 : decode code 155 = .ok (.aload_n 3, 1) := by decide +kernel
theorem d_Law_law_156 : decode code 156 = .ok (.invokestatic 54, 3) := by decide +kernel
theorem d_Law_law_159 : decode code 159 = .ok (.istore 5, 2) := by decide +kernel
theorem d_Law_law_161 : decode code 161 = .ok (.aload_n 2, 1) := by decide +kernel
theorem d_Law_law_162 : decode code 162 = .ok (.aload_n 0, 1) := by decide +kernel
theorem d_Law_law_163 : decode code 163 = .ok (.iload 4, 2) := by decide +kernel
theorem d_Law_law_165 : decode code 165 = .ok (.iconst 1, 1) := by decide +kernel
theorem d_Law_law_166 : decode code 166 = .ok (.iadd, 1) := by decide +kernel
theorem d_Law_law_167 : decode code 167 = .ok (.iaload, 1) := by decide +kernel
theorem d_Law_law_168 : decode code 168 = .ok (.aload_n 0, 1) := by decide +kernel
theorem d_Law_law_169 : decode code 169 = .ok (.iload 4, 2) := by decide +kernel
theorem d_Law_law_171 : decode code 171 = .ok (.iconst 2, 1) := by decide +kernel
theorem d_Law_law_172 : decode code 172 = .ok (.iadd, 1) := by decide +kernel
theorem d_Law_law_173 : decode code 173 = .ok (.iaload, 1) := by decide +kernel
theorem d_Law_law_174 : decode code 174 = .ok (.aload_n 0, 1) := by decide +kernel
theorem d_Law_law_175 : decode code 175 = .ok (.iload 4, 2) := by decide +kernel
theorem d_Law_law_177 : decode code 177 = .ok (.iconst 3, 1) := by decide +kernel
theorem d_Law_law_178 : decode code 178 = .ok (.iadd, 1) := by decide +kernel
theorem d_Law_law_179 : decode code 179 = .ok (.iaload, 1) := by decide +kernel
theorem d_Law_law_180 : decode code 180 = .ok (.i2l, 1) := by decide +kernel
theorem d_Law_law_181 : decode code 181 = .ok (.bipush 32, 2) := by decide +kernel
theorem d_Law_law_183 : decode code 183 = .ok (.lshl, 1) := by decide +kernel
theorem d_Law_law_184 : decode code 184 = .ok (.aload_n 0, 1) := by decide +kernel
theorem d_Law_law_185 : decode code 185 = .ok (.iload 4, 2) := by decide +kernel
theorem d_Law_law_187 : decode code 187 = .ok (.iconst 4, 1) := by decide +kernel
theorem d_Law_law_188 : decode code 188 = .ok (.iadd, 1) := by decide +kernel
theorem d_Law_law_189 : decode code 189 = .ok (.iaload, 1) := by decide +kernel
theorem d_Law_law_190 : decode code 190 = .ok (.i2l, 1) := by decide +kernel
theorem d_Law_law_191 : decode code 191 = .ok (.ldc2_w 52, 3) := by decide +kernel
theorem d_Law_law_194 : decode code 194 = .ok (.land, 1) := by decide +kernel
theorem d_Law_law_195 : decode code 195 = .ok (.lor, 1) := by decide +kernel
theorem d_Law_law_196 : decode code 196 = .ok (.invokevirtual 57, 3) := by decide +kernel
theorem d_Law_law_199 : decode code 199 = .ok (.lstore 6, 2) := by decide +kernel
theorem d_Law_law_201 : decode code 201 = .ok (.aload_n 2, 1) := by decide +kernel
theorem d_Law_law_202 : decode code 202 = .ok (.invokevirtual 49, 3) := by decide +kernel
theorem d_Law_law_205 : decode code 205 = .ok (.iload 5, 2) := by decide +kernel
theorem d_Law_law_207 : decode code 207 = .ok (.if_icmp .eq 5, 3) := by decide +kernel
theorem d_Law_law_210 : decode code 210 = .ok (.iconst 0, 1) := by decide +kernel
theorem d_Law_law_211 : decode code 211 = .ok (.ireturn, 1) := by decide +kernel
theorem d_Law_law_212 : decode code 212 = .ok (.iload 5, 2) := by decide +kernel
theorem d_Law_law_214 : decode code 214 = .ok (.ifCond .ne 14, 3) := by decide +kernel
theorem d_Law_law_217 : decode code 217 = .ok (.aload_n 3, 1) := by decide +kernel
theorem d_Law_law_218 : decode code 218 = .ok (.iconst 0, 1) := by decide +kernel
theorem d_Law_law_219 : decode code 219 = .ok (.laload, 1) := by decide +kernel
theorem d_Law_law_220 : decode code 220 = .ok (.lload 6, 2) := by decide +kernel
theorem d_Law_law_222 : decode code 222 = .ok (.lcmp, 1) := by decide +kernel
theorem d_Law_law_223 : decode code 223 = .ok (.ifCond .eq 5, 3) := by decide +kernel
theorem d_Law_law_226 : decode code 226 = .ok (.iconst 0, 1) := by decide +kernel
theorem d_Law_law_227 : decode code 227 = .ok (.ireturn, 1) := by decide +kernel
theorem d_Law_law_228 : decode code 228 = .ok (.goto 309, 3) := by decide +kernel
theorem d_Law_law_231 : decode code 231 = .ok (.aload_n 1, 1) := by decide +kernel
theorem d_Law_law_232 : decode code 232 = .ok (.invokevirtual 58, 3) := by decide +kernel
theorem d_Law_law_235 : decode code 235 = .ok (.aload_n 2, 1) := by decide +kernel
theorem d_Law_law_236 : decode code 236 = .ok (.invokevirtual 62, 3) := by decide +kernel
theorem d_Law_law_239 : decode code 239 = .ok (.if_icmp .eq 298, 3) := by decide +kernel
theorem d_Law_law_242 : decode code 242 = .ok (.iconst 0, 1) := by decide +kernel
theorem d_Law_law_243 : decode code 243 = .ok (.ireturn, 1) := by decide +kernel
theorem d_Law_law_244 : decode code 244 = .ok (.aload_n 1, 1) := by decide +kernel
theorem d_Law_law_245 : decode code 245 = .ok (.aload_n 0, 1) := by decide +kernel
theorem d_Law_law_246 : decode code 246 = .ok (.iload 4, 2) := by decide +kernel
theorem d_Law_law_248 : decode code 248 = .ok (.iconst 1, 1) := by decide +kernel
theorem d_Law_law_249 : decode code 249 = .ok (.iadd, 1) := by decide +kernel
theorem d_Law_law_250 : decode code 250 = .ok (.iaload, 1) := by decide +kernel
theorem d_Law_law_251 : decode code 251 = .ok (.aload_n 3, 1) := by decide +kernel
theorem d_Law_law_252 : decode code 252 = .ok (.invokestatic 63, 3) := by decide +kernel
theorem d_Law_law_255 : decode code 255 = .ok (.istore 5, 2) := by decide +kernel
theorem d_Law_law_257 : decode code 257 = .ok (.aload_n 2, 1) := by decide +kernel
theorem d_Law_law_258 : decode code 258 = .ok (.aload_n 0, 1) := by decide +kernel
theorem d_Law_law_259 : decode code 259 = .ok (.iload 4, 2) := by decide +kernel
theorem d_Law_law_261 : decode code 261 = .ok (.iconst 1, 1) := by decide +kernel
theorem d_Law_law_262 : decode code 262 = .ok (.iadd, 1) := by decide +kernel
theorem d_Law_law_263 : decode code 263 = .ok (.iaload, 1) := by decide +kernel
theorem d_Law_law_264 : decode code 264 = .ok (.invokevirtual 66, 3) := by decide +kernel
theorem d_Law_law_267 : decode code 267 = .ok (.istore 6, 2) := by decide +kernel
theorem d_Law_law_269 : decode code 269 = .ok (.aload_n 2, 1) := by decide +kernel
theorem d_Law_law_270 : decode code 270 = .ok (.invokevirtual 49, 3) := by decide +kernel
theorem d_Law_law_273 : decode code 273 = .ok (.iload 5, 2) := by decide +kernel
theorem d_Law_law_275 : decode code 275 = .ok (.if_icmp .eq 5, 3) := by decide +kernel
theorem d_Law_law_278 : decode code 278 = .ok (.iconst 0, 1) := by decide +kernel
theorem d_Law_law_279 : decode code 279 = .ok (.ireturn, 1) := by decide +kernel
theorem d_Law_law_280 : decode code 280 = .ok (.iload 5, 2) := by decide +kernel
theorem d_Law_law_282 : decode code 282 = .ok (.ifCond .ne 15, 3) := by decide +kernel
theorem d_Law_law_285 : decode code 285 = .ok (.aload_n 3, 1) := by decide +kernel
theorem d_Law_law_286 : decode code 286 = .ok (.iconst 0, 1) := by decide +kernel
theorem d_Law_law_287 : decode code 287 = .ok (.laload, 1) := by decide +kernel
theorem d_Law_law_288 : decode code 288 = .ok (.iload 6, 2) := by decide +kernel
theorem d_Law_law_290 : decode code 290 = .ok (.i2l, 1) := by decide +kernel
theorem d_Law_law_291 : decode code 291 = .ok (.lcmp, 1) := by decide +kernel
theorem d_Law_law_292 : decode code 292 = .ok (.ifCond .eq 5, 3) := by decide +kernel
theorem d_Law_law_295 : decode code 295 = .ok (.iconst 0, 1) := by decide +kernel
theorem d_Law_law_296 : decode code 296 = .ok (.ireturn, 1) := by decide +kernel
theorem d_Law_law_297 : decode code 297 = .ok (.goto 240, 3) := by decide +kernel
theorem d_Law_law_300 : decode code 300 = .ok (.aload_n 1, 1) := by decide +kernel
theorem d_Law_law_301 : decode code 301 = .ok (.aload_n 3, 1) := by decide +kernel
theorem d_Law_law_302 : decode code 302 = .ok (.invokestatic 67, 3) := by decide +kernel
theorem d_Law_law_305 : decode code 305 = .ok (.istore 5, 2) := by decide +kernel
theorem d_Law_law_307 : decode code 307 = .ok (.aload_n 2, 1) := by decide +kernel
theorem d_Law_law_308 : decode code 308 = .ok (.invokevirtual 70, 3) := by decide +kernel
theorem d_Law_law_311 : decode code 311 = .ok (.istore 6, 2) := by decide +kernel
theorem d_Law_law_313 : decode code 313 = .ok (.aload_n 2, 1) := by decide +kernel
theorem d_Law_law_314 : decode code 314 = .ok (.invokevirtual 49, 3) := by decide +kernel
theorem d_Law_law_317 : decode code 317 = .ok (.iload 5, 2) := by decide +kernel
theorem d_Law_law_319 : decode code 319 = .ok (.if_icmp .eq 5, 3) := by decide +kernel
theorem d_Law_law_322 : decode code 322 = .ok (.iconst 0, 1) := by decide +kernel
theorem d_Law_law_323 : decode code 323 = .ok (.ireturn, 1) := by decide +kernel
theorem d_Law_law_324 : decode code 324 = .ok (.iload 5, 2) := by decide +kernel
theorem d_Law_law_326 : decode code 326 = .ok (.ifCond .ne 15, 3) := by decide +kernel
theorem d_Law_law_329 : decode code 329 = .ok (.aload_n 3, 1) := by decide +kernel
theorem d_Law_law_330 : decode code 330 = .ok (.iconst 0, 1) := by decide +kernel
theorem d_Law_law_331 : decode code 331 = .ok (.laload, 1) := by decide +kernel
theorem d_Law_law_332 : decode code 332 = .ok (.iload 6, 2) := by decide +kernel
theorem d_Law_law_334 : decode code 334 = .ok (.i2l, 1) := by decide +kernel
theorem d_Law_law_335 : decode code 335 = .ok (.lcmp, 1) := by decide +kernel
theorem d_Law_law_336 : decode code 336 = .ok (.ifCond .eq 5, 3) := by decide +kernel
theorem d_Law_law_339 : decode code 339 = .ok (.iconst 0, 1) := by decide +kernel
theorem d_Law_law_340 : decode code 340 = .ok (.ireturn, 1) := by decide +kernel
theorem d_Law_law_341 : decode code 341 = .ok (.goto 196, 3) := by decide +kernel
theorem d_Law_law_344 : decode code 344 = .ok (.aload_n 1, 1) := by decide +kernel
theorem d_Law_law_345 : decode code 345 = .ok (.aload_n 0, 1) := by decide +kernel
theorem d_Law_law_346 : decode code 346 = .ok (.iload 4, 2) := by decide +kernel
theorem d_Law_law_348 : decode code 348 = .ok (.iconst 1, 1) := by decide +kernel
theorem d_Law_law_349 : decode code 349 = .ok (.iadd, 1) := by decide +kernel
theorem d_Law_law_350 : decode code 350 = .ok (.iaload, 1) := by decide +kernel
theorem d_Law_law_351 : decode code 351 = .ok (.aload_n 0, 1) := by decide +kernel
theorem d_Law_law_352 : decode code 352 = .ok (.iload 4, 2) := by decide +kernel
theorem d_Law_law_354 : decode code 354 = .ok (.iconst 2, 1) := by decide +kernel
theorem d_Law_law_355 : decode code 355 = .ok (.iadd, 1) := by decide +kernel
theorem d_Law_law_356 : decode code 356 = .ok (.iaload, 1) := by decide +kernel
theorem d_Law_law_357 : decode code 357 = .ok (.aload_n 3, 1) := by decide +kernel
theorem d_Law_law_358 : decode code 358 = .ok (.invokestatic 71, 3) := by decide +kernel
theorem d_Law_law_361 : decode code 361 = .ok (.istore 5, 2) := by decide +kernel
theorem d_Law_law_363 : decode code 363 = .ok (.aload_n 2, 1) := by decide +kernel
theorem d_Law_law_364 : decode code 364 = .ok (.aload_n 0, 1) := by decide +kernel
theorem d_Law_law_365 : decode code 365 = .ok (.iload 4, 2) := by decide +kernel
theorem d_Law_law_367 : decode code 367 = .ok (.iconst 1, 1) := by decide +kernel
theorem d_Law_law_368 : decode code 368 = .ok (.iadd, 1) := by decide +kernel
theorem d_Law_law_369 : decode code 369 = .ok (.iaload, 1) := by decide +kernel
theorem d_Law_law_370 : decode code 370 = .ok (.aload_n 0, 1) := by decide +kernel
theorem d_Law_law_371 : decode code 371 = .ok (.iload 4, 2) := by decide +kernel
theorem d_Law_law_373 : decode code 373 = .ok (.iconst 2, 1) := by decide +kernel
theorem d_Law_law_374 : decode code 374 = .ok (.iadd, 1) := by decide +kernel
theorem d_Law_law_375 : decode code 375 = .ok (.iaload, 1) := by decide +kernel
theorem d_Law_law_376 : decode code 376 = .ok (.invokevirtual 74, 3) := by decide +kernel
theorem d_Law_law_379 : decode code 379 = .ok (.istore 6, 2) := by decide +kernel
theorem d_Law_law_381 : decode code 381 = .ok (.aload_n 2, 1) := by decide +kernel
theorem d_Law_law_382 : decode code 382 = .ok (.invokevirtual 49, 3) := by decide +kernel
theorem d_Law_law_385 : decode code 385 = .ok (.iload 5, 2) := by decide +kernel
theorem d_Law_law_387 : decode code 387 = .ok (.if_icmp .eq 5, 3) := by decide +kernel
theorem d_Law_law_390 : decode code 390 = .ok (.iconst 0, 1) := by decide +kernel
theorem d_Law_law_391 : decode code 391 = .ok (.ireturn, 1) := by decide +kernel
theorem d_Law_law_392 : decode code 392 = .ok (.iload 5, 2) := by decide +kernel
theorem d_Law_law_394 : decode code 394 = .ok (.ifCond .ne 15, 3) := by decide +kernel
theorem d_Law_law_397 : decode code 397 = .ok (.aload_n 3, 1) := by decide +kernel
theorem d_Law_law_398 : decode code 398 = .ok (.iconst 0, 1) := by decide +kernel
theorem d_Law_law_399 : decode code 399 = .ok (.laload, 1) := by decide +kernel
theorem d_Law_law_400 : decode code 400 = .ok (.iload 6, 2) := by decide +kernel
theorem d_Law_law_402 : decode code 402 = .ok (.i2l, 1) := by decide +kernel
theorem d_Law_law_403 : decode code 403 = .ok (.lcmp, 1) := by decide +kernel
theorem d_Law_law_404 : decode code 404 = .ok (.ifCond .eq 5, 3) := by decide +kernel
theorem d_Law_law_407 : decode code 407 = .ok (.iconst 0, 1) := by decide +kernel
theorem d_Law_law_408 : decode code 408 = .ok (.ireturn, 1) := by decide +kernel
theorem d_Law_law_409 : decode code 409 = .ok (.goto 128, 3) := by decide +kernel
theorem d_Law_law_412 : decode code 412 = .ok (.aload_n 1, 1) := by decide +kernel
theorem d_Law_law_413 : decode code 413 = .ok (.aload_n 0, 1) := by decide +kernel
theorem d_Law_law_414 : decode code 414 = .ok (.iload 4, 2) := by decide +kernel
theorem d_Law_law_416 : decode code 416 = .ok (.iconst 1, 1) := by decide +kernel
theorem d_Law_law_417 : decode code 417 = .ok (.iadd, 1) := by decide +kernel
theorem d_Law_law_418 : decode code 418 = .ok (.iaload, 1) := by decide +kernel
theorem d_Law_law_419 : decode code 419 = .ok (.ifCond .eq 7, 3) := by decide +kernel
theorem d_Law_law_422 : decode code 422 = .ok (.iconst 1, 1) := by decide +kernel
theorem d_Law_law_423 : decode code 423 = .ok (.goto 4, 3) := by decide +kernel
theorem d_Law_law_426 : decode code 426 = .ok (.iconst 0, 1) := by decide +kernel
theorem d_Law_law_427 : decode code 427 = .ok (.invokevirtual 75, 3) := by decide +kernel
theorem d_Law_law_430 : decode code 430 = .ok (.aload_n 2, 1) := by decide +kernel
theorem d_Law_law_431 : decode code 431 = .ok (.aload_n 0, 1) := by decide +kernel
theorem d_Law_law_432 : decode code 432 = .ok (.iload 4, 2) := by decide +kernel
theorem d_Law_law_434 : decode code 434 = .ok (.iconst 1, 1) := by decide +kernel
theorem d_Law_law_435 : decode code 435 = .ok (.iadd, 1) := by decide +kernel
theorem d_Law_law_436 : decode code 436 = .ok (.iaload, 1) := by decide +kernel
theorem d_Law_law_437 : decode code 437 = .ok (.ifCond .eq 7, 3) := by decide +kernel
theorem d_Law_law_440 : decode code 440 = .ok (.iconst 1, 1) := by decide +kernel
theorem d_Law_law_441 : decode code 441 = .ok (.goto 4, 3) := by decide +kernel
theorem d_Law_law_444 : decode code 444 = .ok (.iconst 0, 1) := by decide +kernel
theorem d_Law_law_445 : decode code 445 = .ok (.invokevirtual 79, 3) := by decide +kernel
theorem d_Law_law_448 : decode code 448 = .ok (.if_icmp .eq 89, 3) := by decide +kernel
theorem d_Law_law_451 : decode code 451 = .ok (.iconst 0, 1) := by decide +kernel
theorem d_Law_law_452 : decode code 452 = .ok (.ireturn, 1) := by decide +kernel
theorem d_Law_law_453 : decode code 453 = .ok (.aload_n 1, 1) := by decide +kernel
theorem d_Law_law_454 : decode code 454 = .ok (.aload_n 0, 1) := by decide +kernel
theorem d_Law_law_455 : decode code 455 = .ok (.iload 4, 2) := by decide +kernel
theorem d_Law_law_457 : decode code 457 = .ok (.iconst 1, 1) := by decide +kernel
theorem d_Law_law_458 : decode code 458 = .ok (.iadd, 1) := by decide +kernel
theorem d_Law_law_459 : decode code 459 = .ok (.iaload, 1) := by decide +kernel
theorem d_Law_law_460 : decode code 460 = .ok (.ifCond .eq 7, 3) := by decide +kernel
theorem d_Law_law_463 : decode code 463 = .ok (.iconst 1, 1) := by decide +kernel
theorem d_Law_law_464 : decode code 464 = .ok (.goto 4, 3) := by decide +kernel
theorem d_Law_law_467 : decode code 467 = .ok (.iconst 0, 1) := by decide +kernel
theorem d_Law_law_468 : decode code 468 = .ok (.aload_n 0, 1) := by decide +kernel
theorem d_Law_law_469 : decode code 469 = .ok (.iload 4, 2) := by decide +kernel
theorem d_Law_law_471 : decode code 471 = .ok (.iconst 2, 1) := by decide +kernel
theorem d_Law_law_472 : decode code 472 = .ok (.iadd, 1) := by decide +kernel
theorem d_Law_law_473 : decode code 473 = .ok (.iaload, 1) := by decide +kernel
theorem d_Law_law_474 : decode code 474 = .ok (.aload_n 3, 1) := by decide +kernel
theorem d_Law_law_475 : decode code 475 = .ok (.invokestatic 80, 3) := by decide +kernel
theorem d_Law_law_478 : decode code 478 = .ok (.istore 5, 2) := by decide +kernel
theorem d_Law_law_480 : decode code 480 = .ok (.aload_n 2, 1) := by decide +kernel
theorem d_Law_law_481 : decode code 481 = .ok (.aload_n 0, 1) := by decide +kernel
theorem d_Law_law_482 : decode code 482 = .ok (.iload 4, 2) := by decide +kernel
theorem d_Law_law_484 : decode code 484 = .ok (.iconst 1, 1) := by decide +kernel
theorem d_Law_law_485 : decode code 485 = .ok (.iadd, 1) := by decide +kernel
theorem d_Law_law_486 : decode code 486 = .ok (.iaload, 1) := by decide +kernel
theorem d_Law_law_487 : decode code 487 = .ok (.ifCond .eq 7, 3) := by decide +kernel
theorem d_Law_law_490 : decode code 490 = .ok (.iconst 1, 1) := by decide +kernel
theorem d_Law_law_491 : decode code 491 = .ok (.goto 4, 3) := by decide +kernel
theorem d_Law_law_494 : decode code 494 = .ok (.iconst 0, 1) := by decide +kernel
theorem d_Law_law_495 : decode code 495 = .ok (.aload_n 0, 1) := by decide +kernel
theorem d_Law_law_496 : decode code 496 = .ok (.iload 4, 2) := by decide +kernel
theorem d_Law_law_498 : decode code 498 = .ok (.iconst 2, 1) := by decide +kernel
theorem d_Law_law_499 : decode code 499 = .ok (.iadd, 1) := by decide +kernel
theorem d_Law_law_500 : decode code 500 = .ok (.iaload, 1) := by decide +kernel
theorem d_Law_law_501 : decode code 501 = .ok (.invokevirtual 83, 3) := by decide +kernel
theorem d_Law_law_504 : decode code 504 = .ok (.istore 6, 2) := by decide +kernel
theorem d_Law_law_506 : decode code 506 = .ok (.aload_n 2, 1) := by decide +kernel
theorem d_Law_law_507 : decode code 507 = .ok (.invokevirtual 49, 3) := by decide +kernel
theorem d_Law_law_510 : decode code 510 = .ok (.iload 5, 2) := by decide +kernel
theorem d_Law_law_512 : decode code 512 = .ok (.if_icmp .eq 5, 3) := by decide +kernel
theorem d_Law_law_515 : decode code 515 = .ok (.iconst 0, 1) := by decide +kernel
theorem d_Law_law_516 : decode code 516 = .ok (.ireturn, 1) := by decide +kernel
theorem d_Law_law_517 : decode code 517 = .ok (.iload 5, 2) := by decide +kernel
theorem d_Law_law_519 : decode code 519 = .ok (.ifCond .ne 15, 3) := by decide +kernel
theorem d_Law_law_522 : decode code 522 = .ok (.aload_n 3, 1) := by decide +kernel
theorem d_Law_law_523 : decode code 523 = .ok (.iconst 0, 1) := by decide +kernel
theorem d_Law_law_524 : decode code 524 = .ok (.laload, 1) := by decide +kernel
theorem d_Law_law_525 : decode code 525 = .ok (.iload 6, 2) := by decide +kernel
theorem d_Law_law_527 : decode code 527 = .ok (.i2l, 1) := by decide +kernel
theorem d_Law_law_528 : decode code 528 = .ok (.lcmp, 1) := by decide +kernel
theorem d_Law_law_529 : decode code 529 = .ok (.ifCond .eq 5, 3) := by decide +kernel
theorem d_Law_law_532 : decode code 532 = .ok (.iconst 0, 1) := by decide +kernel
theorem d_Law_law_533 : decode code 533 = .ok (.ireturn, 1) := by decide +kernel
theorem d_Law_law_534 : decode code 534 = .ok (.goto 3, 3) := by decide +kernel
theorem d_Law_law_537 : decode code 537 = .ok (.iinc 4 5, 3) := by decide +kernel
theorem d_Law_law_540 : decode code 540 = .ok (.goto (-517), 3) := by decide +kernel
theorem d_Law_law_543 : decode code 543 = .ok (.iconst 1, 1) := by decide +kernel
theorem d_Law_law_544 : decode code 544 = .ok (.ireturn, 1) := by decide +kernel
