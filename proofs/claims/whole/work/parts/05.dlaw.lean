theorem dLW_make_0 : decode cLW_make 0 = .ok (.aload_n 2, 1) := by decide +kernel
theorem dLW_make_1 : decode cLW_make 1 = .ok (.iconst 0, 1) := by decide +kernel
theorem dLW_make_2 : decode cLW_make 2 = .ok (.aload_n 0, 1) := by decide +kernel
theorem dLW_make_3 : decode cLW_make 3 = .ok (.iload_n 1, 1) := by decide +kernel
theorem dLW_make_4 : decode cLW_make 4 = .ok (.invokevirtual 7, 3) := by decide +kernel
theorem dLW_make_7 : decode cLW_make 7 = .ok (.i2l, 1) := by decide +kernel
theorem dLW_make_8 : decode cLW_make 8 = .ok (.lastore, 1) := by decide +kernel
theorem dLW_make_9 : decode cLW_make 9 = .ok (.goto 9, 3) := by decide +kernel
theorem dLW_make_12 : decode cLW_make 12 = .ok (.astore_n 3, 1) := by decide +kernel
theorem dLW_make_13 : decode cLW_make 13 = .ok (.iconst 1, 1) := by decide +kernel
theorem dLW_make_14 : decode cLW_make 14 = .ok (.ireturn, 1) := by decide +kernel
theorem dLW_make_15 : decode cLW_make 15 = .ok (.astore_n 3, 1) := by decide +kernel
theorem dLW_make_16 : decode cLW_make 16 = .ok (.iconst 2, 1) := by decide +kernel
theorem dLW_make_17 : decode cLW_make 17 = .ok (.ireturn, 1) := by decide +kernel
theorem dLW_make_18 : decode cLW_make 18 = .ok (.iconst 0, 1) := by decide +kernel
theorem dLW_make_19 : decode cLW_make 19 = .ok (.ireturn, 1) := by decide +kernel
theorem dLW_told_0 : decode cLW_told 0 = .ok (.aload_n 2, 1) := by decide +kernel
theorem dLW_told_1 : decode cLW_told 1 = .ok (.iconst 0, 1) := by decide +kernel
theorem dLW_told_2 : decode cLW_told 2 = .ok (.aload_n 0, 1) := by decide +kernel
theorem dLW_told_3 : decode cLW_told 3 = .ok (.iload_n 1, 1) := by decide +kernel
theorem dLW_told_4 : decode cLW_told 4 = .ok (.invokevirtual 17, 3) := by decide +kernel
theorem dLW_told_7 : decode cLW_told 7 = .ok (.lastore, 1) := by decide +kernel
theorem dLW_told_8 : decode cLW_told 8 = .ok (.goto 6, 3) := by decide +kernel
theorem dLW_told_11 : decode cLW_told 11 = .ok (.astore_n 3, 1) := by decide +kernel
theorem dLW_told_12 : decode cLW_told 12 = .ok (.iconst 1, 1) := by decide +kernel
theorem dLW_told_13 : decode cLW_told 13 = .ok (.ireturn, 1) := by decide +kernel
theorem dLW_told_14 : decode cLW_told 14 = .ok (.iconst 0, 1) := by decide +kernel
theorem dLW_told_15 : decode cLW_told 15 = .ok (.ireturn, 1) := by decide +kernel
theorem dLW_number_0 : decode cLW_number 0 = .ok (.aload_n 3, 1) := by decide +kernel
theorem dLW_number_1 : decode cLW_number 1 = .ok (.iconst 0, 1) := by decide +kernel
theorem dLW_number_2 : decode cLW_number 2 = .ok (.aload_n 0, 1) := by decide +kernel
theorem dLW_number_3 : decode cLW_number 3 = .ok (.iload_n 1, 1) := by decide +kernel
theorem dLW_number_4 : decode cLW_number 4 = .ok (.iload_n 2, 1) := by decide +kernel
theorem dLW_number_5 : decode cLW_number 5 = .ok (.invokevirtual 23, 3) := by decide +kernel
theorem dLW_number_8 : decode cLW_number 8 = .ok (.i2l, 1) := by decide +kernel
theorem dLW_number_9 : decode cLW_number 9 = .ok (.lastore, 1) := by decide +kernel
theorem dLW_number_10 : decode cLW_number 10 = .ok (.goto 7, 3) := by decide +kernel
theorem dLW_number_13 : decode cLW_number 13 = .ok (.astore 4, 2) := by decide +kernel
theorem dLW_number_15 : decode cLW_number 15 = .ok (.iconst 1, 1) := by decide +kernel
theorem dLW_number_16 : decode cLW_number 16 = .ok (.ireturn, 1) := by decide +kernel
theorem dLW_number_17 : decode cLW_number 17 = .ok (.iconst 0, 1) := by decide +kernel
theorem dLW_number_18 : decode cLW_number 18 = .ok (.ireturn, 1) := by decide +kernel
theorem dLW_collected_0 : decode cLW_collected 0 = .ok (.aload_n 3, 1) := by decide +kernel
theorem dLW_collected_1 : decode cLW_collected 1 = .ok (.iconst 0, 1) := by decide +kernel
theorem dLW_collected_2 : decode cLW_collected 2 = .ok (.aload_n 0, 1) := by decide +kernel
theorem dLW_collected_3 : decode cLW_collected 3 = .ok (.iload_n 1, 1) := by decide +kernel
theorem dLW_collected_4 : decode cLW_collected 4 = .ok (.iload_n 2, 1) := by decide +kernel
theorem dLW_collected_5 : decode cLW_collected 5 = .ok (.invokevirtual 27, 3) := by decide +kernel
theorem dLW_collected_8 : decode cLW_collected 8 = .ok (.lastore, 1) := by decide +kernel
theorem dLW_collected_9 : decode cLW_collected 9 = .ok (.goto 7, 3) := by decide +kernel
theorem dLW_collected_12 : decode cLW_collected 12 = .ok (.astore 4, 2) := by decide +kernel
theorem dLW_collected_14 : decode cLW_collected 14 = .ok (.iconst 1, 1) := by decide +kernel
theorem dLW_collected_15 : decode cLW_collected 15 = .ok (.ireturn, 1) := by decide +kernel
theorem dLW_collected_16 : decode cLW_collected 16 = .ok (.iconst 0, 1) := by decide +kernel
theorem dLW_collected_17 : decode cLW_collected 17 = .ok (.ireturn, 1) := by decide +kernel
theorem dLW_log_0 : decode cLW_log 0 = .ok (.aload_n 3, 1) := by decide +kernel
theorem dLW_log_1 : decode cLW_log 1 = .ok (.iconst 0, 1) := by decide +kernel
theorem dLW_log_2 : decode cLW_log 2 = .ok (.aload_n 0, 1) := by decide +kernel
theorem dLW_log_3 : decode cLW_log 3 = .ok (.iload_n 1, 1) := by decide +kernel
theorem dLW_log_4 : decode cLW_log 4 = .ok (.iload_n 2, 1) := by decide +kernel
theorem dLW_log_5 : decode cLW_log 5 = .ok (.invokevirtual 31, 3) := by decide +kernel
theorem dLW_log_8 : decode cLW_log 8 = .ok (.lastore, 1) := by decide +kernel
theorem dLW_log_9 : decode cLW_log 9 = .ok (.goto 7, 3) := by decide +kernel
theorem dLW_log_12 : decode cLW_log 12 = .ok (.astore 4, 2) := by decide +kernel
theorem dLW_log_14 : decode cLW_log 14 = .ok (.iconst 1, 1) := by decide +kernel
theorem dLW_log_15 : decode cLW_log 15 = .ok (.ireturn, 1) := by decide +kernel
theorem dLW_log_16 : decode cLW_log 16 = .ok (.iconst 0, 1) := by decide +kernel
theorem dLW_log_17 : decode cLW_log 17 = .ok (.ireturn, 1) := by decide +kernel
theorem dLW_sum_0 : decode cLW_sum 0 = .ok (.aload_n 3, 1) := by decide +kernel
theorem dLW_sum_1 : decode cLW_sum 1 = .ok (.iconst 0, 1) := by decide +kernel
theorem dLW_sum_2 : decode cLW_sum 2 = .ok (.aload_n 0, 1) := by decide +kernel
theorem dLW_sum_3 : decode cLW_sum 3 = .ok (.iload_n 1, 1) := by decide +kernel
theorem dLW_sum_4 : decode cLW_sum 4 = .ok (.iload_n 2, 1) := by decide +kernel
theorem dLW_sum_5 : decode cLW_sum 5 = .ok (.invokevirtual 34, 3) := by decide +kernel
theorem dLW_sum_8 : decode cLW_sum 8 = .ok (.lastore, 1) := by decide +kernel
theorem dLW_sum_9 : decode cLW_sum 9 = .ok (.goto 7, 3) := by decide +kernel
theorem dLW_sum_12 : decode cLW_sum 12 = .ok (.astore 4, 2) := by decide +kernel
theorem dLW_sum_14 : decode cLW_sum 14 = .ok (.iconst 1, 1) := by decide +kernel
theorem dLW_sum_15 : decode cLW_sum 15 = .ok (.ireturn, 1) := by decide +kernel
theorem dLW_sum_16 : decode cLW_sum 16 = .ok (.iconst 0, 1) := by decide +kernel
theorem dLW_sum_17 : decode cLW_sum 17 = .ok (.ireturn, 1) := by decide +kernel
theorem dLW_law_0 : decode cLW_law 0 = .ok (.new 8, 3) := by decide +kernel
theorem dLW_law_3 : decode cLW_law 3 = .ok (.dup, 1) := by decide +kernel
theorem dLW_law_4 : decode cLW_law 4 = .ok (.invokespecial 37, 3) := by decide +kernel
theorem dLW_law_7 : decode cLW_law 7 = .ok (.astore_n 1, 1) := by decide +kernel
theorem dLW_law_8 : decode cLW_law 8 = .ok (.new 38, 3) := by decide +kernel
theorem dLW_law_11 : decode cLW_law 11 = .ok (.dup, 1) := by decide +kernel
theorem dLW_law_12 : decode cLW_law 12 = .ok (.invokespecial 40, 3) := by decide +kernel
theorem dLW_law_15 : decode cLW_law 15 = .ok (.astore_n 2, 1) := by decide +kernel
theorem dLW_law_16 : decode cLW_law 16 = .ok (.iconst 1, 1) := by decide +kernel
theorem dLW_law_17 : decode cLW_law 17 = .ok (.newarray .long, 2) := by decide +kernel
theorem dLW_law_19 : decode cLW_law 19 = .ok (.astore_n 3, 1) := by decide +kernel
theorem dLW_law_20 : decode cLW_law 20 = .ok (.iconst 0, 1) := by decide +kernel
theorem dLW_law_21 : decode cLW_law 21 = .ok (.istore 4, 2) := by decide +kernel
theorem dLW_law_23 : decode cLW_law 23 = .ok (.iload 4, 2) := by decide +kernel
theorem dLW_law_25 : decode cLW_law 25 = .ok (.aload_n 0, 1) := by decide +kernel
theorem dLW_law_26 : decode cLW_law 26 = .ok (.arraylength, 1) := by decide +kernel
theorem dLW_law_27 : decode cLW_law 27 = .ok (.iconst 5, 1) := by decide +kernel
theorem dLW_law_28 : decode cLW_law 28 = .ok (.isub, 1) := by decide +kernel
theorem dLW_law_29 : decode cLW_law 29 = .ok (.if_icmp .gt 879, 3) := by decide +kernel
theorem dLW_law_32 : decode cLW_law 32 = .ok (.aload_n 0, 1) := by decide +kernel
theorem dLW_law_33 : decode cLW_law 33 = .ok (.iload 4, 2) := by decide +kernel
theorem dLW_law_35 : decode cLW_law 35 = .ok (.iaload, 1) := by decide +kernel
theorem dLW_law_36 : decode cLW_law 36 = .ok (.bipush 15, 2) := by decide +kernel
theorem dLW_law_38 : decode cLW_law 38 = .ok (.iand, 1) := by decide +kernel
theorem dLW_law_39 : decode cLW_law 39 = .ok (.tableswitch 863 0 13 #[69, 138, 207, 244, 300, 337, 419, 501, 556, 581, 649, 716, 783, 850], 69) := by decide +kernel
theorem dLW_law_108 : decode cLW_law 108 = .ok (.aload_n 1, 1) := by decide +kernel
theorem dLW_law_109 : decode cLW_law 109 = .ok (.aload_n 0, 1) := by decide +kernel
theorem dLW_law_110 : decode cLW_law 110 = .ok (.iload 4, 2) := by decide +kernel
theorem dLW_law_112 : decode cLW_law 112 = .ok (.iconst 1, 1) := by decide +kernel
theorem dLW_law_113 : decode cLW_law 113 = .ok (.iadd, 1) := by decide +kernel
theorem dLW_law_114 : decode cLW_law 114 = .ok (.iaload, 1) := by decide +kernel
theorem dLW_law_115 : decode cLW_law 115 = .ok (.aload_n 0, 1) := by decide +kernel
theorem dLW_law_116 : decode cLW_law 116 = .ok (.iload 4, 2) := by decide +kernel
theorem dLW_law_118 : decode cLW_law 118 = .ok (.iconst 2, 1) := by decide +kernel
theorem dLW_law_119 : decode cLW_law 119 = .ok (.iadd, 1) := by decide +kernel
theorem dLW_law_120 : decode cLW_law 120 = .ok (.iaload, 1) := by decide +kernel
theorem dLW_law_121 : decode cLW_law 121 = .ok (.i2l, 1) := by decide +kernel
theorem dLW_law_122 : decode cLW_law 122 = .ok (.bipush 32, 2) := by decide +kernel
theorem dLW_law_124 : decode cLW_law 124 = .ok (.lshl, 1) := by decide +kernel
theorem dLW_law_125 : decode cLW_law 125 = .ok (.aload_n 0, 1) := by decide +kernel
theorem dLW_law_126 : decode cLW_law 126 = .ok (.iload 4, 2) := by decide +kernel
theorem dLW_law_128 : decode cLW_law 128 = .ok (.iconst 3, 1) := by decide +kernel
theorem dLW_law_129 : decode cLW_law 129 = .ok (.iadd, 1) := by decide +kernel
theorem dLW_law_130 : decode cLW_law 130 = .ok (.iaload, 1) := by decide +kernel
theorem dLW_law_131 : decode cLW_law 131 = .ok (.i2l, 1) := by decide +kernel
theorem dLW_law_132 : decode cLW_law 132 = .ok (.ldc2_w 41, 3) := by decide +kernel
theorem dLW_law_135 : decode cLW_law 135 = .ok (.land, 1) := by decide +kernel
theorem dLW_law_136 : decode cLW_law 136 = .ok (.lor, 1) := by decide +kernel
theorem dLW_law_137 : decode cLW_law 137 = .ok (.invokevirtual 43, 3) := by decide +kernel
theorem dLW_law_140 : decode cLW_law 140 = .ok (.aload_n 2, 1) := by decide +kernel
theorem dLW_law_141 : decode cLW_law 141 = .ok (.aload_n 0, 1) := by decide +kernel
theorem dLW_law_142 : decode cLW_law 142 = .ok (.iload 4, 2) := by decide +kernel
theorem dLW_law_144 : decode cLW_law 144 = .ok (.iconst 1, 1) := by decide +kernel
theorem dLW_law_145 : decode cLW_law 145 = .ok (.iadd, 1) := by decide +kernel
theorem dLW_law_146 : decode cLW_law 146 = .ok (.iaload, 1) := by decide +kernel
theorem dLW_law_147 : decode cLW_law 147 = .ok (.aload_n 0, 1) := by decide +kernel
theorem dLW_law_148 : decode cLW_law 148 = .ok (.iload 4, 2) := by decide +kernel
theorem dLW_law_150 : decode cLW_law 150 = .ok (.iconst 2, 1) := by decide +kernel
theorem dLW_law_151 : decode cLW_law 151 = .ok (.iadd, 1) := by decide +kernel
theorem dLW_law_152 : decode cLW_law 152 = .ok (.iaload, 1) := by decide +kernel
theorem dLW_law_153 : decode cLW_law 153 = .ok (.i2l, 1) := by decide +kernel
theorem dLW_law_154 : decode cLW_law 154 = .ok (.bipush 32, 2) := by decide +kernel
theorem dLW_law_156 : decode cLW_law 156 = .ok (.lshl, 1) := by decide +kernel
theorem dLW_law_157 : decode cLW_law 157 = .ok (.aload_n 0, 1) := by decide +kernel
theorem dLW_law_158 : decode cLW_law 158 = .ok (.iload 4, 2) := by decide +kernel
theorem dLW_law_160 : decode cLW_law 160 = .ok (.iconst 3, 1) := by decide +kernel
theorem dLW_law_161 : decode cLW_law 161 = .ok (.iadd, 1) := by decide +kernel
theorem dLW_law_162 : decode cLW_law 162 = .ok (.iaload, 1) := by decide +kernel
theorem dLW_law_163 : decode cLW_law 163 = .ok (.i2l, 1) := by decide +kernel
theorem dLW_law_164 : decode cLW_law 164 = .ok (.ldc2_w 41, 3) := by decide +kernel
theorem dLW_law_167 : decode cLW_law 167 = .ok (.land, 1) := by decide +kernel
theorem dLW_law_168 : decode cLW_law 168 = .ok (.lor, 1) := by decide +kernel
theorem dLW_law_169 : decode cLW_law 169 = .ok (.invokevirtual 47, 3) := by decide +kernel
theorem dLW_law_172 : decode cLW_law 172 = .ok (.if_icmp .eq 730, 3) := by decide +kernel
theorem dLW_law_175 : decode cLW_law 175 = .ok (.iconst 0, 1) := by decide +kernel
theorem dLW_law_176 : decode cLW_law 176 = .ok (.ireturn, 1) := by decide +kernel
theorem dLW_law_177 : decode cLW_law 177 = .ok (.aload_n 1, 1) := by decide +kernel
theorem dLW_law_178 : decode cLW_law 178 = .ok (.aload_n 0, 1) := by decide +kernel
theorem dLW_law_179 : decode cLW_law 179 = .ok (.iload 4, 2) := by decide +kernel
theorem dLW_law_181 : decode cLW_law 181 = .ok (.iconst 1, 1) := by decide +kernel
theorem dLW_law_182 : decode cLW_law 182 = .ok (.iadd, 1) := by decide +kernel
theorem dLW_law_183 : decode cLW_law 183 = .ok (.iaload, 1) := by decide +kernel
theorem dLW_law_184 : decode cLW_law 184 = .ok (.aload_n 0, 1) := by decide +kernel
theorem dLW_law_185 : decode cLW_law 185 = .ok (.iload 4, 2) := by decide +kernel
theorem dLW_law_187 : decode cLW_law 187 = .ok (.iconst 2, 1) := by decide +kernel
theorem dLW_law_188 : decode cLW_law 188 = .ok (.iadd, 1) := by decide +kernel
theorem dLW_law_189 : decode cLW_law 189 = .ok (.iaload, 1) := by decide +kernel
theorem dLW_law_190 : decode cLW_law 190 = .ok (.i2l, 1) := by decide +kernel
theorem dLW_law_191 : decode cLW_law 191 = .ok (.bipush 32, 2) := by decide +kernel
theorem dLW_law_193 : decode cLW_law 193 = .ok (.lshl, 1) := by decide +kernel
theorem dLW_law_194 : decode cLW_law 194 = .ok (.aload_n 0, 1) := by decide +kernel
theorem dLW_law_195 : decode cLW_law 195 = .ok (.iload 4, 2) := by decide +kernel
theorem dLW_law_197 : decode cLW_law 197 = .ok (.iconst 3, 1) := by decide +kernel
theorem dLW_law_198 : decode cLW_law 198 = .ok (.iadd, 1) := by decide +kernel
theorem dLW_law_199 : decode cLW_law 199 = .ok (.iaload, 1) := by decide +kernel
theorem dLW_law_200 : decode cLW_law 200 = .ok (.i2l, 1) := by decide +kernel
theorem dLW_law_201 : decode cLW_law 201 = .ok (.ldc2_w 41, 3) := by decide +kernel
theorem dLW_law_204 : decode cLW_law 204 = .ok (.land, 1) := by decide +kernel
theorem dLW_law_205 : decode cLW_law 205 = .ok (.lor, 1) := by decide +kernel
theorem dLW_law_206 : decode cLW_law 206 = .ok (.invokevirtual 48, 3) := by decide +kernel
theorem dLW_law_209 : decode cLW_law 209 = .ok (.aload_n 2, 1) := by decide +kernel
theorem dLW_law_210 : decode cLW_law 210 = .ok (.aload_n 0, 1) := by decide +kernel
theorem dLW_law_211 : decode cLW_law 211 = .ok (.iload 4, 2) := by decide +kernel
theorem dLW_law_213 : decode cLW_law 213 = .ok (.iconst 1, 1) := by decide +kernel
theorem dLW_law_214 : decode cLW_law 214 = .ok (.iadd, 1) := by decide +kernel
theorem dLW_law_215 : decode cLW_law 215 = .ok (.iaload, 1) := by decide +kernel
theorem dLW_law_216 : decode cLW_law 216 = .ok (.aload_n 0, 1) := by decide +kernel
theorem dLW_law_217 : decode cLW_law 217 = .ok (.iload 4, 2) := by decide +kernel
theorem dLW_law_219 : decode cLW_law 219 = .ok (.iconst 2, 1) := by decide +kernel
theorem dLW_law_220 : decode cLW_law 220 = .ok (.iadd, 1) := by decide +kernel
theorem dLW_law_221 : decode cLW_law 221 = .ok (.iaload, 1) := by decide +kernel
theorem dLW_law_222 : decode cLW_law 222 = .ok (.i2l, 1) := by decide +kernel
theorem dLW_law_223 : decode cLW_law 223 = .ok (.bipush 32, 2) := by decide +kernel
theorem dLW_law_225 : decode cLW_law 225 = .ok (.lshl, 1) := by decide +kernel
theorem dLW_law_226 : decode cLW_law 226 = .ok (.aload_n 0, 1) := by decide +kernel
theorem dLW_law_227 : decode cLW_law 227 = .ok (.iload 4, 2) := by decide +kernel
theorem dLW_law_229 : decode cLW_law 229 = .ok (.iconst 3, 1) := by decide +kernel
theorem dLW_law_230 : decode cLW_law 230 = .ok (.iadd, 1) := by decide +kernel
theorem dLW_law_231 : decode cLW_law 231 = .ok (.iaload, 1) := by decide +kernel
theorem dLW_law_232 : decode cLW_law 232 = .ok (.i2l, 1) := by decide +kernel
theorem dLW_law_233 : decode cLW_law 233 = .ok (.ldc2_w 41, 3) := by decide +kernel
theorem dLW_law_236 : decode cLW_law 236 = .ok (.land, 1) := by decide +kernel
theorem dLW_law_237 : decode cLW_law 237 = .ok (.lor, 1) := by decide +kernel
theorem dLW_law_238 : decode cLW_law 238 = .ok (.invokevirtual 52, 3) := by decide +kernel
theorem dLW_law_241 : decode cLW_law 241 = .ok (.if_icmp .eq 661, 3) := by decide +kernel
theorem dLW_law_244 : decode cLW_law 244 = .ok (.iconst 0, 1) := by decide +kernel
theorem dLW_law_245 : decode cLW_law 245 = .ok (.ireturn, 1) := by decide +kernel
theorem dLW_law_246 : decode cLW_law 246 = .ok (.aload_n 1, 1) := by decide +kernel
theorem dLW_law_247 : decode cLW_law 247 = .ok (.aload_n 0, 1) := by decide +kernel
theorem dLW_law_248 : decode cLW_law 248 = .ok (.iload 4, 2) := by decide +kernel
theorem dLW_law_250 : decode cLW_law 250 = .ok (.iconst 1, 1) := by decide +kernel
theorem dLW_law_251 : decode cLW_law 251 = .ok (.iadd, 1) := by decide +kernel
theorem dLW_law_252 : decode cLW_law 252 = .ok (.iaload, 1) := by decide +kernel
theorem dLW_law_253 : decode cLW_law 253 = .ok (.aload_n 0, 1) := by decide +kernel
theorem dLW_law_254 : decode cLW_law 254 = .ok (.iload 4, 2) := by decide +kernel
theorem dLW_law_256 : decode cLW_law 256 = .ok (.iconst 2, 1) := by decide +kernel
theorem dLW_law_257 : decode cLW_law 257 = .ok (.iadd, 1) := by decide +kernel
theorem dLW_law_258 : decode cLW_law 258 = .ok (.iaload, 1) := by decide +kernel
theorem dLW_law_259 : decode cLW_law 259 = .ok (.invokevirtual 53, 3) := by decide +kernel
theorem dLW_law_262 : decode cLW_law 262 = .ok (.aload_n 2, 1) := by decide +kernel
theorem dLW_law_263 : decode cLW_law 263 = .ok (.aload_n 0, 1) := by decide +kernel
theorem dLW_law_264 : decode cLW_law 264 = .ok (.iload 4, 2) := by decide +kernel
theorem dLW_law_266 : decode cLW_law 266 = .ok (.iconst 1, 1) := by decide +kernel
theorem dLW_law_267 : decode cLW_law 267 = .ok (.iadd, 1) := by decide +kernel
theorem dLW_law_268 : decode cLW_law 268 = .ok (.iaload, 1) := by decide +kernel
theorem dLW_law_269 : decode cLW_law 269 = .ok (.aload_n 0, 1) := by decide +kernel
theorem dLW_law_270 : decode cLW_law 270 = .ok (.iload 4, 2) := by decide +kernel
theorem dLW_law_272 : decode cLW_law 272 = .ok (.iconst 2, 1) := by decide +kernel
theorem dLW_law_273 : decode cLW_law 273 = .ok (.iadd, 1) := by decide +kernel
theorem dLW_law_274 : decode cLW_law 274 = .ok (.iaload, 1) := by decide +kernel
theorem dLW_law_275 : decode cLW_law 275 = .ok (.invokevirtual 57, 3) := by decide +kernel
theorem dLW_law_278 : decode cLW_law 278 = .ok (.if_icmp .eq 624, 3) := by decide +kernel
theorem dLW_law_281 : decode cLW_law 281 = .ok (.iconst 0, 1) := by decide +kernel
theorem dLW_law_282 : decode cLW_law 282 = .ok (.ireturn, 1) := by decide +kernel
theorem dLW_law_283 : decode cLW_law 283 = .ok (.aload_n 1, 1) := by decide +kernel
theorem dLW_law_284 : decode cLW_law 284 = .ok (.aload_n 0, 1) := by decide +kernel
theorem dLW_law_285 : decode cLW_law 285 = .ok (.iload 4, 2) := by decide +kernel
theorem dLW_law_287 : decode cLW_law 287 = .ok (.iconst 1, 1) := by decide +kernel
theorem dLW_law_288 : decode cLW_law 288 = .ok (.iadd, 1) := by decide +kernel
theorem dLW_law_289 : decode cLW_law 289 = .ok (.iaload, 1) := by decide +kernel
theorem dLW_law_290 : decode cLW_law 290 = .ok (.aload_n 3, 1) := by decide +kernel
theorem dLW_law_291 : decode cLW_law 291 = .ok (.invokestatic 58, 3) := by decide +kernel
theorem dLW_law_294 : decode cLW_law 294 = .ok (.istore 5, 2) := by decide +kernel
theorem dLW_law_296 : decode cLW_law 296 = .ok (.aload_n 2, 1) := by decide +kernel
theorem dLW_law_297 : decode cLW_law 297 = .ok (.aload_n 0, 1) := by decide +kernel
theorem dLW_law_298 : decode cLW_law 298 = .ok (.iload 4, 2) := by decide +kernel
theorem dLW_law_300 : decode cLW_law 300 = .ok (.iconst 1, 1) := by decide +kernel
theorem dLW_law_301 : decode cLW_law 301 = .ok (.iadd, 1) := by decide +kernel
theorem dLW_law_302 : decode cLW_law 302 = .ok (.iaload, 1) := by decide +kernel
theorem dLW_law_303 : decode cLW_law 303 = .ok (.invokevirtual 63, 3) := by decide +kernel
theorem dLW_law_306 : decode cLW_law 306 = .ok (.istore 6, 2) := by decide +kernel
theorem dLW_law_308 : decode cLW_law 308 = .ok (.aload_n 2, 1) := by decide +kernel
theorem dLW_law_309 : decode cLW_law 309 = .ok (.invokevirtual 64, 3) := by decide +kernel
theorem dLW_law_312 : decode cLW_law 312 = .ok (.iload 5, 2) := by decide +kernel
theorem dLW_law_314 : decode cLW_law 314 = .ok (.if_icmp .eq 5, 3) := by decide +kernel
theorem dLW_law_317 : decode cLW_law 317 = .ok (.iconst 0, 1) := by decide +kernel
theorem dLW_law_318 : decode cLW_law 318 = .ok (.ireturn, 1) := by decide +kernel
theorem dLW_law_319 : decode cLW_law 319 = .ok (.iload 5, 2) := by decide +kernel
theorem dLW_law_321 : decode cLW_law 321 = .ok (.ifCond .ne 15, 3) := by decide +kernel
theorem dLW_law_324 : decode cLW_law 324 = .ok (.aload_n 3, 1) := by decide +kernel
theorem dLW_law_325 : decode cLW_law 325 = .ok (.iconst 0, 1) := by decide +kernel
theorem dLW_law_326 : decode cLW_law 326 = .ok (.laload, 1) := by decide +kernel
theorem dLW_law_327 : decode cLW_law 327 = .ok (.iload 6, 2) := by decide +kernel
theorem dLW_law_329 : decode cLW_law 329 = .ok (.i2l, 1) := by decide +kernel
theorem dLW_law_330 : decode cLW_law 330 = .ok (.lcmp, 1) := by decide +kernel
theorem dLW_law_331 : decode cLW_law 331 = .ok (.ifCond .eq 5, 3) := by decide +kernel
theorem dLW_law_334 : decode cLW_law 334 = .ok (.iconst 0, 1) := by decide +kernel
theorem dLW_law_335 : decode cLW_law 335 = .ok (.ireturn, 1) := by decide +kernel
theorem dLW_law_336 : decode cLW_law 336 = .ok (.goto 566, 3) := by decide +kernel
theorem dLW_law_339 : decode cLW_law 339 = .ok (.aload_n 1, 1) := by decide +kernel
theorem dLW_law_340 : decode cLW_law 340 = .ok (.aload_n 0, 1) := by decide +kernel
theorem dLW_law_341 : decode cLW_law 341 = .ok (.iload 4, 2) := by decide +kernel
theorem dLW_law_343 : decode cLW_law 343 = .ok (.iconst 1, 1) := by decide +kernel
theorem dLW_law_344 : decode cLW_law 344 = .ok (.iadd, 1) := by decide +kernel
theorem dLW_law_345 : decode cLW_law 345 = .ok (.iaload, 1) := by decide +kernel
theorem dLW_law_346 : decode cLW_law 346 = .ok (.aload_n 0, 1) := by decide +kernel
theorem dLW_law_347 : decode cLW_law 347 = .ok (.iload 4, 2) := by decide +kernel
theorem dLW_law_349 : decode cLW_law 349 = .ok (.iconst 2, 1) := by decide +kernel
theorem dLW_law_350 : decode cLW_law 350 = .ok (.iadd, 1) := by decide +kernel
theorem dLW_law_351 : decode cLW_law 351 = .ok (.iaload, 1) := by decide +kernel
theorem dLW_law_352 : decode cLW_law 352 = .ok (.invokevirtual 68, 3) := by decide +kernel
theorem dLW_law_355 : decode cLW_law 355 = .ok (.aload_n 2, 1) := by decide +kernel
theorem dLW_law_356 : decode cLW_law 356 = .ok (.aload_n 0, 1) := by decide +kernel
theorem dLW_law_357 : decode cLW_law 357 = .ok (.iload 4, 2) := by decide +kernel
theorem dLW_law_359 : decode cLW_law 359 = .ok (.iconst 1, 1) := by decide +kernel
theorem dLW_law_360 : decode cLW_law 360 = .ok (.iadd, 1) := by decide +kernel
theorem dLW_law_361 : decode cLW_law 361 = .ok (.iaload, 1) := by decide +kernel
theorem dLW_law_362 : decode cLW_law 362 = .ok (.aload_n 0, 1) := by decide +kernel
theorem dLW_law_363 : decode cLW_law 363 = .ok (.iload 4, 2) := by decide +kernel
theorem dLW_law_365 : decode cLW_law 365 = .ok (.iconst 2, 1) := by decide +kernel
theorem dLW_law_366 : decode cLW_law 366 = .ok (.iadd, 1) := by decide +kernel
theorem dLW_law_367 : decode cLW_law 367 = .ok (.iaload, 1) := by decide +kernel
theorem dLW_law_368 : decode cLW_law 368 = .ok (.invokevirtual 71, 3) := by decide +kernel
theorem dLW_law_371 : decode cLW_law 371 = .ok (.if_icmp .eq 531, 3) := by decide +kernel
theorem dLW_law_374 : decode cLW_law 374 = .ok (.iconst 0, 1) := by decide +kernel
theorem dLW_law_375 : decode cLW_law 375 = .ok (.ireturn, 1) := by decide +kernel
theorem dLW_law_376 : decode cLW_law 376 = .ok (.aload_n 1, 1) := by decide +kernel
theorem dLW_law_377 : decode cLW_law 377 = .ok (.aload_n 0, 1) := by decide +kernel
theorem dLW_law_378 : decode cLW_law 378 = .ok (.iload 4, 2) := by decide +kernel
theorem dLW_law_380 : decode cLW_law 380 = .ok (.iconst 1, 1) := by decide +kernel
theorem dLW_law_381 : decode cLW_law 381 = .ok (.iadd, 1) := by decide +kernel
theorem dLW_law_382 : decode cLW_law 382 = .ok (.iaload, 1) := by decide +kernel
theorem dLW_law_383 : decode cLW_law 383 = .ok (.aload_n 0, 1) := by decide +kernel
theorem dLW_law_384 : decode cLW_law 384 = .ok (.iload 4, 2) := by decide +kernel
theorem dLW_law_386 : decode cLW_law 386 = .ok (.iconst 2, 1) := by decide +kernel
theorem dLW_law_387 : decode cLW_law 387 = .ok (.iadd, 1) := by decide +kernel
theorem dLW_law_388 : decode cLW_law 388 = .ok (.iaload, 1) := by decide +kernel
theorem dLW_law_389 : decode cLW_law 389 = .ok (.aload_n 0, 1) := by decide +kernel
theorem dLW_law_390 : decode cLW_law 390 = .ok (.iload 4, 2) := by decide +kernel
theorem dLW_law_392 : decode cLW_law 392 = .ok (.iconst 3, 1) := by decide +kernel
theorem dLW_law_393 : decode cLW_law 393 = .ok (.iadd, 1) := by decide +kernel
theorem dLW_law_394 : decode cLW_law 394 = .ok (.iaload, 1) := by decide +kernel
theorem dLW_law_395 : decode cLW_law 395 = .ok (.i2l, 1) := by decide +kernel
theorem dLW_law_396 : decode cLW_law 396 = .ok (.bipush 32, 2) := by decide +kernel
theorem dLW_law_398 : decode cLW_law 398 = .ok (.lshl, 1) := by decide +kernel
theorem dLW_law_399 : decode cLW_law 399 = .ok (.aload_n 0, 1) := by decide +kernel
theorem dLW_law_400 : decode cLW_law 400 = .ok (.iload 4, 2) := by decide +kernel
theorem dLW_law_402 : decode cLW_law 402 = .ok (.iconst 4, 1) := by decide +kernel
theorem dLW_law_403 : decode cLW_law 403 = .ok (.iadd, 1) := by decide +kernel
theorem dLW_law_404 : decode cLW_law 404 = .ok (.iaload, 1) := by decide +kernel
theorem dLW_law_405 : decode cLW_law 405 = .ok (.i2l, 1) := by decide +kernel
theorem dLW_law_406 : decode cLW_law 406 = .ok (.ldc2_w 41, 3) := by decide +kernel
theorem dLW_law_409 : decode cLW_law 409 = .ok (.land, 1) := by decide +kernel
theorem dLW_law_410 : decode cLW_law 410 = .ok (.lor, 1) := by decide +kernel
theorem dLW_law_411 : decode cLW_law 411 = .ok (.invokevirtual 72, 3) := by decide +kernel
theorem dLW_law_414 : decode cLW_law 414 = .ok (.aload_n 2, 1) := by decide +kernel
theorem dLW_law_415 : decode cLW_law 415 = .ok (.aload_n 0, 1) := by decide +kernel
theorem dLW_law_416 : decode cLW_law 416 = .ok (.iload 4, 2) := by decide +kernel
theorem dLW_law_418 : decode cLW_law 418 = .ok (.iconst 1, 1) := by decide +kernel
theorem dLW_law_419 : decode cLW_law 419 = .ok (.iadd, 1) := by decide +kernel
theorem dLW_law_420 : decode cLW_law 420 = .ok (.iaload, 1) := by decide +kernel
theorem dLW_law_421 : decode cLW_law 421 = .ok (.aload_n 0, 1) := by decide +kernel
theorem dLW_law_422 : decode cLW_law 422 = .ok (.iload 4, 2) := by decide +kernel
theorem dLW_law_424 : decode cLW_law 424 = .ok (.iconst 2, 1) := by decide +kernel
theorem dLW_law_425 : decode cLW_law 425 = .ok (.iadd, 1) := by decide +kernel
theorem dLW_law_426 : decode cLW_law 426 = .ok (.iaload, 1) := by decide +kernel
theorem dLW_law_427 : decode cLW_law 427 = .ok (.aload_n 0, 1) := by decide +kernel
theorem dLW_law_428 : decode cLW_law 428 = .ok (.iload 4, 2) := by decide +kernel
theorem dLW_law_430 : decode cLW_law 430 = .ok (.iconst 3, 1) := by decide +kernel
theorem dLW_law_431 : decode cLW_law 431 = .ok (.iadd, 1) := by decide +kernel
theorem dLW_law_432 : decode cLW_law 432 = .ok (.iaload, 1) := by decide +kernel
theorem dLW_law_433 : decode cLW_law 433 = .ok (.i2l, 1) := by decide +kernel
theorem dLW_law_434 : decode cLW_law 434 = .ok (.bipush 32, 2) := by decide +kernel
theorem dLW_law_436 : decode cLW_law 436 = .ok (.lshl, 1) := by decide +kernel
theorem dLW_law_437 : decode cLW_law 437 = .ok (.aload_n 0, 1) := by decide +kernel
theorem dLW_law_438 : decode cLW_law 438 = .ok (.iload 4, 2) := by decide +kernel
theorem dLW_law_440 : decode cLW_law 440 = .ok (.iconst 4, 1) := by decide +kernel
theorem dLW_law_441 : decode cLW_law 441 = .ok (.iadd, 1) := by decide +kernel
theorem dLW_law_442 : decode cLW_law 442 = .ok (.iaload, 1) := by decide +kernel
theorem dLW_law_443 : decode cLW_law 443 = .ok (.i2l, 1) := by decide +kernel
theorem dLW_law_444 : decode cLW_law 444 = .ok (.ldc2_w 41, 3) := by decide +kernel
theorem dLW_law_447 : decode cLW_law 447 = .ok (.land, 1) := by decide +kernel
theorem dLW_law_448 : decode cLW_law 448 = .ok (.lor, 1) := by decide +kernel
theorem dLW_law_449 : decode cLW_law 449 = .ok (.invokevirtual 76, 3) := by decide +kernel
theorem dLW_law_452 : decode cLW_law 452 = .ok (.lcmp, 1) := by decide +kernel
theorem dLW_law_453 : decode cLW_law 453 = .ok (.ifCond .eq 449, 3) := by decide +kernel
theorem dLW_law_456 : decode cLW_law 456 = .ok (.iconst 0, 1) := by decide +kernel
theorem dLW_law_457 : decode cLW_law 457 = .ok (.ireturn, 1) := by decide +kernel
theorem dLW_law_458 : decode cLW_law 458 = .ok (.aload_n 1, 1) := by decide +kernel
theorem dLW_law_459 : decode cLW_law 459 = .ok (.aload_n 0, 1) := by decide +kernel
theorem dLW_law_460 : decode cLW_law 460 = .ok (.iload 4, 2) := by decide +kernel
theorem dLW_law_462 : decode cLW_law 462 = .ok (.iconst 1, 1) := by decide +kernel
theorem dLW_law_463 : decode cLW_law 463 = .ok (.iadd, 1) := by decide +kernel
theorem dLW_law_464 : decode cLW_law 464 = .ok (.iaload, 1) := by decide +kernel
theorem dLW_law_465 : decode cLW_law 465 = .ok (.aload_n 0, 1) := by decide +kernel
theorem dLW_law_466 : decode cLW_law 466 = .ok (.iload 4, 2) := by decide +kernel
theorem dLW_law_468 : decode cLW_law 468 = .ok (.iconst 2, 1) := by decide +kernel
theorem dLW_law_469 : decode cLW_law 469 = .ok (.iadd, 1) := by decide +kernel
theorem dLW_law_470 : decode cLW_law 470 = .ok (.iaload, 1) := by decide +kernel
theorem dLW_law_471 : decode cLW_law 471 = .ok (.aload_n 0, 1) := by decide +kernel
theorem dLW_law_472 : decode cLW_law 472 = .ok (.iload 4, 2) := by decide +kernel
theorem dLW_law_474 : decode cLW_law 474 = .ok (.iconst 3, 1) := by decide +kernel
theorem dLW_law_475 : decode cLW_law 475 = .ok (.iadd, 1) := by decide +kernel
theorem dLW_law_476 : decode cLW_law 476 = .ok (.iaload, 1) := by decide +kernel
theorem dLW_law_477 : decode cLW_law 477 = .ok (.i2l, 1) := by decide +kernel
theorem dLW_law_478 : decode cLW_law 478 = .ok (.bipush 32, 2) := by decide +kernel
theorem dLW_law_480 : decode cLW_law 480 = .ok (.lshl, 1) := by decide +kernel
theorem dLW_law_481 : decode cLW_law 481 = .ok (.aload_n 0, 1) := by decide +kernel
theorem dLW_law_482 : decode cLW_law 482 = .ok (.iload 4, 2) := by decide +kernel
theorem dLW_law_484 : decode cLW_law 484 = .ok (.iconst 4, 1) := by decide +kernel
theorem dLW_law_485 : decode cLW_law 485 = .ok (.iadd, 1) := by decide +kernel
theorem dLW_law_486 : decode cLW_law 486 = .ok (.iaload, 1) := by decide +kernel
theorem dLW_law_487 : decode cLW_law 487 = .ok (.i2l, 1) := by decide +kernel
theorem dLW_law_488 : decode cLW_law 488 = .ok (.ldc2_w 41, 3) := by decide +kernel
theorem dLW_law_491 : decode cLW_law 491 = .ok (.land, 1) := by decide +kernel
theorem dLW_law_492 : decode cLW_law 492 = .ok (.lor, 1) := by decide +kernel
theorem dLW_law_493 : decode cLW_law 493 = .ok (.invokevirtual 77, 3) := by decide +kernel
theorem dLW_law_496 : decode cLW_law 496 = .ok (.aload_n 2, 1) := by decide +kernel
theorem dLW_law_497 : decode cLW_law 497 = .ok (.aload_n 0, 1) := by decide +kernel
theorem dLW_law_498 : decode cLW_law 498 = .ok (.iload 4, 2) := by decide +kernel
theorem dLW_law_500 : decode cLW_law 500 = .ok (.iconst 1, 1) := by decide +kernel
theorem dLW_law_501 : decode cLW_law 501 = .ok (.iadd, 1) := by decide +kernel
theorem dLW_law_502 : decode cLW_law 502 = .ok (.iaload, 1) := by decide +kernel
theorem dLW_law_503 : decode cLW_law 503 = .ok (.aload_n 0, 1) := by decide +kernel
theorem dLW_law_504 : decode cLW_law 504 = .ok (.iload 4, 2) := by decide +kernel
theorem dLW_law_506 : decode cLW_law 506 = .ok (.iconst 2, 1) := by decide +kernel
theorem dLW_law_507 : decode cLW_law 507 = .ok (.iadd, 1) := by decide +kernel
theorem dLW_law_508 : decode cLW_law 508 = .ok (.iaload, 1) := by decide +kernel
theorem dLW_law_509 : decode cLW_law 509 = .ok (.aload_n 0, 1) := by decide +kernel
theorem dLW_law_510 : decode cLW_law 510 = .ok (.iload 4, 2) := by decide +kernel
theorem dLW_law_512 : decode cLW_law 512 = .ok (.iconst 3, 1) := by decide +kernel
theorem dLW_law_513 : decode cLW_law 513 = .ok (.iadd, 1) := by decide +kernel
theorem dLW_law_514 : decode cLW_law 514 = .ok (.iaload, 1) := by decide +kernel
theorem dLW_law_515 : decode cLW_law 515 = .ok (.i2l, 1) := by decide +kernel
theorem dLW_law_516 : decode cLW_law 516 = .ok (.bipush 32, 2) := by decide +kernel
theorem dLW_law_518 : decode cLW_law 518 = .ok (.lshl, 1) := by decide +kernel
theorem dLW_law_519 : decode cLW_law 519 = .ok (.aload_n 0, 1) := by decide +kernel
theorem dLW_law_520 : decode cLW_law 520 = .ok (.iload 4, 2) := by decide +kernel
theorem dLW_law_522 : decode cLW_law 522 = .ok (.iconst 4, 1) := by decide +kernel
theorem dLW_law_523 : decode cLW_law 523 = .ok (.iadd, 1) := by decide +kernel
theorem dLW_law_524 : decode cLW_law 524 = .ok (.iaload, 1) := by decide +kernel
theorem dLW_law_525 : decode cLW_law 525 = .ok (.i2l, 1) := by decide +kernel
theorem dLW_law_526 : decode cLW_law 526 = .ok (.ldc2_w 41, 3) := by decide +kernel
theorem dLW_law_529 : decode cLW_law 529 = .ok (.land, 1) := by decide +kernel
theorem dLW_law_530 : decode cLW_law 530 = .ok (.lor, 1) := by decide +kernel
theorem dLW_law_531 : decode cLW_law 531 = .ok (.invokevirtual 80, 3) := by decide +kernel
theorem dLW_law_534 : decode cLW_law 534 = .ok (.lcmp, 1) := by decide +kernel
theorem dLW_law_535 : decode cLW_law 535 = .ok (.ifCond .eq 367, 3) := by decide +kernel
theorem dLW_law_538 : decode cLW_law 538 = .ok (.iconst 0, 1) := by decide +kernel
theorem dLW_law_539 : decode cLW_law 539 = .ok (.ireturn, 1) := by decide +kernel
theorem dLW_law_540 : decode cLW_law 540 = .ok (.aload_n 1, 1) := by decide +kernel
theorem dLW_law_541 : decode cLW_law 541 = .ok (.aload_n 0, 1) := by decide +kernel
theorem dLW_law_542 : decode cLW_law 542 = .ok (.iload 4, 2) := by decide +kernel
theorem dLW_law_544 : decode cLW_law 544 = .ok (.iconst 1, 1) := by decide +kernel
theorem dLW_law_545 : decode cLW_law 545 = .ok (.iadd, 1) := by decide +kernel
theorem dLW_law_546 : decode cLW_law 546 = .ok (.iaload, 1) := by decide +kernel
theorem dLW_law_547 : decode cLW_law 547 = .ok (.aload_n 3, 1) := by decide +kernel
theorem dLW_law_548 : decode cLW_law 548 = .ok (.invokestatic 81, 3) := by decide +kernel
theorem dLW_law_551 : decode cLW_law 551 = .ok (.istore 5, 2) := by decide +kernel
theorem dLW_law_553 : decode cLW_law 553 = .ok (.aload_n 2, 1) := by decide +kernel
theorem dLW_law_554 : decode cLW_law 554 = .ok (.aload_n 0, 1) := by decide +kernel
theorem dLW_law_555 : decode cLW_law 555 = .ok (.iload 4, 2) := by decide +kernel
theorem dLW_law_557 : decode cLW_law 557 = .ok (.iconst 1, 1) := by decide +kernel
theorem dLW_law_558 : decode cLW_law 558 = .ok (.iadd, 1) := by decide +kernel
theorem dLW_law_559 : decode cLW_law 559 = .ok (.iaload, 1) := by decide +kernel
theorem dLW_law_560 : decode cLW_law 560 = .ok (.invokevirtual 83, 3) := by decide +kernel
theorem dLW_law_563 : decode cLW_law 563 = .ok (.lstore 6, 2) := by decide +kernel
theorem dLW_law_565 : decode cLW_law 565 = .ok (.aload_n 2, 1) := by decide +kernel
theorem dLW_law_566 : decode cLW_law 566 = .ok (.invokevirtual 64, 3) := by decide +kernel
theorem dLW_law_569 : decode cLW_law 569 = .ok (.iload 5, 2) := by decide +kernel
theorem dLW_law_571 : decode cLW_law 571 = .ok (.if_icmp .eq 5, 3) := by decide +kernel
theorem dLW_law_574 : decode cLW_law 574 = .ok (.iconst 0, 1) := by decide +kernel
theorem dLW_law_575 : decode cLW_law 575 = .ok (.ireturn, 1) := by decide +kernel
theorem dLW_law_576 : decode cLW_law 576 = .ok (.iload 5, 2) := by decide +kernel
theorem dLW_law_578 : decode cLW_law 578 = .ok (.ifCond .ne 14, 3) := by decide +kernel
theorem dLW_law_581 : decode cLW_law 581 = .ok (.aload_n 3, 1) := by decide +kernel
theorem dLW_law_582 : decode cLW_law 582 = .ok (.iconst 0, 1) := by decide +kernel
theorem dLW_law_583 : decode cLW_law 583 = .ok (.laload, 1) := by decide +kernel
theorem dLW_law_584 : decode cLW_law 584 = .ok (.lload 6, 2) := by decide +kernel
theorem dLW_law_586 : decode cLW_law 586 = .ok (.lcmp, 1) := by decide +kernel
theorem dLW_law_587 : decode cLW_law 587 = .ok (.ifCond .eq 5, 3) := by decide +kernel
theorem dLW_law_590 : decode cLW_law 590 = .ok (.iconst 0, 1) := by decide +kernel
theorem dLW_law_591 : decode cLW_law 591 = .ok (.ireturn, 1) := by decide +kernel
theorem dLW_law_592 : decode cLW_law 592 = .ok (.goto 310, 3) := by decide +kernel
theorem dLW_law_595 : decode cLW_law 595 = .ok (.aload_n 1, 1) := by decide +kernel
theorem dLW_law_596 : decode cLW_law 596 = .ok (.aload_n 0, 1) := by decide +kernel
theorem dLW_law_597 : decode cLW_law 597 = .ok (.iload 4, 2) := by decide +kernel
theorem dLW_law_599 : decode cLW_law 599 = .ok (.iconst 1, 1) := by decide +kernel
theorem dLW_law_600 : decode cLW_law 600 = .ok (.iadd, 1) := by decide +kernel
theorem dLW_law_601 : decode cLW_law 601 = .ok (.iaload, 1) := by decide +kernel
theorem dLW_law_602 : decode cLW_law 602 = .ok (.invokevirtual 84, 3) := by decide +kernel
theorem dLW_law_605 : decode cLW_law 605 = .ok (.aload_n 2, 1) := by decide +kernel
theorem dLW_law_606 : decode cLW_law 606 = .ok (.aload_n 0, 1) := by decide +kernel
theorem dLW_law_607 : decode cLW_law 607 = .ok (.iload 4, 2) := by decide +kernel
theorem dLW_law_609 : decode cLW_law 609 = .ok (.iconst 1, 1) := by decide +kernel
theorem dLW_law_610 : decode cLW_law 610 = .ok (.iadd, 1) := by decide +kernel
theorem dLW_law_611 : decode cLW_law 611 = .ok (.iaload, 1) := by decide +kernel
theorem dLW_law_612 : decode cLW_law 612 = .ok (.invokevirtual 87, 3) := by decide +kernel
theorem dLW_law_615 : decode cLW_law 615 = .ok (.if_icmp .eq 287, 3) := by decide +kernel
theorem dLW_law_618 : decode cLW_law 618 = .ok (.iconst 0, 1) := by decide +kernel
theorem dLW_law_619 : decode cLW_law 619 = .ok (.ireturn, 1) := by decide +kernel
theorem dLW_law_620 : decode cLW_law 620 = .ok (.aload_n 1, 1) := by decide +kernel
theorem dLW_law_621 : decode cLW_law 621 = .ok (.aload_n 0, 1) := by decide +kernel
theorem dLW_law_622 : decode cLW_law 622 = .ok (.iload 4, 2) := by decide +kernel
theorem dLW_law_624 : decode cLW_law 624 = .ok (.iconst 1, 1) := by decide +kernel
theorem dLW_law_625 : decode cLW_law 625 = .ok (.iadd, 1) := by decide +kernel
theorem dLW_law_626 : decode cLW_law 626 = .ok (.iaload, 1) := by decide +kernel
theorem dLW_law_627 : decode cLW_law 627 = .ok (.aload_n 0, 1) := by decide +kernel
theorem dLW_law_628 : decode cLW_law 628 = .ok (.iload 4, 2) := by decide +kernel
theorem dLW_law_630 : decode cLW_law 630 = .ok (.iconst 2, 1) := by decide +kernel
theorem dLW_law_631 : decode cLW_law 631 = .ok (.iadd, 1) := by decide +kernel
theorem dLW_law_632 : decode cLW_law 632 = .ok (.iaload, 1) := by decide +kernel
theorem dLW_law_633 : decode cLW_law 633 = .ok (.aload_n 3, 1) := by decide +kernel
theorem dLW_law_634 : decode cLW_law 634 = .ok (.invokestatic 88, 3) := by decide +kernel
theorem dLW_law_637 : decode cLW_law 637 = .ok (.istore 5, 2) := by decide +kernel
theorem dLW_law_639 : decode cLW_law 639 = .ok (.aload_n 2, 1) := by decide +kernel
theorem dLW_law_640 : decode cLW_law 640 = .ok (.aload_n 0, 1) := by decide +kernel
theorem dLW_law_641 : decode cLW_law 641 = .ok (.iload 4, 2) := by decide +kernel
theorem dLW_law_643 : decode cLW_law 643 = .ok (.iconst 1, 1) := by decide +kernel
theorem dLW_law_644 : decode cLW_law 644 = .ok (.iadd, 1) := by decide +kernel
theorem dLW_law_645 : decode cLW_law 645 = .ok (.iaload, 1) := by decide +kernel
theorem dLW_law_646 : decode cLW_law 646 = .ok (.aload_n 0, 1) := by decide +kernel
theorem dLW_law_647 : decode cLW_law 647 = .ok (.iload 4, 2) := by decide +kernel
theorem dLW_law_649 : decode cLW_law 649 = .ok (.iconst 2, 1) := by decide +kernel
theorem dLW_law_650 : decode cLW_law 650 = .ok (.iadd, 1) := by decide +kernel
theorem dLW_law_651 : decode cLW_law 651 = .ok (.iaload, 1) := by decide +kernel
theorem dLW_law_652 : decode cLW_law 652 = .ok (.invokevirtual 91, 3) := by decide +kernel
theorem dLW_law_655 : decode cLW_law 655 = .ok (.istore 6, 2) := by decide +kernel
theorem dLW_law_657 : decode cLW_law 657 = .ok (.aload_n 2, 1) := by decide +kernel
theorem dLW_law_658 : decode cLW_law 658 = .ok (.invokevirtual 64, 3) := by decide +kernel
theorem dLW_law_661 : decode cLW_law 661 = .ok (.iload 5, 2) := by decide +kernel
theorem dLW_law_663 : decode cLW_law 663 = .ok (.if_icmp .eq 5, 3) := by decide +kernel
theorem dLW_law_666 : decode cLW_law 666 = .ok (.iconst 0, 1) := by decide +kernel
theorem dLW_law_667 : decode cLW_law 667 = .ok (.ireturn, 1) := by decide +kernel
theorem dLW_law_668 : decode cLW_law 668 = .ok (.iload 5, 2) := by decide +kernel
theorem dLW_law_670 : decode cLW_law 670 = .ok (.ifCond .ne 15, 3) := by decide +kernel
theorem dLW_law_673 : decode cLW_law 673 = .ok (.aload_n 3, 1) := by decide +kernel
theorem dLW_law_674 : decode cLW_law 674 = .ok (.iconst 0, 1) := by decide +kernel
theorem dLW_law_675 : decode cLW_law 675 = .ok (.laload, 1) := by decide +kernel
theorem dLW_law_676 : decode cLW_law 676 = .ok (.iload 6, 2) := by decide +kernel
theorem dLW_law_678 : decode cLW_law 678 = .ok (.i2l, 1) := by decide +kernel
theorem dLW_law_679 : decode cLW_law 679 = .ok (.lcmp, 1) := by decide +kernel
theorem dLW_law_680 : decode cLW_law 680 = .ok (.ifCond .eq 5, 3) := by decide +kernel
theorem dLW_law_683 : decode cLW_law 683 = .ok (.iconst 0, 1) := by decide +kernel
theorem dLW_law_684 : decode cLW_law 684 = .ok (.ireturn, 1) := by decide +kernel
theorem dLW_law_685 : decode cLW_law 685 = .ok (.goto 217, 3) := by decide +kernel
theorem dLW_law_688 : decode cLW_law 688 = .ok (.aload_n 1, 1) := by decide +kernel
theorem dLW_law_689 : decode cLW_law 689 = .ok (.aload_n 0, 1) := by decide +kernel
theorem dLW_law_690 : decode cLW_law 690 = .ok (.iload 4, 2) := by decide +kernel
theorem dLW_law_692 : decode cLW_law 692 = .ok (.iconst 1, 1) := by decide +kernel
theorem dLW_law_693 : decode cLW_law 693 = .ok (.iadd, 1) := by decide +kernel
theorem dLW_law_694 : decode cLW_law 694 = .ok (.iaload, 1) := by decide +kernel
theorem dLW_law_695 : decode cLW_law 695 = .ok (.aload_n 0, 1) := by decide +kernel
theorem dLW_law_696 : decode cLW_law 696 = .ok (.iload 4, 2) := by decide +kernel
theorem dLW_law_698 : decode cLW_law 698 = .ok (.iconst 2, 1) := by decide +kernel
theorem dLW_law_699 : decode cLW_law 699 = .ok (.iadd, 1) := by decide +kernel
theorem dLW_law_700 : decode cLW_law 700 = .ok (.iaload, 1) := by decide +kernel
theorem dLW_law_701 : decode cLW_law 701 = .ok (.aload_n 3, 1) := by decide +kernel
theorem dLW_law_702 : decode cLW_law 702 = .ok (.invokestatic 92, 3) := by decide +kernel
theorem dLW_law_705 : decode cLW_law 705 = .ok (.istore 5, 2) := by decide +kernel
theorem dLW_law_707 : decode cLW_law 707 = .ok (.aload_n 2, 1) := by decide +kernel
theorem dLW_law_708 : decode cLW_law 708 = .ok (.aload_n 0, 1) := by decide +kernel
theorem dLW_law_709 : decode cLW_law 709 = .ok (.iload 4, 2) := by decide +kernel
theorem dLW_law_711 : decode cLW_law 711 = .ok (.iconst 1, 1) := by decide +kernel
theorem dLW_law_712 : decode cLW_law 712 = .ok (.iadd, 1) := by decide +kernel
theorem dLW_law_713 : decode cLW_law 713 = .ok (.iaload, 1) := by decide +kernel
theorem dLW_law_714 : decode cLW_law 714 = .ok (.aload_n 0, 1) := by decide +kernel
theorem dLW_law_715 : decode cLW_law 715 = .ok (.iload 4, 2) := by decide +kernel
theorem dLW_law_717 : decode cLW_law 717 = .ok (.iconst 2, 1) := by decide +kernel
theorem dLW_law_718 : decode cLW_law 718 = .ok (.iadd, 1) := by decide +kernel
theorem dLW_law_719 : decode cLW_law 719 = .ok (.iaload, 1) := by decide +kernel
theorem dLW_law_720 : decode cLW_law 720 = .ok (.invokevirtual 94, 3) := by decide +kernel
theorem dLW_law_723 : decode cLW_law 723 = .ok (.lstore 6, 2) := by decide +kernel
theorem dLW_law_725 : decode cLW_law 725 = .ok (.aload_n 2, 1) := by decide +kernel
theorem dLW_law_726 : decode cLW_law 726 = .ok (.invokevirtual 64, 3) := by decide +kernel
theorem dLW_law_729 : decode cLW_law 729 = .ok (.iload 5, 2) := by decide +kernel
theorem dLW_law_731 : decode cLW_law 731 = .ok (.if_icmp .eq 5, 3) := by decide +kernel
theorem dLW_law_734 : decode cLW_law 734 = .ok (.iconst 0, 1) := by decide +kernel
theorem dLW_law_735 : decode cLW_law 735 = .ok (.ireturn, 1) := by decide +kernel
theorem dLW_law_736 : decode cLW_law 736 = .ok (.iload 5, 2) := by decide +kernel
theorem dLW_law_738 : decode cLW_law 738 = .ok (.ifCond .ne 14, 3) := by decide +kernel
theorem dLW_law_741 : decode cLW_law 741 = .ok (.aload_n 3, 1) := by decide +kernel
theorem dLW_law_742 : decode cLW_law 742 = .ok (.iconst 0, 1) := by decide +kernel
theorem dLW_law_743 : decode cLW_law 743 = .ok (.laload, 1) := by decide +kernel
theorem dLW_law_744 : decode cLW_law 744 = .ok (.lload 6, 2) := by decide +kernel
theorem dLW_law_746 : decode cLW_law 746 = .ok (.lcmp, 1) := by decide +kernel
theorem dLW_law_747 : decode cLW_law 747 = .ok (.ifCond .eq 5, 3) := by decide +kernel
theorem dLW_law_750 : decode cLW_law 750 = .ok (.iconst 0, 1) := by decide +kernel
theorem dLW_law_751 : decode cLW_law 751 = .ok (.ireturn, 1) := by decide +kernel
theorem dLW_law_752 : decode cLW_law 752 = .ok (.goto 150, 3) := by decide +kernel
theorem dLW_law_755 : decode cLW_law 755 = .ok (.aload_n 1, 1) := by decide +kernel
theorem dLW_law_756 : decode cLW_law 756 = .ok (.aload_n 0, 1) := by decide +kernel
theorem dLW_law_757 : decode cLW_law 757 = .ok (.iload 4, 2) := by decide +kernel
theorem dLW_law_759 : decode cLW_law 759 = .ok (.iconst 1, 1) := by decide +kernel
theorem dLW_law_760 : decode cLW_law 760 = .ok (.iadd, 1) := by decide +kernel
theorem dLW_law_761 : decode cLW_law 761 = .ok (.iaload, 1) := by decide +kernel
theorem dLW_law_762 : decode cLW_law 762 = .ok (.aload_n 0, 1) := by decide +kernel
theorem dLW_law_763 : decode cLW_law 763 = .ok (.iload 4, 2) := by decide +kernel
theorem dLW_law_765 : decode cLW_law 765 = .ok (.iconst 2, 1) := by decide +kernel
theorem dLW_law_766 : decode cLW_law 766 = .ok (.iadd, 1) := by decide +kernel
theorem dLW_law_767 : decode cLW_law 767 = .ok (.iaload, 1) := by decide +kernel
theorem dLW_law_768 : decode cLW_law 768 = .ok (.aload_n 3, 1) := by decide +kernel
theorem dLW_law_769 : decode cLW_law 769 = .ok (.invokestatic 95, 3) := by decide +kernel
theorem dLW_law_772 : decode cLW_law 772 = .ok (.istore 5, 2) := by decide +kernel
theorem dLW_law_774 : decode cLW_law 774 = .ok (.aload_n 2, 1) := by decide +kernel
theorem dLW_law_775 : decode cLW_law 775 = .ok (.aload_n 0, 1) := by decide +kernel
theorem dLW_law_776 : decode cLW_law 776 = .ok (.iload 4, 2) := by decide +kernel
theorem dLW_law_778 : decode cLW_law 778 = .ok (.iconst 1, 1) := by decide +kernel
theorem dLW_law_779 : decode cLW_law 779 = .ok (.iadd, 1) := by decide +kernel
theorem dLW_law_780 : decode cLW_law 780 = .ok (.iaload, 1) := by decide +kernel
theorem dLW_law_781 : decode cLW_law 781 = .ok (.aload_n 0, 1) := by decide +kernel
theorem dLW_law_782 : decode cLW_law 782 = .ok (.iload 4, 2) := by decide +kernel
theorem dLW_law_784 : decode cLW_law 784 = .ok (.iconst 2, 1) := by decide +kernel
theorem dLW_law_785 : decode cLW_law 785 = .ok (.iadd, 1) := by decide +kernel
theorem dLW_law_786 : decode cLW_law 786 = .ok (.iaload, 1) := by decide +kernel
theorem dLW_law_787 : decode cLW_law 787 = .ok (.invokevirtual 97, 3) := by decide +kernel
theorem dLW_law_790 : decode cLW_law 790 = .ok (.lstore 6, 2) := by decide +kernel
theorem dLW_law_792 : decode cLW_law 792 = .ok (.aload_n 2, 1) := by decide +kernel
theorem dLW_law_793 : decode cLW_law 793 = .ok (.invokevirtual 64, 3) := by decide +kernel
theorem dLW_law_796 : decode cLW_law 796 = .ok (.iload 5, 2) := by decide +kernel
theorem dLW_law_798 : decode cLW_law 798 = .ok (.if_icmp .eq 5, 3) := by decide +kernel
theorem dLW_law_801 : decode cLW_law 801 = .ok (.iconst 0, 1) := by decide +kernel
theorem dLW_law_802 : decode cLW_law 802 = .ok (.ireturn, 1) := by decide +kernel
theorem dLW_law_803 : decode cLW_law 803 = .ok (.iload 5, 2) := by decide +kernel
theorem dLW_law_805 : decode cLW_law 805 = .ok (.ifCond .ne 14, 3) := by decide +kernel
theorem dLW_law_808 : decode cLW_law 808 = .ok (.aload_n 3, 1) := by decide +kernel
theorem dLW_law_809 : decode cLW_law 809 = .ok (.iconst 0, 1) := by decide +kernel
theorem dLW_law_810 : decode cLW_law 810 = .ok (.laload, 1) := by decide +kernel
theorem dLW_law_811 : decode cLW_law 811 = .ok (.lload 6, 2) := by decide +kernel
theorem dLW_law_813 : decode cLW_law 813 = .ok (.lcmp, 1) := by decide +kernel
theorem dLW_law_814 : decode cLW_law 814 = .ok (.ifCond .eq 5, 3) := by decide +kernel
theorem dLW_law_817 : decode cLW_law 817 = .ok (.iconst 0, 1) := by decide +kernel
theorem dLW_law_818 : decode cLW_law 818 = .ok (.ireturn, 1) := by decide +kernel
theorem dLW_law_819 : decode cLW_law 819 = .ok (.goto 83, 3) := by decide +kernel
theorem dLW_law_822 : decode cLW_law 822 = .ok (.aload_n 1, 1) := by decide +kernel
theorem dLW_law_823 : decode cLW_law 823 = .ok (.aload_n 0, 1) := by decide +kernel
theorem dLW_law_824 : decode cLW_law 824 = .ok (.iload 4, 2) := by decide +kernel
theorem dLW_law_826 : decode cLW_law 826 = .ok (.iconst 1, 1) := by decide +kernel
theorem dLW_law_827 : decode cLW_law 827 = .ok (.iadd, 1) := by decide +kernel
theorem dLW_law_828 : decode cLW_law 828 = .ok (.iaload, 1) := by decide +kernel
theorem dLW_law_829 : decode cLW_law 829 = .ok (.aload_n 0, 1) := by decide +kernel
theorem dLW_law_830 : decode cLW_law 830 = .ok (.iload 4, 2) := by decide +kernel
theorem dLW_law_832 : decode cLW_law 832 = .ok (.iconst 2, 1) := by decide +kernel
theorem dLW_law_833 : decode cLW_law 833 = .ok (.iadd, 1) := by decide +kernel
theorem dLW_law_834 : decode cLW_law 834 = .ok (.iaload, 1) := by decide +kernel
theorem dLW_law_835 : decode cLW_law 835 = .ok (.aload_n 3, 1) := by decide +kernel
theorem dLW_law_836 : decode cLW_law 836 = .ok (.invokestatic 98, 3) := by decide +kernel
theorem dLW_law_839 : decode cLW_law 839 = .ok (.istore 5, 2) := by decide +kernel
theorem dLW_law_841 : decode cLW_law 841 = .ok (.aload_n 2, 1) := by decide +kernel
theorem dLW_law_842 : decode cLW_law 842 = .ok (.aload_n 0, 1) := by decide +kernel
theorem dLW_law_843 : decode cLW_law 843 = .ok (.iload 4, 2) := by decide +kernel
theorem dLW_law_845 : decode cLW_law 845 = .ok (.iconst 1, 1) := by decide +kernel
theorem dLW_law_846 : decode cLW_law 846 = .ok (.iadd, 1) := by decide +kernel
theorem dLW_law_847 : decode cLW_law 847 = .ok (.iaload, 1) := by decide +kernel
theorem dLW_law_848 : decode cLW_law 848 = .ok (.aload_n 0, 1) := by decide +kernel
theorem dLW_law_849 : decode cLW_law 849 = .ok (.iload 4, 2) := by decide +kernel
theorem dLW_law_851 : decode cLW_law 851 = .ok (.iconst 2, 1) := by decide +kernel
theorem dLW_law_852 : decode cLW_law 852 = .ok (.iadd, 1) := by decide +kernel
theorem dLW_law_853 : decode cLW_law 853 = .ok (.iaload, 1) := by decide +kernel
theorem dLW_law_854 : decode cLW_law 854 = .ok (.invokevirtual 100, 3) := by decide +kernel
theorem dLW_law_857 : decode cLW_law 857 = .ok (.lstore 6, 2) := by decide +kernel
theorem dLW_law_859 : decode cLW_law 859 = .ok (.aload_n 2, 1) := by decide +kernel
theorem dLW_law_860 : decode cLW_law 860 = .ok (.invokevirtual 64, 3) := by decide +kernel
theorem dLW_law_863 : decode cLW_law 863 = .ok (.iload 5, 2) := by decide +kernel
theorem dLW_law_865 : decode cLW_law 865 = .ok (.if_icmp .eq 5, 3) := by decide +kernel
theorem dLW_law_868 : decode cLW_law 868 = .ok (.iconst 0, 1) := by decide +kernel
theorem dLW_law_869 : decode cLW_law 869 = .ok (.ireturn, 1) := by decide +kernel
theorem dLW_law_870 : decode cLW_law 870 = .ok (.iload 5, 2) := by decide +kernel
theorem dLW_law_872 : decode cLW_law 872 = .ok (.ifCond .ne 14, 3) := by decide +kernel
theorem dLW_law_875 : decode cLW_law 875 = .ok (.aload_n 3, 1) := by decide +kernel
theorem dLW_law_876 : decode cLW_law 876 = .ok (.iconst 0, 1) := by decide +kernel
theorem dLW_law_877 : decode cLW_law 877 = .ok (.laload, 1) := by decide +kernel
theorem dLW_law_878 : decode cLW_law 878 = .ok (.lload 6, 2) := by decide +kernel
theorem dLW_law_880 : decode cLW_law 880 = .ok (.lcmp, 1) := by decide +kernel
theorem dLW_law_881 : decode cLW_law 881 = .ok (.ifCond .eq 5, 3) := by decide +kernel
theorem dLW_law_884 : decode cLW_law 884 = .ok (.iconst 0, 1) := by decide +kernel
theorem dLW_law_885 : decode cLW_law 885 = .ok (.ireturn, 1) := by decide +kernel
theorem dLW_law_886 : decode cLW_law 886 = .ok (.goto 16, 3) := by decide +kernel
theorem dLW_law_889 : decode cLW_law 889 = .ok (.aload_n 1, 1) := by decide +kernel
theorem dLW_law_890 : decode cLW_law 890 = .ok (.invokevirtual 101, 3) := by decide +kernel
theorem dLW_law_893 : decode cLW_law 893 = .ok (.aload_n 2, 1) := by decide +kernel
theorem dLW_law_894 : decode cLW_law 894 = .ok (.invokevirtual 105, 3) := by decide +kernel
theorem dLW_law_897 : decode cLW_law 897 = .ok (.if_icmp .eq 5, 3) := by decide +kernel
theorem dLW_law_900 : decode cLW_law 900 = .ok (.iconst 0, 1) := by decide +kernel
theorem dLW_law_901 : decode cLW_law 901 = .ok (.ireturn, 1) := by decide +kernel
theorem dLW_law_902 : decode cLW_law 902 = .ok (.iinc 4 5, 3) := by decide +kernel
theorem dLW_law_905 : decode cLW_law 905 = .ok (.goto (-882), 3) := by decide +kernel
theorem dLW_law_908 : decode cLW_law 908 = .ok (.iconst 1, 1) := by decide +kernel
theorem dLW_law_909 : decode cLW_law 909 = .ok (.ireturn, 1) := by decide +kernel
