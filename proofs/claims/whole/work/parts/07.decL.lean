theorem d_L_word_0 : decode b_L_word 0 = .ok (.aload_n 3, 1) := by decide +kernel
theorem d_L_word_1 : decode b_L_word 1 = .ok (.iconst 0, 1) := by decide +kernel
theorem d_L_word_2 : decode b_L_word 2 = .ok (.aload_n 0, 1) := by decide +kernel
theorem d_L_word_3 : decode b_L_word 3 = .ok (.iload_n 1, 1) := by decide +kernel
theorem d_L_word_4 : decode b_L_word 4 = .ok (.iload_n 2, 1) := by decide +kernel
theorem d_L_word_5 : decode b_L_word 5 = .ok (.invokevirtual 7, 3) := by decide +kernel
theorem d_L_word_8 : decode b_L_word 8 = .ok (.i2l, 1) := by decide +kernel
theorem d_L_word_9 : decode b_L_word 9 = .ok (.lastore, 1) := by decide +kernel
theorem d_L_word_10 : decode b_L_word 10 = .ok (.goto 7, 3) := by decide +kernel
theorem d_L_word_13 : decode b_L_word 13 = .ok (.astore 4, 2) := by decide +kernel
theorem d_L_word_15 : decode b_L_word 15 = .ok (.iconst 1, 1) := by decide +kernel
theorem d_L_word_16 : decode b_L_word 16 = .ok (.ireturn, 1) := by decide +kernel
theorem d_L_word_17 : decode b_L_word 17 = .ok (.iconst 0, 1) := by decide +kernel
theorem d_L_word_18 : decode b_L_word 18 = .ok (.ireturn, 1) := by decide +kernel
theorem d_L_frame_0 : decode b_L_frame 0 = .ok (.aload_n 0, 1) := by decide +kernel
theorem d_L_frame_1 : decode b_L_frame 1 = .ok (.iload_n 1, 1) := by decide +kernel
theorem d_L_frame_2 : decode b_L_frame 2 = .ok (.iload_n 2, 1) := by decide +kernel
theorem d_L_frame_3 : decode b_L_frame 3 = .ok (.invokevirtual 15, 3) := by decide +kernel
theorem d_L_frame_6 : decode b_L_frame 6 = .ok (.goto 6, 3) := by decide +kernel
theorem d_L_frame_9 : decode b_L_frame 9 = .ok (.astore_n 3, 1) := by decide +kernel
theorem d_L_frame_10 : decode b_L_frame 10 = .ok (.iconst 1, 1) := by decide +kernel
theorem d_L_frame_11 : decode b_L_frame 11 = .ok (.ireturn, 1) := by decide +kernel
theorem d_L_frame_12 : decode b_L_frame 12 = .ok (.iconst 0, 1) := by decide +kernel
theorem d_L_frame_13 : decode b_L_frame 13 = .ok (.ireturn, 1) := by decide +kernel
theorem d_L_put_0 : decode b_L_put 0 = .ok (.aload_n 2, 1) := by decide +kernel
theorem d_L_put_1 : decode b_L_put 1 = .ok (.iconst 0, 1) := by decide +kernel
theorem d_L_put_2 : decode b_L_put 2 = .ok (.aload_n 0, 1) := by decide +kernel
theorem d_L_put_3 : decode b_L_put 3 = .ok (.iload_n 1, 1) := by decide +kernel
theorem d_L_put_4 : decode b_L_put 4 = .ok (.invokevirtual 21, 3) := by decide +kernel
theorem d_L_put_7 : decode b_L_put 7 = .ok (.i2l, 1) := by decide +kernel
theorem d_L_put_8 : decode b_L_put 8 = .ok (.lastore, 1) := by decide +kernel
theorem d_L_put_9 : decode b_L_put 9 = .ok (.goto 6, 3) := by decide +kernel
theorem d_L_put_12 : decode b_L_put 12 = .ok (.astore_n 3, 1) := by decide +kernel
theorem d_L_put_13 : decode b_L_put 13 = .ok (.iconst 1, 1) := by decide +kernel
theorem d_L_put_14 : decode b_L_put 14 = .ok (.ireturn, 1) := by decide +kernel
theorem d_L_put_15 : decode b_L_put 15 = .ok (.iconst 0, 1) := by decide +kernel
theorem d_L_put_16 : decode b_L_put 16 = .ok (.ireturn, 1) := by decide +kernel
theorem d_L_next_0 : decode b_L_next 0 = .ok (.aload_n 1, 1) := by decide +kernel
theorem d_L_next_1 : decode b_L_next 1 = .ok (.iconst 0, 1) := by decide +kernel
theorem d_L_next_2 : decode b_L_next 2 = .ok (.aload_n 0, 1) := by decide +kernel
theorem d_L_next_3 : decode b_L_next 3 = .ok (.invokevirtual 27, 3) := by decide +kernel
theorem d_L_next_6 : decode b_L_next 6 = .ok (.i2l, 1) := by decide +kernel
theorem d_L_next_7 : decode b_L_next 7 = .ok (.lastore, 1) := by decide +kernel
theorem d_L_next_8 : decode b_L_next 8 = .ok (.goto 6, 3) := by decide +kernel
theorem d_L_next_11 : decode b_L_next 11 = .ok (.astore_n 2, 1) := by decide +kernel
theorem d_L_next_12 : decode b_L_next 12 = .ok (.iconst 1, 1) := by decide +kernel
theorem d_L_next_13 : decode b_L_next 13 = .ok (.ireturn, 1) := by decide +kernel
theorem d_L_next_14 : decode b_L_next 14 = .ok (.iconst 0, 1) := by decide +kernel
theorem d_L_next_15 : decode b_L_next 15 = .ok (.ireturn, 1) := by decide +kernel
theorem d_L_argument_0 : decode b_L_argument 0 = .ok (.aload_n 2, 1) := by decide +kernel
theorem d_L_argument_1 : decode b_L_argument 1 = .ok (.iconst 0, 1) := by decide +kernel
theorem d_L_argument_2 : decode b_L_argument 2 = .ok (.aload_n 0, 1) := by decide +kernel
theorem d_L_argument_3 : decode b_L_argument 3 = .ok (.iload_n 1, 1) := by decide +kernel
theorem d_L_argument_4 : decode b_L_argument 4 = .ok (.invokevirtual 33, 3) := by decide +kernel
theorem d_L_argument_7 : decode b_L_argument 7 = .ok (.i2l, 1) := by decide +kernel
theorem d_L_argument_8 : decode b_L_argument 8 = .ok (.lastore, 1) := by decide +kernel
theorem d_L_argument_9 : decode b_L_argument 9 = .ok (.goto 6, 3) := by decide +kernel
theorem d_L_argument_12 : decode b_L_argument 12 = .ok (.astore_n 3, 1) := by decide +kernel
theorem d_L_argument_13 : decode b_L_argument 13 = .ok (.iconst 1, 1) := by decide +kernel
theorem d_L_argument_14 : decode b_L_argument 14 = .ok (.ireturn, 1) := by decide +kernel
theorem d_L_argument_15 : decode b_L_argument 15 = .ok (.iconst 0, 1) := by decide +kernel
theorem d_L_argument_16 : decode b_L_argument 16 = .ok (.ireturn, 1) := by decide +kernel
theorem d_L_kept_0 : decode b_L_kept 0 = .ok (.aload 4, 2) := by decide +kernel
theorem d_L_kept_2 : decode b_L_kept 2 = .ok (.iconst 0, 1) := by decide +kernel
theorem d_L_kept_3 : decode b_L_kept 3 = .ok (.aload_n 0, 1) := by decide +kernel
theorem d_L_kept_4 : decode b_L_kept 4 = .ok (.iload_n 1, 1) := by decide +kernel
theorem d_L_kept_5 : decode b_L_kept 5 = .ok (.iload_n 2, 1) := by decide +kernel
theorem d_L_kept_6 : decode b_L_kept 6 = .ok (.iload_n 3, 1) := by decide +kernel
theorem d_L_kept_7 : decode b_L_kept 7 = .ok (.invokevirtual 36, 3) := by decide +kernel
theorem d_L_kept_10 : decode b_L_kept 10 = .ok (.i2l, 1) := by decide +kernel
theorem d_L_kept_11 : decode b_L_kept 11 = .ok (.lastore, 1) := by decide +kernel
theorem d_L_kept_12 : decode b_L_kept 12 = .ok (.goto 7, 3) := by decide +kernel
theorem d_L_kept_15 : decode b_L_kept 15 = .ok (.astore 5, 2) := by decide +kernel
theorem d_L_kept_17 : decode b_L_kept 17 = .ok (.iconst 1, 1) := by decide +kernel
theorem d_L_kept_18 : decode b_L_kept 18 = .ok (.ireturn, 1) := by decide +kernel
theorem d_L_kept_19 : decode b_L_kept 19 = .ok (.iconst 0, 1) := by decide +kernel
theorem d_L_kept_20 : decode b_L_kept 20 = .ok (.ireturn, 1) := by decide +kernel
theorem d_L_about_0 : decode b_L_about 0 = .ok (.aload_n 2, 1) := by decide +kernel
theorem d_L_about_1 : decode b_L_about 1 = .ok (.iconst 0, 1) := by decide +kernel
theorem d_L_about_2 : decode b_L_about 2 = .ok (.aload_n 0, 1) := by decide +kernel
theorem d_L_about_3 : decode b_L_about 3 = .ok (.iload_n 1, 1) := by decide +kernel
theorem d_L_about_4 : decode b_L_about 4 = .ok (.invokevirtual 40, 3) := by decide +kernel
theorem d_L_about_7 : decode b_L_about 7 = .ok (.i2l, 1) := by decide +kernel
theorem d_L_about_8 : decode b_L_about 8 = .ok (.lastore, 1) := by decide +kernel
theorem d_L_about_9 : decode b_L_about 9 = .ok (.goto 6, 3) := by decide +kernel
theorem d_L_about_12 : decode b_L_about 12 = .ok (.astore_n 3, 1) := by decide +kernel
theorem d_L_about_13 : decode b_L_about 13 = .ok (.iconst 1, 1) := by decide +kernel
theorem d_L_about_14 : decode b_L_about 14 = .ok (.ireturn, 1) := by decide +kernel
theorem d_L_about_15 : decode b_L_about 15 = .ok (.iconst 0, 1) := by decide +kernel
theorem d_L_about_16 : decode b_L_about 16 = .ok (.ireturn, 1) := by decide +kernel
theorem d_L_law_0 : decode b_L_law 0 = .ok (.new 8, 3) := by decide +kernel
theorem d_L_law_3 : decode b_L_law 3 = .ok (.dup, 1) := by decide +kernel
theorem d_L_law_4 : decode b_L_law 4 = .ok (.invokespecial 43, 3) := by decide +kernel
theorem d_L_law_7 : decode b_L_law 7 = .ok (.astore_n 1, 1) := by decide +kernel
theorem d_L_law_8 : decode b_L_law 8 = .ok (.new 44, 3) := by decide +kernel
theorem d_L_law_11 : decode b_L_law 11 = .ok (.dup, 1) := by decide +kernel
theorem d_L_law_12 : decode b_L_law 12 = .ok (.invokespecial 46, 3) := by decide +kernel
theorem d_L_law_15 : decode b_L_law 15 = .ok (.astore_n 2, 1) := by decide +kernel
theorem d_L_law_16 : decode b_L_law 16 = .ok (.iconst 1, 1) := by decide +kernel
theorem d_L_law_17 : decode b_L_law 17 = .ok (.newarray .long, 2) := by decide +kernel
theorem d_L_law_19 : decode b_L_law 19 = .ok (.astore_n 3, 1) := by decide +kernel
theorem d_L_law_20 : decode b_L_law 20 = .ok (.iconst 0, 1) := by decide +kernel
theorem d_L_law_21 : decode b_L_law 21 = .ok (.istore 4, 2) := by decide +kernel
theorem d_L_law_23 : decode b_L_law 23 = .ok (.iload 4, 2) := by decide +kernel
theorem d_L_law_25 : decode b_L_law 25 = .ok (.aload_n 0, 1) := by decide +kernel
theorem d_L_law_26 : decode b_L_law 26 = .ok (.arraylength, 1) := by decide +kernel
theorem d_L_law_27 : decode b_L_law 27 = .ok (.iconst 4, 1) := by decide +kernel
theorem d_L_law_28 : decode b_L_law 28 = .ok (.isub, 1) := by decide +kernel
theorem d_L_law_29 : decode b_L_law 29 = .ok (.if_icmp .gt 523, 3) := by decide +kernel
theorem d_L_law_32 : decode b_L_law 32 = .ok (.aload_n 0, 1) := by decide +kernel
theorem d_L_law_33 : decode b_L_law 33 = .ok (.iload 4, 2) := by decide +kernel
theorem d_L_law_35 : decode b_L_law 35 = .ok (.iaload, 1) := by decide +kernel
theorem d_L_law_36 : decode b_L_law 36 = .ok (.bipush 15, 2) := by decide +kernel
theorem d_L_law_38 : decode b_L_law 38 = .ok (.iand, 1) := by decide +kernel
theorem d_L_law_39 : decode b_L_law 39 = .ok (.tableswitch 507 0 8 #[49, 117, 165, 221, 232, 271, 315, 371, 451], 49) := by decide +kernel
theorem d_L_law_88 : decode b_L_law 88 = .ok (.aload_n 1, 1) := by decide +kernel
theorem d_L_law_89 : decode b_L_law 89 = .ok (.aload_n 0, 1) := by decide +kernel
theorem d_L_law_90 : decode b_L_law 90 = .ok (.iload 4, 2) := by decide +kernel
theorem d_L_law_92 : decode b_L_law 92 = .ok (.iconst 1, 1) := by decide +kernel
theorem d_L_law_93 : decode b_L_law 93 = .ok (.iadd, 1) := by decide +kernel
theorem d_L_law_94 : decode b_L_law 94 = .ok (.iaload, 1) := by decide +kernel
theorem d_L_law_95 : decode b_L_law 95 = .ok (.aload_n 0, 1) := by decide +kernel
theorem d_L_law_96 : decode b_L_law 96 = .ok (.iload 4, 2) := by decide +kernel
theorem d_L_law_98 : decode b_L_law 98 = .ok (.iconst 2, 1) := by decide +kernel
theorem d_L_law_99 : decode b_L_law 99 = .ok (.iadd, 1) := by decide +kernel
theorem d_L_law_100 : decode b_L_law 100 = .ok (.iaload, 1) := by decide +kernel
theorem d_L_law_101 : decode b_L_law 101 = .ok (.aload_n 3, 1) := by decide +kernel
theorem d_L_law_102 : decode b_L_law 102 = .ok (.invokestatic 47, 3) := by decide +kernel
theorem d_L_law_105 : decode b_L_law 105 = .ok (.istore 5, 2) := by decide +kernel
theorem d_L_law_107 : decode b_L_law 107 = .ok (.aload_n 2, 1) := by decide +kernel
theorem d_L_law_108 : decode b_L_law 108 = .ok (.aload_n 0, 1) := by decide +kernel
theorem d_L_law_109 : decode b_L_law 109 = .ok (.iload 4, 2) := by decide +kernel
theorem d_L_law_111 : decode b_L_law 111 = .ok (.iconst 1, 1) := by decide +kernel
theorem d_L_law_112 : decode b_L_law 112 = .ok (.iadd, 1) := by decide +kernel
theorem d_L_law_113 : decode b_L_law 113 = .ok (.iaload, 1) := by decide +kernel
theorem d_L_law_114 : decode b_L_law 114 = .ok (.aload_n 0, 1) := by decide +kernel
theorem d_L_law_115 : decode b_L_law 115 = .ok (.iload 4, 2) := by decide +kernel
theorem d_L_law_117 : decode b_L_law 117 = .ok (.iconst 2, 1) := by decide +kernel
theorem d_L_law_118 : decode b_L_law 118 = .ok (.iadd, 1) := by decide +kernel
theorem d_L_law_119 : decode b_L_law 119 = .ok (.iaload, 1) := by decide +kernel
theorem d_L_law_120 : decode b_L_law 120 = .ok (.invokevirtual 52, 3) := by decide +kernel
theorem d_L_law_123 : decode b_L_law 123 = .ok (.istore 6, 2) := by decide +kernel
theorem d_L_law_125 : decode b_L_law 125 = .ok (.aload_n 2, 1) := by decide +kernel
theorem d_L_law_126 : decode b_L_law 126 = .ok (.invokevirtual 53, 3) := by decide +kernel
theorem d_L_law_129 : decode b_L_law 129 = .ok (.iload 5, 2) := by decide +kernel
theorem d_L_law_131 : decode b_L_law 131 = .ok (.if_icmp .eq 5, 3) := by decide +kernel
theorem d_L_law_134 : decode b_L_law 134 = .ok (.iconst 0, 1) := by decide +kernel
theorem d_L_law_135 : decode b_L_law 135 = .ok (.ireturn, 1) := by decide +kernel
theorem d_L_law_136 : decode b_L_law 136 = .ok (.iload 5, 2) := by decide +kernel
theorem d_L_law_138 : decode b_L_law 138 = .ok (.ifCond .ne 15, 3) := by decide +kernel
theorem d_L_law_141 : decode b_L_law 141 = .ok (.aload_n 3, 1) := by decide +kernel
theorem d_L_law_142 : decode b_L_law 142 = .ok (.iconst 0, 1) := by decide +kernel
theorem d_L_law_143 : decode b_L_law 143 = .ok (.laload, 1) := by decide +kernel
theorem d_L_law_144 : decode b_L_law 144 = .ok (.iload 6, 2) := by decide +kernel
theorem d_L_law_146 : decode b_L_law 146 = .ok (.i2l, 1) := by decide +kernel
theorem d_L_law_147 : decode b_L_law 147 = .ok (.lcmp, 1) := by decide +kernel
theorem d_L_law_148 : decode b_L_law 148 = .ok (.ifCond .eq 5, 3) := by decide +kernel
theorem d_L_law_151 : decode b_L_law 151 = .ok (.iconst 0, 1) := by decide +kernel
theorem d_L_law_152 : decode b_L_law 152 = .ok (.ireturn, 1) := by decide +kernel
theorem d_L_law_153 : decode b_L_law 153 = .ok (.goto 393, 3) := by decide +kernel
theorem d_L_law_156 : decode b_L_law 156 = .ok (.aload_n 1, 1) := by decide +kernel
theorem d_L_law_157 : decode b_L_law 157 = .ok (.aload_n 0, 1) := by decide +kernel
theorem d_L_law_158 : decode b_L_law 158 = .ok (.iload 4, 2) := by decide +kernel
theorem d_L_law_160 : decode b_L_law 160 = .ok (.iconst 1, 1) := by decide +kernel
theorem d_L_law_161 : decode b_L_law 161 = .ok (.iadd, 1) := by decide +kernel
theorem d_L_law_162 : decode b_L_law 162 = .ok (.iaload, 1) := by decide +kernel
theorem d_L_law_163 : decode b_L_law 163 = .ok (.aload_n 0, 1) := by decide +kernel
theorem d_L_law_164 : decode b_L_law 164 = .ok (.iload 4, 2) := by decide +kernel
theorem d_L_law_166 : decode b_L_law 166 = .ok (.iconst 2, 1) := by decide +kernel
theorem d_L_law_167 : decode b_L_law 167 = .ok (.iadd, 1) := by decide +kernel
theorem d_L_law_168 : decode b_L_law 168 = .ok (.iaload, 1) := by decide +kernel
theorem d_L_law_169 : decode b_L_law 169 = .ok (.invokestatic 56, 3) := by decide +kernel
theorem d_L_law_172 : decode b_L_law 172 = .ok (.istore 5, 2) := by decide +kernel
theorem d_L_law_174 : decode b_L_law 174 = .ok (.aload_n 2, 1) := by decide +kernel
theorem d_L_law_175 : decode b_L_law 175 = .ok (.aload_n 0, 1) := by decide +kernel
theorem d_L_law_176 : decode b_L_law 176 = .ok (.iload 4, 2) := by decide +kernel
theorem d_L_law_178 : decode b_L_law 178 = .ok (.iconst 1, 1) := by decide +kernel
theorem d_L_law_179 : decode b_L_law 179 = .ok (.iadd, 1) := by decide +kernel
theorem d_L_law_180 : decode b_L_law 180 = .ok (.iaload, 1) := by decide +kernel
theorem d_L_law_181 : decode b_L_law 181 = .ok (.aload_n 0, 1) := by decide +kernel
theorem d_L_law_182 : decode b_L_law 182 = .ok (.iload 4, 2) := by decide +kernel
theorem d_L_law_184 : decode b_L_law 184 = .ok (.iconst 2, 1) := by decide +kernel
theorem d_L_law_185 : decode b_L_law 185 = .ok (.iadd, 1) := by decide +kernel
theorem d_L_law_186 : decode b_L_law 186 = .ok (.iaload, 1) := by decide +kernel
theorem d_L_law_187 : decode b_L_law 187 = .ok (.invokevirtual 59, 3) := by decide +kernel
theorem d_L_law_190 : decode b_L_law 190 = .ok (.aload_n 2, 1) := by decide +kernel
theorem d_L_law_191 : decode b_L_law 191 = .ok (.invokevirtual 53, 3) := by decide +kernel
theorem d_L_law_194 : decode b_L_law 194 = .ok (.iload 5, 2) := by decide +kernel
theorem d_L_law_196 : decode b_L_law 196 = .ok (.if_icmp .eq 5, 3) := by decide +kernel
theorem d_L_law_199 : decode b_L_law 199 = .ok (.iconst 0, 1) := by decide +kernel
theorem d_L_law_200 : decode b_L_law 200 = .ok (.ireturn, 1) := by decide +kernel
theorem d_L_law_201 : decode b_L_law 201 = .ok (.goto 345, 3) := by decide +kernel
theorem d_L_law_204 : decode b_L_law 204 = .ok (.aload_n 1, 1) := by decide +kernel
theorem d_L_law_205 : decode b_L_law 205 = .ok (.aload_n 0, 1) := by decide +kernel
theorem d_L_law_206 : decode b_L_law 206 = .ok (.iload 4, 2) := by decide +kernel
theorem d_L_law_208 : decode b_L_law 208 = .ok (.iconst 1, 1) := by decide +kernel
theorem d_L_law_209 : decode b_L_law 209 = .ok (.iadd, 1) := by decide +kernel
theorem d_L_law_210 : decode b_L_law 210 = .ok (.iaload, 1) := by decide +kernel
theorem d_L_law_211 : decode b_L_law 211 = .ok (.aload_n 3, 1) := by decide +kernel
theorem d_L_law_212 : decode b_L_law 212 = .ok (.invokestatic 60, 3) := by decide +kernel
theorem d_L_law_215 : decode b_L_law 215 = .ok (.istore 5, 2) := by decide +kernel
theorem d_L_law_217 : decode b_L_law 217 = .ok (.aload_n 2, 1) := by decide +kernel
theorem d_L_law_218 : decode b_L_law 218 = .ok (.aload_n 0, 1) := by decide +kernel
theorem d_L_law_219 : decode b_L_law 219 = .ok (.iload 4, 2) := by decide +kernel
theorem d_L_law_221 : decode b_L_law 221 = .ok (.iconst 1, 1) := by decide +kernel
theorem d_L_law_222 : decode b_L_law 222 = .ok (.iadd, 1) := by decide +kernel
theorem d_L_law_223 : decode b_L_law 223 = .ok (.iaload, 1) := by decide +kernel
theorem d_L_law_224 : decode b_L_law 224 = .ok (.invokevirtual 63, 3) := by decide +kernel
theorem d_L_law_227 : decode b_L_law 227 = .ok (.istore 6, 2) := by decide +kernel
theorem d_L_law_229 : decode b_L_law 229 = .ok (.aload_n 2, 1) := by decide +kernel
theorem d_L_law_230 : decode b_L_law 230 = .ok (.invokevirtual 53, 3) := by decide +kernel
theorem d_L_law_233 : decode b_L_law 233 = .ok (.iload 5, 2) := by decide +kernel
theorem d_L_law_235 : decode b_L_law 235 = .ok (.if_icmp .eq 5, 3) := by decide +kernel
theorem d_L_law_238 : decode b_L_law 238 = .ok (.iconst 0, 1) := by decide +kernel
theorem d_L_law_239 : decode b_L_law 239 = .ok (.ireturn, 1) := by decide +kernel
theorem d_L_law_240 : decode b_L_law 240 = .ok (.iload 5, 2) := by decide +kernel
theorem d_L_law_242 : decode b_L_law 242 = .ok (.ifCond .ne 15, 3) := by decide +kernel
theorem d_L_law_245 : decode b_L_law 245 = .ok (.aload_n 3, 1) := by decide +kernel
theorem d_L_law_246 : decode b_L_law 246 = .ok (.iconst 0, 1) := by decide +kernel
theorem d_L_law_247 : decode b_L_law 247 = .ok (.laload, 1) := by decide +kernel
theorem d_L_law_248 : decode b_L_law 248 = .ok (.iload 6, 2) := by decide +kernel
theorem d_L_law_250 : decode b_L_law 250 = .ok (.i2l, 1) := by decide +kernel
theorem d_L_law_251 : decode b_L_law 251 = .ok (.lcmp, 1) := by decide +kernel
theorem d_L_law_252 : decode b_L_law 252 = .ok (.ifCond .eq 5, 3) := by decide +kernel
theorem d_L_law_255 : decode b_L_law 255 = .ok (.iconst 0, 1) := by decide +kernel
theorem d_L_law_256 : decode b_L_law 256 = .ok (.ireturn, 1) := by decide +kernel
theorem d_L_law_257 : decode b_L_law 257 = .ok (.goto 289, 3) := by decide +kernel
theorem d_L_law_260 : decode b_L_law 260 = .ok (.aload_n 1, 1) := by decide +kernel
theorem d_L_law_261 : decode b_L_law 261 = .ok (.invokevirtual 64, 3) := by decide +kernel
theorem d_L_law_264 : decode b_L_law 264 = .ok (.aload_n 2, 1) := by decide +kernel
theorem d_L_law_265 : decode b_L_law 265 = .ok (.invokevirtual 67, 3) := by decide +kernel
theorem d_L_law_268 : decode b_L_law 268 = .ok (.goto 278, 3) := by decide +kernel
theorem d_L_law_271 : decode b_L_law 271 = .ok (.aload_n 1, 1) := by decide +kernel
theorem d_L_law_272 : decode b_L_law 272 = .ok (.aload_n 0, 1) := by decide +kernel
theorem d_L_law_273 : decode b_L_law 273 = .ok (.iload 4, 2) := by decide +kernel
theorem d_L_law_275 : decode b_L_law 275 = .ok (.iconst 1, 1) := by decide +kernel
theorem d_L_law_276 : decode b_L_law 276 = .ok (.iadd, 1) := by decide +kernel
theorem d_L_law_277 : decode b_L_law 277 = .ok (.iaload, 1) := by decide +kernel
theorem d_L_law_278 : decode b_L_law 278 = .ok (.ifCond .eq 7, 3) := by decide +kernel
theorem d_L_law_281 : decode b_L_law 281 = .ok (.iconst 1, 1) := by decide +kernel
theorem d_L_law_282 : decode b_L_law 282 = .ok (.goto 4, 3) := by decide +kernel
theorem d_L_law_285 : decode b_L_law 285 = .ok (.iconst 0, 1) := by decide +kernel
theorem d_L_law_286 : decode b_L_law 286 = .ok (.invokevirtual 68, 3) := by decide +kernel
theorem d_L_law_289 : decode b_L_law 289 = .ok (.aload_n 2, 1) := by decide +kernel
theorem d_L_law_290 : decode b_L_law 290 = .ok (.aload_n 0, 1) := by decide +kernel
theorem d_L_law_291 : decode b_L_law 291 = .ok (.iload 4, 2) := by decide +kernel
theorem d_L_law_293 : decode b_L_law 293 = .ok (.iconst 1, 1) := by decide +kernel
theorem d_L_law_294 : decode b_L_law 294 = .ok (.iadd, 1) := by decide +kernel
theorem d_L_law_295 : decode b_L_law 295 = .ok (.iaload, 1) := by decide +kernel
theorem d_L_law_296 : decode b_L_law 296 = .ok (.ifCond .eq 7, 3) := by decide +kernel
theorem d_L_law_299 : decode b_L_law 299 = .ok (.iconst 1, 1) := by decide +kernel
theorem d_L_law_300 : decode b_L_law 300 = .ok (.goto 4, 3) := by decide +kernel
theorem d_L_law_303 : decode b_L_law 303 = .ok (.iconst 0, 1) := by decide +kernel
theorem d_L_law_304 : decode b_L_law 304 = .ok (.invokevirtual 72, 3) := by decide +kernel
theorem d_L_law_307 : decode b_L_law 307 = .ok (.goto 239, 3) := by decide +kernel
theorem d_L_law_310 : decode b_L_law 310 = .ok (.aload_n 1, 1) := by decide +kernel
theorem d_L_law_311 : decode b_L_law 311 = .ok (.aload_n 3, 1) := by decide +kernel
theorem d_L_law_312 : decode b_L_law 312 = .ok (.invokestatic 73, 3) := by decide +kernel
theorem d_L_law_315 : decode b_L_law 315 = .ok (.istore 5, 2) := by decide +kernel
theorem d_L_law_317 : decode b_L_law 317 = .ok (.aload_n 2, 1) := by decide +kernel
theorem d_L_law_318 : decode b_L_law 318 = .ok (.invokevirtual 76, 3) := by decide +kernel
theorem d_L_law_321 : decode b_L_law 321 = .ok (.istore 6, 2) := by decide +kernel
theorem d_L_law_323 : decode b_L_law 323 = .ok (.aload_n 2, 1) := by decide +kernel
theorem d_L_law_324 : decode b_L_law 324 = .ok (.invokevirtual 53, 3) := by decide +kernel
theorem d_L_law_327 : decode b_L_law 327 = .ok (.iload 5, 2) := by decide +kernel
theorem d_L_law_329 : decode b_L_law 329 = .ok (.if_icmp .eq 5, 3) := by decide +kernel
theorem d_L_law_332 : decode b_L_law 332 = .ok (.iconst 0, 1) := by decide +kernel
theorem d_L_law_333 : decode b_L_law 333 = .ok (.ireturn, 1) := by decide +kernel
theorem d_L_law_334 : decode b_L_law 334 = .ok (.iload 5, 2) := by decide +kernel
theorem d_L_law_336 : decode b_L_law 336 = .ok (.ifCond .ne 15, 3) := by decide +kernel
theorem d_L_law_339 : decode b_L_law 339 = .ok (.aload_n 3, 1) := by decide +kernel
theorem d_L_law_340 : decode b_L_law 340 = .ok (.iconst 0, 1) := by decide +kernel
theorem d_L_law_341 : decode b_L_law 341 = .ok (.laload, 1) := by decide +kernel
theorem d_L_law_342 : decode b_L_law 342 = .ok (.iload 6, 2) := by decide +kernel
theorem d_L_law_344 : decode b_L_law 344 = .ok (.i2l, 1) := by decide +kernel
theorem d_L_law_345 : decode b_L_law 345 = .ok (.lcmp, 1) := by decide +kernel
theorem d_L_law_346 : decode b_L_law 346 = .ok (.ifCond .eq 5, 3) := by decide +kernel
theorem d_L_law_349 : decode b_L_law 349 = .ok (.iconst 0, 1) := by decide +kernel
theorem d_L_law_350 : decode b_L_law 350 = .ok (.ireturn, 1) := by decide +kernel
theorem d_L_law_351 : decode b_L_law 351 = .ok (.goto 195, 3) := by decide +kernel
theorem d_L_law_354 : decode b_L_law 354 = .ok (.aload_n 1, 1) := by decide +kernel
theorem d_L_law_355 : decode b_L_law 355 = .ok (.aload_n 0, 1) := by decide +kernel
theorem d_L_law_356 : decode b_L_law 356 = .ok (.iload 4, 2) := by decide +kernel
theorem d_L_law_358 : decode b_L_law 358 = .ok (.iconst 1, 1) := by decide +kernel
theorem d_L_law_359 : decode b_L_law 359 = .ok (.iadd, 1) := by decide +kernel
theorem d_L_law_360 : decode b_L_law 360 = .ok (.iaload, 1) := by decide +kernel
theorem d_L_law_361 : decode b_L_law 361 = .ok (.aload_n 3, 1) := by decide +kernel
theorem d_L_law_362 : decode b_L_law 362 = .ok (.invokestatic 77, 3) := by decide +kernel
theorem d_L_law_365 : decode b_L_law 365 = .ok (.istore 5, 2) := by decide +kernel
theorem d_L_law_367 : decode b_L_law 367 = .ok (.aload_n 2, 1) := by decide +kernel
theorem d_L_law_368 : decode b_L_law 368 = .ok (.aload_n 0, 1) := by decide +kernel
theorem d_L_law_369 : decode b_L_law 369 = .ok (.iload 4, 2) := by decide +kernel
theorem d_L_law_371 : decode b_L_law 371 = .ok (.iconst 1, 1) := by decide +kernel
theorem d_L_law_372 : decode b_L_law 372 = .ok (.iadd, 1) := by decide +kernel
theorem d_L_law_373 : decode b_L_law 373 = .ok (.iaload, 1) := by decide +kernel
theorem d_L_law_374 : decode b_L_law 374 = .ok (.invokevirtual 79, 3) := by decide +kernel
theorem d_L_law_377 : decode b_L_law 377 = .ok (.istore 6, 2) := by decide +kernel
theorem d_L_law_379 : decode b_L_law 379 = .ok (.aload_n 2, 1) := by decide +kernel
theorem d_L_law_380 : decode b_L_law 380 = .ok (.invokevirtual 53, 3) := by decide +kernel
theorem d_L_law_383 : decode b_L_law 383 = .ok (.iload 5, 2) := by decide +kernel
theorem d_L_law_385 : decode b_L_law 385 = .ok (.if_icmp .eq 5, 3) := by decide +kernel
theorem d_L_law_388 : decode b_L_law 388 = .ok (.iconst 0, 1) := by decide +kernel
theorem d_L_law_389 : decode b_L_law 389 = .ok (.ireturn, 1) := by decide +kernel
theorem d_L_law_390 : decode b_L_law 390 = .ok (.iload 5, 2) := by decide +kernel
theorem d_L_law_392 : decode b_L_law 392 = .ok (.ifCond .ne 15, 3) := by decide +kernel
theorem d_L_law_395 : decode b_L_law 395 = .ok (.aload_n 3, 1) := by decide +kernel
theorem d_L_law_396 : decode b_L_law 396 = .ok (.iconst 0, 1) := by decide +kernel
theorem d_L_law_397 : decode b_L_law 397 = .ok (.laload, 1) := by decide +kernel
theorem d_L_law_398 : decode b_L_law 398 = .ok (.iload 6, 2) := by decide +kernel
theorem d_L_law_400 : decode b_L_law 400 = .ok (.i2l, 1) := by decide +kernel
theorem d_L_law_401 : decode b_L_law 401 = .ok (.lcmp, 1) := by decide +kernel
theorem d_L_law_402 : decode b_L_law 402 = .ok (.ifCond .eq 5, 3) := by decide +kernel
theorem d_L_law_405 : decode b_L_law 405 = .ok (.iconst 0, 1) := by decide +kernel
theorem d_L_law_406 : decode b_L_law 406 = .ok (.ireturn, 1) := by decide +kernel
theorem d_L_law_407 : decode b_L_law 407 = .ok (.goto 139, 3) := by decide +kernel
theorem d_L_law_410 : decode b_L_law 410 = .ok (.aload_n 1, 1) := by decide +kernel
theorem d_L_law_411 : decode b_L_law 411 = .ok (.aload_n 0, 1) := by decide +kernel
theorem d_L_law_412 : decode b_L_law 412 = .ok (.iload 4, 2) := by decide +kernel
theorem d_L_law_414 : decode b_L_law 414 = .ok (.iconst 1, 1) := by decide +kernel
theorem d_L_law_415 : decode b_L_law 415 = .ok (.iadd, 1) := by decide +kernel
theorem d_L_law_416 : decode b_L_law 416 = .ok (.iaload, 1) := by decide +kernel
theorem d_L_law_417 : decode b_L_law 417 = .ok (.aload_n 0, 1) := by decide +kernel
theorem d_L_law_418 : decode b_L_law 418 = .ok (.iload 4, 2) := by decide +kernel
theorem d_L_law_420 : decode b_L_law 420 = .ok (.iconst 2, 1) := by decide +kernel
theorem d_L_law_421 : decode b_L_law 421 = .ok (.iadd, 1) := by decide +kernel
theorem d_L_law_422 : decode b_L_law 422 = .ok (.iaload, 1) := by decide +kernel
theorem d_L_law_423 : decode b_L_law 423 = .ok (.aload_n 0, 1) := by decide +kernel
theorem d_L_law_424 : decode b_L_law 424 = .ok (.iload 4, 2) := by decide +kernel
theorem d_L_law_426 : decode b_L_law 426 = .ok (.iconst 3, 1) := by decide +kernel
theorem d_L_law_427 : decode b_L_law 427 = .ok (.iadd, 1) := by decide +kernel
theorem d_L_law_428 : decode b_L_law 428 = .ok (.iaload, 1) := by decide +kernel
theorem d_L_law_429 : decode b_L_law 429 = .ok (.aload_n 3, 1) := by decide +kernel
theorem d_L_law_430 : decode b_L_law 430 = .ok (.invokestatic 80, 3) := by decide +kernel
theorem d_L_law_433 : decode b_L_law 433 = .ok (.istore 5, 2) := by decide +kernel
theorem d_L_law_435 : decode b_L_law 435 = .ok (.aload_n 2, 1) := by decide +kernel
theorem d_L_law_436 : decode b_L_law 436 = .ok (.aload_n 0, 1) := by decide +kernel
theorem d_L_law_437 : decode b_L_law 437 = .ok (.iload 4, 2) := by decide +kernel
theorem d_L_law_439 : decode b_L_law 439 = .ok (.iconst 1, 1) := by decide +kernel
theorem d_L_law_440 : decode b_L_law 440 = .ok (.iadd, 1) := by decide +kernel
theorem d_L_law_441 : decode b_L_law 441 = .ok (.iaload, 1) := by decide +kernel
theorem d_L_law_442 : decode b_L_law 442 = .ok (.aload_n 0, 1) := by decide +kernel
theorem d_L_law_443 : decode b_L_law 443 = .ok (.iload 4, 2) := by decide +kernel
theorem d_L_law_445 : decode b_L_law 445 = .ok (.iconst 2, 1) := by decide +kernel
theorem d_L_law_446 : decode b_L_law 446 = .ok (.iadd, 1) := by decide +kernel
theorem d_L_law_447 : decode b_L_law 447 = .ok (.iaload, 1) := by decide +kernel
theorem d_L_law_448 : decode b_L_law 448 = .ok (.aload_n 0, 1) := by decide +kernel
theorem d_L_law_449 : decode b_L_law 449 = .ok (.iload 4, 2) := by decide +kernel
theorem d_L_law_451 : decode b_L_law 451 = .ok (.iconst 3, 1) := by decide +kernel
theorem d_L_law_452 : decode b_L_law 452 = .ok (.iadd, 1) := by decide +kernel
theorem d_L_law_453 : decode b_L_law 453 = .ok (.iaload, 1) := by decide +kernel
theorem d_L_law_454 : decode b_L_law 454 = .ok (.invokevirtual 83, 3) := by decide +kernel
theorem d_L_law_457 : decode b_L_law 457 = .ok (.istore 6, 2) := by decide +kernel
theorem d_L_law_459 : decode b_L_law 459 = .ok (.aload_n 2, 1) := by decide +kernel
theorem d_L_law_460 : decode b_L_law 460 = .ok (.invokevirtual 53, 3) := by decide +kernel
theorem d_L_law_463 : decode b_L_law 463 = .ok (.iload 5, 2) := by decide +kernel
theorem d_L_law_465 : decode b_L_law 465 = .ok (.if_icmp .eq 5, 3) := by decide +kernel
theorem d_L_law_468 : decode b_L_law 468 = .ok (.iconst 0, 1) := by decide +kernel
theorem d_L_law_469 : decode b_L_law 469 = .ok (.ireturn, 1) := by decide +kernel
theorem d_L_law_470 : decode b_L_law 470 = .ok (.iload 5, 2) := by decide +kernel
theorem d_L_law_472 : decode b_L_law 472 = .ok (.ifCond .ne 15, 3) := by decide +kernel
theorem d_L_law_475 : decode b_L_law 475 = .ok (.aload_n 3, 1) := by decide +kernel
theorem d_L_law_476 : decode b_L_law 476 = .ok (.iconst 0, 1) := by decide +kernel
theorem d_L_law_477 : decode b_L_law 477 = .ok (.laload, 1) := by decide +kernel
theorem d_L_law_478 : decode b_L_law 478 = .ok (.iload 6, 2) := by decide +kernel
theorem d_L_law_480 : decode b_L_law 480 = .ok (.i2l, 1) := by decide +kernel
theorem d_L_law_481 : decode b_L_law 481 = .ok (.lcmp, 1) := by decide +kernel
theorem d_L_law_482 : decode b_L_law 482 = .ok (.ifCond .eq 5, 3) := by decide +kernel
theorem d_L_law_485 : decode b_L_law 485 = .ok (.iconst 0, 1) := by decide +kernel
theorem d_L_law_486 : decode b_L_law 486 = .ok (.ireturn, 1) := by decide +kernel
theorem d_L_law_487 : decode b_L_law 487 = .ok (.goto 59, 3) := by decide +kernel
theorem d_L_law_490 : decode b_L_law 490 = .ok (.aload_n 1, 1) := by decide +kernel
theorem d_L_law_491 : decode b_L_law 491 = .ok (.aload_n 0, 1) := by decide +kernel
theorem d_L_law_492 : decode b_L_law 492 = .ok (.iload 4, 2) := by decide +kernel
theorem d_L_law_494 : decode b_L_law 494 = .ok (.iconst 1, 1) := by decide +kernel
theorem d_L_law_495 : decode b_L_law 495 = .ok (.iadd, 1) := by decide +kernel
theorem d_L_law_496 : decode b_L_law 496 = .ok (.iaload, 1) := by decide +kernel
theorem d_L_law_497 : decode b_L_law 497 = .ok (.aload_n 3, 1) := by decide +kernel
theorem d_L_law_498 : decode b_L_law 498 = .ok (.invokestatic 84, 3) := by decide +kernel
theorem d_L_law_501 : decode b_L_law 501 = .ok (.istore 5, 2) := by decide +kernel
theorem d_L_law_503 : decode b_L_law 503 = .ok (.aload_n 2, 1) := by decide +kernel
theorem d_L_law_504 : decode b_L_law 504 = .ok (.aload_n 0, 1) := by decide +kernel
theorem d_L_law_505 : decode b_L_law 505 = .ok (.iload 4, 2) := by decide +kernel
theorem d_L_law_507 : decode b_L_law 507 = .ok (.iconst 1, 1) := by decide +kernel
theorem d_L_law_508 : decode b_L_law 508 = .ok (.iadd, 1) := by decide +kernel
theorem d_L_law_509 : decode b_L_law 509 = .ok (.iaload, 1) := by decide +kernel
theorem d_L_law_510 : decode b_L_law 510 = .ok (.invokevirtual 86, 3) := by decide +kernel
theorem d_L_law_513 : decode b_L_law 513 = .ok (.istore 6, 2) := by decide +kernel
theorem d_L_law_515 : decode b_L_law 515 = .ok (.aload_n 2, 1) := by decide +kernel
theorem d_L_law_516 : decode b_L_law 516 = .ok (.invokevirtual 53, 3) := by decide +kernel
theorem d_L_law_519 : decode b_L_law 519 = .ok (.iload 5, 2) := by decide +kernel
theorem d_L_law_521 : decode b_L_law 521 = .ok (.if_icmp .eq 5, 3) := by decide +kernel
theorem d_L_law_524 : decode b_L_law 524 = .ok (.iconst 0, 1) := by decide +kernel
theorem d_L_law_525 : decode b_L_law 525 = .ok (.ireturn, 1) := by decide +kernel
theorem d_L_law_526 : decode b_L_law 526 = .ok (.iload 5, 2) := by decide +kernel
theorem d_L_law_528 : decode b_L_law 528 = .ok (.ifCond .ne 15, 3) := by decide +kernel
theorem d_L_law_531 : decode b_L_law 531 = .ok (.aload_n 3, 1) := by decide +kernel
theorem d_L_law_532 : decode b_L_law 532 = .ok (.iconst 0, 1) := by decide +kernel
theorem d_L_law_533 : decode b_L_law 533 = .ok (.laload, 1) := by decide +kernel
theorem d_L_law_534 : decode b_L_law 534 = .ok (.iload 6, 2) := by decide +kernel
theorem d_L_law_536 : decode b_L_law 536 = .ok (.i2l, 1) := by decide +kernel
theorem d_L_law_537 : decode b_L_law 537 = .ok (.lcmp, 1) := by decide +kernel
theorem d_L_law_538 : decode b_L_law 538 = .ok (.ifCond .eq 5, 3) := by decide +kernel
theorem d_L_law_541 : decode b_L_law 541 = .ok (.iconst 0, 1) := by decide +kernel
theorem d_L_law_542 : decode b_L_law 542 = .ok (.ireturn, 1) := by decide +kernel
theorem d_L_law_543 : decode b_L_law 543 = .ok (.goto 3, 3) := by decide +kernel
theorem d_L_law_546 : decode b_L_law 546 = .ok (.iinc 4 4, 3) := by decide +kernel
theorem d_L_law_549 : decode b_L_law 549 = .ok (.goto (-526), 3) := by decide +kernel
theorem d_L_law_552 : decode b_L_law 552 = .ok (.iconst 1, 1) := by decide +kernel
theorem d_L_law_553 : decode b_L_law 553 = .ok (.ireturn, 1) := by decide +kernel
