theorem d_M_init_0 : decode b_M_init 0 = .ok (.aload_n 0, 1) := by decide +kernel
theorem d_M_init_1 : decode b_M_init 1 = .ok (.invokespecial 1, 3) := by decide +kernel
theorem d_M_init_4 : decode b_M_init 4 = .ok (.aload_n 0, 1) := by decide +kernel
theorem d_M_init_5 : decode b_M_init 5 = .ok (.sipush 4096, 3) := by decide +kernel
theorem d_M_init_8 : decode b_M_init 8 = .ok (.newarray .int, 2) := by decide +kernel
theorem d_M_init_10 : decode b_M_init 10 = .ok (.putfield 7, 3) := by decide +kernel
theorem d_M_init_13 : decode b_M_init 13 = .ok (.aload_n 0, 1) := by decide +kernel
theorem d_M_init_14 : decode b_M_init 14 = .ok (.iconst 1, 1) := by decide +kernel
theorem d_M_init_15 : decode b_M_init 15 = .ok (.putfield 13, 3) := by decide +kernel
theorem d_M_init_18 : decode b_M_init 18 = .ok (.aload_n 0, 1) := by decide +kernel
theorem d_M_init_19 : decode b_M_init 19 = .ok (.iconst 1, 1) := by decide +kernel
theorem d_M_init_20 : decode b_M_init 20 = .ok (.putfield 17, 3) := by decide +kernel
theorem d_M_init_23 : decode b_M_init 23 = .ok (.aload_n 0, 1) := by decide +kernel
theorem d_M_init_24 : decode b_M_init 24 = .ok (.sipush 4096, 3) := by decide +kernel
theorem d_M_init_27 : decode b_M_init 27 = .ok (.newarray .int, 2) := by decide +kernel
theorem d_M_init_29 : decode b_M_init 29 = .ok (.putfield 20, 3) := by decide +kernel
theorem d_M_init_32 : decode b_M_init 32 = .ok (.aload_n 0, 1) := by decide +kernel
theorem d_M_init_33 : decode b_M_init 33 = .ok (.iconst 4, 1) := by decide +kernel
theorem d_M_init_34 : decode b_M_init 34 = .ok (.newarray .int, 2) := by decide +kernel
theorem d_M_init_36 : decode b_M_init 36 = .ok (.putfield 23, 3) := by decide +kernel
theorem d_M_init_39 : decode b_M_init 39 = .ok (.aload_n 0, 1) := by decide +kernel
theorem d_M_init_40 : decode b_M_init 40 = .ok (.iconst (-1), 1) := by decide +kernel
theorem d_M_init_41 : decode b_M_init 41 = .ok (.putfield 26, 3) := by decide +kernel
theorem d_M_init_44 : decode b_M_init 44 = .ok (.aload_n 0, 1) := by decide +kernel
theorem d_M_init_45 : decode b_M_init 45 = .ok (.iconst (-1), 1) := by decide +kernel
theorem d_M_init_46 : decode b_M_init 46 = .ok (.putfield 29, 3) := by decide +kernel
theorem d_M_init_49 : decode b_M_init 49 = .ok (.aload_n 0, 1) := by decide +kernel
theorem d_M_init_50 : decode b_M_init 50 = .ok (.iconst (-1), 1) := by decide +kernel
theorem d_M_init_51 : decode b_M_init 51 = .ok (.putfield 32, 3) := by decide +kernel
theorem d_M_init_54 : decode b_M_init 54 = .ok (.aload_n 0, 1) := by decide +kernel
theorem d_M_init_55 : decode b_M_init 55 = .ok (.sipush 300, 3) := by decide +kernel
theorem d_M_init_58 : decode b_M_init 58 = .ok (.newarray .int, 2) := by decide +kernel
theorem d_M_init_60 : decode b_M_init 60 = .ok (.putfield 35, 3) := by decide +kernel
theorem d_M_init_63 : decode b_M_init 63 = .ok (.aload_n 0, 1) := by decide +kernel
theorem d_M_init_64 : decode b_M_init 64 = .ok (.sipush 4160, 3) := by decide +kernel
theorem d_M_init_67 : decode b_M_init 67 = .ok (.newarray .int, 2) := by decide +kernel
theorem d_M_init_69 : decode b_M_init 69 = .ok (.putfield 38, 3) := by decide +kernel
theorem d_M_init_72 : decode b_M_init 72 = .ok (.aload_n 0, 1) := by decide +kernel
theorem d_M_init_73 : decode b_M_init 73 = .ok (.invokevirtual 41, 3) := by decide +kernel
theorem d_M_init_76 : decode b_M_init 76 = .ok (.return_, 1) := by decide +kernel
theorem d_M_nothingTold_0 : decode b_M_nothingTold 0 = .ok (.iconst 0, 1) := by decide +kernel
theorem d_M_nothingTold_1 : decode b_M_nothingTold 1 = .ok (.istore_n 1, 1) := by decide +kernel
theorem d_M_nothingTold_2 : decode b_M_nothingTold 2 = .ok (.iload_n 1, 1) := by decide +kernel
theorem d_M_nothingTold_3 : decode b_M_nothingTold 3 = .ok (.sipush 4160, 3) := by decide +kernel
theorem d_M_nothingTold_6 : decode b_M_nothingTold 6 = .ok (.if_icmp .ge 16, 3) := by decide +kernel
theorem d_M_nothingTold_9 : decode b_M_nothingTold 9 = .ok (.aload_n 0, 1) := by decide +kernel
theorem d_M_nothingTold_10 : decode b_M_nothingTold 10 = .ok (.getfield 38, 3) := by decide +kernel
theorem d_M_nothingTold_13 : decode b_M_nothingTold 13 = .ok (.iload_n 1, 1) := by decide +kernel
theorem d_M_nothingTold_14 : decode b_M_nothingTold 14 = .ok (.iconst 0, 1) := by decide +kernel
theorem d_M_nothingTold_15 : decode b_M_nothingTold 15 = .ok (.iastore, 1) := by decide +kernel
theorem d_M_nothingTold_16 : decode b_M_nothingTold 16 = .ok (.iinc 1 1, 3) := by decide +kernel
theorem d_M_nothingTold_19 : decode b_M_nothingTold 19 = .ok (.goto (-17), 3) := by decide +kernel
theorem d_M_nothingTold_22 : decode b_M_nothingTold 22 = .ok (.iconst 0, 1) := by decide +kernel
theorem d_M_nothingTold_23 : decode b_M_nothingTold 23 = .ok (.istore_n 1, 1) := by decide +kernel
theorem d_M_nothingTold_24 : decode b_M_nothingTold 24 = .ok (.iload_n 1, 1) := by decide +kernel
theorem d_M_nothingTold_25 : decode b_M_nothingTold 25 = .ok (.bipush 26, 2) := by decide +kernel
theorem d_M_nothingTold_27 : decode b_M_nothingTold 27 = .ok (.if_icmp .ge 44, 3) := by decide +kernel
theorem d_M_nothingTold_30 : decode b_M_nothingTold 30 = .ok (.iconst 0, 1) := by decide +kernel
theorem d_M_nothingTold_31 : decode b_M_nothingTold 31 = .ok (.istore_n 2, 1) := by decide +kernel
theorem d_M_nothingTold_32 : decode b_M_nothingTold 32 = .ok (.iload_n 2, 1) := by decide +kernel
theorem d_M_nothingTold_33 : decode b_M_nothingTold 33 = .ok (.iload_n 1, 1) := by decide +kernel
theorem d_M_nothingTold_34 : decode b_M_nothingTold 34 = .ok (.invokestatic 110, 3) := by decide +kernel
theorem d_M_nothingTold_37 : decode b_M_nothingTold 37 = .ok (.if_icmp .ge 28, 3) := by decide +kernel
theorem d_M_nothingTold_40 : decode b_M_nothingTold 40 = .ok (.iload_n 1, 1) := by decide +kernel
theorem d_M_nothingTold_41 : decode b_M_nothingTold 41 = .ok (.invokestatic 110, 3) := by decide +kernel
theorem d_M_nothingTold_44 : decode b_M_nothingTold 44 = .ok (.iconst 1, 1) := by decide +kernel
theorem d_M_nothingTold_45 : decode b_M_nothingTold 45 = .ok (.if_icmp .le 20, 3) := by decide +kernel
theorem d_M_nothingTold_48 : decode b_M_nothingTold 48 = .ok (.aload_n 0, 1) := by decide +kernel
theorem d_M_nothingTold_49 : decode b_M_nothingTold 49 = .ok (.getfield 38, 3) := by decide +kernel
theorem d_M_nothingTold_52 : decode b_M_nothingTold 52 = .ok (.iload_n 1, 1) := by decide +kernel
theorem d_M_nothingTold_53 : decode b_M_nothingTold 53 = .ok (.iload_n 2, 1) := by decide +kernel
theorem d_M_nothingTold_54 : decode b_M_nothingTold 54 = .ok (.invokestatic 113, 3) := by decide +kernel
theorem d_M_nothingTold_57 : decode b_M_nothingTold 57 = .ok (.iload_n 2, 1) := by decide +kernel
theorem d_M_nothingTold_58 : decode b_M_nothingTold 58 = .ok (.iastore, 1) := by decide +kernel
theorem d_M_nothingTold_59 : decode b_M_nothingTold 59 = .ok (.iinc 2 1, 3) := by decide +kernel
theorem d_M_nothingTold_62 : decode b_M_nothingTold 62 = .ok (.goto (-30), 3) := by decide +kernel
theorem d_M_nothingTold_65 : decode b_M_nothingTold 65 = .ok (.iinc 1 1, 3) := by decide +kernel
theorem d_M_nothingTold_68 : decode b_M_nothingTold 68 = .ok (.goto (-44), 3) := by decide +kernel
theorem d_M_nothingTold_71 : decode b_M_nothingTold 71 = .ok (.aload_n 0, 1) := by decide +kernel
theorem d_M_nothingTold_72 : decode b_M_nothingTold 72 = .ok (.getfield 38, 3) := by decide +kernel
theorem d_M_nothingTold_75 : decode b_M_nothingTold 75 = .ok (.iconst 2, 1) := by decide +kernel
theorem d_M_nothingTold_76 : decode b_M_nothingTold 76 = .ok (.iconst 0, 1) := by decide +kernel
theorem d_M_nothingTold_77 : decode b_M_nothingTold 77 = .ok (.invokestatic 113, 3) := by decide +kernel
theorem d_M_nothingTold_80 : decode b_M_nothingTold 80 = .ok (.iconst 2, 1) := by decide +kernel
theorem d_M_nothingTold_81 : decode b_M_nothingTold 81 = .ok (.iadd, 1) := by decide +kernel
theorem d_M_nothingTold_82 : decode b_M_nothingTold 82 = .ok (.iconst 1, 1) := by decide +kernel
theorem d_M_nothingTold_83 : decode b_M_nothingTold 83 = .ok (.iastore, 1) := by decide +kernel
theorem d_M_nothingTold_84 : decode b_M_nothingTold 84 = .ok (.aload_n 0, 1) := by decide +kernel
theorem d_M_nothingTold_85 : decode b_M_nothingTold 85 = .ok (.getfield 38, 3) := by decide +kernel
theorem d_M_nothingTold_88 : decode b_M_nothingTold 88 = .ok (.iconst 2, 1) := by decide +kernel
theorem d_M_nothingTold_89 : decode b_M_nothingTold 89 = .ok (.iconst 0, 1) := by decide +kernel
theorem d_M_nothingTold_90 : decode b_M_nothingTold 90 = .ok (.invokestatic 113, 3) := by decide +kernel
theorem d_M_nothingTold_93 : decode b_M_nothingTold 93 = .ok (.iconst 3, 1) := by decide +kernel
theorem d_M_nothingTold_94 : decode b_M_nothingTold 94 = .ok (.iadd, 1) := by decide +kernel
theorem d_M_nothingTold_95 : decode b_M_nothingTold 95 = .ok (.iconst 1, 1) := by decide +kernel
theorem d_M_nothingTold_96 : decode b_M_nothingTold 96 = .ok (.iastore, 1) := by decide +kernel
theorem d_M_nothingTold_97 : decode b_M_nothingTold 97 = .ok (.aload_n 0, 1) := by decide +kernel
theorem d_M_nothingTold_98 : decode b_M_nothingTold 98 = .ok (.getfield 38, 3) := by decide +kernel
theorem d_M_nothingTold_101 : decode b_M_nothingTold 101 = .ok (.iconst 2, 1) := by decide +kernel
theorem d_M_nothingTold_102 : decode b_M_nothingTold 102 = .ok (.iconst 0, 1) := by decide +kernel
theorem d_M_nothingTold_103 : decode b_M_nothingTold 103 = .ok (.invokestatic 113, 3) := by decide +kernel
theorem d_M_nothingTold_106 : decode b_M_nothingTold 106 = .ok (.iconst 5, 1) := by decide +kernel
theorem d_M_nothingTold_107 : decode b_M_nothingTold 107 = .ok (.iadd, 1) := by decide +kernel
theorem d_M_nothingTold_108 : decode b_M_nothingTold 108 = .ok (.ldc 117, 2) := by decide +kernel
theorem d_M_nothingTold_110 : decode b_M_nothingTold 110 = .ok (.iastore, 1) := by decide +kernel
theorem d_M_nothingTold_111 : decode b_M_nothingTold 111 = .ok (.aload_n 0, 1) := by decide +kernel
theorem d_M_nothingTold_112 : decode b_M_nothingTold 112 = .ok (.getfield 38, 3) := by decide +kernel
theorem d_M_nothingTold_115 : decode b_M_nothingTold 115 = .ok (.iconst 3, 1) := by decide +kernel
theorem d_M_nothingTold_116 : decode b_M_nothingTold 116 = .ok (.iconst 0, 1) := by decide +kernel
theorem d_M_nothingTold_117 : decode b_M_nothingTold 117 = .ok (.invokestatic 113, 3) := by decide +kernel
theorem d_M_nothingTold_120 : decode b_M_nothingTold 120 = .ok (.iconst 2, 1) := by decide +kernel
theorem d_M_nothingTold_121 : decode b_M_nothingTold 121 = .ok (.iadd, 1) := by decide +kernel
theorem d_M_nothingTold_122 : decode b_M_nothingTold 122 = .ok (.iconst (-1), 1) := by decide +kernel
theorem d_M_nothingTold_123 : decode b_M_nothingTold 123 = .ok (.iastore, 1) := by decide +kernel
theorem d_M_nothingTold_124 : decode b_M_nothingTold 124 = .ok (.aload_n 0, 1) := by decide +kernel
theorem d_M_nothingTold_125 : decode b_M_nothingTold 125 = .ok (.getfield 38, 3) := by decide +kernel
theorem d_M_nothingTold_128 : decode b_M_nothingTold 128 = .ok (.bipush 7, 2) := by decide +kernel
theorem d_M_nothingTold_130 : decode b_M_nothingTold 130 = .ok (.iconst 0, 1) := by decide +kernel
theorem d_M_nothingTold_131 : decode b_M_nothingTold 131 = .ok (.invokestatic 113, 3) := by decide +kernel
theorem d_M_nothingTold_134 : decode b_M_nothingTold 134 = .ok (.iconst (-1), 1) := by decide +kernel
theorem d_M_nothingTold_135 : decode b_M_nothingTold 135 = .ok (.iastore, 1) := by decide +kernel
theorem d_M_nothingTold_136 : decode b_M_nothingTold 136 = .ok (.aload_n 0, 1) := by decide +kernel
theorem d_M_nothingTold_137 : decode b_M_nothingTold 137 = .ok (.getfield 38, 3) := by decide +kernel
theorem d_M_nothingTold_140 : decode b_M_nothingTold 140 = .ok (.bipush 8, 2) := by decide +kernel
theorem d_M_nothingTold_142 : decode b_M_nothingTold 142 = .ok (.iconst 0, 1) := by decide +kernel
theorem d_M_nothingTold_143 : decode b_M_nothingTold 143 = .ok (.invokestatic 113, 3) := by decide +kernel
theorem d_M_nothingTold_146 : decode b_M_nothingTold 146 = .ok (.iconst (-1), 1) := by decide +kernel
theorem d_M_nothingTold_147 : decode b_M_nothingTold 147 = .ok (.iastore, 1) := by decide +kernel
theorem d_M_nothingTold_148 : decode b_M_nothingTold 148 = .ok (.aload_n 0, 1) := by decide +kernel
theorem d_M_nothingTold_149 : decode b_M_nothingTold 149 = .ok (.getfield 38, 3) := by decide +kernel
theorem d_M_nothingTold_152 : decode b_M_nothingTold 152 = .ok (.bipush 10, 2) := by decide +kernel
theorem d_M_nothingTold_154 : decode b_M_nothingTold 154 = .ok (.iconst 0, 1) := by decide +kernel
theorem d_M_nothingTold_155 : decode b_M_nothingTold 155 = .ok (.invokestatic 113, 3) := by decide +kernel
theorem d_M_nothingTold_158 : decode b_M_nothingTold 158 = .ok (.iconst (-1), 1) := by decide +kernel
theorem d_M_nothingTold_159 : decode b_M_nothingTold 159 = .ok (.iastore, 1) := by decide +kernel
theorem d_M_nothingTold_160 : decode b_M_nothingTold 160 = .ok (.aload_n 0, 1) := by decide +kernel
theorem d_M_nothingTold_161 : decode b_M_nothingTold 161 = .ok (.getfield 38, 3) := by decide +kernel
theorem d_M_nothingTold_164 : decode b_M_nothingTold 164 = .ok (.bipush 12, 2) := by decide +kernel
theorem d_M_nothingTold_166 : decode b_M_nothingTold 166 = .ok (.iconst 0, 1) := by decide +kernel
theorem d_M_nothingTold_167 : decode b_M_nothingTold 167 = .ok (.invokestatic 113, 3) := by decide +kernel
theorem d_M_nothingTold_170 : decode b_M_nothingTold 170 = .ok (.iconst 4, 1) := by decide +kernel
theorem d_M_nothingTold_171 : decode b_M_nothingTold 171 = .ok (.iadd, 1) := by decide +kernel
theorem d_M_nothingTold_172 : decode b_M_nothingTold 172 = .ok (.iconst (-1), 1) := by decide +kernel
theorem d_M_nothingTold_173 : decode b_M_nothingTold 173 = .ok (.iastore, 1) := by decide +kernel
theorem d_M_nothingTold_174 : decode b_M_nothingTold 174 = .ok (.aload_n 0, 1) := by decide +kernel
theorem d_M_nothingTold_175 : decode b_M_nothingTold 175 = .ok (.getfield 38, 3) := by decide +kernel
theorem d_M_nothingTold_178 : decode b_M_nothingTold 178 = .ok (.bipush 14, 2) := by decide +kernel
theorem d_M_nothingTold_180 : decode b_M_nothingTold 180 = .ok (.iconst 0, 1) := by decide +kernel
theorem d_M_nothingTold_181 : decode b_M_nothingTold 181 = .ok (.invokestatic 113, 3) := by decide +kernel
theorem d_M_nothingTold_184 : decode b_M_nothingTold 184 = .ok (.iconst (-1), 1) := by decide +kernel
theorem d_M_nothingTold_185 : decode b_M_nothingTold 185 = .ok (.iastore, 1) := by decide +kernel
theorem d_M_nothingTold_186 : decode b_M_nothingTold 186 = .ok (.aload_n 0, 1) := by decide +kernel
theorem d_M_nothingTold_187 : decode b_M_nothingTold 187 = .ok (.getfield 38, 3) := by decide +kernel
theorem d_M_nothingTold_190 : decode b_M_nothingTold 190 = .ok (.bipush 15, 2) := by decide +kernel
theorem d_M_nothingTold_192 : decode b_M_nothingTold 192 = .ok (.iconst 0, 1) := by decide +kernel
theorem d_M_nothingTold_193 : decode b_M_nothingTold 193 = .ok (.invokestatic 113, 3) := by decide +kernel
theorem d_M_nothingTold_196 : decode b_M_nothingTold 196 = .ok (.bipush 15, 2) := by decide +kernel
theorem d_M_nothingTold_198 : decode b_M_nothingTold 198 = .ok (.iastore, 1) := by decide +kernel
theorem d_M_nothingTold_199 : decode b_M_nothingTold 199 = .ok (.iconst 0, 1) := by decide +kernel
theorem d_M_nothingTold_200 : decode b_M_nothingTold 200 = .ok (.istore_n 1, 1) := by decide +kernel
theorem d_M_nothingTold_201 : decode b_M_nothingTold 201 = .ok (.iload_n 1, 1) := by decide +kernel
theorem d_M_nothingTold_202 : decode b_M_nothingTold 202 = .ok (.iconst 4, 1) := by decide +kernel
theorem d_M_nothingTold_203 : decode b_M_nothingTold 203 = .ok (.if_icmp .ge 23, 3) := by decide +kernel
theorem d_M_nothingTold_206 : decode b_M_nothingTold 206 = .ok (.aload_n 0, 1) := by decide +kernel
theorem d_M_nothingTold_207 : decode b_M_nothingTold 207 = .ok (.getfield 38, 3) := by decide +kernel
theorem d_M_nothingTold_210 : decode b_M_nothingTold 210 = .ok (.bipush 9, 2) := by decide +kernel
theorem d_M_nothingTold_212 : decode b_M_nothingTold 212 = .ok (.iload_n 1, 1) := by decide +kernel
theorem d_M_nothingTold_213 : decode b_M_nothingTold 213 = .ok (.invokestatic 113, 3) := by decide +kernel
theorem d_M_nothingTold_216 : decode b_M_nothingTold 216 = .ok (.iconst 4, 1) := by decide +kernel
theorem d_M_nothingTold_217 : decode b_M_nothingTold 217 = .ok (.iadd, 1) := by decide +kernel
theorem d_M_nothingTold_218 : decode b_M_nothingTold 218 = .ok (.iconst 1, 1) := by decide +kernel
theorem d_M_nothingTold_219 : decode b_M_nothingTold 219 = .ok (.iastore, 1) := by decide +kernel
theorem d_M_nothingTold_220 : decode b_M_nothingTold 220 = .ok (.iinc 1 1, 3) := by decide +kernel
theorem d_M_nothingTold_223 : decode b_M_nothingTold 223 = .ok (.goto (-22), 3) := by decide +kernel
theorem d_M_nothingTold_226 : decode b_M_nothingTold 226 = .ok (.iconst 0, 1) := by decide +kernel
theorem d_M_nothingTold_227 : decode b_M_nothingTold 227 = .ok (.istore_n 1, 1) := by decide +kernel
theorem d_M_nothingTold_228 : decode b_M_nothingTold 228 = .ok (.iload_n 1, 1) := by decide +kernel
theorem d_M_nothingTold_229 : decode b_M_nothingTold 229 = .ok (.iconst 2, 1) := by decide +kernel
theorem d_M_nothingTold_230 : decode b_M_nothingTold 230 = .ok (.if_icmp .ge 23, 3) := by decide +kernel
theorem d_M_nothingTold_233 : decode b_M_nothingTold 233 = .ok (.aload_n 0, 1) := by decide +kernel
theorem d_M_nothingTold_234 : decode b_M_nothingTold 234 = .ok (.getfield 38, 3) := by decide +kernel
theorem d_M_nothingTold_237 : decode b_M_nothingTold 237 = .ok (.bipush 11, 2) := by decide +kernel
theorem d_M_nothingTold_239 : decode b_M_nothingTold 239 = .ok (.iload_n 1, 1) := by decide +kernel
theorem d_M_nothingTold_240 : decode b_M_nothingTold 240 = .ok (.invokestatic 113, 3) := by decide +kernel
theorem d_M_nothingTold_243 : decode b_M_nothingTold 243 = .ok (.iconst 1, 1) := by decide +kernel
theorem d_M_nothingTold_244 : decode b_M_nothingTold 244 = .ok (.iadd, 1) := by decide +kernel
theorem d_M_nothingTold_245 : decode b_M_nothingTold 245 = .ok (.iconst (-1), 1) := by decide +kernel
theorem d_M_nothingTold_246 : decode b_M_nothingTold 246 = .ok (.iastore, 1) := by decide +kernel
theorem d_M_nothingTold_247 : decode b_M_nothingTold 247 = .ok (.iinc 1 1, 3) := by decide +kernel
theorem d_M_nothingTold_250 : decode b_M_nothingTold 250 = .ok (.goto (-22), 3) := by decide +kernel
theorem d_M_nothingTold_253 : decode b_M_nothingTold 253 = .ok (.return_, 1) := by decide +kernel
theorem d_M_many_0 : decode b_M_many 0 = .ok (.iload_n 0, 1) := by decide +kernel
theorem d_M_many_1 : decode b_M_many 1 = .ok (.tableswitch 123 2 25 #[121, 121, 111, 114, 123, 121, 121, 117, 121, 119, 121, 121, 121, 121, 121, 123, 123, 123, 123, 123, 123, 123, 117, 117], 111) := by decide +kernel
theorem d_M_many_112 : decode b_M_many 112 = .ok (.bipush 8, 2) := by decide +kernel
theorem d_M_many_114 : decode b_M_many 114 = .ok (.ireturn, 1) := by decide +kernel
theorem d_M_many_115 : decode b_M_many 115 = .ok (.bipush 32, 2) := by decide +kernel
theorem d_M_many_117 : decode b_M_many 117 = .ok (.ireturn, 1) := by decide +kernel
theorem d_M_many_118 : decode b_M_many 118 = .ok (.iconst 4, 1) := by decide +kernel
theorem d_M_many_119 : decode b_M_many 119 = .ok (.ireturn, 1) := by decide +kernel
theorem d_M_many_120 : decode b_M_many 120 = .ok (.iconst 2, 1) := by decide +kernel
theorem d_M_many_121 : decode b_M_many 121 = .ok (.ireturn, 1) := by decide +kernel
theorem d_M_many_122 : decode b_M_many 122 = .ok (.iconst 1, 1) := by decide +kernel
theorem d_M_many_123 : decode b_M_many 123 = .ok (.ireturn, 1) := by decide +kernel
theorem d_M_many_124 : decode b_M_many 124 = .ok (.iconst 0, 1) := by decide +kernel
theorem d_M_many_125 : decode b_M_many 125 = .ok (.ireturn, 1) := by decide +kernel
theorem d_M_rowOf_0 : decode b_M_rowOf 0 = .ok (.sipush 160, 3) := by decide +kernel
theorem d_M_rowOf_3 : decode b_M_rowOf 3 = .ok (.iload_n 0, 1) := by decide +kernel
theorem d_M_rowOf_4 : decode b_M_rowOf 4 = .ok (.imul, 1) := by decide +kernel
theorem d_M_rowOf_5 : decode b_M_rowOf 5 = .ok (.iload_n 1, 1) := by decide +kernel
theorem d_M_rowOf_6 : decode b_M_rowOf 6 = .ok (.iload_n 0, 1) := by decide +kernel
theorem d_M_rowOf_7 : decode b_M_rowOf 7 = .ok (.invokestatic 106, 3) := by decide +kernel
theorem d_M_rowOf_10 : decode b_M_rowOf 10 = .ok (.imul, 1) := by decide +kernel
theorem d_M_rowOf_11 : decode b_M_rowOf 11 = .ok (.iadd, 1) := by decide +kernel
theorem d_M_rowOf_12 : decode b_M_rowOf 12 = .ok (.ireturn, 1) := by decide +kernel
theorem d_M_count_0 : decode b_M_count 0 = .ok (.iload_n 0, 1) := by decide +kernel
theorem d_M_count_1 : decode b_M_count 1 = .ok (.tableswitch 134 0 25 #[119, 127, 134, 127, 129, 129, 125, 123, 123, 134, 123, 131, 134, 121, 121, 121, 123, 125, 129, 123, 134, 123, 119, 121, 127, 129], 119) := by decide +kernel
theorem d_M_count_120 : decode b_M_count 120 = .ok (.iconst 0, 1) := by decide +kernel
theorem d_M_count_121 : decode b_M_count 121 = .ok (.ireturn, 1) := by decide +kernel
theorem d_M_count_122 : decode b_M_count 122 = .ok (.iconst 1, 1) := by decide +kernel
theorem d_M_count_123 : decode b_M_count 123 = .ok (.ireturn, 1) := by decide +kernel
theorem d_M_count_124 : decode b_M_count 124 = .ok (.iconst 2, 1) := by decide +kernel
theorem d_M_count_125 : decode b_M_count 125 = .ok (.ireturn, 1) := by decide +kernel
theorem d_M_count_126 : decode b_M_count 126 = .ok (.iconst 3, 1) := by decide +kernel
theorem d_M_count_127 : decode b_M_count 127 = .ok (.ireturn, 1) := by decide +kernel
theorem d_M_count_128 : decode b_M_count 128 = .ok (.iconst 4, 1) := by decide +kernel
theorem d_M_count_129 : decode b_M_count 129 = .ok (.ireturn, 1) := by decide +kernel
theorem d_M_count_130 : decode b_M_count 130 = .ok (.iconst 5, 1) := by decide +kernel
theorem d_M_count_131 : decode b_M_count 131 = .ok (.ireturn, 1) := by decide +kernel
theorem d_M_count_132 : decode b_M_count 132 = .ok (.bipush 8, 2) := by decide +kernel
theorem d_M_count_134 : decode b_M_count 134 = .ok (.ireturn, 1) := by decide +kernel
theorem d_M_count_135 : decode b_M_count 135 = .ok (.bipush 6, 2) := by decide +kernel
theorem d_M_count_137 : decode b_M_count 137 = .ok (.ireturn, 1) := by decide +kernel
theorem d_M_thrown_0 : decode b_M_thrown 0 = .ok (.aload_n 0, 1) := by decide +kernel
theorem d_M_thrown_1 : decode b_M_thrown 1 = .ok (.getfield 44, 3) := by decide +kernel
theorem d_M_thrown_4 : decode b_M_thrown 4 = .ok (.ireturn, 1) := by decide +kernel
theorem d_M_word_0 : decode b_M_word 0 = .ok (.aload_n 0, 1) := by decide +kernel
theorem d_M_word_1 : decode b_M_word 1 = .ok (.iload_n 1, 1) := by decide +kernel
theorem d_M_word_2 : decode b_M_word 2 = .ok (.i2l, 1) := by decide +kernel
theorem d_M_word_3 : decode b_M_word 3 = .ok (.lconst 0, 1) := by decide +kernel
theorem d_M_word_4 : decode b_M_word 4 = .ok (.ldc2_w 118, 3) := by decide +kernel
theorem d_M_word_7 : decode b_M_word 7 = .ok (.invokestatic 51, 3) := by decide +kernel
theorem d_M_word_10 : decode b_M_word 10 = .ok (.ifCond .ne 7, 3) := by decide +kernel
theorem d_M_word_13 : decode b_M_word 13 = .ok (.iconst 1, 1) := by decide +kernel
theorem d_M_word_14 : decode b_M_word 14 = .ok (.goto 4, 3) := by decide +kernel
theorem d_M_word_17 : decode b_M_word 17 = .ok (.iconst 0, 1) := by decide +kernel
theorem d_M_word_18 : decode b_M_word 18 = .ok (.invokevirtual 120, 3) := by decide +kernel
theorem d_M_word_21 : decode b_M_word 21 = .ok (.ifCond .eq 5, 3) := by decide +kernel
theorem d_M_word_24 : decode b_M_word 24 = .ok (.iconst 0, 1) := by decide +kernel
theorem d_M_word_25 : decode b_M_word 25 = .ok (.ireturn, 1) := by decide +kernel
theorem d_M_word_26 : decode b_M_word 26 = .ok (.aload_n 0, 1) := by decide +kernel
theorem d_M_word_27 : decode b_M_word 27 = .ok (.getfield 7, 3) := by decide +kernel
theorem d_M_word_30 : decode b_M_word 30 = .ok (.iload_n 1, 1) := by decide +kernel
theorem d_M_word_31 : decode b_M_word 31 = .ok (.iaload, 1) := by decide +kernel
theorem d_M_word_32 : decode b_M_word 32 = .ok (.istore_n 3, 1) := by decide +kernel
theorem d_M_word_33 : decode b_M_word 33 = .ok (.aload_n 0, 1) := by decide +kernel
theorem d_M_word_34 : decode b_M_word 34 = .ok (.getfield 7, 3) := by decide +kernel
theorem d_M_word_37 : decode b_M_word 37 = .ok (.iload_n 1, 1) := by decide +kernel
theorem d_M_word_38 : decode b_M_word 38 = .ok (.iload_n 2, 1) := by decide +kernel
theorem d_M_word_39 : decode b_M_word 39 = .ok (.iastore, 1) := by decide +kernel
theorem d_M_word_40 : decode b_M_word 40 = .ok (.iload_n 3, 1) := by decide +kernel
theorem d_M_word_41 : decode b_M_word 41 = .ok (.ireturn, 1) := by decide +kernel
theorem d_M_in_0 : decode b_M_in 0 = .ok (.lload_n 0, 1) := by decide +kernel
theorem d_M_in_1 : decode b_M_in 1 = .ok (.lload_n 2, 1) := by decide +kernel
theorem d_M_in_2 : decode b_M_in 2 = .ok (.lcmp, 1) := by decide +kernel
theorem d_M_in_3 : decode b_M_in 3 = .ok (.ifCond .lt 14, 3) := by decide +kernel
theorem d_M_in_6 : decode b_M_in 6 = .ok (.lload_n 0, 1) := by decide +kernel
theorem d_M_in_7 : decode b_M_in 7 = .ok (.lload 4, 2) := by decide +kernel
theorem d_M_in_9 : decode b_M_in 9 = .ok (.lcmp, 1) := by decide +kernel
theorem d_M_in_10 : decode b_M_in 10 = .ok (.ifCond .gt 7, 3) := by decide +kernel
theorem d_M_in_13 : decode b_M_in 13 = .ok (.iconst 1, 1) := by decide +kernel
theorem d_M_in_14 : decode b_M_in 14 = .ok (.goto 4, 3) := by decide +kernel
theorem d_M_in_17 : decode b_M_in 17 = .ok (.iconst 0, 1) := by decide +kernel
theorem d_M_in_18 : decode b_M_in 18 = .ok (.ireturn, 1) := by decide +kernel
theorem d_M_refuse_0 : decode b_M_refuse 0 = .ok (.aload_n 0, 1) := by decide +kernel
theorem d_M_refuse_1 : decode b_M_refuse 1 = .ok (.iload_n 1, 1) := by decide +kernel
theorem d_M_refuse_2 : decode b_M_refuse 2 = .ok (.ifCond .eq 7, 3) := by decide +kernel
theorem d_M_refuse_5 : decode b_M_refuse 5 = .ok (.iconst 1, 1) := by decide +kernel
theorem d_M_refuse_6 : decode b_M_refuse 6 = .ok (.goto 4, 3) := by decide +kernel
theorem d_M_refuse_9 : decode b_M_refuse 9 = .ok (.iconst 0, 1) := by decide +kernel
theorem d_M_refuse_10 : decode b_M_refuse 10 = .ok (.putfield 44, 3) := by decide +kernel
theorem d_M_refuse_13 : decode b_M_refuse 13 = .ok (.iload_n 1, 1) := by decide +kernel
theorem d_M_refuse_14 : decode b_M_refuse 14 = .ok (.ireturn, 1) := by decide +kernel
theorem d_M_frame_0 : decode b_M_frame 0 = .ok (.aload_n 0, 1) := by decide +kernel
theorem d_M_frame_1 : decode b_M_frame 1 = .ok (.iload_n 1, 1) := by decide +kernel
theorem d_M_frame_2 : decode b_M_frame 2 = .ok (.i2l, 1) := by decide +kernel
theorem d_M_frame_3 : decode b_M_frame 3 = .ok (.lconst 1, 1) := by decide +kernel
theorem d_M_frame_4 : decode b_M_frame 4 = .ok (.ldc2_w 75, 3) := by decide +kernel
theorem d_M_frame_7 : decode b_M_frame 7 = .ok (.invokestatic 51, 3) := by decide +kernel
theorem d_M_frame_10 : decode b_M_frame 10 = .ok (.ifCond .eq 15, 3) := by decide +kernel
theorem d_M_frame_13 : decode b_M_frame 13 = .ok (.iload_n 2, 1) := by decide +kernel
theorem d_M_frame_14 : decode b_M_frame 14 = .ok (.i2l, 1) := by decide +kernel
theorem d_M_frame_15 : decode b_M_frame 15 = .ok (.lconst 1, 1) := by decide +kernel
theorem d_M_frame_16 : decode b_M_frame 16 = .ok (.ldc2_w 75, 3) := by decide +kernel
theorem d_M_frame_19 : decode b_M_frame 19 = .ok (.invokestatic 51, 3) := by decide +kernel
theorem d_M_frame_22 : decode b_M_frame 22 = .ok (.ifCond .ne 7, 3) := by decide +kernel
theorem d_M_frame_25 : decode b_M_frame 25 = .ok (.iconst 1, 1) := by decide +kernel
theorem d_M_frame_26 : decode b_M_frame 26 = .ok (.goto 4, 3) := by decide +kernel
theorem d_M_frame_29 : decode b_M_frame 29 = .ok (.iconst 0, 1) := by decide +kernel
theorem d_M_frame_30 : decode b_M_frame 30 = .ok (.invokevirtual 120, 3) := by decide +kernel
theorem d_M_frame_33 : decode b_M_frame 33 = .ok (.ifCond .eq 4, 3) := by decide +kernel
theorem d_M_frame_36 : decode b_M_frame 36 = .ok (.return_, 1) := by decide +kernel
theorem d_M_frame_37 : decode b_M_frame 37 = .ok (.aload_n 0, 1) := by decide +kernel
theorem d_M_frame_38 : decode b_M_frame 38 = .ok (.iload_n 1, 1) := by decide +kernel
theorem d_M_frame_39 : decode b_M_frame 39 = .ok (.putfield 13, 3) := by decide +kernel
theorem d_M_frame_42 : decode b_M_frame 42 = .ok (.aload_n 0, 1) := by decide +kernel
theorem d_M_frame_43 : decode b_M_frame 43 = .ok (.iload_n 2, 1) := by decide +kernel
theorem d_M_frame_44 : decode b_M_frame 44 = .ok (.putfield 17, 3) := by decide +kernel
theorem d_M_frame_47 : decode b_M_frame 47 = .ok (.return_, 1) := by decide +kernel
theorem d_M_put_0 : decode b_M_put 0 = .ok (.aload_n 0, 1) := by decide +kernel
theorem d_M_put_1 : decode b_M_put 1 = .ok (.aload_n 0, 1) := by decide +kernel
theorem d_M_put_2 : decode b_M_put 2 = .ok (.getfield 124, 3) := by decide +kernel
theorem d_M_put_5 : decode b_M_put 5 = .ok (.sipush 4096, 3) := by decide +kernel
theorem d_M_put_8 : decode b_M_put 8 = .ok (.if_icmp .ne 7, 3) := by decide +kernel
theorem d_M_put_11 : decode b_M_put 11 = .ok (.iconst 1, 1) := by decide +kernel
theorem d_M_put_12 : decode b_M_put 12 = .ok (.goto 4, 3) := by decide +kernel
theorem d_M_put_15 : decode b_M_put 15 = .ok (.iconst 0, 1) := by decide +kernel
theorem d_M_put_16 : decode b_M_put 16 = .ok (.invokevirtual 120, 3) := by decide +kernel
theorem d_M_put_19 : decode b_M_put 19 = .ok (.ifCond .eq 5, 3) := by decide +kernel
theorem d_M_put_22 : decode b_M_put 22 = .ok (.iconst 0, 1) := by decide +kernel
theorem d_M_put_23 : decode b_M_put 23 = .ok (.ireturn, 1) := by decide +kernel
theorem d_M_put_24 : decode b_M_put 24 = .ok (.aload_n 0, 1) := by decide +kernel
theorem d_M_put_25 : decode b_M_put 25 = .ok (.getfield 20, 3) := by decide +kernel
theorem d_M_put_28 : decode b_M_put 28 = .ok (.aload_n 0, 1) := by decide +kernel
theorem d_M_put_29 : decode b_M_put 29 = .ok (.getfield 124, 3) := by decide +kernel
theorem d_M_put_32 : decode b_M_put 32 = .ok (.iload_n 1, 1) := by decide +kernel
theorem d_M_put_33 : decode b_M_put 33 = .ok (.iastore, 1) := by decide +kernel
theorem d_M_put_34 : decode b_M_put 34 = .ok (.aload_n 0, 1) := by decide +kernel
theorem d_M_put_35 : decode b_M_put 35 = .ok (.dup, 1) := by decide +kernel
theorem d_M_put_36 : decode b_M_put 36 = .ok (.getfield 124, 3) := by decide +kernel
theorem d_M_put_39 : decode b_M_put 39 = .ok (.iconst 1, 1) := by decide +kernel
theorem d_M_put_40 : decode b_M_put 40 = .ok (.iadd, 1) := by decide +kernel
theorem d_M_put_41 : decode b_M_put 41 = .ok (.putfield 124, 3) := by decide +kernel
theorem d_M_put_44 : decode b_M_put 44 = .ok (.aload_n 0, 1) := by decide +kernel
theorem d_M_put_45 : decode b_M_put 45 = .ok (.getfield 124, 3) := by decide +kernel
theorem d_M_put_48 : decode b_M_put 48 = .ok (.ireturn, 1) := by decide +kernel
theorem d_M_clear_0 : decode b_M_clear 0 = .ok (.aload_n 0, 1) := by decide +kernel
theorem d_M_clear_1 : decode b_M_clear 1 = .ok (.iconst 0, 1) := by decide +kernel
theorem d_M_clear_2 : decode b_M_clear 2 = .ok (.putfield 44, 3) := by decide +kernel
theorem d_M_clear_5 : decode b_M_clear 5 = .ok (.aload_n 0, 1) := by decide +kernel
theorem d_M_clear_6 : decode b_M_clear 6 = .ok (.iconst 0, 1) := by decide +kernel
theorem d_M_clear_7 : decode b_M_clear 7 = .ok (.putfield 124, 3) := by decide +kernel
theorem d_M_clear_10 : decode b_M_clear 10 = .ok (.aload_n 0, 1) := by decide +kernel
theorem d_M_clear_11 : decode b_M_clear 11 = .ok (.invokevirtual 146, 3) := by decide +kernel
theorem d_M_clear_14 : decode b_M_clear 14 = .ok (.return_, 1) := by decide +kernel
theorem d_M_anew_0 : decode b_M_anew 0 = .ok (.aload_n 0, 1) := by decide +kernel
theorem d_M_anew_1 : decode b_M_anew 1 = .ok (.iconst 0, 1) := by decide +kernel
theorem d_M_anew_2 : decode b_M_anew 2 = .ok (.putfield 127, 3) := by decide +kernel
theorem d_M_anew_5 : decode b_M_anew 5 = .ok (.aload_n 0, 1) := by decide +kernel
theorem d_M_anew_6 : decode b_M_anew 6 = .ok (.iconst 0, 1) := by decide +kernel
theorem d_M_anew_7 : decode b_M_anew 7 = .ok (.putfield 130, 3) := by decide +kernel
theorem d_M_anew_10 : decode b_M_anew 10 = .ok (.aload_n 0, 1) := by decide +kernel
theorem d_M_anew_11 : decode b_M_anew 11 = .ok (.iconst 0, 1) := by decide +kernel
theorem d_M_anew_12 : decode b_M_anew 12 = .ok (.putfield 133, 3) := by decide +kernel
theorem d_M_anew_15 : decode b_M_anew 15 = .ok (.aload_n 0, 1) := by decide +kernel
theorem d_M_anew_16 : decode b_M_anew 16 = .ok (.iconst 0, 1) := by decide +kernel
theorem d_M_anew_17 : decode b_M_anew 17 = .ok (.putfield 137, 3) := by decide +kernel
theorem d_M_anew_20 : decode b_M_anew 20 = .ok (.aload_n 0, 1) := by decide +kernel
theorem d_M_anew_21 : decode b_M_anew 21 = .ok (.iconst (-1), 1) := by decide +kernel
theorem d_M_anew_22 : decode b_M_anew 22 = .ok (.putfield 26, 3) := by decide +kernel
theorem d_M_anew_25 : decode b_M_anew 25 = .ok (.aload_n 0, 1) := by decide +kernel
theorem d_M_anew_26 : decode b_M_anew 26 = .ok (.iconst (-1), 1) := by decide +kernel
theorem d_M_anew_27 : decode b_M_anew 27 = .ok (.putfield 29, 3) := by decide +kernel
theorem d_M_anew_30 : decode b_M_anew 30 = .ok (.aload_n 0, 1) := by decide +kernel
theorem d_M_anew_31 : decode b_M_anew 31 = .ok (.iconst 0, 1) := by decide +kernel
theorem d_M_anew_32 : decode b_M_anew 32 = .ok (.putfield 140, 3) := by decide +kernel
theorem d_M_anew_35 : decode b_M_anew 35 = .ok (.aload_n 0, 1) := by decide +kernel
theorem d_M_anew_36 : decode b_M_anew 36 = .ok (.iconst (-1), 1) := by decide +kernel
theorem d_M_anew_37 : decode b_M_anew 37 = .ok (.putfield 32, 3) := by decide +kernel
theorem d_M_anew_40 : decode b_M_anew 40 = .ok (.aload_n 0, 1) := by decide +kernel
theorem d_M_anew_41 : decode b_M_anew 41 = .ok (.iconst 0, 1) := by decide +kernel
theorem d_M_anew_42 : decode b_M_anew 42 = .ok (.putfield 143, 3) := by decide +kernel
theorem d_M_anew_45 : decode b_M_anew 45 = .ok (.return_, 1) := by decide +kernel
theorem d_M_begin_0 : decode b_M_begin 0 = .ok (.aload_n 0, 1) := by decide +kernel
theorem d_M_begin_1 : decode b_M_begin 1 = .ok (.iconst 0, 1) := by decide +kernel
theorem d_M_begin_2 : decode b_M_begin 2 = .ok (.putfield 44, 3) := by decide +kernel
theorem d_M_begin_5 : decode b_M_begin 5 = .ok (.aload_n 0, 1) := by decide +kernel
theorem d_M_begin_6 : decode b_M_begin 6 = .ok (.invokevirtual 146, 3) := by decide +kernel
theorem d_M_begin_9 : decode b_M_begin 9 = .ok (.iload_n 1, 1) := by decide +kernel
theorem d_M_begin_10 : decode b_M_begin 10 = .ok (.ifCond .ne 7, 3) := by decide +kernel
theorem d_M_begin_13 : decode b_M_begin 13 = .ok (.aload_n 0, 1) := by decide +kernel
theorem d_M_begin_14 : decode b_M_begin 14 = .ok (.invokevirtual 41, 3) := by decide +kernel
theorem d_M_begin_17 : decode b_M_begin 17 = .ok (.return_, 1) := by decide +kernel
theorem d_M_next_0 : decode b_M_next 0 = .ok (.aload_n 0, 1) := by decide +kernel
theorem d_M_next_1 : decode b_M_next 1 = .ok (.aload_n 0, 1) := by decide +kernel
theorem d_M_next_2 : decode b_M_next 2 = .ok (.getfield 133, 3) := by decide +kernel
theorem d_M_next_5 : decode b_M_next 5 = .ok (.invokevirtual 120, 3) := by decide +kernel
theorem d_M_next_8 : decode b_M_next 8 = .ok (.ifCond .eq 5, 3) := by decide +kernel
theorem d_M_next_11 : decode b_M_next 11 = .ok (.iconst 0, 1) := by decide +kernel
theorem d_M_next_12 : decode b_M_next 12 = .ok (.ireturn, 1) := by decide +kernel
theorem d_M_next_13 : decode b_M_next 13 = .ok (.aload_n 0, 1) := by decide +kernel
theorem d_M_next_14 : decode b_M_next 14 = .ok (.aload_n 0, 1) := by decide +kernel
theorem d_M_next_15 : decode b_M_next 15 = .ok (.getfield 127, 3) := by decide +kernel
theorem d_M_next_18 : decode b_M_next 18 = .ok (.putfield 26, 3) := by decide +kernel
theorem d_M_next_21 : decode b_M_next 21 = .ok (.aload_n 0, 1) := by decide +kernel
theorem d_M_next_22 : decode b_M_next 22 = .ok (.aload_n 0, 1) := by decide +kernel
theorem d_M_next_23 : decode b_M_next 23 = .ok (.getfield 130, 3) := by decide +kernel
theorem d_M_next_26 : decode b_M_next 26 = .ok (.putfield 29, 3) := by decide +kernel
theorem d_M_next_29 : decode b_M_next 29 = .ok (.aload_n 0, 1) := by decide +kernel
theorem d_M_next_30 : decode b_M_next 30 = .ok (.invokevirtual 175, 3) := by decide +kernel
theorem d_M_next_33 : decode b_M_next 33 = .ok (.istore_n 1, 1) := by decide +kernel
theorem d_M_next_34 : decode b_M_next 34 = .ok (.iload_n 1, 1) := by decide +kernel
theorem d_M_next_35 : decode b_M_next 35 = .ok (.ifCond .le 20, 3) := by decide +kernel
theorem d_M_next_38 : decode b_M_next 38 = .ok (.aload_n 0, 1) := by decide +kernel
theorem d_M_next_39 : decode b_M_next 39 = .ok (.iload_n 1, 1) := by decide +kernel
theorem d_M_next_40 : decode b_M_next 40 = .ok (.putfield 137, 3) := by decide +kernel
theorem d_M_next_43 : decode b_M_next 43 = .ok (.aload_n 0, 1) := by decide +kernel
theorem d_M_next_44 : decode b_M_next 44 = .ok (.iconst 1, 1) := by decide +kernel
theorem d_M_next_45 : decode b_M_next 45 = .ok (.putfield 133, 3) := by decide +kernel
theorem d_M_next_48 : decode b_M_next 48 = .ok (.aload_n 0, 1) := by decide +kernel
theorem d_M_next_49 : decode b_M_next 49 = .ok (.iconst 0, 1) := by decide +kernel
theorem d_M_next_50 : decode b_M_next 50 = .ok (.putfield 143, 3) := by decide +kernel
theorem d_M_next_53 : decode b_M_next 53 = .ok (.iconst (-1), 1) := by decide +kernel
theorem d_M_next_54 : decode b_M_next 54 = .ok (.ireturn, 1) := by decide +kernel
theorem d_M_next_55 : decode b_M_next 55 = .ok (.aload_n 0, 1) := by decide +kernel
theorem d_M_next_56 : decode b_M_next 56 = .ok (.dup, 1) := by decide +kernel
theorem d_M_next_57 : decode b_M_next 57 = .ok (.getfield 140, 3) := by decide +kernel
theorem d_M_next_60 : decode b_M_next 60 = .ok (.iconst 1, 1) := by decide +kernel
theorem d_M_next_61 : decode b_M_next 61 = .ok (.iadd, 1) := by decide +kernel
theorem d_M_next_62 : decode b_M_next 62 = .ok (.putfield 140, 3) := by decide +kernel
theorem d_M_next_65 : decode b_M_next 65 = .ok (.aload_n 0, 1) := by decide +kernel
theorem d_M_next_66 : decode b_M_next 66 = .ok (.getfield 130, 3) := by decide +kernel
theorem d_M_next_69 : decode b_M_next 69 = .ok (.ifCond .ne 18, 3) := by decide +kernel
theorem d_M_next_72 : decode b_M_next 72 = .ok (.aload_n 0, 1) := by decide +kernel
theorem d_M_next_73 : decode b_M_next 73 = .ok (.getfield 127, 3) := by decide +kernel
theorem d_M_next_76 : decode b_M_next 76 = .ok (.aload_n 0, 1) := by decide +kernel
theorem d_M_next_77 : decode b_M_next 77 = .ok (.getfield 124, 3) := by decide +kernel
theorem d_M_next_80 : decode b_M_next 80 = .ok (.if_icmp .ne 7, 3) := by decide +kernel
theorem d_M_next_83 : decode b_M_next 83 = .ok (.iconst 1, 1) := by decide +kernel
theorem d_M_next_84 : decode b_M_next 84 = .ok (.goto 4, 3) := by decide +kernel
theorem d_M_next_87 : decode b_M_next 87 = .ok (.iconst 0, 1) := by decide +kernel
theorem d_M_next_88 : decode b_M_next 88 = .ok (.istore_n 2, 1) := by decide +kernel
theorem d_M_next_89 : decode b_M_next 89 = .ok (.iload_n 2, 1) := by decide +kernel
theorem d_M_next_90 : decode b_M_next 90 = .ok (.ifCond .eq 7, 3) := by decide +kernel
theorem d_M_next_93 : decode b_M_next 93 = .ok (.iconst 0, 1) := by decide +kernel
theorem d_M_next_94 : decode b_M_next 94 = .ok (.goto 11, 3) := by decide +kernel
theorem d_M_next_97 : decode b_M_next 97 = .ok (.aload_n 0, 1) := by decide +kernel
theorem d_M_next_98 : decode b_M_next 98 = .ok (.aload_n 0, 1) := by decide +kernel
theorem d_M_next_99 : decode b_M_next 99 = .ok (.getfield 127, 3) := by decide +kernel
theorem d_M_next_102 : decode b_M_next 102 = .ok (.invokevirtual 153, 3) := by decide +kernel
theorem d_M_next_105 : decode b_M_next 105 = .ok (.istore_n 3, 1) := by decide +kernel
theorem d_M_next_106 : decode b_M_next 106 = .ok (.aload_n 0, 1) := by decide +kernel
theorem d_M_next_107 : decode b_M_next 107 = .ok (.iload_n 2, 1) := by decide +kernel
theorem d_M_next_108 : decode b_M_next 108 = .ok (.ifCond .eq 10, 3) := by decide +kernel
theorem d_M_next_111 : decode b_M_next 111 = .ok (.aload_n 0, 1) := by decide +kernel
theorem d_M_next_112 : decode b_M_next 112 = .ok (.getfield 127, 3) := by decide +kernel
theorem d_M_next_115 : decode b_M_next 115 = .ok (.goto 14, 3) := by decide +kernel
theorem d_M_next_118 : decode b_M_next 118 = .ok (.aload_n 0, 1) := by decide +kernel
theorem d_M_next_119 : decode b_M_next 119 = .ok (.getfield 127, 3) := by decide +kernel
theorem d_M_next_122 : decode b_M_next 122 = .ok (.iconst 1, 1) := by decide +kernel
theorem d_M_next_123 : decode b_M_next 123 = .ok (.iadd, 1) := by decide +kernel
theorem d_M_next_124 : decode b_M_next 124 = .ok (.aload_n 0, 1) := by decide +kernel
theorem d_M_next_125 : decode b_M_next 125 = .ok (.getfield 143, 3) := by decide +kernel
theorem d_M_next_128 : decode b_M_next 128 = .ok (.iadd, 1) := by decide +kernel
theorem d_M_next_129 : decode b_M_next 129 = .ok (.putfield 127, 3) := by decide +kernel
theorem d_M_next_132 : decode b_M_next 132 = .ok (.aload_n 0, 1) := by decide +kernel
theorem d_M_next_133 : decode b_M_next 133 = .ok (.iload_n 3, 1) := by decide +kernel
theorem d_M_next_134 : decode b_M_next 134 = .ok (.invokevirtual 179, 3) := by decide +kernel
theorem d_M_next_137 : decode b_M_next 137 = .ok (.iload_n 3, 1) := by decide +kernel
theorem d_M_next_138 : decode b_M_next 138 = .ok (.ireturn, 1) := by decide +kernel
theorem d_M_look_0 : decode b_M_look 0 = .ok (.aload_n 0, 1) := by decide +kernel
theorem d_M_look_1 : decode b_M_look 1 = .ok (.getfield 130, 3) := by decide +kernel
theorem d_M_look_4 : decode b_M_look 4 = .ok (.ifCond .ne 18, 3) := by decide +kernel
theorem d_M_look_7 : decode b_M_look 7 = .ok (.aload_n 0, 1) := by decide +kernel
theorem d_M_look_8 : decode b_M_look 8 = .ok (.getfield 127, 3) := by decide +kernel
theorem d_M_look_11 : decode b_M_look 11 = .ok (.aload_n 0, 1) := by decide +kernel
theorem d_M_look_12 : decode b_M_look 12 = .ok (.getfield 124, 3) := by decide +kernel
theorem d_M_look_15 : decode b_M_look 15 = .ok (.if_icmp .ne 7, 3) := by decide +kernel
theorem d_M_look_18 : decode b_M_look 18 = .ok (.iconst 1, 1) := by decide +kernel
theorem d_M_look_19 : decode b_M_look 19 = .ok (.goto 4, 3) := by decide +kernel
theorem d_M_look_22 : decode b_M_look 22 = .ok (.iconst 0, 1) := by decide +kernel
theorem d_M_look_23 : decode b_M_look 23 = .ok (.istore_n 1, 1) := by decide +kernel
theorem d_M_look_24 : decode b_M_look 24 = .ok (.aload_n 0, 1) := by decide +kernel
theorem d_M_look_25 : decode b_M_look 25 = .ok (.getfield 140, 3) := by decide +kernel
theorem d_M_look_28 : decode b_M_look 28 = .ok (.sipush 2000, 3) := by decide +kernel
theorem d_M_look_31 : decode b_M_look 31 = .ok (.if_icmp .ne 6, 3) := by decide +kernel
theorem d_M_look_34 : decode b_M_look 34 = .ok (.bipush 7, 2) := by decide +kernel
theorem d_M_look_36 : decode b_M_look 36 = .ok (.ireturn, 1) := by decide +kernel
theorem d_M_look_37 : decode b_M_look 37 = .ok (.iload_n 1, 1) := by decide +kernel
theorem d_M_look_38 : decode b_M_look 38 = .ok (.ifCond .eq 10, 3) := by decide +kernel
theorem d_M_look_41 : decode b_M_look 41 = .ok (.aload_n 0, 1) := by decide +kernel
theorem d_M_look_42 : decode b_M_look 42 = .ok (.iconst 0, 1) := by decide +kernel
theorem d_M_look_43 : decode b_M_look 43 = .ok (.putfield 143, 3) := by decide +kernel
theorem d_M_look_46 : decode b_M_look 46 = .ok (.iconst 0, 1) := by decide +kernel
theorem d_M_look_47 : decode b_M_look 47 = .ok (.ireturn, 1) := by decide +kernel
theorem d_M_look_48 : decode b_M_look 48 = .ok (.aload_n 0, 1) := by decide +kernel
theorem d_M_look_49 : decode b_M_look 49 = .ok (.aload_n 0, 1) := by decide +kernel
theorem d_M_look_50 : decode b_M_look 50 = .ok (.getfield 127, 3) := by decide +kernel
theorem d_M_look_53 : decode b_M_look 53 = .ok (.invokevirtual 149, 3) := by decide +kernel
theorem d_M_look_56 : decode b_M_look 56 = .ok (.ifCond .ne 5, 3) := by decide +kernel
theorem d_M_look_59 : decode b_M_look 59 = .ok (.iconst 1, 1) := by decide +kernel
theorem d_M_look_60 : decode b_M_look 60 = .ok (.ireturn, 1) := by decide +kernel
theorem d_M_look_61 : decode b_M_look 61 = .ok (.aload_n 0, 1) := by decide +kernel
theorem d_M_look_62 : decode b_M_look 62 = .ok (.aload_n 0, 1) := by decide +kernel
theorem d_M_look_63 : decode b_M_look 63 = .ok (.getfield 127, 3) := by decide +kernel
theorem d_M_look_66 : decode b_M_look 66 = .ok (.invokevirtual 153, 3) := by decide +kernel
theorem d_M_look_69 : decode b_M_look 69 = .ok (.istore_n 2, 1) := by decide +kernel
theorem d_M_look_70 : decode b_M_look 70 = .ok (.iload_n 2, 1) := by decide +kernel
theorem d_M_look_71 : decode b_M_look 71 = .ok (.i2l, 1) := by decide +kernel
theorem d_M_look_72 : decode b_M_look 72 = .ok (.lconst 0, 1) := by decide +kernel
theorem d_M_look_73 : decode b_M_look 73 = .ok (.ldc2_w 160, 3) := by decide +kernel
theorem d_M_look_76 : decode b_M_look 76 = .ok (.invokestatic 51, 3) := by decide +kernel
theorem d_M_look_79 : decode b_M_look 79 = .ok (.ifCond .ne 5, 3) := by decide +kernel
theorem d_M_look_82 : decode b_M_look 82 = .ok (.iconst 2, 1) := by decide +kernel
theorem d_M_look_83 : decode b_M_look 83 = .ok (.ireturn, 1) := by decide +kernel
theorem d_M_look_84 : decode b_M_look 84 = .ok (.aload_n 0, 1) := by decide +kernel
theorem d_M_look_85 : decode b_M_look 85 = .ok (.iload_n 2, 1) := by decide +kernel
theorem d_M_look_86 : decode b_M_look 86 = .ok (.invokevirtual 162, 3) := by decide +kernel
theorem d_M_look_89 : decode b_M_look 89 = .ok (.istore_n 3, 1) := by decide +kernel
theorem d_M_look_90 : decode b_M_look 90 = .ok (.aload_n 0, 1) := by decide +kernel
theorem d_M_look_91 : decode b_M_look 91 = .ok (.aload_n 0, 1) := by decide +kernel
theorem d_M_look_92 : decode b_M_look 92 = .ok (.getfield 127, 3) := by decide +kernel
theorem d_M_look_95 : decode b_M_look 95 = .ok (.iload_n 3, 1) := by decide +kernel
theorem d_M_look_96 : decode b_M_look 96 = .ok (.iadd, 1) := by decide +kernel
theorem d_M_look_97 : decode b_M_look 97 = .ok (.invokevirtual 149, 3) := by decide +kernel
theorem d_M_look_100 : decode b_M_look 100 = .ok (.ifCond .ne 5, 3) := by decide +kernel
theorem d_M_look_103 : decode b_M_look 103 = .ok (.iconst 1, 1) := by decide +kernel
theorem d_M_look_104 : decode b_M_look 104 = .ok (.ireturn, 1) := by decide +kernel
theorem d_M_look_105 : decode b_M_look 105 = .ok (.iconst 1, 1) := by decide +kernel
theorem d_M_look_106 : decode b_M_look 106 = .ok (.istore 4, 2) := by decide +kernel
theorem d_M_look_108 : decode b_M_look 108 = .ok (.iconst 0, 1) := by decide +kernel
theorem d_M_look_109 : decode b_M_look 109 = .ok (.istore 5, 2) := by decide +kernel
theorem d_M_look_111 : decode b_M_look 111 = .ok (.iload 5, 2) := by decide +kernel
theorem d_M_look_113 : decode b_M_look 113 = .ok (.iload_n 3, 1) := by decide +kernel
theorem d_M_look_114 : decode b_M_look 114 = .ok (.if_icmp .ge 57, 3) := by decide +kernel
theorem d_M_look_117 : decode b_M_look 117 = .ok (.aload_n 0, 1) := by decide +kernel
theorem d_M_look_118 : decode b_M_look 118 = .ok (.getfield 35, 3) := by decide +kernel
theorem d_M_look_121 : decode b_M_look 121 = .ok (.iload 5, 2) := by decide +kernel
theorem d_M_look_123 : decode b_M_look 123 = .ok (.aload_n 0, 1) := by decide +kernel
theorem d_M_look_124 : decode b_M_look 124 = .ok (.aload_n 0, 1) := by decide +kernel
theorem d_M_look_125 : decode b_M_look 125 = .ok (.getfield 127, 3) := by decide +kernel
theorem d_M_look_128 : decode b_M_look 128 = .ok (.iconst 1, 1) := by decide +kernel
theorem d_M_look_129 : decode b_M_look 129 = .ok (.iadd, 1) := by decide +kernel
theorem d_M_look_130 : decode b_M_look 130 = .ok (.iload 5, 2) := by decide +kernel
theorem d_M_look_132 : decode b_M_look 132 = .ok (.iadd, 1) := by decide +kernel
theorem d_M_look_133 : decode b_M_look 133 = .ok (.invokevirtual 153, 3) := by decide +kernel
theorem d_M_look_136 : decode b_M_look 136 = .ok (.iastore, 1) := by decide +kernel
theorem d_M_look_137 : decode b_M_look 137 = .ok (.iload 4, 2) := by decide +kernel
theorem d_M_look_139 : decode b_M_look 139 = .ok (.ifCond .eq 23, 3) := by decide +kernel
theorem d_M_look_142 : decode b_M_look 142 = .ok (.iload_n 2, 1) := by decide +kernel
theorem d_M_look_143 : decode b_M_look 143 = .ok (.iload 5, 2) := by decide +kernel
theorem d_M_look_145 : decode b_M_look 145 = .ok (.aload_n 0, 1) := by decide +kernel
theorem d_M_look_146 : decode b_M_look 146 = .ok (.getfield 35, 3) := by decide +kernel
theorem d_M_look_149 : decode b_M_look 149 = .ok (.iload 5, 2) := by decide +kernel
theorem d_M_look_151 : decode b_M_look 151 = .ok (.iaload, 1) := by decide +kernel
theorem d_M_look_152 : decode b_M_look 152 = .ok (.invokestatic 165, 3) := by decide +kernel
theorem d_M_look_155 : decode b_M_look 155 = .ok (.ifCond .eq 7, 3) := by decide +kernel
theorem d_M_look_158 : decode b_M_look 158 = .ok (.iconst 1, 1) := by decide +kernel
theorem d_M_look_159 : decode b_M_look 159 = .ok (.goto 4, 3) := by decide +kernel
theorem d_M_look_162 : decode b_M_look 162 = .ok (.iconst 0, 1) := by decide +kernel
theorem d_M_look_163 : decode b_M_look 163 = .ok (.istore 4, 2) := by decide +kernel
theorem d_M_look_165 : decode b_M_look 165 = .ok (.iinc 5 1, 3) := by decide +kernel
theorem d_M_look_168 : decode b_M_look 168 = .ok (.goto (-57), 3) := by decide +kernel
theorem d_M_look_171 : decode b_M_look 171 = .ok (.aload_n 0, 1) := by decide +kernel
theorem d_M_look_172 : decode b_M_look 172 = .ok (.iload_n 3, 1) := by decide +kernel
theorem d_M_look_173 : decode b_M_look 173 = .ok (.putfield 143, 3) := by decide +kernel
theorem d_M_look_176 : decode b_M_look 176 = .ok (.iload 4, 2) := by decide +kernel
theorem d_M_look_178 : decode b_M_look 178 = .ok (.ifCond .ne 7, 3) := by decide +kernel
theorem d_M_look_181 : decode b_M_look 181 = .ok (.iconst 3, 1) := by decide +kernel
theorem d_M_look_182 : decode b_M_look 182 = .ok (.goto 29, 3) := by decide +kernel
theorem d_M_look_185 : decode b_M_look 185 = .ok (.aload_n 0, 1) := by decide +kernel
theorem d_M_look_186 : decode b_M_look 186 = .ok (.iload_n 2, 1) := by decide +kernel
theorem d_M_look_187 : decode b_M_look 187 = .ok (.invokevirtual 169, 3) := by decide +kernel
theorem d_M_look_190 : decode b_M_look 190 = .ok (.ifCond .ne 7, 3) := by decide +kernel
theorem d_M_look_193 : decode b_M_look 193 = .ok (.iconst 5, 1) := by decide +kernel
theorem d_M_look_194 : decode b_M_look 194 = .ok (.goto 17, 3) := by decide +kernel
theorem d_M_look_197 : decode b_M_look 197 = .ok (.aload_n 0, 1) := by decide +kernel
theorem d_M_look_198 : decode b_M_look 198 = .ok (.iload_n 2, 1) := by decide +kernel
theorem d_M_look_199 : decode b_M_look 199 = .ok (.invokevirtual 172, 3) := by decide +kernel
theorem d_M_look_202 : decode b_M_look 202 = .ok (.ifCond .ne 8, 3) := by decide +kernel
theorem d_M_look_205 : decode b_M_look 205 = .ok (.bipush 6, 2) := by decide +kernel
theorem d_M_look_207 : decode b_M_look 207 = .ok (.goto 4, 3) := by decide +kernel
theorem d_M_look_210 : decode b_M_look 210 = .ok (.iconst 0, 1) := by decide +kernel
theorem d_M_look_211 : decode b_M_look 211 = .ok (.ireturn, 1) := by decide +kernel
theorem d_M_isThere_0 : decode b_M_isThere 0 = .ok (.iload_n 1, 1) := by decide +kernel
theorem d_M_isThere_1 : decode b_M_isThere 1 = .ok (.aload_n 0, 1) := by decide +kernel
theorem d_M_isThere_2 : decode b_M_isThere 2 = .ok (.getfield 130, 3) := by decide +kernel
theorem d_M_isThere_5 : decode b_M_isThere 5 = .ok (.ifCond .ne 10, 3) := by decide +kernel
theorem d_M_isThere_8 : decode b_M_isThere 8 = .ok (.aload_n 0, 1) := by decide +kernel
theorem d_M_isThere_9 : decode b_M_isThere 9 = .ok (.getfield 124, 3) := by decide +kernel
theorem d_M_isThere_12 : decode b_M_isThere 12 = .ok (.goto 6, 3) := by decide +kernel
theorem d_M_isThere_15 : decode b_M_isThere 15 = .ok (.sipush 4096, 3) := by decide +kernel
theorem d_M_isThere_18 : decode b_M_isThere 18 = .ok (.if_icmp .ge 7, 3) := by decide +kernel
theorem d_M_isThere_21 : decode b_M_isThere 21 = .ok (.iconst 1, 1) := by decide +kernel
theorem d_M_isThere_22 : decode b_M_isThere 22 = .ok (.goto 4, 3) := by decide +kernel
theorem d_M_isThere_25 : decode b_M_isThere 25 = .ok (.iconst 0, 1) := by decide +kernel
theorem d_M_isThere_26 : decode b_M_isThere 26 = .ok (.ireturn, 1) := by decide +kernel
theorem d_M_read_0 : decode b_M_read 0 = .ok (.aload_n 0, 1) := by decide +kernel
theorem d_M_read_1 : decode b_M_read 1 = .ok (.getfield 130, 3) := by decide +kernel
theorem d_M_read_4 : decode b_M_read 4 = .ok (.ifCond .ne 12, 3) := by decide +kernel
theorem d_M_read_7 : decode b_M_read 7 = .ok (.aload_n 0, 1) := by decide +kernel
theorem d_M_read_8 : decode b_M_read 8 = .ok (.getfield 20, 3) := by decide +kernel
theorem d_M_read_11 : decode b_M_read 11 = .ok (.iload_n 1, 1) := by decide +kernel
theorem d_M_read_12 : decode b_M_read 12 = .ok (.iaload, 1) := by decide +kernel
theorem d_M_read_13 : decode b_M_read 13 = .ok (.goto 9, 3) := by decide +kernel
theorem d_M_read_16 : decode b_M_read 16 = .ok (.aload_n 0, 1) := by decide +kernel
theorem d_M_read_17 : decode b_M_read 17 = .ok (.getfield 7, 3) := by decide +kernel
theorem d_M_read_20 : decode b_M_read 20 = .ok (.iload_n 1, 1) := by decide +kernel
theorem d_M_read_21 : decode b_M_read 21 = .ok (.iaload, 1) := by decide +kernel
theorem d_M_read_22 : decode b_M_read 22 = .ok (.ireturn, 1) := by decide +kernel
theorem d_M_length_0 : decode b_M_length 0 = .ok (.iconst 0, 1) := by decide +kernel
theorem d_M_length_1 : decode b_M_length 1 = .ok (.istore_n 2, 1) := by decide +kernel
theorem d_M_length_2 : decode b_M_length 2 = .ok (.iload_n 1, 1) := by decide +kernel
theorem d_M_length_3 : decode b_M_length 3 = .ok (.bipush 21, 2) := by decide +kernel
theorem d_M_length_5 : decode b_M_length 5 = .ok (.if_icmp .ne 50, 3) := by decide +kernel
theorem d_M_length_8 : decode b_M_length 8 = .ok (.aload_n 0, 1) := by decide +kernel
theorem d_M_length_9 : decode b_M_length 9 = .ok (.aload_n 0, 1) := by decide +kernel
theorem d_M_length_10 : decode b_M_length 10 = .ok (.getfield 127, 3) := by decide +kernel
theorem d_M_length_13 : decode b_M_length 13 = .ok (.iconst 2, 1) := by decide +kernel
theorem d_M_length_14 : decode b_M_length 14 = .ok (.iadd, 1) := by decide +kernel
theorem d_M_length_15 : decode b_M_length 15 = .ok (.invokevirtual 149, 3) := by decide +kernel
theorem d_M_length_18 : decode b_M_length 18 = .ok (.ifCond .eq 37, 3) := by decide +kernel
theorem d_M_length_21 : decode b_M_length 21 = .ok (.aload_n 0, 1) := by decide +kernel
theorem d_M_length_22 : decode b_M_length 22 = .ok (.aload_n 0, 1) := by decide +kernel
theorem d_M_length_23 : decode b_M_length 23 = .ok (.getfield 127, 3) := by decide +kernel
theorem d_M_length_26 : decode b_M_length 26 = .ok (.iconst 2, 1) := by decide +kernel
theorem d_M_length_27 : decode b_M_length 27 = .ok (.iadd, 1) := by decide +kernel
theorem d_M_length_28 : decode b_M_length 28 = .ok (.invokevirtual 153, 3) := by decide +kernel
theorem d_M_length_31 : decode b_M_length 31 = .ok (.istore_n 2, 1) := by decide +kernel
theorem d_M_length_32 : decode b_M_length 32 = .ok (.iload_n 2, 1) := by decide +kernel
theorem d_M_length_33 : decode b_M_length 33 = .ok (.ifCond .ge 7, 3) := by decide +kernel
theorem d_M_length_36 : decode b_M_length 36 = .ok (.iconst 0, 1) := by decide +kernel
theorem d_M_length_37 : decode b_M_length 37 = .ok (.goto 17, 3) := by decide +kernel
theorem d_M_length_40 : decode b_M_length 40 = .ok (.iload_n 2, 1) := by decide +kernel
theorem d_M_length_41 : decode b_M_length 41 = .ok (.sipush 256, 3) := by decide +kernel
theorem d_M_length_44 : decode b_M_length 44 = .ok (.if_icmp .le 9, 3) := by decide +kernel
theorem d_M_length_47 : decode b_M_length 47 = .ok (.sipush 256, 3) := by decide +kernel
theorem d_M_length_50 : decode b_M_length 50 = .ok (.goto 4, 3) := by decide +kernel
theorem d_M_length_53 : decode b_M_length 53 = .ok (.iload_n 2, 1) := by decide +kernel
theorem d_M_length_54 : decode b_M_length 54 = .ok (.istore_n 2, 1) := by decide +kernel
theorem d_M_length_55 : decode b_M_length 55 = .ok (.iload_n 1, 1) := by decide +kernel
theorem d_M_length_56 : decode b_M_length 56 = .ok (.invokestatic 106, 3) := by decide +kernel
theorem d_M_length_59 : decode b_M_length 59 = .ok (.iload_n 2, 1) := by decide +kernel
theorem d_M_length_60 : decode b_M_length 60 = .ok (.iadd, 1) := by decide +kernel
theorem d_M_length_61 : decode b_M_length 61 = .ok (.ireturn, 1) := by decide +kernel
theorem d_M_may_0 : decode b_M_may 0 = .ok (.iload_n 0, 1) := by decide +kernel
theorem d_M_may_1 : decode b_M_may 1 = .ok (.tableswitch 574 1 24 #[111, 161, 167, 169, 222, 244, 275, 275, 301, 307, 333, 339, 167, 377, 389, 399, 417, 448, 497, 515, 521, 574, 554, 564], 111) := by decide +kernel
theorem d_M_may_112 : decode b_M_may 112 = .ok (.iload_n 1, 1) := by decide +kernel
theorem d_M_may_113 : decode b_M_may 113 = .ok (.ifCond .ne 15, 3) := by decide +kernel
theorem d_M_may_116 : decode b_M_may 116 = .ok (.iload_n 2, 1) := by decide +kernel
theorem d_M_may_117 : decode b_M_may 117 = .ok (.i2l, 1) := by decide +kernel
theorem d_M_may_118 : decode b_M_may 118 = .ok (.lconst 0, 1) := by decide +kernel
theorem d_M_may_119 : decode b_M_may 119 = .ok (.ldc2_w 61, 3) := by decide +kernel
theorem d_M_may_122 : decode b_M_may 122 = .ok (.invokestatic 51, 3) := by decide +kernel
theorem d_M_may_125 : decode b_M_may 125 = .ok (.goto 36, 3) := by decide +kernel
theorem d_M_may_128 : decode b_M_may 128 = .ok (.iload_n 1, 1) := by decide +kernel
theorem d_M_may_129 : decode b_M_may 129 = .ok (.iconst 1, 1) := by decide +kernel
theorem d_M_may_130 : decode b_M_may 130 = .ok (.if_icmp .eq 26, 3) := by decide +kernel
theorem d_M_may_133 : decode b_M_may 133 = .ok (.iload_n 2, 1) := by decide +kernel
theorem d_M_may_134 : decode b_M_may 134 = .ok (.i2l, 1) := by decide +kernel
theorem d_M_may_135 : decode b_M_may 135 = .ok (.lconst 0, 1) := by decide +kernel
theorem d_M_may_136 : decode b_M_may 136 = .ok (.iload_n 1, 1) := by decide +kernel
theorem d_M_may_137 : decode b_M_may 137 = .ok (.iconst 2, 1) := by decide +kernel
theorem d_M_may_138 : decode b_M_may 138 = .ok (.if_icmp .ne 9, 3) := by decide +kernel
theorem d_M_may_141 : decode b_M_may 141 = .ok (.ldc2_w 57, 3) := by decide +kernel
theorem d_M_may_144 : decode b_M_may 144 = .ok (.goto 6, 3) := by decide +kernel
theorem d_M_may_147 : decode b_M_may 147 = .ok (.ldc2_w 63, 3) := by decide +kernel
theorem d_M_may_150 : decode b_M_may 150 = .ok (.invokestatic 51, 3) := by decide +kernel
theorem d_M_may_153 : decode b_M_may 153 = .ok (.ifCond .eq 7, 3) := by decide +kernel
theorem d_M_may_156 : decode b_M_may 156 = .ok (.iconst 1, 1) := by decide +kernel
theorem d_M_may_157 : decode b_M_may 157 = .ok (.goto 4, 3) := by decide +kernel
theorem d_M_may_160 : decode b_M_may 160 = .ok (.iconst 0, 1) := by decide +kernel
theorem d_M_may_161 : decode b_M_may 161 = .ok (.ireturn, 1) := by decide +kernel
theorem d_M_may_162 : decode b_M_may 162 = .ok (.iload_n 1, 1) := by decide +kernel
theorem d_M_may_163 : decode b_M_may 163 = .ok (.iload_n 2, 1) := by decide +kernel
theorem d_M_may_164 : decode b_M_may 164 = .ok (.invokestatic 79, 3) := by decide +kernel
theorem d_M_may_167 : decode b_M_may 167 = .ok (.ireturn, 1) := by decide +kernel
theorem d_M_may_168 : decode b_M_may 168 = .ok (.iconst 1, 1) := by decide +kernel
theorem d_M_may_169 : decode b_M_may 169 = .ok (.ireturn, 1) := by decide +kernel
theorem d_M_may_170 : decode b_M_may 170 = .ok (.iload_n 2, 1) := by decide +kernel
theorem d_M_may_171 : decode b_M_may 171 = .ok (.i2l, 1) := by decide +kernel
theorem d_M_may_172 : decode b_M_may 172 = .ok (.lconst 0, 1) := by decide +kernel
theorem d_M_may_173 : decode b_M_may 173 = .ok (.iload_n 1, 1) := by decide +kernel
theorem d_M_may_174 : decode b_M_may 174 = .ok (.ifCond .ne 9, 3) := by decide +kernel
theorem d_M_may_177 : decode b_M_may 177 = .ok (.ldc2_w 61, 3) := by decide +kernel
theorem d_M_may_180 : decode b_M_may 180 = .ok (.goto 39, 3) := by decide +kernel
theorem d_M_may_183 : decode b_M_may 183 = .ok (.iload_n 1, 1) := by decide +kernel
theorem d_M_may_184 : decode b_M_may 184 = .ok (.iconst 1, 1) := by decide +kernel
theorem d_M_may_185 : decode b_M_may 185 = .ok (.if_icmp .ne 9, 3) := by decide +kernel
theorem d_M_may_188 : decode b_M_may 188 = .ok (.ldc2_w 67, 3) := by decide +kernel
theorem d_M_may_191 : decode b_M_may 191 = .ok (.goto 28, 3) := by decide +kernel
theorem d_M_may_194 : decode b_M_may 194 = .ok (.iload_n 1, 1) := by decide +kernel
theorem d_M_may_195 : decode b_M_may 195 = .ok (.iconst 2, 1) := by decide +kernel
theorem d_M_may_196 : decode b_M_may 196 = .ok (.if_icmp .ne 9, 3) := by decide +kernel
theorem d_M_may_199 : decode b_M_may 199 = .ok (.ldc2_w 55, 3) := by decide +kernel
theorem d_M_may_202 : decode b_M_may 202 = .ok (.goto 17, 3) := by decide +kernel
theorem d_M_may_205 : decode b_M_may 205 = .ok (.iload_n 1, 1) := by decide +kernel
theorem d_M_may_206 : decode b_M_may 206 = .ok (.iconst 3, 1) := by decide +kernel
theorem d_M_may_207 : decode b_M_may 207 = .ok (.if_icmp .ne 9, 3) := by decide +kernel
theorem d_M_may_210 : decode b_M_may 210 = .ok (.ldc2_w 83, 3) := by decide +kernel
theorem d_M_may_213 : decode b_M_may 213 = .ok (.goto 6, 3) := by decide +kernel
theorem d_M_may_216 : decode b_M_may 216 = .ok (.ldc2_w 65, 3) := by decide +kernel
theorem d_M_may_219 : decode b_M_may 219 = .ok (.invokestatic 51, 3) := by decide +kernel
theorem d_M_may_222 : decode b_M_may 222 = .ok (.ireturn, 1) := by decide +kernel
theorem d_M_may_223 : decode b_M_may 223 = .ok (.iload_n 1, 1) := by decide +kernel
theorem d_M_may_224 : decode b_M_may 224 = .ok (.ifCond .gt 15, 3) := by decide +kernel
theorem d_M_may_227 : decode b_M_may 227 = .ok (.iload_n 2, 1) := by decide +kernel
theorem d_M_may_228 : decode b_M_may 228 = .ok (.i2l, 1) := by decide +kernel
theorem d_M_may_229 : decode b_M_may 229 = .ok (.lconst 0, 1) := by decide +kernel
theorem d_M_may_230 : decode b_M_may 230 = .ok (.ldc2_w 85, 3) := by decide +kernel
theorem d_M_may_233 : decode b_M_may 233 = .ok (.invokestatic 51, 3) := by decide +kernel
theorem d_M_may_236 : decode b_M_may 236 = .ok (.ifCond .eq 7, 3) := by decide +kernel
theorem d_M_may_239 : decode b_M_may 239 = .ok (.iconst 1, 1) := by decide +kernel
theorem d_M_may_240 : decode b_M_may 240 = .ok (.goto 4, 3) := by decide +kernel
theorem d_M_may_243 : decode b_M_may 243 = .ok (.iconst 0, 1) := by decide +kernel
theorem d_M_may_244 : decode b_M_may 244 = .ok (.ireturn, 1) := by decide +kernel
theorem d_M_may_245 : decode b_M_may 245 = .ok (.iload_n 2, 1) := by decide +kernel
theorem d_M_may_246 : decode b_M_may 246 = .ok (.i2l, 1) := by decide +kernel
theorem d_M_may_247 : decode b_M_may 247 = .ok (.lconst 0, 1) := by decide +kernel
theorem d_M_may_248 : decode b_M_may 248 = .ok (.iload_n 1, 1) := by decide +kernel
theorem d_M_may_249 : decode b_M_may 249 = .ok (.ifCond .ne 9, 3) := by decide +kernel
theorem d_M_may_252 : decode b_M_may 252 = .ok (.ldc2_w 85, 3) := by decide +kernel
theorem d_M_may_255 : decode b_M_may 255 = .ok (.goto 17, 3) := by decide +kernel
theorem d_M_may_258 : decode b_M_may 258 = .ok (.iload_n 1, 1) := by decide +kernel
theorem d_M_may_259 : decode b_M_may 259 = .ok (.iconst 1, 1) := by decide +kernel
theorem d_M_may_260 : decode b_M_may 260 = .ok (.if_icmp .ne 9, 3) := by decide +kernel
theorem d_M_may_263 : decode b_M_may 263 = .ok (.ldc2_w 87, 3) := by decide +kernel
theorem d_M_may_266 : decode b_M_may 266 = .ok (.goto 6, 3) := by decide +kernel
theorem d_M_may_269 : decode b_M_may 269 = .ok (.ldc2_w 67, 3) := by decide +kernel
theorem d_M_may_272 : decode b_M_may 272 = .ok (.invokestatic 51, 3) := by decide +kernel
theorem d_M_may_275 : decode b_M_may 275 = .ok (.ireturn, 1) := by decide +kernel
theorem d_M_may_276 : decode b_M_may 276 = .ok (.iload_n 1, 1) := by decide +kernel
theorem d_M_may_277 : decode b_M_may 277 = .ok (.ifCond .ne 15, 3) := by decide +kernel
theorem d_M_may_280 : decode b_M_may 280 = .ok (.iload_n 2, 1) := by decide +kernel
theorem d_M_may_281 : decode b_M_may 281 = .ok (.i2l, 1) := by decide +kernel
theorem d_M_may_282 : decode b_M_may 282 = .ok (.lconst 0, 1) := by decide +kernel
theorem d_M_may_283 : decode b_M_may 283 = .ok (.ldc2_w 67, 3) := by decide +kernel
theorem d_M_may_286 : decode b_M_may 286 = .ok (.invokestatic 51, 3) := by decide +kernel
theorem d_M_may_289 : decode b_M_may 289 = .ok (.goto 12, 3) := by decide +kernel
theorem d_M_may_292 : decode b_M_may 292 = .ok (.iload_n 2, 1) := by decide +kernel
theorem d_M_may_293 : decode b_M_may 293 = .ok (.i2l, 1) := by decide +kernel
theorem d_M_may_294 : decode b_M_may 294 = .ok (.lconst 1, 1) := by decide +kernel
theorem d_M_may_295 : decode b_M_may 295 = .ok (.ldc2_w 89, 3) := by decide +kernel
