theorem dL_digest_157 : decode cL_digest 157 = .ok (.iconst 0, 1) := by decide +kernel
theorem dL_digest_158 : decode cL_digest 158 = .ok (.istore_n 3, 1) := by decide +kernel
theorem dL_digest_159 : decode cL_digest 159 = .ok (.iload_n 3, 1) := by decide +kernel
theorem dL_digest_160 : decode cL_digest 160 = .ok (.aload_n 0, 1) := by decide +kernel
theorem dL_digest_161 : decode cL_digest 161 = .ok (.invokevirtual 189, 3) := by decide +kernel
theorem dL_digest_164 : decode cL_digest 164 = .ok (.if_icmp .ge 147, 3) := by decide +kernel
theorem dL_digest_167 : decode cL_digest 167 = .ok (.ldc2_w 192, 3) := by decide +kernel
theorem dL_digest_170 : decode cL_digest 170 = .ok (.ldc2_w 192, 3) := by decide +kernel
theorem dL_digest_173 : decode cL_digest 173 = .ok (.ldc2_w 192, 3) := by decide +kernel
theorem dL_digest_176 : decode cL_digest 176 = .ok (.lload_n 1, 1) := by decide +kernel
theorem dL_digest_177 : decode cL_digest 177 = .ok (.lmul, 1) := by decide +kernel
theorem dL_digest_178 : decode cL_digest 178 = .ok (.aload_n 0, 1) := by decide +kernel
theorem dL_digest_179 : decode cL_digest 179 = .ok (.iload_n 3, 1) := by decide +kernel
theorem dL_digest_180 : decode cL_digest 180 = .ok (.invokevirtual 202, 3) := by decide +kernel
theorem dL_digest_183 : decode cL_digest 183 = .ok (.i2l, 1) := by decide +kernel
theorem dL_digest_184 : decode cL_digest 184 = .ok (.ladd, 1) := by decide +kernel
theorem dL_digest_185 : decode cL_digest 185 = .ok (.lmul, 1) := by decide +kernel
theorem dL_digest_186 : decode cL_digest 186 = .ok (.aload_n 0, 1) := by decide +kernel
theorem dL_digest_187 : decode cL_digest 187 = .ok (.iload_n 3, 1) := by decide +kernel
theorem dL_digest_188 : decode cL_digest 188 = .ok (.invokevirtual 205, 3) := by decide +kernel
theorem dL_digest_191 : decode cL_digest 191 = .ok (.i2l, 1) := by decide +kernel
theorem dL_digest_192 : decode cL_digest 192 = .ok (.ladd, 1) := by decide +kernel
theorem dL_digest_193 : decode cL_digest 193 = .ok (.lmul, 1) := by decide +kernel
theorem dL_digest_194 : decode cL_digest 194 = .ok (.aload_n 0, 1) := by decide +kernel
theorem dL_digest_195 : decode cL_digest 195 = .ok (.iload_n 3, 1) := by decide +kernel
theorem dL_digest_196 : decode cL_digest 196 = .ok (.invokevirtual 208, 3) := by decide +kernel
theorem dL_digest_199 : decode cL_digest 199 = .ok (.i2l, 1) := by decide +kernel
theorem dL_digest_200 : decode cL_digest 200 = .ok (.ladd, 1) := by decide +kernel
theorem dL_digest_201 : decode cL_digest 201 = .ok (.lstore_n 1, 1) := by decide +kernel
theorem dL_digest_202 : decode cL_digest 202 = .ok (.iconst 0, 1) := by decide +kernel
theorem dL_digest_203 : decode cL_digest 203 = .ok (.istore 4, 2) := by decide +kernel
theorem dL_digest_205 : decode cL_digest 205 = .ok (.iload 4, 2) := by decide +kernel
theorem dL_digest_207 : decode cL_digest 207 = .ok (.bipush 7, 2) := by decide +kernel
theorem dL_digest_209 : decode cL_digest 209 = .ok (.if_icmp .ge 32, 3) := by decide +kernel
theorem dL_digest_212 : decode cL_digest 212 = .ok (.ldc2_w 192, 3) := by decide +kernel
theorem dL_digest_215 : decode cL_digest 215 = .ok (.lload_n 1, 1) := by decide +kernel
theorem dL_digest_216 : decode cL_digest 216 = .ok (.lmul, 1) := by decide +kernel
theorem dL_digest_217 : decode cL_digest 217 = .ok (.aload_n 0, 1) := by decide +kernel
theorem dL_digest_218 : decode cL_digest 218 = .ok (.iload_n 3, 1) := by decide +kernel
theorem dL_digest_219 : decode cL_digest 219 = .ok (.iload 4, 2) := by decide +kernel
theorem dL_digest_221 : decode cL_digest 221 = .ok (.invokevirtual 211, 3) := by decide +kernel
theorem dL_digest_224 : decode cL_digest 224 = .ok (.ifCond .eq 7, 3) := by decide +kernel
theorem dL_digest_227 : decode cL_digest 227 = .ok (.iconst 1, 1) := by decide +kernel
theorem dL_digest_228 : decode cL_digest 228 = .ok (.goto 4, 3) := by decide +kernel
theorem dL_digest_231 : decode cL_digest 231 = .ok (.iconst 0, 1) := by decide +kernel
theorem dL_digest_232 : decode cL_digest 232 = .ok (.i2l, 1) := by decide +kernel
theorem dL_digest_233 : decode cL_digest 233 = .ok (.ladd, 1) := by decide +kernel
theorem dL_digest_234 : decode cL_digest 234 = .ok (.lstore_n 1, 1) := by decide +kernel
theorem dL_digest_235 : decode cL_digest 235 = .ok (.iinc 4 1, 3) := by decide +kernel
theorem dL_digest_238 : decode cL_digest 238 = .ok (.goto (-33), 3) := by decide +kernel
theorem dL_digest_241 : decode cL_digest 241 = .ok (.iconst 0, 1) := by decide +kernel
theorem dL_digest_242 : decode cL_digest 242 = .ok (.istore 4, 2) := by decide +kernel
theorem dL_digest_244 : decode cL_digest 244 = .ok (.iload 4, 2) := by decide +kernel
theorem dL_digest_246 : decode cL_digest 246 = .ok (.iconst 4, 1) := by decide +kernel
theorem dL_digest_247 : decode cL_digest 247 = .ok (.if_icmp .ge 24, 3) := by decide +kernel
theorem dL_digest_250 : decode cL_digest 250 = .ok (.ldc2_w 192, 3) := by decide +kernel
theorem dL_digest_253 : decode cL_digest 253 = .ok (.lload_n 1, 1) := by decide +kernel
theorem dL_digest_254 : decode cL_digest 254 = .ok (.lmul, 1) := by decide +kernel
theorem dL_digest_255 : decode cL_digest 255 = .ok (.aload_n 0, 1) := by decide +kernel
theorem dL_digest_256 : decode cL_digest 256 = .ok (.iload_n 3, 1) := by decide +kernel
theorem dL_digest_257 : decode cL_digest 257 = .ok (.iload 4, 2) := by decide +kernel
theorem dL_digest_259 : decode cL_digest 259 = .ok (.invokevirtual 214, 3) := by decide +kernel
theorem dL_digest_262 : decode cL_digest 262 = .ok (.i2l, 1) := by decide +kernel
theorem dL_digest_263 : decode cL_digest 263 = .ok (.ladd, 1) := by decide +kernel
theorem dL_digest_264 : decode cL_digest 264 = .ok (.lstore_n 1, 1) := by decide +kernel
theorem dL_digest_265 : decode cL_digest 265 = .ok (.iinc 4 1, 3) := by decide +kernel
theorem dL_digest_268 : decode cL_digest 268 = .ok (.goto (-24), 3) := by decide +kernel
theorem dL_digest_271 : decode cL_digest 271 = .ok (.iconst 0, 1) := by decide +kernel
theorem dL_digest_272 : decode cL_digest 272 = .ok (.istore 4, 2) := by decide +kernel
theorem dL_digest_274 : decode cL_digest 274 = .ok (.iload 4, 2) := by decide +kernel
theorem dL_digest_276 : decode cL_digest 276 = .ok (.aload_n 0, 1) := by decide +kernel
theorem dL_digest_277 : decode cL_digest 277 = .ok (.iload_n 3, 1) := by decide +kernel
theorem dL_digest_278 : decode cL_digest 278 = .ok (.invokevirtual 208, 3) := by decide +kernel
theorem dL_digest_281 : decode cL_digest 281 = .ok (.if_icmp .ge 24, 3) := by decide +kernel
theorem dL_digest_284 : decode cL_digest 284 = .ok (.ldc2_w 192, 3) := by decide +kernel
theorem dL_digest_287 : decode cL_digest 287 = .ok (.lload_n 1, 1) := by decide +kernel
theorem dL_digest_288 : decode cL_digest 288 = .ok (.lmul, 1) := by decide +kernel
theorem dL_digest_289 : decode cL_digest 289 = .ok (.aload_n 0, 1) := by decide +kernel
theorem dL_digest_290 : decode cL_digest 290 = .ok (.iload_n 3, 1) := by decide +kernel
theorem dL_digest_291 : decode cL_digest 291 = .ok (.iload 4, 2) := by decide +kernel
theorem dL_digest_293 : decode cL_digest 293 = .ok (.invokevirtual 67, 3) := by decide +kernel
theorem dL_digest_296 : decode cL_digest 296 = .ok (.i2l, 1) := by decide +kernel
theorem dL_digest_297 : decode cL_digest 297 = .ok (.ladd, 1) := by decide +kernel
theorem dL_digest_298 : decode cL_digest 298 = .ok (.lstore_n 1, 1) := by decide +kernel
theorem dL_digest_299 : decode cL_digest 299 = .ok (.iinc 4 1, 3) := by decide +kernel
theorem dL_digest_302 : decode cL_digest 302 = .ok (.goto (-28), 3) := by decide +kernel
theorem dL_digest_305 : decode cL_digest 305 = .ok (.iinc 3 1, 3) := by decide +kernel
theorem dL_digest_308 : decode cL_digest 308 = .ok (.goto (-149), 3) := by decide +kernel
theorem dL_digest_311 : decode cL_digest 311 = .ok (.lload_n 1, 1) := by decide +kernel
theorem dL_digest_312 : decode cL_digest 312 = .ok (.lreturn, 1) := by decide +kernel
theorem dL_isRota_0 : decode cL_isRota 0 = .ok (.iconst 0, 1) := by decide +kernel
theorem dL_isRota_1 : decode cL_isRota 1 = .ok (.istore_n 1, 1) := by decide +kernel
theorem dL_isRota_2 : decode cL_isRota 2 = .ok (.iconst 1, 1) := by decide +kernel
theorem dL_isRota_3 : decode cL_isRota 3 = .ok (.istore_n 2, 1) := by decide +kernel
theorem dL_isRota_4 : decode cL_isRota 4 = .ok (.iconst 0, 1) := by decide +kernel
theorem dL_isRota_5 : decode cL_isRota 5 = .ok (.istore_n 3, 1) := by decide +kernel
theorem dL_isRota_6 : decode cL_isRota 6 = .ok (.iload_n 2, 1) := by decide +kernel
theorem dL_isRota_7 : decode cL_isRota 7 = .ok (.ifCond .eq 155, 3) := by decide +kernel
theorem dL_isRota_10 : decode cL_isRota 10 = .ok (.iload_n 3, 1) := by decide +kernel
theorem dL_isRota_11 : decode cL_isRota 11 = .ok (.bipush 7, 2) := by decide +kernel
theorem dL_isRota_13 : decode cL_isRota 13 = .ok (.if_icmp .ge 149, 3) := by decide +kernel
theorem dL_isRota_16 : decode cL_isRota 16 = .ok (.aload_n 0, 1) := by decide +kernel
theorem dL_isRota_17 : decode cL_isRota 17 = .ok (.iload_n 3, 1) := by decide +kernel
theorem dL_isRota_18 : decode cL_isRota 18 = .ok (.invokevirtual 217, 3) := by decide +kernel
theorem dL_isRota_21 : decode cL_isRota 21 = .ok (.iconst 5, 1) := by decide +kernel
theorem dL_isRota_22 : decode cL_isRota 22 = .ok (.if_icmp .ne 20, 3) := by decide +kernel
theorem dL_isRota_25 : decode cL_isRota 25 = .ok (.aload_n 0, 1) := by decide +kernel
theorem dL_isRota_26 : decode cL_isRota 26 = .ok (.iload_n 3, 1) := by decide +kernel
theorem dL_isRota_27 : decode cL_isRota 27 = .ok (.invokestatic 220, 3) := by decide +kernel
theorem dL_isRota_30 : decode cL_isRota 30 = .ok (.aload_n 0, 1) := by decide +kernel
theorem dL_isRota_31 : decode cL_isRota 31 = .ok (.iload_n 3, 1) := by decide +kernel
theorem dL_isRota_32 : decode cL_isRota 32 = .ok (.invokestatic 222, 3) := by decide +kernel
theorem dL_isRota_35 : decode cL_isRota 35 = .ok (.if_icmp .ne 7, 3) := by decide +kernel
theorem dL_isRota_38 : decode cL_isRota 38 = .ok (.iconst 1, 1) := by decide +kernel
theorem dL_isRota_39 : decode cL_isRota 39 = .ok (.goto 4, 3) := by decide +kernel
theorem dL_isRota_42 : decode cL_isRota 42 = .ok (.iconst 0, 1) := by decide +kernel
theorem dL_isRota_43 : decode cL_isRota 43 = .ok (.istore_n 2, 1) := by decide +kernel
theorem dL_isRota_44 : decode cL_isRota 44 = .ok (.iconst 0, 1) := by decide +kernel
theorem dL_isRota_45 : decode cL_isRota 45 = .ok (.istore 4, 2) := by decide +kernel
theorem dL_isRota_47 : decode cL_isRota 47 = .ok (.iload_n 2, 1) := by decide +kernel
theorem dL_isRota_48 : decode cL_isRota 48 = .ok (.ifCond .eq 108, 3) := by decide +kernel
theorem dL_isRota_51 : decode cL_isRota 51 = .ok (.iload 4, 2) := by decide +kernel
theorem dL_isRota_53 : decode cL_isRota 53 = .ok (.iconst 5, 1) := by decide +kernel
theorem dL_isRota_54 : decode cL_isRota 54 = .ok (.if_icmp .ge 102, 3) := by decide +kernel
theorem dL_isRota_57 : decode cL_isRota 57 = .ok (.aload_n 0, 1) := by decide +kernel
theorem dL_isRota_58 : decode cL_isRota 58 = .ok (.iload 4, 2) := by decide +kernel
theorem dL_isRota_60 : decode cL_isRota 60 = .ok (.iload_n 3, 1) := by decide +kernel
theorem dL_isRota_61 : decode cL_isRota 61 = .ok (.invokestatic 200, 3) := by decide +kernel
theorem dL_isRota_64 : decode cL_isRota 64 = .ok (.istore 5, 2) := by decide +kernel
theorem dL_isRota_66 : decode cL_isRota 66 = .ok (.iload_n 1, 1) := by decide +kernel
theorem dL_isRota_67 : decode cL_isRota 67 = .ok (.iload 5, 2) := by decide +kernel
theorem dL_isRota_69 : decode cL_isRota 69 = .ok (.sipush (-1000), 3) := by decide +kernel
theorem dL_isRota_72 : decode cL_isRota 72 = .ok (.if_icmp .ne 7, 3) := by decide +kernel
theorem dL_isRota_75 : decode cL_isRota 75 = .ok (.iconst 0, 1) := by decide +kernel
theorem dL_isRota_76 : decode cL_isRota 76 = .ok (.goto 4, 3) := by decide +kernel
theorem dL_isRota_79 : decode cL_isRota 79 = .ok (.iconst 1, 1) := by decide +kernel
theorem dL_isRota_80 : decode cL_isRota 80 = .ok (.iadd, 1) := by decide +kernel
theorem dL_isRota_81 : decode cL_isRota 81 = .ok (.istore_n 1, 1) := by decide +kernel
theorem dL_isRota_82 : decode cL_isRota 82 = .ok (.iload 5, 2) := by decide +kernel
theorem dL_isRota_84 : decode cL_isRota 84 = .ok (.sipush (-1000), 3) := by decide +kernel
theorem dL_isRota_87 : decode cL_isRota 87 = .ok (.if_icmp .ne 8, 3) := by decide +kernel
theorem dL_isRota_90 : decode cL_isRota 90 = .ok (.bipush 45, 2) := by decide +kernel
theorem dL_isRota_92 : decode cL_isRota 92 = .ok (.goto 9, 3) := by decide +kernel
theorem dL_isRota_95 : decode cL_isRota 95 = .ok (.bipush 48, 2) := by decide +kernel
theorem dL_isRota_97 : decode cL_isRota 97 = .ok (.iload 5, 2) := by decide +kernel
theorem dL_isRota_99 : decode cL_isRota 99 = .ok (.iadd, 1) := by decide +kernel
theorem dL_isRota_100 : decode cL_isRota 100 = .ok (.i2c, 1) := by decide +kernel
theorem dL_isRota_101 : decode cL_isRota 101 = .ok (.istore 6, 2) := by decide +kernel
theorem dL_isRota_103 : decode cL_isRota 103 = .ok (.aload_n 0, 1) := by decide +kernel
theorem dL_isRota_104 : decode cL_isRota 104 = .ok (.iload 4, 2) := by decide +kernel
theorem dL_isRota_106 : decode cL_isRota 106 = .ok (.invokevirtual 225, 3) := by decide +kernel
theorem dL_isRota_109 : decode cL_isRota 109 = .ok (.iload 6, 2) := by decide +kernel
theorem dL_isRota_111 : decode cL_isRota 111 = .ok (.if_icmp .ne 37, 3) := by decide +kernel
theorem dL_isRota_114 : decode cL_isRota 114 = .ok (.iload 5, 2) := by decide +kernel
theorem dL_isRota_116 : decode cL_isRota 116 = .ok (.sipush (-1000), 3) := by decide +kernel
theorem dL_isRota_119 : decode cL_isRota 119 = .ok (.if_icmp .eq 25, 3) := by decide +kernel
theorem dL_isRota_122 : decode cL_isRota 122 = .ok (.aload_n 0, 1) := by decide +kernel
theorem dL_isRota_123 : decode cL_isRota 123 = .ok (.iload 5, 2) := by decide +kernel
theorem dL_isRota_125 : decode cL_isRota 125 = .ok (.iload_n 3, 1) := by decide +kernel
theorem dL_isRota_126 : decode cL_isRota 126 = .ok (.invokevirtual 58, 3) := by decide +kernel
theorem dL_isRota_129 : decode cL_isRota 129 = .ok (.iload 4, 2) := by decide +kernel
theorem dL_isRota_131 : decode cL_isRota 131 = .ok (.if_icmp .ne 17, 3) := by decide +kernel
theorem dL_isRota_134 : decode cL_isRota 134 = .ok (.aload_n 0, 1) := by decide +kernel
theorem dL_isRota_135 : decode cL_isRota 135 = .ok (.iload 5, 2) := by decide +kernel
theorem dL_isRota_137 : decode cL_isRota 137 = .ok (.iload_n 3, 1) := by decide +kernel
theorem dL_isRota_138 : decode cL_isRota 138 = .ok (.invokevirtual 211, 3) := by decide +kernel
theorem dL_isRota_141 : decode cL_isRota 141 = .ok (.ifCond .eq 7, 3) := by decide +kernel
theorem dL_isRota_144 : decode cL_isRota 144 = .ok (.iconst 1, 1) := by decide +kernel
theorem dL_isRota_145 : decode cL_isRota 145 = .ok (.goto 4, 3) := by decide +kernel
theorem dL_isRota_148 : decode cL_isRota 148 = .ok (.iconst 0, 1) := by decide +kernel
theorem dL_isRota_149 : decode cL_isRota 149 = .ok (.istore_n 2, 1) := by decide +kernel
theorem dL_isRota_150 : decode cL_isRota 150 = .ok (.iinc 4 1, 3) := by decide +kernel
theorem dL_isRota_153 : decode cL_isRota 153 = .ok (.goto (-106), 3) := by decide +kernel
theorem dL_isRota_156 : decode cL_isRota 156 = .ok (.iinc 3 1, 3) := by decide +kernel
theorem dL_isRota_159 : decode cL_isRota 159 = .ok (.goto (-153), 3) := by decide +kernel
theorem dL_isRota_162 : decode cL_isRota 162 = .ok (.iload_n 2, 1) := by decide +kernel
theorem dL_isRota_163 : decode cL_isRota 163 = .ok (.ifCond .eq 30, 3) := by decide +kernel
theorem dL_isRota_166 : decode cL_isRota 166 = .ok (.aload_n 0, 1) := by decide +kernel
theorem dL_isRota_167 : decode cL_isRota 167 = .ok (.invokevirtual 228, 3) := by decide +kernel
theorem dL_isRota_170 : decode cL_isRota 170 = .ok (.iload_n 1, 1) := by decide +kernel
theorem dL_isRota_171 : decode cL_isRota 171 = .ok (.if_icmp .ne 22, 3) := by decide +kernel
theorem dL_isRota_174 : decode cL_isRota 174 = .ok (.aload_n 0, 1) := by decide +kernel
theorem dL_isRota_175 : decode cL_isRota 175 = .ok (.invokevirtual 231, 3) := by decide +kernel
theorem dL_isRota_178 : decode cL_isRota 178 = .ok (.iload_n 1, 1) := by decide +kernel
theorem dL_isRota_179 : decode cL_isRota 179 = .ok (.if_icmp .ne 14, 3) := by decide +kernel
theorem dL_isRota_182 : decode cL_isRota 182 = .ok (.aload_n 0, 1) := by decide +kernel
theorem dL_isRota_183 : decode cL_isRota 183 = .ok (.invokevirtual 234, 3) := by decide +kernel
theorem dL_isRota_186 : decode cL_isRota 186 = .ok (.ifCond .eq 7, 3) := by decide +kernel
theorem dL_isRota_189 : decode cL_isRota 189 = .ok (.iconst 1, 1) := by decide +kernel
theorem dL_isRota_190 : decode cL_isRota 190 = .ok (.goto 4, 3) := by decide +kernel
theorem dL_isRota_193 : decode cL_isRota 193 = .ok (.iconst 0, 1) := by decide +kernel
theorem dL_isRota_194 : decode cL_isRota 194 = .ok (.ireturn, 1) := by decide +kernel
theorem dL_freeOn_0 : decode cL_freeOn 0 = .ok (.iconst 0, 1) := by decide +kernel
theorem dL_freeOn_1 : decode cL_freeOn 1 = .ok (.istore_n 2, 1) := by decide +kernel
theorem dL_freeOn_2 : decode cL_freeOn 2 = .ok (.iload_n 2, 1) := by decide +kernel
theorem dL_freeOn_3 : decode cL_freeOn 3 = .ok (.iconst 5, 1) := by decide +kernel
theorem dL_freeOn_4 : decode cL_freeOn 4 = .ok (.if_icmp .ge 23, 3) := by decide +kernel
theorem dL_freeOn_7 : decode cL_freeOn 7 = .ok (.aload_n 0, 1) := by decide +kernel
theorem dL_freeOn_8 : decode cL_freeOn 8 = .ok (.iload_n 2, 1) := by decide +kernel
theorem dL_freeOn_9 : decode cL_freeOn 9 = .ok (.iload_n 1, 1) := by decide +kernel
theorem dL_freeOn_10 : decode cL_freeOn 10 = .ok (.invokestatic 200, 3) := by decide +kernel
theorem dL_freeOn_13 : decode cL_freeOn 13 = .ok (.sipush (-1000), 3) := by decide +kernel
theorem dL_freeOn_16 : decode cL_freeOn 16 = .ok (.if_icmp .ne 5, 3) := by decide +kernel
theorem dL_freeOn_19 : decode cL_freeOn 19 = .ok (.iload_n 2, 1) := by decide +kernel
theorem dL_freeOn_20 : decode cL_freeOn 20 = .ok (.ireturn, 1) := by decide +kernel
theorem dL_freeOn_21 : decode cL_freeOn 21 = .ok (.iinc 2 1, 3) := by decide +kernel
theorem dL_freeOn_24 : decode cL_freeOn 24 = .ok (.goto (-22), 3) := by decide +kernel
theorem dL_freeOn_27 : decode cL_freeOn 27 = .ok (.sipush (-1000), 3) := by decide +kernel
theorem dL_freeOn_30 : decode cL_freeOn 30 = .ok (.ireturn, 1) := by decide +kernel
theorem dL_firstOf_0 : decode cL_firstOf 0 = .ok (.iconst 0, 1) := by decide +kernel
theorem dL_firstOf_1 : decode cL_firstOf 1 = .ok (.istore_n 2, 1) := by decide +kernel
theorem dL_firstOf_2 : decode cL_firstOf 2 = .ok (.iload_n 2, 1) := by decide +kernel
theorem dL_firstOf_3 : decode cL_firstOf 3 = .ok (.bipush 7, 2) := by decide +kernel
theorem dL_firstOf_5 : decode cL_firstOf 5 = .ok (.if_icmp .ge 43, 3) := by decide +kernel
theorem dL_firstOf_8 : decode cL_firstOf 8 = .ok (.aload_n 0, 1) := by decide +kernel
theorem dL_firstOf_9 : decode cL_firstOf 9 = .ok (.iload_n 1, 1) := by decide +kernel
theorem dL_firstOf_10 : decode cL_firstOf 10 = .ok (.iload_n 2, 1) := by decide +kernel
theorem dL_firstOf_11 : decode cL_firstOf 11 = .ok (.invokevirtual 211, 3) := by decide +kernel
theorem dL_firstOf_14 : decode cL_firstOf 14 = .ok (.ifCond .eq 28, 3) := by decide +kernel
theorem dL_firstOf_17 : decode cL_firstOf 17 = .ok (.aload_n 0, 1) := by decide +kernel
theorem dL_firstOf_18 : decode cL_firstOf 18 = .ok (.iload_n 1, 1) := by decide +kernel
theorem dL_firstOf_19 : decode cL_firstOf 19 = .ok (.iload_n 2, 1) := by decide +kernel
theorem dL_firstOf_20 : decode cL_firstOf 20 = .ok (.invokestatic 238, 3) := by decide +kernel
theorem dL_firstOf_23 : decode cL_firstOf 23 = .ok (.sipush (-1000), 3) := by decide +kernel
theorem dL_firstOf_26 : decode cL_firstOf 26 = .ok (.if_icmp .ne 16, 3) := by decide +kernel
theorem dL_firstOf_29 : decode cL_firstOf 29 = .ok (.aload_n 0, 1) := by decide +kernel
theorem dL_firstOf_30 : decode cL_firstOf 30 = .ok (.iload_n 2, 1) := by decide +kernel
theorem dL_firstOf_31 : decode cL_firstOf 31 = .ok (.invokestatic 222, 3) := by decide +kernel
theorem dL_firstOf_34 : decode cL_firstOf 34 = .ok (.sipush (-1000), 3) := by decide +kernel
theorem dL_firstOf_37 : decode cL_firstOf 37 = .ok (.if_icmp .eq 5, 3) := by decide +kernel
theorem dL_firstOf_40 : decode cL_firstOf 40 = .ok (.iload_n 2, 1) := by decide +kernel
theorem dL_firstOf_41 : decode cL_firstOf 41 = .ok (.ireturn, 1) := by decide +kernel
theorem dL_firstOf_42 : decode cL_firstOf 42 = .ok (.iinc 2 1, 3) := by decide +kernel
theorem dL_firstOf_45 : decode cL_firstOf 45 = .ok (.goto (-43), 3) := by decide +kernel
theorem dL_firstOf_48 : decode cL_firstOf 48 = .ok (.sipush (-1000), 3) := by decide +kernel
theorem dL_firstOf_51 : decode cL_firstOf 51 = .ok (.ireturn, 1) := by decide +kernel
theorem dL_areTrucks_0 : decode cL_areTrucks 0 = .ok (.iconst 0, 1) := by decide +kernel
theorem dL_areTrucks_1 : decode cL_areTrucks 1 = .ok (.istore_n 1, 1) := by decide +kernel
theorem dL_areTrucks_2 : decode cL_areTrucks 2 = .ok (.iconst 0, 1) := by decide +kernel
theorem dL_areTrucks_3 : decode cL_areTrucks 3 = .ok (.istore_n 2, 1) := by decide +kernel
theorem dL_areTrucks_4 : decode cL_areTrucks 4 = .ok (.iconst 0, 1) := by decide +kernel
theorem dL_areTrucks_5 : decode cL_areTrucks 5 = .ok (.istore_n 3, 1) := by decide +kernel
theorem dL_areTrucks_6 : decode cL_areTrucks 6 = .ok (.aload_n 0, 1) := by decide +kernel
theorem dL_areTrucks_7 : decode cL_areTrucks 7 = .ok (.aload_n 0, 1) := by decide +kernel
theorem dL_areTrucks_8 : decode cL_areTrucks 8 = .ok (.invokevirtual 189, 3) := by decide +kernel
theorem dL_areTrucks_11 : decode cL_areTrucks 11 = .ok (.invokestatic 240, 3) := by decide +kernel
theorem dL_areTrucks_14 : decode cL_areTrucks 14 = .ok (.sipush (-1000), 3) := by decide +kernel
theorem dL_areTrucks_17 : decode cL_areTrucks 17 = .ok (.if_icmp .ne 18, 3) := by decide +kernel
theorem dL_areTrucks_20 : decode cL_areTrucks 20 = .ok (.aload_n 0, 1) := by decide +kernel
theorem dL_areTrucks_21 : decode cL_areTrucks 21 = .ok (.iconst (-1), 1) := by decide +kernel
theorem dL_areTrucks_22 : decode cL_areTrucks 22 = .ok (.invokestatic 240, 3) := by decide +kernel
theorem dL_areTrucks_25 : decode cL_areTrucks 25 = .ok (.sipush (-1000), 3) := by decide +kernel
theorem dL_areTrucks_28 : decode cL_areTrucks 28 = .ok (.if_icmp .ne 7, 3) := by decide +kernel
theorem dL_areTrucks_31 : decode cL_areTrucks 31 = .ok (.iconst 1, 1) := by decide +kernel
theorem dL_areTrucks_32 : decode cL_areTrucks 32 = .ok (.goto 4, 3) := by decide +kernel
theorem dL_areTrucks_35 : decode cL_areTrucks 35 = .ok (.iconst 0, 1) := by decide +kernel
theorem dL_areTrucks_36 : decode cL_areTrucks 36 = .ok (.istore 4, 2) := by decide +kernel
theorem dL_areTrucks_38 : decode cL_areTrucks 38 = .ok (.iconst 0, 1) := by decide +kernel
theorem dL_areTrucks_39 : decode cL_areTrucks 39 = .ok (.istore 5, 2) := by decide +kernel
theorem dL_areTrucks_41 : decode cL_areTrucks 41 = .ok (.iload 4, 2) := by decide +kernel
theorem dL_areTrucks_43 : decode cL_areTrucks 43 = .ok (.ifCond .eq 255, 3) := by decide +kernel
theorem dL_areTrucks_46 : decode cL_areTrucks 46 = .ok (.iload 5, 2) := by decide +kernel
theorem dL_areTrucks_48 : decode cL_areTrucks 48 = .ok (.aload_n 0, 1) := by decide +kernel
theorem dL_areTrucks_49 : decode cL_areTrucks 49 = .ok (.invokevirtual 189, 3) := by decide +kernel
theorem dL_areTrucks_52 : decode cL_areTrucks 52 = .ok (.if_icmp .ge 246, 3) := by decide +kernel
theorem dL_areTrucks_55 : decode cL_areTrucks 55 = .ok (.iconst 0, 1) := by decide +kernel
theorem dL_areTrucks_56 : decode cL_areTrucks 56 = .ok (.istore 6, 2) := by decide +kernel
theorem dL_areTrucks_58 : decode cL_areTrucks 58 = .ok (.aload_n 0, 1) := by decide +kernel
theorem dL_areTrucks_59 : decode cL_areTrucks 59 = .ok (.iload 5, 2) := by decide +kernel
theorem dL_areTrucks_61 : decode cL_areTrucks 61 = .ok (.aload_n 0, 1) := by decide +kernel
theorem dL_areTrucks_62 : decode cL_areTrucks 62 = .ok (.invokevirtual 115, 3) := by decide +kernel
theorem dL_areTrucks_65 : decode cL_areTrucks 65 = .ok (.bipush 7, 2) := by decide +kernel
theorem dL_areTrucks_67 : decode cL_areTrucks 67 = .ok (.irem, 1) := by decide +kernel
theorem dL_areTrucks_68 : decode cL_areTrucks 68 = .ok (.invokestatic 238, 3) := by decide +kernel
theorem dL_areTrucks_71 : decode cL_areTrucks 71 = .ok (.istore 7, 2) := by decide +kernel
theorem dL_areTrucks_73 : decode cL_areTrucks 73 = .ok (.aload_n 0, 1) := by decide +kernel
theorem dL_areTrucks_74 : decode cL_areTrucks 74 = .ok (.iload 5, 2) := by decide +kernel
theorem dL_areTrucks_76 : decode cL_areTrucks 76 = .ok (.invokevirtual 208, 3) := by decide +kernel
theorem dL_areTrucks_79 : decode cL_areTrucks 79 = .ok (.istore 8, 2) := by decide +kernel
theorem dL_areTrucks_81 : decode cL_areTrucks 81 = .ok (.iconst 0, 1) := by decide +kernel
theorem dL_areTrucks_82 : decode cL_areTrucks 82 = .ok (.istore 9, 2) := by decide +kernel
theorem dL_areTrucks_84 : decode cL_areTrucks 84 = .ok (.iload 9, 2) := by decide +kernel
theorem dL_areTrucks_86 : decode cL_areTrucks 86 = .ok (.iload 8, 2) := by decide +kernel
theorem dL_areTrucks_88 : decode cL_areTrucks 88 = .ok (.if_icmp .ge 24, 3) := by decide +kernel
theorem dL_areTrucks_91 : decode cL_areTrucks 91 = .ok (.iload 6, 2) := by decide +kernel
theorem dL_areTrucks_93 : decode cL_areTrucks 93 = .ok (.aload_n 0, 1) := by decide +kernel
theorem dL_areTrucks_94 : decode cL_areTrucks 94 = .ok (.iload 5, 2) := by decide +kernel
theorem dL_areTrucks_96 : decode cL_areTrucks 96 = .ok (.iload 9, 2) := by decide +kernel
theorem dL_areTrucks_98 : decode cL_areTrucks 98 = .ok (.invokevirtual 67, 3) := by decide +kernel
theorem dL_areTrucks_101 : decode cL_areTrucks 101 = .ok (.iconst 1, 1) := by decide +kernel
theorem dL_areTrucks_102 : decode cL_areTrucks 102 = .ok (.iadd, 1) := by decide +kernel
theorem dL_areTrucks_103 : decode cL_areTrucks 103 = .ok (.iadd, 1) := by decide +kernel
theorem dL_areTrucks_104 : decode cL_areTrucks 104 = .ok (.istore 6, 2) := by decide +kernel
theorem dL_areTrucks_106 : decode cL_areTrucks 106 = .ok (.iinc 9 1, 3) := by decide +kernel
theorem dL_areTrucks_109 : decode cL_areTrucks 109 = .ok (.goto (-25), 3) := by decide +kernel
theorem dL_areTrucks_112 : decode cL_areTrucks 112 = .ok (.aload_n 0, 1) := by decide +kernel
theorem dL_areTrucks_113 : decode cL_areTrucks 113 = .ok (.iload 5, 2) := by decide +kernel
theorem dL_areTrucks_115 : decode cL_areTrucks 115 = .ok (.invokevirtual 205, 3) := by decide +kernel
theorem dL_areTrucks_118 : decode cL_areTrucks 118 = .ok (.ifCond .ne 7, 3) := by decide +kernel
theorem dL_areTrucks_121 : decode cL_areTrucks 121 = .ok (.iconst 0, 1) := by decide +kernel
theorem dL_areTrucks_122 : decode cL_areTrucks 122 = .ok (.goto 19, 3) := by decide +kernel
theorem dL_areTrucks_125 : decode cL_areTrucks 125 = .ok (.aload_n 0, 1) := by decide +kernel
theorem dL_areTrucks_126 : decode cL_areTrucks 126 = .ok (.iload 5, 2) := by decide +kernel
theorem dL_areTrucks_128 : decode cL_areTrucks 128 = .ok (.iconst 0, 1) := by decide +kernel
theorem dL_areTrucks_129 : decode cL_areTrucks 129 = .ok (.invokevirtual 67, 3) := by decide +kernel
theorem dL_areTrucks_132 : decode cL_areTrucks 132 = .ok (.iconst 1, 1) := by decide +kernel
theorem dL_areTrucks_133 : decode cL_areTrucks 133 = .ok (.iadd, 1) := by decide +kernel
theorem dL_areTrucks_134 : decode cL_areTrucks 134 = .ok (.aload_n 0, 1) := by decide +kernel
theorem dL_areTrucks_135 : decode cL_areTrucks 135 = .ok (.iload 5, 2) := by decide +kernel
theorem dL_areTrucks_137 : decode cL_areTrucks 137 = .ok (.invokevirtual 205, 3) := by decide +kernel
theorem dL_areTrucks_140 : decode cL_areTrucks 140 = .ok (.isub, 1) := by decide +kernel
theorem dL_areTrucks_141 : decode cL_areTrucks 141 = .ok (.istore 9, 2) := by decide +kernel
theorem dL_areTrucks_143 : decode cL_areTrucks 143 = .ok (.iload_n 1, 1) := by decide +kernel
theorem dL_areTrucks_144 : decode cL_areTrucks 144 = .ok (.aload_n 0, 1) := by decide +kernel
theorem dL_areTrucks_145 : decode cL_areTrucks 145 = .ok (.iload 5, 2) := by decide +kernel
theorem dL_areTrucks_147 : decode cL_areTrucks 147 = .ok (.invokevirtual 202, 3) := by decide +kernel
theorem dL_areTrucks_150 : decode cL_areTrucks 150 = .ok (.iadd, 1) := by decide +kernel
theorem dL_areTrucks_151 : decode cL_areTrucks 151 = .ok (.istore_n 1, 1) := by decide +kernel
theorem dL_areTrucks_152 : decode cL_areTrucks 152 = .ok (.iload_n 2, 1) := by decide +kernel
theorem dL_areTrucks_153 : decode cL_areTrucks 153 = .ok (.iload 8, 2) := by decide +kernel
theorem dL_areTrucks_155 : decode cL_areTrucks 155 = .ok (.iadd, 1) := by decide +kernel
theorem dL_areTrucks_156 : decode cL_areTrucks 156 = .ok (.istore_n 2, 1) := by decide +kernel
theorem dL_areTrucks_157 : decode cL_areTrucks 157 = .ok (.aload_n 0, 1) := by decide +kernel
theorem dL_areTrucks_158 : decode cL_areTrucks 158 = .ok (.iload 5, 2) := by decide +kernel
theorem dL_areTrucks_160 : decode cL_areTrucks 160 = .ok (.invokevirtual 242, 3) := by decide +kernel
theorem dL_areTrucks_163 : decode cL_areTrucks 163 = .ok (.iload 6, 2) := by decide +kernel
theorem dL_areTrucks_165 : decode cL_areTrucks 165 = .ok (.iload 9, 2) := by decide +kernel
theorem dL_areTrucks_167 : decode cL_areTrucks 167 = .ok (.isub, 1) := by decide +kernel
theorem dL_areTrucks_168 : decode cL_areTrucks 168 = .ok (.if_icmp .ne 121, 3) := by decide +kernel
theorem dL_areTrucks_171 : decode cL_areTrucks 171 = .ok (.iload 9, 2) := by decide +kernel
theorem dL_areTrucks_173 : decode cL_areTrucks 173 = .ok (.ifCond .lt 116, 3) := by decide +kernel
theorem dL_areTrucks_176 : decode cL_areTrucks 176 = .ok (.iload 8, 2) := by decide +kernel
theorem dL_areTrucks_178 : decode cL_areTrucks 178 = .ok (.bipush 9, 2) := by decide +kernel
theorem dL_areTrucks_180 : decode cL_areTrucks 180 = .ok (.if_icmp .gt 109, 3) := by decide +kernel
theorem dL_areTrucks_183 : decode cL_areTrucks 183 = .ok (.aload_n 0, 1) := by decide +kernel
theorem dL_areTrucks_184 : decode cL_areTrucks 184 = .ok (.iload 5, 2) := by decide +kernel
theorem dL_areTrucks_186 : decode cL_areTrucks 186 = .ok (.invokevirtual 245, 3) := by decide +kernel
theorem dL_areTrucks_189 : decode cL_areTrucks 189 = .ok (.iload 7, 2) := by decide +kernel
theorem dL_areTrucks_191 : decode cL_areTrucks 191 = .ok (.sipush (-1000), 3) := by decide +kernel
theorem dL_areTrucks_194 : decode cL_areTrucks 194 = .ok (.if_icmp .eq 7, 3) := by decide +kernel
theorem dL_areTrucks_197 : decode cL_areTrucks 197 = .ok (.iconst 1, 1) := by decide +kernel
theorem dL_areTrucks_198 : decode cL_areTrucks 198 = .ok (.goto 4, 3) := by decide +kernel
theorem dL_areTrucks_201 : decode cL_areTrucks 201 = .ok (.iconst 0, 1) := by decide +kernel
theorem dL_areTrucks_202 : decode cL_areTrucks 202 = .ok (.if_icmp .ne 87, 3) := by decide +kernel
theorem dL_areTrucks_205 : decode cL_areTrucks 205 = .ok (.aload_n 0, 1) := by decide +kernel
theorem dL_areTrucks_206 : decode cL_areTrucks 206 = .ok (.iload 5, 2) := by decide +kernel
theorem dL_areTrucks_208 : decode cL_areTrucks 208 = .ok (.invokevirtual 245, 3) := by decide +kernel
theorem dL_areTrucks_211 : decode cL_areTrucks 211 = .ok (.ifCond .ne 17, 3) := by decide +kernel
theorem dL_areTrucks_214 : decode cL_areTrucks 214 = .ok (.iload 8, 2) := by decide +kernel
theorem dL_areTrucks_216 : decode cL_areTrucks 216 = .ok (.ifCond .ne 73, 3) := by decide +kernel
theorem dL_areTrucks_219 : decode cL_areTrucks 219 = .ok (.aload_n 0, 1) := by decide +kernel
theorem dL_areTrucks_220 : decode cL_areTrucks 220 = .ok (.iload 5, 2) := by decide +kernel
theorem dL_areTrucks_222 : decode cL_areTrucks 222 = .ok (.invokevirtual 205, 3) := by decide +kernel
theorem dL_areTrucks_225 : decode cL_areTrucks 225 = .ok (.ifCond .ne 64, 3) := by decide +kernel
theorem dL_areTrucks_228 : decode cL_areTrucks 228 = .ok (.aload_n 0, 1) := by decide +kernel
theorem dL_areTrucks_229 : decode cL_areTrucks 229 = .ok (.iload 5, 2) := by decide +kernel
theorem dL_areTrucks_231 : decode cL_areTrucks 231 = .ok (.iload 8, 2) := by decide +kernel
theorem dL_areTrucks_233 : decode cL_areTrucks 233 = .ok (.invokestatic 249, 3) := by decide +kernel
theorem dL_areTrucks_236 : decode cL_areTrucks 236 = .ok (.sipush (-1000), 3) := by decide +kernel
theorem dL_areTrucks_239 : decode cL_areTrucks 239 = .ok (.if_icmp .ne 50, 3) := by decide +kernel
theorem dL_areTrucks_242 : decode cL_areTrucks 242 = .ok (.aload_n 0, 1) := by decide +kernel
theorem dL_areTrucks_243 : decode cL_areTrucks 243 = .ok (.iload 5, 2) := by decide +kernel
theorem dL_areTrucks_245 : decode cL_areTrucks 245 = .ok (.invokestatic 251, 3) := by decide +kernel
theorem dL_areTrucks_248 : decode cL_areTrucks 248 = .ok (.aload_n 0, 1) := by decide +kernel
theorem dL_areTrucks_249 : decode cL_areTrucks 249 = .ok (.iload 5, 2) := by decide +kernel
theorem dL_areTrucks_251 : decode cL_areTrucks 251 = .ok (.invokestatic 253, 3) := by decide +kernel
theorem dL_areTrucks_254 : decode cL_areTrucks 254 = .ok (.if_icmp .ne 35, 3) := by decide +kernel
theorem dL_areTrucks_257 : decode cL_areTrucks 257 = .ok (.aload_n 0, 1) := by decide +kernel
theorem dL_areTrucks_258 : decode cL_areTrucks 258 = .ok (.iload 5, 2) := by decide +kernel
theorem dL_areTrucks_260 : decode cL_areTrucks 260 = .ok (.invokevirtual 256, 3) := by decide +kernel
theorem dL_areTrucks_263 : decode cL_areTrucks 263 = .ok (.bipush 12, 2) := by decide +kernel
theorem dL_areTrucks_265 : decode cL_areTrucks 265 = .ok (.iload 7, 2) := by decide +kernel
theorem dL_areTrucks_267 : decode cL_areTrucks 267 = .ok (.sipush (-1000), 3) := by decide +kernel
theorem dL_areTrucks_270 : decode cL_areTrucks 270 = .ok (.if_icmp .ne 7, 3) := by decide +kernel
theorem dL_areTrucks_273 : decode cL_areTrucks 273 = .ok (.iconst 0, 1) := by decide +kernel
theorem dL_areTrucks_274 : decode cL_areTrucks 274 = .ok (.goto 7, 3) := by decide +kernel
theorem dL_areTrucks_277 : decode cL_areTrucks 277 = .ok (.iconst 2, 1) := by decide +kernel
theorem dL_areTrucks_278 : decode cL_areTrucks 278 = .ok (.iload 8, 2) := by decide +kernel
theorem dL_areTrucks_280 : decode cL_areTrucks 280 = .ok (.iadd, 1) := by decide +kernel
theorem dL_areTrucks_281 : decode cL_areTrucks 281 = .ok (.iadd, 1) := by decide +kernel
theorem dL_areTrucks_282 : decode cL_areTrucks 282 = .ok (.if_icmp .lt 7, 3) := by decide +kernel
theorem dL_areTrucks_285 : decode cL_areTrucks 285 = .ok (.iconst 1, 1) := by decide +kernel
theorem dL_areTrucks_286 : decode cL_areTrucks 286 = .ok (.goto 4, 3) := by decide +kernel
theorem dL_areTrucks_289 : decode cL_areTrucks 289 = .ok (.iconst 0, 1) := by decide +kernel
theorem dL_areTrucks_290 : decode cL_areTrucks 290 = .ok (.istore 4, 2) := by decide +kernel
theorem dL_areTrucks_292 : decode cL_areTrucks 292 = .ok (.iinc 5 1, 3) := by decide +kernel
theorem dL_areTrucks_295 : decode cL_areTrucks 295 = .ok (.goto (-254), 3) := by decide +kernel
theorem dL_areTrucks_298 : decode cL_areTrucks 298 = .ok (.iconst 0, 1) := by decide +kernel
theorem dL_areTrucks_299 : decode cL_areTrucks 299 = .ok (.istore 5, 2) := by decide +kernel
theorem dL_areTrucks_301 : decode cL_areTrucks 301 = .ok (.iload 5, 2) := by decide +kernel
theorem dL_areTrucks_303 : decode cL_areTrucks 303 = .ok (.iconst 4, 1) := by decide +kernel
theorem dL_areTrucks_304 : decode cL_areTrucks 304 = .ok (.if_icmp .ge 18, 3) := by decide +kernel
theorem dL_areTrucks_307 : decode cL_areTrucks 307 = .ok (.iload_n 3, 1) := by decide +kernel
theorem dL_areTrucks_308 : decode cL_areTrucks 308 = .ok (.aload_n 0, 1) := by decide +kernel
theorem dL_areTrucks_309 : decode cL_areTrucks 309 = .ok (.iload 5, 2) := by decide +kernel
theorem dL_areTrucks_311 : decode cL_areTrucks 311 = .ok (.invokevirtual 197, 3) := by decide +kernel
theorem dL_areTrucks_314 : decode cL_areTrucks 314 = .ok (.iadd, 1) := by decide +kernel
theorem dL_areTrucks_315 : decode cL_areTrucks 315 = .ok (.istore_n 3, 1) := by decide +kernel
theorem dL_areTrucks_316 : decode cL_areTrucks 316 = .ok (.iinc 5 1, 3) := by decide +kernel
theorem dL_areTrucks_319 : decode cL_areTrucks 319 = .ok (.goto (-18), 3) := by decide +kernel
theorem dL_areTrucks_322 : decode cL_areTrucks 322 = .ok (.iload 4, 2) := by decide +kernel
theorem dL_areTrucks_324 : decode cL_areTrucks 324 = .ok (.ifCond .eq 38, 3) := by decide +kernel
theorem dL_areTrucks_327 : decode cL_areTrucks 327 = .ok (.iload_n 3, 1) := by decide +kernel
theorem dL_areTrucks_328 : decode cL_areTrucks 328 = .ok (.aload_n 0, 1) := by decide +kernel
theorem dL_areTrucks_329 : decode cL_areTrucks 329 = .ok (.invokevirtual 176, 3) := by decide +kernel
theorem dL_areTrucks_332 : decode cL_areTrucks 332 = .ok (.if_icmp .ne 30, 3) := by decide +kernel
theorem dL_areTrucks_335 : decode cL_areTrucks 335 = .ok (.aload_n 0, 1) := by decide +kernel
theorem dL_areTrucks_336 : decode cL_areTrucks 336 = .ok (.invokevirtual 171, 3) := by decide +kernel
theorem dL_areTrucks_339 : decode cL_areTrucks 339 = .ok (.aload_n 0, 1) := by decide +kernel
theorem dL_areTrucks_340 : decode cL_areTrucks 340 = .ok (.invokevirtual 176, 3) := by decide +kernel
theorem dL_areTrucks_343 : decode cL_areTrucks 343 = .ok (.aload_n 0, 1) := by decide +kernel
theorem dL_areTrucks_344 : decode cL_areTrucks 344 = .ok (.invokevirtual 181, 3) := by decide +kernel
theorem dL_areTrucks_347 : decode cL_areTrucks 347 = .ok (.iadd, 1) := by decide +kernel
theorem dL_areTrucks_348 : decode cL_areTrucks 348 = .ok (.aload_n 0, 1) := by decide +kernel
theorem dL_areTrucks_349 : decode cL_areTrucks 349 = .ok (.invokevirtual 186, 3) := by decide +kernel
theorem dL_areTrucks_352 : decode cL_areTrucks 352 = .ok (.iadd, 1) := by decide +kernel
theorem dL_areTrucks_353 : decode cL_areTrucks 353 = .ok (.iload_n 2, 1) := by decide +kernel
theorem dL_areTrucks_354 : decode cL_areTrucks 354 = .ok (.iadd, 1) := by decide +kernel
theorem dL_areTrucks_355 : decode cL_areTrucks 355 = .ok (.if_icmp .ne 7, 3) := by decide +kernel
theorem dL_areTrucks_358 : decode cL_areTrucks 358 = .ok (.iconst 1, 1) := by decide +kernel
theorem dL_areTrucks_359 : decode cL_areTrucks 359 = .ok (.goto 4, 3) := by decide +kernel
theorem dL_areTrucks_362 : decode cL_areTrucks 362 = .ok (.iconst 0, 1) := by decide +kernel
theorem dL_areTrucks_363 : decode cL_areTrucks 363 = .ok (.istore 4, 2) := by decide +kernel
theorem dL_areTrucks_365 : decode cL_areTrucks 365 = .ok (.iload 4, 2) := by decide +kernel
theorem dL_areTrucks_367 : decode cL_areTrucks 367 = .ok (.ifCond .eq 67, 3) := by decide +kernel
theorem dL_areTrucks_370 : decode cL_areTrucks 370 = .ok (.aload_n 0, 1) := by decide +kernel
theorem dL_areTrucks_371 : decode cL_areTrucks 371 = .ok (.invokestatic 259, 3) := by decide +kernel
theorem dL_areTrucks_374 : decode cL_areTrucks 374 = .ok (.aload_n 0, 1) := by decide +kernel
theorem dL_areTrucks_375 : decode cL_areTrucks 375 = .ok (.invokevirtual 189, 3) := by decide +kernel
theorem dL_areTrucks_378 : decode cL_areTrucks 378 = .ok (.ifCond .ne 9, 3) := by decide +kernel
theorem dL_areTrucks_381 : decode cL_areTrucks 381 = .ok (.ldc2_w 73, 3) := by decide +kernel
theorem dL_areTrucks_384 : decode cL_areTrucks 384 = .ok (.goto 11, 3) := by decide +kernel
theorem dL_areTrucks_387 : decode cL_areTrucks 387 = .ok (.iload_n 1, 1) := by decide +kernel
theorem dL_areTrucks_388 : decode cL_areTrucks 388 = .ok (.i2d, 1) := by decide +kernel
theorem dL_areTrucks_389 : decode cL_areTrucks 389 = .ok (.aload_n 0, 1) := by decide +kernel
theorem dL_areTrucks_390 : decode cL_areTrucks 390 = .ok (.invokevirtual 189, 3) := by decide +kernel
theorem dL_areTrucks_393 : decode cL_areTrucks 393 = .ok (.i2d, 1) := by decide +kernel
theorem dL_areTrucks_394 : decode cL_areTrucks 394 = .ok (.ddiv, 1) := by decide +kernel
theorem dL_areTrucks_395 : decode cL_areTrucks 395 = .ok (.dcmp .l, 1) := by decide +kernel
theorem dL_areTrucks_396 : decode cL_areTrucks 396 = .ok (.ifCond .ne 38, 3) := by decide +kernel
theorem dL_areTrucks_399 : decode cL_areTrucks 399 = .ok (.aload_n 0, 1) := by decide +kernel
theorem dL_areTrucks_400 : decode cL_areTrucks 400 = .ok (.invokestatic 262, 3) := by decide +kernel
theorem dL_areTrucks_403 : decode cL_areTrucks 403 = .ok (.aload_n 0, 1) := by decide +kernel
theorem dL_areTrucks_404 : decode cL_areTrucks 404 = .ok (.invokevirtual 171, 3) := by decide +kernel
theorem dL_areTrucks_407 : decode cL_areTrucks 407 = .ok (.ifCond .ne 8, 3) := by decide +kernel
theorem dL_areTrucks_410 : decode cL_areTrucks 410 = .ok (.ldc 81, 2) := by decide +kernel
theorem dL_areTrucks_412 : decode cL_areTrucks 412 = .ok (.goto 14, 3) := by decide +kernel
theorem dL_areTrucks_415 : decode cL_areTrucks 415 = .ok (.aload_n 0, 1) := by decide +kernel
theorem dL_areTrucks_416 : decode cL_areTrucks 416 = .ok (.invokevirtual 176, 3) := by decide +kernel
theorem dL_areTrucks_419 : decode cL_areTrucks 419 = .ok (.i2f, 1) := by decide +kernel
theorem dL_areTrucks_420 : decode cL_areTrucks 420 = .ok (.aload_n 0, 1) := by decide +kernel
theorem dL_areTrucks_421 : decode cL_areTrucks 421 = .ok (.invokevirtual 171, 3) := by decide +kernel
theorem dL_areTrucks_424 : decode cL_areTrucks 424 = .ok (.i2f, 1) := by decide +kernel
theorem dL_areTrucks_425 : decode cL_areTrucks 425 = .ok (.fdiv, 1) := by decide +kernel
theorem dL_areTrucks_426 : decode cL_areTrucks 426 = .ok (.fcmp .l, 1) := by decide +kernel
theorem dL_areTrucks_427 : decode cL_areTrucks 427 = .ok (.ifCond .ne 7, 3) := by decide +kernel
theorem dL_areTrucks_430 : decode cL_areTrucks 430 = .ok (.iconst 1, 1) := by decide +kernel
theorem dL_areTrucks_431 : decode cL_areTrucks 431 = .ok (.goto 4, 3) := by decide +kernel
theorem dL_areTrucks_434 : decode cL_areTrucks 434 = .ok (.iconst 0, 1) := by decide +kernel
theorem dL_areTrucks_435 : decode cL_areTrucks 435 = .ok (.ireturn, 1) := by decide +kernel
theorem dL_stocks_0 : decode cL_stocks 0 = .ok (.iconst 0, 1) := by decide +kernel
theorem dL_stocks_1 : decode cL_stocks 1 = .ok (.istore_n 2, 1) := by decide +kernel
theorem dL_stocks_2 : decode cL_stocks 2 = .ok (.iconst 0, 1) := by decide +kernel
theorem dL_stocks_3 : decode cL_stocks 3 = .ok (.istore_n 3, 1) := by decide +kernel
theorem dL_stocks_4 : decode cL_stocks 4 = .ok (.iload_n 3, 1) := by decide +kernel
theorem dL_stocks_5 : decode cL_stocks 5 = .ok (.iconst 4, 1) := by decide +kernel
theorem dL_stocks_6 : decode cL_stocks 6 = .ok (.if_icmp .ge 18, 3) := by decide +kernel
theorem dL_stocks_9 : decode cL_stocks 9 = .ok (.iload_n 2, 1) := by decide +kernel
theorem dL_stocks_10 : decode cL_stocks 10 = .ok (.aload_n 0, 1) := by decide +kernel
theorem dL_stocks_11 : decode cL_stocks 11 = .ok (.iload_n 1, 1) := by decide +kernel
theorem dL_stocks_12 : decode cL_stocks 12 = .ok (.iload_n 3, 1) := by decide +kernel
theorem dL_stocks_13 : decode cL_stocks 13 = .ok (.invokevirtual 214, 3) := by decide +kernel
theorem dL_stocks_16 : decode cL_stocks 16 = .ok (.iadd, 1) := by decide +kernel
theorem dL_stocks_17 : decode cL_stocks 17 = .ok (.istore_n 2, 1) := by decide +kernel
theorem dL_stocks_18 : decode cL_stocks 18 = .ok (.iinc 3 1, 3) := by decide +kernel
theorem dL_stocks_21 : decode cL_stocks 21 = .ok (.goto (-17), 3) := by decide +kernel
theorem dL_stocks_24 : decode cL_stocks 24 = .ok (.iload_n 2, 1) := by decide +kernel
theorem dL_stocks_25 : decode cL_stocks 25 = .ok (.ireturn, 1) := by decide +kernel
theorem dL_areRanked_0 : decode cL_areRanked 0 = .ok (.iconst 1, 1) := by decide +kernel
theorem dL_areRanked_1 : decode cL_areRanked 1 = .ok (.istore_n 1, 1) := by decide +kernel
theorem dL_areRanked_2 : decode cL_areRanked 2 = .ok (.iconst 1, 1) := by decide +kernel
theorem dL_areRanked_3 : decode cL_areRanked 3 = .ok (.istore_n 2, 1) := by decide +kernel
theorem dL_areRanked_4 : decode cL_areRanked 4 = .ok (.iload_n 1, 1) := by decide +kernel
theorem dL_areRanked_5 : decode cL_areRanked 5 = .ok (.ifCond .eq 92, 3) := by decide +kernel
theorem dL_areRanked_8 : decode cL_areRanked 8 = .ok (.iload_n 2, 1) := by decide +kernel
theorem dL_areRanked_9 : decode cL_areRanked 9 = .ok (.aload_n 0, 1) := by decide +kernel
theorem dL_areRanked_10 : decode cL_areRanked 10 = .ok (.invokevirtual 189, 3) := by decide +kernel
theorem dL_areRanked_13 : decode cL_areRanked 13 = .ok (.if_icmp .ge 84, 3) := by decide +kernel
theorem dL_areRanked_16 : decode cL_areRanked 16 = .ok (.aload_n 0, 1) := by decide +kernel
theorem dL_areRanked_17 : decode cL_areRanked 17 = .ok (.iload_n 2, 1) := by decide +kernel
theorem dL_areRanked_18 : decode cL_areRanked 18 = .ok (.iconst 1, 1) := by decide +kernel
theorem dL_areRanked_19 : decode cL_areRanked 19 = .ok (.isub, 1) := by decide +kernel
theorem dL_areRanked_20 : decode cL_areRanked 20 = .ok (.invokestatic 240, 3) := by decide +kernel
theorem dL_areRanked_23 : decode cL_areRanked 23 = .ok (.istore_n 3, 1) := by decide +kernel
theorem dL_areRanked_24 : decode cL_areRanked 24 = .ok (.aload_n 0, 1) := by decide +kernel
theorem dL_areRanked_25 : decode cL_areRanked 25 = .ok (.iload_n 2, 1) := by decide +kernel
theorem dL_areRanked_26 : decode cL_areRanked 26 = .ok (.invokestatic 240, 3) := by decide +kernel
theorem dL_areRanked_29 : decode cL_areRanked 29 = .ok (.istore 4, 2) := by decide +kernel
theorem dL_areRanked_31 : decode cL_areRanked 31 = .ok (.aload_n 0, 1) := by decide +kernel
theorem dL_areRanked_32 : decode cL_areRanked 32 = .ok (.iload_n 3, 1) := by decide +kernel
theorem dL_areRanked_33 : decode cL_areRanked 33 = .ok (.invokevirtual 202, 3) := by decide +kernel
theorem dL_areRanked_36 : decode cL_areRanked 36 = .ok (.aload_n 0, 1) := by decide +kernel
theorem dL_areRanked_37 : decode cL_areRanked 37 = .ok (.iload 4, 2) := by decide +kernel
theorem dL_areRanked_39 : decode cL_areRanked 39 = .ok (.invokevirtual 202, 3) := by decide +kernel
theorem dL_areRanked_42 : decode cL_areRanked 42 = .ok (.isub, 1) := by decide +kernel
theorem dL_areRanked_43 : decode cL_areRanked 43 = .ok (.istore 5, 2) := by decide +kernel
theorem dL_areRanked_45 : decode cL_areRanked 45 = .ok (.aload_n 0, 1) := by decide +kernel
theorem dL_areRanked_46 : decode cL_areRanked 46 = .ok (.iload_n 3, 1) := by decide +kernel
theorem dL_areRanked_47 : decode cL_areRanked 47 = .ok (.invokestatic 265, 3) := by decide +kernel
theorem dL_areRanked_50 : decode cL_areRanked 50 = .ok (.aload_n 0, 1) := by decide +kernel
theorem dL_areRanked_51 : decode cL_areRanked 51 = .ok (.iload 4, 2) := by decide +kernel
theorem dL_areRanked_53 : decode cL_areRanked 53 = .ok (.invokestatic 265, 3) := by decide +kernel
theorem dL_areRanked_56 : decode cL_areRanked 56 = .ok (.isub, 1) := by decide +kernel
theorem dL_areRanked_57 : decode cL_areRanked 57 = .ok (.istore 6, 2) := by decide +kernel
theorem dL_areRanked_59 : decode cL_areRanked 59 = .ok (.iload 5, 2) := by decide +kernel
theorem dL_areRanked_61 : decode cL_areRanked 61 = .ok (.ifCond .gt 24, 3) := by decide +kernel
theorem dL_areRanked_64 : decode cL_areRanked 64 = .ok (.iload 5, 2) := by decide +kernel
theorem dL_areRanked_66 : decode cL_areRanked 66 = .ok (.ifCond .ne 23, 3) := by decide +kernel
theorem dL_areRanked_69 : decode cL_areRanked 69 = .ok (.iload 6, 2) := by decide +kernel
theorem dL_areRanked_71 : decode cL_areRanked 71 = .ok (.ifCond .gt 14, 3) := by decide +kernel
theorem dL_areRanked_74 : decode cL_areRanked 74 = .ok (.iload 6, 2) := by decide +kernel
theorem dL_areRanked_76 : decode cL_areRanked 76 = .ok (.ifCond .ne 13, 3) := by decide +kernel
theorem dL_areRanked_79 : decode cL_areRanked 79 = .ok (.iload_n 3, 1) := by decide +kernel
theorem dL_areRanked_80 : decode cL_areRanked 80 = .ok (.iload 4, 2) := by decide +kernel
theorem dL_areRanked_82 : decode cL_areRanked 82 = .ok (.if_icmp .ge 7, 3) := by decide +kernel
theorem dL_areRanked_85 : decode cL_areRanked 85 = .ok (.iconst 1, 1) := by decide +kernel
theorem dL_areRanked_86 : decode cL_areRanked 86 = .ok (.goto 4, 3) := by decide +kernel
theorem dL_areRanked_89 : decode cL_areRanked 89 = .ok (.iconst 0, 1) := by decide +kernel
theorem dL_areRanked_90 : decode cL_areRanked 90 = .ok (.istore_n 1, 1) := by decide +kernel
theorem dL_areRanked_91 : decode cL_areRanked 91 = .ok (.iinc 2 1, 3) := by decide +kernel
theorem dL_areRanked_94 : decode cL_areRanked 94 = .ok (.goto (-90), 3) := by decide +kernel
theorem dL_areRanked_97 : decode cL_areRanked 97 = .ok (.iload_n 1, 1) := by decide +kernel
theorem dL_areRanked_98 : decode cL_areRanked 98 = .ok (.ireturn, 1) := by decide +kernel
theorem dL_isPassing_0 : decode cL_isPassing 0 = .ok (.aload_n 0, 1) := by decide +kernel
theorem dL_isPassing_1 : decode cL_isPassing 1 = .ok (.invokestatic 268, 3) := by decide +kernel
theorem dL_isPassing_4 : decode cL_isPassing 4 = .ok (.lstore_n 2, 1) := by decide +kernel
theorem dL_isPassing_5 : decode cL_isPassing 5 = .ok (.aload_n 0, 1) := by decide +kernel
theorem dL_isPassing_6 : decode cL_isPassing 6 = .ok (.iload_n 1, 1) := by decide +kernel
theorem dL_isPassing_7 : decode cL_isPassing 7 = .ok (.invokevirtual 272, 3) := by decide +kernel
theorem dL_isPassing_10 : decode cL_isPassing 10 = .ok (.istore 4, 2) := by decide +kernel
theorem dL_isPassing_12 : decode cL_isPassing 12 = .ok (.aload_n 0, 1) := by decide +kernel
theorem dL_isPassing_13 : decode cL_isPassing 13 = .ok (.invokevirtual 176, 3) := by decide +kernel
theorem dL_isPassing_16 : decode cL_isPassing 16 = .ok (.istore 5, 2) := by decide +kernel
theorem dL_isPassing_18 : decode cL_isPassing 18 = .ok (.aload_n 0, 1) := by decide +kernel
theorem dL_isPassing_19 : decode cL_isPassing 19 = .ok (.invokevirtual 171, 3) := by decide +kernel
theorem dL_isPassing_22 : decode cL_isPassing 22 = .ok (.istore 6, 2) := by decide +kernel
theorem dL_isPassing_24 : decode cL_isPassing 24 = .ok (.iconst 0, 1) := by decide +kernel
theorem dL_isPassing_25 : decode cL_isPassing 25 = .ok (.istore 7, 2) := by decide +kernel
theorem dL_isPassing_27 : decode cL_isPassing 27 = .ok (.bipush 60, 2) := by decide +kernel
theorem dL_isPassing_29 : decode cL_isPassing 29 = .ok (.aload_n 0, 1) := by decide +kernel
theorem dL_isPassing_30 : decode cL_isPassing 30 = .ok (.invokevirtual 115, 3) := by decide +kernel
theorem dL_isPassing_33 : decode cL_isPassing 33 = .ok (.imul, 1) := by decide +kernel
theorem dL_isPassing_34 : decode cL_isPassing 34 = .ok (.aload_n 0, 1) := by decide +kernel
theorem dL_isPassing_35 : decode cL_isPassing 35 = .ok (.invokevirtual 161, 3) := by decide +kernel
theorem dL_isPassing_38 : decode cL_isPassing 38 = .ok (.iadd, 1) := by decide +kernel
theorem dL_isPassing_39 : decode cL_isPassing 39 = .ok (.istore 8, 2) := by decide +kernel
theorem dL_isPassing_41 : decode cL_isPassing 41 = .ok (.iconst 4, 1) := by decide +kernel
theorem dL_isPassing_42 : decode cL_isPassing 42 = .ok (.newarray .int, 2) := by decide +kernel
theorem dL_isPassing_44 : decode cL_isPassing 44 = .ok (.astore 9, 2) := by decide +kernel
theorem dL_isPassing_46 : decode cL_isPassing 46 = .ok (.iconst 4, 1) := by decide +kernel
theorem dL_isPassing_47 : decode cL_isPassing 47 = .ok (.newarray .int, 2) := by decide +kernel
theorem dL_isPassing_49 : decode cL_isPassing 49 = .ok (.astore 10, 2) := by decide +kernel
theorem dL_isPassing_51 : decode cL_isPassing 51 = .ok (.iconst 0, 1) := by decide +kernel
theorem dL_isPassing_52 : decode cL_isPassing 52 = .ok (.istore 11, 2) := by decide +kernel
theorem dL_isPassing_54 : decode cL_isPassing 54 = .ok (.iload 11, 2) := by decide +kernel
theorem dL_isPassing_56 : decode cL_isPassing 56 = .ok (.iconst 4, 1) := by decide +kernel
theorem dL_isPassing_57 : decode cL_isPassing 57 = .ok (.if_icmp .ge 54, 3) := by decide +kernel
theorem dL_isPassing_60 : decode cL_isPassing 60 = .ok (.aload 9, 2) := by decide +kernel
theorem dL_isPassing_62 : decode cL_isPassing 62 = .ok (.iload 11, 2) := by decide +kernel
theorem dL_isPassing_64 : decode cL_isPassing 64 = .ok (.aload_n 0, 1) := by decide +kernel
theorem dL_isPassing_65 : decode cL_isPassing 65 = .ok (.iload 11, 2) := by decide +kernel
theorem dL_isPassing_67 : decode cL_isPassing 67 = .ok (.invokevirtual 197, 3) := by decide +kernel
theorem dL_isPassing_70 : decode cL_isPassing 70 = .ok (.iastore, 1) := by decide +kernel
theorem dL_isPassing_71 : decode cL_isPassing 71 = .ok (.iconst 0, 1) := by decide +kernel
theorem dL_isPassing_72 : decode cL_isPassing 72 = .ok (.istore 12, 2) := by decide +kernel
theorem dL_isPassing_74 : decode cL_isPassing 74 = .ok (.iload 12, 2) := by decide +kernel
theorem dL_isPassing_76 : decode cL_isPassing 76 = .ok (.aload_n 0, 1) := by decide +kernel
theorem dL_isPassing_77 : decode cL_isPassing 77 = .ok (.invokevirtual 189, 3) := by decide +kernel
theorem dL_isPassing_80 : decode cL_isPassing 80 = .ok (.if_icmp .ge 25, 3) := by decide +kernel
theorem dL_isPassing_83 : decode cL_isPassing 83 = .ok (.aload 10, 2) := by decide +kernel
theorem dL_isPassing_85 : decode cL_isPassing 85 = .ok (.iload 11, 2) := by decide +kernel
theorem dL_isPassing_87 : decode cL_isPassing 87 = .ok (.dup2, 1) := by decide +kernel
theorem dL_isPassing_88 : decode cL_isPassing 88 = .ok (.iaload, 1) := by decide +kernel
theorem dL_isPassing_89 : decode cL_isPassing 89 = .ok (.aload_n 0, 1) := by decide +kernel
theorem dL_isPassing_90 : decode cL_isPassing 90 = .ok (.iload 12, 2) := by decide +kernel
theorem dL_isPassing_92 : decode cL_isPassing 92 = .ok (.iload 11, 2) := by decide +kernel
theorem dL_isPassing_94 : decode cL_isPassing 94 = .ok (.invokevirtual 214, 3) := by decide +kernel
theorem dL_isPassing_97 : decode cL_isPassing 97 = .ok (.iadd, 1) := by decide +kernel
theorem dL_isPassing_98 : decode cL_isPassing 98 = .ok (.iastore, 1) := by decide +kernel
theorem dL_isPassing_99 : decode cL_isPassing 99 = .ok (.iinc 12 1, 3) := by decide +kernel
theorem dL_isPassing_102 : decode cL_isPassing 102 = .ok (.goto (-28), 3) := by decide +kernel
theorem dL_isPassing_105 : decode cL_isPassing 105 = .ok (.iinc 11 1, 3) := by decide +kernel
theorem dL_isPassing_108 : decode cL_isPassing 108 = .ok (.goto (-54), 3) := by decide +kernel
theorem dL_isPassing_111 : decode cL_isPassing 111 = .ok (.iconst 0, 1) := by decide +kernel
theorem dL_isPassing_112 : decode cL_isPassing 112 = .ok (.istore 11, 2) := by decide +kernel
theorem dL_isPassing_114 : decode cL_isPassing 114 = .ok (.iload 11, 2) := by decide +kernel
theorem dL_isPassing_116 : decode cL_isPassing 116 = .ok (.aload_n 0, 1) := by decide +kernel
theorem dL_isPassing_117 : decode cL_isPassing 117 = .ok (.invokevirtual 189, 3) := by decide +kernel
theorem dL_isPassing_120 : decode cL_isPassing 120 = .ok (.if_icmp .ge 20, 3) := by decide +kernel
theorem dL_isPassing_123 : decode cL_isPassing 123 = .ok (.iload 7, 2) := by decide +kernel
