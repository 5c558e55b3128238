theorem dL_isPassing_125 : decode cL_isPassing 125 = .ok (.aload_n 0, 1) := by decide +kernel
theorem dL_isPassing_126 : decode cL_isPassing 126 = .ok (.iload 11, 2) := by decide +kernel
theorem dL_isPassing_128 : decode cL_isPassing 128 = .ok (.invokevirtual 202, 3) := by decide +kernel
theorem dL_isPassing_131 : decode cL_isPassing 131 = .ok (.isub, 1) := by decide +kernel
theorem dL_isPassing_132 : decode cL_isPassing 132 = .ok (.istore 7, 2) := by decide +kernel
theorem dL_isPassing_134 : decode cL_isPassing 134 = .ok (.iinc 11 1, 3) := by decide +kernel
theorem dL_isPassing_137 : decode cL_isPassing 137 = .ok (.goto (-23), 3) := by decide +kernel
theorem dL_isPassing_140 : decode cL_isPassing 140 = .ok (.aload_n 0, 1) := by decide +kernel
theorem dL_isPassing_141 : decode cL_isPassing 141 = .ok (.invokestatic 268, 3) := by decide +kernel
theorem dL_isPassing_144 : decode cL_isPassing 144 = .ok (.lload_n 2, 1) := by decide +kernel
theorem dL_isPassing_145 : decode cL_isPassing 145 = .ok (.lcmp, 1) := by decide +kernel
theorem dL_isPassing_146 : decode cL_isPassing 146 = .ok (.ifCond .ne 71, 3) := by decide +kernel
theorem dL_isPassing_149 : decode cL_isPassing 149 = .ok (.aload_n 0, 1) := by decide +kernel
theorem dL_isPassing_150 : decode cL_isPassing 150 = .ok (.iload_n 1, 1) := by decide +kernel
theorem dL_isPassing_151 : decode cL_isPassing 151 = .ok (.invokestatic 138, 3) := by decide +kernel
theorem dL_isPassing_154 : decode cL_isPassing 154 = .ok (.iload 4, 2) := by decide +kernel
theorem dL_isPassing_156 : decode cL_isPassing 156 = .ok (.if_icmp .ne 61, 3) := by decide +kernel
theorem dL_isPassing_159 : decode cL_isPassing 159 = .ok (.aload_n 0, 1) := by decide +kernel
theorem dL_isPassing_160 : decode cL_isPassing 160 = .ok (.invokevirtual 176, 3) := by decide +kernel
theorem dL_isPassing_163 : decode cL_isPassing 163 = .ok (.iload 5, 2) := by decide +kernel
theorem dL_isPassing_165 : decode cL_isPassing 165 = .ok (.iload 4, 2) := by decide +kernel
theorem dL_isPassing_167 : decode cL_isPassing 167 = .ok (.iadd, 1) := by decide +kernel
theorem dL_isPassing_168 : decode cL_isPassing 168 = .ok (.if_icmp .ne 49, 3) := by decide +kernel
theorem dL_isPassing_171 : decode cL_isPassing 171 = .ok (.aload_n 0, 1) := by decide +kernel
theorem dL_isPassing_172 : decode cL_isPassing 172 = .ok (.invokevirtual 171, 3) := by decide +kernel
theorem dL_isPassing_175 : decode cL_isPassing 175 = .ok (.iload 6, 2) := by decide +kernel
theorem dL_isPassing_177 : decode cL_isPassing 177 = .ok (.iload_n 1, 1) := by decide +kernel
theorem dL_isPassing_178 : decode cL_isPassing 178 = .ok (.aload_n 0, 1) := by decide +kernel
theorem dL_isPassing_179 : decode cL_isPassing 179 = .ok (.invokevirtual 166, 3) := by decide +kernel
theorem dL_isPassing_182 : decode cL_isPassing 182 = .ok (.imul, 1) := by decide +kernel
theorem dL_isPassing_183 : decode cL_isPassing 183 = .ok (.iadd, 1) := by decide +kernel
theorem dL_isPassing_184 : decode cL_isPassing 184 = .ok (.if_icmp .ne 33, 3) := by decide +kernel
theorem dL_isPassing_187 : decode cL_isPassing 187 = .ok (.bipush 60, 2) := by decide +kernel
theorem dL_isPassing_189 : decode cL_isPassing 189 = .ok (.aload_n 0, 1) := by decide +kernel
theorem dL_isPassing_190 : decode cL_isPassing 190 = .ok (.invokevirtual 115, 3) := by decide +kernel
theorem dL_isPassing_193 : decode cL_isPassing 193 = .ok (.imul, 1) := by decide +kernel
theorem dL_isPassing_194 : decode cL_isPassing 194 = .ok (.aload_n 0, 1) := by decide +kernel
theorem dL_isPassing_195 : decode cL_isPassing 195 = .ok (.invokevirtual 161, 3) := by decide +kernel
theorem dL_isPassing_198 : decode cL_isPassing 198 = .ok (.iadd, 1) := by decide +kernel
theorem dL_isPassing_199 : decode cL_isPassing 199 = .ok (.iload 8, 2) := by decide +kernel
theorem dL_isPassing_201 : decode cL_isPassing 201 = .ok (.iload_n 1, 1) := by decide +kernel
theorem dL_isPassing_202 : decode cL_isPassing 202 = .ok (.iadd, 1) := by decide +kernel
theorem dL_isPassing_203 : decode cL_isPassing 203 = .ok (.if_icmp .ne 14, 3) := by decide +kernel
theorem dL_isPassing_206 : decode cL_isPassing 206 = .ok (.aload_n 0, 1) := by decide +kernel
theorem dL_isPassing_207 : decode cL_isPassing 207 = .ok (.invokestatic 275, 3) := by decide +kernel
theorem dL_isPassing_210 : decode cL_isPassing 210 = .ok (.ifCond .eq 7, 3) := by decide +kernel
theorem dL_isPassing_213 : decode cL_isPassing 213 = .ok (.iconst 1, 1) := by decide +kernel
theorem dL_isPassing_214 : decode cL_isPassing 214 = .ok (.goto 4, 3) := by decide +kernel
theorem dL_isPassing_217 : decode cL_isPassing 217 = .ok (.iconst 0, 1) := by decide +kernel
theorem dL_isPassing_218 : decode cL_isPassing 218 = .ok (.istore 11, 2) := by decide +kernel
theorem dL_isPassing_220 : decode cL_isPassing 220 = .ok (.iconst 0, 1) := by decide +kernel
theorem dL_isPassing_221 : decode cL_isPassing 221 = .ok (.istore 12, 2) := by decide +kernel
theorem dL_isPassing_223 : decode cL_isPassing 223 = .ok (.iload 12, 2) := by decide +kernel
theorem dL_isPassing_225 : decode cL_isPassing 225 = .ok (.aload_n 0, 1) := by decide +kernel
theorem dL_isPassing_226 : decode cL_isPassing 226 = .ok (.invokevirtual 189, 3) := by decide +kernel
theorem dL_isPassing_229 : decode cL_isPassing 229 = .ok (.if_icmp .ge 20, 3) := by decide +kernel
theorem dL_isPassing_232 : decode cL_isPassing 232 = .ok (.iload 7, 2) := by decide +kernel
theorem dL_isPassing_234 : decode cL_isPassing 234 = .ok (.aload_n 0, 1) := by decide +kernel
theorem dL_isPassing_235 : decode cL_isPassing 235 = .ok (.iload 12, 2) := by decide +kernel
theorem dL_isPassing_237 : decode cL_isPassing 237 = .ok (.invokevirtual 202, 3) := by decide +kernel
theorem dL_isPassing_240 : decode cL_isPassing 240 = .ok (.iadd, 1) := by decide +kernel
theorem dL_isPassing_241 : decode cL_isPassing 241 = .ok (.istore 7, 2) := by decide +kernel
theorem dL_isPassing_243 : decode cL_isPassing 243 = .ok (.iinc 12 1, 3) := by decide +kernel
theorem dL_isPassing_246 : decode cL_isPassing 246 = .ok (.goto (-23), 3) := by decide +kernel
theorem dL_isPassing_249 : decode cL_isPassing 249 = .ok (.iconst 0, 1) := by decide +kernel
theorem dL_isPassing_250 : decode cL_isPassing 250 = .ok (.istore 12, 2) := by decide +kernel
theorem dL_isPassing_252 : decode cL_isPassing 252 = .ok (.iload 11, 2) := by decide +kernel
theorem dL_isPassing_254 : decode cL_isPassing 254 = .ok (.ifCond .eq 99, 3) := by decide +kernel
theorem dL_isPassing_257 : decode cL_isPassing 257 = .ok (.iload 12, 2) := by decide +kernel
theorem dL_isPassing_259 : decode cL_isPassing 259 = .ok (.iconst 4, 1) := by decide +kernel
theorem dL_isPassing_260 : decode cL_isPassing 260 = .ok (.if_icmp .ge 93, 3) := by decide +kernel
theorem dL_isPassing_263 : decode cL_isPassing 263 = .ok (.aload_n 0, 1) := by decide +kernel
theorem dL_isPassing_264 : decode cL_isPassing 264 = .ok (.iload 12, 2) := by decide +kernel
theorem dL_isPassing_266 : decode cL_isPassing 266 = .ok (.invokevirtual 197, 3) := by decide +kernel
theorem dL_isPassing_269 : decode cL_isPassing 269 = .ok (.aload 9, 2) := by decide +kernel
theorem dL_isPassing_271 : decode cL_isPassing 271 = .ok (.iload 12, 2) := by decide +kernel
theorem dL_isPassing_273 : decode cL_isPassing 273 = .ok (.iaload, 1) := by decide +kernel
theorem dL_isPassing_274 : decode cL_isPassing 274 = .ok (.isub, 1) := by decide +kernel
theorem dL_isPassing_275 : decode cL_isPassing 275 = .ok (.istore 13, 2) := by decide +kernel
theorem dL_isPassing_277 : decode cL_isPassing 277 = .ok (.iconst 0, 1) := by decide +kernel
theorem dL_isPassing_278 : decode cL_isPassing 278 = .ok (.istore 14, 2) := by decide +kernel
theorem dL_isPassing_280 : decode cL_isPassing 280 = .ok (.iload 14, 2) := by decide +kernel
theorem dL_isPassing_282 : decode cL_isPassing 282 = .ok (.aload_n 0, 1) := by decide +kernel
theorem dL_isPassing_283 : decode cL_isPassing 283 = .ok (.invokevirtual 189, 3) := by decide +kernel
theorem dL_isPassing_286 : decode cL_isPassing 286 = .ok (.if_icmp .ge 25, 3) := by decide +kernel
theorem dL_isPassing_289 : decode cL_isPassing 289 = .ok (.aload 10, 2) := by decide +kernel
theorem dL_isPassing_291 : decode cL_isPassing 291 = .ok (.iload 12, 2) := by decide +kernel
theorem dL_isPassing_293 : decode cL_isPassing 293 = .ok (.dup2, 1) := by decide +kernel
theorem dL_isPassing_294 : decode cL_isPassing 294 = .ok (.iaload, 1) := by decide +kernel
theorem dL_isPassing_295 : decode cL_isPassing 295 = .ok (.aload_n 0, 1) := by decide +kernel
theorem dL_isPassing_296 : decode cL_isPassing 296 = .ok (.iload 14, 2) := by decide +kernel
theorem dL_isPassing_298 : decode cL_isPassing 298 = .ok (.iload 12, 2) := by decide +kernel
theorem dL_isPassing_300 : decode cL_isPassing 300 = .ok (.invokevirtual 214, 3) := by decide +kernel
theorem dL_isPassing_303 : decode cL_isPassing 303 = .ok (.isub, 1) := by decide +kernel
theorem dL_isPassing_304 : decode cL_isPassing 304 = .ok (.iastore, 1) := by decide +kernel
theorem dL_isPassing_305 : decode cL_isPassing 305 = .ok (.iinc 14 1, 3) := by decide +kernel
theorem dL_isPassing_308 : decode cL_isPassing 308 = .ok (.goto (-28), 3) := by decide +kernel
theorem dL_isPassing_311 : decode cL_isPassing 311 = .ok (.iload 7, 2) := by decide +kernel
theorem dL_isPassing_313 : decode cL_isPassing 313 = .ok (.iload 13, 2) := by decide +kernel
theorem dL_isPassing_315 : decode cL_isPassing 315 = .ok (.aload_n 0, 1) := by decide +kernel
theorem dL_isPassing_316 : decode cL_isPassing 316 = .ok (.iload 12, 2) := by decide +kernel
theorem dL_isPassing_318 : decode cL_isPassing 318 = .ok (.invokevirtual 194, 3) := by decide +kernel
theorem dL_isPassing_321 : decode cL_isPassing 321 = .ok (.imul, 1) := by decide +kernel
theorem dL_isPassing_322 : decode cL_isPassing 322 = .ok (.isub, 1) := by decide +kernel
theorem dL_isPassing_323 : decode cL_isPassing 323 = .ok (.istore 7, 2) := by decide +kernel
theorem dL_isPassing_325 : decode cL_isPassing 325 = .ok (.iload 13, 2) := by decide +kernel
theorem dL_isPassing_327 : decode cL_isPassing 327 = .ok (.aload 10, 2) := by decide +kernel
theorem dL_isPassing_329 : decode cL_isPassing 329 = .ok (.iload 12, 2) := by decide +kernel
theorem dL_isPassing_331 : decode cL_isPassing 331 = .ok (.iaload, 1) := by decide +kernel
theorem dL_isPassing_332 : decode cL_isPassing 332 = .ok (.if_icmp .ne 12, 3) := by decide +kernel
theorem dL_isPassing_335 : decode cL_isPassing 335 = .ok (.iload 13, 2) := by decide +kernel
theorem dL_isPassing_337 : decode cL_isPassing 337 = .ok (.ifCond .lt 7, 3) := by decide +kernel
theorem dL_isPassing_340 : decode cL_isPassing 340 = .ok (.iconst 1, 1) := by decide +kernel
theorem dL_isPassing_341 : decode cL_isPassing 341 = .ok (.goto 4, 3) := by decide +kernel
theorem dL_isPassing_344 : decode cL_isPassing 344 = .ok (.iconst 0, 1) := by decide +kernel
theorem dL_isPassing_345 : decode cL_isPassing 345 = .ok (.istore 11, 2) := by decide +kernel
theorem dL_isPassing_347 : decode cL_isPassing 347 = .ok (.iinc 12 1, 3) := by decide +kernel
theorem dL_isPassing_350 : decode cL_isPassing 350 = .ok (.goto (-98), 3) := by decide +kernel
theorem dL_isPassing_353 : decode cL_isPassing 353 = .ok (.iload 11, 2) := by decide +kernel
theorem dL_isPassing_355 : decode cL_isPassing 355 = .ok (.ifCond .eq 28, 3) := by decide +kernel
theorem dL_isPassing_358 : decode cL_isPassing 358 = .ok (.iload 7, 2) := by decide +kernel
theorem dL_isPassing_360 : decode cL_isPassing 360 = .ok (.ifCond .ne 23, 3) := by decide +kernel
theorem dL_isPassing_363 : decode cL_isPassing 363 = .ok (.aload_n 0, 1) := by decide +kernel
theorem dL_isPassing_364 : decode cL_isPassing 364 = .ok (.invokestatic 155, 3) := by decide +kernel
theorem dL_isPassing_367 : decode cL_isPassing 367 = .ok (.ifCond .lt 16, 3) := by decide +kernel
theorem dL_isPassing_370 : decode cL_isPassing 370 = .ok (.aload_n 0, 1) := by decide +kernel
theorem dL_isPassing_371 : decode cL_isPassing 371 = .ok (.invokestatic 268, 3) := by decide +kernel
theorem dL_isPassing_374 : decode cL_isPassing 374 = .ok (.lload_n 2, 1) := by decide +kernel
theorem dL_isPassing_375 : decode cL_isPassing 375 = .ok (.lcmp, 1) := by decide +kernel
theorem dL_isPassing_376 : decode cL_isPassing 376 = .ok (.ifCond .ne 7, 3) := by decide +kernel
theorem dL_isPassing_379 : decode cL_isPassing 379 = .ok (.iconst 1, 1) := by decide +kernel
theorem dL_isPassing_380 : decode cL_isPassing 380 = .ok (.goto 4, 3) := by decide +kernel
theorem dL_isPassing_383 : decode cL_isPassing 383 = .ok (.iconst 0, 1) := by decide +kernel
theorem dL_isPassing_384 : decode cL_isPassing 384 = .ok (.ireturn, 1) := by decide +kernel
theorem dL_isReleased_0 : decode cL_isReleased 0 = .ok (.aload_n 0, 1) := by decide +kernel
theorem dL_isReleased_1 : decode cL_isReleased 1 = .ok (.invokestatic 268, 3) := by decide +kernel
theorem dL_isReleased_4 : decode cL_isReleased 4 = .ok (.lstore_n 2, 1) := by decide +kernel
theorem dL_isReleased_5 : decode cL_isReleased 5 = .ok (.aload_n 0, 1) := by decide +kernel
theorem dL_isReleased_6 : decode cL_isReleased 6 = .ok (.invokevirtual 115, 3) := by decide +kernel
theorem dL_isReleased_9 : decode cL_isReleased 9 = .ok (.bipush 7, 2) := by decide +kernel
theorem dL_isReleased_11 : decode cL_isReleased 11 = .ok (.irem, 1) := by decide +kernel
theorem dL_isReleased_12 : decode cL_isReleased 12 = .ok (.istore 4, 2) := by decide +kernel
theorem dL_isReleased_14 : decode cL_isReleased 14 = .ok (.aload_n 0, 1) := by decide +kernel
theorem dL_isReleased_15 : decode cL_isReleased 15 = .ok (.iload_n 1, 1) := by decide +kernel
theorem dL_isReleased_16 : decode cL_isReleased 16 = .ok (.iload 4, 2) := by decide +kernel
theorem dL_isReleased_18 : decode cL_isReleased 18 = .ok (.invokestatic 200, 3) := by decide +kernel
theorem dL_isReleased_21 : decode cL_isReleased 21 = .ok (.istore 5, 2) := by decide +kernel
theorem dL_isReleased_23 : decode cL_isReleased 23 = .ok (.iload 5, 2) := by decide +kernel
theorem dL_isReleased_25 : decode cL_isReleased 25 = .ok (.sipush (-1000), 3) := by decide +kernel
theorem dL_isReleased_28 : decode cL_isReleased 28 = .ok (.if_icmp .ne 7, 3) := by decide +kernel
theorem dL_isReleased_31 : decode cL_isReleased 31 = .ok (.iconst 0, 1) := by decide +kernel
theorem dL_isReleased_32 : decode cL_isReleased 32 = .ok (.goto 9, 3) := by decide +kernel
theorem dL_isReleased_35 : decode cL_isReleased 35 = .ok (.aload_n 0, 1) := by decide +kernel
theorem dL_isReleased_36 : decode cL_isReleased 36 = .ok (.iload 5, 2) := by decide +kernel
theorem dL_isReleased_38 : decode cL_isReleased 38 = .ok (.invokevirtual 208, 3) := by decide +kernel
theorem dL_isReleased_41 : decode cL_isReleased 41 = .ok (.istore 6, 2) := by decide +kernel
theorem dL_isReleased_43 : decode cL_isReleased 43 = .ok (.aload_n 0, 1) := by decide +kernel
theorem dL_isReleased_44 : decode cL_isReleased 44 = .ok (.invokevirtual 181, 3) := by decide +kernel
theorem dL_isReleased_47 : decode cL_isReleased 47 = .ok (.istore 7, 2) := by decide +kernel
theorem dL_isReleased_49 : decode cL_isReleased 49 = .ok (.aload_n 0, 1) := by decide +kernel
theorem dL_isReleased_50 : decode cL_isReleased 50 = .ok (.iload_n 1, 1) := by decide +kernel
theorem dL_isReleased_51 : decode cL_isReleased 51 = .ok (.iload 4, 2) := by decide +kernel
theorem dL_isReleased_53 : decode cL_isReleased 53 = .ok (.invokestatic 133, 3) := by decide +kernel
theorem dL_isReleased_56 : decode cL_isReleased 56 = .ok (.istore 8, 2) := by decide +kernel
theorem dL_isReleased_58 : decode cL_isReleased 58 = .ok (.iload 8, 2) := by decide +kernel
theorem dL_isReleased_60 : decode cL_isReleased 60 = .ok (.ldc 10, 2) := by decide +kernel
theorem dL_isReleased_62 : decode cL_isReleased 62 = .ok (.if_icmp .ne 26, 3) := by decide +kernel
theorem dL_isReleased_65 : decode cL_isReleased 65 = .ok (.iload 5, 2) := by decide +kernel
theorem dL_isReleased_67 : decode cL_isReleased 67 = .ok (.sipush (-1000), 3) := by decide +kernel
theorem dL_isReleased_70 : decode cL_isReleased 70 = .ok (.if_icmp .ne 16, 3) := by decide +kernel
theorem dL_isReleased_73 : decode cL_isReleased 73 = .ok (.aload_n 0, 1) := by decide +kernel
theorem dL_isReleased_74 : decode cL_isReleased 74 = .ok (.invokestatic 268, 3) := by decide +kernel
theorem dL_isReleased_77 : decode cL_isReleased 77 = .ok (.lload_n 2, 1) := by decide +kernel
theorem dL_isReleased_78 : decode cL_isReleased 78 = .ok (.lcmp, 1) := by decide +kernel
theorem dL_isReleased_79 : decode cL_isReleased 79 = .ok (.ifCond .ne 7, 3) := by decide +kernel
theorem dL_isReleased_82 : decode cL_isReleased 82 = .ok (.iconst 1, 1) := by decide +kernel
theorem dL_isReleased_83 : decode cL_isReleased 83 = .ok (.goto 4, 3) := by decide +kernel
theorem dL_isReleased_86 : decode cL_isReleased 86 = .ok (.iconst 0, 1) := by decide +kernel
theorem dL_isReleased_87 : decode cL_isReleased 87 = .ok (.ireturn, 1) := by decide +kernel
theorem dL_isReleased_88 : decode cL_isReleased 88 = .ok (.iload 8, 2) := by decide +kernel
theorem dL_isReleased_90 : decode cL_isReleased 90 = .ok (.iload 5, 2) := by decide +kernel
theorem dL_isReleased_92 : decode cL_isReleased 92 = .ok (.if_icmp .ne 51, 3) := by decide +kernel
theorem dL_isReleased_95 : decode cL_isReleased 95 = .ok (.aload_n 0, 1) := by decide +kernel
theorem dL_isReleased_96 : decode cL_isReleased 96 = .ok (.invokevirtual 181, 3) := by decide +kernel
theorem dL_isReleased_99 : decode cL_isReleased 99 = .ok (.iload 7, 2) := by decide +kernel
theorem dL_isReleased_101 : decode cL_isReleased 101 = .ok (.iload 6, 2) := by decide +kernel
theorem dL_isReleased_103 : decode cL_isReleased 103 = .ok (.iadd, 1) := by decide +kernel
theorem dL_isReleased_104 : decode cL_isReleased 104 = .ok (.if_icmp .ne 39, 3) := by decide +kernel
theorem dL_isReleased_107 : decode cL_isReleased 107 = .ok (.aload_n 0, 1) := by decide +kernel
theorem dL_isReleased_108 : decode cL_isReleased 108 = .ok (.iload 5, 2) := by decide +kernel
theorem dL_isReleased_110 : decode cL_isReleased 110 = .ok (.invokevirtual 245, 3) := by decide +kernel
theorem dL_isReleased_113 : decode cL_isReleased 113 = .ok (.ifCond .ne 30, 3) := by decide +kernel
theorem dL_isReleased_116 : decode cL_isReleased 116 = .ok (.aload_n 0, 1) := by decide +kernel
theorem dL_isReleased_117 : decode cL_isReleased 117 = .ok (.iload 5, 2) := by decide +kernel
theorem dL_isReleased_119 : decode cL_isReleased 119 = .ok (.invokevirtual 208, 3) := by decide +kernel
theorem dL_isReleased_122 : decode cL_isReleased 122 = .ok (.ifCond .ne 21, 3) := by decide +kernel
theorem dL_isReleased_125 : decode cL_isReleased 125 = .ok (.aload_n 0, 1) := by decide +kernel
theorem dL_isReleased_126 : decode cL_isReleased 126 = .ok (.invokestatic 275, 3) := by decide +kernel
theorem dL_isReleased_129 : decode cL_isReleased 129 = .ok (.ifCond .eq 14, 3) := by decide +kernel
theorem dL_isReleased_132 : decode cL_isReleased 132 = .ok (.aload_n 0, 1) := by decide +kernel
theorem dL_isReleased_133 : decode cL_isReleased 133 = .ok (.invokestatic 279, 3) := by decide +kernel
theorem dL_isReleased_136 : decode cL_isReleased 136 = .ok (.ifCond .eq 7, 3) := by decide +kernel
theorem dL_isReleased_139 : decode cL_isReleased 139 = .ok (.iconst 1, 1) := by decide +kernel
theorem dL_isReleased_140 : decode cL_isReleased 140 = .ok (.goto 4, 3) := by decide +kernel
theorem dL_isReleased_143 : decode cL_isReleased 143 = .ok (.iconst 0, 1) := by decide +kernel
theorem dL_isReleased_144 : decode cL_isReleased 144 = .ok (.istore 9, 2) := by decide +kernel
theorem dL_isReleased_146 : decode cL_isReleased 146 = .ok (.iload 9, 2) := by decide +kernel
theorem dL_isReleased_148 : decode cL_isReleased 148 = .ok (.ifCond .eq 23, 3) := by decide +kernel
theorem dL_isReleased_151 : decode cL_isReleased 151 = .ok (.aload_n 0, 1) := by decide +kernel
theorem dL_isReleased_152 : decode cL_isReleased 152 = .ok (.invokestatic 155, 3) := by decide +kernel
theorem dL_isReleased_155 : decode cL_isReleased 155 = .ok (.ifCond .lt 16, 3) := by decide +kernel
theorem dL_isReleased_158 : decode cL_isReleased 158 = .ok (.aload_n 0, 1) := by decide +kernel
theorem dL_isReleased_159 : decode cL_isReleased 159 = .ok (.invokestatic 268, 3) := by decide +kernel
theorem dL_isReleased_162 : decode cL_isReleased 162 = .ok (.lload_n 2, 1) := by decide +kernel
theorem dL_isReleased_163 : decode cL_isReleased 163 = .ok (.lcmp, 1) := by decide +kernel
theorem dL_isReleased_164 : decode cL_isReleased 164 = .ok (.ifCond .ne 7, 3) := by decide +kernel
theorem dL_isReleased_167 : decode cL_isReleased 167 = .ok (.iconst 1, 1) := by decide +kernel
theorem dL_isReleased_168 : decode cL_isReleased 168 = .ok (.goto 4, 3) := by decide +kernel
theorem dL_isReleased_171 : decode cL_isReleased 171 = .ok (.iconst 0, 1) := by decide +kernel
theorem dL_isReleased_172 : decode cL_isReleased 172 = .ok (.ireturn, 1) := by decide +kernel
theorem dL_isFit_0 : decode cL_isFit 0 = .ok (.aload_n 0, 1) := by decide +kernel
theorem dL_isFit_1 : decode cL_isFit 1 = .ok (.invokestatic 279, 3) := by decide +kernel
theorem dL_isFit_4 : decode cL_isFit 4 = .ok (.ifCond .eq 47, 3) := by decide +kernel
theorem dL_isFit_7 : decode cL_isFit 7 = .ok (.aload_n 0, 1) := by decide +kernel
theorem dL_isFit_8 : decode cL_isFit 8 = .ok (.invokestatic 275, 3) := by decide +kernel
theorem dL_isFit_11 : decode cL_isFit 11 = .ok (.ifCond .eq 40, 3) := by decide +kernel
theorem dL_isFit_14 : decode cL_isFit 14 = .ok (.aload_n 0, 1) := by decide +kernel
theorem dL_isFit_15 : decode cL_isFit 15 = .ok (.invokestatic 282, 3) := by decide +kernel
theorem dL_isFit_18 : decode cL_isFit 18 = .ok (.ifCond .eq 33, 3) := by decide +kernel
theorem dL_isFit_21 : decode cL_isFit 21 = .ok (.aload_n 0, 1) := by decide +kernel
theorem dL_isFit_22 : decode cL_isFit 22 = .ok (.iconst 1, 1) := by decide +kernel
theorem dL_isFit_23 : decode cL_isFit 23 = .ok (.invokestatic 285, 3) := by decide +kernel
theorem dL_isFit_26 : decode cL_isFit 26 = .ok (.ifCond .eq 25, 3) := by decide +kernel
theorem dL_isFit_29 : decode cL_isFit 29 = .ok (.aload_n 0, 1) := by decide +kernel
theorem dL_isFit_30 : decode cL_isFit 30 = .ok (.bipush 11, 2) := by decide +kernel
theorem dL_isFit_32 : decode cL_isFit 32 = .ok (.invokestatic 285, 3) := by decide +kernel
theorem dL_isFit_35 : decode cL_isFit 35 = .ok (.ifCond .eq 16, 3) := by decide +kernel
theorem dL_isFit_38 : decode cL_isFit 38 = .ok (.aload_n 0, 1) := by decide +kernel
theorem dL_isFit_39 : decode cL_isFit 39 = .ok (.bipush 60, 2) := by decide +kernel
theorem dL_isFit_41 : decode cL_isFit 41 = .ok (.invokestatic 285, 3) := by decide +kernel
theorem dL_isFit_44 : decode cL_isFit 44 = .ok (.ifCond .eq 7, 3) := by decide +kernel
theorem dL_isFit_47 : decode cL_isFit 47 = .ok (.iconst 1, 1) := by decide +kernel
theorem dL_isFit_48 : decode cL_isFit 48 = .ok (.goto 4, 3) := by decide +kernel
theorem dL_isFit_51 : decode cL_isFit 51 = .ok (.iconst 0, 1) := by decide +kernel
theorem dL_isFit_52 : decode cL_isFit 52 = .ok (.istore_n 1, 1) := by decide +kernel
theorem dL_isFit_53 : decode cL_isFit 53 = .ok (.iconst 0, 1) := by decide +kernel
theorem dL_isFit_54 : decode cL_isFit 54 = .ok (.istore_n 2, 1) := by decide +kernel
theorem dL_isFit_55 : decode cL_isFit 55 = .ok (.iload_n 1, 1) := by decide +kernel
theorem dL_isFit_56 : decode cL_isFit 56 = .ok (.ifCond .eq 20, 3) := by decide +kernel
theorem dL_isFit_59 : decode cL_isFit 59 = .ok (.iload_n 2, 1) := by decide +kernel
theorem dL_isFit_60 : decode cL_isFit 60 = .ok (.iconst 5, 1) := by decide +kernel
theorem dL_isFit_61 : decode cL_isFit 61 = .ok (.if_icmp .ge 15, 3) := by decide +kernel
theorem dL_isFit_64 : decode cL_isFit 64 = .ok (.aload_n 0, 1) := by decide +kernel
theorem dL_isFit_65 : decode cL_isFit 65 = .ok (.iload_n 2, 1) := by decide +kernel
theorem dL_isFit_66 : decode cL_isFit 66 = .ok (.invokestatic 289, 3) := by decide +kernel
theorem dL_isFit_69 : decode cL_isFit 69 = .ok (.istore_n 1, 1) := by decide +kernel
theorem dL_isFit_70 : decode cL_isFit 70 = .ok (.iinc 2 1, 3) := by decide +kernel
theorem dL_isFit_73 : decode cL_isFit 73 = .ok (.goto (-18), 3) := by decide +kernel
theorem dL_isFit_76 : decode cL_isFit 76 = .ok (.iload_n 1, 1) := by decide +kernel
theorem dL_isFit_77 : decode cL_isFit 77 = .ok (.ireturn, 1) := by decide +kernel
theorem dL_law_0 : decode cL_law 0 = .ok (.new 12, 3) := by decide +kernel
theorem dL_law_3 : decode cL_law 3 = .ok (.dup, 1) := by decide +kernel
theorem dL_law_4 : decode cL_law 4 = .ok (.invokespecial 292, 3) := by decide +kernel
theorem dL_law_7 : decode cL_law 7 = .ok (.astore_n 1, 1) := by decide +kernel
theorem dL_law_8 : decode cL_law 8 = .ok (.iconst 0, 1) := by decide +kernel
theorem dL_law_9 : decode cL_law 9 = .ok (.istore_n 2, 1) := by decide +kernel
theorem dL_law_10 : decode cL_law 10 = .ok (.iload_n 2, 1) := by decide +kernel
theorem dL_law_11 : decode cL_law 11 = .ok (.iconst 3, 1) := by decide +kernel
theorem dL_law_12 : decode cL_law 12 = .ok (.if_icmp .ge 86, 3) := by decide +kernel
theorem dL_law_15 : decode cL_law 15 = .ok (.aload_n 1, 1) := by decide +kernel
theorem dL_law_16 : decode cL_law 16 = .ok (.invokestatic 118, 3) := by decide +kernel
theorem dL_law_19 : decode cL_law 19 = .ok (.pop, 1) := by decide +kernel
theorem dL_law_20 : decode cL_law 20 = .ok (.iconst 0, 1) := by decide +kernel
theorem dL_law_21 : decode cL_law 21 = .ok (.istore_n 3, 1) := by decide +kernel
theorem dL_law_22 : decode cL_law 22 = .ok (.iload_n 3, 1) := by decide +kernel
theorem dL_law_23 : decode cL_law 23 = .ok (.iconst 4, 1) := by decide +kernel
theorem dL_law_24 : decode cL_law 24 = .ok (.if_icmp .ge 36, 3) := by decide +kernel
theorem dL_law_27 : decode cL_law 27 = .ok (.aload_n 1, 1) := by decide +kernel
theorem dL_law_28 : decode cL_law 28 = .ok (.iload_n 2, 1) := by decide +kernel
theorem dL_law_29 : decode cL_law 29 = .ok (.iload_n 3, 1) := by decide +kernel
theorem dL_law_30 : decode cL_law 30 = .ok (.invokestatic 127, 3) := by decide +kernel
theorem dL_law_33 : decode cL_law 33 = .ok (.pop, 1) := by decide +kernel
theorem dL_law_34 : decode cL_law 34 = .ok (.aload_n 1, 1) := by decide +kernel
theorem dL_law_35 : decode cL_law 35 = .ok (.iload_n 2, 1) := by decide +kernel
theorem dL_law_36 : decode cL_law 36 = .ok (.iload_n 2, 1) := by decide +kernel
theorem dL_law_37 : decode cL_law 37 = .ok (.aload_n 0, 1) := by decide +kernel
theorem dL_law_38 : decode cL_law 38 = .ok (.iload_n 3, 1) := by decide +kernel
theorem dL_law_39 : decode cL_law 39 = .ok (.invokestatic 293, 3) := by decide +kernel
theorem dL_law_42 : decode cL_law 42 = .ok (.iconst 5, 1) := by decide +kernel
theorem dL_law_43 : decode cL_law 43 = .ok (.ishr, 1) := by decide +kernel
theorem dL_law_44 : decode cL_law 44 = .ok (.iconst 1, 1) := by decide +kernel
theorem dL_law_45 : decode cL_law 45 = .ok (.iand, 1) := by decide +kernel
theorem dL_law_46 : decode cL_law 46 = .ok (.iadd, 1) := by decide +kernel
theorem dL_law_47 : decode cL_law 47 = .ok (.iconst 5, 1) := by decide +kernel
theorem dL_law_48 : decode cL_law 48 = .ok (.irem, 1) := by decide +kernel
theorem dL_law_49 : decode cL_law 49 = .ok (.iload_n 3, 1) := by decide +kernel
theorem dL_law_50 : decode cL_law 50 = .ok (.invokestatic 131, 3) := by decide +kernel
theorem dL_law_53 : decode cL_law 53 = .ok (.pop, 1) := by decide +kernel
theorem dL_law_54 : decode cL_law 54 = .ok (.iinc 3 1, 3) := by decide +kernel
theorem dL_law_57 : decode cL_law 57 = .ok (.goto (-35), 3) := by decide +kernel
theorem dL_law_60 : decode cL_law 60 = .ok (.iconst 0, 1) := by decide +kernel
theorem dL_law_61 : decode cL_law 61 = .ok (.istore_n 3, 1) := by decide +kernel
theorem dL_law_62 : decode cL_law 62 = .ok (.iload_n 3, 1) := by decide +kernel
theorem dL_law_63 : decode cL_law 63 = .ok (.iconst 4, 1) := by decide +kernel
theorem dL_law_64 : decode cL_law 64 = .ok (.if_icmp .ge 28, 3) := by decide +kernel
theorem dL_law_67 : decode cL_law 67 = .ok (.aload_n 1, 1) := by decide +kernel
theorem dL_law_68 : decode cL_law 68 = .ok (.iload_n 2, 1) := by decide +kernel
theorem dL_law_69 : decode cL_law 69 = .ok (.iload_n 3, 1) := by decide +kernel
theorem dL_law_70 : decode cL_law 70 = .ok (.aload_n 0, 1) := by decide +kernel
theorem dL_law_71 : decode cL_law 71 = .ok (.iload_n 2, 1) := by decide +kernel
theorem dL_law_72 : decode cL_law 72 = .ok (.iload_n 3, 1) := by decide +kernel
theorem dL_law_73 : decode cL_law 73 = .ok (.iadd, 1) := by decide +kernel
theorem dL_law_74 : decode cL_law 74 = .ok (.invokestatic 293, 3) := by decide +kernel
theorem dL_law_77 : decode cL_law 77 = .ok (.iconst 4, 1) := by decide +kernel
theorem dL_law_78 : decode cL_law 78 = .ok (.ishr, 1) := by decide +kernel
theorem dL_law_79 : decode cL_law 79 = .ok (.bipush 15, 2) := by decide +kernel
theorem dL_law_81 : decode cL_law 81 = .ok (.iand, 1) := by decide +kernel
theorem dL_law_82 : decode cL_law 82 = .ok (.invokestatic 124, 3) := by decide +kernel
theorem dL_law_85 : decode cL_law 85 = .ok (.pop, 1) := by decide +kernel
theorem dL_law_86 : decode cL_law 86 = .ok (.iinc 3 1, 3) := by decide +kernel
theorem dL_law_89 : decode cL_law 89 = .ok (.goto (-27), 3) := by decide +kernel
theorem dL_law_92 : decode cL_law 92 = .ok (.iinc 2 1, 3) := by decide +kernel
theorem dL_law_95 : decode cL_law 95 = .ok (.goto (-85), 3) := by decide +kernel
theorem dL_law_98 : decode cL_law 98 = .ok (.aload_n 1, 1) := by decide +kernel
theorem dL_law_99 : decode cL_law 99 = .ok (.iconst 1, 1) := by decide +kernel
theorem dL_law_100 : decode cL_law 100 = .ok (.aload_n 0, 1) := by decide +kernel
theorem dL_law_101 : decode cL_law 101 = .ok (.iconst 0, 1) := by decide +kernel
theorem dL_law_102 : decode cL_law 102 = .ok (.invokestatic 293, 3) := by decide +kernel
theorem dL_law_105 : decode cL_law 105 = .ok (.iconst 3, 1) := by decide +kernel
theorem dL_law_106 : decode cL_law 106 = .ok (.ishr, 1) := by decide +kernel
theorem dL_law_107 : decode cL_law 107 = .ok (.iconst 1, 1) := by decide +kernel
theorem dL_law_108 : decode cL_law 108 = .ok (.iand, 1) := by decide +kernel
theorem dL_law_109 : decode cL_law 109 = .ok (.iadd, 1) := by decide +kernel
theorem dL_law_110 : decode cL_law 110 = .ok (.invokestatic 135, 3) := by decide +kernel
theorem dL_law_113 : decode cL_law 113 = .ok (.pop, 1) := by decide +kernel
theorem dL_law_114 : decode cL_law 114 = .ok (.aload_n 0, 1) := by decide +kernel
theorem dL_law_115 : decode cL_law 115 = .ok (.arraylength, 1) := by decide +kernel
theorem dL_law_116 : decode cL_law 116 = .ok (.bipush 36, 2) := by decide +kernel
theorem dL_law_118 : decode cL_law 118 = .ok (.if_icmp .ge 8, 3) := by decide +kernel
theorem dL_law_121 : decode cL_law 121 = .ok (.aload_n 0, 1) := by decide +kernel
theorem dL_law_122 : decode cL_law 122 = .ok (.arraylength, 1) := by decide +kernel
theorem dL_law_123 : decode cL_law 123 = .ok (.goto 5, 3) := by decide +kernel
theorem dL_law_126 : decode cL_law 126 = .ok (.bipush 36, 2) := by decide +kernel
theorem dL_law_128 : decode cL_law 128 = .ok (.istore_n 2, 1) := by decide +kernel
theorem dL_law_129 : decode cL_law 129 = .ok (.iconst 0, 1) := by decide +kernel
theorem dL_law_130 : decode cL_law 130 = .ok (.istore_n 3, 1) := by decide +kernel
theorem dL_law_131 : decode cL_law 131 = .ok (.iload_n 3, 1) := by decide +kernel
theorem dL_law_132 : decode cL_law 132 = .ok (.iload_n 2, 1) := by decide +kernel
theorem dL_law_133 : decode cL_law 133 = .ok (.if_icmp .ge 41, 3) := by decide +kernel
theorem dL_law_136 : decode cL_law 136 = .ok (.aload_n 1, 1) := by decide +kernel
theorem dL_law_137 : decode cL_law 137 = .ok (.invokestatic 268, 3) := by decide +kernel
theorem dL_law_140 : decode cL_law 140 = .ok (.lstore 4, 2) := by decide +kernel
theorem dL_law_142 : decode cL_law 142 = .ok (.aload_n 1, 1) := by decide +kernel
theorem dL_law_143 : decode cL_law 143 = .ok (.aload_n 0, 1) := by decide +kernel
theorem dL_law_144 : decode cL_law 144 = .ok (.iload_n 3, 1) := by decide +kernel
theorem dL_law_145 : decode cL_law 145 = .ok (.invokestatic 293, 3) := by decide +kernel
theorem dL_law_148 : decode cL_law 148 = .ok (.invokestatic 297, 3) := by decide +kernel
theorem dL_law_151 : decode cL_law 151 = .ok (.ldc 10, 2) := by decide +kernel
theorem dL_law_153 : decode cL_law 153 = .ok (.if_icmp .ne 15, 3) := by decide +kernel
theorem dL_law_156 : decode cL_law 156 = .ok (.aload_n 1, 1) := by decide +kernel
theorem dL_law_157 : decode cL_law 157 = .ok (.invokestatic 268, 3) := by decide +kernel
theorem dL_law_160 : decode cL_law 160 = .ok (.lload 4, 2) := by decide +kernel
theorem dL_law_162 : decode cL_law 162 = .ok (.lcmp, 1) := by decide +kernel
theorem dL_law_163 : decode cL_law 163 = .ok (.ifCond .eq 5, 3) := by decide +kernel
theorem dL_law_166 : decode cL_law 166 = .ok (.iconst 0, 1) := by decide +kernel
theorem dL_law_167 : decode cL_law 167 = .ok (.ireturn, 1) := by decide +kernel
theorem dL_law_168 : decode cL_law 168 = .ok (.iinc 3 1, 3) := by decide +kernel
theorem dL_law_171 : decode cL_law 171 = .ok (.goto (-40), 3) := by decide +kernel
theorem dL_law_174 : decode cL_law 174 = .ok (.aload_n 1, 1) := by decide +kernel
theorem dL_law_175 : decode cL_law 175 = .ok (.invokestatic 300, 3) := by decide +kernel
theorem dL_law_178 : decode cL_law 178 = .ok (.istore_n 3, 1) := by decide +kernel
theorem dL_law_179 : decode cL_law 179 = .ok (.aload_n 1, 1) := by decide +kernel
theorem dL_law_180 : decode cL_law 180 = .ok (.invokestatic 148, 3) := by decide +kernel
theorem dL_law_183 : decode cL_law 183 = .ok (.pop, 1) := by decide +kernel
theorem dL_law_184 : decode cL_law 184 = .ok (.aload_n 1, 1) := by decide +kernel
theorem dL_law_185 : decode cL_law 185 = .ok (.invokestatic 268, 3) := by decide +kernel
theorem dL_law_188 : decode cL_law 188 = .ok (.lstore 4, 2) := by decide +kernel
theorem dL_law_190 : decode cL_law 190 = .ok (.aload_n 1, 1) := by decide +kernel
theorem dL_law_191 : decode cL_law 191 = .ok (.invokevirtual 150, 3) := by decide +kernel
theorem dL_law_194 : decode cL_law 194 = .ok (.istore 6, 2) := by decide +kernel
theorem dL_law_196 : decode cL_law 196 = .ok (.iconst 0, 1) := by decide +kernel
theorem dL_law_197 : decode cL_law 197 = .ok (.istore 7, 2) := by decide +kernel
theorem dL_law_199 : decode cL_law 199 = .ok (.iload_n 3, 1) := by decide +kernel
theorem dL_law_200 : decode cL_law 200 = .ok (.ifCond .eq 80, 3) := by decide +kernel
theorem dL_law_203 : decode cL_law 203 = .ok (.iload 7, 2) := by decide +kernel
theorem dL_law_205 : decode cL_law 205 = .ok (.getstatic 140, 3) := by decide +kernel
theorem dL_law_208 : decode cL_law 208 = .ok (.arraylength, 1) := by decide +kernel
theorem dL_law_209 : decode cL_law 209 = .ok (.if_icmp .ge 71, 3) := by decide +kernel
theorem dL_law_212 : decode cL_law 212 = .ok (.aload_n 1, 1) := by decide +kernel
theorem dL_law_213 : decode cL_law 213 = .ok (.getstatic 140, 3) := by decide +kernel
theorem dL_law_216 : decode cL_law 216 = .ok (.iload 7, 2) := by decide +kernel
theorem dL_law_218 : decode cL_law 218 = .ok (.aaload, 1) := by decide +kernel
theorem dL_law_219 : decode cL_law 219 = .ok (.invokestatic 144, 3) := by decide +kernel
theorem dL_law_222 : decode cL_law 222 = .ok (.invokestatic 148, 3) := by decide +kernel
theorem dL_law_225 : decode cL_law 225 = .ok (.istore 8, 2) := by decide +kernel
theorem dL_law_227 : decode cL_law 227 = .ok (.iload 8, 2) := by decide +kernel
theorem dL_law_229 : decode cL_law 229 = .ok (.ldc 10, 2) := by decide +kernel
theorem dL_law_231 : decode cL_law 231 = .ok (.if_icmp .ne 13, 3) := by decide +kernel
theorem dL_law_234 : decode cL_law 234 = .ok (.aload_n 1, 1) := by decide +kernel
theorem dL_law_235 : decode cL_law 235 = .ok (.invokestatic 303, 3) := by decide +kernel
theorem dL_law_238 : decode cL_law 238 = .ok (.ifCond .lt 34, 3) := by decide +kernel
theorem dL_law_241 : decode cL_law 241 = .ok (.goto 17, 3) := by decide +kernel
theorem dL_law_244 : decode cL_law 244 = .ok (.aload_n 1, 1) := by decide +kernel
theorem dL_law_245 : decode cL_law 245 = .ok (.invokestatic 275, 3) := by decide +kernel
theorem dL_law_248 : decode cL_law 248 = .ok (.ifCond .eq 24, 3) := by decide +kernel
theorem dL_law_251 : decode cL_law 251 = .ok (.aload_n 1, 1) := by decide +kernel
theorem dL_law_252 : decode cL_law 252 = .ok (.invokestatic 155, 3) := by decide +kernel
theorem dL_law_255 : decode cL_law 255 = .ok (.ifCond .lt 17, 3) := by decide +kernel
theorem dL_law_258 : decode cL_law 258 = .ok (.aload_n 1, 1) := by decide +kernel
theorem dL_law_259 : decode cL_law 259 = .ok (.invokestatic 268, 3) := by decide +kernel
theorem dL_law_262 : decode cL_law 262 = .ok (.lload 4, 2) := by decide +kernel
theorem dL_law_264 : decode cL_law 264 = .ok (.lcmp, 1) := by decide +kernel
theorem dL_law_265 : decode cL_law 265 = .ok (.ifCond .ne 7, 3) := by decide +kernel
theorem dL_law_268 : decode cL_law 268 = .ok (.iconst 1, 1) := by decide +kernel
theorem dL_law_269 : decode cL_law 269 = .ok (.goto 4, 3) := by decide +kernel
theorem dL_law_272 : decode cL_law 272 = .ok (.iconst 0, 1) := by decide +kernel
theorem dL_law_273 : decode cL_law 273 = .ok (.istore_n 3, 1) := by decide +kernel
theorem dL_law_274 : decode cL_law 274 = .ok (.iinc 7 1, 3) := by decide +kernel
theorem dL_law_277 : decode cL_law 277 = .ok (.goto (-78), 3) := by decide +kernel
theorem dL_law_280 : decode cL_law 280 = .ok (.iconst 0, 1) := by decide +kernel
theorem dL_law_281 : decode cL_law 281 = .ok (.istore 7, 2) := by decide +kernel
theorem dL_law_283 : decode cL_law 283 = .ok (.iload_n 3, 1) := by decide +kernel
theorem dL_law_284 : decode cL_law 284 = .ok (.ifCond .eq 78, 3) := by decide +kernel
theorem dL_law_287 : decode cL_law 287 = .ok (.iload 7, 2) := by decide +kernel
theorem dL_law_289 : decode cL_law 289 = .ok (.iconst 2, 1) := by decide +kernel
theorem dL_law_290 : decode cL_law 290 = .ok (.if_icmp .ge 72, 3) := by decide +kernel
theorem dL_law_293 : decode cL_law 293 = .ok (.aload_n 1, 1) := by decide +kernel
theorem dL_law_294 : decode cL_law 294 = .ok (.iload 7, 2) := by decide +kernel
theorem dL_law_296 : decode cL_law 296 = .ok (.iconst 3, 1) := by decide +kernel
theorem dL_law_297 : decode cL_law 297 = .ok (.bipush 7, 2) := by decide +kernel
theorem dL_law_299 : decode cL_law 299 = .ok (.invokestatic 124, 3) := by decide +kernel
theorem dL_law_302 : decode cL_law 302 = .ok (.pop, 1) := by decide +kernel
theorem dL_law_303 : decode cL_law 303 = .ok (.aload_n 1, 1) := by decide +kernel
theorem dL_law_304 : decode cL_law 304 = .ok (.iload 7, 2) := by decide +kernel
theorem dL_law_306 : decode cL_law 306 = .ok (.aload_n 1, 1) := by decide +kernel
theorem dL_law_307 : decode cL_law 307 = .ok (.invokevirtual 115, 3) := by decide +kernel
theorem dL_law_310 : decode cL_law 310 = .ok (.bipush 7, 2) := by decide +kernel
theorem dL_law_312 : decode cL_law 312 = .ok (.irem, 1) := by decide +kernel
theorem dL_law_313 : decode cL_law 313 = .ok (.invokestatic 127, 3) := by decide +kernel
theorem dL_law_316 : decode cL_law 316 = .ok (.pop, 1) := by decide +kernel
theorem dL_law_317 : decode cL_law 317 = .ok (.aload_n 1, 1) := by decide +kernel
theorem dL_law_318 : decode cL_law 318 = .ok (.iload 7, 2) := by decide +kernel
theorem dL_law_320 : decode cL_law 320 = .ok (.iconst 4, 1) := by decide +kernel
theorem dL_law_321 : decode cL_law 321 = .ok (.iload 7, 2) := by decide +kernel
theorem dL_law_323 : decode cL_law 323 = .ok (.isub, 1) := by decide +kernel
theorem dL_law_324 : decode cL_law 324 = .ok (.aload_n 1, 1) := by decide +kernel
theorem dL_law_325 : decode cL_law 325 = .ok (.invokevirtual 115, 3) := by decide +kernel
theorem dL_law_328 : decode cL_law 328 = .ok (.bipush 7, 2) := by decide +kernel
theorem dL_law_330 : decode cL_law 330 = .ok (.irem, 1) := by decide +kernel
theorem dL_law_331 : decode cL_law 331 = .ok (.invokestatic 131, 3) := by decide +kernel
theorem dL_law_334 : decode cL_law 334 = .ok (.pop, 1) := by decide +kernel
theorem dL_law_335 : decode cL_law 335 = .ok (.aload_n 1, 1) := by decide +kernel
theorem dL_law_336 : decode cL_law 336 = .ok (.iconst 3, 1) := by decide +kernel
theorem dL_law_337 : decode cL_law 337 = .ok (.iload 7, 2) := by decide +kernel
theorem dL_law_339 : decode cL_law 339 = .ok (.isub, 1) := by decide +kernel
theorem dL_law_340 : decode cL_law 340 = .ok (.invokestatic 135, 3) := by decide +kernel
theorem dL_law_343 : decode cL_law 343 = .ok (.pop, 1) := by decide +kernel
theorem dL_law_344 : decode cL_law 344 = .ok (.aload_n 1, 1) := by decide +kernel
theorem dL_law_345 : decode cL_law 345 = .ok (.bipush 23, 2) := by decide +kernel
theorem dL_law_347 : decode cL_law 347 = .ok (.invokestatic 138, 3) := by decide +kernel
theorem dL_law_350 : decode cL_law 350 = .ok (.pop, 1) := by decide +kernel
theorem dL_law_351 : decode cL_law 351 = .ok (.aload_n 1, 1) := by decide +kernel
theorem dL_law_352 : decode cL_law 352 = .ok (.invokestatic 300, 3) := by decide +kernel
theorem dL_law_355 : decode cL_law 355 = .ok (.istore_n 3, 1) := by decide +kernel
theorem dL_law_356 : decode cL_law 356 = .ok (.iinc 7 1, 3) := by decide +kernel
theorem dL_law_359 : decode cL_law 359 = .ok (.goto (-76), 3) := by decide +kernel
theorem dL_law_362 : decode cL_law 362 = .ok (.iload_n 3, 1) := by decide +kernel
theorem dL_law_363 : decode cL_law 363 = .ok (.ifCond .eq 35, 3) := by decide +kernel
theorem dL_law_366 : decode cL_law 366 = .ok (.aload_n 1, 1) := by decide +kernel
theorem dL_law_367 : decode cL_law 367 = .ok (.invokestatic 153, 3) := by decide +kernel
theorem dL_law_370 : decode cL_law 370 = .ok (.iload 6, 2) := by decide +kernel
theorem dL_law_372 : decode cL_law 372 = .ok (.if_icmp .ne 26, 3) := by decide +kernel
theorem dL_law_375 : decode cL_law 375 = .ok (.aload_n 1, 1) := by decide +kernel
theorem dL_law_376 : decode cL_law 376 = .ok (.invokestatic 268, 3) := by decide +kernel
theorem dL_law_379 : decode cL_law 379 = .ok (.lload 4, 2) := by decide +kernel
theorem dL_law_381 : decode cL_law 381 = .ok (.lcmp, 1) := by decide +kernel
theorem dL_law_382 : decode cL_law 382 = .ok (.ifCond .ne 16, 3) := by decide +kernel
theorem dL_law_385 : decode cL_law 385 = .ok (.aload_n 1, 1) := by decide +kernel
theorem dL_law_386 : decode cL_law 386 = .ok (.invokestatic 155, 3) := by decide +kernel
theorem dL_law_389 : decode cL_law 389 = .ok (.ldc 10, 2) := by decide +kernel
theorem dL_law_391 : decode cL_law 391 = .ok (.if_icmp .ne 7, 3) := by decide +kernel
theorem dL_law_394 : decode cL_law 394 = .ok (.iconst 1, 1) := by decide +kernel
theorem dL_law_395 : decode cL_law 395 = .ok (.goto 4, 3) := by decide +kernel
theorem dL_law_398 : decode cL_law 398 = .ok (.iconst 0, 1) := by decide +kernel
theorem dL_law_399 : decode cL_law 399 = .ok (.ireturn, 1) := by decide +kernel
