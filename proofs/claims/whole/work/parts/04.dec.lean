theorem dX12_init_0 : decode cX12_init 0 = .ok (.aload_n 0, 1) := by decide +kernel
theorem dX12_init_1 : decode cX12_init 1 = .ok (.invokespecial 1, 3) := by decide +kernel
theorem dX12_init_4 : decode cX12_init 4 = .ok (.aload_n 0, 1) := by decide +kernel
theorem dX12_init_5 : decode cX12_init 5 = .ok (.bipush 6, 2) := by decide +kernel
theorem dX12_init_7 : decode cX12_init 7 = .ok (.newarray .int, 2) := by decide +kernel
theorem dX12_init_9 : decode cX12_init 9 = .ok (.putfield 7, 3) := by decide +kernel
theorem dX12_init_12 : decode cX12_init 12 = .ok (.aload_n 0, 1) := by decide +kernel
theorem dX12_init_13 : decode cX12_init 13 = .ok (.bipush 40, 2) := by decide +kernel
theorem dX12_init_15 : decode cX12_init 15 = .ok (.newarray .int, 2) := by decide +kernel
theorem dX12_init_17 : decode cX12_init 17 = .ok (.putfield 13, 3) := by decide +kernel
theorem dX12_init_20 : decode cX12_init 20 = .ok (.aload_n 0, 1) := by decide +kernel
theorem dX12_init_21 : decode cX12_init 21 = .ok (.bipush 40, 2) := by decide +kernel
theorem dX12_init_23 : decode cX12_init 23 = .ok (.newarray .int, 2) := by decide +kernel
theorem dX12_init_25 : decode cX12_init 25 = .ok (.putfield 16, 3) := by decide +kernel
theorem dX12_init_28 : decode cX12_init 28 = .ok (.aload_n 0, 1) := by decide +kernel
theorem dX12_init_29 : decode cX12_init 29 = .ok (.bipush 40, 2) := by decide +kernel
theorem dX12_init_31 : decode cX12_init 31 = .ok (.newarray .int, 2) := by decide +kernel
theorem dX12_init_33 : decode cX12_init 33 = .ok (.putfield 19, 3) := by decide +kernel
theorem dX12_init_36 : decode cX12_init 36 = .ok (.aload_n 0, 1) := by decide +kernel
theorem dX12_init_37 : decode cX12_init 37 = .ok (.bipush 40, 2) := by decide +kernel
theorem dX12_init_39 : decode cX12_init 39 = .ok (.newarray .int, 2) := by decide +kernel
theorem dX12_init_41 : decode cX12_init 41 = .ok (.putfield 22, 3) := by decide +kernel
theorem dX12_init_44 : decode cX12_init 44 = .ok (.aload_n 0, 1) := by decide +kernel
theorem dX12_init_45 : decode cX12_init 45 = .ok (.bipush 40, 2) := by decide +kernel
theorem dX12_init_47 : decode cX12_init 47 = .ok (.newarray .int, 2) := by decide +kernel
theorem dX12_init_49 : decode cX12_init 49 = .ok (.putfield 25, 3) := by decide +kernel
theorem dX12_init_52 : decode cX12_init 52 = .ok (.aload_n 0, 1) := by decide +kernel
theorem dX12_init_53 : decode cX12_init 53 = .ok (.bipush 16, 2) := by decide +kernel
theorem dX12_init_55 : decode cX12_init 55 = .ok (.bipush 16, 2) := by decide +kernel
theorem dX12_init_57 : decode cX12_init 57 = .ok (.multianewarray 28 2, 4) := by decide +kernel
theorem dX12_init_61 : decode cX12_init 61 = .ok (.putfield 30, 3) := by decide +kernel
theorem dX12_init_64 : decode cX12_init 64 = .ok (.aload_n 0, 1) := by decide +kernel
theorem dX12_init_65 : decode cX12_init 65 = .ok (.bipush 40, 2) := by decide +kernel
theorem dX12_init_67 : decode cX12_init 67 = .ok (.newarray .boolean, 2) := by decide +kernel
theorem dX12_init_69 : decode cX12_init 69 = .ok (.putfield 33, 3) := by decide +kernel
theorem dX12_init_72 : decode cX12_init 72 = .ok (.aload_n 0, 1) := by decide +kernel
theorem dX12_init_73 : decode cX12_init 73 = .ok (.bipush 60, 2) := by decide +kernel
theorem dX12_init_75 : decode cX12_init 75 = .ok (.newarray .int, 2) := by decide +kernel
theorem dX12_init_77 : decode cX12_init 77 = .ok (.putfield 37, 3) := by decide +kernel
theorem dX12_init_80 : decode cX12_init 80 = .ok (.aload_n 0, 1) := by decide +kernel
theorem dX12_init_81 : decode cX12_init 81 = .ok (.bipush 60, 2) := by decide +kernel
theorem dX12_init_83 : decode cX12_init 83 = .ok (.newarray .int, 2) := by decide +kernel
theorem dX12_init_85 : decode cX12_init 85 = .ok (.putfield 40, 3) := by decide +kernel
theorem dX12_init_88 : decode cX12_init 88 = .ok (.aload_n 0, 1) := by decide +kernel
theorem dX12_init_89 : decode cX12_init 89 = .ok (.bipush 60, 2) := by decide +kernel
theorem dX12_init_91 : decode cX12_init 91 = .ok (.newarray .int, 2) := by decide +kernel
theorem dX12_init_93 : decode cX12_init 93 = .ok (.putfield 43, 3) := by decide +kernel
theorem dX12_init_96 : decode cX12_init 96 = .ok (.aload_n 0, 1) := by decide +kernel
theorem dX12_init_97 : decode cX12_init 97 = .ok (.bipush 60, 2) := by decide +kernel
theorem dX12_init_99 : decode cX12_init 99 = .ok (.newarray .int, 2) := by decide +kernel
theorem dX12_init_101 : decode cX12_init 101 = .ok (.putfield 46, 3) := by decide +kernel
theorem dX12_init_104 : decode cX12_init 104 = .ok (.aload_n 0, 1) := by decide +kernel
theorem dX12_init_105 : decode cX12_init 105 = .ok (.bipush 60, 2) := by decide +kernel
theorem dX12_init_107 : decode cX12_init 107 = .ok (.newarray .int, 2) := by decide +kernel
theorem dX12_init_109 : decode cX12_init 109 = .ok (.putfield 49, 3) := by decide +kernel
theorem dX12_init_112 : decode cX12_init 112 = .ok (.aload_n 0, 1) := by decide +kernel
theorem dX12_init_113 : decode cX12_init 113 = .ok (.bipush 40, 2) := by decide +kernel
theorem dX12_init_115 : decode cX12_init 115 = .ok (.newarray .int, 2) := by decide +kernel
theorem dX12_init_117 : decode cX12_init 117 = .ok (.putfield 52, 3) := by decide +kernel
theorem dX12_init_120 : decode cX12_init 120 = .ok (.aload_n 0, 1) := by decide +kernel
theorem dX12_init_121 : decode cX12_init 121 = .ok (.bipush 40, 2) := by decide +kernel
theorem dX12_init_123 : decode cX12_init 123 = .ok (.newarray .int, 2) := by decide +kernel
theorem dX12_init_125 : decode cX12_init 125 = .ok (.putfield 55, 3) := by decide +kernel
theorem dX12_init_128 : decode cX12_init 128 = .ok (.aload_n 0, 1) := by decide +kernel
theorem dX12_init_129 : decode cX12_init 129 = .ok (.bipush 40, 2) := by decide +kernel
theorem dX12_init_131 : decode cX12_init 131 = .ok (.newarray .int, 2) := by decide +kernel
theorem dX12_init_133 : decode cX12_init 133 = .ok (.putfield 58, 3) := by decide +kernel
theorem dX12_init_136 : decode cX12_init 136 = .ok (.aload_n 0, 1) := by decide +kernel
theorem dX12_init_137 : decode cX12_init 137 = .ok (.bipush 40, 2) := by decide +kernel
theorem dX12_init_139 : decode cX12_init 139 = .ok (.newarray .int, 2) := by decide +kernel
theorem dX12_init_141 : decode cX12_init 141 = .ok (.putfield 61, 3) := by decide +kernel
theorem dX12_init_144 : decode cX12_init 144 = .ok (.aload_n 0, 1) := by decide +kernel
theorem dX12_init_145 : decode cX12_init 145 = .ok (.bipush 40, 2) := by decide +kernel
theorem dX12_init_147 : decode cX12_init 147 = .ok (.newarray .int, 2) := by decide +kernel
theorem dX12_init_149 : decode cX12_init 149 = .ok (.putfield 64, 3) := by decide +kernel
theorem dX12_init_152 : decode cX12_init 152 = .ok (.aload_n 0, 1) := by decide +kernel
theorem dX12_init_153 : decode cX12_init 153 = .ok (.bipush 40, 2) := by decide +kernel
theorem dX12_init_155 : decode cX12_init 155 = .ok (.newarray .int, 2) := by decide +kernel
theorem dX12_init_157 : decode cX12_init 157 = .ok (.putfield 67, 3) := by decide +kernel
theorem dX12_init_160 : decode cX12_init 160 = .ok (.aload_n 0, 1) := by decide +kernel
theorem dX12_init_161 : decode cX12_init 161 = .ok (.bipush 6, 2) := by decide +kernel
theorem dX12_init_163 : decode cX12_init 163 = .ok (.newarray .int, 2) := by decide +kernel
theorem dX12_init_165 : decode cX12_init 165 = .ok (.putfield 70, 3) := by decide +kernel
theorem dX12_init_168 : decode cX12_init 168 = .ok (.aload_n 0, 1) := by decide +kernel
theorem dX12_init_169 : decode cX12_init 169 = .ok (.bipush 6, 2) := by decide +kernel
theorem dX12_init_171 : decode cX12_init 171 = .ok (.newarray .int, 2) := by decide +kernel
theorem dX12_init_173 : decode cX12_init 173 = .ok (.putfield 73, 3) := by decide +kernel
theorem dX12_init_176 : decode cX12_init 176 = .ok (.aload_n 0, 1) := by decide +kernel
theorem dX12_init_177 : decode cX12_init 177 = .ok (.bipush 7, 2) := by decide +kernel
theorem dX12_init_179 : decode cX12_init 179 = .ok (.bipush 11, 2) := by decide +kernel
theorem dX12_init_181 : decode cX12_init 181 = .ok (.multianewarray 76 2, 4) := by decide +kernel
theorem dX12_init_185 : decode cX12_init 185 = .ok (.putfield 78, 3) := by decide +kernel
theorem dX12_init_188 : decode cX12_init 188 = .ok (.aload_n 0, 1) := by decide +kernel
theorem dX12_init_189 : decode cX12_init 189 = .ok (.sipush 300, 3) := by decide +kernel
theorem dX12_init_192 : decode cX12_init 192 = .ok (.newarray .byte, 2) := by decide +kernel
theorem dX12_init_194 : decode cX12_init 194 = .ok (.putfield 81, 3) := by decide +kernel
theorem dX12_init_197 : decode cX12_init 197 = .ok (.aload_n 0, 1) := by decide +kernel
theorem dX12_init_198 : decode cX12_init 198 = .ok (.bipush 60, 2) := by decide +kernel
theorem dX12_init_200 : decode cX12_init 200 = .ok (.newarray .int, 2) := by decide +kernel
theorem dX12_init_202 : decode cX12_init 202 = .ok (.putfield 85, 3) := by decide +kernel
theorem dX12_init_205 : decode cX12_init 205 = .ok (.aload_n 0, 1) := by decide +kernel
theorem dX12_init_206 : decode cX12_init 206 = .ok (.bipush 8, 2) := by decide +kernel
theorem dX12_init_208 : decode cX12_init 208 = .ok (.newarray .int, 2) := by decide +kernel
theorem dX12_init_210 : decode cX12_init 210 = .ok (.putfield 88, 3) := by decide +kernel
theorem dX12_init_213 : decode cX12_init 213 = .ok (.aload_n 0, 1) := by decide +kernel
theorem dX12_init_214 : decode cX12_init 214 = .ok (.bipush 8, 2) := by decide +kernel
theorem dX12_init_216 : decode cX12_init 216 = .ok (.newarray .int, 2) := by decide +kernel
theorem dX12_init_218 : decode cX12_init 218 = .ok (.putfield 91, 3) := by decide +kernel
theorem dX12_init_221 : decode cX12_init 221 = .ok (.aload_n 0, 1) := by decide +kernel
theorem dX12_init_222 : decode cX12_init 222 = .ok (.bipush 8, 2) := by decide +kernel
theorem dX12_init_224 : decode cX12_init 224 = .ok (.newarray .int, 2) := by decide +kernel
theorem dX12_init_226 : decode cX12_init 226 = .ok (.putfield 94, 3) := by decide +kernel
theorem dX12_init_229 : decode cX12_init 229 = .ok (.aload_n 0, 1) := by decide +kernel
theorem dX12_init_230 : decode cX12_init 230 = .ok (.bipush 8, 2) := by decide +kernel
theorem dX12_init_232 : decode cX12_init 232 = .ok (.newarray .int, 2) := by decide +kernel
theorem dX12_init_234 : decode cX12_init 234 = .ok (.putfield 97, 3) := by decide +kernel
theorem dX12_init_237 : decode cX12_init 237 = .ok (.aload_n 0, 1) := by decide +kernel
theorem dX12_init_238 : decode cX12_init 238 = .ok (.bipush 8, 2) := by decide +kernel
theorem dX12_init_240 : decode cX12_init 240 = .ok (.newarray .int, 2) := by decide +kernel
theorem dX12_init_242 : decode cX12_init 242 = .ok (.putfield 100, 3) := by decide +kernel
theorem dX12_init_245 : decode cX12_init 245 = .ok (.aload_n 0, 1) := by decide +kernel
theorem dX12_init_246 : decode cX12_init 246 = .ok (.bipush 8, 2) := by decide +kernel
theorem dX12_init_248 : decode cX12_init 248 = .ok (.newarray .int, 2) := by decide +kernel
theorem dX12_init_250 : decode cX12_init 250 = .ok (.putfield 103, 3) := by decide +kernel
theorem dX12_init_253 : decode cX12_init 253 = .ok (.aload_n 0, 1) := by decide +kernel
theorem dX12_init_254 : decode cX12_init 254 = .ok (.bipush 8, 2) := by decide +kernel
theorem dX12_init_256 : decode cX12_init 256 = .ok (.newarray .int, 2) := by decide +kernel
theorem dX12_init_258 : decode cX12_init 258 = .ok (.putfield 106, 3) := by decide +kernel
theorem dX12_init_261 : decode cX12_init 261 = .ok (.aload_n 0, 1) := by decide +kernel
theorem dX12_init_262 : decode cX12_init 262 = .ok (.bipush 8, 2) := by decide +kernel
theorem dX12_init_264 : decode cX12_init 264 = .ok (.bipush 60, 2) := by decide +kernel
theorem dX12_init_266 : decode cX12_init 266 = .ok (.multianewarray 76 2, 4) := by decide +kernel
theorem dX12_init_270 : decode cX12_init 270 = .ok (.putfield 109, 3) := by decide +kernel
theorem dX12_init_273 : decode cX12_init 273 = .ok (.aload_n 0, 1) := by decide +kernel
theorem dX12_init_274 : decode cX12_init 274 = .ok (.bipush 40, 2) := by decide +kernel
theorem dX12_init_276 : decode cX12_init 276 = .ok (.newarray .int, 2) := by decide +kernel
theorem dX12_init_278 : decode cX12_init 278 = .ok (.putfield 112, 3) := by decide +kernel
theorem dX12_init_281 : decode cX12_init 281 = .ok (.aload_n 0, 1) := by decide +kernel
theorem dX12_init_282 : decode cX12_init 282 = .ok (.bipush 8, 2) := by decide +kernel
theorem dX12_init_284 : decode cX12_init 284 = .ok (.bipush 7, 2) := by decide +kernel
theorem dX12_init_286 : decode cX12_init 286 = .ok (.multianewarray 28 2, 4) := by decide +kernel
theorem dX12_init_290 : decode cX12_init 290 = .ok (.putfield 115, 3) := by decide +kernel
theorem dX12_init_293 : decode cX12_init 293 = .ok (.aload_n 0, 1) := by decide +kernel
theorem dX12_init_294 : decode cX12_init 294 = .ok (.bipush 8, 2) := by decide +kernel
theorem dX12_init_296 : decode cX12_init 296 = .ok (.bipush 60, 2) := by decide +kernel
theorem dX12_init_298 : decode cX12_init 298 = .ok (.multianewarray 28 2, 4) := by decide +kernel
theorem dX12_init_302 : decode cX12_init 302 = .ok (.putfield 118, 3) := by decide +kernel
theorem dX12_init_305 : decode cX12_init 305 = .ok (.aload_n 0, 1) := by decide +kernel
theorem dX12_init_306 : decode cX12_init 306 = .ok (.bipush 8, 2) := by decide +kernel
theorem dX12_init_308 : decode cX12_init 308 = .ok (.newarray .int, 2) := by decide +kernel
theorem dX12_init_310 : decode cX12_init 310 = .ok (.putfield 121, 3) := by decide +kernel
theorem dX12_init_313 : decode cX12_init 313 = .ok (.iconst 0, 1) := by decide +kernel
theorem dX12_init_314 : decode cX12_init 314 = .ok (.istore_n 1, 1) := by decide +kernel
theorem dX12_init_315 : decode cX12_init 315 = .ok (.iload_n 1, 1) := by decide +kernel
theorem dX12_init_316 : decode cX12_init 316 = .ok (.bipush 6, 2) := by decide +kernel
theorem dX12_init_318 : decode cX12_init 318 = .ok (.if_icmp .ge 16, 3) := by decide +kernel
theorem dX12_init_321 : decode cX12_init 321 = .ok (.aload_n 0, 1) := by decide +kernel
theorem dX12_init_322 : decode cX12_init 322 = .ok (.getfield 7, 3) := by decide +kernel
theorem dX12_init_325 : decode cX12_init 325 = .ok (.iload_n 1, 1) := by decide +kernel
theorem dX12_init_326 : decode cX12_init 326 = .ok (.iconst 5, 1) := by decide +kernel
theorem dX12_init_327 : decode cX12_init 327 = .ok (.iastore, 1) := by decide +kernel
theorem dX12_init_328 : decode cX12_init 328 = .ok (.iinc 1 1, 3) := by decide +kernel
theorem dX12_init_331 : decode cX12_init 331 = .ok (.goto (-16), 3) := by decide +kernel
theorem dX12_init_334 : decode cX12_init 334 = .ok (.return_, 1) := by decide +kernel
theorem dX12_in_0 : decode cX12_in 0 = .ok (.iload_n 0, 1) := by decide +kernel
theorem dX12_in_1 : decode cX12_in 1 = .ok (.iload_n 1, 1) := by decide +kernel
theorem dX12_in_2 : decode cX12_in 2 = .ok (.if_icmp .lt 12, 3) := by decide +kernel
theorem dX12_in_5 : decode cX12_in 5 = .ok (.iload_n 0, 1) := by decide +kernel
theorem dX12_in_6 : decode cX12_in 6 = .ok (.iload_n 2, 1) := by decide +kernel
theorem dX12_in_7 : decode cX12_in 7 = .ok (.if_icmp .gt 7, 3) := by decide +kernel
theorem dX12_in_10 : decode cX12_in 10 = .ok (.iconst 1, 1) := by decide +kernel
theorem dX12_in_11 : decode cX12_in 11 = .ok (.goto 4, 3) := by decide +kernel
theorem dX12_in_14 : decode cX12_in 14 = .ok (.iconst 0, 1) := by decide +kernel
theorem dX12_in_15 : decode cX12_in 15 = .ok (.ireturn, 1) := by decide +kernel
theorem dX12_clock_0 : decode cX12_clock 0 = .ok (.iload_n 1, 1) := by decide +kernel
theorem dX12_clock_1 : decode cX12_clock 1 = .ok (.aload_n 0, 1) := by decide +kernel
theorem dX12_clock_2 : decode cX12_clock 2 = .ok (.getfield 128, 3) := by decide +kernel
theorem dX12_clock_5 : decode cX12_clock 5 = .ok (.sipush 5000, 3) := by decide +kernel
theorem dX12_clock_8 : decode cX12_clock 8 = .ok (.invokestatic 131, 3) := by decide +kernel
theorem dX12_clock_11 : decode cX12_clock 11 = .ok (.ifCond .ne 5, 3) := by decide +kernel
theorem dX12_clock_14 : decode cX12_clock 14 = .ok (.iconst 0, 1) := by decide +kernel
theorem dX12_clock_15 : decode cX12_clock 15 = .ok (.ireturn, 1) := by decide +kernel
theorem dX12_clock_16 : decode cX12_clock 16 = .ok (.aload_n 0, 1) := by decide +kernel
theorem dX12_clock_17 : decode cX12_clock 17 = .ok (.iload_n 1, 1) := by decide +kernel
theorem dX12_clock_18 : decode cX12_clock 18 = .ok (.putfield 128, 3) := by decide +kernel
theorem dX12_clock_21 : decode cX12_clock 21 = .ok (.iconst 1, 1) := by decide +kernel
theorem dX12_clock_22 : decode cX12_clock 22 = .ok (.ireturn, 1) := by decide +kernel
theorem dX12_trust_0 : decode cX12_trust 0 = .ok (.iload_n 1, 1) := by decide +kernel
theorem dX12_trust_1 : decode cX12_trust 1 = .ok (.iconst 0, 1) := by decide +kernel
theorem dX12_trust_2 : decode cX12_trust 2 = .ok (.iconst 5, 1) := by decide +kernel
theorem dX12_trust_3 : decode cX12_trust 3 = .ok (.invokestatic 131, 3) := by decide +kernel
theorem dX12_trust_6 : decode cX12_trust 6 = .ok (.ifCond .eq 13, 3) := by decide +kernel
theorem dX12_trust_9 : decode cX12_trust 9 = .ok (.iload_n 2, 1) := by decide +kernel
theorem dX12_trust_10 : decode cX12_trust 10 = .ok (.iconst 0, 1) := by decide +kernel
theorem dX12_trust_11 : decode cX12_trust 11 = .ok (.bipush 9, 2) := by decide +kernel
theorem dX12_trust_13 : decode cX12_trust 13 = .ok (.invokestatic 131, 3) := by decide +kernel
theorem dX12_trust_16 : decode cX12_trust 16 = .ok (.ifCond .ne 5, 3) := by decide +kernel
theorem dX12_trust_19 : decode cX12_trust 19 = .ok (.iconst (-1), 1) := by decide +kernel
theorem dX12_trust_20 : decode cX12_trust 20 = .ok (.ireturn, 1) := by decide +kernel
theorem dX12_trust_21 : decode cX12_trust 21 = .ok (.aload_n 0, 1) := by decide +kernel
theorem dX12_trust_22 : decode cX12_trust 22 = .ok (.getfield 7, 3) := by decide +kernel
theorem dX12_trust_25 : decode cX12_trust 25 = .ok (.iload_n 1, 1) := by decide +kernel
theorem dX12_trust_26 : decode cX12_trust 26 = .ok (.iaload, 1) := by decide +kernel
theorem dX12_trust_27 : decode cX12_trust 27 = .ok (.istore_n 3, 1) := by decide +kernel
theorem dX12_trust_28 : decode cX12_trust 28 = .ok (.aload_n 0, 1) := by decide +kernel
theorem dX12_trust_29 : decode cX12_trust 29 = .ok (.getfield 7, 3) := by decide +kernel
theorem dX12_trust_32 : decode cX12_trust 32 = .ok (.iload_n 1, 1) := by decide +kernel
theorem dX12_trust_33 : decode cX12_trust 33 = .ok (.iload_n 2, 1) := by decide +kernel
theorem dX12_trust_34 : decode cX12_trust 34 = .ok (.iastore, 1) := by decide +kernel
theorem dX12_trust_35 : decode cX12_trust 35 = .ok (.iload_n 3, 1) := by decide +kernel
theorem dX12_trust_36 : decode cX12_trust 36 = .ok (.ireturn, 1) := by decide +kernel
theorem dX12_says_0 : decode cX12_says 0 = .ok (.aload_n 0, 1) := by decide +kernel
theorem dX12_says_1 : decode cX12_says 1 = .ok (.getfield 135, 3) := by decide +kernel
theorem dX12_says_4 : decode cX12_says 4 = .ok (.bipush 40, 2) := by decide +kernel
theorem dX12_says_6 : decode cX12_says 6 = .ok (.if_icmp .eq 64, 3) := by decide +kernel
theorem dX12_says_9 : decode cX12_says 9 = .ok (.iload_n 1, 1) := by decide +kernel
theorem dX12_says_10 : decode cX12_says 10 = .ok (.iconst 0, 1) := by decide +kernel
theorem dX12_says_11 : decode cX12_says 11 = .ok (.iconst 5, 1) := by decide +kernel
theorem dX12_says_12 : decode cX12_says 12 = .ok (.invokestatic 131, 3) := by decide +kernel
theorem dX12_says_15 : decode cX12_says 15 = .ok (.ifCond .eq 55, 3) := by decide +kernel
theorem dX12_says_18 : decode cX12_says 18 = .ok (.iload_n 2, 1) := by decide +kernel
theorem dX12_says_19 : decode cX12_says 19 = .ok (.iconst 0, 1) := by decide +kernel
theorem dX12_says_20 : decode cX12_says 20 = .ok (.bipush 15, 2) := by decide +kernel
theorem dX12_says_22 : decode cX12_says 22 = .ok (.invokestatic 131, 3) := by decide +kernel
theorem dX12_says_25 : decode cX12_says 25 = .ok (.ifCond .eq 45, 3) := by decide +kernel
theorem dX12_says_28 : decode cX12_says 28 = .ok (.iload_n 3, 1) := by decide +kernel
theorem dX12_says_29 : decode cX12_says 29 = .ok (.iconst 0, 1) := by decide +kernel
theorem dX12_says_30 : decode cX12_says 30 = .ok (.bipush 15, 2) := by decide +kernel
theorem dX12_says_32 : decode cX12_says 32 = .ok (.invokestatic 131, 3) := by decide +kernel
theorem dX12_says_35 : decode cX12_says 35 = .ok (.ifCond .eq 35, 3) := by decide +kernel
theorem dX12_says_38 : decode cX12_says 38 = .ok (.iload_n 2, 1) := by decide +kernel
theorem dX12_says_39 : decode cX12_says 39 = .ok (.iload_n 3, 1) := by decide +kernel
theorem dX12_says_40 : decode cX12_says 40 = .ok (.if_icmp .eq 30, 3) := by decide +kernel
theorem dX12_says_43 : decode cX12_says 43 = .ok (.iload 4, 2) := by decide +kernel
theorem dX12_says_45 : decode cX12_says 45 = .ok (.sipush (-10000), 3) := by decide +kernel
theorem dX12_says_48 : decode cX12_says 48 = .ok (.sipush 10000, 3) := by decide +kernel
theorem dX12_says_51 : decode cX12_says 51 = .ok (.invokestatic 131, 3) := by decide +kernel
theorem dX12_says_54 : decode cX12_says 54 = .ok (.ifCond .eq 16, 3) := by decide +kernel
theorem dX12_says_57 : decode cX12_says 57 = .ok (.iload 5, 2) := by decide +kernel
theorem dX12_says_59 : decode cX12_says 59 = .ok (.iload 4, 2) := by decide +kernel
theorem dX12_says_61 : decode cX12_says 61 = .ok (.sipush 10000, 3) := by decide +kernel
theorem dX12_says_64 : decode cX12_says 64 = .ok (.invokestatic 131, 3) := by decide +kernel
theorem dX12_says_67 : decode cX12_says 67 = .ok (.ifCond .ne 5, 3) := by decide +kernel
theorem dX12_says_70 : decode cX12_says 70 = .ok (.iconst (-1), 1) := by decide +kernel
theorem dX12_says_71 : decode cX12_says 71 = .ok (.ireturn, 1) := by decide +kernel
theorem dX12_says_72 : decode cX12_says 72 = .ok (.aload_n 0, 1) := by decide +kernel
theorem dX12_says_73 : decode cX12_says 73 = .ok (.getfield 13, 3) := by decide +kernel
theorem dX12_says_76 : decode cX12_says 76 = .ok (.aload_n 0, 1) := by decide +kernel
theorem dX12_says_77 : decode cX12_says 77 = .ok (.getfield 135, 3) := by decide +kernel
theorem dX12_says_80 : decode cX12_says 80 = .ok (.iload_n 1, 1) := by decide +kernel
theorem dX12_says_81 : decode cX12_says 81 = .ok (.iastore, 1) := by decide +kernel
theorem dX12_says_82 : decode cX12_says 82 = .ok (.aload_n 0, 1) := by decide +kernel
theorem dX12_says_83 : decode cX12_says 83 = .ok (.getfield 16, 3) := by decide +kernel
theorem dX12_says_86 : decode cX12_says 86 = .ok (.aload_n 0, 1) := by decide +kernel
theorem dX12_says_87 : decode cX12_says 87 = .ok (.getfield 135, 3) := by decide +kernel
theorem dX12_says_90 : decode cX12_says 90 = .ok (.iload_n 2, 1) := by decide +kernel
theorem dX12_says_91 : decode cX12_says 91 = .ok (.iastore, 1) := by decide +kernel
theorem dX12_says_92 : decode cX12_says 92 = .ok (.aload_n 0, 1) := by decide +kernel
theorem dX12_says_93 : decode cX12_says 93 = .ok (.getfield 19, 3) := by decide +kernel
theorem dX12_says_96 : decode cX12_says 96 = .ok (.aload_n 0, 1) := by decide +kernel
theorem dX12_says_97 : decode cX12_says 97 = .ok (.getfield 135, 3) := by decide +kernel
theorem dX12_says_100 : decode cX12_says 100 = .ok (.iload_n 3, 1) := by decide +kernel
theorem dX12_says_101 : decode cX12_says 101 = .ok (.iastore, 1) := by decide +kernel
theorem dX12_says_102 : decode cX12_says 102 = .ok (.aload_n 0, 1) := by decide +kernel
theorem dX12_says_103 : decode cX12_says 103 = .ok (.getfield 22, 3) := by decide +kernel
theorem dX12_says_106 : decode cX12_says 106 = .ok (.aload_n 0, 1) := by decide +kernel
theorem dX12_says_107 : decode cX12_says 107 = .ok (.getfield 135, 3) := by decide +kernel
theorem dX12_says_110 : decode cX12_says 110 = .ok (.iload 4, 2) := by decide +kernel
theorem dX12_says_112 : decode cX12_says 112 = .ok (.iastore, 1) := by decide +kernel
theorem dX12_says_113 : decode cX12_says 113 = .ok (.aload_n 0, 1) := by decide +kernel
theorem dX12_says_114 : decode cX12_says 114 = .ok (.getfield 25, 3) := by decide +kernel
theorem dX12_says_117 : decode cX12_says 117 = .ok (.aload_n 0, 1) := by decide +kernel
theorem dX12_says_118 : decode cX12_says 118 = .ok (.getfield 135, 3) := by decide +kernel
theorem dX12_says_121 : decode cX12_says 121 = .ok (.iload 5, 2) := by decide +kernel
theorem dX12_says_123 : decode cX12_says 123 = .ok (.iastore, 1) := by decide +kernel
theorem dX12_says_124 : decode cX12_says 124 = .ok (.aload_n 0, 1) := by decide +kernel
theorem dX12_says_125 : decode cX12_says 125 = .ok (.dup, 1) := by decide +kernel
theorem dX12_says_126 : decode cX12_says 126 = .ok (.getfield 135, 3) := by decide +kernel
theorem dX12_says_129 : decode cX12_says 129 = .ok (.iconst 1, 1) := by decide +kernel
theorem dX12_says_130 : decode cX12_says 130 = .ok (.iadd, 1) := by decide +kernel
theorem dX12_says_131 : decode cX12_says 131 = .ok (.putfield 135, 3) := by decide +kernel
theorem dX12_says_134 : decode cX12_says 134 = .ok (.aload_n 0, 1) := by decide +kernel
theorem dX12_says_135 : decode cX12_says 135 = .ok (.getfield 135, 3) := by decide +kernel
theorem dX12_says_138 : decode cX12_says 138 = .ok (.iconst 1, 1) := by decide +kernel
theorem dX12_says_139 : decode cX12_says 139 = .ok (.isub, 1) := by decide +kernel
theorem dX12_says_140 : decode cX12_says 140 = .ok (.ireturn, 1) := by decide +kernel
theorem dX12_canBe_0 : decode cX12_canBe 0 = .ok (.iconst 0, 1) := by decide +kernel
theorem dX12_canBe_1 : decode cX12_canBe 1 = .ok (.istore_n 1, 1) := by decide +kernel
theorem dX12_canBe_2 : decode cX12_canBe 2 = .ok (.iload_n 1, 1) := by decide +kernel
theorem dX12_canBe_3 : decode cX12_canBe 3 = .ok (.bipush 16, 2) := by decide +kernel
theorem dX12_canBe_5 : decode cX12_canBe 5 = .ok (.if_icmp .ge 43, 3) := by decide +kernel
theorem dX12_canBe_8 : decode cX12_canBe 8 = .ok (.iconst 0, 1) := by decide +kernel
theorem dX12_canBe_9 : decode cX12_canBe 9 = .ok (.istore_n 2, 1) := by decide +kernel
theorem dX12_canBe_10 : decode cX12_canBe 10 = .ok (.iload_n 2, 1) := by decide +kernel
theorem dX12_canBe_11 : decode cX12_canBe 11 = .ok (.bipush 16, 2) := by decide +kernel
theorem dX12_canBe_13 : decode cX12_canBe 13 = .ok (.if_icmp .ge 29, 3) := by decide +kernel
theorem dX12_canBe_16 : decode cX12_canBe 16 = .ok (.aload_n 0, 1) := by decide +kernel
theorem dX12_canBe_17 : decode cX12_canBe 17 = .ok (.getfield 30, 3) := by decide +kernel
theorem dX12_canBe_20 : decode cX12_canBe 20 = .ok (.iload_n 1, 1) := by decide +kernel
theorem dX12_canBe_21 : decode cX12_canBe 21 = .ok (.aaload, 1) := by decide +kernel
theorem dX12_canBe_22 : decode cX12_canBe 22 = .ok (.iload_n 2, 1) := by decide +kernel
theorem dX12_canBe_23 : decode cX12_canBe 23 = .ok (.iload_n 1, 1) := by decide +kernel
theorem dX12_canBe_24 : decode cX12_canBe 24 = .ok (.iload_n 2, 1) := by decide +kernel
theorem dX12_canBe_25 : decode cX12_canBe 25 = .ok (.if_icmp .ne 7, 3) := by decide +kernel
theorem dX12_canBe_28 : decode cX12_canBe 28 = .ok (.lconst 0, 1) := by decide +kernel
theorem dX12_canBe_29 : decode cX12_canBe 29 = .ok (.goto 6, 3) := by decide +kernel
theorem dX12_canBe_32 : decode cX12_canBe 32 = .ok (.ldc2_w 138, 3) := by decide +kernel
theorem dX12_canBe_35 : decode cX12_canBe 35 = .ok (.lastore, 1) := by decide +kernel
theorem dX12_canBe_36 : decode cX12_canBe 36 = .ok (.iinc 2 1, 3) := by decide +kernel
theorem dX12_canBe_39 : decode cX12_canBe 39 = .ok (.goto (-29), 3) := by decide +kernel
theorem dX12_canBe_42 : decode cX12_canBe 42 = .ok (.iinc 1 1, 3) := by decide +kernel
theorem dX12_canBe_45 : decode cX12_canBe 45 = .ok (.goto (-43), 3) := by decide +kernel
theorem dX12_canBe_48 : decode cX12_canBe 48 = .ok (.iconst 0, 1) := by decide +kernel
theorem dX12_canBe_49 : decode cX12_canBe 49 = .ok (.istore_n 1, 1) := by decide +kernel
theorem dX12_canBe_50 : decode cX12_canBe 50 = .ok (.iload_n 1, 1) := by decide +kernel
theorem dX12_canBe_51 : decode cX12_canBe 51 = .ok (.aload_n 0, 1) := by decide +kernel
theorem dX12_canBe_52 : decode cX12_canBe 52 = .ok (.getfield 135, 3) := by decide +kernel
theorem dX12_canBe_55 : decode cX12_canBe 55 = .ok (.if_icmp .ge 124, 3) := by decide +kernel
theorem dX12_canBe_58 : decode cX12_canBe 58 = .ok (.aload_n 0, 1) := by decide +kernel
theorem dX12_canBe_59 : decode cX12_canBe 59 = .ok (.getfield 33, 3) := by decide +kernel
theorem dX12_canBe_62 : decode cX12_canBe 62 = .ok (.iload_n 1, 1) := by decide +kernel
theorem dX12_canBe_63 : decode cX12_canBe 63 = .ok (.baload, 1) := by decide +kernel
theorem dX12_canBe_64 : decode cX12_canBe 64 = .ok (.ifCond .eq 109, 3) := by decide +kernel
theorem dX12_canBe_67 : decode cX12_canBe 67 = .ok (.aload_n 0, 1) := by decide +kernel
theorem dX12_canBe_68 : decode cX12_canBe 68 = .ok (.getfield 16, 3) := by decide +kernel
theorem dX12_canBe_71 : decode cX12_canBe 71 = .ok (.iload_n 1, 1) := by decide +kernel
theorem dX12_canBe_72 : decode cX12_canBe 72 = .ok (.iaload, 1) := by decide +kernel
theorem dX12_canBe_73 : decode cX12_canBe 73 = .ok (.istore_n 2, 1) := by decide +kernel
theorem dX12_canBe_74 : decode cX12_canBe 74 = .ok (.aload_n 0, 1) := by decide +kernel
theorem dX12_canBe_75 : decode cX12_canBe 75 = .ok (.getfield 19, 3) := by decide +kernel
theorem dX12_canBe_78 : decode cX12_canBe 78 = .ok (.iload_n 1, 1) := by decide +kernel
theorem dX12_canBe_79 : decode cX12_canBe 79 = .ok (.iaload, 1) := by decide +kernel
theorem dX12_canBe_80 : decode cX12_canBe 80 = .ok (.istore_n 3, 1) := by decide +kernel
theorem dX12_canBe_81 : decode cX12_canBe 81 = .ok (.aload_n 0, 1) := by decide +kernel
theorem dX12_canBe_82 : decode cX12_canBe 82 = .ok (.getfield 30, 3) := by decide +kernel
theorem dX12_canBe_85 : decode cX12_canBe 85 = .ok (.iload_n 2, 1) := by decide +kernel
theorem dX12_canBe_86 : decode cX12_canBe 86 = .ok (.aaload, 1) := by decide +kernel
theorem dX12_canBe_87 : decode cX12_canBe 87 = .ok (.iload_n 3, 1) := by decide +kernel
theorem dX12_canBe_88 : decode cX12_canBe 88 = .ok (.aload_n 0, 1) := by decide +kernel
theorem dX12_canBe_89 : decode cX12_canBe 89 = .ok (.getfield 30, 3) := by decide +kernel
theorem dX12_canBe_92 : decode cX12_canBe 92 = .ok (.iload_n 2, 1) := by decide +kernel
theorem dX12_canBe_93 : decode cX12_canBe 93 = .ok (.aaload, 1) := by decide +kernel
theorem dX12_canBe_94 : decode cX12_canBe 94 = .ok (.iload_n 3, 1) := by decide +kernel
theorem dX12_canBe_95 : decode cX12_canBe 95 = .ok (.laload, 1) := by decide +kernel
theorem dX12_canBe_96 : decode cX12_canBe 96 = .ok (.aload_n 0, 1) := by decide +kernel
theorem dX12_canBe_97 : decode cX12_canBe 97 = .ok (.getfield 25, 3) := by decide +kernel
theorem dX12_canBe_100 : decode cX12_canBe 100 = .ok (.iload_n 1, 1) := by decide +kernel
theorem dX12_canBe_101 : decode cX12_canBe 101 = .ok (.iaload, 1) := by decide +kernel
theorem dX12_canBe_102 : decode cX12_canBe 102 = .ok (.i2l, 1) := by decide +kernel
theorem dX12_canBe_103 : decode cX12_canBe 103 = .ok (.lcmp, 1) := by decide +kernel
theorem dX12_canBe_104 : decode cX12_canBe 104 = .ok (.ifCond .ge 14, 3) := by decide +kernel
theorem dX12_canBe_107 : decode cX12_canBe 107 = .ok (.aload_n 0, 1) := by decide +kernel
theorem dX12_canBe_108 : decode cX12_canBe 108 = .ok (.getfield 30, 3) := by decide +kernel
theorem dX12_canBe_111 : decode cX12_canBe 111 = .ok (.iload_n 2, 1) := by decide +kernel
theorem dX12_canBe_112 : decode cX12_canBe 112 = .ok (.aaload, 1) := by decide +kernel
theorem dX12_canBe_113 : decode cX12_canBe 113 = .ok (.iload_n 3, 1) := by decide +kernel
theorem dX12_canBe_114 : decode cX12_canBe 114 = .ok (.laload, 1) := by decide +kernel
theorem dX12_canBe_115 : decode cX12_canBe 115 = .ok (.goto 10, 3) := by decide +kernel
theorem dX12_canBe_118 : decode cX12_canBe 118 = .ok (.aload_n 0, 1) := by decide +kernel
theorem dX12_canBe_119 : decode cX12_canBe 119 = .ok (.getfield 25, 3) := by decide +kernel
theorem dX12_canBe_122 : decode cX12_canBe 122 = .ok (.iload_n 1, 1) := by decide +kernel
theorem dX12_canBe_123 : decode cX12_canBe 123 = .ok (.iaload, 1) := by decide +kernel
theorem dX12_canBe_124 : decode cX12_canBe 124 = .ok (.i2l, 1) := by decide +kernel
theorem dX12_canBe_125 : decode cX12_canBe 125 = .ok (.lastore, 1) := by decide +kernel
theorem dX12_canBe_126 : decode cX12_canBe 126 = .ok (.aload_n 0, 1) := by decide +kernel
theorem dX12_canBe_127 : decode cX12_canBe 127 = .ok (.getfield 30, 3) := by decide +kernel
theorem dX12_canBe_130 : decode cX12_canBe 130 = .ok (.iload_n 3, 1) := by decide +kernel
theorem dX12_canBe_131 : decode cX12_canBe 131 = .ok (.aaload, 1) := by decide +kernel
theorem dX12_canBe_132 : decode cX12_canBe 132 = .ok (.iload_n 2, 1) := by decide +kernel
theorem dX12_canBe_133 : decode cX12_canBe 133 = .ok (.aload_n 0, 1) := by decide +kernel
theorem dX12_canBe_134 : decode cX12_canBe 134 = .ok (.getfield 30, 3) := by decide +kernel
theorem dX12_canBe_137 : decode cX12_canBe 137 = .ok (.iload_n 3, 1) := by decide +kernel
theorem dX12_canBe_138 : decode cX12_canBe 138 = .ok (.aaload, 1) := by decide +kernel
theorem dX12_canBe_139 : decode cX12_canBe 139 = .ok (.iload_n 2, 1) := by decide +kernel
theorem dX12_canBe_140 : decode cX12_canBe 140 = .ok (.laload, 1) := by decide +kernel
theorem dX12_canBe_141 : decode cX12_canBe 141 = .ok (.aload_n 0, 1) := by decide +kernel
theorem dX12_canBe_142 : decode cX12_canBe 142 = .ok (.getfield 22, 3) := by decide +kernel
theorem dX12_canBe_145 : decode cX12_canBe 145 = .ok (.iload_n 1, 1) := by decide +kernel
theorem dX12_canBe_146 : decode cX12_canBe 146 = .ok (.iaload, 1) := by decide +kernel
theorem dX12_canBe_147 : decode cX12_canBe 147 = .ok (.ineg, 1) := by decide +kernel
theorem dX12_canBe_148 : decode cX12_canBe 148 = .ok (.i2l, 1) := by decide +kernel
theorem dX12_canBe_149 : decode cX12_canBe 149 = .ok (.lcmp, 1) := by decide +kernel
theorem dX12_canBe_150 : decode cX12_canBe 150 = .ok (.ifCond .ge 14, 3) := by decide +kernel
theorem dX12_canBe_153 : decode cX12_canBe 153 = .ok (.aload_n 0, 1) := by decide +kernel
theorem dX12_canBe_154 : decode cX12_canBe 154 = .ok (.getfield 30, 3) := by decide +kernel
theorem dX12_canBe_157 : decode cX12_canBe 157 = .ok (.iload_n 3, 1) := by decide +kernel
theorem dX12_canBe_158 : decode cX12_canBe 158 = .ok (.aaload, 1) := by decide +kernel
theorem dX12_canBe_159 : decode cX12_canBe 159 = .ok (.iload_n 2, 1) := by decide +kernel
theorem dX12_canBe_160 : decode cX12_canBe 160 = .ok (.laload, 1) := by decide +kernel
theorem dX12_canBe_161 : decode cX12_canBe 161 = .ok (.goto 11, 3) := by decide +kernel
theorem dX12_canBe_164 : decode cX12_canBe 164 = .ok (.aload_n 0, 1) := by decide +kernel
theorem dX12_canBe_165 : decode cX12_canBe 165 = .ok (.getfield 22, 3) := by decide +kernel
theorem dX12_canBe_168 : decode cX12_canBe 168 = .ok (.iload_n 1, 1) := by decide +kernel
theorem dX12_canBe_169 : decode cX12_canBe 169 = .ok (.iaload, 1) := by decide +kernel
theorem dX12_canBe_170 : decode cX12_canBe 170 = .ok (.ineg, 1) := by decide +kernel
theorem dX12_canBe_171 : decode cX12_canBe 171 = .ok (.i2l, 1) := by decide +kernel
theorem dX12_canBe_172 : decode cX12_canBe 172 = .ok (.lastore, 1) := by decide +kernel
theorem dX12_canBe_173 : decode cX12_canBe 173 = .ok (.iinc 1 1, 3) := by decide +kernel
theorem dX12_canBe_176 : decode cX12_canBe 176 = .ok (.goto (-126), 3) := by decide +kernel
theorem dX12_canBe_179 : decode cX12_canBe 179 = .ok (.iconst 0, 1) := by decide +kernel
theorem dX12_canBe_180 : decode cX12_canBe 180 = .ok (.istore_n 1, 1) := by decide +kernel
theorem dX12_canBe_181 : decode cX12_canBe 181 = .ok (.iload_n 1, 1) := by decide +kernel
theorem dX12_canBe_182 : decode cX12_canBe 182 = .ok (.bipush 16, 2) := by decide +kernel
theorem dX12_canBe_184 : decode cX12_canBe 184 = .ok (.if_icmp .ge 150, 3) := by decide +kernel
theorem dX12_canBe_187 : decode cX12_canBe 187 = .ok (.iconst 0, 1) := by decide +kernel
theorem dX12_canBe_188 : decode cX12_canBe 188 = .ok (.istore_n 2, 1) := by decide +kernel
theorem dX12_canBe_189 : decode cX12_canBe 189 = .ok (.iload_n 2, 1) := by decide +kernel
theorem dX12_canBe_190 : decode cX12_canBe 190 = .ok (.bipush 16, 2) := by decide +kernel
theorem dX12_canBe_192 : decode cX12_canBe 192 = .ok (.if_icmp .ge 107, 3) := by decide +kernel
theorem dX12_canBe_195 : decode cX12_canBe 195 = .ok (.iconst 0, 1) := by decide +kernel
theorem dX12_canBe_196 : decode cX12_canBe 196 = .ok (.istore_n 3, 1) := by decide +kernel
theorem dX12_canBe_197 : decode cX12_canBe 197 = .ok (.iload_n 3, 1) := by decide +kernel
theorem dX12_canBe_198 : decode cX12_canBe 198 = .ok (.bipush 16, 2) := by decide +kernel
theorem dX12_canBe_200 : decode cX12_canBe 200 = .ok (.if_icmp .ge 93, 3) := by decide +kernel
theorem dX12_canBe_203 : decode cX12_canBe 203 = .ok (.aload_n 0, 1) := by decide +kernel
theorem dX12_canBe_204 : decode cX12_canBe 204 = .ok (.getfield 30, 3) := by decide +kernel
theorem dX12_canBe_207 : decode cX12_canBe 207 = .ok (.iload_n 2, 1) := by decide +kernel
theorem dX12_canBe_208 : decode cX12_canBe 208 = .ok (.aaload, 1) := by decide +kernel
theorem dX12_canBe_209 : decode cX12_canBe 209 = .ok (.iload_n 1, 1) := by decide +kernel
theorem dX12_canBe_210 : decode cX12_canBe 210 = .ok (.laload, 1) := by decide +kernel
theorem dX12_canBe_211 : decode cX12_canBe 211 = .ok (.ldc2_w 138, 3) := by decide +kernel
theorem dX12_canBe_214 : decode cX12_canBe 214 = .ok (.lcmp, 1) := by decide +kernel
theorem dX12_canBe_215 : decode cX12_canBe 215 = .ok (.ifCond .ge 72, 3) := by decide +kernel
theorem dX12_canBe_218 : decode cX12_canBe 218 = .ok (.aload_n 0, 1) := by decide +kernel
theorem dX12_canBe_219 : decode cX12_canBe 219 = .ok (.getfield 30, 3) := by decide +kernel
theorem dX12_canBe_222 : decode cX12_canBe 222 = .ok (.iload_n 1, 1) := by decide +kernel
theorem dX12_canBe_223 : decode cX12_canBe 223 = .ok (.aaload, 1) := by decide +kernel
theorem dX12_canBe_224 : decode cX12_canBe 224 = .ok (.iload_n 3, 1) := by decide +kernel
theorem dX12_canBe_225 : decode cX12_canBe 225 = .ok (.laload, 1) := by decide +kernel
theorem dX12_canBe_226 : decode cX12_canBe 226 = .ok (.ldc2_w 138, 3) := by decide +kernel
theorem dX12_canBe_229 : decode cX12_canBe 229 = .ok (.lcmp, 1) := by decide +kernel
theorem dX12_canBe_230 : decode cX12_canBe 230 = .ok (.ifCond .ge 57, 3) := by decide +kernel
theorem dX12_canBe_233 : decode cX12_canBe 233 = .ok (.aload_n 0, 1) := by decide +kernel
theorem dX12_canBe_234 : decode cX12_canBe 234 = .ok (.getfield 30, 3) := by decide +kernel
theorem dX12_canBe_237 : decode cX12_canBe 237 = .ok (.iload_n 2, 1) := by decide +kernel
theorem dX12_canBe_238 : decode cX12_canBe 238 = .ok (.aaload, 1) := by decide +kernel
theorem dX12_canBe_239 : decode cX12_canBe 239 = .ok (.iload_n 1, 1) := by decide +kernel
theorem dX12_canBe_240 : decode cX12_canBe 240 = .ok (.laload, 1) := by decide +kernel
theorem dX12_canBe_241 : decode cX12_canBe 241 = .ok (.aload_n 0, 1) := by decide +kernel
theorem dX12_canBe_242 : decode cX12_canBe 242 = .ok (.getfield 30, 3) := by decide +kernel
theorem dX12_canBe_245 : decode cX12_canBe 245 = .ok (.iload_n 1, 1) := by decide +kernel
theorem dX12_canBe_246 : decode cX12_canBe 246 = .ok (.aaload, 1) := by decide +kernel
theorem dX12_canBe_247 : decode cX12_canBe 247 = .ok (.iload_n 3, 1) := by decide +kernel
theorem dX12_canBe_248 : decode cX12_canBe 248 = .ok (.laload, 1) := by decide +kernel
theorem dX12_canBe_249 : decode cX12_canBe 249 = .ok (.ladd, 1) := by decide +kernel
theorem dX12_canBe_250 : decode cX12_canBe 250 = .ok (.aload_n 0, 1) := by decide +kernel
theorem dX12_canBe_251 : decode cX12_canBe 251 = .ok (.getfield 30, 3) := by decide +kernel
theorem dX12_canBe_254 : decode cX12_canBe 254 = .ok (.iload_n 2, 1) := by decide +kernel
theorem dX12_canBe_255 : decode cX12_canBe 255 = .ok (.aaload, 1) := by decide +kernel
theorem dX12_canBe_256 : decode cX12_canBe 256 = .ok (.iload_n 3, 1) := by decide +kernel
theorem dX12_canBe_257 : decode cX12_canBe 257 = .ok (.laload, 1) := by decide +kernel
theorem dX12_canBe_258 : decode cX12_canBe 258 = .ok (.lcmp, 1) := by decide +kernel
theorem dX12_canBe_259 : decode cX12_canBe 259 = .ok (.ifCond .ge 28, 3) := by decide +kernel
theorem dX12_canBe_262 : decode cX12_canBe 262 = .ok (.aload_n 0, 1) := by decide +kernel
theorem dX12_canBe_263 : decode cX12_canBe 263 = .ok (.getfield 30, 3) := by decide +kernel
theorem dX12_canBe_266 : decode cX12_canBe 266 = .ok (.iload_n 2, 1) := by decide +kernel
theorem dX12_canBe_267 : decode cX12_canBe 267 = .ok (.aaload, 1) := by decide +kernel
theorem dX12_canBe_268 : decode cX12_canBe 268 = .ok (.iload_n 3, 1) := by decide +kernel
theorem dX12_canBe_269 : decode cX12_canBe 269 = .ok (.aload_n 0, 1) := by decide +kernel
theorem dX12_canBe_270 : decode cX12_canBe 270 = .ok (.getfield 30, 3) := by decide +kernel
theorem dX12_canBe_273 : decode cX12_canBe 273 = .ok (.iload_n 2, 1) := by decide +kernel
theorem dX12_canBe_274 : decode cX12_canBe 274 = .ok (.aaload, 1) := by decide +kernel
theorem dX12_canBe_275 : decode cX12_canBe 275 = .ok (.iload_n 1, 1) := by decide +kernel
theorem dX12_canBe_276 : decode cX12_canBe 276 = .ok (.laload, 1) := by decide +kernel
theorem dX12_canBe_277 : decode cX12_canBe 277 = .ok (.aload_n 0, 1) := by decide +kernel
theorem dX12_canBe_278 : decode cX12_canBe 278 = .ok (.getfield 30, 3) := by decide +kernel
theorem dX12_canBe_281 : decode cX12_canBe 281 = .ok (.iload_n 1, 1) := by decide +kernel
theorem dX12_canBe_282 : decode cX12_canBe 282 = .ok (.aaload, 1) := by decide +kernel
theorem dX12_canBe_283 : decode cX12_canBe 283 = .ok (.iload_n 3, 1) := by decide +kernel
theorem dX12_canBe_284 : decode cX12_canBe 284 = .ok (.laload, 1) := by decide +kernel
theorem dX12_canBe_285 : decode cX12_canBe 285 = .ok (.ladd, 1) := by decide +kernel
theorem dX12_canBe_286 : decode cX12_canBe 286 = .ok (.lastore, 1) := by decide +kernel
theorem dX12_canBe_287 : decode cX12_canBe 287 = .ok (.iinc 3 1, 3) := by decide +kernel
theorem dX12_canBe_290 : decode cX12_canBe 290 = .ok (.goto (-93), 3) := by decide +kernel
theorem dX12_canBe_293 : decode cX12_canBe 293 = .ok (.iinc 2 1, 3) := by decide +kernel
theorem dX12_canBe_296 : decode cX12_canBe 296 = .ok (.goto (-107), 3) := by decide +kernel
theorem dX12_canBe_299 : decode cX12_canBe 299 = .ok (.iconst 0, 1) := by decide +kernel
theorem dX12_canBe_300 : decode cX12_canBe 300 = .ok (.istore_n 2, 1) := by decide +kernel
theorem dX12_canBe_301 : decode cX12_canBe 301 = .ok (.iload_n 2, 1) := by decide +kernel
theorem dX12_canBe_302 : decode cX12_canBe 302 = .ok (.bipush 16, 2) := by decide +kernel
theorem dX12_canBe_304 : decode cX12_canBe 304 = .ok (.if_icmp .ge 24, 3) := by decide +kernel
theorem dX12_canBe_307 : decode cX12_canBe 307 = .ok (.aload_n 0, 1) := by decide +kernel
theorem dX12_canBe_308 : decode cX12_canBe 308 = .ok (.getfield 30, 3) := by decide +kernel
theorem dX12_canBe_311 : decode cX12_canBe 311 = .ok (.iload_n 2, 1) := by decide +kernel
theorem dX12_canBe_312 : decode cX12_canBe 312 = .ok (.aaload, 1) := by decide +kernel
theorem dX12_canBe_313 : decode cX12_canBe 313 = .ok (.iload_n 2, 1) := by decide +kernel
theorem dX12_canBe_314 : decode cX12_canBe 314 = .ok (.laload, 1) := by decide +kernel
theorem dX12_canBe_315 : decode cX12_canBe 315 = .ok (.lconst 0, 1) := by decide +kernel
theorem dX12_canBe_316 : decode cX12_canBe 316 = .ok (.lcmp, 1) := by decide +kernel
theorem dX12_canBe_317 : decode cX12_canBe 317 = .ok (.ifCond .ge 5, 3) := by decide +kernel
theorem dX12_canBe_320 : decode cX12_canBe 320 = .ok (.iconst 0, 1) := by decide +kernel
theorem dX12_canBe_321 : decode cX12_canBe 321 = .ok (.ireturn, 1) := by decide +kernel
theorem dX12_canBe_322 : decode cX12_canBe 322 = .ok (.iinc 2 1, 3) := by decide +kernel
theorem dX12_canBe_325 : decode cX12_canBe 325 = .ok (.goto (-24), 3) := by decide +kernel
theorem dX12_canBe_328 : decode cX12_canBe 328 = .ok (.iinc 1 1, 3) := by decide +kernel
theorem dX12_canBe_331 : decode cX12_canBe 331 = .ok (.goto (-150), 3) := by decide +kernel
theorem dX12_canBe_334 : decode cX12_canBe 334 = .ok (.iconst 1, 1) := by decide +kernel
theorem dX12_canBe_335 : decode cX12_canBe 335 = .ok (.ireturn, 1) := by decide +kernel
theorem dX12_believe_0 : decode cX12_believe 0 = .ok (.bipush 40, 2) := by decide +kernel
theorem dX12_believe_2 : decode cX12_believe 2 = .ok (.newarray .boolean, 2) := by decide +kernel
theorem dX12_believe_4 : decode cX12_believe 4 = .ok (.astore_n 1, 1) := by decide +kernel
theorem dX12_believe_5 : decode cX12_believe 5 = .ok (.iconst 0, 1) := by decide +kernel
theorem dX12_believe_6 : decode cX12_believe 6 = .ok (.istore_n 2, 1) := by decide +kernel
theorem dX12_believe_7 : decode cX12_believe 7 = .ok (.iload_n 2, 1) := by decide +kernel
theorem dX12_believe_8 : decode cX12_believe 8 = .ok (.bipush 40, 2) := by decide +kernel
theorem dX12_believe_10 : decode cX12_believe 10 = .ok (.if_icmp .ge 16, 3) := by decide +kernel
theorem dX12_believe_13 : decode cX12_believe 13 = .ok (.aload_n 0, 1) := by decide +kernel
theorem dX12_believe_14 : decode cX12_believe 14 = .ok (.getfield 33, 3) := by decide +kernel
theorem dX12_believe_17 : decode cX12_believe 17 = .ok (.iload_n 2, 1) := by decide +kernel
theorem dX12_believe_18 : decode cX12_believe 18 = .ok (.iconst 0, 1) := by decide +kernel
theorem dX12_believe_19 : decode cX12_believe 19 = .ok (.bastore, 1) := by decide +kernel
theorem dX12_believe_20 : decode cX12_believe 20 = .ok (.iinc 2 1, 3) := by decide +kernel
theorem dX12_believe_23 : decode cX12_believe 23 = .ok (.goto (-16), 3) := by decide +kernel
theorem dX12_believe_26 : decode cX12_believe 26 = .ok (.iconst 0, 1) := by decide +kernel
theorem dX12_believe_27 : decode cX12_believe 27 = .ok (.istore_n 2, 1) := by decide +kernel
theorem dX12_believe_28 : decode cX12_believe 28 = .ok (.iload_n 2, 1) := by decide +kernel
theorem dX12_believe_29 : decode cX12_believe 29 = .ok (.aload_n 0, 1) := by decide +kernel
theorem dX12_believe_30 : decode cX12_believe 30 = .ok (.getfield 135, 3) := by decide +kernel
theorem dX12_believe_33 : decode cX12_believe 33 = .ok (.if_icmp .ge 91, 3) := by decide +kernel
theorem dX12_believe_36 : decode cX12_believe 36 = .ok (.iconst (-1), 1) := by decide +kernel
theorem dX12_believe_37 : decode cX12_believe 37 = .ok (.istore_n 3, 1) := by decide +kernel
theorem dX12_believe_38 : decode cX12_believe 38 = .ok (.iconst 0, 1) := by decide +kernel
theorem dX12_believe_39 : decode cX12_believe 39 = .ok (.istore 4, 2) := by decide +kernel
theorem dX12_believe_41 : decode cX12_believe 41 = .ok (.iload 4, 2) := by decide +kernel
theorem dX12_believe_43 : decode cX12_believe 43 = .ok (.aload_n 0, 1) := by decide +kernel
theorem dX12_believe_44 : decode cX12_believe 44 = .ok (.getfield 135, 3) := by decide +kernel
theorem dX12_believe_47 : decode cX12_believe 47 = .ok (.if_icmp .ge 50, 3) := by decide +kernel
theorem dX12_believe_50 : decode cX12_believe 50 = .ok (.aload_n 1, 1) := by decide +kernel
theorem dX12_believe_51 : decode cX12_believe 51 = .ok (.iload 4, 2) := by decide +kernel
theorem dX12_believe_53 : decode cX12_believe 53 = .ok (.baload, 1) := by decide +kernel
theorem dX12_believe_54 : decode cX12_believe 54 = .ok (.ifCond .ne 37, 3) := by decide +kernel
theorem dX12_believe_57 : decode cX12_believe 57 = .ok (.iload_n 3, 1) := by decide +kernel
theorem dX12_believe_58 : decode cX12_believe 58 = .ok (.iconst (-1), 1) := by decide +kernel
theorem dX12_believe_59 : decode cX12_believe 59 = .ok (.if_icmp .eq 29, 3) := by decide +kernel
theorem dX12_believe_62 : decode cX12_believe 62 = .ok (.aload_n 0, 1) := by decide +kernel
theorem dX12_believe_63 : decode cX12_believe 63 = .ok (.getfield 7, 3) := by decide +kernel
theorem dX12_believe_66 : decode cX12_believe 66 = .ok (.aload_n 0, 1) := by decide +kernel
theorem dX12_believe_67 : decode cX12_believe 67 = .ok (.getfield 13, 3) := by decide +kernel
theorem dX12_believe_70 : decode cX12_believe 70 = .ok (.iload 4, 2) := by decide +kernel
theorem dX12_believe_72 : decode cX12_believe 72 = .ok (.iaload, 1) := by decide +kernel
theorem dX12_believe_73 : decode cX12_believe 73 = .ok (.iaload, 1) := by decide +kernel
theorem dX12_believe_74 : decode cX12_believe 74 = .ok (.aload_n 0, 1) := by decide +kernel
theorem dX12_believe_75 : decode cX12_believe 75 = .ok (.getfield 7, 3) := by decide +kernel
theorem dX12_believe_78 : decode cX12_believe 78 = .ok (.aload_n 0, 1) := by decide +kernel
theorem dX12_believe_79 : decode cX12_believe 79 = .ok (.getfield 13, 3) := by decide +kernel
theorem dX12_believe_82 : decode cX12_believe 82 = .ok (.iload_n 3, 1) := by decide +kernel
theorem dX12_believe_83 : decode cX12_believe 83 = .ok (.iaload, 1) := by decide +kernel
theorem dX12_believe_84 : decode cX12_believe 84 = .ok (.iaload, 1) := by decide +kernel
theorem dX12_believe_85 : decode cX12_believe 85 = .ok (.if_icmp .le 6, 3) := by decide +kernel
theorem dX12_believe_88 : decode cX12_believe 88 = .ok (.iload 4, 2) := by decide +kernel
theorem dX12_believe_90 : decode cX12_believe 90 = .ok (.istore_n 3, 1) := by decide +kernel
theorem dX12_believe_91 : decode cX12_believe 91 = .ok (.iinc 4 1, 3) := by decide +kernel
theorem dX12_believe_94 : decode cX12_believe 94 = .ok (.goto (-53), 3) := by decide +kernel
theorem dX12_believe_97 : decode cX12_believe 97 = .ok (.aload_n 1, 1) := by decide +kernel
theorem dX12_believe_98 : decode cX12_believe 98 = .ok (.iload_n 3, 1) := by decide +kernel
theorem dX12_believe_99 : decode cX12_believe 99 = .ok (.iconst 1, 1) := by decide +kernel
theorem dX12_believe_100 : decode cX12_believe 100 = .ok (.bastore, 1) := by decide +kernel
theorem dX12_believe_101 : decode cX12_believe 101 = .ok (.aload_n 0, 1) := by decide +kernel
theorem dX12_believe_102 : decode cX12_believe 102 = .ok (.getfield 33, 3) := by decide +kernel
theorem dX12_believe_105 : decode cX12_believe 105 = .ok (.iload_n 3, 1) := by decide +kernel
theorem dX12_believe_106 : decode cX12_believe 106 = .ok (.iconst 1, 1) := by decide +kernel
theorem dX12_believe_107 : decode cX12_believe 107 = .ok (.bastore, 1) := by decide +kernel
theorem dX12_believe_108 : decode cX12_believe 108 = .ok (.aload_n 0, 1) := by decide +kernel
theorem dX12_believe_109 : decode cX12_believe 109 = .ok (.getfield 33, 3) := by decide +kernel
theorem dX12_believe_112 : decode cX12_believe 112 = .ok (.iload_n 3, 1) := by decide +kernel
theorem dX12_believe_113 : decode cX12_believe 113 = .ok (.aload_n 0, 1) := by decide +kernel
theorem dX12_believe_114 : decode cX12_believe 114 = .ok (.invokevirtual 140, 3) := by decide +kernel
theorem dX12_believe_117 : decode cX12_believe 117 = .ok (.bastore, 1) := by decide +kernel
theorem dX12_believe_118 : decode cX12_believe 118 = .ok (.iinc 2 1, 3) := by decide +kernel
theorem dX12_believe_121 : decode cX12_believe 121 = .ok (.goto (-93), 3) := by decide +kernel
theorem dX12_believe_124 : decode cX12_believe 124 = .ok (.aload_n 0, 1) := by decide +kernel
theorem dX12_believe_125 : decode cX12_believe 125 = .ok (.invokevirtual 140, 3) := by decide +kernel
theorem dX12_believe_128 : decode cX12_believe 128 = .ok (.pop, 1) := by decide +kernel
theorem dX12_believe_129 : decode cX12_believe 129 = .ok (.return_, 1) := by decide +kernel
theorem dX12_believed_0 : decode cX12_believed 0 = .ok (.iload_n 1, 1) := by decide +kernel
theorem dX12_believed_1 : decode cX12_believed 1 = .ok (.iconst 0, 1) := by decide +kernel
theorem dX12_believed_2 : decode cX12_believed 2 = .ok (.aload_n 0, 1) := by decide +kernel
theorem dX12_believed_3 : decode cX12_believed 3 = .ok (.getfield 135, 3) := by decide +kernel
theorem dX12_believed_6 : decode cX12_believed 6 = .ok (.iconst 1, 1) := by decide +kernel
theorem dX12_believed_7 : decode cX12_believed 7 = .ok (.isub, 1) := by decide +kernel
theorem dX12_believed_8 : decode cX12_believed 8 = .ok (.invokestatic 131, 3) := by decide +kernel
theorem dX12_believed_11 : decode cX12_believed 11 = .ok (.ifCond .ne 5, 3) := by decide +kernel
theorem dX12_believed_14 : decode cX12_believed 14 = .ok (.iconst (-1), 1) := by decide +kernel
theorem dX12_believed_15 : decode cX12_believed 15 = .ok (.ireturn, 1) := by decide +kernel
theorem dX12_believed_16 : decode cX12_believed 16 = .ok (.aload_n 0, 1) := by decide +kernel
theorem dX12_believed_17 : decode cX12_believed 17 = .ok (.invokevirtual 144, 3) := by decide +kernel
theorem dX12_believed_20 : decode cX12_believed 20 = .ok (.aload_n 0, 1) := by decide +kernel
theorem dX12_believed_21 : decode cX12_believed 21 = .ok (.getfield 33, 3) := by decide +kernel
theorem dX12_believed_24 : decode cX12_believed 24 = .ok (.iload_n 1, 1) := by decide +kernel
theorem dX12_believed_25 : decode cX12_believed 25 = .ok (.baload, 1) := by decide +kernel
theorem dX12_believed_26 : decode cX12_believed 26 = .ok (.ifCond .eq 7, 3) := by decide +kernel
theorem dX12_believed_29 : decode cX12_believed 29 = .ok (.iconst 1, 1) := by decide +kernel
theorem dX12_believed_30 : decode cX12_believed 30 = .ok (.goto 4, 3) := by decide +kernel
theorem dX12_believed_33 : decode cX12_believed 33 = .ok (.iconst 0, 1) := by decide +kernel
theorem dX12_believed_34 : decode cX12_believed 34 = .ok (.ireturn, 1) := by decide +kernel
theorem dX12_spans_0 : decode cX12_spans 0 = .ok (.iload_n 1, 1) := by decide +kernel
theorem dX12_spans_1 : decode cX12_spans 1 = .ok (.iconst 0, 1) := by decide +kernel
theorem dX12_spans_2 : decode cX12_spans 2 = .ok (.bipush 15, 2) := by decide +kernel
theorem dX12_spans_4 : decode cX12_spans 4 = .ok (.invokestatic 131, 3) := by decide +kernel
theorem dX12_spans_7 : decode cX12_spans 7 = .ok (.ifCond .eq 22, 3) := by decide +kernel
theorem dX12_spans_10 : decode cX12_spans 10 = .ok (.iload_n 2, 1) := by decide +kernel
theorem dX12_spans_11 : decode cX12_spans 11 = .ok (.iconst 0, 1) := by decide +kernel
theorem dX12_spans_12 : decode cX12_spans 12 = .ok (.bipush 15, 2) := by decide +kernel
theorem dX12_spans_14 : decode cX12_spans 14 = .ok (.invokestatic 131, 3) := by decide +kernel
theorem dX12_spans_17 : decode cX12_spans 17 = .ok (.ifCond .eq 12, 3) := by decide +kernel
theorem dX12_spans_20 : decode cX12_spans 20 = .ok (.iload_n 3, 1) := by decide +kernel
theorem dX12_spans_21 : decode cX12_spans 21 = .ok (.iconst 0, 1) := by decide +kernel
theorem dX12_spans_22 : decode cX12_spans 22 = .ok (.iconst 1, 1) := by decide +kernel
theorem dX12_spans_23 : decode cX12_spans 23 = .ok (.invokestatic 131, 3) := by decide +kernel
theorem dX12_spans_26 : decode cX12_spans 26 = .ok (.ifCond .ne 6, 3) := by decide +kernel
theorem dX12_spans_29 : decode cX12_spans 29 = .ok (.ldc 147, 2) := by decide +kernel
theorem dX12_spans_31 : decode cX12_spans 31 = .ok (.ireturn, 1) := by decide +kernel
theorem dX12_spans_32 : decode cX12_spans 32 = .ok (.aload_n 0, 1) := by decide +kernel
theorem dX12_spans_33 : decode cX12_spans 33 = .ok (.invokevirtual 144, 3) := by decide +kernel
theorem dX12_spans_36 : decode cX12_spans 36 = .ok (.iload_n 3, 1) := by decide +kernel
theorem dX12_spans_37 : decode cX12_spans 37 = .ok (.ifCond .ne 14, 3) := by decide +kernel
theorem dX12_spans_40 : decode cX12_spans 40 = .ok (.aload_n 0, 1) := by decide +kernel
theorem dX12_spans_41 : decode cX12_spans 41 = .ok (.getfield 30, 3) := by decide +kernel
theorem dX12_spans_44 : decode cX12_spans 44 = .ok (.iload_n 2, 1) := by decide +kernel
theorem dX12_spans_45 : decode cX12_spans 45 = .ok (.aaload, 1) := by decide +kernel
theorem dX12_spans_46 : decode cX12_spans 46 = .ok (.iload_n 1, 1) := by decide +kernel
theorem dX12_spans_47 : decode cX12_spans 47 = .ok (.laload, 1) := by decide +kernel
theorem dX12_spans_48 : decode cX12_spans 48 = .ok (.goto 11, 3) := by decide +kernel
theorem dX12_spans_51 : decode cX12_spans 51 = .ok (.aload_n 0, 1) := by decide +kernel
theorem dX12_spans_52 : decode cX12_spans 52 = .ok (.getfield 30, 3) := by decide +kernel
theorem dX12_spans_55 : decode cX12_spans 55 = .ok (.iload_n 1, 1) := by decide +kernel
theorem dX12_spans_56 : decode cX12_spans 56 = .ok (.aaload, 1) := by decide +kernel
theorem dX12_spans_57 : decode cX12_spans 57 = .ok (.iload_n 2, 1) := by decide +kernel
theorem dX12_spans_58 : decode cX12_spans 58 = .ok (.laload, 1) := by decide +kernel
theorem dX12_spans_59 : decode cX12_spans 59 = .ok (.lstore 4, 2) := by decide +kernel
theorem dX12_spans_61 : decode cX12_spans 61 = .ok (.lload 4, 2) := by decide +kernel
theorem dX12_spans_63 : decode cX12_spans 63 = .ok (.ldc2_w 138, 3) := by decide +kernel
theorem dX12_spans_66 : decode cX12_spans 66 = .ok (.lcmp, 1) := by decide +kernel
theorem dX12_spans_67 : decode cX12_spans 67 = .ok (.ifCond .ne 8, 3) := by decide +kernel
theorem dX12_spans_70 : decode cX12_spans 70 = .ok (.ldc 147, 2) := by decide +kernel
theorem dX12_spans_72 : decode cX12_spans 72 = .ok (.goto 16, 3) := by decide +kernel
theorem dX12_spans_75 : decode cX12_spans 75 = .ok (.iload_n 3, 1) := by decide +kernel
theorem dX12_spans_76 : decode cX12_spans 76 = .ok (.ifCond .ne 9, 3) := by decide +kernel
theorem dX12_spans_79 : decode cX12_spans 79 = .ok (.lload 4, 2) := by decide +kernel
theorem dX12_spans_81 : decode cX12_spans 81 = .ok (.lneg, 1) := by decide +kernel
theorem dX12_spans_82 : decode cX12_spans 82 = .ok (.goto 5, 3) := by decide +kernel
theorem dX12_spans_85 : decode cX12_spans 85 = .ok (.lload 4, 2) := by decide +kernel
theorem dX12_spans_87 : decode cX12_spans 87 = .ok (.l2i, 1) := by decide +kernel
theorem dX12_spans_88 : decode cX12_spans 88 = .ok (.ireturn, 1) := by decide +kernel
theorem dX12_quarrel_0 : decode cX12_quarrel 0 = .ok (.iconst 0, 1) := by decide +kernel
theorem dX12_quarrel_1 : decode cX12_quarrel 1 = .ok (.istore_n 1, 1) := by decide +kernel
theorem dX12_quarrel_2 : decode cX12_quarrel 2 = .ok (.iload_n 1, 1) := by decide +kernel
theorem dX12_quarrel_3 : decode cX12_quarrel 3 = .ok (.bipush 40, 2) := by decide +kernel
theorem dX12_quarrel_5 : decode cX12_quarrel 5 = .ok (.if_icmp .ge 28, 3) := by decide +kernel
theorem dX12_quarrel_8 : decode cX12_quarrel 8 = .ok (.aload_n 0, 1) := by decide +kernel
theorem dX12_quarrel_9 : decode cX12_quarrel 9 = .ok (.getfield 33, 3) := by decide +kernel
theorem dX12_quarrel_12 : decode cX12_quarrel 12 = .ok (.iload_n 1, 1) := by decide +kernel
theorem dX12_quarrel_13 : decode cX12_quarrel 13 = .ok (.iload_n 1, 1) := by decide +kernel
theorem dX12_quarrel_14 : decode cX12_quarrel 14 = .ok (.aload_n 0, 1) := by decide +kernel
theorem dX12_quarrel_15 : decode cX12_quarrel 15 = .ok (.getfield 135, 3) := by decide +kernel
theorem dX12_quarrel_18 : decode cX12_quarrel 18 = .ok (.if_icmp .ge 7, 3) := by decide +kernel
theorem dX12_quarrel_21 : decode cX12_quarrel 21 = .ok (.iconst 1, 1) := by decide +kernel
theorem dX12_quarrel_22 : decode cX12_quarrel 22 = .ok (.goto 4, 3) := by decide +kernel
theorem dX12_quarrel_25 : decode cX12_quarrel 25 = .ok (.iconst 0, 1) := by decide +kernel
theorem dX12_quarrel_26 : decode cX12_quarrel 26 = .ok (.bastore, 1) := by decide +kernel
theorem dX12_quarrel_27 : decode cX12_quarrel 27 = .ok (.iinc 1 1, 3) := by decide +kernel
theorem dX12_quarrel_30 : decode cX12_quarrel 30 = .ok (.goto (-28), 3) := by decide +kernel
theorem dX12_quarrel_33 : decode cX12_quarrel 33 = .ok (.aload_n 0, 1) := by decide +kernel
theorem dX12_quarrel_34 : decode cX12_quarrel 34 = .ok (.invokevirtual 140, 3) := by decide +kernel
theorem dX12_quarrel_37 : decode cX12_quarrel 37 = .ok (.ifCond .eq 5, 3) := by decide +kernel
theorem dX12_quarrel_40 : decode cX12_quarrel 40 = .ok (.iconst 0, 1) := by decide +kernel
theorem dX12_quarrel_41 : decode cX12_quarrel 41 = .ok (.ireturn, 1) := by decide +kernel
theorem dX12_quarrel_42 : decode cX12_quarrel 42 = .ok (.aload_n 0, 1) := by decide +kernel
theorem dX12_quarrel_43 : decode cX12_quarrel 43 = .ok (.getfield 135, 3) := by decide +kernel
theorem dX12_quarrel_46 : decode cX12_quarrel 46 = .ok (.istore_n 1, 1) := by decide +kernel
theorem dX12_quarrel_47 : decode cX12_quarrel 47 = .ok (.aload_n 0, 1) := by decide +kernel
theorem dX12_quarrel_48 : decode cX12_quarrel 48 = .ok (.getfield 135, 3) := by decide +kernel
theorem dX12_quarrel_51 : decode cX12_quarrel 51 = .ok (.iconst 1, 1) := by decide +kernel
theorem dX12_quarrel_52 : decode cX12_quarrel 52 = .ok (.isub, 1) := by decide +kernel
theorem dX12_quarrel_53 : decode cX12_quarrel 53 = .ok (.istore_n 2, 1) := by decide +kernel
theorem dX12_quarrel_54 : decode cX12_quarrel 54 = .ok (.iload_n 2, 1) := by decide +kernel
theorem dX12_quarrel_55 : decode cX12_quarrel 55 = .ok (.ifCond .lt 36, 3) := by decide +kernel
theorem dX12_quarrel_58 : decode cX12_quarrel 58 = .ok (.aload_n 0, 1) := by decide +kernel
theorem dX12_quarrel_59 : decode cX12_quarrel 59 = .ok (.getfield 33, 3) := by decide +kernel
theorem dX12_quarrel_62 : decode cX12_quarrel 62 = .ok (.iload_n 2, 1) := by decide +kernel
theorem dX12_quarrel_63 : decode cX12_quarrel 63 = .ok (.iconst 0, 1) := by decide +kernel
theorem dX12_quarrel_64 : decode cX12_quarrel 64 = .ok (.bastore, 1) := by decide +kernel
theorem dX12_quarrel_65 : decode cX12_quarrel 65 = .ok (.aload_n 0, 1) := by decide +kernel
theorem dX12_quarrel_66 : decode cX12_quarrel 66 = .ok (.invokevirtual 140, 3) := by decide +kernel
theorem dX12_quarrel_69 : decode cX12_quarrel 69 = .ok (.ifCond .eq 13, 3) := by decide +kernel
theorem dX12_quarrel_72 : decode cX12_quarrel 72 = .ok (.aload_n 0, 1) := by decide +kernel
theorem dX12_quarrel_73 : decode cX12_quarrel 73 = .ok (.getfield 33, 3) := by decide +kernel
theorem dX12_quarrel_76 : decode cX12_quarrel 76 = .ok (.iload_n 2, 1) := by decide +kernel
theorem dX12_quarrel_77 : decode cX12_quarrel 77 = .ok (.iconst 1, 1) := by decide +kernel
theorem dX12_quarrel_78 : decode cX12_quarrel 78 = .ok (.bastore, 1) := by decide +kernel
theorem dX12_quarrel_79 : decode cX12_quarrel 79 = .ok (.goto 6, 3) := by decide +kernel
theorem dX12_quarrel_82 : decode cX12_quarrel 82 = .ok (.iinc 1 (-1), 3) := by decide +kernel
theorem dX12_quarrel_85 : decode cX12_quarrel 85 = .ok (.iinc 2 (-1), 3) := by decide +kernel
theorem dX12_quarrel_88 : decode cX12_quarrel 88 = .ok (.goto (-34), 3) := by decide +kernel
theorem dX12_quarrel_91 : decode cX12_quarrel 91 = .ok (.iload_n 1, 1) := by decide +kernel
theorem dX12_quarrel_92 : decode cX12_quarrel 92 = .ok (.ireturn, 1) := by decide +kernel
theorem dX12_quarrels_0 : decode cX12_quarrels 0 = .ok (.aload_n 0, 1) := by decide +kernel
theorem dX12_quarrels_1 : decode cX12_quarrels 1 = .ok (.invokevirtual 148, 3) := by decide +kernel
theorem dX12_quarrels_4 : decode cX12_quarrels 4 = .ok (.istore_n 2, 1) := by decide +kernel
theorem dX12_quarrels_5 : decode cX12_quarrels 5 = .ok (.iload_n 1, 1) := by decide +kernel
theorem dX12_quarrels_6 : decode cX12_quarrels 6 = .ok (.iconst 0, 1) := by decide +kernel
theorem dX12_quarrels_7 : decode cX12_quarrels 7 = .ok (.iload_n 2, 1) := by decide +kernel
theorem dX12_quarrels_8 : decode cX12_quarrels 8 = .ok (.iconst 1, 1) := by decide +kernel
theorem dX12_quarrels_9 : decode cX12_quarrels 9 = .ok (.isub, 1) := by decide +kernel
theorem dX12_quarrels_10 : decode cX12_quarrels 10 = .ok (.invokestatic 131, 3) := by decide +kernel
theorem dX12_quarrels_13 : decode cX12_quarrels 13 = .ok (.ifCond .ne 5, 3) := by decide +kernel
theorem dX12_quarrels_16 : decode cX12_quarrels 16 = .ok (.iconst (-1), 1) := by decide +kernel
theorem dX12_quarrels_17 : decode cX12_quarrels 17 = .ok (.ireturn, 1) := by decide +kernel
theorem dX12_quarrels_18 : decode cX12_quarrels 18 = .ok (.iload_n 1, 1) := by decide +kernel
theorem dX12_quarrels_19 : decode cX12_quarrels 19 = .ok (.istore_n 3, 1) := by decide +kernel
theorem dX12_quarrels_20 : decode cX12_quarrels 20 = .ok (.iconst 0, 1) := by decide +kernel
theorem dX12_quarrels_21 : decode cX12_quarrels 21 = .ok (.istore 4, 2) := by decide +kernel
theorem dX12_quarrels_23 : decode cX12_quarrels 23 = .ok (.iload 4, 2) := by decide +kernel
theorem dX12_quarrels_25 : decode cX12_quarrels 25 = .ok (.aload_n 0, 1) := by decide +kernel
theorem dX12_quarrels_26 : decode cX12_quarrels 26 = .ok (.getfield 135, 3) := by decide +kernel
theorem dX12_quarrels_29 : decode cX12_quarrels 29 = .ok (.if_icmp .ge 29, 3) := by decide +kernel
theorem dX12_quarrels_32 : decode cX12_quarrels 32 = .ok (.aload_n 0, 1) := by decide +kernel
theorem dX12_quarrels_33 : decode cX12_quarrels 33 = .ok (.getfield 33, 3) := by decide +kernel
theorem dX12_quarrels_36 : decode cX12_quarrels 36 = .ok (.iload 4, 2) := by decide +kernel
theorem dX12_quarrels_38 : decode cX12_quarrels 38 = .ok (.baload, 1) := by decide +kernel
theorem dX12_quarrels_39 : decode cX12_quarrels 39 = .ok (.ifCond .eq 13, 3) := by decide +kernel
theorem dX12_quarrels_42 : decode cX12_quarrels 42 = .ok (.iload_n 3, 1) := by decide +kernel
theorem dX12_quarrels_43 : decode cX12_quarrels 43 = .ok (.ifCond .ne 6, 3) := by decide +kernel
theorem dX12_quarrels_46 : decode cX12_quarrels 46 = .ok (.iload 4, 2) := by decide +kernel
theorem dX12_quarrels_48 : decode cX12_quarrels 48 = .ok (.ireturn, 1) := by decide +kernel
theorem dX12_quarrels_49 : decode cX12_quarrels 49 = .ok (.iinc 3 (-1), 3) := by decide +kernel
theorem dX12_quarrels_52 : decode cX12_quarrels 52 = .ok (.iinc 4 1, 3) := by decide +kernel
theorem dX12_quarrels_55 : decode cX12_quarrels 55 = .ok (.goto (-32), 3) := by decide +kernel
theorem dX12_quarrels_58 : decode cX12_quarrels 58 = .ok (.iconst (-1), 1) := by decide +kernel
theorem dX12_quarrels_59 : decode cX12_quarrels 59 = .ok (.ireturn, 1) := by decide +kernel
theorem dX12_value_0 : decode cX12_value 0 = .ok (.aload_n 0, 1) := by decide +kernel
theorem dX12_value_1 : decode cX12_value 1 = .ok (.getfield 152, 3) := by decide +kernel
theorem dX12_value_4 : decode cX12_value 4 = .ok (.bipush 60, 2) := by decide +kernel
theorem dX12_value_6 : decode cX12_value 6 = .ok (.if_icmp .eq 45, 3) := by decide +kernel
theorem dX12_value_9 : decode cX12_value 9 = .ok (.iload_n 1, 1) := by decide +kernel
theorem dX12_value_10 : decode cX12_value 10 = .ok (.iconst 0, 1) := by decide +kernel
theorem dX12_value_11 : decode cX12_value 11 = .ok (.bipush 9, 2) := by decide +kernel
theorem dX12_value_13 : decode cX12_value 13 = .ok (.invokestatic 131, 3) := by decide +kernel
theorem dX12_value_16 : decode cX12_value 16 = .ok (.ifCond .eq 35, 3) := by decide +kernel
theorem dX12_value_19 : decode cX12_value 19 = .ok (.iload_n 2, 1) := by decide +kernel
theorem dX12_value_20 : decode cX12_value 20 = .ok (.iconst 0, 1) := by decide +kernel
theorem dX12_value_21 : decode cX12_value 21 = .ok (.ldc 155, 2) := by decide +kernel
theorem dX12_value_23 : decode cX12_value 23 = .ok (.invokestatic 131, 3) := by decide +kernel
theorem dX12_value_26 : decode cX12_value 26 = .ok (.ifCond .eq 25, 3) := by decide +kernel
theorem dX12_value_29 : decode cX12_value 29 = .ok (.iload_n 3, 1) := by decide +kernel
theorem dX12_value_30 : decode cX12_value 30 = .ok (.iconst 0, 1) := by decide +kernel
theorem dX12_value_31 : decode cX12_value 31 = .ok (.ldc 155, 2) := by decide +kernel
theorem dX12_value_33 : decode cX12_value 33 = .ok (.invokestatic 131, 3) := by decide +kernel
theorem dX12_value_36 : decode cX12_value 36 = .ok (.ifCond .eq 15, 3) := by decide +kernel
theorem dX12_value_39 : decode cX12_value 39 = .ok (.iload 4, 2) := by decide +kernel
theorem dX12_value_41 : decode cX12_value 41 = .ok (.iconst 0, 1) := by decide +kernel
theorem dX12_value_42 : decode cX12_value 42 = .ok (.sipush 5000, 3) := by decide +kernel
theorem dX12_value_45 : decode cX12_value 45 = .ok (.invokestatic 131, 3) := by decide +kernel
theorem dX12_value_48 : decode cX12_value 48 = .ok (.ifCond .ne 5, 3) := by decide +kernel
theorem dX12_value_51 : decode cX12_value 51 = .ok (.iconst (-1), 1) := by decide +kernel
theorem dX12_value_52 : decode cX12_value 52 = .ok (.ireturn, 1) := by decide +kernel
theorem dX12_value_53 : decode cX12_value 53 = .ok (.aload_n 0, 1) := by decide +kernel
theorem dX12_value_54 : decode cX12_value 54 = .ok (.getfield 37, 3) := by decide +kernel
theorem dX12_value_57 : decode cX12_value 57 = .ok (.aload_n 0, 1) := by decide +kernel
theorem dX12_value_58 : decode cX12_value 58 = .ok (.getfield 152, 3) := by decide +kernel
theorem dX12_value_61 : decode cX12_value 61 = .ok (.iload_n 1, 1) := by decide +kernel
theorem dX12_value_62 : decode cX12_value 62 = .ok (.iastore, 1) := by decide +kernel
theorem dX12_value_63 : decode cX12_value 63 = .ok (.aload_n 0, 1) := by decide +kernel
theorem dX12_value_64 : decode cX12_value 64 = .ok (.getfield 40, 3) := by decide +kernel
theorem dX12_value_67 : decode cX12_value 67 = .ok (.aload_n 0, 1) := by decide +kernel
theorem dX12_value_68 : decode cX12_value 68 = .ok (.getfield 152, 3) := by decide +kernel
theorem dX12_value_71 : decode cX12_value 71 = .ok (.iload_n 2, 1) := by decide +kernel
theorem dX12_value_72 : decode cX12_value 72 = .ok (.iastore, 1) := by decide +kernel
theorem dX12_value_73 : decode cX12_value 73 = .ok (.aload_n 0, 1) := by decide +kernel
theorem dX12_value_74 : decode cX12_value 74 = .ok (.getfield 43, 3) := by decide +kernel
theorem dX12_value_77 : decode cX12_value 77 = .ok (.aload_n 0, 1) := by decide +kernel
theorem dX12_value_78 : decode cX12_value 78 = .ok (.getfield 152, 3) := by decide +kernel
theorem dX12_value_81 : decode cX12_value 81 = .ok (.iload_n 3, 1) := by decide +kernel
theorem dX12_value_82 : decode cX12_value 82 = .ok (.iastore, 1) := by decide +kernel
theorem dX12_value_83 : decode cX12_value 83 = .ok (.aload_n 0, 1) := by decide +kernel
theorem dX12_value_84 : decode cX12_value 84 = .ok (.getfield 46, 3) := by decide +kernel
theorem dX12_value_87 : decode cX12_value 87 = .ok (.aload_n 0, 1) := by decide +kernel
theorem dX12_value_88 : decode cX12_value 88 = .ok (.getfield 152, 3) := by decide +kernel
theorem dX12_value_91 : decode cX12_value 91 = .ok (.iload 4, 2) := by decide +kernel
theorem dX12_value_93 : decode cX12_value 93 = .ok (.iastore, 1) := by decide +kernel
theorem dX12_value_94 : decode cX12_value 94 = .ok (.aload_n 0, 1) := by decide +kernel
theorem dX12_value_95 : decode cX12_value 95 = .ok (.getfield 49, 3) := by decide +kernel
theorem dX12_value_98 : decode cX12_value 98 = .ok (.aload_n 0, 1) := by decide +kernel
theorem dX12_value_99 : decode cX12_value 99 = .ok (.getfield 152, 3) := by decide +kernel
theorem dX12_value_102 : decode cX12_value 102 = .ok (.aload_n 0, 1) := by decide +kernel
theorem dX12_value_103 : decode cX12_value 103 = .ok (.getfield 128, 3) := by decide +kernel
theorem dX12_value_106 : decode cX12_value 106 = .ok (.iastore, 1) := by decide +kernel
theorem dX12_value_107 : decode cX12_value 107 = .ok (.aload_n 0, 1) := by decide +kernel
theorem dX12_value_108 : decode cX12_value 108 = .ok (.dup, 1) := by decide +kernel
theorem dX12_value_109 : decode cX12_value 109 = .ok (.getfield 152, 3) := by decide +kernel
theorem dX12_value_112 : decode cX12_value 112 = .ok (.iconst 1, 1) := by decide +kernel
theorem dX12_value_113 : decode cX12_value 113 = .ok (.iadd, 1) := by decide +kernel
theorem dX12_value_114 : decode cX12_value 114 = .ok (.putfield 152, 3) := by decide +kernel
theorem dX12_value_117 : decode cX12_value 117 = .ok (.aload_n 0, 1) := by decide +kernel
theorem dX12_value_118 : decode cX12_value 118 = .ok (.getfield 152, 3) := by decide +kernel
theorem dX12_value_121 : decode cX12_value 121 = .ok (.ireturn, 1) := by decide +kernel
theorem dX12_saved_0 : decode cX12_saved 0 = .ok (.iload_n 1, 1) := by decide +kernel
theorem dX12_saved_1 : decode cX12_saved 1 = .ok (.iconst 0, 1) := by decide +kernel
theorem dX12_saved_2 : decode cX12_saved 2 = .ok (.bipush 9, 2) := by decide +kernel
theorem dX12_saved_4 : decode cX12_saved 4 = .ok (.invokestatic 131, 3) := by decide +kernel
theorem dX12_saved_7 : decode cX12_saved 7 = .ok (.ifCond .eq 25, 3) := by decide +kernel
theorem dX12_saved_10 : decode cX12_saved 10 = .ok (.iload_n 2, 1) := by decide +kernel
theorem dX12_saved_11 : decode cX12_saved 11 = .ok (.iconst 0, 1) := by decide +kernel
theorem dX12_saved_12 : decode cX12_saved 12 = .ok (.sipush 5000, 3) := by decide +kernel
theorem dX12_saved_15 : decode cX12_saved 15 = .ok (.invokestatic 131, 3) := by decide +kernel
theorem dX12_saved_18 : decode cX12_saved 18 = .ok (.ifCond .eq 14, 3) := by decide +kernel
theorem dX12_saved_21 : decode cX12_saved 21 = .ok (.iload_n 3, 1) := by decide +kernel
theorem dX12_saved_22 : decode cX12_saved 22 = .ok (.iconst 0, 1) := by decide +kernel
theorem dX12_saved_23 : decode cX12_saved 23 = .ok (.sipush 5000, 3) := by decide +kernel
theorem dX12_saved_26 : decode cX12_saved 26 = .ok (.invokestatic 131, 3) := by decide +kernel
theorem dX12_saved_29 : decode cX12_saved 29 = .ok (.ifCond .ne 5, 3) := by decide +kernel
theorem dX12_saved_32 : decode cX12_saved 32 = .ok (.iconst (-1), 1) := by decide +kernel
theorem dX12_saved_33 : decode cX12_saved 33 = .ok (.ireturn, 1) := by decide +kernel
theorem dX12_saved_34 : decode cX12_saved 34 = .ok (.iconst (-1), 1) := by decide +kernel
theorem dX12_saved_35 : decode cX12_saved 35 = .ok (.istore 4, 2) := by decide +kernel
theorem dX12_saved_37 : decode cX12_saved 37 = .ok (.iconst 0, 1) := by decide +kernel
theorem dX12_saved_38 : decode cX12_saved 38 = .ok (.istore 5, 2) := by decide +kernel
theorem dX12_saved_40 : decode cX12_saved 40 = .ok (.iload 5, 2) := by decide +kernel
theorem dX12_saved_42 : decode cX12_saved 42 = .ok (.aload_n 0, 1) := by decide +kernel
theorem dX12_saved_43 : decode cX12_saved 43 = .ok (.getfield 152, 3) := by decide +kernel
theorem dX12_saved_46 : decode cX12_saved 46 = .ok (.if_icmp .ge 69, 3) := by decide +kernel
theorem dX12_saved_49 : decode cX12_saved 49 = .ok (.aload_n 0, 1) := by decide +kernel
theorem dX12_saved_50 : decode cX12_saved 50 = .ok (.getfield 37, 3) := by decide +kernel
theorem dX12_saved_53 : decode cX12_saved 53 = .ok (.iload 5, 2) := by decide +kernel
theorem dX12_saved_55 : decode cX12_saved 55 = .ok (.iaload, 1) := by decide +kernel
theorem dX12_saved_56 : decode cX12_saved 56 = .ok (.iload_n 1, 1) := by decide +kernel
theorem dX12_saved_57 : decode cX12_saved 57 = .ok (.if_icmp .ne 52, 3) := by decide +kernel
theorem dX12_saved_60 : decode cX12_saved 60 = .ok (.aload_n 0, 1) := by decide +kernel
theorem dX12_saved_61 : decode cX12_saved 61 = .ok (.getfield 49, 3) := by decide +kernel
theorem dX12_saved_64 : decode cX12_saved 64 = .ok (.iload 5, 2) := by decide +kernel
theorem dX12_saved_66 : decode cX12_saved 66 = .ok (.iaload, 1) := by decide +kernel
theorem dX12_saved_67 : decode cX12_saved 67 = .ok (.iload_n 2, 1) := by decide +kernel
theorem dX12_saved_68 : decode cX12_saved 68 = .ok (.if_icmp .gt 41, 3) := by decide +kernel
theorem dX12_saved_71 : decode cX12_saved 71 = .ok (.aload_n 0, 1) := by decide +kernel
theorem dX12_saved_72 : decode cX12_saved 72 = .ok (.getfield 46, 3) := by decide +kernel
theorem dX12_saved_75 : decode cX12_saved 75 = .ok (.iload 5, 2) := by decide +kernel
theorem dX12_saved_77 : decode cX12_saved 77 = .ok (.iaload, 1) := by decide +kernel
theorem dX12_saved_78 : decode cX12_saved 78 = .ok (.iload_n 3, 1) := by decide +kernel
theorem dX12_saved_79 : decode cX12_saved 79 = .ok (.if_icmp .gt 30, 3) := by decide +kernel
theorem dX12_saved_82 : decode cX12_saved 82 = .ok (.iload 4, 2) := by decide +kernel
theorem dX12_saved_84 : decode cX12_saved 84 = .ok (.iconst (-1), 1) := by decide +kernel
theorem dX12_saved_85 : decode cX12_saved 85 = .ok (.if_icmp .eq 20, 3) := by decide +kernel
theorem dX12_saved_88 : decode cX12_saved 88 = .ok (.aload_n 0, 1) := by decide +kernel
theorem dX12_saved_89 : decode cX12_saved 89 = .ok (.getfield 46, 3) := by decide +kernel
theorem dX12_saved_92 : decode cX12_saved 92 = .ok (.iload 5, 2) := by decide +kernel
theorem dX12_saved_94 : decode cX12_saved 94 = .ok (.iaload, 1) := by decide +kernel
theorem dX12_saved_95 : decode cX12_saved 95 = .ok (.aload_n 0, 1) := by decide +kernel
theorem dX12_saved_96 : decode cX12_saved 96 = .ok (.getfield 46, 3) := by decide +kernel
theorem dX12_saved_99 : decode cX12_saved 99 = .ok (.iload 4, 2) := by decide +kernel
theorem dX12_saved_101 : decode cX12_saved 101 = .ok (.iaload, 1) := by decide +kernel
theorem dX12_saved_102 : decode cX12_saved 102 = .ok (.if_icmp .lt 7, 3) := by decide +kernel
theorem dX12_saved_105 : decode cX12_saved 105 = .ok (.iload 5, 2) := by decide +kernel
theorem dX12_saved_107 : decode cX12_saved 107 = .ok (.istore 4, 2) := by decide +kernel
theorem dX12_saved_109 : decode cX12_saved 109 = .ok (.iinc 5 1, 3) := by decide +kernel
theorem dX12_saved_112 : decode cX12_saved 112 = .ok (.goto (-72), 3) := by decide +kernel
theorem dX12_saved_115 : decode cX12_saved 115 = .ok (.iload 4, 2) := by decide +kernel
theorem dX12_saved_117 : decode cX12_saved 117 = .ok (.iconst (-1), 1) := by decide +kernel
theorem dX12_saved_118 : decode cX12_saved 118 = .ok (.if_icmp .eq 20, 3) := by decide +kernel
theorem dX12_saved_121 : decode cX12_saved 121 = .ok (.aload_n 0, 1) := by decide +kernel
theorem dX12_saved_122 : decode cX12_saved 122 = .ok (.getfield 40, 3) := by decide +kernel
theorem dX12_saved_125 : decode cX12_saved 125 = .ok (.iload 4, 2) := by decide +kernel
theorem dX12_saved_127 : decode cX12_saved 127 = .ok (.iaload, 1) := by decide +kernel
theorem dX12_saved_128 : decode cX12_saved 128 = .ok (.aload_n 0, 1) := by decide +kernel
theorem dX12_saved_129 : decode cX12_saved 129 = .ok (.getfield 43, 3) := by decide +kernel
theorem dX12_saved_132 : decode cX12_saved 132 = .ok (.iload 4, 2) := by decide +kernel
theorem dX12_saved_134 : decode cX12_saved 134 = .ok (.iaload, 1) := by decide +kernel
theorem dX12_saved_135 : decode cX12_saved 135 = .ok (.if_icmp .ge 7, 3) := by decide +kernel
theorem dX12_saved_138 : decode cX12_saved 138 = .ok (.iconst 0, 1) := by decide +kernel
theorem dX12_saved_139 : decode cX12_saved 139 = .ok (.goto 18, 3) := by decide +kernel
theorem dX12_saved_142 : decode cX12_saved 142 = .ok (.aload_n 0, 1) := by decide +kernel
theorem dX12_saved_143 : decode cX12_saved 143 = .ok (.getfield 40, 3) := by decide +kernel
theorem dX12_saved_146 : decode cX12_saved 146 = .ok (.iload 4, 2) := by decide +kernel
theorem dX12_saved_148 : decode cX12_saved 148 = .ok (.iaload, 1) := by decide +kernel
theorem dX12_saved_149 : decode cX12_saved 149 = .ok (.aload_n 0, 1) := by decide +kernel
theorem dX12_saved_150 : decode cX12_saved 150 = .ok (.getfield 43, 3) := by decide +kernel
theorem dX12_saved_153 : decode cX12_saved 153 = .ok (.iload 4, 2) := by decide +kernel
theorem dX12_saved_155 : decode cX12_saved 155 = .ok (.iaload, 1) := by decide +kernel
theorem dX12_saved_156 : decode cX12_saved 156 = .ok (.isub, 1) := by decide +kernel
theorem dX12_saved_157 : decode cX12_saved 157 = .ok (.ireturn, 1) := by decide +kernel
theorem dX12_earlier_0 : decode cX12_earlier 0 = .ok (.aload_n 0, 1) := by decide +kernel
theorem dX12_earlier_1 : decode cX12_earlier 1 = .ok (.getfield 156, 3) := by decide +kernel
theorem dX12_earlier_4 : decode cX12_earlier 4 = .ok (.bipush 40, 2) := by decide +kernel
theorem dX12_earlier_6 : decode cX12_earlier 6 = .ok (.if_icmp .eq 35, 3) := by decide +kernel
theorem dX12_earlier_9 : decode cX12_earlier 9 = .ok (.iload_n 1, 1) := by decide +kernel
theorem dX12_earlier_10 : decode cX12_earlier 10 = .ok (.iconst 0, 1) := by decide +kernel
theorem dX12_earlier_11 : decode cX12_earlier 11 = .ok (.ldc 159, 2) := by decide +kernel
theorem dX12_earlier_13 : decode cX12_earlier 13 = .ok (.invokestatic 131, 3) := by decide +kernel
theorem dX12_earlier_16 : decode cX12_earlier 16 = .ok (.ifCond .eq 25, 3) := by decide +kernel
theorem dX12_earlier_19 : decode cX12_earlier 19 = .ok (.iload_n 2, 1) := by decide +kernel
theorem dX12_earlier_20 : decode cX12_earlier 20 = .ok (.iconst 0, 1) := by decide +kernel
theorem dX12_earlier_21 : decode cX12_earlier 21 = .ok (.sipush 1000, 3) := by decide +kernel
theorem dX12_earlier_24 : decode cX12_earlier 24 = .ok (.invokestatic 131, 3) := by decide +kernel
theorem dX12_earlier_27 : decode cX12_earlier 27 = .ok (.ifCond .eq 14, 3) := by decide +kernel
theorem dX12_earlier_30 : decode cX12_earlier 30 = .ok (.iload_n 3, 1) := by decide +kernel
theorem dX12_earlier_31 : decode cX12_earlier 31 = .ok (.iconst 0, 1) := by decide +kernel
theorem dX12_earlier_32 : decode cX12_earlier 32 = .ok (.sipush 5000, 3) := by decide +kernel
theorem dX12_earlier_35 : decode cX12_earlier 35 = .ok (.invokestatic 131, 3) := by decide +kernel
theorem dX12_earlier_38 : decode cX12_earlier 38 = .ok (.ifCond .ne 5, 3) := by decide +kernel
theorem dX12_earlier_41 : decode cX12_earlier 41 = .ok (.iconst (-1), 1) := by decide +kernel
theorem dX12_earlier_42 : decode cX12_earlier 42 = .ok (.ireturn, 1) := by decide +kernel
theorem dX12_earlier_43 : decode cX12_earlier 43 = .ok (.aload_n 0, 1) := by decide +kernel
theorem dX12_earlier_44 : decode cX12_earlier 44 = .ok (.getfield 52, 3) := by decide +kernel
theorem dX12_earlier_47 : decode cX12_earlier 47 = .ok (.aload_n 0, 1) := by decide +kernel
theorem dX12_earlier_48 : decode cX12_earlier 48 = .ok (.getfield 156, 3) := by decide +kernel
theorem dX12_earlier_51 : decode cX12_earlier 51 = .ok (.iload_n 1, 1) := by decide +kernel
theorem dX12_earlier_52 : decode cX12_earlier 52 = .ok (.iastore, 1) := by decide +kernel
theorem dX12_earlier_53 : decode cX12_earlier 53 = .ok (.aload_n 0, 1) := by decide +kernel
theorem dX12_earlier_54 : decode cX12_earlier 54 = .ok (.getfield 55, 3) := by decide +kernel
theorem dX12_earlier_57 : decode cX12_earlier 57 = .ok (.aload_n 0, 1) := by decide +kernel
theorem dX12_earlier_58 : decode cX12_earlier 58 = .ok (.getfield 156, 3) := by decide +kernel
theorem dX12_earlier_61 : decode cX12_earlier 61 = .ok (.iload_n 2, 1) := by decide +kernel
theorem dX12_earlier_62 : decode cX12_earlier 62 = .ok (.iastore, 1) := by decide +kernel
theorem dX12_earlier_63 : decode cX12_earlier 63 = .ok (.aload_n 0, 1) := by decide +kernel
theorem dX12_earlier_64 : decode cX12_earlier 64 = .ok (.getfield 58, 3) := by decide +kernel
theorem dX12_earlier_67 : decode cX12_earlier 67 = .ok (.aload_n 0, 1) := by decide +kernel
theorem dX12_earlier_68 : decode cX12_earlier 68 = .ok (.getfield 156, 3) := by decide +kernel
theorem dX12_earlier_71 : decode cX12_earlier 71 = .ok (.iload_n 3, 1) := by decide +kernel
theorem dX12_earlier_72 : decode cX12_earlier 72 = .ok (.iastore, 1) := by decide +kernel
theorem dX12_earlier_73 : decode cX12_earlier 73 = .ok (.aload_n 0, 1) := by decide +kernel
theorem dX12_earlier_74 : decode cX12_earlier 74 = .ok (.getfield 61, 3) := by decide +kernel
theorem dX12_earlier_77 : decode cX12_earlier 77 = .ok (.aload_n 0, 1) := by decide +kernel
theorem dX12_earlier_78 : decode cX12_earlier 78 = .ok (.getfield 156, 3) := by decide +kernel
theorem dX12_earlier_81 : decode cX12_earlier 81 = .ok (.aload_n 0, 1) := by decide +kernel
theorem dX12_earlier_82 : decode cX12_earlier 82 = .ok (.getfield 128, 3) := by decide +kernel
theorem dX12_earlier_85 : decode cX12_earlier 85 = .ok (.iastore, 1) := by decide +kernel
theorem dX12_earlier_86 : decode cX12_earlier 86 = .ok (.aload_n 0, 1) := by decide +kernel
theorem dX12_earlier_87 : decode cX12_earlier 87 = .ok (.getfield 64, 3) := by decide +kernel
theorem dX12_earlier_90 : decode cX12_earlier 90 = .ok (.aload_n 0, 1) := by decide +kernel
theorem dX12_earlier_91 : decode cX12_earlier 91 = .ok (.getfield 156, 3) := by decide +kernel
theorem dX12_earlier_94 : decode cX12_earlier 94 = .ok (.iconst (-1), 1) := by decide +kernel
theorem dX12_earlier_95 : decode cX12_earlier 95 = .ok (.iastore, 1) := by decide +kernel
theorem dX12_earlier_96 : decode cX12_earlier 96 = .ok (.aload_n 0, 1) := by decide +kernel
theorem dX12_earlier_97 : decode cX12_earlier 97 = .ok (.dup, 1) := by decide +kernel
theorem dX12_earlier_98 : decode cX12_earlier 98 = .ok (.getfield 156, 3) := by decide +kernel
theorem dX12_earlier_101 : decode cX12_earlier 101 = .ok (.iconst 1, 1) := by decide +kernel
theorem dX12_earlier_102 : decode cX12_earlier 102 = .ok (.iadd, 1) := by decide +kernel
theorem dX12_earlier_103 : decode cX12_earlier 103 = .ok (.putfield 156, 3) := by decide +kernel
theorem dX12_earlier_106 : decode cX12_earlier 106 = .ok (.aload_n 0, 1) := by decide +kernel
theorem dX12_earlier_107 : decode cX12_earlier 107 = .ok (.getfield 156, 3) := by decide +kernel
theorem dX12_earlier_110 : decode cX12_earlier 110 = .ok (.iconst 1, 1) := by decide +kernel
theorem dX12_earlier_111 : decode cX12_earlier 111 = .ok (.isub, 1) := by decide +kernel
theorem dX12_earlier_112 : decode cX12_earlier 112 = .ok (.ireturn, 1) := by decide +kernel
theorem dX12_overrule_0 : decode cX12_overrule 0 = .ok (.iload_n 1, 1) := by decide +kernel
theorem dX12_overrule_1 : decode cX12_overrule 1 = .ok (.iconst 0, 1) := by decide +kernel
theorem dX12_overrule_2 : decode cX12_overrule 2 = .ok (.aload_n 0, 1) := by decide +kernel
theorem dX12_overrule_3 : decode cX12_overrule 3 = .ok (.getfield 156, 3) := by decide +kernel
theorem dX12_overrule_6 : decode cX12_overrule 6 = .ok (.iconst 1, 1) := by decide +kernel
theorem dX12_overrule_7 : decode cX12_overrule 7 = .ok (.isub, 1) := by decide +kernel
theorem dX12_overrule_8 : decode cX12_overrule 8 = .ok (.invokestatic 131, 3) := by decide +kernel
theorem dX12_overrule_11 : decode cX12_overrule 11 = .ok (.ifCond .eq 24, 3) := by decide +kernel
theorem dX12_overrule_14 : decode cX12_overrule 14 = .ok (.iload_n 2, 1) := by decide +kernel
theorem dX12_overrule_15 : decode cX12_overrule 15 = .ok (.iconst 0, 1) := by decide +kernel
theorem dX12_overrule_16 : decode cX12_overrule 16 = .ok (.sipush 5000, 3) := by decide +kernel
theorem dX12_overrule_19 : decode cX12_overrule 19 = .ok (.invokestatic 131, 3) := by decide +kernel
theorem dX12_overrule_22 : decode cX12_overrule 22 = .ok (.ifCond .eq 13, 3) := by decide +kernel
theorem dX12_overrule_25 : decode cX12_overrule 25 = .ok (.aload_n 0, 1) := by decide +kernel
theorem dX12_overrule_26 : decode cX12_overrule 26 = .ok (.getfield 64, 3) := by decide +kernel
theorem dX12_overrule_29 : decode cX12_overrule 29 = .ok (.iload_n 1, 1) := by decide +kernel
theorem dX12_overrule_30 : decode cX12_overrule 30 = .ok (.iaload, 1) := by decide +kernel
theorem dX12_overrule_31 : decode cX12_overrule 31 = .ok (.iconst (-1), 1) := by decide +kernel
theorem dX12_overrule_32 : decode cX12_overrule 32 = .ok (.if_icmp .eq 5, 3) := by decide +kernel
theorem dX12_overrule_35 : decode cX12_overrule 35 = .ok (.iconst 0, 1) := by decide +kernel
theorem dX12_overrule_36 : decode cX12_overrule 36 = .ok (.ireturn, 1) := by decide +kernel
theorem dX12_overrule_37 : decode cX12_overrule 37 = .ok (.aload_n 0, 1) := by decide +kernel
theorem dX12_overrule_38 : decode cX12_overrule 38 = .ok (.getfield 64, 3) := by decide +kernel
theorem dX12_overrule_41 : decode cX12_overrule 41 = .ok (.iload_n 1, 1) := by decide +kernel
theorem dX12_overrule_42 : decode cX12_overrule 42 = .ok (.iload_n 2, 1) := by decide +kernel
theorem dX12_overrule_43 : decode cX12_overrule 43 = .ok (.iastore, 1) := by decide +kernel
theorem dX12_overrule_44 : decode cX12_overrule 44 = .ok (.aload_n 0, 1) := by decide +kernel
theorem dX12_overrule_45 : decode cX12_overrule 45 = .ok (.getfield 67, 3) := by decide +kernel
theorem dX12_overrule_48 : decode cX12_overrule 48 = .ok (.iload_n 1, 1) := by decide +kernel
theorem dX12_overrule_49 : decode cX12_overrule 49 = .ok (.aload_n 0, 1) := by decide +kernel
theorem dX12_overrule_50 : decode cX12_overrule 50 = .ok (.getfield 128, 3) := by decide +kernel
theorem dX12_overrule_53 : decode cX12_overrule 53 = .ok (.iastore, 1) := by decide +kernel
theorem dX12_overrule_54 : decode cX12_overrule 54 = .ok (.iconst 1, 1) := by decide +kernel
theorem dX12_overrule_55 : decode cX12_overrule 55 = .ok (.ireturn, 1) := by decide +kernel
theorem dX12_suit_0 : decode cX12_suit 0 = .ok (.iload_n 1, 1) := by decide +kernel
theorem dX12_suit_1 : decode cX12_suit 1 = .ok (.iconst 0, 1) := by decide +kernel
theorem dX12_suit_2 : decode cX12_suit 2 = .ok (.ldc 159, 2) := by decide +kernel
theorem dX12_suit_4 : decode cX12_suit 4 = .ok (.invokestatic 131, 3) := by decide +kernel
theorem dX12_suit_7 : decode cX12_suit 7 = .ok (.ifCond .eq 13, 3) := by decide +kernel
theorem dX12_suit_10 : decode cX12_suit 10 = .ok (.iload_n 2, 1) := by decide +kernel
theorem dX12_suit_11 : decode cX12_suit 11 = .ok (.iconst 0, 1) := by decide +kernel
theorem dX12_suit_12 : decode cX12_suit 12 = .ok (.bipush 99, 2) := by decide +kernel
theorem dX12_suit_14 : decode cX12_suit 14 = .ok (.invokestatic 131, 3) := by decide +kernel
theorem dX12_suit_17 : decode cX12_suit 17 = .ok (.ifCond .ne 5, 3) := by decide +kernel
theorem dX12_suit_20 : decode cX12_suit 20 = .ok (.iconst 0, 1) := by decide +kernel
theorem dX12_suit_21 : decode cX12_suit 21 = .ok (.ireturn, 1) := by decide +kernel
theorem dX12_suit_22 : decode cX12_suit 22 = .ok (.aload_n 0, 1) := by decide +kernel
theorem dX12_suit_23 : decode cX12_suit 23 = .ok (.iload_n 1, 1) := by decide +kernel
theorem dX12_suit_24 : decode cX12_suit 24 = .ok (.putfield 160, 3) := by decide +kernel
theorem dX12_suit_27 : decode cX12_suit 27 = .ok (.aload_n 0, 1) := by decide +kernel
theorem dX12_suit_28 : decode cX12_suit 28 = .ok (.iload_n 2, 1) := by decide +kernel
theorem dX12_suit_29 : decode cX12_suit 29 = .ok (.putfield 163, 3) := by decide +kernel
theorem dX12_suit_32 : decode cX12_suit 32 = .ok (.iconst 1, 1) := by decide +kernel
theorem dX12_suit_33 : decode cX12_suit 33 = .ok (.ireturn, 1) := by decide +kernel
theorem dX12_feed_0 : decode cX12_feed 0 = .ok (.aload_n 0, 1) := by decide +kernel
theorem dX12_feed_1 : decode cX12_feed 1 = .ok (.getfield 166, 3) := by decide +kernel
theorem dX12_feed_4 : decode cX12_feed 4 = .ok (.bipush 20, 2) := by decide +kernel
theorem dX12_feed_6 : decode cX12_feed 6 = .ok (.iadd, 1) := by decide +kernel
theorem dX12_feed_7 : decode cX12_feed 7 = .ok (.sipush 300, 3) := by decide +kernel
theorem dX12_feed_10 : decode cX12_feed 10 = .ok (.if_icmp .le 5, 3) := by decide +kernel
theorem dX12_feed_13 : decode cX12_feed 13 = .ok (.iconst (-1), 1) := by decide +kernel
theorem dX12_feed_14 : decode cX12_feed 14 = .ok (.ireturn, 1) := by decide +kernel
theorem dX12_feed_15 : decode cX12_feed 15 = .ok (.aload_n 0, 1) := by decide +kernel
theorem dX12_feed_16 : decode cX12_feed 16 = .ok (.iload_n 1, 1) := by decide +kernel
theorem dX12_feed_17 : decode cX12_feed 17 = .ok (.invokevirtual 169, 3) := by decide +kernel
theorem dX12_feed_20 : decode cX12_feed 20 = .ok (.aload_n 0, 1) := by decide +kernel
theorem dX12_feed_21 : decode cX12_feed 21 = .ok (.iload_n 2, 1) := by decide +kernel
theorem dX12_feed_22 : decode cX12_feed 22 = .ok (.invokevirtual 169, 3) := by decide +kernel
theorem dX12_feed_25 : decode cX12_feed 25 = .ok (.aload_n 0, 1) := by decide +kernel
theorem dX12_feed_26 : decode cX12_feed 26 = .ok (.iload_n 3, 1) := by decide +kernel
theorem dX12_feed_27 : decode cX12_feed 27 = .ok (.invokevirtual 169, 3) := by decide +kernel
theorem dX12_feed_30 : decode cX12_feed 30 = .ok (.aload_n 0, 1) := by decide +kernel
theorem dX12_feed_31 : decode cX12_feed 31 = .ok (.iload 4, 2) := by decide +kernel
theorem dX12_feed_33 : decode cX12_feed 33 = .ok (.invokevirtual 169, 3) := by decide +kernel
theorem dX12_feed_36 : decode cX12_feed 36 = .ok (.aload_n 0, 1) := by decide +kernel
theorem dX12_feed_37 : decode cX12_feed 37 = .ok (.iload 5, 2) := by decide +kernel
theorem dX12_feed_39 : decode cX12_feed 39 = .ok (.invokevirtual 169, 3) := by decide +kernel
theorem dX12_feed_42 : decode cX12_feed 42 = .ok (.aload_n 0, 1) := by decide +kernel
theorem dX12_feed_43 : decode cX12_feed 43 = .ok (.getfield 166, 3) := by decide +kernel
theorem dX12_feed_46 : decode cX12_feed 46 = .ok (.ireturn, 1) := by decide +kernel
theorem dX12_put_0 : decode cX12_put 0 = .ok (.bipush 24, 2) := by decide +kernel
theorem dX12_put_2 : decode cX12_put 2 = .ok (.istore_n 2, 1) := by decide +kernel
theorem dX12_put_3 : decode cX12_put 3 = .ok (.iload_n 2, 1) := by decide +kernel
theorem dX12_put_4 : decode cX12_put 4 = .ok (.ifCond .lt 32, 3) := by decide +kernel
theorem dX12_put_7 : decode cX12_put 7 = .ok (.aload_n 0, 1) := by decide +kernel
theorem dX12_put_8 : decode cX12_put 8 = .ok (.getfield 81, 3) := by decide +kernel
theorem dX12_put_11 : decode cX12_put 11 = .ok (.aload_n 0, 1) := by decide +kernel
theorem dX12_put_12 : decode cX12_put 12 = .ok (.getfield 166, 3) := by decide +kernel
theorem dX12_put_15 : decode cX12_put 15 = .ok (.iload_n 1, 1) := by decide +kernel
theorem dX12_put_16 : decode cX12_put 16 = .ok (.iload_n 2, 1) := by decide +kernel
theorem dX12_put_17 : decode cX12_put 17 = .ok (.ishr, 1) := by decide +kernel
theorem dX12_put_18 : decode cX12_put 18 = .ok (.i2b, 1) := by decide +kernel
theorem dX12_put_19 : decode cX12_put 19 = .ok (.bastore, 1) := by decide +kernel
theorem dX12_put_20 : decode cX12_put 20 = .ok (.aload_n 0, 1) := by decide +kernel
theorem dX12_put_21 : decode cX12_put 21 = .ok (.dup, 1) := by decide +kernel
theorem dX12_put_22 : decode cX12_put 22 = .ok (.getfield 166, 3) := by decide +kernel
theorem dX12_put_25 : decode cX12_put 25 = .ok (.iconst 1, 1) := by decide +kernel
theorem dX12_put_26 : decode cX12_put 26 = .ok (.iadd, 1) := by decide +kernel
theorem dX12_put_27 : decode cX12_put 27 = .ok (.putfield 166, 3) := by decide +kernel
theorem dX12_put_30 : decode cX12_put 30 = .ok (.iinc 2 (-8), 3) := by decide +kernel
theorem dX12_put_33 : decode cX12_put 33 = .ok (.goto (-30), 3) := by decide +kernel
theorem dX12_put_36 : decode cX12_put 36 = .ok (.return_, 1) := by decide +kernel
theorem dX12_end_0 : decode cX12_end 0 = .ok (.iload_n 1, 1) := by decide +kernel
theorem dX12_end_1 : decode cX12_end 1 = .ok (.ifCond .lt 11, 3) := by decide +kernel
theorem dX12_end_4 : decode cX12_end 4 = .ok (.iload_n 1, 1) := by decide +kernel
theorem dX12_end_5 : decode cX12_end 5 = .ok (.aload_n 0, 1) := by decide +kernel
theorem dX12_end_6 : decode cX12_end 6 = .ok (.getfield 166, 3) := by decide +kernel
theorem dX12_end_9 : decode cX12_end 9 = .ok (.if_icmp .le 5, 3) := by decide +kernel
theorem dX12_end_12 : decode cX12_end 12 = .ok (.iconst (-1), 1) := by decide +kernel
theorem dX12_end_13 : decode cX12_end 13 = .ok (.ireturn, 1) := by decide +kernel
theorem dX12_end_14 : decode cX12_end 14 = .ok (.aload_n 0, 1) := by decide +kernel
theorem dX12_end_15 : decode cX12_end 15 = .ok (.iload_n 1, 1) := by decide +kernel
theorem dX12_end_16 : decode cX12_end 16 = .ok (.putfield 166, 3) := by decide +kernel
theorem dX12_end_19 : decode cX12_end 19 = .ok (.iload_n 1, 1) := by decide +kernel
theorem dX12_end_20 : decode cX12_end 20 = .ok (.ireturn, 1) := by decide +kernel
theorem dX12_fails_0 : decode cX12_fails 0 = .ok (.aload_n 0, 1) := by decide +kernel
theorem dX12_fails_1 : decode cX12_fails 1 = .ok (.getfield 173, 3) := by decide +kernel
theorem dX12_fails_4 : decode cX12_fails 4 = .ok (.ifCond .ne 12, 3) := by decide +kernel
theorem dX12_fails_7 : decode cX12_fails 7 = .ok (.aload_n 0, 1) := by decide +kernel
theorem dX12_fails_8 : decode cX12_fails 8 = .ok (.iload_n 1, 1) := by decide +kernel
theorem dX12_fails_9 : decode cX12_fails 9 = .ok (.iconst 4, 1) := by decide +kernel
theorem dX12_fails_10 : decode cX12_fails 10 = .ok (.iload_n 2, 1) := by decide +kernel
theorem dX12_fails_11 : decode cX12_fails 11 = .ok (.imul, 1) := by decide +kernel
theorem dX12_fails_12 : decode cX12_fails 12 = .ok (.iadd, 1) := by decide +kernel
theorem dX12_fails_13 : decode cX12_fails 13 = .ok (.putfield 173, 3) := by decide +kernel
theorem dX12_fails_16 : decode cX12_fails 16 = .ok (.return_, 1) := by decide +kernel
theorem dX12_isEnd_0 : decode cX12_isEnd 0 = .ok (.aload_n 0, 1) := by decide +kernel
theorem dX12_isEnd_1 : decode cX12_isEnd 1 = .ok (.getfield 176, 3) := by decide +kernel
theorem dX12_isEnd_4 : decode cX12_isEnd 4 = .ok (.aload_n 0, 1) := by decide +kernel
theorem dX12_isEnd_5 : decode cX12_isEnd 5 = .ok (.getfield 166, 3) := by decide +kernel
theorem dX12_isEnd_8 : decode cX12_isEnd 8 = .ok (.if_icmp .ge 30, 3) := by decide +kernel
theorem dX12_isEnd_11 : decode cX12_isEnd 11 = .ok (.aload_n 0, 1) := by decide +kernel
theorem dX12_isEnd_12 : decode cX12_isEnd 12 = .ok (.getfield 81, 3) := by decide +kernel
theorem dX12_isEnd_15 : decode cX12_isEnd 15 = .ok (.aload_n 0, 1) := by decide +kernel
theorem dX12_isEnd_16 : decode cX12_isEnd 16 = .ok (.getfield 176, 3) := by decide +kernel
theorem dX12_isEnd_19 : decode cX12_isEnd 19 = .ok (.baload, 1) := by decide +kernel
theorem dX12_isEnd_20 : decode cX12_isEnd 20 = .ok (.bipush 32, 2) := by decide +kernel
theorem dX12_isEnd_22 : decode cX12_isEnd 22 = .ok (.if_icmp .ne 16, 3) := by decide +kernel
theorem dX12_isEnd_25 : decode cX12_isEnd 25 = .ok (.aload_n 0, 1) := by decide +kernel
theorem dX12_isEnd_26 : decode cX12_isEnd 26 = .ok (.dup, 1) := by decide +kernel
theorem dX12_isEnd_27 : decode cX12_isEnd 27 = .ok (.getfield 176, 3) := by decide +kernel
theorem dX12_isEnd_30 : decode cX12_isEnd 30 = .ok (.iconst 1, 1) := by decide +kernel
theorem dX12_isEnd_31 : decode cX12_isEnd 31 = .ok (.iadd, 1) := by decide +kernel
theorem dX12_isEnd_32 : decode cX12_isEnd 32 = .ok (.putfield 176, 3) := by decide +kernel
theorem dX12_isEnd_35 : decode cX12_isEnd 35 = .ok (.goto (-35), 3) := by decide +kernel
theorem dX12_isEnd_38 : decode cX12_isEnd 38 = .ok (.aload_n 0, 1) := by decide +kernel
theorem dX12_isEnd_39 : decode cX12_isEnd 39 = .ok (.aload_n 0, 1) := by decide +kernel
theorem dX12_isEnd_40 : decode cX12_isEnd 40 = .ok (.getfield 176, 3) := by decide +kernel
theorem dX12_isEnd_43 : decode cX12_isEnd 43 = .ok (.putfield 179, 3) := by decide +kernel
theorem dX12_isEnd_46 : decode cX12_isEnd 46 = .ok (.aload_n 0, 1) := by decide +kernel
theorem dX12_isEnd_47 : decode cX12_isEnd 47 = .ok (.getfield 176, 3) := by decide +kernel
theorem dX12_isEnd_50 : decode cX12_isEnd 50 = .ok (.aload_n 0, 1) := by decide +kernel
theorem dX12_isEnd_51 : decode cX12_isEnd 51 = .ok (.getfield 166, 3) := by decide +kernel
theorem dX12_isEnd_54 : decode cX12_isEnd 54 = .ok (.if_icmp .ne 7, 3) := by decide +kernel
theorem dX12_isEnd_57 : decode cX12_isEnd 57 = .ok (.iconst 1, 1) := by decide +kernel
theorem dX12_isEnd_58 : decode cX12_isEnd 58 = .ok (.goto 4, 3) := by decide +kernel
theorem dX12_isEnd_61 : decode cX12_isEnd 61 = .ok (.iconst 0, 1) := by decide +kernel
theorem dX12_isEnd_62 : decode cX12_isEnd 62 = .ok (.ireturn, 1) := by decide +kernel
theorem dX12_word_0 : decode cX12_word 0 = .ok (.aload_n 0, 1) := by decide +kernel
theorem dX12_word_1 : decode cX12_word 1 = .ok (.invokevirtual 182, 3) := by decide +kernel
theorem dX12_word_4 : decode cX12_word 4 = .ok (.pop, 1) := by decide +kernel
theorem dX12_word_5 : decode cX12_word 5 = .ok (.aload_n 0, 1) := by decide +kernel
theorem dX12_word_6 : decode cX12_word 6 = .ok (.getfield 176, 3) := by decide +kernel
theorem dX12_word_9 : decode cX12_word 9 = .ok (.aload_n 0, 1) := by decide +kernel
theorem dX12_word_10 : decode cX12_word 10 = .ok (.getfield 166, 3) := by decide +kernel
theorem dX12_word_13 : decode cX12_word 13 = .ok (.if_icmp .ge 44, 3) := by decide +kernel
theorem dX12_word_16 : decode cX12_word 16 = .ok (.aload_n 0, 1) := by decide +kernel
theorem dX12_word_17 : decode cX12_word 17 = .ok (.getfield 81, 3) := by decide +kernel
theorem dX12_word_20 : decode cX12_word 20 = .ok (.aload_n 0, 1) := by decide +kernel
theorem dX12_word_21 : decode cX12_word 21 = .ok (.getfield 176, 3) := by decide +kernel
theorem dX12_word_24 : decode cX12_word 24 = .ok (.baload, 1) := by decide +kernel
theorem dX12_word_25 : decode cX12_word 25 = .ok (.bipush 97, 2) := by decide +kernel
theorem dX12_word_27 : decode cX12_word 27 = .ok (.if_icmp .lt 30, 3) := by decide +kernel
theorem dX12_word_30 : decode cX12_word 30 = .ok (.aload_n 0, 1) := by decide +kernel
theorem dX12_word_31 : decode cX12_word 31 = .ok (.getfield 81, 3) := by decide +kernel
theorem dX12_word_34 : decode cX12_word 34 = .ok (.aload_n 0, 1) := by decide +kernel
theorem dX12_word_35 : decode cX12_word 35 = .ok (.getfield 176, 3) := by decide +kernel
theorem dX12_word_38 : decode cX12_word 38 = .ok (.baload, 1) := by decide +kernel
theorem dX12_word_39 : decode cX12_word 39 = .ok (.bipush 122, 2) := by decide +kernel
theorem dX12_word_41 : decode cX12_word 41 = .ok (.if_icmp .gt 16, 3) := by decide +kernel
theorem dX12_word_44 : decode cX12_word 44 = .ok (.aload_n 0, 1) := by decide +kernel
theorem dX12_word_45 : decode cX12_word 45 = .ok (.dup, 1) := by decide +kernel
theorem dX12_word_46 : decode cX12_word 46 = .ok (.getfield 176, 3) := by decide +kernel
theorem dX12_word_49 : decode cX12_word 49 = .ok (.iconst 1, 1) := by decide +kernel
theorem dX12_word_50 : decode cX12_word 50 = .ok (.iadd, 1) := by decide +kernel
theorem dX12_word_51 : decode cX12_word 51 = .ok (.putfield 176, 3) := by decide +kernel
theorem dX12_word_54 : decode cX12_word 54 = .ok (.goto (-49), 3) := by decide +kernel
theorem dX12_word_57 : decode cX12_word 57 = .ok (.aload_n 0, 1) := by decide +kernel
theorem dX12_word_58 : decode cX12_word 58 = .ok (.getfield 176, 3) := by decide +kernel
theorem dX12_word_61 : decode cX12_word 61 = .ok (.aload_n 0, 1) := by decide +kernel
theorem dX12_word_62 : decode cX12_word 62 = .ok (.getfield 179, 3) := by decide +kernel
theorem dX12_word_65 : decode cX12_word 65 = .ok (.if_icmp .ne 12, 3) := by decide +kernel
theorem dX12_word_68 : decode cX12_word 68 = .ok (.aload_n 0, 1) := by decide +kernel
theorem dX12_word_69 : decode cX12_word 69 = .ok (.iconst 1, 1) := by decide +kernel
theorem dX12_word_70 : decode cX12_word 70 = .ok (.aload_n 0, 1) := by decide +kernel
theorem dX12_word_71 : decode cX12_word 71 = .ok (.getfield 179, 3) := by decide +kernel
theorem dX12_word_74 : decode cX12_word 74 = .ok (.invokevirtual 185, 3) := by decide +kernel
theorem dX12_word_77 : decode cX12_word 77 = .ok (.return_, 1) := by decide +kernel
theorem dX12_is_0 : decode cX12_is 0 = .ok (.aload_n 0, 1) := by decide +kernel
theorem dX12_is_1 : decode cX12_is 1 = .ok (.getfield 176, 3) := by decide +kernel
theorem dX12_is_4 : decode cX12_is 4 = .ok (.aload_n 0, 1) := by decide +kernel
theorem dX12_is_5 : decode cX12_is 5 = .ok (.getfield 179, 3) := by decide +kernel
theorem dX12_is_8 : decode cX12_is 8 = .ok (.isub, 1) := by decide +kernel
theorem dX12_is_9 : decode cX12_is 9 = .ok (.aload_n 1, 1) := by decide +kernel
theorem dX12_is_10 : decode cX12_is 10 = .ok (.invokevirtual 189, 3) := by decide +kernel
theorem dX12_is_13 : decode cX12_is 13 = .ok (.if_icmp .ne 7, 3) := by decide +kernel
theorem dX12_is_16 : decode cX12_is 16 = .ok (.iconst 1, 1) := by decide +kernel
theorem dX12_is_17 : decode cX12_is 17 = .ok (.goto 4, 3) := by decide +kernel
theorem dX12_is_20 : decode cX12_is 20 = .ok (.iconst 0, 1) := by decide +kernel
theorem dX12_is_21 : decode cX12_is 21 = .ok (.istore_n 2, 1) := by decide +kernel
theorem dX12_is_22 : decode cX12_is 22 = .ok (.iconst 0, 1) := by decide +kernel
theorem dX12_is_23 : decode cX12_is 23 = .ok (.istore_n 3, 1) := by decide +kernel
theorem dX12_is_24 : decode cX12_is 24 = .ok (.iload_n 3, 1) := by decide +kernel
theorem dX12_is_25 : decode cX12_is 25 = .ok (.aload_n 1, 1) := by decide +kernel
theorem dX12_is_26 : decode cX12_is 26 = .ok (.invokevirtual 189, 3) := by decide +kernel
theorem dX12_is_29 : decode cX12_is 29 = .ok (.if_icmp .ge 38, 3) := by decide +kernel
theorem dX12_is_32 : decode cX12_is 32 = .ok (.iload_n 2, 1) := by decide +kernel
theorem dX12_is_33 : decode cX12_is 33 = .ok (.ifCond .eq 34, 3) := by decide +kernel
theorem dX12_is_36 : decode cX12_is 36 = .ok (.aload_n 0, 1) := by decide +kernel
theorem dX12_is_37 : decode cX12_is 37 = .ok (.getfield 81, 3) := by decide +kernel
theorem dX12_is_40 : decode cX12_is 40 = .ok (.aload_n 0, 1) := by decide +kernel
theorem dX12_is_41 : decode cX12_is 41 = .ok (.getfield 179, 3) := by decide +kernel
theorem dX12_is_44 : decode cX12_is 44 = .ok (.iload_n 3, 1) := by decide +kernel
theorem dX12_is_45 : decode cX12_is 45 = .ok (.iadd, 1) := by decide +kernel
theorem dX12_is_46 : decode cX12_is 46 = .ok (.baload, 1) := by decide +kernel
theorem dX12_is_47 : decode cX12_is 47 = .ok (.aload_n 1, 1) := by decide +kernel
theorem dX12_is_48 : decode cX12_is 48 = .ok (.iload_n 3, 1) := by decide +kernel
theorem dX12_is_49 : decode cX12_is 49 = .ok (.invokevirtual 194, 3) := by decide +kernel
theorem dX12_is_52 : decode cX12_is 52 = .ok (.if_icmp .ne 7, 3) := by decide +kernel
theorem dX12_is_55 : decode cX12_is 55 = .ok (.iconst 1, 1) := by decide +kernel
theorem dX12_is_56 : decode cX12_is 56 = .ok (.goto 4, 3) := by decide +kernel
theorem dX12_is_59 : decode cX12_is 59 = .ok (.iconst 0, 1) := by decide +kernel
theorem dX12_is_60 : decode cX12_is 60 = .ok (.istore_n 2, 1) := by decide +kernel
theorem dX12_is_61 : decode cX12_is 61 = .ok (.iinc 3 1, 3) := by decide +kernel
theorem dX12_is_64 : decode cX12_is 64 = .ok (.goto (-40), 3) := by decide +kernel
theorem dX12_is_67 : decode cX12_is 67 = .ok (.iload_n 2, 1) := by decide +kernel
theorem dX12_is_68 : decode cX12_is 68 = .ok (.ireturn, 1) := by decide +kernel
theorem dX12_number_0 : decode cX12_number 0 = .ok (.aload_n 0, 1) := by decide +kernel
theorem dX12_number_1 : decode cX12_number 1 = .ok (.getfield 173, 3) := by decide +kernel
theorem dX12_number_4 : decode cX12_number 4 = .ok (.ifCond .le 5, 3) := by decide +kernel
theorem dX12_number_7 : decode cX12_number 7 = .ok (.iconst 0, 1) := by decide +kernel
theorem dX12_number_8 : decode cX12_number 8 = .ok (.ireturn, 1) := by decide +kernel
theorem dX12_number_9 : decode cX12_number 9 = .ok (.aload_n 0, 1) := by decide +kernel
theorem dX12_number_10 : decode cX12_number 10 = .ok (.invokevirtual 182, 3) := by decide +kernel
theorem dX12_number_13 : decode cX12_number 13 = .ok (.pop, 1) := by decide +kernel
theorem dX12_number_14 : decode cX12_number 14 = .ok (.iconst 0, 1) := by decide +kernel
theorem dX12_number_15 : decode cX12_number 15 = .ok (.istore_n 3, 1) := by decide +kernel
theorem dX12_number_16 : decode cX12_number 16 = .ok (.aload_n 0, 1) := by decide +kernel
theorem dX12_number_17 : decode cX12_number 17 = .ok (.getfield 176, 3) := by decide +kernel
theorem dX12_number_20 : decode cX12_number 20 = .ok (.aload_n 0, 1) := by decide +kernel
theorem dX12_number_21 : decode cX12_number 21 = .ok (.getfield 166, 3) := by decide +kernel
theorem dX12_number_24 : decode cX12_number 24 = .ok (.if_icmp .ge 80, 3) := by decide +kernel
theorem dX12_number_27 : decode cX12_number 27 = .ok (.aload_n 0, 1) := by decide +kernel
theorem dX12_number_28 : decode cX12_number 28 = .ok (.getfield 81, 3) := by decide +kernel
theorem dX12_number_31 : decode cX12_number 31 = .ok (.aload_n 0, 1) := by decide +kernel
theorem dX12_number_32 : decode cX12_number 32 = .ok (.getfield 176, 3) := by decide +kernel
theorem dX12_number_35 : decode cX12_number 35 = .ok (.baload, 1) := by decide +kernel
theorem dX12_number_36 : decode cX12_number 36 = .ok (.bipush 48, 2) := by decide +kernel
theorem dX12_number_38 : decode cX12_number 38 = .ok (.if_icmp .lt 66, 3) := by decide +kernel
theorem dX12_number_41 : decode cX12_number 41 = .ok (.aload_n 0, 1) := by decide +kernel
theorem dX12_number_42 : decode cX12_number 42 = .ok (.getfield 81, 3) := by decide +kernel
theorem dX12_number_45 : decode cX12_number 45 = .ok (.aload_n 0, 1) := by decide +kernel
theorem dX12_number_46 : decode cX12_number 46 = .ok (.getfield 176, 3) := by decide +kernel
theorem dX12_number_49 : decode cX12_number 49 = .ok (.baload, 1) := by decide +kernel
theorem dX12_number_50 : decode cX12_number 50 = .ok (.bipush 57, 2) := by decide +kernel
theorem dX12_number_52 : decode cX12_number 52 = .ok (.if_icmp .gt 52, 3) := by decide +kernel
theorem dX12_number_55 : decode cX12_number 55 = .ok (.aload_n 0, 1) := by decide +kernel
theorem dX12_number_56 : decode cX12_number 56 = .ok (.getfield 176, 3) := by decide +kernel
theorem dX12_number_59 : decode cX12_number 59 = .ok (.aload_n 0, 1) := by decide +kernel
theorem dX12_number_60 : decode cX12_number 60 = .ok (.getfield 179, 3) := by decide +kernel
theorem dX12_number_63 : decode cX12_number 63 = .ok (.isub, 1) := by decide +kernel
theorem dX12_number_64 : decode cX12_number 64 = .ok (.iconst 4, 1) := by decide +kernel
theorem dX12_number_65 : decode cX12_number 65 = .ok (.if_icmp .ge 23, 3) := by decide +kernel
theorem dX12_number_68 : decode cX12_number 68 = .ok (.bipush 10, 2) := by decide +kernel
theorem dX12_number_70 : decode cX12_number 70 = .ok (.iload_n 3, 1) := by decide +kernel
theorem dX12_number_71 : decode cX12_number 71 = .ok (.imul, 1) := by decide +kernel
theorem dX12_number_72 : decode cX12_number 72 = .ok (.aload_n 0, 1) := by decide +kernel
theorem dX12_number_73 : decode cX12_number 73 = .ok (.getfield 81, 3) := by decide +kernel
theorem dX12_number_76 : decode cX12_number 76 = .ok (.aload_n 0, 1) := by decide +kernel
theorem dX12_number_77 : decode cX12_number 77 = .ok (.getfield 176, 3) := by decide +kernel
theorem dX12_number_80 : decode cX12_number 80 = .ok (.baload, 1) := by decide +kernel
theorem dX12_number_81 : decode cX12_number 81 = .ok (.iadd, 1) := by decide +kernel
theorem dX12_number_82 : decode cX12_number 82 = .ok (.bipush 48, 2) := by decide +kernel
theorem dX12_number_84 : decode cX12_number 84 = .ok (.isub, 1) := by decide +kernel
theorem dX12_number_85 : decode cX12_number 85 = .ok (.goto 5, 3) := by decide +kernel
theorem dX12_number_88 : decode cX12_number 88 = .ok (.ldc 155, 2) := by decide +kernel
theorem dX12_number_90 : decode cX12_number 90 = .ok (.istore_n 3, 1) := by decide +kernel
theorem dX12_number_91 : decode cX12_number 91 = .ok (.aload_n 0, 1) := by decide +kernel
theorem dX12_number_92 : decode cX12_number 92 = .ok (.dup, 1) := by decide +kernel
theorem dX12_number_93 : decode cX12_number 93 = .ok (.getfield 176, 3) := by decide +kernel
theorem dX12_number_96 : decode cX12_number 96 = .ok (.iconst 1, 1) := by decide +kernel
theorem dX12_number_97 : decode cX12_number 97 = .ok (.iadd, 1) := by decide +kernel
theorem dX12_number_98 : decode cX12_number 98 = .ok (.putfield 176, 3) := by decide +kernel
theorem dX12_number_101 : decode cX12_number 101 = .ok (.goto (-85), 3) := by decide +kernel
theorem dX12_number_104 : decode cX12_number 104 = .ok (.aload_n 0, 1) := by decide +kernel
theorem dX12_number_105 : decode cX12_number 105 = .ok (.getfield 176, 3) := by decide +kernel
theorem dX12_number_108 : decode cX12_number 108 = .ok (.aload_n 0, 1) := by decide +kernel
theorem dX12_number_109 : decode cX12_number 109 = .ok (.getfield 179, 3) := by decide +kernel
theorem dX12_number_112 : decode cX12_number 112 = .ok (.if_icmp .ne 15, 3) := by decide +kernel
theorem dX12_number_115 : decode cX12_number 115 = .ok (.aload_n 0, 1) := by decide +kernel
theorem dX12_number_116 : decode cX12_number 116 = .ok (.iconst 1, 1) := by decide +kernel
theorem dX12_number_117 : decode cX12_number 117 = .ok (.aload_n 0, 1) := by decide +kernel
theorem dX12_number_118 : decode cX12_number 118 = .ok (.getfield 179, 3) := by decide +kernel
theorem dX12_number_121 : decode cX12_number 121 = .ok (.invokevirtual 185, 3) := by decide +kernel
theorem dX12_number_124 : decode cX12_number 124 = .ok (.goto 21, 3) := by decide +kernel
theorem dX12_number_127 : decode cX12_number 127 = .ok (.iload_n 3, 1) := by decide +kernel
theorem dX12_number_128 : decode cX12_number 128 = .ok (.iload_n 1, 1) := by decide +kernel
theorem dX12_number_129 : decode cX12_number 129 = .ok (.iload_n 2, 1) := by decide +kernel
theorem dX12_number_130 : decode cX12_number 130 = .ok (.invokestatic 131, 3) := by decide +kernel
theorem dX12_number_133 : decode cX12_number 133 = .ok (.ifCond .ne 12, 3) := by decide +kernel
theorem dX12_number_136 : decode cX12_number 136 = .ok (.aload_n 0, 1) := by decide +kernel
theorem dX12_number_137 : decode cX12_number 137 = .ok (.iconst 2, 1) := by decide +kernel
theorem dX12_number_138 : decode cX12_number 138 = .ok (.aload_n 0, 1) := by decide +kernel
theorem dX12_number_139 : decode cX12_number 139 = .ok (.getfield 179, 3) := by decide +kernel
theorem dX12_number_142 : decode cX12_number 142 = .ok (.invokevirtual 185, 3) := by decide +kernel
theorem dX12_number_145 : decode cX12_number 145 = .ok (.iload_n 3, 1) := by decide +kernel
theorem dX12_number_146 : decode cX12_number 146 = .ok (.ireturn, 1) := by decide +kernel
theorem dX12_markOf_0 : decode cX12_markOf 0 = .ok (.iload_n 1, 1) := by decide +kernel
theorem dX12_markOf_1 : decode cX12_markOf 1 = .ok (.ifCond .ne 8, 3) := by decide +kernel
theorem dX12_markOf_4 : decode cX12_markOf 4 = .ok (.ldc 198, 2) := by decide +kernel
theorem dX12_markOf_6 : decode cX12_markOf 6 = .ok (.goto 35, 3) := by decide +kernel
theorem dX12_markOf_9 : decode cX12_markOf 9 = .ok (.iload_n 1, 1) := by decide +kernel
theorem dX12_markOf_10 : decode cX12_markOf 10 = .ok (.iconst 1, 1) := by decide +kernel
theorem dX12_markOf_11 : decode cX12_markOf 11 = .ok (.if_icmp .ne 8, 3) := by decide +kernel
theorem dX12_markOf_14 : decode cX12_markOf 14 = .ok (.ldc 200, 2) := by decide +kernel
theorem dX12_markOf_16 : decode cX12_markOf 16 = .ok (.goto 25, 3) := by decide +kernel
theorem dX12_markOf_19 : decode cX12_markOf 19 = .ok (.iload_n 1, 1) := by decide +kernel
theorem dX12_markOf_20 : decode cX12_markOf 20 = .ok (.iconst 2, 1) := by decide +kernel
theorem dX12_markOf_21 : decode cX12_markOf 21 = .ok (.if_icmp .ne 8, 3) := by decide +kernel
theorem dX12_markOf_24 : decode cX12_markOf 24 = .ok (.ldc 202, 2) := by decide +kernel
theorem dX12_markOf_26 : decode cX12_markOf 26 = .ok (.goto 15, 3) := by decide +kernel
theorem dX12_markOf_29 : decode cX12_markOf 29 = .ok (.iload_n 1, 1) := by decide +kernel
theorem dX12_markOf_30 : decode cX12_markOf 30 = .ok (.iconst 3, 1) := by decide +kernel
theorem dX12_markOf_31 : decode cX12_markOf 31 = .ok (.if_icmp .ne 8, 3) := by decide +kernel
theorem dX12_markOf_34 : decode cX12_markOf 34 = .ok (.ldc 204, 2) := by decide +kernel
theorem dX12_markOf_36 : decode cX12_markOf 36 = .ok (.goto 5, 3) := by decide +kernel
theorem dX12_markOf_39 : decode cX12_markOf 39 = .ok (.ldc 206, 2) := by decide +kernel
theorem dX12_markOf_41 : decode cX12_markOf 41 = .ok (.areturn, 1) := by decide +kernel
theorem dX12_clauseOf_0 : decode cX12_clauseOf 0 = .ok (.iload_n 1, 1) := by decide +kernel
theorem dX12_clauseOf_1 : decode cX12_clauseOf 1 = .ok (.tableswitch 43 5 8 #[31, 34, 37, 40], 31) := by decide +kernel
theorem dX12_clauseOf_32 : decode cX12_clauseOf 32 = .ok (.ldc 208, 2) := by decide +kernel
theorem dX12_clauseOf_34 : decode cX12_clauseOf 34 = .ok (.areturn, 1) := by decide +kernel
theorem dX12_clauseOf_35 : decode cX12_clauseOf 35 = .ok (.ldc 209, 2) := by decide +kernel
theorem dX12_clauseOf_37 : decode cX12_clauseOf 37 = .ok (.areturn, 1) := by decide +kernel
theorem dX12_clauseOf_38 : decode cX12_clauseOf 38 = .ok (.ldc 211, 2) := by decide +kernel
theorem dX12_clauseOf_40 : decode cX12_clauseOf 40 = .ok (.areturn, 1) := by decide +kernel
theorem dX12_clauseOf_41 : decode cX12_clauseOf 41 = .ok (.ldc 213, 2) := by decide +kernel
theorem dX12_clauseOf_43 : decode cX12_clauseOf 43 = .ok (.areturn, 1) := by decide +kernel
theorem dX12_clauseOf_44 : decode cX12_clauseOf 44 = .ok (.ldc 215, 2) := by decide +kernel
theorem dX12_clauseOf_46 : decode cX12_clauseOf 46 = .ok (.areturn, 1) := by decide +kernel
theorem dX12_gives_0 : decode cX12_gives 0 = .ok (.aload_n 0, 1) := by decide +kernel
theorem dX12_gives_1 : decode cX12_gives 1 = .ok (.ldc 217, 2) := by decide +kernel
theorem dX12_gives_3 : decode cX12_gives 3 = .ok (.invokevirtual 219, 3) := by decide +kernel
theorem dX12_gives_6 : decode cX12_gives 6 = .ok (.ifCond .eq 7, 3) := by decide +kernel
theorem dX12_gives_9 : decode cX12_gives 9 = .ok (.iconst 0, 1) := by decide +kernel
theorem dX12_gives_10 : decode cX12_gives 10 = .ok (.goto 43, 3) := by decide +kernel
theorem dX12_gives_13 : decode cX12_gives 13 = .ok (.aload_n 0, 1) := by decide +kernel
theorem dX12_gives_14 : decode cX12_gives 14 = .ok (.ldc 223, 2) := by decide +kernel
theorem dX12_gives_16 : decode cX12_gives 16 = .ok (.invokevirtual 219, 3) := by decide +kernel
theorem dX12_gives_19 : decode cX12_gives 19 = .ok (.ifCond .eq 7, 3) := by decide +kernel
theorem dX12_gives_22 : decode cX12_gives 22 = .ok (.iconst 1, 1) := by decide +kernel
theorem dX12_gives_23 : decode cX12_gives 23 = .ok (.goto 30, 3) := by decide +kernel
theorem dX12_gives_26 : decode cX12_gives 26 = .ok (.aload_n 0, 1) := by decide +kernel
theorem dX12_gives_27 : decode cX12_gives 27 = .ok (.ldc 225, 2) := by decide +kernel
theorem dX12_gives_29 : decode cX12_gives 29 = .ok (.invokevirtual 219, 3) := by decide +kernel
theorem dX12_gives_32 : decode cX12_gives 32 = .ok (.ifCond .eq 7, 3) := by decide +kernel
theorem dX12_gives_35 : decode cX12_gives 35 = .ok (.iconst 2, 1) := by decide +kernel
theorem dX12_gives_36 : decode cX12_gives 36 = .ok (.goto 17, 3) := by decide +kernel
theorem dX12_gives_39 : decode cX12_gives 39 = .ok (.aload_n 0, 1) := by decide +kernel
theorem dX12_gives_40 : decode cX12_gives 40 = .ok (.ldc 227, 2) := by decide +kernel
theorem dX12_gives_42 : decode cX12_gives 42 = .ok (.invokevirtual 219, 3) := by decide +kernel
theorem dX12_gives_45 : decode cX12_gives 45 = .ok (.ifCond .eq 7, 3) := by decide +kernel
theorem dX12_gives_48 : decode cX12_gives 48 = .ok (.iconst 3, 1) := by decide +kernel
theorem dX12_gives_49 : decode cX12_gives 49 = .ok (.goto 4, 3) := by decide +kernel
theorem dX12_gives_52 : decode cX12_gives 52 = .ok (.iconst (-1), 1) := by decide +kernel
theorem dX12_gives_53 : decode cX12_gives 53 = .ok (.ireturn, 1) := by decide +kernel
theorem dX12_clause_0 : decode cX12_clause 0 = .ok (.aload_n 0, 1) := by decide +kernel
theorem dX12_clause_1 : decode cX12_clause 1 = .ok (.invokevirtual 229, 3) := by decide +kernel
theorem dX12_clause_4 : decode cX12_clause 4 = .ok (.aload_n 0, 1) := by decide +kernel
theorem dX12_clause_5 : decode cX12_clause 5 = .ok (.getfield 173, 3) := by decide +kernel
theorem dX12_clause_8 : decode cX12_clause 8 = .ok (.ifCond .le 4, 3) := by decide +kernel
theorem dX12_clause_11 : decode cX12_clause 11 = .ok (.return_, 1) := by decide +kernel
theorem dX12_clause_12 : decode cX12_clause 12 = .ok (.aload_n 0, 1) := by decide +kernel
theorem dX12_clause_13 : decode cX12_clause 13 = .ok (.ldc 232, 2) := by decide +kernel
theorem dX12_clause_15 : decode cX12_clause 15 = .ok (.invokevirtual 219, 3) := by decide +kernel
theorem dX12_clause_18 : decode cX12_clause 18 = .ok (.ifCond .eq 86, 3) := by decide +kernel
theorem dX12_clause_21 : decode cX12_clause 21 = .ok (.aload_n 0, 1) := by decide +kernel
theorem dX12_clause_22 : decode cX12_clause 22 = .ok (.invokevirtual 229, 3) := by decide +kernel
theorem dX12_clause_25 : decode cX12_clause 25 = .ok (.iconst 0, 1) := by decide +kernel
theorem dX12_clause_26 : decode cX12_clause 26 = .ok (.istore_n 3, 1) := by decide +kernel
theorem dX12_clause_27 : decode cX12_clause 27 = .ok (.iload_n 3, 1) := by decide +kernel
theorem dX12_clause_28 : decode cX12_clause 28 = .ok (.iconst 5, 1) := by decide +kernel
theorem dX12_clause_29 : decode cX12_clause 29 = .ok (.if_icmp .ge 21, 3) := by decide +kernel
theorem dX12_clause_32 : decode cX12_clause 32 = .ok (.aload_n 0, 1) := by decide +kernel
theorem dX12_clause_33 : decode cX12_clause 33 = .ok (.aload_n 0, 1) := by decide +kernel
theorem dX12_clause_34 : decode cX12_clause 34 = .ok (.iload_n 3, 1) := by decide +kernel
theorem dX12_clause_35 : decode cX12_clause 35 = .ok (.invokevirtual 234, 3) := by decide +kernel
theorem dX12_clause_38 : decode cX12_clause 38 = .ok (.invokevirtual 219, 3) := by decide +kernel
theorem dX12_clause_41 : decode cX12_clause 41 = .ok (.ifCond .ne 9, 3) := by decide +kernel
theorem dX12_clause_44 : decode cX12_clause 44 = .ok (.iinc 3 1, 3) := by decide +kernel
theorem dX12_clause_47 : decode cX12_clause 47 = .ok (.goto (-20), 3) := by decide +kernel
theorem dX12_clause_50 : decode cX12_clause 50 = .ok (.iload_n 3, 1) := by decide +kernel
theorem dX12_clause_51 : decode cX12_clause 51 = .ok (.iconst 5, 1) := by decide +kernel
theorem dX12_clause_52 : decode cX12_clause 52 = .ok (.if_icmp .ne 15, 3) := by decide +kernel
theorem dX12_clause_55 : decode cX12_clause 55 = .ok (.aload_n 0, 1) := by decide +kernel
theorem dX12_clause_56 : decode cX12_clause 56 = .ok (.iconst 1, 1) := by decide +kernel
theorem dX12_clause_57 : decode cX12_clause 57 = .ok (.aload_n 0, 1) := by decide +kernel
theorem dX12_clause_58 : decode cX12_clause 58 = .ok (.getfield 179, 3) := by decide +kernel
theorem dX12_clause_61 : decode cX12_clause 61 = .ok (.invokevirtual 185, 3) := by decide +kernel
theorem dX12_clause_64 : decode cX12_clause 64 = .ok (.goto 18, 3) := by decide +kernel
theorem dX12_clause_67 : decode cX12_clause 67 = .ok (.aload_n 2, 1) := by decide +kernel
theorem dX12_clause_68 : decode cX12_clause 68 = .ok (.iload_n 3, 1) := by decide +kernel
theorem dX12_clause_69 : decode cX12_clause 69 = .ok (.baload, 1) := by decide +kernel
theorem dX12_clause_70 : decode cX12_clause 70 = .ok (.ifCond .eq 12, 3) := by decide +kernel
theorem dX12_clause_73 : decode cX12_clause 73 = .ok (.aload_n 0, 1) := by decide +kernel
theorem dX12_clause_74 : decode cX12_clause 74 = .ok (.iconst 3, 1) := by decide +kernel
theorem dX12_clause_75 : decode cX12_clause 75 = .ok (.aload_n 0, 1) := by decide +kernel
theorem dX12_clause_76 : decode cX12_clause 76 = .ok (.getfield 179, 3) := by decide +kernel
theorem dX12_clause_79 : decode cX12_clause 79 = .ok (.invokevirtual 185, 3) := by decide +kernel
theorem dX12_clause_82 : decode cX12_clause 82 = .ok (.aload_n 0, 1) := by decide +kernel
