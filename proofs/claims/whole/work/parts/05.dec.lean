theorem dX12_clause_83 : decode cX12_clause 83 = .ok (.getfield 173, 3) := by decide +kernel
theorem dX12_clause_86 : decode cX12_clause 86 = .ok (.ifCond .ne 17, 3) := by decide +kernel
theorem dX12_clause_89 : decode cX12_clause 89 = .ok (.aload_n 2, 1) := by decide +kernel
theorem dX12_clause_90 : decode cX12_clause 90 = .ok (.iload_n 3, 1) := by decide +kernel
theorem dX12_clause_91 : decode cX12_clause 91 = .ok (.iconst 1, 1) := by decide +kernel
theorem dX12_clause_92 : decode cX12_clause 92 = .ok (.bastore, 1) := by decide +kernel
theorem dX12_clause_93 : decode cX12_clause 93 = .ok (.aload_n 1, 1) := by decide +kernel
theorem dX12_clause_94 : decode cX12_clause 94 = .ok (.iload_n 3, 1) := by decide +kernel
theorem dX12_clause_95 : decode cX12_clause 95 = .ok (.aload_n 0, 1) := by decide +kernel
theorem dX12_clause_96 : decode cX12_clause 96 = .ok (.iconst 0, 1) := by decide +kernel
theorem dX12_clause_97 : decode cX12_clause 97 = .ok (.bipush 99, 2) := by decide +kernel
theorem dX12_clause_99 : decode cX12_clause 99 = .ok (.invokevirtual 238, 3) := by decide +kernel
theorem dX12_clause_102 : decode cX12_clause 102 = .ok (.iastore, 1) := by decide +kernel
theorem dX12_clause_103 : decode cX12_clause 103 = .ok (.return_, 1) := by decide +kernel
theorem dX12_clause_104 : decode cX12_clause 104 = .ok (.iconst 5, 1) := by decide +kernel
theorem dX12_clause_105 : decode cX12_clause 105 = .ok (.istore_n 3, 1) := by decide +kernel
theorem dX12_clause_106 : decode cX12_clause 106 = .ok (.iload_n 3, 1) := by decide +kernel
theorem dX12_clause_107 : decode cX12_clause 107 = .ok (.bipush 9, 2) := by decide +kernel
theorem dX12_clause_109 : decode cX12_clause 109 = .ok (.if_icmp .gt 21, 3) := by decide +kernel
theorem dX12_clause_112 : decode cX12_clause 112 = .ok (.aload_n 0, 1) := by decide +kernel
theorem dX12_clause_113 : decode cX12_clause 113 = .ok (.aload_n 0, 1) := by decide +kernel
theorem dX12_clause_114 : decode cX12_clause 114 = .ok (.iload_n 3, 1) := by decide +kernel
theorem dX12_clause_115 : decode cX12_clause 115 = .ok (.invokevirtual 242, 3) := by decide +kernel
theorem dX12_clause_118 : decode cX12_clause 118 = .ok (.invokevirtual 219, 3) := by decide +kernel
theorem dX12_clause_121 : decode cX12_clause 121 = .ok (.ifCond .ne 9, 3) := by decide +kernel
theorem dX12_clause_124 : decode cX12_clause 124 = .ok (.iinc 3 1, 3) := by decide +kernel
theorem dX12_clause_127 : decode cX12_clause 127 = .ok (.goto (-21), 3) := by decide +kernel
theorem dX12_clause_130 : decode cX12_clause 130 = .ok (.iload_n 3, 1) := by decide +kernel
theorem dX12_clause_131 : decode cX12_clause 131 = .ok (.bipush 9, 2) := by decide +kernel
theorem dX12_clause_133 : decode cX12_clause 133 = .ok (.if_icmp .le 13, 3) := by decide +kernel
theorem dX12_clause_136 : decode cX12_clause 136 = .ok (.aload_n 0, 1) := by decide +kernel
theorem dX12_clause_137 : decode cX12_clause 137 = .ok (.iconst 1, 1) := by decide +kernel
theorem dX12_clause_138 : decode cX12_clause 138 = .ok (.aload_n 0, 1) := by decide +kernel
theorem dX12_clause_139 : decode cX12_clause 139 = .ok (.getfield 179, 3) := by decide +kernel
theorem dX12_clause_142 : decode cX12_clause 142 = .ok (.invokevirtual 185, 3) := by decide +kernel
theorem dX12_clause_145 : decode cX12_clause 145 = .ok (.return_, 1) := by decide +kernel
theorem dX12_clause_146 : decode cX12_clause 146 = .ok (.aload_n 2, 1) := by decide +kernel
theorem dX12_clause_147 : decode cX12_clause 147 = .ok (.iload_n 3, 1) := by decide +kernel
theorem dX12_clause_148 : decode cX12_clause 148 = .ok (.baload, 1) := by decide +kernel
theorem dX12_clause_149 : decode cX12_clause 149 = .ok (.ifCond .eq 13, 3) := by decide +kernel
theorem dX12_clause_152 : decode cX12_clause 152 = .ok (.aload_n 0, 1) := by decide +kernel
theorem dX12_clause_153 : decode cX12_clause 153 = .ok (.iconst 3, 1) := by decide +kernel
theorem dX12_clause_154 : decode cX12_clause 154 = .ok (.aload_n 0, 1) := by decide +kernel
theorem dX12_clause_155 : decode cX12_clause 155 = .ok (.getfield 179, 3) := by decide +kernel
theorem dX12_clause_158 : decode cX12_clause 158 = .ok (.invokevirtual 185, 3) := by decide +kernel
theorem dX12_clause_161 : decode cX12_clause 161 = .ok (.return_, 1) := by decide +kernel
theorem dX12_clause_162 : decode cX12_clause 162 = .ok (.aload_n 2, 1) := by decide +kernel
theorem dX12_clause_163 : decode cX12_clause 163 = .ok (.iload_n 3, 1) := by decide +kernel
theorem dX12_clause_164 : decode cX12_clause 164 = .ok (.iconst 1, 1) := by decide +kernel
theorem dX12_clause_165 : decode cX12_clause 165 = .ok (.bastore, 1) := by decide +kernel
theorem dX12_clause_166 : decode cX12_clause 166 = .ok (.iload_n 3, 1) := by decide +kernel
theorem dX12_clause_167 : decode cX12_clause 167 = .ok (.bipush 6, 2) := by decide +kernel
theorem dX12_clause_169 : decode cX12_clause 169 = .ok (.if_icmp .ne 33, 3) := by decide +kernel
theorem dX12_clause_172 : decode cX12_clause 172 = .ok (.aload_n 0, 1) := by decide +kernel
theorem dX12_clause_173 : decode cX12_clause 173 = .ok (.invokevirtual 229, 3) := by decide +kernel
theorem dX12_clause_176 : decode cX12_clause 176 = .ok (.aload_n 1, 1) := by decide +kernel
theorem dX12_clause_177 : decode cX12_clause 177 = .ok (.bipush 6, 2) := by decide +kernel
theorem dX12_clause_179 : decode cX12_clause 179 = .ok (.aload_n 0, 1) := by decide +kernel
theorem dX12_clause_180 : decode cX12_clause 180 = .ok (.invokevirtual 245, 3) := by decide +kernel
theorem dX12_clause_183 : decode cX12_clause 183 = .ok (.iastore, 1) := by decide +kernel
theorem dX12_clause_184 : decode cX12_clause 184 = .ok (.aload_n 1, 1) := by decide +kernel
theorem dX12_clause_185 : decode cX12_clause 185 = .ok (.bipush 6, 2) := by decide +kernel
theorem dX12_clause_187 : decode cX12_clause 187 = .ok (.iaload, 1) := by decide +kernel
theorem dX12_clause_188 : decode cX12_clause 188 = .ok (.iconst (-1), 1) := by decide +kernel
theorem dX12_clause_189 : decode cX12_clause 189 = .ok (.if_icmp .ne 12, 3) := by decide +kernel
theorem dX12_clause_192 : decode cX12_clause 192 = .ok (.aload_n 0, 1) := by decide +kernel
theorem dX12_clause_193 : decode cX12_clause 193 = .ok (.iconst 1, 1) := by decide +kernel
theorem dX12_clause_194 : decode cX12_clause 194 = .ok (.aload_n 0, 1) := by decide +kernel
theorem dX12_clause_195 : decode cX12_clause 195 = .ok (.getfield 179, 3) := by decide +kernel
theorem dX12_clause_198 : decode cX12_clause 198 = .ok (.invokevirtual 185, 3) := by decide +kernel
theorem dX12_clause_201 : decode cX12_clause 201 = .ok (.return_, 1) := by decide +kernel
theorem dX12_clause_202 : decode cX12_clause 202 = .ok (.aload_n 1, 1) := by decide +kernel
theorem dX12_clause_203 : decode cX12_clause 203 = .ok (.iload_n 3, 1) := by decide +kernel
theorem dX12_clause_204 : decode cX12_clause 204 = .ok (.aload_n 0, 1) := by decide +kernel
theorem dX12_clause_205 : decode cX12_clause 205 = .ok (.iconst 0, 1) := by decide +kernel
theorem dX12_clause_206 : decode cX12_clause 206 = .ok (.iload_n 3, 1) := by decide +kernel
theorem dX12_clause_207 : decode cX12_clause 207 = .ok (.iconst 5, 1) := by decide +kernel
theorem dX12_clause_208 : decode cX12_clause 208 = .ok (.if_icmp .ne 9, 3) := by decide +kernel
theorem dX12_clause_211 : decode cX12_clause 211 = .ok (.sipush 9999, 3) := by decide +kernel
theorem dX12_clause_214 : decode cX12_clause 214 = .ok (.goto 17, 3) := by decide +kernel
theorem dX12_clause_217 : decode cX12_clause 217 = .ok (.iload_n 3, 1) := by decide +kernel
theorem dX12_clause_218 : decode cX12_clause 218 = .ok (.bipush 8, 2) := by decide +kernel
theorem dX12_clause_220 : decode cX12_clause 220 = .ok (.if_icmp .ne 8, 3) := by decide +kernel
theorem dX12_clause_223 : decode cX12_clause 223 = .ok (.bipush 100, 2) := by decide +kernel
theorem dX12_clause_225 : decode cX12_clause 225 = .ok (.goto 6, 3) := by decide +kernel
theorem dX12_clause_228 : decode cX12_clause 228 = .ok (.sipush 1000, 3) := by decide +kernel
theorem dX12_clause_231 : decode cX12_clause 231 = .ok (.invokevirtual 238, 3) := by decide +kernel
theorem dX12_clause_234 : decode cX12_clause 234 = .ok (.iastore, 1) := by decide +kernel
theorem dX12_clause_235 : decode cX12_clause 235 = .ok (.iload_n 3, 1) := by decide +kernel
theorem dX12_clause_236 : decode cX12_clause 236 = .ok (.bipush 9, 2) := by decide +kernel
theorem dX12_clause_238 : decode cX12_clause 238 = .ok (.if_icmp .ne 51, 3) := by decide +kernel
theorem dX12_clause_241 : decode cX12_clause 241 = .ok (.aload_n 0, 1) := by decide +kernel
theorem dX12_clause_242 : decode cX12_clause 242 = .ok (.getfield 173, 3) := by decide +kernel
theorem dX12_clause_245 : decode cX12_clause 245 = .ok (.ifCond .ne 44, 3) := by decide +kernel
theorem dX12_clause_248 : decode cX12_clause 248 = .ok (.aload_n 0, 1) := by decide +kernel
theorem dX12_clause_249 : decode cX12_clause 249 = .ok (.invokevirtual 229, 3) := by decide +kernel
theorem dX12_clause_252 : decode cX12_clause 252 = .ok (.aload_n 0, 1) := by decide +kernel
theorem dX12_clause_253 : decode cX12_clause 253 = .ok (.getfield 173, 3) := by decide +kernel
theorem dX12_clause_256 : decode cX12_clause 256 = .ok (.ifCond .ne 21, 3) := by decide +kernel
theorem dX12_clause_259 : decode cX12_clause 259 = .ok (.aload_n 0, 1) := by decide +kernel
theorem dX12_clause_260 : decode cX12_clause 260 = .ok (.ldc 248, 2) := by decide +kernel
theorem dX12_clause_262 : decode cX12_clause 262 = .ok (.invokevirtual 219, 3) := by decide +kernel
theorem dX12_clause_265 : decode cX12_clause 265 = .ok (.ifCond .ne 12, 3) := by decide +kernel
theorem dX12_clause_268 : decode cX12_clause 268 = .ok (.aload_n 0, 1) := by decide +kernel
theorem dX12_clause_269 : decode cX12_clause 269 = .ok (.iconst 1, 1) := by decide +kernel
theorem dX12_clause_270 : decode cX12_clause 270 = .ok (.aload_n 0, 1) := by decide +kernel
theorem dX12_clause_271 : decode cX12_clause 271 = .ok (.getfield 179, 3) := by decide +kernel
theorem dX12_clause_274 : decode cX12_clause 274 = .ok (.invokevirtual 185, 3) := by decide +kernel
theorem dX12_clause_277 : decode cX12_clause 277 = .ok (.aload_n 1, 1) := by decide +kernel
theorem dX12_clause_278 : decode cX12_clause 278 = .ok (.bipush 10, 2) := by decide +kernel
theorem dX12_clause_280 : decode cX12_clause 280 = .ok (.aload_n 0, 1) := by decide +kernel
theorem dX12_clause_281 : decode cX12_clause 281 = .ok (.iconst 0, 1) := by decide +kernel
theorem dX12_clause_282 : decode cX12_clause 282 = .ok (.sipush 5000, 3) := by decide +kernel
theorem dX12_clause_285 : decode cX12_clause 285 = .ok (.invokevirtual 238, 3) := by decide +kernel
theorem dX12_clause_288 : decode cX12_clause 288 = .ok (.iastore, 1) := by decide +kernel
theorem dX12_clause_289 : decode cX12_clause 289 = .ok (.return_, 1) := by decide +kernel
theorem dX12_law_0 : decode cX12_law 0 = .ok (.aload_n 0, 1) := by decide +kernel
theorem dX12_law_1 : decode cX12_law 1 = .ok (.getfield 250, 3) := by decide +kernel
theorem dX12_law_4 : decode cX12_law 4 = .ok (.bipush 6, 2) := by decide +kernel
theorem dX12_law_6 : decode cX12_law 6 = .ok (.if_icmp .eq 14, 3) := by decide +kernel
theorem dX12_law_9 : decode cX12_law 9 = .ok (.iload_n 1, 1) := by decide +kernel
theorem dX12_law_10 : decode cX12_law 10 = .ok (.iconst 0, 1) := by decide +kernel
theorem dX12_law_11 : decode cX12_law 11 = .ok (.sipush 5000, 3) := by decide +kernel
theorem dX12_law_14 : decode cX12_law 14 = .ok (.invokestatic 131, 3) := by decide +kernel
theorem dX12_law_17 : decode cX12_law 17 = .ok (.ifCond .ne 5, 3) := by decide +kernel
theorem dX12_law_20 : decode cX12_law 20 = .ok (.iconst (-1), 1) := by decide +kernel
theorem dX12_law_21 : decode cX12_law 21 = .ok (.ireturn, 1) := by decide +kernel
theorem dX12_law_22 : decode cX12_law 22 = .ok (.aload_n 0, 1) := by decide +kernel
theorem dX12_law_23 : decode cX12_law 23 = .ok (.getfield 78, 3) := by decide +kernel
theorem dX12_law_26 : decode cX12_law 26 = .ok (.bipush 6, 2) := by decide +kernel
theorem dX12_law_28 : decode cX12_law 28 = .ok (.aaload, 1) := by decide +kernel
theorem dX12_law_29 : decode cX12_law 29 = .ok (.astore_n 2, 1) := by decide +kernel
theorem dX12_law_30 : decode cX12_law 30 = .ok (.bipush 11, 2) := by decide +kernel
theorem dX12_law_32 : decode cX12_law 32 = .ok (.newarray .boolean, 2) := by decide +kernel
theorem dX12_law_34 : decode cX12_law 34 = .ok (.astore_n 3, 1) := by decide +kernel
theorem dX12_law_35 : decode cX12_law 35 = .ok (.iconst 0, 1) := by decide +kernel
theorem dX12_law_36 : decode cX12_law 36 = .ok (.istore 4, 2) := by decide +kernel
theorem dX12_law_38 : decode cX12_law 38 = .ok (.iload 4, 2) := by decide +kernel
theorem dX12_law_40 : decode cX12_law 40 = .ok (.bipush 11, 2) := by decide +kernel
theorem dX12_law_42 : decode cX12_law 42 = .ok (.if_icmp .ge 26, 3) := by decide +kernel
theorem dX12_law_45 : decode cX12_law 45 = .ok (.aload_n 2, 1) := by decide +kernel
theorem dX12_law_46 : decode cX12_law 46 = .ok (.iload 4, 2) := by decide +kernel
theorem dX12_law_48 : decode cX12_law 48 = .ok (.iload 4, 2) := by decide +kernel
theorem dX12_law_50 : decode cX12_law 50 = .ok (.bipush 7, 2) := by decide +kernel
theorem dX12_law_52 : decode cX12_law 52 = .ok (.if_icmp .ne 8, 3) := by decide +kernel
theorem dX12_law_55 : decode cX12_law 55 = .ok (.bipush 100, 2) := by decide +kernel
theorem dX12_law_57 : decode cX12_law 57 = .ok (.goto 4, 3) := by decide +kernel
theorem dX12_law_60 : decode cX12_law 60 = .ok (.iconst 0, 1) := by decide +kernel
theorem dX12_law_61 : decode cX12_law 61 = .ok (.iastore, 1) := by decide +kernel
theorem dX12_law_62 : decode cX12_law 62 = .ok (.iinc 4 1, 3) := by decide +kernel
theorem dX12_law_65 : decode cX12_law 65 = .ok (.goto (-27), 3) := by decide +kernel
theorem dX12_law_68 : decode cX12_law 68 = .ok (.aload_n 0, 1) := by decide +kernel
theorem dX12_law_69 : decode cX12_law 69 = .ok (.iconst 0, 1) := by decide +kernel
theorem dX12_law_70 : decode cX12_law 70 = .ok (.putfield 176, 3) := by decide +kernel
theorem dX12_law_73 : decode cX12_law 73 = .ok (.aload_n 0, 1) := by decide +kernel
theorem dX12_law_74 : decode cX12_law 74 = .ok (.iconst 0, 1) := by decide +kernel
theorem dX12_law_75 : decode cX12_law 75 = .ok (.putfield 173, 3) := by decide +kernel
theorem dX12_law_78 : decode cX12_law 78 = .ok (.aload_n 0, 1) := by decide +kernel
theorem dX12_law_79 : decode cX12_law 79 = .ok (.getfield 173, 3) := by decide +kernel
theorem dX12_law_82 : decode cX12_law 82 = .ok (.ifCond .ne 66, 3) := by decide +kernel
theorem dX12_law_85 : decode cX12_law 85 = .ok (.aload_n 0, 1) := by decide +kernel
theorem dX12_law_86 : decode cX12_law 86 = .ok (.invokevirtual 182, 3) := by decide +kernel
theorem dX12_law_89 : decode cX12_law 89 = .ok (.ifCond .ne 59, 3) := by decide +kernel
theorem dX12_law_92 : decode cX12_law 92 = .ok (.aload_n 0, 1) := by decide +kernel
theorem dX12_law_93 : decode cX12_law 93 = .ok (.aload_n 2, 1) := by decide +kernel
theorem dX12_law_94 : decode cX12_law 94 = .ok (.aload_n 3, 1) := by decide +kernel
theorem dX12_law_95 : decode cX12_law 95 = .ok (.invokevirtual 253, 3) := by decide +kernel
theorem dX12_law_98 : decode cX12_law 98 = .ok (.aload_n 0, 1) := by decide +kernel
theorem dX12_law_99 : decode cX12_law 99 = .ok (.getfield 173, 3) := by decide +kernel
theorem dX12_law_102 : decode cX12_law 102 = .ok (.ifCond .ne (-24), 3) := by decide +kernel
theorem dX12_law_105 : decode cX12_law 105 = .ok (.aload_n 0, 1) := by decide +kernel
theorem dX12_law_106 : decode cX12_law 106 = .ok (.invokevirtual 182, 3) := by decide +kernel
theorem dX12_law_109 : decode cX12_law 109 = .ok (.ifCond .ne 17, 3) := by decide +kernel
theorem dX12_law_112 : decode cX12_law 112 = .ok (.aload_n 0, 1) := by decide +kernel
theorem dX12_law_113 : decode cX12_law 113 = .ok (.getfield 81, 3) := by decide +kernel
theorem dX12_law_116 : decode cX12_law 116 = .ok (.aload_n 0, 1) := by decide +kernel
theorem dX12_law_117 : decode cX12_law 117 = .ok (.getfield 176, 3) := by decide +kernel
theorem dX12_law_120 : decode cX12_law 120 = .ok (.baload, 1) := by decide +kernel
theorem dX12_law_121 : decode cX12_law 121 = .ok (.bipush 59, 2) := by decide +kernel
theorem dX12_law_123 : decode cX12_law 123 = .ok (.if_icmp .eq 12, 3) := by decide +kernel
theorem dX12_law_126 : decode cX12_law 126 = .ok (.aload_n 0, 1) := by decide +kernel
theorem dX12_law_127 : decode cX12_law 127 = .ok (.iconst 1, 1) := by decide +kernel
theorem dX12_law_128 : decode cX12_law 128 = .ok (.aload_n 0, 1) := by decide +kernel
theorem dX12_law_129 : decode cX12_law 129 = .ok (.getfield 176, 3) := by decide +kernel
theorem dX12_law_132 : decode cX12_law 132 = .ok (.invokevirtual 185, 3) := by decide +kernel
theorem dX12_law_135 : decode cX12_law 135 = .ok (.aload_n 0, 1) := by decide +kernel
theorem dX12_law_136 : decode cX12_law 136 = .ok (.dup, 1) := by decide +kernel
theorem dX12_law_137 : decode cX12_law 137 = .ok (.getfield 176, 3) := by decide +kernel
theorem dX12_law_140 : decode cX12_law 140 = .ok (.iconst 1, 1) := by decide +kernel
theorem dX12_law_141 : decode cX12_law 141 = .ok (.iadd, 1) := by decide +kernel
theorem dX12_law_142 : decode cX12_law 142 = .ok (.putfield 176, 3) := by decide +kernel
theorem dX12_law_145 : decode cX12_law 145 = .ok (.goto (-67), 3) := by decide +kernel
theorem dX12_law_148 : decode cX12_law 148 = .ok (.aload_n 3, 1) := by decide +kernel
theorem dX12_law_149 : decode cX12_law 149 = .ok (.bipush 6, 2) := by decide +kernel
theorem dX12_law_151 : decode cX12_law 151 = .ok (.baload, 1) := by decide +kernel
theorem dX12_law_152 : decode cX12_law 152 = .ok (.ifCond .ne 12, 3) := by decide +kernel
theorem dX12_law_155 : decode cX12_law 155 = .ok (.aload_n 0, 1) := by decide +kernel
theorem dX12_law_156 : decode cX12_law 156 = .ok (.iconst 4, 1) := by decide +kernel
theorem dX12_law_157 : decode cX12_law 157 = .ok (.aload_n 0, 1) := by decide +kernel
theorem dX12_law_158 : decode cX12_law 158 = .ok (.getfield 166, 3) := by decide +kernel
theorem dX12_law_161 : decode cX12_law 161 = .ok (.invokevirtual 185, 3) := by decide +kernel
theorem dX12_law_164 : decode cX12_law 164 = .ok (.aload_n 0, 1) := by decide +kernel
theorem dX12_law_165 : decode cX12_law 165 = .ok (.iconst 0, 1) := by decide +kernel
theorem dX12_law_166 : decode cX12_law 166 = .ok (.putfield 166, 3) := by decide +kernel
theorem dX12_law_169 : decode cX12_law 169 = .ok (.aload_n 0, 1) := by decide +kernel
theorem dX12_law_170 : decode cX12_law 170 = .ok (.getfield 173, 3) := by decide +kernel
theorem dX12_law_173 : decode cX12_law 173 = .ok (.ifCond .le 11, 3) := by decide +kernel
theorem dX12_law_176 : decode cX12_law 176 = .ok (.bipush (-2), 2) := by decide +kernel
theorem dX12_law_178 : decode cX12_law 178 = .ok (.aload_n 0, 1) := by decide +kernel
theorem dX12_law_179 : decode cX12_law 179 = .ok (.getfield 173, 3) := by decide +kernel
theorem dX12_law_182 : decode cX12_law 182 = .ok (.isub, 1) := by decide +kernel
theorem dX12_law_183 : decode cX12_law 183 = .ok (.ireturn, 1) := by decide +kernel
theorem dX12_law_184 : decode cX12_law 184 = .ok (.iconst 0, 1) := by decide +kernel
theorem dX12_law_185 : decode cX12_law 185 = .ok (.istore 4, 2) := by decide +kernel
theorem dX12_law_187 : decode cX12_law 187 = .ok (.iload 4, 2) := by decide +kernel
theorem dX12_law_189 : decode cX12_law 189 = .ok (.bipush 11, 2) := by decide +kernel
theorem dX12_law_191 : decode cX12_law 191 = .ok (.if_icmp .ge 25, 3) := by decide +kernel
theorem dX12_law_194 : decode cX12_law 194 = .ok (.aload_n 0, 1) := by decide +kernel
theorem dX12_law_195 : decode cX12_law 195 = .ok (.getfield 78, 3) := by decide +kernel
theorem dX12_law_198 : decode cX12_law 198 = .ok (.aload_n 0, 1) := by decide +kernel
theorem dX12_law_199 : decode cX12_law 199 = .ok (.getfield 250, 3) := by decide +kernel
theorem dX12_law_202 : decode cX12_law 202 = .ok (.aaload, 1) := by decide +kernel
theorem dX12_law_203 : decode cX12_law 203 = .ok (.iload 4, 2) := by decide +kernel
theorem dX12_law_205 : decode cX12_law 205 = .ok (.aload_n 2, 1) := by decide +kernel
theorem dX12_law_206 : decode cX12_law 206 = .ok (.iload 4, 2) := by decide +kernel
theorem dX12_law_208 : decode cX12_law 208 = .ok (.iaload, 1) := by decide +kernel
theorem dX12_law_209 : decode cX12_law 209 = .ok (.iastore, 1) := by decide +kernel
theorem dX12_law_210 : decode cX12_law 210 = .ok (.iinc 4 1, 3) := by decide +kernel
theorem dX12_law_213 : decode cX12_law 213 = .ok (.goto (-26), 3) := by decide +kernel
theorem dX12_law_216 : decode cX12_law 216 = .ok (.aload_n 0, 1) := by decide +kernel
theorem dX12_law_217 : decode cX12_law 217 = .ok (.getfield 70, 3) := by decide +kernel
theorem dX12_law_220 : decode cX12_law 220 = .ok (.aload_n 0, 1) := by decide +kernel
theorem dX12_law_221 : decode cX12_law 221 = .ok (.getfield 250, 3) := by decide +kernel
theorem dX12_law_224 : decode cX12_law 224 = .ok (.iload_n 1, 1) := by decide +kernel
theorem dX12_law_225 : decode cX12_law 225 = .ok (.iastore, 1) := by decide +kernel
theorem dX12_law_226 : decode cX12_law 226 = .ok (.aload_n 0, 1) := by decide +kernel
theorem dX12_law_227 : decode cX12_law 227 = .ok (.getfield 73, 3) := by decide +kernel
theorem dX12_law_230 : decode cX12_law 230 = .ok (.aload_n 0, 1) := by decide +kernel
theorem dX12_law_231 : decode cX12_law 231 = .ok (.getfield 250, 3) := by decide +kernel
theorem dX12_law_234 : decode cX12_law 234 = .ok (.aload_n 0, 1) := by decide +kernel
theorem dX12_law_235 : decode cX12_law 235 = .ok (.getfield 128, 3) := by decide +kernel
theorem dX12_law_238 : decode cX12_law 238 = .ok (.iastore, 1) := by decide +kernel
theorem dX12_law_239 : decode cX12_law 239 = .ok (.aload_n 0, 1) := by decide +kernel
theorem dX12_law_240 : decode cX12_law 240 = .ok (.dup, 1) := by decide +kernel
theorem dX12_law_241 : decode cX12_law 241 = .ok (.getfield 250, 3) := by decide +kernel
theorem dX12_law_244 : decode cX12_law 244 = .ok (.iconst 1, 1) := by decide +kernel
theorem dX12_law_245 : decode cX12_law 245 = .ok (.iadd, 1) := by decide +kernel
theorem dX12_law_246 : decode cX12_law 246 = .ok (.putfield 250, 3) := by decide +kernel
theorem dX12_law_249 : decode cX12_law 249 = .ok (.aload_n 0, 1) := by decide +kernel
theorem dX12_law_250 : decode cX12_law 250 = .ok (.getfield 250, 3) := by decide +kernel
theorem dX12_law_253 : decode cX12_law 253 = .ok (.iconst 1, 1) := by decide +kernel
theorem dX12_law_254 : decode cX12_law 254 = .ok (.isub, 1) := by decide +kernel
theorem dX12_law_255 : decode cX12_law 255 = .ok (.ireturn, 1) := by decide +kernel
theorem dX12_sheet_0 : decode cX12_sheet 0 = .ok (.iload_n 1, 1) := by decide +kernel
theorem dX12_sheet_1 : decode cX12_sheet 1 = .ok (.iconst 1, 1) := by decide +kernel
theorem dX12_sheet_2 : decode cX12_sheet 2 = .ok (.bipush 60, 2) := by decide +kernel
theorem dX12_sheet_4 : decode cX12_sheet 4 = .ok (.invokestatic 131, 3) := by decide +kernel
theorem dX12_sheet_7 : decode cX12_sheet 7 = .ok (.ifCond .ne 5, 3) := by decide +kernel
theorem dX12_sheet_10 : decode cX12_sheet 10 = .ok (.iconst 0, 1) := by decide +kernel
theorem dX12_sheet_11 : decode cX12_sheet 11 = .ok (.ireturn, 1) := by decide +kernel
theorem dX12_sheet_12 : decode cX12_sheet 12 = .ok (.bipush 60, 2) := by decide +kernel
theorem dX12_sheet_14 : decode cX12_sheet 14 = .ok (.newarray .int, 2) := by decide +kernel
theorem dX12_sheet_16 : decode cX12_sheet 16 = .ok (.astore 10, 2) := by decide +kernel
theorem dX12_sheet_18 : decode cX12_sheet 18 = .ok (.iconst 0, 1) := by decide +kernel
theorem dX12_sheet_19 : decode cX12_sheet 19 = .ok (.istore 11, 2) := by decide +kernel
theorem dX12_sheet_21 : decode cX12_sheet 21 = .ok (.iload 11, 2) := by decide +kernel
theorem dX12_sheet_23 : decode cX12_sheet 23 = .ok (.iload_n 1, 1) := by decide +kernel
theorem dX12_sheet_24 : decode cX12_sheet 24 = .ok (.if_icmp .ge 84, 3) := by decide +kernel
theorem dX12_sheet_27 : decode cX12_sheet 27 = .ok (.iload 11, 2) := by decide +kernel
theorem dX12_sheet_29 : decode cX12_sheet 29 = .ok (.bipush 16, 2) := by decide +kernel
theorem dX12_sheet_31 : decode cX12_sheet 31 = .ok (.if_icmp .ge 7, 3) := by decide +kernel
theorem dX12_sheet_34 : decode cX12_sheet 34 = .ok (.lload_n 2, 1) := by decide +kernel
theorem dX12_sheet_35 : decode cX12_sheet 35 = .ok (.goto 29, 3) := by decide +kernel
theorem dX12_sheet_38 : decode cX12_sheet 38 = .ok (.iload 11, 2) := by decide +kernel
theorem dX12_sheet_40 : decode cX12_sheet 40 = .ok (.bipush 32, 2) := by decide +kernel
theorem dX12_sheet_42 : decode cX12_sheet 42 = .ok (.if_icmp .ge 8, 3) := by decide +kernel
theorem dX12_sheet_45 : decode cX12_sheet 45 = .ok (.lload 4, 2) := by decide +kernel
theorem dX12_sheet_47 : decode cX12_sheet 47 = .ok (.goto 17, 3) := by decide +kernel
theorem dX12_sheet_50 : decode cX12_sheet 50 = .ok (.iload 11, 2) := by decide +kernel
theorem dX12_sheet_52 : decode cX12_sheet 52 = .ok (.bipush 48, 2) := by decide +kernel
theorem dX12_sheet_54 : decode cX12_sheet 54 = .ok (.if_icmp .ge 8, 3) := by decide +kernel
theorem dX12_sheet_57 : decode cX12_sheet 57 = .ok (.lload 6, 2) := by decide +kernel
theorem dX12_sheet_59 : decode cX12_sheet 59 = .ok (.goto 5, 3) := by decide +kernel
theorem dX12_sheet_62 : decode cX12_sheet 62 = .ok (.lload 8, 2) := by decide +kernel
theorem dX12_sheet_64 : decode cX12_sheet 64 = .ok (.lstore 12, 2) := by decide +kernel
theorem dX12_sheet_66 : decode cX12_sheet 66 = .ok (.aload 10, 2) := by decide +kernel
theorem dX12_sheet_68 : decode cX12_sheet 68 = .ok (.iload 11, 2) := by decide +kernel
theorem dX12_sheet_70 : decode cX12_sheet 70 = .ok (.lload 12, 2) := by decide +kernel
theorem dX12_sheet_72 : decode cX12_sheet 72 = .ok (.iconst 4, 1) := by decide +kernel
theorem dX12_sheet_73 : decode cX12_sheet 73 = .ok (.iload 11, 2) := by decide +kernel
theorem dX12_sheet_75 : decode cX12_sheet 75 = .ok (.bipush 16, 2) := by decide +kernel
theorem dX12_sheet_77 : decode cX12_sheet 77 = .ok (.irem, 1) := by decide +kernel
theorem dX12_sheet_78 : decode cX12_sheet 78 = .ok (.imul, 1) := by decide +kernel
theorem dX12_sheet_79 : decode cX12_sheet 79 = .ok (.lshr, 1) := by decide +kernel
theorem dX12_sheet_80 : decode cX12_sheet 80 = .ok (.ldc2_w 257, 3) := by decide +kernel
theorem dX12_sheet_83 : decode cX12_sheet 83 = .ok (.land, 1) := by decide +kernel
theorem dX12_sheet_84 : decode cX12_sheet 84 = .ok (.l2i, 1) := by decide +kernel
theorem dX12_sheet_85 : decode cX12_sheet 85 = .ok (.iastore, 1) := by decide +kernel
theorem dX12_sheet_86 : decode cX12_sheet 86 = .ok (.aload 10, 2) := by decide +kernel
theorem dX12_sheet_88 : decode cX12_sheet 88 = .ok (.iload 11, 2) := by decide +kernel
theorem dX12_sheet_90 : decode cX12_sheet 90 = .ok (.iaload, 1) := by decide +kernel
theorem dX12_sheet_91 : decode cX12_sheet 91 = .ok (.iconst 1, 1) := by decide +kernel
theorem dX12_sheet_92 : decode cX12_sheet 92 = .ok (.bipush 9, 2) := by decide +kernel
theorem dX12_sheet_94 : decode cX12_sheet 94 = .ok (.invokestatic 131, 3) := by decide +kernel
theorem dX12_sheet_97 : decode cX12_sheet 97 = .ok (.ifCond .ne 5, 3) := by decide +kernel
theorem dX12_sheet_100 : decode cX12_sheet 100 = .ok (.iconst 0, 1) := by decide +kernel
theorem dX12_sheet_101 : decode cX12_sheet 101 = .ok (.ireturn, 1) := by decide +kernel
theorem dX12_sheet_102 : decode cX12_sheet 102 = .ok (.iinc 11 1, 3) := by decide +kernel
theorem dX12_sheet_105 : decode cX12_sheet 105 = .ok (.goto (-84), 3) := by decide +kernel
theorem dX12_sheet_108 : decode cX12_sheet 108 = .ok (.iconst 0, 1) := by decide +kernel
theorem dX12_sheet_109 : decode cX12_sheet 109 = .ok (.istore 11, 2) := by decide +kernel
theorem dX12_sheet_111 : decode cX12_sheet 111 = .ok (.iload 11, 2) := by decide +kernel
theorem dX12_sheet_113 : decode cX12_sheet 113 = .ok (.iload_n 1, 1) := by decide +kernel
theorem dX12_sheet_114 : decode cX12_sheet 114 = .ok (.if_icmp .ge 21, 3) := by decide +kernel
theorem dX12_sheet_117 : decode cX12_sheet 117 = .ok (.aload_n 0, 1) := by decide +kernel
theorem dX12_sheet_118 : decode cX12_sheet 118 = .ok (.getfield 85, 3) := by decide +kernel
theorem dX12_sheet_121 : decode cX12_sheet 121 = .ok (.iload 11, 2) := by decide +kernel
theorem dX12_sheet_123 : decode cX12_sheet 123 = .ok (.aload 10, 2) := by decide +kernel
theorem dX12_sheet_125 : decode cX12_sheet 125 = .ok (.iload 11, 2) := by decide +kernel
theorem dX12_sheet_127 : decode cX12_sheet 127 = .ok (.iaload, 1) := by decide +kernel
theorem dX12_sheet_128 : decode cX12_sheet 128 = .ok (.iastore, 1) := by decide +kernel
theorem dX12_sheet_129 : decode cX12_sheet 129 = .ok (.iinc 11 1, 3) := by decide +kernel
theorem dX12_sheet_132 : decode cX12_sheet 132 = .ok (.goto (-21), 3) := by decide +kernel
theorem dX12_sheet_135 : decode cX12_sheet 135 = .ok (.aload_n 0, 1) := by decide +kernel
theorem dX12_sheet_136 : decode cX12_sheet 136 = .ok (.iload_n 1, 1) := by decide +kernel
theorem dX12_sheet_137 : decode cX12_sheet 137 = .ok (.putfield 259, 3) := by decide +kernel
theorem dX12_sheet_140 : decode cX12_sheet 140 = .ok (.aload_n 0, 1) := by decide +kernel
theorem dX12_sheet_141 : decode cX12_sheet 141 = .ok (.iconst 1, 1) := by decide +kernel
theorem dX12_sheet_142 : decode cX12_sheet 142 = .ok (.putfield 262, 3) := by decide +kernel
theorem dX12_sheet_145 : decode cX12_sheet 145 = .ok (.iconst 1, 1) := by decide +kernel
theorem dX12_sheet_146 : decode cX12_sheet 146 = .ok (.ireturn, 1) := by decide +kernel
theorem dX12_ship_0 : decode cX12_ship 0 = .ok (.aload_n 0, 1) := by decide +kernel
theorem dX12_ship_1 : decode cX12_ship 1 = .ok (.getfield 266, 3) := by decide +kernel
theorem dX12_ship_4 : decode cX12_ship 4 = .ok (.bipush 8, 2) := by decide +kernel
theorem dX12_ship_6 : decode cX12_ship 6 = .ok (.if_icmp .ge 82, 3) := by decide +kernel
theorem dX12_ship_9 : decode cX12_ship 9 = .ok (.aload_n 0, 1) := by decide +kernel
theorem dX12_ship_10 : decode cX12_ship 10 = .ok (.getfield 262, 3) := by decide +kernel
theorem dX12_ship_13 : decode cX12_ship 13 = .ok (.ifCond .eq 75, 3) := by decide +kernel
theorem dX12_ship_16 : decode cX12_ship 16 = .ok (.iload_n 1, 1) := by decide +kernel
theorem dX12_ship_17 : decode cX12_ship 17 = .ok (.iconst 1, 1) := by decide +kernel
theorem dX12_ship_18 : decode cX12_ship 18 = .ok (.sipush 5000, 3) := by decide +kernel
theorem dX12_ship_21 : decode cX12_ship 21 = .ok (.invokestatic 131, 3) := by decide +kernel
theorem dX12_ship_24 : decode cX12_ship 24 = .ok (.ifCond .eq 64, 3) := by decide +kernel
theorem dX12_ship_27 : decode cX12_ship 27 = .ok (.iload_n 2, 1) := by decide +kernel
theorem dX12_ship_28 : decode cX12_ship 28 = .ok (.iconst 0, 1) := by decide +kernel
theorem dX12_ship_29 : decode cX12_ship 29 = .ok (.bipush 15, 2) := by decide +kernel
theorem dX12_ship_31 : decode cX12_ship 31 = .ok (.invokestatic 131, 3) := by decide +kernel
theorem dX12_ship_34 : decode cX12_ship 34 = .ok (.ifCond .eq 54, 3) := by decide +kernel
theorem dX12_ship_37 : decode cX12_ship 37 = .ok (.iload_n 3, 1) := by decide +kernel
theorem dX12_ship_38 : decode cX12_ship 38 = .ok (.iconst 0, 1) := by decide +kernel
theorem dX12_ship_39 : decode cX12_ship 39 = .ok (.bipush 15, 2) := by decide +kernel
theorem dX12_ship_41 : decode cX12_ship 41 = .ok (.invokestatic 131, 3) := by decide +kernel
theorem dX12_ship_44 : decode cX12_ship 44 = .ok (.ifCond .eq 44, 3) := by decide +kernel
theorem dX12_ship_47 : decode cX12_ship 47 = .ok (.iload 4, 2) := by decide +kernel
theorem dX12_ship_49 : decode cX12_ship 49 = .ok (.iconst 0, 1) := by decide +kernel
theorem dX12_ship_50 : decode cX12_ship 50 = .ok (.sipush 5000, 3) := by decide +kernel
theorem dX12_ship_53 : decode cX12_ship 53 = .ok (.invokestatic 131, 3) := by decide +kernel
theorem dX12_ship_56 : decode cX12_ship 56 = .ok (.ifCond .eq 32, 3) := by decide +kernel
theorem dX12_ship_59 : decode cX12_ship 59 = .ok (.iload 5, 2) := by decide +kernel
theorem dX12_ship_61 : decode cX12_ship 61 = .ok (.iconst 0, 1) := by decide +kernel
theorem dX12_ship_62 : decode cX12_ship 62 = .ok (.bipush 100, 2) := by decide +kernel
theorem dX12_ship_64 : decode cX12_ship 64 = .ok (.invokestatic 131, 3) := by decide +kernel
theorem dX12_ship_67 : decode cX12_ship 67 = .ok (.ifCond .eq 21, 3) := by decide +kernel
theorem dX12_ship_70 : decode cX12_ship 70 = .ok (.iload 6, 2) := by decide +kernel
theorem dX12_ship_72 : decode cX12_ship 72 = .ok (.iconst 0, 1) := by decide +kernel
theorem dX12_ship_73 : decode cX12_ship 73 = .ok (.bipush 100, 2) := by decide +kernel
theorem dX12_ship_75 : decode cX12_ship 75 = .ok (.iload 5, 2) := by decide +kernel
theorem dX12_ship_77 : decode cX12_ship 77 = .ok (.isub, 1) := by decide +kernel
theorem dX12_ship_78 : decode cX12_ship 78 = .ok (.invokestatic 131, 3) := by decide +kernel
theorem dX12_ship_81 : decode cX12_ship 81 = .ok (.ifCond .eq 7, 3) := by decide +kernel
theorem dX12_ship_84 : decode cX12_ship 84 = .ok (.iconst 1, 1) := by decide +kernel
theorem dX12_ship_85 : decode cX12_ship 85 = .ok (.goto 4, 3) := by decide +kernel
theorem dX12_ship_88 : decode cX12_ship 88 = .ok (.iconst 0, 1) := by decide +kernel
theorem dX12_ship_89 : decode cX12_ship 89 = .ok (.istore 7, 2) := by decide +kernel
theorem dX12_ship_91 : decode cX12_ship 91 = .ok (.iload 7, 2) := by decide +kernel
theorem dX12_ship_93 : decode cX12_ship 93 = .ok (.ifCond .ne 5, 3) := by decide +kernel
theorem dX12_ship_96 : decode cX12_ship 96 = .ok (.iconst (-1), 1) := by decide +kernel
theorem dX12_ship_97 : decode cX12_ship 97 = .ok (.ireturn, 1) := by decide +kernel
theorem dX12_ship_98 : decode cX12_ship 98 = .ok (.aload_n 0, 1) := by decide +kernel
theorem dX12_ship_99 : decode cX12_ship 99 = .ok (.getfield 88, 3) := by decide +kernel
theorem dX12_ship_102 : decode cX12_ship 102 = .ok (.aload_n 0, 1) := by decide +kernel
theorem dX12_ship_103 : decode cX12_ship 103 = .ok (.getfield 266, 3) := by decide +kernel
theorem dX12_ship_106 : decode cX12_ship 106 = .ok (.iload_n 1, 1) := by decide +kernel
theorem dX12_ship_107 : decode cX12_ship 107 = .ok (.iastore, 1) := by decide +kernel
theorem dX12_ship_108 : decode cX12_ship 108 = .ok (.aload_n 0, 1) := by decide +kernel
theorem dX12_ship_109 : decode cX12_ship 109 = .ok (.getfield 91, 3) := by decide +kernel
theorem dX12_ship_112 : decode cX12_ship 112 = .ok (.aload_n 0, 1) := by decide +kernel
theorem dX12_ship_113 : decode cX12_ship 113 = .ok (.getfield 266, 3) := by decide +kernel
theorem dX12_ship_116 : decode cX12_ship 116 = .ok (.iload_n 2, 1) := by decide +kernel
theorem dX12_ship_117 : decode cX12_ship 117 = .ok (.iastore, 1) := by decide +kernel
theorem dX12_ship_118 : decode cX12_ship 118 = .ok (.aload_n 0, 1) := by decide +kernel
theorem dX12_ship_119 : decode cX12_ship 119 = .ok (.getfield 94, 3) := by decide +kernel
theorem dX12_ship_122 : decode cX12_ship 122 = .ok (.aload_n 0, 1) := by decide +kernel
theorem dX12_ship_123 : decode cX12_ship 123 = .ok (.getfield 266, 3) := by decide +kernel
theorem dX12_ship_126 : decode cX12_ship 126 = .ok (.iload_n 3, 1) := by decide +kernel
theorem dX12_ship_127 : decode cX12_ship 127 = .ok (.iastore, 1) := by decide +kernel
theorem dX12_ship_128 : decode cX12_ship 128 = .ok (.aload_n 0, 1) := by decide +kernel
theorem dX12_ship_129 : decode cX12_ship 129 = .ok (.getfield 97, 3) := by decide +kernel
theorem dX12_ship_132 : decode cX12_ship 132 = .ok (.aload_n 0, 1) := by decide +kernel
theorem dX12_ship_133 : decode cX12_ship 133 = .ok (.getfield 266, 3) := by decide +kernel
theorem dX12_ship_136 : decode cX12_ship 136 = .ok (.iload 4, 2) := by decide +kernel
theorem dX12_ship_138 : decode cX12_ship 138 = .ok (.iastore, 1) := by decide +kernel
theorem dX12_ship_139 : decode cX12_ship 139 = .ok (.aload_n 0, 1) := by decide +kernel
theorem dX12_ship_140 : decode cX12_ship 140 = .ok (.getfield 100, 3) := by decide +kernel
theorem dX12_ship_143 : decode cX12_ship 143 = .ok (.aload_n 0, 1) := by decide +kernel
theorem dX12_ship_144 : decode cX12_ship 144 = .ok (.getfield 266, 3) := by decide +kernel
theorem dX12_ship_147 : decode cX12_ship 147 = .ok (.iload 5, 2) := by decide +kernel
theorem dX12_ship_149 : decode cX12_ship 149 = .ok (.iastore, 1) := by decide +kernel
theorem dX12_ship_150 : decode cX12_ship 150 = .ok (.aload_n 0, 1) := by decide +kernel
theorem dX12_ship_151 : decode cX12_ship 151 = .ok (.getfield 103, 3) := by decide +kernel
theorem dX12_ship_154 : decode cX12_ship 154 = .ok (.aload_n 0, 1) := by decide +kernel
theorem dX12_ship_155 : decode cX12_ship 155 = .ok (.getfield 266, 3) := by decide +kernel
theorem dX12_ship_158 : decode cX12_ship 158 = .ok (.iload 6, 2) := by decide +kernel
theorem dX12_ship_160 : decode cX12_ship 160 = .ok (.iastore, 1) := by decide +kernel
theorem dX12_ship_161 : decode cX12_ship 161 = .ok (.aload_n 0, 1) := by decide +kernel
theorem dX12_ship_162 : decode cX12_ship 162 = .ok (.getfield 106, 3) := by decide +kernel
theorem dX12_ship_165 : decode cX12_ship 165 = .ok (.aload_n 0, 1) := by decide +kernel
theorem dX12_ship_166 : decode cX12_ship 166 = .ok (.getfield 266, 3) := by decide +kernel
theorem dX12_ship_169 : decode cX12_ship 169 = .ok (.aload_n 0, 1) := by decide +kernel
theorem dX12_ship_170 : decode cX12_ship 170 = .ok (.getfield 259, 3) := by decide +kernel
theorem dX12_ship_173 : decode cX12_ship 173 = .ok (.iastore, 1) := by decide +kernel
theorem dX12_ship_174 : decode cX12_ship 174 = .ok (.iconst 0, 1) := by decide +kernel
theorem dX12_ship_175 : decode cX12_ship 175 = .ok (.istore 8, 2) := by decide +kernel
theorem dX12_ship_177 : decode cX12_ship 177 = .ok (.iload 8, 2) := by decide +kernel
theorem dX12_ship_179 : decode cX12_ship 179 = .ok (.aload_n 0, 1) := by decide +kernel
theorem dX12_ship_180 : decode cX12_ship 180 = .ok (.getfield 259, 3) := by decide +kernel
theorem dX12_ship_183 : decode cX12_ship 183 = .ok (.if_icmp .ge 28, 3) := by decide +kernel
theorem dX12_ship_186 : decode cX12_ship 186 = .ok (.aload_n 0, 1) := by decide +kernel
theorem dX12_ship_187 : decode cX12_ship 187 = .ok (.getfield 109, 3) := by decide +kernel
theorem dX12_ship_190 : decode cX12_ship 190 = .ok (.aload_n 0, 1) := by decide +kernel
theorem dX12_ship_191 : decode cX12_ship 191 = .ok (.getfield 266, 3) := by decide +kernel
theorem dX12_ship_194 : decode cX12_ship 194 = .ok (.aaload, 1) := by decide +kernel
theorem dX12_ship_195 : decode cX12_ship 195 = .ok (.iload 8, 2) := by decide +kernel
theorem dX12_ship_197 : decode cX12_ship 197 = .ok (.aload_n 0, 1) := by decide +kernel
theorem dX12_ship_198 : decode cX12_ship 198 = .ok (.getfield 85, 3) := by decide +kernel
theorem dX12_ship_201 : decode cX12_ship 201 = .ok (.iload 8, 2) := by decide +kernel
theorem dX12_ship_203 : decode cX12_ship 203 = .ok (.iaload, 1) := by decide +kernel
theorem dX12_ship_204 : decode cX12_ship 204 = .ok (.iastore, 1) := by decide +kernel
theorem dX12_ship_205 : decode cX12_ship 205 = .ok (.iinc 8 1, 3) := by decide +kernel
theorem dX12_ship_208 : decode cX12_ship 208 = .ok (.goto (-31), 3) := by decide +kernel
theorem dX12_ship_211 : decode cX12_ship 211 = .ok (.aload_n 0, 1) := by decide +kernel
theorem dX12_ship_212 : decode cX12_ship 212 = .ok (.dup, 1) := by decide +kernel
theorem dX12_ship_213 : decode cX12_ship 213 = .ok (.getfield 266, 3) := by decide +kernel
theorem dX12_ship_216 : decode cX12_ship 216 = .ok (.iconst 1, 1) := by decide +kernel
theorem dX12_ship_217 : decode cX12_ship 217 = .ok (.iadd, 1) := by decide +kernel
theorem dX12_ship_218 : decode cX12_ship 218 = .ok (.putfield 266, 3) := by decide +kernel
theorem dX12_ship_221 : decode cX12_ship 221 = .ok (.aload_n 0, 1) := by decide +kernel
theorem dX12_ship_222 : decode cX12_ship 222 = .ok (.getfield 266, 3) := by decide +kernel
theorem dX12_ship_225 : decode cX12_ship 225 = .ok (.iconst 1, 1) := by decide +kernel
theorem dX12_ship_226 : decode cX12_ship 226 = .ok (.isub, 1) := by decide +kernel
theorem dX12_ship_227 : decode cX12_ship 227 = .ok (.ireturn, 1) := by decide +kernel
theorem dX12_distance_0 : decode cX12_distance 0 = .ok (.iconst 0, 1) := by decide +kernel
theorem dX12_distance_1 : decode cX12_distance 1 = .ok (.istore_n 3, 1) := by decide +kernel
theorem dX12_distance_2 : decode cX12_distance 2 = .ok (.sipush 10000, 3) := by decide +kernel
theorem dX12_distance_5 : decode cX12_distance 5 = .ok (.istore 4, 2) := by decide +kernel
theorem dX12_distance_7 : decode cX12_distance 7 = .ok (.iconst 0, 1) := by decide +kernel
theorem dX12_distance_8 : decode cX12_distance 8 = .ok (.istore 5, 2) := by decide +kernel
theorem dX12_distance_10 : decode cX12_distance 10 = .ok (.iload 5, 2) := by decide +kernel
theorem dX12_distance_12 : decode cX12_distance 12 = .ok (.iconst 5, 1) := by decide +kernel
theorem dX12_distance_13 : decode cX12_distance 13 = .ok (.if_icmp .ge 62, 3) := by decide +kernel
theorem dX12_distance_16 : decode cX12_distance 16 = .ok (.aload_n 0, 1) := by decide +kernel
theorem dX12_distance_17 : decode cX12_distance 17 = .ok (.getfield 52, 3) := by decide +kernel
theorem dX12_distance_20 : decode cX12_distance 20 = .ok (.iload_n 1, 1) := by decide +kernel
theorem dX12_distance_21 : decode cX12_distance 21 = .ok (.iaload, 1) := by decide +kernel
theorem dX12_distance_22 : decode cX12_distance 22 = .ok (.iload 4, 2) := by decide +kernel
theorem dX12_distance_24 : decode cX12_distance 24 = .ok (.idiv, 1) := by decide +kernel
theorem dX12_distance_25 : decode cX12_distance 25 = .ok (.bipush 10, 2) := by decide +kernel
theorem dX12_distance_27 : decode cX12_distance 27 = .ok (.irem, 1) := by decide +kernel
theorem dX12_distance_28 : decode cX12_distance 28 = .ok (.aload_n 0, 1) := by decide +kernel
theorem dX12_distance_29 : decode cX12_distance 29 = .ok (.getfield 160, 3) := by decide +kernel
theorem dX12_distance_32 : decode cX12_distance 32 = .ok (.iload 4, 2) := by decide +kernel
theorem dX12_distance_34 : decode cX12_distance 34 = .ok (.idiv, 1) := by decide +kernel
theorem dX12_distance_35 : decode cX12_distance 35 = .ok (.bipush 10, 2) := by decide +kernel
theorem dX12_distance_37 : decode cX12_distance 37 = .ok (.irem, 1) := by decide +kernel
theorem dX12_distance_38 : decode cX12_distance 38 = .ok (.isub, 1) := by decide +kernel
theorem dX12_distance_39 : decode cX12_distance 39 = .ok (.istore 6, 2) := by decide +kernel
theorem dX12_distance_41 : decode cX12_distance 41 = .ok (.iload_n 3, 1) := by decide +kernel
theorem dX12_distance_42 : decode cX12_distance 42 = .ok (.aload_n 2, 1) := by decide +kernel
theorem dX12_distance_43 : decode cX12_distance 43 = .ok (.iload 5, 2) := by decide +kernel
theorem dX12_distance_45 : decode cX12_distance 45 = .ok (.iaload, 1) := by decide +kernel
theorem dX12_distance_46 : decode cX12_distance 46 = .ok (.iload 6, 2) := by decide +kernel
theorem dX12_distance_48 : decode cX12_distance 48 = .ok (.ifCond .ge 9, 3) := by decide +kernel
theorem dX12_distance_51 : decode cX12_distance 51 = .ok (.iload 6, 2) := by decide +kernel
theorem dX12_distance_53 : decode cX12_distance 53 = .ok (.ineg, 1) := by decide +kernel
theorem dX12_distance_54 : decode cX12_distance 54 = .ok (.goto 5, 3) := by decide +kernel
theorem dX12_distance_57 : decode cX12_distance 57 = .ok (.iload 6, 2) := by decide +kernel
theorem dX12_distance_59 : decode cX12_distance 59 = .ok (.imul, 1) := by decide +kernel
theorem dX12_distance_60 : decode cX12_distance 60 = .ok (.iadd, 1) := by decide +kernel
theorem dX12_distance_61 : decode cX12_distance 61 = .ok (.istore_n 3, 1) := by decide +kernel
theorem dX12_distance_62 : decode cX12_distance 62 = .ok (.iload 4, 2) := by decide +kernel
theorem dX12_distance_64 : decode cX12_distance 64 = .ok (.bipush 10, 2) := by decide +kernel
theorem dX12_distance_66 : decode cX12_distance 66 = .ok (.idiv, 1) := by decide +kernel
theorem dX12_distance_67 : decode cX12_distance 67 = .ok (.istore 4, 2) := by decide +kernel
theorem dX12_distance_69 : decode cX12_distance 69 = .ok (.iinc 5 1, 3) := by decide +kernel
theorem dX12_distance_72 : decode cX12_distance 72 = .ok (.goto (-62), 3) := by decide +kernel
theorem dX12_distance_75 : decode cX12_distance 75 = .ok (.iload_n 3, 1) := by decide +kernel
theorem dX12_distance_76 : decode cX12_distance 76 = .ok (.ireturn, 1) := by decide +kernel
theorem dX12_rated_0 : decode cX12_rated 0 = .ok (.aload_n 0, 1) := by decide +kernel
theorem dX12_rated_1 : decode cX12_rated 1 = .ok (.getfield 269, 3) := by decide +kernel
theorem dX12_rated_4 : decode cX12_rated 4 = .ok (.ifCond .ne 8, 3) := by decide +kernel
theorem dX12_rated_7 : decode cX12_rated 7 = .ok (.aload_n 1, 1) := by decide +kernel
theorem dX12_rated_8 : decode cX12_rated 8 = .ok (.bipush 7, 2) := by decide +kernel
theorem dX12_rated_10 : decode cX12_rated 10 = .ok (.iaload, 1) := by decide +kernel
theorem dX12_rated_11 : decode cX12_rated 11 = .ok (.ireturn, 1) := by decide +kernel
theorem dX12_rated_12 : decode cX12_rated 12 = .ok (.bipush 40, 2) := by decide +kernel
theorem dX12_rated_14 : decode cX12_rated 14 = .ok (.newarray .int, 2) := by decide +kernel
theorem dX12_rated_16 : decode cX12_rated 16 = .ok (.astore_n 2, 1) := by decide +kernel
theorem dX12_rated_17 : decode cX12_rated 17 = .ok (.iconst 0, 1) := by decide +kernel
theorem dX12_rated_18 : decode cX12_rated 18 = .ok (.istore_n 3, 1) := by decide +kernel
theorem dX12_rated_19 : decode cX12_rated 19 = .ok (.iconst 0, 1) := by decide +kernel
theorem dX12_rated_20 : decode cX12_rated 20 = .ok (.istore 4, 2) := by decide +kernel
theorem dX12_rated_22 : decode cX12_rated 22 = .ok (.iload 4, 2) := by decide +kernel
theorem dX12_rated_24 : decode cX12_rated 24 = .ok (.aload_n 0, 1) := by decide +kernel
theorem dX12_rated_25 : decode cX12_rated 25 = .ok (.getfield 269, 3) := by decide +kernel
theorem dX12_rated_28 : decode cX12_rated 28 = .ok (.if_icmp .ge 70, 3) := by decide +kernel
theorem dX12_rated_31 : decode cX12_rated 31 = .ok (.aload_n 0, 1) := by decide +kernel
theorem dX12_rated_32 : decode cX12_rated 32 = .ok (.getfield 55, 3) := by decide +kernel
theorem dX12_rated_35 : decode cX12_rated 35 = .ok (.aload_n 0, 1) := by decide +kernel
theorem dX12_rated_36 : decode cX12_rated 36 = .ok (.getfield 112, 3) := by decide +kernel
theorem dX12_rated_39 : decode cX12_rated 39 = .ok (.iload 4, 2) := by decide +kernel
theorem dX12_rated_41 : decode cX12_rated 41 = .ok (.iaload, 1) := by decide +kernel
theorem dX12_rated_42 : decode cX12_rated 42 = .ok (.iaload, 1) := by decide +kernel
theorem dX12_rated_43 : decode cX12_rated 43 = .ok (.istore 5, 2) := by decide +kernel
theorem dX12_rated_45 : decode cX12_rated 45 = .ok (.iload_n 3, 1) := by decide +kernel
theorem dX12_rated_46 : decode cX12_rated 46 = .ok (.iload 5, 2) := by decide +kernel
theorem dX12_rated_48 : decode cX12_rated 48 = .ok (.iadd, 1) := by decide +kernel
theorem dX12_rated_49 : decode cX12_rated 49 = .ok (.istore_n 3, 1) := by decide +kernel
theorem dX12_rated_50 : decode cX12_rated 50 = .ok (.iload 4, 2) := by decide +kernel
theorem dX12_rated_52 : decode cX12_rated 52 = .ok (.istore 6, 2) := by decide +kernel
theorem dX12_rated_54 : decode cX12_rated 54 = .ok (.iload 6, 2) := by decide +kernel
theorem dX12_rated_56 : decode cX12_rated 56 = .ok (.ifCond .le 30, 3) := by decide +kernel
theorem dX12_rated_59 : decode cX12_rated 59 = .ok (.aload_n 2, 1) := by decide +kernel
theorem dX12_rated_60 : decode cX12_rated 60 = .ok (.iload 6, 2) := by decide +kernel
theorem dX12_rated_62 : decode cX12_rated 62 = .ok (.iconst 1, 1) := by decide +kernel
theorem dX12_rated_63 : decode cX12_rated 63 = .ok (.isub, 1) := by decide +kernel
theorem dX12_rated_64 : decode cX12_rated 64 = .ok (.iaload, 1) := by decide +kernel
theorem dX12_rated_65 : decode cX12_rated 65 = .ok (.iload 5, 2) := by decide +kernel
theorem dX12_rated_67 : decode cX12_rated 67 = .ok (.if_icmp .le 19, 3) := by decide +kernel
theorem dX12_rated_70 : decode cX12_rated 70 = .ok (.aload_n 2, 1) := by decide +kernel
theorem dX12_rated_71 : decode cX12_rated 71 = .ok (.iload 6, 2) := by decide +kernel
theorem dX12_rated_73 : decode cX12_rated 73 = .ok (.aload_n 2, 1) := by decide +kernel
theorem dX12_rated_74 : decode cX12_rated 74 = .ok (.iload 6, 2) := by decide +kernel
theorem dX12_rated_76 : decode cX12_rated 76 = .ok (.iconst 1, 1) := by decide +kernel
theorem dX12_rated_77 : decode cX12_rated 77 = .ok (.isub, 1) := by decide +kernel
theorem dX12_rated_78 : decode cX12_rated 78 = .ok (.iaload, 1) := by decide +kernel
theorem dX12_rated_79 : decode cX12_rated 79 = .ok (.iastore, 1) := by decide +kernel
theorem dX12_rated_80 : decode cX12_rated 80 = .ok (.iinc 6 (-1), 3) := by decide +kernel
theorem dX12_rated_83 : decode cX12_rated 83 = .ok (.goto (-29), 3) := by decide +kernel
theorem dX12_rated_86 : decode cX12_rated 86 = .ok (.aload_n 2, 1) := by decide +kernel
theorem dX12_rated_87 : decode cX12_rated 87 = .ok (.iload 6, 2) := by decide +kernel
theorem dX12_rated_89 : decode cX12_rated 89 = .ok (.iload 5, 2) := by decide +kernel
theorem dX12_rated_91 : decode cX12_rated 91 = .ok (.iastore, 1) := by decide +kernel
theorem dX12_rated_92 : decode cX12_rated 92 = .ok (.iinc 4 1, 3) := by decide +kernel
theorem dX12_rated_95 : decode cX12_rated 95 = .ok (.goto (-73), 3) := by decide +kernel
theorem dX12_rated_98 : decode cX12_rated 98 = .ok (.aload_n 1, 1) := by decide +kernel
theorem dX12_rated_99 : decode cX12_rated 99 = .ok (.bipush 6, 2) := by decide +kernel
theorem dX12_rated_101 : decode cX12_rated 101 = .ok (.iaload, 1) := by decide +kernel
theorem dX12_rated_102 : decode cX12_rated 102 = .ok (.ifCond .ne 9, 3) := by decide +kernel
theorem dX12_rated_105 : decode cX12_rated 105 = .ok (.aload_n 2, 1) := by decide +kernel
theorem dX12_rated_106 : decode cX12_rated 106 = .ok (.iconst 0, 1) := by decide +kernel
theorem dX12_rated_107 : decode cX12_rated 107 = .ok (.iaload, 1) := by decide +kernel
theorem dX12_rated_108 : decode cX12_rated 108 = .ok (.goto 49, 3) := by decide +kernel
theorem dX12_rated_111 : decode cX12_rated 111 = .ok (.aload_n 1, 1) := by decide +kernel
theorem dX12_rated_112 : decode cX12_rated 112 = .ok (.bipush 6, 2) := by decide +kernel
theorem dX12_rated_114 : decode cX12_rated 114 = .ok (.iaload, 1) := by decide +kernel
theorem dX12_rated_115 : decode cX12_rated 115 = .ok (.iconst 1, 1) := by decide +kernel
theorem dX12_rated_116 : decode cX12_rated 116 = .ok (.if_icmp .ne 16, 3) := by decide +kernel
theorem dX12_rated_119 : decode cX12_rated 119 = .ok (.aload_n 2, 1) := by decide +kernel
theorem dX12_rated_120 : decode cX12_rated 120 = .ok (.aload_n 0, 1) := by decide +kernel
theorem dX12_rated_121 : decode cX12_rated 121 = .ok (.getfield 269, 3) := by decide +kernel
theorem dX12_rated_124 : decode cX12_rated 124 = .ok (.iconst 1, 1) := by decide +kernel
theorem dX12_rated_125 : decode cX12_rated 125 = .ok (.isub, 1) := by decide +kernel
theorem dX12_rated_126 : decode cX12_rated 126 = .ok (.iconst 2, 1) := by decide +kernel
theorem dX12_rated_127 : decode cX12_rated 127 = .ok (.idiv, 1) := by decide +kernel
theorem dX12_rated_128 : decode cX12_rated 128 = .ok (.iaload, 1) := by decide +kernel
theorem dX12_rated_129 : decode cX12_rated 129 = .ok (.goto 28, 3) := by decide +kernel
theorem dX12_rated_132 : decode cX12_rated 132 = .ok (.aload_n 1, 1) := by decide +kernel
theorem dX12_rated_133 : decode cX12_rated 133 = .ok (.bipush 6, 2) := by decide +kernel
theorem dX12_rated_135 : decode cX12_rated 135 = .ok (.iaload, 1) := by decide +kernel
theorem dX12_rated_136 : decode cX12_rated 136 = .ok (.iconst 2, 1) := by decide +kernel
theorem dX12_rated_137 : decode cX12_rated 137 = .ok (.if_icmp .ne 14, 3) := by decide +kernel
theorem dX12_rated_140 : decode cX12_rated 140 = .ok (.aload_n 2, 1) := by decide +kernel
theorem dX12_rated_141 : decode cX12_rated 141 = .ok (.aload_n 0, 1) := by decide +kernel
theorem dX12_rated_142 : decode cX12_rated 142 = .ok (.getfield 269, 3) := by decide +kernel
theorem dX12_rated_145 : decode cX12_rated 145 = .ok (.iconst 1, 1) := by decide +kernel
theorem dX12_rated_146 : decode cX12_rated 146 = .ok (.isub, 1) := by decide +kernel
theorem dX12_rated_147 : decode cX12_rated 147 = .ok (.iaload, 1) := by decide +kernel
theorem dX12_rated_148 : decode cX12_rated 148 = .ok (.goto 9, 3) := by decide +kernel
theorem dX12_rated_151 : decode cX12_rated 151 = .ok (.iload_n 3, 1) := by decide +kernel
theorem dX12_rated_152 : decode cX12_rated 152 = .ok (.aload_n 0, 1) := by decide +kernel
theorem dX12_rated_153 : decode cX12_rated 153 = .ok (.getfield 269, 3) := by decide +kernel
theorem dX12_rated_156 : decode cX12_rated 156 = .ok (.idiv, 1) := by decide +kernel
theorem dX12_rated_157 : decode cX12_rated 157 = .ok (.ireturn, 1) := by decide +kernel
theorem dX12_judge_0 : decode cX12_judge 0 = .ok (.iload_n 1, 1) := by decide +kernel
theorem dX12_judge_1 : decode cX12_judge 1 = .ok (.iconst 0, 1) := by decide +kernel
theorem dX12_judge_2 : decode cX12_judge 2 = .ok (.sipush 5000, 3) := by decide +kernel
theorem dX12_judge_5 : decode cX12_judge 5 = .ok (.invokestatic 131, 3) := by decide +kernel
theorem dX12_judge_8 : decode cX12_judge 8 = .ok (.ifCond .eq 14, 3) := by decide +kernel
theorem dX12_judge_11 : decode cX12_judge 11 = .ok (.iload_n 2, 1) := by decide +kernel
theorem dX12_judge_12 : decode cX12_judge 12 = .ok (.iconst 0, 1) := by decide +kernel
theorem dX12_judge_13 : decode cX12_judge 13 = .ok (.sipush 5000, 3) := by decide +kernel
theorem dX12_judge_16 : decode cX12_judge 16 = .ok (.invokestatic 131, 3) := by decide +kernel
theorem dX12_judge_19 : decode cX12_judge 19 = .ok (.ifCond .ne 5, 3) := by decide +kernel
theorem dX12_judge_22 : decode cX12_judge 22 = .ok (.iconst (-1), 1) := by decide +kernel
theorem dX12_judge_23 : decode cX12_judge 23 = .ok (.ireturn, 1) := by decide +kernel
theorem dX12_judge_24 : decode cX12_judge 24 = .ok (.iconst (-1), 1) := by decide +kernel
theorem dX12_judge_25 : decode cX12_judge 25 = .ok (.istore_n 3, 1) := by decide +kernel
theorem dX12_judge_26 : decode cX12_judge 26 = .ok (.iconst 0, 1) := by decide +kernel
theorem dX12_judge_27 : decode cX12_judge 27 = .ok (.istore 4, 2) := by decide +kernel
theorem dX12_judge_29 : decode cX12_judge 29 = .ok (.iload 4, 2) := by decide +kernel
theorem dX12_judge_31 : decode cX12_judge 31 = .ok (.aload_n 0, 1) := by decide +kernel
theorem dX12_judge_32 : decode cX12_judge 32 = .ok (.getfield 250, 3) := by decide +kernel
theorem dX12_judge_35 : decode cX12_judge 35 = .ok (.if_icmp .ge 55, 3) := by decide +kernel
theorem dX12_judge_38 : decode cX12_judge 38 = .ok (.aload_n 0, 1) := by decide +kernel
theorem dX12_judge_39 : decode cX12_judge 39 = .ok (.getfield 73, 3) := by decide +kernel
theorem dX12_judge_42 : decode cX12_judge 42 = .ok (.iload 4, 2) := by decide +kernel
theorem dX12_judge_44 : decode cX12_judge 44 = .ok (.iaload, 1) := by decide +kernel
theorem dX12_judge_45 : decode cX12_judge 45 = .ok (.iload_n 1, 1) := by decide +kernel
theorem dX12_judge_46 : decode cX12_judge 46 = .ok (.if_icmp .gt 38, 3) := by decide +kernel
theorem dX12_judge_49 : decode cX12_judge 49 = .ok (.aload_n 0, 1) := by decide +kernel
theorem dX12_judge_50 : decode cX12_judge 50 = .ok (.getfield 70, 3) := by decide +kernel
theorem dX12_judge_53 : decode cX12_judge 53 = .ok (.iload 4, 2) := by decide +kernel
theorem dX12_judge_55 : decode cX12_judge 55 = .ok (.iaload, 1) := by decide +kernel
theorem dX12_judge_56 : decode cX12_judge 56 = .ok (.iload_n 2, 1) := by decide +kernel
theorem dX12_judge_57 : decode cX12_judge 57 = .ok (.if_icmp .gt 27, 3) := by decide +kernel
theorem dX12_judge_60 : decode cX12_judge 60 = .ok (.iload_n 3, 1) := by decide +kernel
theorem dX12_judge_61 : decode cX12_judge 61 = .ok (.iconst (-1), 1) := by decide +kernel
theorem dX12_judge_62 : decode cX12_judge 62 = .ok (.if_icmp .eq 19, 3) := by decide +kernel
theorem dX12_judge_65 : decode cX12_judge 65 = .ok (.aload_n 0, 1) := by decide +kernel
theorem dX12_judge_66 : decode cX12_judge 66 = .ok (.getfield 70, 3) := by decide +kernel
theorem dX12_judge_69 : decode cX12_judge 69 = .ok (.iload 4, 2) := by decide +kernel
theorem dX12_judge_71 : decode cX12_judge 71 = .ok (.iaload, 1) := by decide +kernel
theorem dX12_judge_72 : decode cX12_judge 72 = .ok (.aload_n 0, 1) := by decide +kernel
theorem dX12_judge_73 : decode cX12_judge 73 = .ok (.getfield 70, 3) := by decide +kernel
theorem dX12_judge_76 : decode cX12_judge 76 = .ok (.iload_n 3, 1) := by decide +kernel
theorem dX12_judge_77 : decode cX12_judge 77 = .ok (.iaload, 1) := by decide +kernel
theorem dX12_judge_78 : decode cX12_judge 78 = .ok (.if_icmp .lt 6, 3) := by decide +kernel
theorem dX12_judge_81 : decode cX12_judge 81 = .ok (.iload 4, 2) := by decide +kernel
theorem dX12_judge_83 : decode cX12_judge 83 = .ok (.istore_n 3, 1) := by decide +kernel
theorem dX12_judge_84 : decode cX12_judge 84 = .ok (.iinc 4 1, 3) := by decide +kernel
theorem dX12_judge_87 : decode cX12_judge 87 = .ok (.goto (-58), 3) := by decide +kernel
theorem dX12_judge_90 : decode cX12_judge 90 = .ok (.iload_n 3, 1) := by decide +kernel
theorem dX12_judge_91 : decode cX12_judge 91 = .ok (.iconst (-1), 1) := by decide +kernel
theorem dX12_judge_92 : decode cX12_judge 92 = .ok (.if_icmp .ne 5, 3) := by decide +kernel
theorem dX12_judge_95 : decode cX12_judge 95 = .ok (.iconst 1, 1) := by decide +kernel
theorem dX12_judge_96 : decode cX12_judge 96 = .ok (.ireturn, 1) := by decide +kernel
theorem dX12_judge_97 : decode cX12_judge 97 = .ok (.aload_n 0, 1) := by decide +kernel
theorem dX12_judge_98 : decode cX12_judge 98 = .ok (.iconst 1, 1) := by decide +kernel
theorem dX12_judge_99 : decode cX12_judge 99 = .ok (.putfield 272, 3) := by decide +kernel
theorem dX12_judge_102 : decode cX12_judge 102 = .ok (.aload_n 0, 1) := by decide +kernel
theorem dX12_judge_103 : decode cX12_judge 103 = .ok (.iload_n 3, 1) := by decide +kernel
theorem dX12_judge_104 : decode cX12_judge 104 = .ok (.putfield 275, 3) := by decide +kernel
theorem dX12_judge_107 : decode cX12_judge 107 = .ok (.aload_n 0, 1) := by decide +kernel
theorem dX12_judge_108 : decode cX12_judge 108 = .ok (.getfield 78, 3) := by decide +kernel
theorem dX12_judge_111 : decode cX12_judge 111 = .ok (.iload_n 3, 1) := by decide +kernel
theorem dX12_judge_112 : decode cX12_judge 112 = .ok (.aaload, 1) := by decide +kernel
theorem dX12_judge_113 : decode cX12_judge 113 = .ok (.astore 4, 2) := by decide +kernel
theorem dX12_judge_115 : decode cX12_judge 115 = .ok (.aload_n 0, 1) := by decide +kernel
theorem dX12_judge_116 : decode cX12_judge 116 = .ok (.iconst 0, 1) := by decide +kernel
theorem dX12_judge_117 : decode cX12_judge 117 = .ok (.putfield 269, 3) := by decide +kernel
theorem dX12_judge_120 : decode cX12_judge 120 = .ok (.iconst 0, 1) := by decide +kernel
theorem dX12_judge_121 : decode cX12_judge 121 = .ok (.istore 5, 2) := by decide +kernel
theorem dX12_judge_123 : decode cX12_judge 123 = .ok (.iload 5, 2) := by decide +kernel
theorem dX12_judge_125 : decode cX12_judge 125 = .ok (.aload_n 0, 1) := by decide +kernel
theorem dX12_judge_126 : decode cX12_judge 126 = .ok (.getfield 156, 3) := by decide +kernel
theorem dX12_judge_129 : decode cX12_judge 129 = .ok (.if_icmp .ge 112, 3) := by decide +kernel
theorem dX12_judge_132 : decode cX12_judge 132 = .ok (.aload_n 0, 1) := by decide +kernel
theorem dX12_judge_133 : decode cX12_judge 133 = .ok (.getfield 64, 3) := by decide +kernel
theorem dX12_judge_136 : decode cX12_judge 136 = .ok (.iload 5, 2) := by decide +kernel
theorem dX12_judge_138 : decode cX12_judge 138 = .ok (.iaload, 1) := by decide +kernel
theorem dX12_judge_139 : decode cX12_judge 139 = .ok (.iconst (-1), 1) := by decide +kernel
theorem dX12_judge_140 : decode cX12_judge 140 = .ok (.if_icmp .eq 29, 3) := by decide +kernel
theorem dX12_judge_143 : decode cX12_judge 143 = .ok (.aload_n 0, 1) := by decide +kernel
theorem dX12_judge_144 : decode cX12_judge 144 = .ok (.getfield 64, 3) := by decide +kernel
theorem dX12_judge_147 : decode cX12_judge 147 = .ok (.iload 5, 2) := by decide +kernel
theorem dX12_judge_149 : decode cX12_judge 149 = .ok (.iaload, 1) := by decide +kernel
theorem dX12_judge_150 : decode cX12_judge 150 = .ok (.iload_n 2, 1) := by decide +kernel
theorem dX12_judge_151 : decode cX12_judge 151 = .ok (.if_icmp .gt 18, 3) := by decide +kernel
theorem dX12_judge_154 : decode cX12_judge 154 = .ok (.aload_n 0, 1) := by decide +kernel
theorem dX12_judge_155 : decode cX12_judge 155 = .ok (.getfield 67, 3) := by decide +kernel
theorem dX12_judge_158 : decode cX12_judge 158 = .ok (.iload 5, 2) := by decide +kernel
theorem dX12_judge_160 : decode cX12_judge 160 = .ok (.iaload, 1) := by decide +kernel
theorem dX12_judge_161 : decode cX12_judge 161 = .ok (.iload_n 1, 1) := by decide +kernel
theorem dX12_judge_162 : decode cX12_judge 162 = .ok (.if_icmp .gt 7, 3) := by decide +kernel
theorem dX12_judge_165 : decode cX12_judge 165 = .ok (.iconst 1, 1) := by decide +kernel
theorem dX12_judge_166 : decode cX12_judge 166 = .ok (.goto 4, 3) := by decide +kernel
theorem dX12_judge_169 : decode cX12_judge 169 = .ok (.iconst 0, 1) := by decide +kernel
theorem dX12_judge_170 : decode cX12_judge 170 = .ok (.istore 6, 2) := by decide +kernel
theorem dX12_judge_172 : decode cX12_judge 172 = .ok (.aload_n 0, 1) := by decide +kernel
theorem dX12_judge_173 : decode cX12_judge 173 = .ok (.getfield 58, 3) := by decide +kernel
theorem dX12_judge_176 : decode cX12_judge 176 = .ok (.iload 5, 2) := by decide +kernel
theorem dX12_judge_178 : decode cX12_judge 178 = .ok (.iaload, 1) := by decide +kernel
theorem dX12_judge_179 : decode cX12_judge 179 = .ok (.iload_n 2, 1) := by decide +kernel
theorem dX12_judge_180 : decode cX12_judge 180 = .ok (.if_icmp .gt 55, 3) := by decide +kernel
theorem dX12_judge_183 : decode cX12_judge 183 = .ok (.aload_n 0, 1) := by decide +kernel
theorem dX12_judge_184 : decode cX12_judge 184 = .ok (.getfield 61, 3) := by decide +kernel
theorem dX12_judge_187 : decode cX12_judge 187 = .ok (.iload 5, 2) := by decide +kernel
theorem dX12_judge_189 : decode cX12_judge 189 = .ok (.iaload, 1) := by decide +kernel
theorem dX12_judge_190 : decode cX12_judge 190 = .ok (.iload_n 1, 1) := by decide +kernel
theorem dX12_judge_191 : decode cX12_judge 191 = .ok (.if_icmp .gt 44, 3) := by decide +kernel
theorem dX12_judge_194 : decode cX12_judge 194 = .ok (.iload 6, 2) := by decide +kernel
theorem dX12_judge_196 : decode cX12_judge 196 = .ok (.ifCond .ne 39, 3) := by decide +kernel
theorem dX12_judge_199 : decode cX12_judge 199 = .ok (.aload_n 0, 1) := by decide +kernel
theorem dX12_judge_200 : decode cX12_judge 200 = .ok (.iload 5, 2) := by decide +kernel
theorem dX12_judge_202 : decode cX12_judge 202 = .ok (.aload 4, 2) := by decide +kernel
theorem dX12_judge_204 : decode cX12_judge 204 = .ok (.invokevirtual 278, 3) := by decide +kernel
theorem dX12_judge_207 : decode cX12_judge 207 = .ok (.aload 4, 2) := by decide +kernel
theorem dX12_judge_209 : decode cX12_judge 209 = .ok (.iconst 5, 1) := by decide +kernel
theorem dX12_judge_210 : decode cX12_judge 210 = .ok (.iaload, 1) := by decide +kernel
theorem dX12_judge_211 : decode cX12_judge 211 = .ok (.if_icmp .gt 24, 3) := by decide +kernel
theorem dX12_judge_214 : decode cX12_judge 214 = .ok (.aload_n 0, 1) := by decide +kernel
theorem dX12_judge_215 : decode cX12_judge 215 = .ok (.getfield 112, 3) := by decide +kernel
theorem dX12_judge_218 : decode cX12_judge 218 = .ok (.aload_n 0, 1) := by decide +kernel
theorem dX12_judge_219 : decode cX12_judge 219 = .ok (.getfield 269, 3) := by decide +kernel
theorem dX12_judge_222 : decode cX12_judge 222 = .ok (.iload 5, 2) := by decide +kernel
theorem dX12_judge_224 : decode cX12_judge 224 = .ok (.iastore, 1) := by decide +kernel
theorem dX12_judge_225 : decode cX12_judge 225 = .ok (.aload_n 0, 1) := by decide +kernel
theorem dX12_judge_226 : decode cX12_judge 226 = .ok (.dup, 1) := by decide +kernel
theorem dX12_judge_227 : decode cX12_judge 227 = .ok (.getfield 269, 3) := by decide +kernel
theorem dX12_judge_230 : decode cX12_judge 230 = .ok (.iconst 1, 1) := by decide +kernel
theorem dX12_judge_231 : decode cX12_judge 231 = .ok (.iadd, 1) := by decide +kernel
theorem dX12_judge_232 : decode cX12_judge 232 = .ok (.putfield 269, 3) := by decide +kernel
theorem dX12_judge_235 : decode cX12_judge 235 = .ok (.iinc 5 1, 3) := by decide +kernel
theorem dX12_judge_238 : decode cX12_judge 238 = .ok (.goto (-115), 3) := by decide +kernel
theorem dX12_judge_241 : decode cX12_judge 241 = .ok (.aload_n 0, 1) := by decide +kernel
theorem dX12_judge_242 : decode cX12_judge 242 = .ok (.aload 4, 2) := by decide +kernel
theorem dX12_judge_244 : decode cX12_judge 244 = .ok (.invokevirtual 282, 3) := by decide +kernel
theorem dX12_judge_247 : decode cX12_judge 247 = .ok (.aload 4, 2) := by decide +kernel
theorem dX12_judge_249 : decode cX12_judge 249 = .ok (.bipush 8, 2) := by decide +kernel
theorem dX12_judge_251 : decode cX12_judge 251 = .ok (.iaload, 1) := by decide +kernel
theorem dX12_judge_252 : decode cX12_judge 252 = .ok (.aload_n 0, 1) := by decide +kernel
theorem dX12_judge_253 : decode cX12_judge 253 = .ok (.getfield 163, 3) := by decide +kernel
theorem dX12_judge_256 : decode cX12_judge 256 = .ok (.imul, 1) := by decide +kernel
theorem dX12_judge_257 : decode cX12_judge 257 = .ok (.iadd, 1) := by decide +kernel
theorem dX12_judge_258 : decode cX12_judge 258 = .ok (.istore 5, 2) := by decide +kernel
theorem dX12_judge_260 : decode cX12_judge 260 = .ok (.aload_n 0, 1) := by decide +kernel
theorem dX12_judge_261 : decode cX12_judge 261 = .ok (.iload 5, 2) := by decide +kernel
theorem dX12_judge_263 : decode cX12_judge 263 = .ok (.sipush 1000, 3) := by decide +kernel
theorem dX12_judge_266 : decode cX12_judge 266 = .ok (.if_icmp .le 9, 3) := by decide +kernel
theorem dX12_judge_269 : decode cX12_judge 269 = .ok (.sipush 1000, 3) := by decide +kernel
theorem dX12_judge_272 : decode cX12_judge 272 = .ok (.goto 5, 3) := by decide +kernel
theorem dX12_judge_275 : decode cX12_judge 275 = .ok (.iload 5, 2) := by decide +kernel
theorem dX12_judge_277 : decode cX12_judge 277 = .ok (.putfield 286, 3) := by decide +kernel
theorem dX12_judge_280 : decode cX12_judge 280 = .ok (.aload_n 0, 1) := by decide +kernel
theorem dX12_judge_281 : decode cX12_judge 281 = .ok (.lconst 0, 1) := by decide +kernel
theorem dX12_judge_282 : decode cX12_judge 282 = .ok (.putfield 289, 3) := by decide +kernel
theorem dX12_judge_285 : decode cX12_judge 285 = .ok (.iconst 0, 1) := by decide +kernel
theorem dX12_judge_286 : decode cX12_judge 286 = .ok (.istore 6, 2) := by decide +kernel
theorem dX12_judge_288 : decode cX12_judge 288 = .ok (.iload 6, 2) := by decide +kernel
theorem dX12_judge_290 : decode cX12_judge 290 = .ok (.bipush 10, 2) := by decide +kernel
theorem dX12_judge_292 : decode cX12_judge 292 = .ok (.if_icmp .ge 27, 3) := by decide +kernel
theorem dX12_judge_295 : decode cX12_judge 295 = .ok (.aload_n 0, 1) := by decide +kernel
theorem dX12_judge_296 : decode cX12_judge 296 = .ok (.dup, 1) := by decide +kernel
theorem dX12_judge_297 : decode cX12_judge 297 = .ok (.getfield 289, 3) := by decide +kernel
theorem dX12_judge_300 : decode cX12_judge 300 = .ok (.aload_n 0, 1) := by decide +kernel
theorem dX12_judge_301 : decode cX12_judge 301 = .ok (.iload 6, 2) := by decide +kernel
theorem dX12_judge_303 : decode cX12_judge 303 = .ok (.iload_n 1, 1) := by decide +kernel
theorem dX12_judge_304 : decode cX12_judge 304 = .ok (.iload_n 2, 1) := by decide +kernel
theorem dX12_judge_305 : decode cX12_judge 305 = .ok (.invokevirtual 293, 3) := by decide +kernel
theorem dX12_judge_308 : decode cX12_judge 308 = .ok (.i2l, 1) := by decide +kernel
theorem dX12_judge_309 : decode cX12_judge 309 = .ok (.ladd, 1) := by decide +kernel
theorem dX12_judge_310 : decode cX12_judge 310 = .ok (.putfield 289, 3) := by decide +kernel
theorem dX12_judge_313 : decode cX12_judge 313 = .ok (.iinc 6 1, 3) := by decide +kernel
theorem dX12_judge_316 : decode cX12_judge 316 = .ok (.goto (-28), 3) := by decide +kernel
theorem dX12_judge_319 : decode cX12_judge 319 = .ok (.aload_n 0, 1) := by decide +kernel
theorem dX12_judge_320 : decode cX12_judge 320 = .ok (.aload 4, 2) := by decide +kernel
theorem dX12_judge_322 : decode cX12_judge 322 = .ok (.invokevirtual 297, 3) := by decide +kernel
theorem dX12_judge_325 : decode cX12_judge 325 = .ok (.iconst 0, 1) := by decide +kernel
theorem dX12_judge_326 : decode cX12_judge 326 = .ok (.ireturn, 1) := by decide +kernel
theorem dX12_parts_0 : decode cX12_parts 0 = .ok (.aload_n 0, 1) := by decide +kernel
theorem dX12_parts_1 : decode cX12_parts 1 = .ok (.invokevirtual 144, 3) := by decide +kernel
theorem dX12_parts_4 : decode cX12_parts 4 = .ok (.aload_n 0, 1) := by decide +kernel
theorem dX12_parts_5 : decode cX12_parts 5 = .ok (.aload_n 0, 1) := by decide +kernel
theorem dX12_parts_6 : decode cX12_parts 6 = .ok (.getfield 266, 3) := by decide +kernel
theorem dX12_parts_9 : decode cX12_parts 9 = .ok (.putfield 301, 3) := by decide +kernel
theorem dX12_parts_12 : decode cX12_parts 12 = .ok (.lconst 0, 1) := by decide +kernel
theorem dX12_parts_13 : decode cX12_parts 13 = .ok (.lstore_n 2, 1) := by decide +kernel
theorem dX12_parts_14 : decode cX12_parts 14 = .ok (.iconst 0, 1) := by decide +kernel
theorem dX12_parts_15 : decode cX12_parts 15 = .ok (.istore 4, 2) := by decide +kernel
theorem dX12_parts_17 : decode cX12_parts 17 = .ok (.iload 4, 2) := by decide +kernel
theorem dX12_parts_19 : decode cX12_parts 19 = .ok (.aload_n 0, 1) := by decide +kernel
theorem dX12_parts_20 : decode cX12_parts 20 = .ok (.getfield 266, 3) := by decide +kernel
theorem dX12_parts_23 : decode cX12_parts 23 = .ok (.if_icmp .ge 99, 3) := by decide +kernel
theorem dX12_parts_26 : decode cX12_parts 26 = .ok (.aload_n 0, 1) := by decide +kernel
theorem dX12_parts_27 : decode cX12_parts 27 = .ok (.getfield 30, 3) := by decide +kernel
theorem dX12_parts_30 : decode cX12_parts 30 = .ok (.aload_n 0, 1) := by decide +kernel
theorem dX12_parts_31 : decode cX12_parts 31 = .ok (.getfield 94, 3) := by decide +kernel
theorem dX12_parts_34 : decode cX12_parts 34 = .ok (.iload 4, 2) := by decide +kernel
theorem dX12_parts_36 : decode cX12_parts 36 = .ok (.iaload, 1) := by decide +kernel
theorem dX12_parts_37 : decode cX12_parts 37 = .ok (.aaload, 1) := by decide +kernel
theorem dX12_parts_38 : decode cX12_parts 38 = .ok (.aload_n 0, 1) := by decide +kernel
theorem dX12_parts_39 : decode cX12_parts 39 = .ok (.getfield 91, 3) := by decide +kernel
theorem dX12_parts_42 : decode cX12_parts 42 = .ok (.iload 4, 2) := by decide +kernel
theorem dX12_parts_44 : decode cX12_parts 44 = .ok (.iaload, 1) := by decide +kernel
theorem dX12_parts_45 : decode cX12_parts 45 = .ok (.laload, 1) := by decide +kernel
theorem dX12_parts_46 : decode cX12_parts 46 = .ok (.lstore 5, 2) := by decide +kernel
theorem dX12_parts_48 : decode cX12_parts 48 = .ok (.lload 5, 2) := by decide +kernel
theorem dX12_parts_50 : decode cX12_parts 50 = .ok (.ldc2_w 138, 3) := by decide +kernel
theorem dX12_parts_53 : decode cX12_parts 53 = .ok (.lcmp, 1) := by decide +kernel
theorem dX12_parts_54 : decode cX12_parts 54 = .ok (.ifCond .eq 10, 3) := by decide +kernel
theorem dX12_parts_57 : decode cX12_parts 57 = .ok (.lload 5, 2) := by decide +kernel
theorem dX12_parts_59 : decode cX12_parts 59 = .ok (.lconst 0, 1) := by decide +kernel
theorem dX12_parts_60 : decode cX12_parts 60 = .ok (.lcmp, 1) := by decide +kernel
theorem dX12_parts_61 : decode cX12_parts 61 = .ok (.ifCond .le 7, 3) := by decide +kernel
theorem dX12_parts_64 : decode cX12_parts 64 = .ok (.lconst 0, 1) := by decide +kernel
theorem dX12_parts_65 : decode cX12_parts 65 = .ok (.goto 6, 3) := by decide +kernel
theorem dX12_parts_68 : decode cX12_parts 68 = .ok (.lload 5, 2) := by decide +kernel
theorem dX12_parts_70 : decode cX12_parts 70 = .ok (.lneg, 1) := by decide +kernel
theorem dX12_parts_71 : decode cX12_parts 71 = .ok (.lstore 5, 2) := by decide +kernel
theorem dX12_parts_73 : decode cX12_parts 73 = .ok (.aload_n 0, 1) := by decide +kernel
theorem dX12_parts_74 : decode cX12_parts 74 = .ok (.getfield 115, 3) := by decide +kernel
theorem dX12_parts_77 : decode cX12_parts 77 = .ok (.iload 4, 2) := by decide +kernel
theorem dX12_parts_79 : decode cX12_parts 79 = .ok (.aaload, 1) := by decide +kernel
theorem dX12_parts_80 : decode cX12_parts 80 = .ok (.iconst 0, 1) := by decide +kernel
theorem dX12_parts_81 : decode cX12_parts 81 = .ok (.lload 5, 2) := by decide +kernel
theorem dX12_parts_83 : decode cX12_parts 83 = .ok (.lastore, 1) := by decide +kernel
theorem dX12_parts_84 : decode cX12_parts 84 = .ok (.aload_n 0, 1) := by decide +kernel
theorem dX12_parts_85 : decode cX12_parts 85 = .ok (.getfield 115, 3) := by decide +kernel
theorem dX12_parts_88 : decode cX12_parts 88 = .ok (.iload 4, 2) := by decide +kernel
theorem dX12_parts_90 : decode cX12_parts 90 = .ok (.aaload, 1) := by decide +kernel
theorem dX12_parts_91 : decode cX12_parts 91 = .ok (.iconst 1, 1) := by decide +kernel
theorem dX12_parts_92 : decode cX12_parts 92 = .ok (.aload_n 0, 1) := by decide +kernel
theorem dX12_parts_93 : decode cX12_parts 93 = .ok (.getfield 88, 3) := by decide +kernel
theorem dX12_parts_96 : decode cX12_parts 96 = .ok (.iload 4, 2) := by decide +kernel
theorem dX12_parts_98 : decode cX12_parts 98 = .ok (.iaload, 1) := by decide +kernel
theorem dX12_parts_99 : decode cX12_parts 99 = .ok (.i2l, 1) := by decide +kernel
theorem dX12_parts_100 : decode cX12_parts 100 = .ok (.lload 5, 2) := by decide +kernel
theorem dX12_parts_102 : decode cX12_parts 102 = .ok (.lmul, 1) := by decide +kernel
theorem dX12_parts_103 : decode cX12_parts 103 = .ok (.lastore, 1) := by decide +kernel
theorem dX12_parts_104 : decode cX12_parts 104 = .ok (.lload_n 2, 1) := by decide +kernel
theorem dX12_parts_105 : decode cX12_parts 105 = .ok (.aload_n 0, 1) := by decide +kernel
theorem dX12_parts_106 : decode cX12_parts 106 = .ok (.getfield 115, 3) := by decide +kernel
theorem dX12_parts_109 : decode cX12_parts 109 = .ok (.iload 4, 2) := by decide +kernel
theorem dX12_parts_111 : decode cX12_parts 111 = .ok (.aaload, 1) := by decide +kernel
theorem dX12_parts_112 : decode cX12_parts 112 = .ok (.iconst 1, 1) := by decide +kernel
theorem dX12_parts_113 : decode cX12_parts 113 = .ok (.laload, 1) := by decide +kernel
theorem dX12_parts_114 : decode cX12_parts 114 = .ok (.ladd, 1) := by decide +kernel
theorem dX12_parts_115 : decode cX12_parts 115 = .ok (.lstore_n 2, 1) := by decide +kernel
theorem dX12_parts_116 : decode cX12_parts 116 = .ok (.iinc 4 1, 3) := by decide +kernel
theorem dX12_parts_119 : decode cX12_parts 119 = .ok (.goto (-102), 3) := by decide +kernel
theorem dX12_parts_122 : decode cX12_parts 122 = .ok (.aload_n 0, 1) := by decide +kernel
theorem dX12_parts_123 : decode cX12_parts 123 = .ok (.lload_n 2, 1) := by decide +kernel
theorem dX12_parts_124 : decode cX12_parts 124 = .ok (.lconst 0, 1) := by decide +kernel
theorem dX12_parts_125 : decode cX12_parts 125 = .ok (.lcmp, 1) := by decide +kernel
theorem dX12_parts_126 : decode cX12_parts 126 = .ok (.ifCond .ne 7, 3) := by decide +kernel
theorem dX12_parts_129 : decode cX12_parts 129 = .ok (.lconst 0, 1) := by decide +kernel
theorem dX12_parts_130 : decode cX12_parts 130 = .ok (.goto 17, 3) := by decide +kernel
theorem dX12_parts_133 : decode cX12_parts 133 = .ok (.aload_n 0, 1) := by decide +kernel
theorem dX12_parts_134 : decode cX12_parts 134 = .ok (.getfield 289, 3) := by decide +kernel
theorem dX12_parts_137 : decode cX12_parts 137 = .ok (.aload_n 0, 1) := by decide +kernel
theorem dX12_parts_138 : decode cX12_parts 138 = .ok (.getfield 286, 3) := by decide +kernel
theorem dX12_parts_141 : decode cX12_parts 141 = .ok (.i2l, 1) := by decide +kernel
theorem dX12_parts_142 : decode cX12_parts 142 = .ok (.lmul, 1) := by decide +kernel
theorem dX12_parts_143 : decode cX12_parts 143 = .ok (.ldc2_w 304, 3) := by decide +kernel
theorem dX12_parts_146 : decode cX12_parts 146 = .ok (.ldiv, 1) := by decide +kernel
theorem dX12_parts_147 : decode cX12_parts 147 = .ok (.putfield 306, 3) := by decide +kernel
theorem dX12_parts_150 : decode cX12_parts 150 = .ok (.aload_n 0, 1) := by decide +kernel
theorem dX12_parts_151 : decode cX12_parts 151 = .ok (.getfield 306, 3) := by decide +kernel
theorem dX12_parts_154 : decode cX12_parts 154 = .ok (.lstore 4, 2) := by decide +kernel
theorem dX12_parts_156 : decode cX12_parts 156 = .ok (.iconst 0, 1) := by decide +kernel
theorem dX12_parts_157 : decode cX12_parts 157 = .ok (.istore 6, 2) := by decide +kernel
theorem dX12_parts_159 : decode cX12_parts 159 = .ok (.iload 6, 2) := by decide +kernel
theorem dX12_parts_161 : decode cX12_parts 161 = .ok (.aload_n 0, 1) := by decide +kernel
theorem dX12_parts_162 : decode cX12_parts 162 = .ok (.getfield 266, 3) := by decide +kernel
theorem dX12_parts_165 : decode cX12_parts 165 = .ok (.if_icmp .ge 58, 3) := by decide +kernel
theorem dX12_parts_168 : decode cX12_parts 168 = .ok (.aload_n 0, 1) := by decide +kernel
theorem dX12_parts_169 : decode cX12_parts 169 = .ok (.getfield 115, 3) := by decide +kernel
theorem dX12_parts_172 : decode cX12_parts 172 = .ok (.iload 6, 2) := by decide +kernel
theorem dX12_parts_174 : decode cX12_parts 174 = .ok (.aaload, 1) := by decide +kernel
theorem dX12_parts_175 : decode cX12_parts 175 = .ok (.iconst 2, 1) := by decide +kernel
theorem dX12_parts_176 : decode cX12_parts 176 = .ok (.lload_n 2, 1) := by decide +kernel
theorem dX12_parts_177 : decode cX12_parts 177 = .ok (.lconst 0, 1) := by decide +kernel
theorem dX12_parts_178 : decode cX12_parts 178 = .ok (.lcmp, 1) := by decide +kernel
theorem dX12_parts_179 : decode cX12_parts 179 = .ok (.ifCond .ne 7, 3) := by decide +kernel
theorem dX12_parts_182 : decode cX12_parts 182 = .ok (.lconst 0, 1) := by decide +kernel
theorem dX12_parts_183 : decode cX12_parts 183 = .ok (.goto 19, 3) := by decide +kernel
theorem dX12_parts_186 : decode cX12_parts 186 = .ok (.aload_n 0, 1) := by decide +kernel
theorem dX12_parts_187 : decode cX12_parts 187 = .ok (.getfield 306, 3) := by decide +kernel
theorem dX12_parts_190 : decode cX12_parts 190 = .ok (.aload_n 0, 1) := by decide +kernel
theorem dX12_parts_191 : decode cX12_parts 191 = .ok (.getfield 115, 3) := by decide +kernel
theorem dX12_parts_194 : decode cX12_parts 194 = .ok (.iload 6, 2) := by decide +kernel
theorem dX12_parts_196 : decode cX12_parts 196 = .ok (.aaload, 1) := by decide +kernel
theorem dX12_parts_197 : decode cX12_parts 197 = .ok (.iconst 1, 1) := by decide +kernel
theorem dX12_parts_198 : decode cX12_parts 198 = .ok (.laload, 1) := by decide +kernel
theorem dX12_parts_199 : decode cX12_parts 199 = .ok (.lmul, 1) := by decide +kernel
theorem dX12_parts_200 : decode cX12_parts 200 = .ok (.lload_n 2, 1) := by decide +kernel
theorem dX12_parts_201 : decode cX12_parts 201 = .ok (.ldiv, 1) := by decide +kernel
theorem dX12_parts_202 : decode cX12_parts 202 = .ok (.lastore, 1) := by decide +kernel
theorem dX12_parts_203 : decode cX12_parts 203 = .ok (.lload 4, 2) := by decide +kernel
theorem dX12_parts_205 : decode cX12_parts 205 = .ok (.aload_n 0, 1) := by decide +kernel
theorem dX12_parts_206 : decode cX12_parts 206 = .ok (.getfield 115, 3) := by decide +kernel
theorem dX12_parts_209 : decode cX12_parts 209 = .ok (.iload 6, 2) := by decide +kernel
theorem dX12_parts_211 : decode cX12_parts 211 = .ok (.aaload, 1) := by decide +kernel
theorem dX12_parts_212 : decode cX12_parts 212 = .ok (.iconst 2, 1) := by decide +kernel
theorem dX12_parts_213 : decode cX12_parts 213 = .ok (.laload, 1) := by decide +kernel
theorem dX12_parts_214 : decode cX12_parts 214 = .ok (.lsub, 1) := by decide +kernel
theorem dX12_parts_215 : decode cX12_parts 215 = .ok (.lstore 4, 2) := by decide +kernel
theorem dX12_parts_217 : decode cX12_parts 217 = .ok (.iinc 6 1, 3) := by decide +kernel
theorem dX12_parts_220 : decode cX12_parts 220 = .ok (.goto (-61), 3) := by decide +kernel
theorem dX12_parts_223 : decode cX12_parts 223 = .ok (.bipush 8, 2) := by decide +kernel
theorem dX12_parts_225 : decode cX12_parts 225 = .ok (.newarray .boolean, 2) := by decide +kernel
theorem dX12_parts_227 : decode cX12_parts 227 = .ok (.astore 6, 2) := by decide +kernel
theorem dX12_parts_229 : decode cX12_parts 229 = .ok (.lload 4, 2) := by decide +kernel
theorem dX12_parts_231 : decode cX12_parts 231 = .ok (.lconst 0, 1) := by decide +kernel
theorem dX12_parts_232 : decode cX12_parts 232 = .ok (.lcmp, 1) := by decide +kernel
theorem dX12_parts_233 : decode cX12_parts 233 = .ok (.ifCond .le 106, 3) := by decide +kernel
theorem dX12_parts_236 : decode cX12_parts 236 = .ok (.iconst (-1), 1) := by decide +kernel
theorem dX12_parts_237 : decode cX12_parts 237 = .ok (.istore 7, 2) := by decide +kernel
theorem dX12_parts_239 : decode cX12_parts 239 = .ok (.iconst 0, 1) := by decide +kernel
theorem dX12_parts_240 : decode cX12_parts 240 = .ok (.istore 8, 2) := by decide +kernel
theorem dX12_parts_242 : decode cX12_parts 242 = .ok (.iload 8, 2) := by decide +kernel
theorem dX12_parts_244 : decode cX12_parts 244 = .ok (.aload_n 0, 1) := by decide +kernel
theorem dX12_parts_245 : decode cX12_parts 245 = .ok (.getfield 266, 3) := by decide +kernel
theorem dX12_parts_248 : decode cX12_parts 248 = .ok (.if_icmp .ge 63, 3) := by decide +kernel
theorem dX12_parts_251 : decode cX12_parts 251 = .ok (.aload 6, 2) := by decide +kernel
theorem dX12_parts_253 : decode cX12_parts 253 = .ok (.iload 8, 2) := by decide +kernel
theorem dX12_parts_255 : decode cX12_parts 255 = .ok (.baload, 1) := by decide +kernel
theorem dX12_parts_256 : decode cX12_parts 256 = .ok (.ifCond .ne 49, 3) := by decide +kernel
theorem dX12_parts_259 : decode cX12_parts 259 = .ok (.iload 7, 2) := by decide +kernel
theorem dX12_parts_261 : decode cX12_parts 261 = .ok (.iconst (-1), 1) := by decide +kernel
theorem dX12_parts_262 : decode cX12_parts 262 = .ok (.if_icmp .eq 39, 3) := by decide +kernel
theorem dX12_parts_265 : decode cX12_parts 265 = .ok (.aload_n 0, 1) := by decide +kernel
theorem dX12_parts_266 : decode cX12_parts 266 = .ok (.getfield 306, 3) := by decide +kernel
theorem dX12_parts_269 : decode cX12_parts 269 = .ok (.aload_n 0, 1) := by decide +kernel
theorem dX12_parts_270 : decode cX12_parts 270 = .ok (.getfield 115, 3) := by decide +kernel
theorem dX12_parts_273 : decode cX12_parts 273 = .ok (.iload 8, 2) := by decide +kernel
theorem dX12_parts_275 : decode cX12_parts 275 = .ok (.aaload, 1) := by decide +kernel
theorem dX12_parts_276 : decode cX12_parts 276 = .ok (.iconst 1, 1) := by decide +kernel
theorem dX12_parts_277 : decode cX12_parts 277 = .ok (.laload, 1) := by decide +kernel
theorem dX12_parts_278 : decode cX12_parts 278 = .ok (.lmul, 1) := by decide +kernel
theorem dX12_parts_279 : decode cX12_parts 279 = .ok (.lload_n 2, 1) := by decide +kernel
theorem dX12_parts_280 : decode cX12_parts 280 = .ok (.lrem, 1) := by decide +kernel
theorem dX12_parts_281 : decode cX12_parts 281 = .ok (.aload_n 0, 1) := by decide +kernel
theorem dX12_parts_282 : decode cX12_parts 282 = .ok (.getfield 306, 3) := by decide +kernel
theorem dX12_parts_285 : decode cX12_parts 285 = .ok (.aload_n 0, 1) := by decide +kernel
theorem dX12_parts_286 : decode cX12_parts 286 = .ok (.getfield 115, 3) := by decide +kernel
theorem dX12_parts_289 : decode cX12_parts 289 = .ok (.iload 7, 2) := by decide +kernel
theorem dX12_parts_291 : decode cX12_parts 291 = .ok (.aaload, 1) := by decide +kernel
theorem dX12_parts_292 : decode cX12_parts 292 = .ok (.iconst 1, 1) := by decide +kernel
theorem dX12_parts_293 : decode cX12_parts 293 = .ok (.laload, 1) := by decide +kernel
theorem dX12_parts_294 : decode cX12_parts 294 = .ok (.lmul, 1) := by decide +kernel
theorem dX12_parts_295 : decode cX12_parts 295 = .ok (.lload_n 2, 1) := by decide +kernel
theorem dX12_parts_296 : decode cX12_parts 296 = .ok (.lrem, 1) := by decide +kernel
theorem dX12_parts_297 : decode cX12_parts 297 = .ok (.lcmp, 1) := by decide +kernel
theorem dX12_parts_298 : decode cX12_parts 298 = .ok (.ifCond .le 7, 3) := by decide +kernel
theorem dX12_parts_301 : decode cX12_parts 301 = .ok (.iload 8, 2) := by decide +kernel
theorem dX12_parts_303 : decode cX12_parts 303 = .ok (.istore 7, 2) := by decide +kernel
theorem dX12_parts_305 : decode cX12_parts 305 = .ok (.iinc 8 1, 3) := by decide +kernel
theorem dX12_parts_308 : decode cX12_parts 308 = .ok (.goto (-66), 3) := by decide +kernel
theorem dX12_parts_311 : decode cX12_parts 311 = .ok (.aload 6, 2) := by decide +kernel
theorem dX12_parts_313 : decode cX12_parts 313 = .ok (.iload 7, 2) := by decide +kernel
theorem dX12_parts_315 : decode cX12_parts 315 = .ok (.iconst 1, 1) := by decide +kernel
theorem dX12_parts_316 : decode cX12_parts 316 = .ok (.bastore, 1) := by decide +kernel
theorem dX12_parts_317 : decode cX12_parts 317 = .ok (.aload_n 0, 1) := by decide +kernel
theorem dX12_parts_318 : decode cX12_parts 318 = .ok (.getfield 115, 3) := by decide +kernel
theorem dX12_parts_321 : decode cX12_parts 321 = .ok (.iload 7, 2) := by decide +kernel
theorem dX12_parts_323 : decode cX12_parts 323 = .ok (.aaload, 1) := by decide +kernel
theorem dX12_parts_324 : decode cX12_parts 324 = .ok (.iconst 2, 1) := by decide +kernel
theorem dX12_parts_325 : decode cX12_parts 325 = .ok (.dup2, 1) := by decide +kernel
theorem dX12_parts_326 : decode cX12_parts 326 = .ok (.laload, 1) := by decide +kernel
theorem dX12_parts_327 : decode cX12_parts 327 = .ok (.lconst 1, 1) := by decide +kernel
theorem dX12_parts_328 : decode cX12_parts 328 = .ok (.ladd, 1) := by decide +kernel
theorem dX12_parts_329 : decode cX12_parts 329 = .ok (.lastore, 1) := by decide +kernel
theorem dX12_parts_330 : decode cX12_parts 330 = .ok (.lload 4, 2) := by decide +kernel
theorem dX12_parts_332 : decode cX12_parts 332 = .ok (.lconst 1, 1) := by decide +kernel
theorem dX12_parts_333 : decode cX12_parts 333 = .ok (.lsub, 1) := by decide +kernel
theorem dX12_parts_334 : decode cX12_parts 334 = .ok (.lstore 4, 2) := by decide +kernel
theorem dX12_parts_336 : decode cX12_parts 336 = .ok (.goto (-107), 3) := by decide +kernel
theorem dX12_parts_339 : decode cX12_parts 339 = .ok (.aload_n 0, 1) := by decide +kernel
theorem dX12_parts_340 : decode cX12_parts 340 = .ok (.lconst 0, 1) := by decide +kernel
theorem dX12_parts_341 : decode cX12_parts 341 = .ok (.putfield 309, 3) := by decide +kernel
theorem dX12_parts_344 : decode cX12_parts 344 = .ok (.iconst 0, 1) := by decide +kernel
theorem dX12_parts_345 : decode cX12_parts 345 = .ok (.istore 7, 2) := by decide +kernel
theorem dX12_parts_347 : decode cX12_parts 347 = .ok (.iload 7, 2) := by decide +kernel
theorem dX12_parts_349 : decode cX12_parts 349 = .ok (.aload_n 0, 1) := by decide +kernel
theorem dX12_parts_350 : decode cX12_parts 350 = .ok (.getfield 266, 3) := by decide +kernel
theorem dX12_parts_353 : decode cX12_parts 353 = .ok (.if_icmp .ge 16, 3) := by decide +kernel
theorem dX12_parts_356 : decode cX12_parts 356 = .ok (.aload_n 0, 1) := by decide +kernel
theorem dX12_parts_357 : decode cX12_parts 357 = .ok (.iload 7, 2) := by decide +kernel
theorem dX12_parts_359 : decode cX12_parts 359 = .ok (.aload_n 1, 1) := by decide +kernel
theorem dX12_parts_360 : decode cX12_parts 360 = .ok (.invokevirtual 312, 3) := by decide +kernel
theorem dX12_parts_363 : decode cX12_parts 363 = .ok (.iinc 7 1, 3) := by decide +kernel
theorem dX12_parts_366 : decode cX12_parts 366 = .ok (.goto (-19), 3) := by decide +kernel
theorem dX12_parts_369 : decode cX12_parts 369 = .ok (.return_, 1) := by decide +kernel
theorem dX12_aboard_0 : decode cX12_aboard 0 = .ok (.aload_n 0, 1) := by decide +kernel
theorem dX12_aboard_1 : decode cX12_aboard 1 = .ok (.getfield 97, 3) := by decide +kernel
theorem dX12_aboard_4 : decode cX12_aboard 4 = .ok (.iload_n 1, 1) := by decide +kernel
theorem dX12_aboard_5 : decode cX12_aboard 5 = .ok (.iaload, 1) := by decide +kernel
theorem dX12_aboard_6 : decode cX12_aboard 6 = .ok (.aload_n 2, 1) := by decide +kernel
theorem dX12_aboard_7 : decode cX12_aboard 7 = .ok (.bipush 10, 2) := by decide +kernel
theorem dX12_aboard_9 : decode cX12_aboard 9 = .ok (.iaload, 1) := by decide +kernel
theorem dX12_aboard_10 : decode cX12_aboard 10 = .ok (.if_icmp .le 27, 3) := by decide +kernel
theorem dX12_aboard_13 : decode cX12_aboard 13 = .ok (.aload_n 0, 1) := by decide +kernel
theorem dX12_aboard_14 : decode cX12_aboard 14 = .ok (.getfield 97, 3) := by decide +kernel
theorem dX12_aboard_17 : decode cX12_aboard 17 = .ok (.iload_n 1, 1) := by decide +kernel
theorem dX12_aboard_18 : decode cX12_aboard 18 = .ok (.iaload, 1) := by decide +kernel
theorem dX12_aboard_19 : decode cX12_aboard 19 = .ok (.aload_n 2, 1) := by decide +kernel
theorem dX12_aboard_20 : decode cX12_aboard 20 = .ok (.bipush 10, 2) := by decide +kernel
theorem dX12_aboard_22 : decode cX12_aboard 22 = .ok (.iaload, 1) := by decide +kernel
theorem dX12_aboard_23 : decode cX12_aboard 23 = .ok (.isub, 1) := by decide +kernel
theorem dX12_aboard_24 : decode cX12_aboard 24 = .ok (.bipush 30, 2) := by decide +kernel
theorem dX12_aboard_26 : decode cX12_aboard 26 = .ok (.idiv, 1) := by decide +kernel
theorem dX12_aboard_27 : decode cX12_aboard 27 = .ok (.i2l, 1) := by decide +kernel
theorem dX12_aboard_28 : decode cX12_aboard 28 = .ok (.aload_n 2, 1) := by decide +kernel
theorem dX12_aboard_29 : decode cX12_aboard 29 = .ok (.bipush 9, 2) := by decide +kernel
theorem dX12_aboard_31 : decode cX12_aboard 31 = .ok (.iaload, 1) := by decide +kernel
theorem dX12_aboard_32 : decode cX12_aboard 32 = .ok (.i2l, 1) := by decide +kernel
theorem dX12_aboard_33 : decode cX12_aboard 33 = .ok (.lmul, 1) := by decide +kernel
theorem dX12_aboard_34 : decode cX12_aboard 34 = .ok (.goto 4, 3) := by decide +kernel
theorem dX12_aboard_37 : decode cX12_aboard 37 = .ok (.lconst 0, 1) := by decide +kernel
theorem dX12_aboard_38 : decode cX12_aboard 38 = .ok (.lstore_n 3, 1) := by decide +kernel
theorem dX12_aboard_39 : decode cX12_aboard 39 = .ok (.aload_n 0, 1) := by decide +kernel
theorem dX12_aboard_40 : decode cX12_aboard 40 = .ok (.getfield 115, 3) := by decide +kernel
theorem dX12_aboard_43 : decode cX12_aboard 43 = .ok (.iload_n 1, 1) := by decide +kernel
theorem dX12_aboard_44 : decode cX12_aboard 44 = .ok (.aaload, 1) := by decide +kernel
theorem dX12_aboard_45 : decode cX12_aboard 45 = .ok (.iconst 2, 1) := by decide +kernel
theorem dX12_aboard_46 : decode cX12_aboard 46 = .ok (.laload, 1) := by decide +kernel
theorem dX12_aboard_47 : decode cX12_aboard 47 = .ok (.lload_n 3, 1) := by decide +kernel
theorem dX12_aboard_48 : decode cX12_aboard 48 = .ok (.ldc2_w 304, 3) := by decide +kernel
theorem dX12_aboard_51 : decode cX12_aboard 51 = .ok (.lcmp, 1) := by decide +kernel
theorem dX12_aboard_52 : decode cX12_aboard 52 = .ok (.ifCond .le 9, 3) := by decide +kernel
theorem dX12_aboard_55 : decode cX12_aboard 55 = .ok (.ldc2_w 304, 3) := by decide +kernel
theorem dX12_aboard_58 : decode cX12_aboard 58 = .ok (.goto 4, 3) := by decide +kernel
theorem dX12_aboard_61 : decode cX12_aboard 61 = .ok (.lload_n 3, 1) := by decide +kernel
theorem dX12_aboard_62 : decode cX12_aboard 62 = .ok (.lmul, 1) := by decide +kernel
theorem dX12_aboard_63 : decode cX12_aboard 63 = .ok (.ldc2_w 304, 3) := by decide +kernel
theorem dX12_aboard_66 : decode cX12_aboard 66 = .ok (.ldiv, 1) := by decide +kernel
theorem dX12_aboard_67 : decode cX12_aboard 67 = .ok (.lstore 5, 2) := by decide +kernel
theorem dX12_aboard_69 : decode cX12_aboard 69 = .ok (.aload_n 0, 1) := by decide +kernel
theorem dX12_aboard_70 : decode cX12_aboard 70 = .ok (.getfield 115, 3) := by decide +kernel
theorem dX12_aboard_73 : decode cX12_aboard 73 = .ok (.iload_n 1, 1) := by decide +kernel
theorem dX12_aboard_74 : decode cX12_aboard 74 = .ok (.aaload, 1) := by decide +kernel
theorem dX12_aboard_75 : decode cX12_aboard 75 = .ok (.iconst 2, 1) := by decide +kernel
theorem dX12_aboard_76 : decode cX12_aboard 76 = .ok (.laload, 1) := by decide +kernel
theorem dX12_aboard_77 : decode cX12_aboard 77 = .ok (.lload 5, 2) := by decide +kernel
theorem dX12_aboard_79 : decode cX12_aboard 79 = .ok (.lsub, 1) := by decide +kernel
theorem dX12_aboard_80 : decode cX12_aboard 80 = .ok (.lstore 7, 2) := by decide +kernel
theorem dX12_aboard_82 : decode cX12_aboard 82 = .ok (.aload_n 0, 1) := by decide +kernel
theorem dX12_aboard_83 : decode cX12_aboard 83 = .ok (.dup, 1) := by decide +kernel
theorem dX12_aboard_84 : decode cX12_aboard 84 = .ok (.getfield 309, 3) := by decide +kernel
theorem dX12_aboard_87 : decode cX12_aboard 87 = .ok (.lload 5, 2) := by decide +kernel
theorem dX12_aboard_89 : decode cX12_aboard 89 = .ok (.ladd, 1) := by decide +kernel
theorem dX12_aboard_90 : decode cX12_aboard 90 = .ok (.putfield 309, 3) := by decide +kernel
theorem dX12_aboard_93 : decode cX12_aboard 93 = .ok (.aload_n 0, 1) := by decide +kernel
theorem dX12_aboard_94 : decode cX12_aboard 94 = .ok (.getfield 115, 3) := by decide +kernel
theorem dX12_aboard_97 : decode cX12_aboard 97 = .ok (.iload_n 1, 1) := by decide +kernel
theorem dX12_aboard_98 : decode cX12_aboard 98 = .ok (.aaload, 1) := by decide +kernel
theorem dX12_aboard_99 : decode cX12_aboard 99 = .ok (.bipush 6, 2) := by decide +kernel
theorem dX12_aboard_101 : decode cX12_aboard 101 = .ok (.lload 5, 2) := by decide +kernel
theorem dX12_aboard_103 : decode cX12_aboard 103 = .ok (.lastore, 1) := by decide +kernel
theorem dX12_aboard_104 : decode cX12_aboard 104 = .ok (.aload_n 0, 1) := by decide +kernel
theorem dX12_aboard_105 : decode cX12_aboard 105 = .ok (.getfield 115, 3) := by decide +kernel
theorem dX12_aboard_108 : decode cX12_aboard 108 = .ok (.iload_n 1, 1) := by decide +kernel
theorem dX12_aboard_109 : decode cX12_aboard 109 = .ok (.aaload, 1) := by decide +kernel
theorem dX12_aboard_110 : decode cX12_aboard 110 = .ok (.iconst 2, 1) := by decide +kernel
theorem dX12_aboard_111 : decode cX12_aboard 111 = .ok (.lload 7, 2) := by decide +kernel
theorem dX12_aboard_113 : decode cX12_aboard 113 = .ok (.lastore, 1) := by decide +kernel
theorem dX12_aboard_114 : decode cX12_aboard 114 = .ok (.aload_n 0, 1) := by decide +kernel
theorem dX12_aboard_115 : decode cX12_aboard 115 = .ok (.getfield 115, 3) := by decide +kernel
theorem dX12_aboard_118 : decode cX12_aboard 118 = .ok (.iload_n 1, 1) := by decide +kernel
theorem dX12_aboard_119 : decode cX12_aboard 119 = .ok (.aaload, 1) := by decide +kernel
theorem dX12_aboard_120 : decode cX12_aboard 120 = .ok (.iconst 3, 1) := by decide +kernel
theorem dX12_aboard_121 : decode cX12_aboard 121 = .ok (.lload 7, 2) := by decide +kernel
theorem dX12_aboard_123 : decode cX12_aboard 123 = .ok (.aload_n 0, 1) := by decide +kernel
theorem dX12_aboard_124 : decode cX12_aboard 124 = .ok (.getfield 100, 3) := by decide +kernel
theorem dX12_aboard_127 : decode cX12_aboard 127 = .ok (.iload_n 1, 1) := by decide +kernel
theorem dX12_aboard_128 : decode cX12_aboard 128 = .ok (.iaload, 1) := by decide +kernel
theorem dX12_aboard_129 : decode cX12_aboard 129 = .ok (.i2l, 1) := by decide +kernel
theorem dX12_aboard_130 : decode cX12_aboard 130 = .ok (.lmul, 1) := by decide +kernel
theorem dX12_aboard_131 : decode cX12_aboard 131 = .ok (.ldc2_w 316, 3) := by decide +kernel
theorem dX12_aboard_134 : decode cX12_aboard 134 = .ok (.ldiv, 1) := by decide +kernel
theorem dX12_aboard_135 : decode cX12_aboard 135 = .ok (.lastore, 1) := by decide +kernel
theorem dX12_aboard_136 : decode cX12_aboard 136 = .ok (.aload_n 0, 1) := by decide +kernel
theorem dX12_aboard_137 : decode cX12_aboard 137 = .ok (.getfield 115, 3) := by decide +kernel
theorem dX12_aboard_140 : decode cX12_aboard 140 = .ok (.iload_n 1, 1) := by decide +kernel
theorem dX12_aboard_141 : decode cX12_aboard 141 = .ok (.aaload, 1) := by decide +kernel
theorem dX12_aboard_142 : decode cX12_aboard 142 = .ok (.iconst 4, 1) := by decide +kernel
theorem dX12_aboard_143 : decode cX12_aboard 143 = .ok (.lload 7, 2) := by decide +kernel
theorem dX12_aboard_145 : decode cX12_aboard 145 = .ok (.aload_n 0, 1) := by decide +kernel
theorem dX12_aboard_146 : decode cX12_aboard 146 = .ok (.getfield 103, 3) := by decide +kernel
theorem dX12_aboard_149 : decode cX12_aboard 149 = .ok (.iload_n 1, 1) := by decide +kernel
theorem dX12_aboard_150 : decode cX12_aboard 150 = .ok (.iaload, 1) := by decide +kernel
theorem dX12_aboard_151 : decode cX12_aboard 151 = .ok (.i2l, 1) := by decide +kernel
theorem dX12_aboard_152 : decode cX12_aboard 152 = .ok (.lmul, 1) := by decide +kernel
theorem dX12_aboard_153 : decode cX12_aboard 153 = .ok (.ldc2_w 316, 3) := by decide +kernel
theorem dX12_aboard_156 : decode cX12_aboard 156 = .ok (.ldiv, 1) := by decide +kernel
theorem dX12_aboard_157 : decode cX12_aboard 157 = .ok (.lastore, 1) := by decide +kernel
theorem dX12_aboard_158 : decode cX12_aboard 158 = .ok (.aload_n 0, 1) := by decide +kernel
theorem dX12_aboard_159 : decode cX12_aboard 159 = .ok (.getfield 115, 3) := by decide +kernel
theorem dX12_aboard_162 : decode cX12_aboard 162 = .ok (.iload_n 1, 1) := by decide +kernel
theorem dX12_aboard_163 : decode cX12_aboard 163 = .ok (.aaload, 1) := by decide +kernel
theorem dX12_aboard_164 : decode cX12_aboard 164 = .ok (.iconst 5, 1) := by decide +kernel
theorem dX12_aboard_165 : decode cX12_aboard 165 = .ok (.lload 7, 2) := by decide +kernel
theorem dX12_aboard_167 : decode cX12_aboard 167 = .ok (.aload_n 0, 1) := by decide +kernel
theorem dX12_aboard_168 : decode cX12_aboard 168 = .ok (.getfield 115, 3) := by decide +kernel
theorem dX12_aboard_171 : decode cX12_aboard 171 = .ok (.iload_n 1, 1) := by decide +kernel
theorem dX12_aboard_172 : decode cX12_aboard 172 = .ok (.aaload, 1) := by decide +kernel
theorem dX12_aboard_173 : decode cX12_aboard 173 = .ok (.iconst 3, 1) := by decide +kernel
theorem dX12_aboard_174 : decode cX12_aboard 174 = .ok (.laload, 1) := by decide +kernel
theorem dX12_aboard_175 : decode cX12_aboard 175 = .ok (.lsub, 1) := by decide +kernel
theorem dX12_aboard_176 : decode cX12_aboard 176 = .ok (.aload_n 0, 1) := by decide +kernel
theorem dX12_aboard_177 : decode cX12_aboard 177 = .ok (.getfield 115, 3) := by decide +kernel
theorem dX12_aboard_180 : decode cX12_aboard 180 = .ok (.iload_n 1, 1) := by decide +kernel
theorem dX12_aboard_181 : decode cX12_aboard 181 = .ok (.aaload, 1) := by decide +kernel
theorem dX12_aboard_182 : decode cX12_aboard 182 = .ok (.iconst 4, 1) := by decide +kernel
theorem dX12_aboard_183 : decode cX12_aboard 183 = .ok (.laload, 1) := by decide +kernel
theorem dX12_aboard_184 : decode cX12_aboard 184 = .ok (.lsub, 1) := by decide +kernel
theorem dX12_aboard_185 : decode cX12_aboard 185 = .ok (.lastore, 1) := by decide +kernel
theorem dX12_aboard_186 : decode cX12_aboard 186 = .ok (.iconst 0, 1) := by decide +kernel
theorem dX12_aboard_187 : decode cX12_aboard 187 = .ok (.istore 9, 2) := by decide +kernel
theorem dX12_aboard_189 : decode cX12_aboard 189 = .ok (.iconst 0, 1) := by decide +kernel
theorem dX12_aboard_190 : decode cX12_aboard 190 = .ok (.istore 10, 2) := by decide +kernel
theorem dX12_aboard_192 : decode cX12_aboard 192 = .ok (.iload 10, 2) := by decide +kernel
theorem dX12_aboard_194 : decode cX12_aboard 194 = .ok (.aload_n 0, 1) := by decide +kernel
theorem dX12_aboard_195 : decode cX12_aboard 195 = .ok (.getfield 106, 3) := by decide +kernel
theorem dX12_aboard_198 : decode cX12_aboard 198 = .ok (.iload_n 1, 1) := by decide +kernel
theorem dX12_aboard_199 : decode cX12_aboard 199 = .ok (.iaload, 1) := by decide +kernel
theorem dX12_aboard_200 : decode cX12_aboard 200 = .ok (.if_icmp .ge 23, 3) := by decide +kernel
theorem dX12_aboard_203 : decode cX12_aboard 203 = .ok (.iload 9, 2) := by decide +kernel
theorem dX12_aboard_205 : decode cX12_aboard 205 = .ok (.aload_n 0, 1) := by decide +kernel
theorem dX12_aboard_206 : decode cX12_aboard 206 = .ok (.getfield 109, 3) := by decide +kernel
theorem dX12_aboard_209 : decode cX12_aboard 209 = .ok (.iload_n 1, 1) := by decide +kernel
theorem dX12_aboard_210 : decode cX12_aboard 210 = .ok (.aaload, 1) := by decide +kernel
theorem dX12_aboard_211 : decode cX12_aboard 211 = .ok (.iload 10, 2) := by decide +kernel
theorem dX12_aboard_213 : decode cX12_aboard 213 = .ok (.iaload, 1) := by decide +kernel
theorem dX12_aboard_214 : decode cX12_aboard 214 = .ok (.iadd, 1) := by decide +kernel
theorem dX12_aboard_215 : decode cX12_aboard 215 = .ok (.istore 9, 2) := by decide +kernel
theorem dX12_aboard_217 : decode cX12_aboard 217 = .ok (.iinc 10 1, 3) := by decide +kernel
theorem dX12_aboard_220 : decode cX12_aboard 220 = .ok (.goto (-28), 3) := by decide +kernel
theorem dX12_aboard_223 : decode cX12_aboard 223 = .ok (.aload_n 0, 1) := by decide +kernel
theorem dX12_aboard_224 : decode cX12_aboard 224 = .ok (.getfield 115, 3) := by decide +kernel
theorem dX12_aboard_227 : decode cX12_aboard 227 = .ok (.iload_n 1, 1) := by decide +kernel
theorem dX12_aboard_228 : decode cX12_aboard 228 = .ok (.aaload, 1) := by decide +kernel
theorem dX12_aboard_229 : decode cX12_aboard 229 = .ok (.iconst 5, 1) := by decide +kernel
theorem dX12_aboard_230 : decode cX12_aboard 230 = .ok (.laload, 1) := by decide +kernel
theorem dX12_aboard_231 : decode cX12_aboard 231 = .ok (.lstore 10, 2) := by decide +kernel
theorem dX12_aboard_233 : decode cX12_aboard 233 = .ok (.iconst 0, 1) := by decide +kernel
theorem dX12_aboard_234 : decode cX12_aboard 234 = .ok (.istore 12, 2) := by decide +kernel
theorem dX12_aboard_236 : decode cX12_aboard 236 = .ok (.iload 12, 2) := by decide +kernel
theorem dX12_aboard_238 : decode cX12_aboard 238 = .ok (.aload_n 0, 1) := by decide +kernel
theorem dX12_aboard_239 : decode cX12_aboard 239 = .ok (.getfield 106, 3) := by decide +kernel
theorem dX12_aboard_242 : decode cX12_aboard 242 = .ok (.iload_n 1, 1) := by decide +kernel
theorem dX12_aboard_243 : decode cX12_aboard 243 = .ok (.iaload, 1) := by decide +kernel
theorem dX12_aboard_244 : decode cX12_aboard 244 = .ok (.if_icmp .ge 55, 3) := by decide +kernel
theorem dX12_aboard_247 : decode cX12_aboard 247 = .ok (.aload_n 0, 1) := by decide +kernel
theorem dX12_aboard_248 : decode cX12_aboard 248 = .ok (.getfield 118, 3) := by decide +kernel
theorem dX12_aboard_251 : decode cX12_aboard 251 = .ok (.iload_n 1, 1) := by decide +kernel
theorem dX12_aboard_252 : decode cX12_aboard 252 = .ok (.aaload, 1) := by decide +kernel
theorem dX12_aboard_253 : decode cX12_aboard 253 = .ok (.iload 12, 2) := by decide +kernel
theorem dX12_aboard_255 : decode cX12_aboard 255 = .ok (.aload_n 0, 1) := by decide +kernel
theorem dX12_aboard_256 : decode cX12_aboard 256 = .ok (.getfield 115, 3) := by decide +kernel
theorem dX12_aboard_259 : decode cX12_aboard 259 = .ok (.iload_n 1, 1) := by decide +kernel
theorem dX12_aboard_260 : decode cX12_aboard 260 = .ok (.aaload, 1) := by decide +kernel
theorem dX12_aboard_261 : decode cX12_aboard 261 = .ok (.iconst 5, 1) := by decide +kernel
theorem dX12_aboard_262 : decode cX12_aboard 262 = .ok (.laload, 1) := by decide +kernel
theorem dX12_aboard_263 : decode cX12_aboard 263 = .ok (.aload_n 0, 1) := by decide +kernel
theorem dX12_aboard_264 : decode cX12_aboard 264 = .ok (.getfield 109, 3) := by decide +kernel
theorem dX12_aboard_267 : decode cX12_aboard 267 = .ok (.iload_n 1, 1) := by decide +kernel
theorem dX12_aboard_268 : decode cX12_aboard 268 = .ok (.aaload, 1) := by decide +kernel
theorem dX12_aboard_269 : decode cX12_aboard 269 = .ok (.iload 12, 2) := by decide +kernel
theorem dX12_aboard_271 : decode cX12_aboard 271 = .ok (.iaload, 1) := by decide +kernel
theorem dX12_aboard_272 : decode cX12_aboard 272 = .ok (.i2l, 1) := by decide +kernel
theorem dX12_aboard_273 : decode cX12_aboard 273 = .ok (.lmul, 1) := by decide +kernel
theorem dX12_aboard_274 : decode cX12_aboard 274 = .ok (.iload 9, 2) := by decide +kernel
theorem dX12_aboard_276 : decode cX12_aboard 276 = .ok (.i2l, 1) := by decide +kernel
theorem dX12_aboard_277 : decode cX12_aboard 277 = .ok (.ldiv, 1) := by decide +kernel
theorem dX12_aboard_278 : decode cX12_aboard 278 = .ok (.lastore, 1) := by decide +kernel
theorem dX12_aboard_279 : decode cX12_aboard 279 = .ok (.lload 10, 2) := by decide +kernel
theorem dX12_aboard_281 : decode cX12_aboard 281 = .ok (.aload_n 0, 1) := by decide +kernel
theorem dX12_aboard_282 : decode cX12_aboard 282 = .ok (.getfield 118, 3) := by decide +kernel
theorem dX12_aboard_285 : decode cX12_aboard 285 = .ok (.iload_n 1, 1) := by decide +kernel
theorem dX12_aboard_286 : decode cX12_aboard 286 = .ok (.aaload, 1) := by decide +kernel
theorem dX12_aboard_287 : decode cX12_aboard 287 = .ok (.iload 12, 2) := by decide +kernel
theorem dX12_aboard_289 : decode cX12_aboard 289 = .ok (.laload, 1) := by decide +kernel
theorem dX12_aboard_290 : decode cX12_aboard 290 = .ok (.lsub, 1) := by decide +kernel
theorem dX12_aboard_291 : decode cX12_aboard 291 = .ok (.lstore 10, 2) := by decide +kernel
theorem dX12_aboard_293 : decode cX12_aboard 293 = .ok (.iinc 12 1, 3) := by decide +kernel
theorem dX12_aboard_296 : decode cX12_aboard 296 = .ok (.goto (-60), 3) := by decide +kernel
theorem dX12_aboard_299 : decode cX12_aboard 299 = .ok (.iconst 0, 1) := by decide +kernel
theorem dX12_aboard_300 : decode cX12_aboard 300 = .ok (.istore 12, 2) := by decide +kernel
theorem dX12_aboard_302 : decode cX12_aboard 302 = .ok (.lload 10, 2) := by decide +kernel
theorem dX12_aboard_304 : decode cX12_aboard 304 = .ok (.lconst 0, 1) := by decide +kernel
theorem dX12_aboard_305 : decode cX12_aboard 305 = .ok (.lcmp, 1) := by decide +kernel
theorem dX12_aboard_306 : decode cX12_aboard 306 = .ok (.ifCond .le 28, 3) := by decide +kernel
theorem dX12_aboard_309 : decode cX12_aboard 309 = .ok (.aload_n 0, 1) := by decide +kernel
theorem dX12_aboard_310 : decode cX12_aboard 310 = .ok (.getfield 118, 3) := by decide +kernel
theorem dX12_aboard_313 : decode cX12_aboard 313 = .ok (.iload_n 1, 1) := by decide +kernel
theorem dX12_aboard_314 : decode cX12_aboard 314 = .ok (.aaload, 1) := by decide +kernel
theorem dX12_aboard_315 : decode cX12_aboard 315 = .ok (.iload 12, 2) := by decide +kernel
theorem dX12_aboard_317 : decode cX12_aboard 317 = .ok (.dup2, 1) := by decide +kernel
theorem dX12_aboard_318 : decode cX12_aboard 318 = .ok (.laload, 1) := by decide +kernel
theorem dX12_aboard_319 : decode cX12_aboard 319 = .ok (.lconst 1, 1) := by decide +kernel
theorem dX12_aboard_320 : decode cX12_aboard 320 = .ok (.ladd, 1) := by decide +kernel
theorem dX12_aboard_321 : decode cX12_aboard 321 = .ok (.lastore, 1) := by decide +kernel
theorem dX12_aboard_322 : decode cX12_aboard 322 = .ok (.lload 10, 2) := by decide +kernel
theorem dX12_aboard_324 : decode cX12_aboard 324 = .ok (.lconst 1, 1) := by decide +kernel
theorem dX12_aboard_325 : decode cX12_aboard 325 = .ok (.lsub, 1) := by decide +kernel
theorem dX12_aboard_326 : decode cX12_aboard 326 = .ok (.lstore 10, 2) := by decide +kernel
theorem dX12_aboard_328 : decode cX12_aboard 328 = .ok (.iinc 12 1, 3) := by decide +kernel
theorem dX12_aboard_331 : decode cX12_aboard 331 = .ok (.goto (-29), 3) := by decide +kernel
theorem dX12_aboard_334 : decode cX12_aboard 334 = .ok (.aload_n 0, 1) := by decide +kernel
theorem dX12_aboard_335 : decode cX12_aboard 335 = .ok (.getfield 121, 3) := by decide +kernel
theorem dX12_aboard_338 : decode cX12_aboard 338 = .ok (.iload_n 1, 1) := by decide +kernel
theorem dX12_aboard_339 : decode cX12_aboard 339 = .ok (.aload_n 0, 1) := by decide +kernel
theorem dX12_aboard_340 : decode cX12_aboard 340 = .ok (.getfield 106, 3) := by decide +kernel
theorem dX12_aboard_343 : decode cX12_aboard 343 = .ok (.iload_n 1, 1) := by decide +kernel
theorem dX12_aboard_344 : decode cX12_aboard 344 = .ok (.iaload, 1) := by decide +kernel
theorem dX12_aboard_345 : decode cX12_aboard 345 = .ok (.iastore, 1) := by decide +kernel
theorem dX12_aboard_346 : decode cX12_aboard 346 = .ok (.return_, 1) := by decide +kernel
theorem dX12_judged_0 : decode cX12_judged 0 = .ok (.aload_n 0, 1) := by decide +kernel
theorem dX12_judged_1 : decode cX12_judged 1 = .ok (.getfield 272, 3) := by decide +kernel
theorem dX12_judged_4 : decode cX12_judged 4 = .ok (.ifCond .ne 7, 3) := by decide +kernel
theorem dX12_judged_7 : decode cX12_judged 7 = .ok (.ldc2_w 318, 3) := by decide +kernel
theorem dX12_judged_10 : decode cX12_judged 10 = .ok (.lreturn, 1) := by decide +kernel
theorem dX12_judged_11 : decode cX12_judged 11 = .ok (.iload_n 1, 1) := by decide +kernel
theorem dX12_judged_12 : decode cX12_judged 12 = .ok (.tableswitch 73 0 5 #[40, 46, 52, 58, 63, 68], 40) := by decide +kernel
theorem dX12_judged_52 : decode cX12_judged 52 = .ok (.aload_n 0, 1) := by decide +kernel
theorem dX12_judged_53 : decode cX12_judged 53 = .ok (.getfield 275, 3) := by decide +kernel
theorem dX12_judged_56 : decode cX12_judged 56 = .ok (.i2l, 1) := by decide +kernel
theorem dX12_judged_57 : decode cX12_judged 57 = .ok (.lreturn, 1) := by decide +kernel
theorem dX12_judged_58 : decode cX12_judged 58 = .ok (.aload_n 0, 1) := by decide +kernel
theorem dX12_judged_59 : decode cX12_judged 59 = .ok (.getfield 269, 3) := by decide +kernel
theorem dX12_judged_62 : decode cX12_judged 62 = .ok (.i2l, 1) := by decide +kernel
theorem dX12_judged_63 : decode cX12_judged 63 = .ok (.lreturn, 1) := by decide +kernel
theorem dX12_judged_64 : decode cX12_judged 64 = .ok (.aload_n 0, 1) := by decide +kernel
theorem dX12_judged_65 : decode cX12_judged 65 = .ok (.getfield 286, 3) := by decide +kernel
theorem dX12_judged_68 : decode cX12_judged 68 = .ok (.i2l, 1) := by decide +kernel
theorem dX12_judged_69 : decode cX12_judged 69 = .ok (.lreturn, 1) := by decide +kernel
theorem dX12_judged_70 : decode cX12_judged 70 = .ok (.aload_n 0, 1) := by decide +kernel
theorem dX12_judged_71 : decode cX12_judged 71 = .ok (.getfield 289, 3) := by decide +kernel
theorem dX12_judged_74 : decode cX12_judged 74 = .ok (.lreturn, 1) := by decide +kernel
theorem dX12_judged_75 : decode cX12_judged 75 = .ok (.aload_n 0, 1) := by decide +kernel
theorem dX12_judged_76 : decode cX12_judged 76 = .ok (.getfield 306, 3) := by decide +kernel
theorem dX12_judged_79 : decode cX12_judged 79 = .ok (.lreturn, 1) := by decide +kernel
theorem dX12_judged_80 : decode cX12_judged 80 = .ok (.aload_n 0, 1) := by decide +kernel
theorem dX12_judged_81 : decode cX12_judged 81 = .ok (.getfield 309, 3) := by decide +kernel
theorem dX12_judged_84 : decode cX12_judged 84 = .ok (.lreturn, 1) := by decide +kernel
theorem dX12_judged_85 : decode cX12_judged 85 = .ok (.ldc2_w 318, 3) := by decide +kernel
theorem dX12_judged_88 : decode cX12_judged 88 = .ok (.lreturn, 1) := by decide +kernel
theorem dX12_like_0 : decode cX12_like 0 = .ok (.aload_n 0, 1) := by decide +kernel
theorem dX12_like_1 : decode cX12_like 1 = .ok (.getfield 272, 3) := by decide +kernel
theorem dX12_like_4 : decode cX12_like 4 = .ok (.ifCond .eq 26, 3) := by decide +kernel
theorem dX12_like_7 : decode cX12_like 7 = .ok (.iload_n 1, 1) := by decide +kernel
theorem dX12_like_8 : decode cX12_like 8 = .ok (.iconst 0, 1) := by decide +kernel
theorem dX12_like_9 : decode cX12_like 9 = .ok (.aload_n 0, 1) := by decide +kernel
theorem dX12_like_10 : decode cX12_like 10 = .ok (.getfield 269, 3) := by decide +kernel
theorem dX12_like_13 : decode cX12_like 13 = .ok (.iconst 1, 1) := by decide +kernel
theorem dX12_like_14 : decode cX12_like 14 = .ok (.isub, 1) := by decide +kernel
theorem dX12_like_15 : decode cX12_like 15 = .ok (.invokestatic 131, 3) := by decide +kernel
theorem dX12_like_18 : decode cX12_like 18 = .ok (.ifCond .eq 12, 3) := by decide +kernel
theorem dX12_like_21 : decode cX12_like 21 = .ok (.aload_n 0, 1) := by decide +kernel
theorem dX12_like_22 : decode cX12_like 22 = .ok (.getfield 112, 3) := by decide +kernel
theorem dX12_like_25 : decode cX12_like 25 = .ok (.iload_n 1, 1) := by decide +kernel
theorem dX12_like_26 : decode cX12_like 26 = .ok (.iaload, 1) := by decide +kernel
theorem dX12_like_27 : decode cX12_like 27 = .ok (.goto 4, 3) := by decide +kernel
theorem dX12_like_30 : decode cX12_like 30 = .ok (.iconst (-1), 1) := by decide +kernel
theorem dX12_like_31 : decode cX12_like 31 = .ok (.ireturn, 1) := by decide +kernel
theorem dX12_share_0 : decode cX12_share 0 = .ok (.aload_n 0, 1) := by decide +kernel
theorem dX12_share_1 : decode cX12_share 1 = .ok (.getfield 272, 3) := by decide +kernel
theorem dX12_share_4 : decode cX12_share 4 = .ok (.ifCond .eq 38, 3) := by decide +kernel
theorem dX12_share_7 : decode cX12_share 7 = .ok (.iload_n 1, 1) := by decide +kernel
theorem dX12_share_8 : decode cX12_share 8 = .ok (.iconst 0, 1) := by decide +kernel
theorem dX12_share_9 : decode cX12_share 9 = .ok (.aload_n 0, 1) := by decide +kernel
theorem dX12_share_10 : decode cX12_share 10 = .ok (.getfield 301, 3) := by decide +kernel
theorem dX12_share_13 : decode cX12_share 13 = .ok (.iconst 1, 1) := by decide +kernel
theorem dX12_share_14 : decode cX12_share 14 = .ok (.isub, 1) := by decide +kernel
theorem dX12_share_15 : decode cX12_share 15 = .ok (.invokestatic 131, 3) := by decide +kernel
theorem dX12_share_18 : decode cX12_share 18 = .ok (.ifCond .eq 24, 3) := by decide +kernel
theorem dX12_share_21 : decode cX12_share 21 = .ok (.iload_n 2, 1) := by decide +kernel
theorem dX12_share_22 : decode cX12_share 22 = .ok (.iconst 0, 1) := by decide +kernel
theorem dX12_share_23 : decode cX12_share 23 = .ok (.bipush 6, 2) := by decide +kernel
theorem dX12_share_25 : decode cX12_share 25 = .ok (.invokestatic 131, 3) := by decide +kernel
theorem dX12_share_28 : decode cX12_share 28 = .ok (.ifCond .eq 14, 3) := by decide +kernel
theorem dX12_share_31 : decode cX12_share 31 = .ok (.aload_n 0, 1) := by decide +kernel
theorem dX12_share_32 : decode cX12_share 32 = .ok (.getfield 115, 3) := by decide +kernel
theorem dX12_share_35 : decode cX12_share 35 = .ok (.iload_n 1, 1) := by decide +kernel
theorem dX12_share_36 : decode cX12_share 36 = .ok (.aaload, 1) := by decide +kernel
theorem dX12_share_37 : decode cX12_share 37 = .ok (.iload_n 2, 1) := by decide +kernel
theorem dX12_share_38 : decode cX12_share 38 = .ok (.laload, 1) := by decide +kernel
theorem dX12_share_39 : decode cX12_share 39 = .ok (.goto 6, 3) := by decide +kernel
theorem dX12_share_42 : decode cX12_share 42 = .ok (.ldc2_w 318, 3) := by decide +kernel
theorem dX12_share_45 : decode cX12_share 45 = .ok (.lreturn, 1) := by decide +kernel
theorem dX12_hand_0 : decode cX12_hand 0 = .ok (.aload_n 0, 1) := by decide +kernel
theorem dX12_hand_1 : decode cX12_hand 1 = .ok (.getfield 272, 3) := by decide +kernel
theorem dX12_hand_4 : decode cX12_hand 4 = .ok (.ifCond .eq 44, 3) := by decide +kernel
theorem dX12_hand_7 : decode cX12_hand 7 = .ok (.iload_n 1, 1) := by decide +kernel
theorem dX12_hand_8 : decode cX12_hand 8 = .ok (.iconst 0, 1) := by decide +kernel
theorem dX12_hand_9 : decode cX12_hand 9 = .ok (.aload_n 0, 1) := by decide +kernel
theorem dX12_hand_10 : decode cX12_hand 10 = .ok (.getfield 301, 3) := by decide +kernel
theorem dX12_hand_13 : decode cX12_hand 13 = .ok (.iconst 1, 1) := by decide +kernel
theorem dX12_hand_14 : decode cX12_hand 14 = .ok (.isub, 1) := by decide +kernel
theorem dX12_hand_15 : decode cX12_hand 15 = .ok (.invokestatic 131, 3) := by decide +kernel
theorem dX12_hand_18 : decode cX12_hand 18 = .ok (.ifCond .eq 30, 3) := by decide +kernel
theorem dX12_hand_21 : decode cX12_hand 21 = .ok (.iload_n 2, 1) := by decide +kernel
theorem dX12_hand_22 : decode cX12_hand 22 = .ok (.iconst 0, 1) := by decide +kernel
theorem dX12_hand_23 : decode cX12_hand 23 = .ok (.aload_n 0, 1) := by decide +kernel
theorem dX12_hand_24 : decode cX12_hand 24 = .ok (.getfield 121, 3) := by decide +kernel
theorem dX12_hand_27 : decode cX12_hand 27 = .ok (.iload_n 1, 1) := by decide +kernel
theorem dX12_hand_28 : decode cX12_hand 28 = .ok (.iaload, 1) := by decide +kernel
theorem dX12_hand_29 : decode cX12_hand 29 = .ok (.iconst 1, 1) := by decide +kernel
theorem dX12_hand_30 : decode cX12_hand 30 = .ok (.isub, 1) := by decide +kernel
theorem dX12_hand_31 : decode cX12_hand 31 = .ok (.invokestatic 131, 3) := by decide +kernel
theorem dX12_hand_34 : decode cX12_hand 34 = .ok (.ifCond .eq 14, 3) := by decide +kernel
theorem dX12_hand_37 : decode cX12_hand 37 = .ok (.aload_n 0, 1) := by decide +kernel
theorem dX12_hand_38 : decode cX12_hand 38 = .ok (.getfield 118, 3) := by decide +kernel
theorem dX12_hand_41 : decode cX12_hand 41 = .ok (.iload_n 1, 1) := by decide +kernel
theorem dX12_hand_42 : decode cX12_hand 42 = .ok (.aaload, 1) := by decide +kernel
theorem dX12_hand_43 : decode cX12_hand 43 = .ok (.iload_n 2, 1) := by decide +kernel
theorem dX12_hand_44 : decode cX12_hand 44 = .ok (.laload, 1) := by decide +kernel
theorem dX12_hand_45 : decode cX12_hand 45 = .ok (.goto 6, 3) := by decide +kernel
theorem dX12_hand_48 : decode cX12_hand 48 = .ok (.ldc2_w 318, 3) := by decide +kernel
theorem dX12_hand_51 : decode cX12_hand 51 = .ok (.lreturn, 1) := by decide +kernel
theorem dX12_count_0 : decode cX12_count 0 = .ok (.iload_n 1, 1) := by decide +kernel
theorem dX12_count_1 : decode cX12_count 1 = .ok (.tableswitch 123 0 7 #[47, 52, 57, 98, 103, 108, 113, 118], 47) := by decide +kernel
theorem dX12_count_48 : decode cX12_count 48 = .ok (.aload_n 0, 1) := by decide +kernel
theorem dX12_count_49 : decode cX12_count 49 = .ok (.getfield 128, 3) := by decide +kernel
theorem dX12_count_52 : decode cX12_count 52 = .ok (.ireturn, 1) := by decide +kernel
theorem dX12_count_53 : decode cX12_count 53 = .ok (.aload_n 0, 1) := by decide +kernel
theorem dX12_count_54 : decode cX12_count 54 = .ok (.getfield 135, 3) := by decide +kernel
theorem dX12_count_57 : decode cX12_count 57 = .ok (.ireturn, 1) := by decide +kernel
theorem dX12_count_58 : decode cX12_count 58 = .ok (.aload_n 0, 1) := by decide +kernel
theorem dX12_count_59 : decode cX12_count 59 = .ok (.invokevirtual 144, 3) := by decide +kernel
theorem dX12_count_62 : decode cX12_count 62 = .ok (.iconst 0, 1) := by decide +kernel
theorem dX12_count_63 : decode cX12_count 63 = .ok (.istore_n 2, 1) := by decide +kernel
theorem dX12_count_64 : decode cX12_count 64 = .ok (.iconst 0, 1) := by decide +kernel
theorem dX12_count_65 : decode cX12_count 65 = .ok (.istore_n 3, 1) := by decide +kernel
theorem dX12_count_66 : decode cX12_count 66 = .ok (.iload_n 3, 1) := by decide +kernel
theorem dX12_count_67 : decode cX12_count 67 = .ok (.aload_n 0, 1) := by decide +kernel
theorem dX12_count_68 : decode cX12_count 68 = .ok (.getfield 135, 3) := by decide +kernel
theorem dX12_count_71 : decode cX12_count 71 = .ok (.if_icmp .ge 26, 3) := by decide +kernel
theorem dX12_count_74 : decode cX12_count 74 = .ok (.iload_n 2, 1) := by decide +kernel
theorem dX12_count_75 : decode cX12_count 75 = .ok (.aload_n 0, 1) := by decide +kernel
theorem dX12_count_76 : decode cX12_count 76 = .ok (.getfield 33, 3) := by decide +kernel
theorem dX12_count_79 : decode cX12_count 79 = .ok (.iload_n 3, 1) := by decide +kernel
theorem dX12_count_80 : decode cX12_count 80 = .ok (.baload, 1) := by decide +kernel
theorem dX12_count_81 : decode cX12_count 81 = .ok (.ifCond .eq 7, 3) := by decide +kernel
theorem dX12_count_84 : decode cX12_count 84 = .ok (.iconst 1, 1) := by decide +kernel
theorem dX12_count_85 : decode cX12_count 85 = .ok (.goto 4, 3) := by decide +kernel
theorem dX12_count_88 : decode cX12_count 88 = .ok (.iconst 0, 1) := by decide +kernel
theorem dX12_count_89 : decode cX12_count 89 = .ok (.iadd, 1) := by decide +kernel
theorem dX12_count_90 : decode cX12_count 90 = .ok (.istore_n 2, 1) := by decide +kernel
theorem dX12_count_91 : decode cX12_count 91 = .ok (.iinc 3 1, 3) := by decide +kernel
theorem dX12_count_94 : decode cX12_count 94 = .ok (.goto (-28), 3) := by decide +kernel
theorem dX12_count_97 : decode cX12_count 97 = .ok (.iload_n 2, 1) := by decide +kernel
theorem dX12_count_98 : decode cX12_count 98 = .ok (.ireturn, 1) := by decide +kernel
theorem dX12_count_99 : decode cX12_count 99 = .ok (.aload_n 0, 1) := by decide +kernel
theorem dX12_count_100 : decode cX12_count 100 = .ok (.getfield 152, 3) := by decide +kernel
theorem dX12_count_103 : decode cX12_count 103 = .ok (.ireturn, 1) := by decide +kernel
theorem dX12_count_104 : decode cX12_count 104 = .ok (.aload_n 0, 1) := by decide +kernel
theorem dX12_count_105 : decode cX12_count 105 = .ok (.getfield 156, 3) := by decide +kernel
theorem dX12_count_108 : decode cX12_count 108 = .ok (.ireturn, 1) := by decide +kernel
theorem dX12_count_109 : decode cX12_count 109 = .ok (.aload_n 0, 1) := by decide +kernel
theorem dX12_count_110 : decode cX12_count 110 = .ok (.getfield 250, 3) := by decide +kernel
theorem dX12_count_113 : decode cX12_count 113 = .ok (.ireturn, 1) := by decide +kernel
theorem dX12_count_114 : decode cX12_count 114 = .ok (.aload_n 0, 1) := by decide +kernel
theorem dX12_count_115 : decode cX12_count 115 = .ok (.getfield 266, 3) := by decide +kernel
theorem dX12_count_118 : decode cX12_count 118 = .ok (.ireturn, 1) := by decide +kernel
theorem dX12_count_119 : decode cX12_count 119 = .ok (.aload_n 0, 1) := by decide +kernel
theorem dX12_count_120 : decode cX12_count 120 = .ok (.getfield 166, 3) := by decide +kernel
theorem dX12_count_123 : decode cX12_count 123 = .ok (.ireturn, 1) := by decide +kernel
theorem dX12_count_124 : decode cX12_count 124 = .ok (.iconst (-1), 1) := by decide +kernel
theorem dX12_count_125 : decode cX12_count 125 = .ok (.ireturn, 1) := by decide +kernel
