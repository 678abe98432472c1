theorem dX10_tellCubes_0 : decode cX10_tellCubes 0 = .ok (.aload_n 0, 1) := by decide +kernel
theorem dX10_tellCubes_1 : decode cX10_tellCubes 1 = .ok (.getfield 7, 3) := by decide +kernel
theorem dX10_tellCubes_4 : decode cX10_tellCubes 4 = .ok (.iload_n 1, 1) := by decide +kernel
theorem dX10_tellCubes_5 : decode cX10_tellCubes 5 = .ok (.iaload, 1) := by decide +kernel
theorem dX10_tellCubes_6 : decode cX10_tellCubes 6 = .ok (.istore_n 2, 1) := by decide +kernel
theorem dX10_tellCubes_7 : decode cX10_tellCubes 7 = .ok (.iconst 0, 1) := by decide +kernel
theorem dX10_tellCubes_8 : decode cX10_tellCubes 8 = .ok (.istore_n 3, 1) := by decide +kernel
theorem dX10_tellCubes_9 : decode cX10_tellCubes 9 = .ok (.iload_n 3, 1) := by decide +kernel
theorem dX10_tellCubes_10 : decode cX10_tellCubes 10 = .ok (.aload_n 0, 1) := by decide +kernel
theorem dX10_tellCubes_11 : decode cX10_tellCubes 11 = .ok (.getfield 51, 3) := by decide +kernel
theorem dX10_tellCubes_14 : decode cX10_tellCubes 14 = .ok (.iload_n 2, 1) := by decide +kernel
theorem dX10_tellCubes_15 : decode cX10_tellCubes 15 = .ok (.iaload, 1) := by decide +kernel
theorem dX10_tellCubes_16 : decode cX10_tellCubes 16 = .ok (.if_icmp .ge 320, 3) := by decide +kernel
theorem dX10_tellCubes_19 : decode cX10_tellCubes 19 = .ok (.iconst 0, 1) := by decide +kernel
theorem dX10_tellCubes_20 : decode cX10_tellCubes 20 = .ok (.istore 4, 2) := by decide +kernel
theorem dX10_tellCubes_22 : decode cX10_tellCubes 22 = .ok (.iconst (-1), 1) := by decide +kernel
theorem dX10_tellCubes_23 : decode cX10_tellCubes 23 = .ok (.istore 5, 2) := by decide +kernel
theorem dX10_tellCubes_25 : decode cX10_tellCubes 25 = .ok (.iconst 0, 1) := by decide +kernel
theorem dX10_tellCubes_26 : decode cX10_tellCubes 26 = .ok (.istore 6, 2) := by decide +kernel
theorem dX10_tellCubes_28 : decode cX10_tellCubes 28 = .ok (.iload 6, 2) := by decide +kernel
theorem dX10_tellCubes_30 : decode cX10_tellCubes 30 = .ok (.iload_n 2, 1) := by decide +kernel
theorem dX10_tellCubes_31 : decode cX10_tellCubes 31 = .ok (.if_icmp .ge 52, 3) := by decide +kernel
theorem dX10_tellCubes_34 : decode cX10_tellCubes 34 = .ok (.aload_n 0, 1) := by decide +kernel
theorem dX10_tellCubes_35 : decode cX10_tellCubes 35 = .ok (.iload_n 3, 1) := by decide +kernel
theorem dX10_tellCubes_36 : decode cX10_tellCubes 36 = .ok (.iload 6, 2) := by decide +kernel
theorem dX10_tellCubes_38 : decode cX10_tellCubes 38 = .ok (.invokevirtual 173, 3) := by decide +kernel
theorem dX10_tellCubes_41 : decode cX10_tellCubes 41 = .ok (.istore 7, 2) := by decide +kernel
theorem dX10_tellCubes_43 : decode cX10_tellCubes 43 = .ok (.iload 7, 2) := by decide +kernel
theorem dX10_tellCubes_45 : decode cX10_tellCubes 45 = .ok (.iconst 2, 1) := by decide +kernel
theorem dX10_tellCubes_46 : decode cX10_tellCubes 46 = .ok (.if_icmp .ne 8, 3) := by decide +kernel
theorem dX10_tellCubes_49 : decode cX10_tellCubes 49 = .ok (.iload 6, 2) := by decide +kernel
theorem dX10_tellCubes_51 : decode cX10_tellCubes 51 = .ok (.goto 5, 3) := by decide +kernel
theorem dX10_tellCubes_54 : decode cX10_tellCubes 54 = .ok (.iload 5, 2) := by decide +kernel
theorem dX10_tellCubes_56 : decode cX10_tellCubes 56 = .ok (.istore 5, 2) := by decide +kernel
theorem dX10_tellCubes_58 : decode cX10_tellCubes 58 = .ok (.iload 4, 2) := by decide +kernel
theorem dX10_tellCubes_60 : decode cX10_tellCubes 60 = .ok (.iload 7, 2) := by decide +kernel
theorem dX10_tellCubes_62 : decode cX10_tellCubes 62 = .ok (.iconst 1, 1) := by decide +kernel
theorem dX10_tellCubes_63 : decode cX10_tellCubes 63 = .ok (.if_icmp .ne 10, 3) := by decide +kernel
theorem dX10_tellCubes_66 : decode cX10_tellCubes 66 = .ok (.iconst 1, 1) := by decide +kernel
theorem dX10_tellCubes_67 : decode cX10_tellCubes 67 = .ok (.iload 6, 2) := by decide +kernel
theorem dX10_tellCubes_69 : decode cX10_tellCubes 69 = .ok (.ishl, 1) := by decide +kernel
theorem dX10_tellCubes_70 : decode cX10_tellCubes 70 = .ok (.goto 4, 3) := by decide +kernel
theorem dX10_tellCubes_73 : decode cX10_tellCubes 73 = .ok (.iconst 0, 1) := by decide +kernel
theorem dX10_tellCubes_74 : decode cX10_tellCubes 74 = .ok (.ior, 1) := by decide +kernel
theorem dX10_tellCubes_75 : decode cX10_tellCubes 75 = .ok (.istore 4, 2) := by decide +kernel
theorem dX10_tellCubes_77 : decode cX10_tellCubes 77 = .ok (.iinc 6 1, 3) := by decide +kernel
theorem dX10_tellCubes_80 : decode cX10_tellCubes 80 = .ok (.goto (-52), 3) := by decide +kernel
theorem dX10_tellCubes_83 : decode cX10_tellCubes 83 = .ok (.iload 5, 2) := by decide +kernel
theorem dX10_tellCubes_85 : decode cX10_tellCubes 85 = .ok (.ifCond .ge 42, 3) := by decide +kernel
theorem dX10_tellCubes_88 : decode cX10_tellCubes 88 = .ok (.aload_n 0, 1) := by decide +kernel
theorem dX10_tellCubes_89 : decode cX10_tellCubes 89 = .ok (.iload_n 1, 1) := by decide +kernel
theorem dX10_tellCubes_90 : decode cX10_tellCubes 90 = .ok (.iload 4, 2) := by decide +kernel
theorem dX10_tellCubes_92 : decode cX10_tellCubes 92 = .ok (.invokevirtual 123, 3) := by decide +kernel
theorem dX10_tellCubes_95 : decode cX10_tellCubes 95 = .ok (.istore 6, 2) := by decide +kernel
theorem dX10_tellCubes_97 : decode cX10_tellCubes 97 = .ok (.aload_n 0, 1) := by decide +kernel
theorem dX10_tellCubes_98 : decode cX10_tellCubes 98 = .ok (.getfield 54, 3) := by decide +kernel
theorem dX10_tellCubes_101 : decode cX10_tellCubes 101 = .ok (.iload_n 3, 1) := by decide +kernel
theorem dX10_tellCubes_102 : decode cX10_tellCubes 102 = .ok (.iload 6, 2) := by decide +kernel
theorem dX10_tellCubes_104 : decode cX10_tellCubes 104 = .ok (.iconst 2, 1) := by decide +kernel
theorem dX10_tellCubes_105 : decode cX10_tellCubes 105 = .ok (.if_icmp .ne 7, 3) := by decide +kernel
theorem dX10_tellCubes_108 : decode cX10_tellCubes 108 = .ok (.iconst 0, 1) := by decide +kernel
theorem dX10_tellCubes_109 : decode cX10_tellCubes 109 = .ok (.goto 7, 3) := by decide +kernel
theorem dX10_tellCubes_112 : decode cX10_tellCubes 112 = .ok (.iconst 1, 1) := by decide +kernel
theorem dX10_tellCubes_113 : decode cX10_tellCubes 113 = .ok (.iload 6, 2) := by decide +kernel
theorem dX10_tellCubes_115 : decode cX10_tellCubes 115 = .ok (.ishl, 1) := by decide +kernel
theorem dX10_tellCubes_116 : decode cX10_tellCubes 116 = .ok (.iastore, 1) := by decide +kernel
theorem dX10_tellCubes_117 : decode cX10_tellCubes 117 = .ok (.aload_n 0, 1) := by decide +kernel
theorem dX10_tellCubes_118 : decode cX10_tellCubes 118 = .ok (.getfield 63, 3) := by decide +kernel
theorem dX10_tellCubes_121 : decode cX10_tellCubes 121 = .ok (.iload_n 3, 1) := by decide +kernel
theorem dX10_tellCubes_122 : decode cX10_tellCubes 122 = .ok (.iconst 1, 1) := by decide +kernel
theorem dX10_tellCubes_123 : decode cX10_tellCubes 123 = .ok (.iastore, 1) := by decide +kernel
theorem dX10_tellCubes_124 : decode cX10_tellCubes 124 = .ok (.goto 62, 3) := by decide +kernel
theorem dX10_tellCubes_127 : decode cX10_tellCubes 127 = .ok (.aload_n 0, 1) := by decide +kernel
theorem dX10_tellCubes_128 : decode cX10_tellCubes 128 = .ok (.getfield 54, 3) := by decide +kernel
theorem dX10_tellCubes_131 : decode cX10_tellCubes 131 = .ok (.iload_n 3, 1) := by decide +kernel
theorem dX10_tellCubes_132 : decode cX10_tellCubes 132 = .ok (.aload_n 0, 1) := by decide +kernel
theorem dX10_tellCubes_133 : decode cX10_tellCubes 133 = .ok (.getfield 54, 3) := by decide +kernel
theorem dX10_tellCubes_136 : decode cX10_tellCubes 136 = .ok (.iload_n 3, 1) := by decide +kernel
theorem dX10_tellCubes_137 : decode cX10_tellCubes 137 = .ok (.aload_n 0, 1) := by decide +kernel
theorem dX10_tellCubes_138 : decode cX10_tellCubes 138 = .ok (.getfield 51, 3) := by decide +kernel
theorem dX10_tellCubes_141 : decode cX10_tellCubes 141 = .ok (.iload 5, 2) := by decide +kernel
theorem dX10_tellCubes_143 : decode cX10_tellCubes 143 = .ok (.iaload, 1) := by decide +kernel
theorem dX10_tellCubes_144 : decode cX10_tellCubes 144 = .ok (.isub, 1) := by decide +kernel
theorem dX10_tellCubes_145 : decode cX10_tellCubes 145 = .ok (.iaload, 1) := by decide +kernel
theorem dX10_tellCubes_146 : decode cX10_tellCubes 146 = .ok (.aload_n 0, 1) := by decide +kernel
theorem dX10_tellCubes_147 : decode cX10_tellCubes 147 = .ok (.getfield 54, 3) := by decide +kernel
theorem dX10_tellCubes_150 : decode cX10_tellCubes 150 = .ok (.iload_n 3, 1) := by decide +kernel
theorem dX10_tellCubes_151 : decode cX10_tellCubes 151 = .ok (.iconst 2, 1) := by decide +kernel
theorem dX10_tellCubes_152 : decode cX10_tellCubes 152 = .ok (.aload_n 0, 1) := by decide +kernel
theorem dX10_tellCubes_153 : decode cX10_tellCubes 153 = .ok (.getfield 51, 3) := by decide +kernel
theorem dX10_tellCubes_156 : decode cX10_tellCubes 156 = .ok (.iload 5, 2) := by decide +kernel
theorem dX10_tellCubes_158 : decode cX10_tellCubes 158 = .ok (.iaload, 1) := by decide +kernel
theorem dX10_tellCubes_159 : decode cX10_tellCubes 159 = .ok (.imul, 1) := by decide +kernel
theorem dX10_tellCubes_160 : decode cX10_tellCubes 160 = .ok (.isub, 1) := by decide +kernel
theorem dX10_tellCubes_161 : decode cX10_tellCubes 161 = .ok (.iaload, 1) := by decide +kernel
theorem dX10_tellCubes_162 : decode cX10_tellCubes 162 = .ok (.ior, 1) := by decide +kernel
theorem dX10_tellCubes_163 : decode cX10_tellCubes 163 = .ok (.iastore, 1) := by decide +kernel
theorem dX10_tellCubes_164 : decode cX10_tellCubes 164 = .ok (.aload_n 0, 1) := by decide +kernel
theorem dX10_tellCubes_165 : decode cX10_tellCubes 165 = .ok (.getfield 63, 3) := by decide +kernel
theorem dX10_tellCubes_168 : decode cX10_tellCubes 168 = .ok (.iload_n 3, 1) := by decide +kernel
theorem dX10_tellCubes_169 : decode cX10_tellCubes 169 = .ok (.iconst 2, 1) := by decide +kernel
theorem dX10_tellCubes_170 : decode cX10_tellCubes 170 = .ok (.aload_n 0, 1) := by decide +kernel
theorem dX10_tellCubes_171 : decode cX10_tellCubes 171 = .ok (.getfield 63, 3) := by decide +kernel
theorem dX10_tellCubes_174 : decode cX10_tellCubes 174 = .ok (.iload_n 3, 1) := by decide +kernel
theorem dX10_tellCubes_175 : decode cX10_tellCubes 175 = .ok (.aload_n 0, 1) := by decide +kernel
theorem dX10_tellCubes_176 : decode cX10_tellCubes 176 = .ok (.getfield 51, 3) := by decide +kernel
theorem dX10_tellCubes_179 : decode cX10_tellCubes 179 = .ok (.iload 5, 2) := by decide +kernel
theorem dX10_tellCubes_181 : decode cX10_tellCubes 181 = .ok (.iaload, 1) := by decide +kernel
theorem dX10_tellCubes_182 : decode cX10_tellCubes 182 = .ok (.isub, 1) := by decide +kernel
theorem dX10_tellCubes_183 : decode cX10_tellCubes 183 = .ok (.iaload, 1) := by decide +kernel
theorem dX10_tellCubes_184 : decode cX10_tellCubes 184 = .ok (.imul, 1) := by decide +kernel
theorem dX10_tellCubes_185 : decode cX10_tellCubes 185 = .ok (.iastore, 1) := by decide +kernel
theorem dX10_tellCubes_186 : decode cX10_tellCubes 186 = .ok (.aload_n 0, 1) := by decide +kernel
theorem dX10_tellCubes_187 : decode cX10_tellCubes 187 = .ok (.getfield 57, 3) := by decide +kernel
theorem dX10_tellCubes_190 : decode cX10_tellCubes 190 = .ok (.iload_n 3, 1) := by decide +kernel
theorem dX10_tellCubes_191 : decode cX10_tellCubes 191 = .ok (.iconst 0, 1) := by decide +kernel
theorem dX10_tellCubes_192 : decode cX10_tellCubes 192 = .ok (.iastore, 1) := by decide +kernel
theorem dX10_tellCubes_193 : decode cX10_tellCubes 193 = .ok (.aload_n 0, 1) := by decide +kernel
theorem dX10_tellCubes_194 : decode cX10_tellCubes 194 = .ok (.getfield 60, 3) := by decide +kernel
theorem dX10_tellCubes_197 : decode cX10_tellCubes 197 = .ok (.iload_n 3, 1) := by decide +kernel
theorem dX10_tellCubes_198 : decode cX10_tellCubes 198 = .ok (.iconst 0, 1) := by decide +kernel
theorem dX10_tellCubes_199 : decode cX10_tellCubes 199 = .ok (.iastore, 1) := by decide +kernel
theorem dX10_tellCubes_200 : decode cX10_tellCubes 200 = .ok (.aload_n 0, 1) := by decide +kernel
theorem dX10_tellCubes_201 : decode cX10_tellCubes 201 = .ok (.iload_n 3, 1) := by decide +kernel
theorem dX10_tellCubes_202 : decode cX10_tellCubes 202 = .ok (.invokevirtual 176, 3) := by decide +kernel
theorem dX10_tellCubes_205 : decode cX10_tellCubes 205 = .ok (.ifCond .ne 125, 3) := by decide +kernel
theorem dX10_tellCubes_208 : decode cX10_tellCubes 208 = .ok (.aload_n 0, 1) := by decide +kernel
theorem dX10_tellCubes_209 : decode cX10_tellCubes 209 = .ok (.getfield 57, 3) := by decide +kernel
theorem dX10_tellCubes_212 : decode cX10_tellCubes 212 = .ok (.iload_n 3, 1) := by decide +kernel
theorem dX10_tellCubes_213 : decode cX10_tellCubes 213 = .ok (.bipush 100, 2) := by decide +kernel
theorem dX10_tellCubes_215 : decode cX10_tellCubes 215 = .ok (.iastore, 1) := by decide +kernel
theorem dX10_tellCubes_216 : decode cX10_tellCubes 216 = .ok (.aload_n 0, 1) := by decide +kernel
theorem dX10_tellCubes_217 : decode cX10_tellCubes 217 = .ok (.getfield 60, 3) := by decide +kernel
theorem dX10_tellCubes_220 : decode cX10_tellCubes 220 = .ok (.iload_n 3, 1) := by decide +kernel
theorem dX10_tellCubes_221 : decode cX10_tellCubes 221 = .ok (.ldc 179, 2) := by decide +kernel
theorem dX10_tellCubes_223 : decode cX10_tellCubes 223 = .ok (.iastore, 1) := by decide +kernel
theorem dX10_tellCubes_224 : decode cX10_tellCubes 224 = .ok (.iconst 0, 1) := by decide +kernel
theorem dX10_tellCubes_225 : decode cX10_tellCubes 225 = .ok (.istore 6, 2) := by decide +kernel
theorem dX10_tellCubes_227 : decode cX10_tellCubes 227 = .ok (.iload 6, 2) := by decide +kernel
theorem dX10_tellCubes_229 : decode cX10_tellCubes 229 = .ok (.iload_n 2, 1) := by decide +kernel
theorem dX10_tellCubes_230 : decode cX10_tellCubes 230 = .ok (.if_icmp .ge 100, 3) := by decide +kernel
theorem dX10_tellCubes_233 : decode cX10_tellCubes 233 = .ok (.aload_n 0, 1) := by decide +kernel
theorem dX10_tellCubes_234 : decode cX10_tellCubes 234 = .ok (.iload_n 3, 1) := by decide +kernel
theorem dX10_tellCubes_235 : decode cX10_tellCubes 235 = .ok (.iload 6, 2) := by decide +kernel
theorem dX10_tellCubes_237 : decode cX10_tellCubes 237 = .ok (.invokevirtual 173, 3) := by decide +kernel
theorem dX10_tellCubes_240 : decode cX10_tellCubes 240 = .ok (.iconst 2, 1) := by decide +kernel
theorem dX10_tellCubes_241 : decode cX10_tellCubes 241 = .ok (.if_icmp .ne 83, 3) := by decide +kernel
theorem dX10_tellCubes_244 : decode cX10_tellCubes 244 = .ok (.aload_n 0, 1) := by decide +kernel
theorem dX10_tellCubes_245 : decode cX10_tellCubes 245 = .ok (.getfield 57, 3) := by decide +kernel
theorem dX10_tellCubes_248 : decode cX10_tellCubes 248 = .ok (.iload_n 3, 1) := by decide +kernel
theorem dX10_tellCubes_249 : decode cX10_tellCubes 249 = .ok (.aload_n 0, 1) := by decide +kernel
theorem dX10_tellCubes_250 : decode cX10_tellCubes 250 = .ok (.iload_n 3, 1) := by decide +kernel
theorem dX10_tellCubes_251 : decode cX10_tellCubes 251 = .ok (.iload 6, 2) := by decide +kernel
theorem dX10_tellCubes_253 : decode cX10_tellCubes 253 = .ok (.invokevirtual 180, 3) := by decide +kernel
theorem dX10_tellCubes_256 : decode cX10_tellCubes 256 = .ok (.iconst 1, 1) := by decide +kernel
theorem dX10_tellCubes_257 : decode cX10_tellCubes 257 = .ok (.iadd, 1) := by decide +kernel
theorem dX10_tellCubes_258 : decode cX10_tellCubes 258 = .ok (.aload_n 0, 1) := by decide +kernel
theorem dX10_tellCubes_259 : decode cX10_tellCubes 259 = .ok (.getfield 57, 3) := by decide +kernel
theorem dX10_tellCubes_262 : decode cX10_tellCubes 262 = .ok (.iload_n 3, 1) := by decide +kernel
theorem dX10_tellCubes_263 : decode cX10_tellCubes 263 = .ok (.iaload, 1) := by decide +kernel
theorem dX10_tellCubes_264 : decode cX10_tellCubes 264 = .ok (.if_icmp .ge 15, 3) := by decide +kernel
theorem dX10_tellCubes_267 : decode cX10_tellCubes 267 = .ok (.aload_n 0, 1) := by decide +kernel
theorem dX10_tellCubes_268 : decode cX10_tellCubes 268 = .ok (.iload_n 3, 1) := by decide +kernel
theorem dX10_tellCubes_269 : decode cX10_tellCubes 269 = .ok (.iload 6, 2) := by decide +kernel
theorem dX10_tellCubes_271 : decode cX10_tellCubes 271 = .ok (.invokevirtual 180, 3) := by decide +kernel
theorem dX10_tellCubes_274 : decode cX10_tellCubes 274 = .ok (.iconst 1, 1) := by decide +kernel
theorem dX10_tellCubes_275 : decode cX10_tellCubes 275 = .ok (.iadd, 1) := by decide +kernel
theorem dX10_tellCubes_276 : decode cX10_tellCubes 276 = .ok (.goto 9, 3) := by decide +kernel
theorem dX10_tellCubes_279 : decode cX10_tellCubes 279 = .ok (.aload_n 0, 1) := by decide +kernel
theorem dX10_tellCubes_280 : decode cX10_tellCubes 280 = .ok (.getfield 57, 3) := by decide +kernel
theorem dX10_tellCubes_283 : decode cX10_tellCubes 283 = .ok (.iload_n 3, 1) := by decide +kernel
theorem dX10_tellCubes_284 : decode cX10_tellCubes 284 = .ok (.iaload, 1) := by decide +kernel
theorem dX10_tellCubes_285 : decode cX10_tellCubes 285 = .ok (.iastore, 1) := by decide +kernel
theorem dX10_tellCubes_286 : decode cX10_tellCubes 286 = .ok (.aload_n 0, 1) := by decide +kernel
theorem dX10_tellCubes_287 : decode cX10_tellCubes 287 = .ok (.getfield 60, 3) := by decide +kernel
theorem dX10_tellCubes_290 : decode cX10_tellCubes 290 = .ok (.iload_n 3, 1) := by decide +kernel
theorem dX10_tellCubes_291 : decode cX10_tellCubes 291 = .ok (.aload_n 0, 1) := by decide +kernel
theorem dX10_tellCubes_292 : decode cX10_tellCubes 292 = .ok (.iload_n 3, 1) := by decide +kernel
theorem dX10_tellCubes_293 : decode cX10_tellCubes 293 = .ok (.iload 6, 2) := by decide +kernel
theorem dX10_tellCubes_295 : decode cX10_tellCubes 295 = .ok (.invokevirtual 183, 3) := by decide +kernel
theorem dX10_tellCubes_298 : decode cX10_tellCubes 298 = .ok (.aload_n 0, 1) := by decide +kernel
theorem dX10_tellCubes_299 : decode cX10_tellCubes 299 = .ok (.getfield 60, 3) := by decide +kernel
theorem dX10_tellCubes_302 : decode cX10_tellCubes 302 = .ok (.iload_n 3, 1) := by decide +kernel
theorem dX10_tellCubes_303 : decode cX10_tellCubes 303 = .ok (.iaload, 1) := by decide +kernel
theorem dX10_tellCubes_304 : decode cX10_tellCubes 304 = .ok (.if_icmp .ge 13, 3) := by decide +kernel
theorem dX10_tellCubes_307 : decode cX10_tellCubes 307 = .ok (.aload_n 0, 1) := by decide +kernel
theorem dX10_tellCubes_308 : decode cX10_tellCubes 308 = .ok (.iload_n 3, 1) := by decide +kernel
theorem dX10_tellCubes_309 : decode cX10_tellCubes 309 = .ok (.iload 6, 2) := by decide +kernel
theorem dX10_tellCubes_311 : decode cX10_tellCubes 311 = .ok (.invokevirtual 183, 3) := by decide +kernel
theorem dX10_tellCubes_314 : decode cX10_tellCubes 314 = .ok (.goto 9, 3) := by decide +kernel
theorem dX10_tellCubes_317 : decode cX10_tellCubes 317 = .ok (.aload_n 0, 1) := by decide +kernel
theorem dX10_tellCubes_318 : decode cX10_tellCubes 318 = .ok (.getfield 60, 3) := by decide +kernel
theorem dX10_tellCubes_321 : decode cX10_tellCubes 321 = .ok (.iload_n 3, 1) := by decide +kernel
theorem dX10_tellCubes_322 : decode cX10_tellCubes 322 = .ok (.iaload, 1) := by decide +kernel
theorem dX10_tellCubes_323 : decode cX10_tellCubes 323 = .ok (.iastore, 1) := by decide +kernel
theorem dX10_tellCubes_324 : decode cX10_tellCubes 324 = .ok (.iinc 6 1, 3) := by decide +kernel
theorem dX10_tellCubes_327 : decode cX10_tellCubes 327 = .ok (.goto (-100), 3) := by decide +kernel
theorem dX10_tellCubes_330 : decode cX10_tellCubes 330 = .ok (.iinc 3 1, 3) := by decide +kernel
theorem dX10_tellCubes_333 : decode cX10_tellCubes 333 = .ok (.goto (-324), 3) := by decide +kernel
theorem dX10_tellCubes_336 : decode cX10_tellCubes 336 = .ok (.return_, 1) := by decide +kernel
abbrev rmX10_tellCubes : Room := { frames := 1, cells := 0, slots := 0, locals := 24 }
theorem yd_X10_tellCubes : yX10_tellCubes.cls = RX10 ∧ yX10_tellCubes.cls ≠ "java/lang/invoke/MethodHandle" ∧ yX10_tellCubes.cls ≠ "java/lang/invoke/VarHandle" ∧ (parseMethodDescriptor yX10_tellCubes.desc).map (fun d => d.parameters.length) = some 1 := by decide +kernel
def fX10_tellCubes_L28_J74 (r : RS) (l1 : Int32) (l2 : Int32) (l3 : Int32) (l5 : Int32) (l6 : Int32) (s0 : Int32) (s1 : Int32) : Option ((Int32 × Int32 × Int32) ⊕ (Int32 × Int32)) :=
  some (.inl ((s1 ||| s0), l5, (l6 + (1 : Int32))))
def fX10_tellCubes_L28_J56 (r : RS) (l1 : Int32) (l2 : Int32) (l3 : Int32) (l4 : Int32) (l6 : Int32) (l7 : Int32) (s0 : Int32) : Option ((Int32 × Int32 × Int32) ⊕ (Int32 × Int32)) :=
  if l7 = (1 : Int32) then
    fX10_tellCubes_L28_J74 r l1 l2 l3 s0 l6 ((1 : Int32) <<< (l6 &&& 31)) l4
  else
    fX10_tellCubes_L28_J74 r l1 l2 l3 s0 l6 (0 : Int32) l4
def fX10_tellCubes_L28 (r : RS) (l1 : Int32) (l2 : Int32) (l3 : Int32) (l4 : Int32) (l5 : Int32) (l6 : Int32) : Option ((Int32 × Int32 × Int32) ⊕ (Int32 × Int32)) :=
  if l2 ≤ l6 then
    some (.inr (l4, l5))
  else
    (fX10_digit r l3 l6).bind fun q3 =>
    if q3 = (2 : Int32) then
      fX10_tellCubes_L28_J56 r l1 l2 l3 l4 l6 q3 l6
    else
      fX10_tellCubes_L28_J56 r l1 l2 l3 l4 l6 q3 l5
def fX10_tellCubes_L227_J324 (r : RS) (l1 : Int32) (l2 : Int32) (l3 : Int32) (l6 : Int32) : Option ((Int32 × RS) ⊕ RS) :=
  some (.inl ((l6 + (1 : Int32)), r))
def fX10_tellCubes_L227_J323 (r : RS) (l1 : Int32) (l2 : Int32) (l3 : Int32) (l6 : Int32) (s0 : Int32) (s1 : Int32) : Option ((Int32 × RS) ⊕ RS) :=
  (sA r 14 6561 s1 s0).bind fun r26 =>
  fX10_tellCubes_L227_J324 r26 l1 l2 l3 l6
def fX10_tellCubes_L227_J285 (r : RS) (l1 : Int32) (l2 : Int32) (l3 : Int32) (l6 : Int32) (s0 : Int32) (s1 : Int32) : Option ((Int32 × RS) ⊕ RS) :=
  (sA r 13 6561 s1 s0).bind fun r22 =>
  (fX10_sums r22 l3 l6).bind fun q23 =>
  (aI 6561 (r22.2.1 14) l3).bind fun v24 =>
  if v24 ≤ q23 then
    (aI 6561 (r22.2.1 14) l3).bind fun v25 =>
    fX10_tellCubes_L227_J323 r22 l1 l2 l3 l6 v25 l3
  else
    (fX10_sums r22 l3 l6).bind fun q27 =>
    fX10_tellCubes_L227_J323 r22 l1 l2 l3 l6 q27 l3
def fX10_tellCubes_L227 (r : RS) (l1 : Int32) (l2 : Int32) (l3 : Int32) (l6 : Int32) : Option ((Int32 × RS) ⊕ RS) :=
  if l2 ≤ l6 then
    some (.inr r)
  else
    (fX10_digit r l3 l6).bind fun q18 =>
    if q18 = (2 : Int32) then
      (fX10_deeper r l3 l6).bind fun q19 =>
      (aI 6561 (r.2.1 13) l3).bind fun v20 =>
      if v20 ≤ (q19 + (1 : Int32)) then
        (aI 6561 (r.2.1 13) l3).bind fun v21 =>
        fX10_tellCubes_L227_J285 r l1 l2 l3 l6 v21 l3
      else
        (fX10_deeper r l3 l6).bind fun q28 =>
        fX10_tellCubes_L227_J285 r l1 l2 l3 l6 (q28 + (1 : Int32)) l3
    else
      fX10_tellCubes_L227_J324 r l1 l2 l3 l6
def fX10_tellCubes_L9_J330 (r : RS) (l1 : Int32) (l2 : Int32) (l3 : Int32) : Option ((Int32 × RS) ⊕ RS) :=
  some (.inl ((l3 + (1 : Int32)), r))
def fX10_tellCubes_L9_J186 (r : RS) (l1 : Int32) (l2 : Int32) (l3 : Int32) : Option ((Int32 × RS) ⊕ RS) :=
  (sA r 13 6561 l3 (0 : Int32)).bind fun r13 =>
  (sA r13 14 6561 l3 (0 : Int32)).bind fun r14 =>
  (fX10_isSettled r14 l3).bind fun q15 =>
  if q15 = 0 then
    (sA r14 13 6561 l3 (100 : Int32)).bind fun r16 =>
    (sA r16 14 6561 l3 (1000000 : Int32)).bind fun r17 =>
    (lpN (fun u => fX10_tellCubes_L227 u.2 l1 l2 l3 u.1) bigN ((0 : Int32), r17)).bind fun e29 =>
    fX10_tellCubes_L9_J330 e29 l1 l2 l3
  else
    fX10_tellCubes_L9_J330 r14 l1 l2 l3
def fX10_tellCubes_L9_J116 (r : RS) (l1 : Int32) (l2 : Int32) (l3 : Int32) (s0 : Int32) (s1 : Int32) : Option ((Int32 × RS) ⊕ RS) :=
  (sA r 12 6561 s1 s0).bind fun r31 =>
  (sA r31 15 6561 l3 (1 : Int32)).bind fun r32 =>
  fX10_tellCubes_L9_J186 r32 l1 l2 l3
def fX10_tellCubes_L9 (r : RS) (l1 : Int32) (l2 : Int32) (l3 : Int32) : Option ((Int32 × RS) ⊕ RS) :=
  (aI 9 (r.2.1 11) l2).bind fun v2 =>
  if v2 ≤ l3 then
    some (.inr r)
  else
    (lpN (fun u => fX10_tellCubes_L28 r l1 l2 l3 u.1 u.2.1 u.2.2) bigN ((0 : Int32), (-1 : Int32), (0 : Int32))).bind fun e4 =>
    if 0 ≤ e4.2 then
      (aI 9 (r.2.1 11) e4.2).bind fun v5 =>
      (aI 6561 (r.2.1 12) (l3 - v5)).bind fun v6 =>
      (aI 9 (r.2.1 11) e4.2).bind fun v7 =>
      (aI 6561 (r.2.1 12) (l3 - ((2 : Int32) * v7))).bind fun v8 =>
      (sA r 12 6561 l3 (v6 ||| v8)).bind fun r9 =>
      (aI 9 (r9.2.1 11) e4.2).bind fun v10 =>
      (aI 6561 (r9.2.1 15) (l3 - v10)).bind fun v11 =>
      (sA r9 15 6561 l3 ((2 : Int32) * v11)).bind fun r12 =>
      fX10_tellCubes_L9_J186 r12 l1 l2 l3
    else
      (fX10_say0 r l1 e4.1).bind fun q30 =>
      if q30 = (2 : Int32) then
        fX10_tellCubes_L9_J116 r l1 l2 l3 (0 : Int32) l3
      else
        fX10_tellCubes_L9_J116 r l1 l2 l3 ((1 : Int32) <<< (q30 &&& 31)) l3
def fX10_tellCubes (r : RS) (a1 : Int32) : Option (RS) :=
  (aI 16 (r.2.1 0) a1).bind fun v1 =>
  (lpN (fun u => fX10_tellCubes_L9 u.2 a1 v1 u.1) bigN ((0 : Int32), r)).bind fun e33 =>
  some e33
set_option maxHeartbeats 4000000 in
set_option maxRecDepth 100000 in
theorem tX10_tellCubes_L28 {κ : KK} {p : Program} {l : Launch} {e : Env} {s : State} {m : MethodId} {args : Array Value} {below : List Frame} {meth : Method} {c : Code} (C : Cx κ p s m args meth c cX10_tellCubes 8 RX10 none) {o : Nat} {v : Option Value} {B' : Heap → Prop} {r : RS} {l1 : Int32} {l2 : Int32} {l3 : Int32} {l4 : Int32} {l5 : Int32} {l6 : Int32} {y : (Int32 × Int32 × Int32) ⊕ (Int32 × Int32)} (h : fX10_tellCubes_L28 r l1 l2 l3 l4 l5 l6 = some y) (kc : ∀ u, y = .inl u → GR κ p l e s m args below meth c rmX10_tellCubes 8 o v B' r 28 [(0, .ref o), (1, .int l1), (2, .int l2), (3, .int l3), (4, .int u.1), (5, .int u.2.1), (6, .int u.2.2)] []) (kx : ∀ w, y = .inr w → GR κ p l e s m args below meth c rmX10_tellCubes 8 o v B' r 83 [(0, .ref o), (1, .int l1), (2, .int l2), (3, .int l3), (4, .int w.1), (5, .int w.2)] []) : GR κ p l e s m args below meth c rmX10_tellCubes 8 o v B' r 28 [(0, .ref o), (1, .int l1), (2, .int l2), (3, .int l3), (4, .int l4), (5, .int l5), (6, .int l6)] [] := by
  have J74 : ∀ (l5 : Int32) (l6 : Int32) (s0 : Int32) (s1 : Int32), fX10_tellCubes_L28_J74 r l1 l2 l3 l5 l6 s0 s1 = some y → GR κ p l e s m args below meth c rmX10_tellCubes 8 o v B' r 74 [(0, .ref o), (1, .int l1), (2, .int l2), (3, .int l3), (5, .int l5), (6, .int l6)] [.int s0, .int s1] := by
    intro l5 l6 s0 s1 h
    unfold fX10_tellCubes_L28_J74 at h
    refine G_ior (pc' := 75) C dX10_tellCubes_74 rfl ?_
    refine G_istore (pc' := 77) C dX10_tellCubes_75 [(4, .int (s1 ||| s0)), (0, .ref o), (1, .int l1), (2, .int l2), (3, .int l3), (5, .int l5), (6, .int l6)] (by decide) rfl rfl ?_
    refine G_iinc (pc' := 80) C dX10_tellCubes_77 6 rfl rfl [(6, .int (l6 + (1 : Int32))), (4, .int (s1 ||| s0)), (0, .ref o), (1, .int l1), (2, .int l2), (3, .int l3), (5, .int l5)] (by decide) rfl rfl ?_
    refine G_goto (tgt := 28) C dX10_tellCubes_80 (by decide) ?_
    exact G_sub [2, 3, 4, 5, 1, 6, 0] rfl (kc _ (Option.some.inj h).symm)
  have J56 : ∀ (l4 : Int32) (l6 : Int32) (l7 : Int32) (s0 : Int32), fX10_tellCubes_L28_J56 r l1 l2 l3 l4 l6 l7 s0 = some y → GR κ p l e s m args below meth c rmX10_tellCubes 8 o v B' r 56 [(0, .ref o), (1, .int l1), (2, .int l2), (3, .int l3), (4, .int l4), (6, .int l6), (7, .int l7)] [.int s0] := by
    intro l4 l6 l7 s0 h
    unfold fX10_tellCubes_L28_J56 at h
    refine G_istore (pc' := 58) C dX10_tellCubes_56 [(5, .int s0), (0, .ref o), (1, .int l1), (2, .int l2), (3, .int l3), (4, .int l4), (6, .int l6), (7, .int l7)] (by decide) rfl rfl ?_
    refine G_iload (pc' := 60) C dX10_tellCubes_58 5 rfl rfl ?_
    refine G_iload (pc' := 62) C dX10_tellCubes_60 7 rfl rfl ?_
    refine G_iconst (pc' := 63) (v := (1 : Int32)) C dX10_tellCubes_62 (by decide) rfl ?_
    refine G_icmp_ne (tgt := 73) (pc' := 66) C dX10_tellCubes_63 (by decide) rfl (fun hc => ?_) (fun hc => ?_)
    · replace h := z_in hc h
      refine G_iconst (pc' := 74) (v := (0 : Int32)) C dX10_tellCubes_73 (by decide) rfl ?_
      exact G_sub [1, 2, 3, 4, 0, 6] rfl (J74 s0 l6 (0 : Int32) l4 h)
    · replace h := z_ip hc h
      refine G_iconst (pc' := 67) (v := (1 : Int32)) C dX10_tellCubes_66 (by decide) rfl ?_
      refine G_iload (pc' := 69) C dX10_tellCubes_67 6 rfl rfl ?_
      refine G_ishl (pc' := 70) C dX10_tellCubes_69 rfl ?_
      refine G_goto (tgt := 74) C dX10_tellCubes_70 (by decide) ?_
      exact G_sub [1, 2, 3, 4, 0, 6] rfl (J74 s0 l6 ((1 : Int32) <<< (l6 &&& 31)) l4 h)
  unfold fX10_tellCubes_L28 at h
  refine G_iload (pc' := 30) C dX10_tellCubes_28 6 rfl rfl ?_
  refine G_iload_n (pc' := 31) C dX10_tellCubes_30 2 rfl rfl ?_
  refine G_icmp_ge (tgt := 83) (pc' := 34) C dX10_tellCubes_31 (by decide) rfl (fun hc => ?_) (fun hc => ?_)
  · replace h := z_ip hc h
    exact G_sub [0, 1, 2, 3, 4, 5] rfl (kx _ (Option.some.inj h).symm)
  · replace h := z_in hc h
    refine G_aload_n (pc' := 35) C dX10_tellCubes_34 0 rfl rfl ?_
    refine G_iload_n (pc' := 36) C dX10_tellCubes_35 3 rfl rfl ?_
    refine G_iload (pc' := 38) C dX10_tellCubes_36 6 rfl rfl ?_
    obtain ⟨q3, hq3, h⟩ := ob h
    refine G_cV0 (pc' := 41) C dX10_tellCubes_38 (tX10_digit κ l o r l3 l6 q3 hq3) (wV tw_ml_X10_173 tw_im_X10_digit tw_se_X10_X10_digit tw_in_X10 tw_co_X10_digit) yd_X10_digit rfl fi_X10 (RB_rd 0 rfl) rfl rfl (by decide) rfl (Nat.le_of_ble_eq_true rfl) rfl rfl ?_
    refine G_istore (pc' := 43) C dX10_tellCubes_41 [(7, .int q3), (0, .ref o), (1, .int l1), (2, .int l2), (3, .int l3), (4, .int l4), (5, .int l5), (6, .int l6)] (by decide) rfl rfl ?_
    refine G_iload (pc' := 45) C dX10_tellCubes_43 0 rfl rfl ?_
    refine G_iconst (pc' := 46) (v := (2 : Int32)) C dX10_tellCubes_45 (by decide) rfl ?_
    refine G_icmp_ne (tgt := 54) (pc' := 49) C dX10_tellCubes_46 (by decide) rfl (fun hc => ?_) (fun hc => ?_)
    · replace h := z_in hc h
      refine G_iload (pc' := 56) C dX10_tellCubes_54 6 rfl rfl ?_
      exact G_sub [1, 2, 3, 4, 5, 7, 0] rfl (J56 l4 l6 q3 l5 h)
    · replace h := z_ip hc h
      refine G_iload (pc' := 51) C dX10_tellCubes_49 7 rfl rfl ?_
      refine G_goto (tgt := 56) C dX10_tellCubes_51 (by decide) ?_
      exact G_sub [1, 2, 3, 4, 5, 7, 0] rfl (J56 l4 l6 q3 l6 h)
set_option maxHeartbeats 4000000 in
set_option maxRecDepth 100000 in
theorem tX10_tellCubes_L227 {κ : KK} {p : Program} {l : Launch} {e : Env} {s : State} {m : MethodId} {args : Array Value} {below : List Frame} {meth : Method} {c : Code} (C : Cx κ p s m args meth c cX10_tellCubes 8 RX10 none) {o : Nat} {v : Option Value} {B' : Heap → Prop} {r : RS} {l1 : Int32} {l2 : Int32} {l3 : Int32} {l6 : Int32} {y : (Int32 × RS) ⊕ RS} (h : fX10_tellCubes_L227 r l1 l2 l3 l6 = some y) (kc : ∀ u, y = .inl u → GR κ p l e s m args below meth c rmX10_tellCubes 8 o v B' u.2 227 [(0, .ref o), (1, .int l1), (2, .int l2), (3, .int l3), (6, .int u.1)] []) (kx : ∀ w, y = .inr w → GR κ p l e s m args below meth c rmX10_tellCubes 8 o v B' w 330 [(0, .ref o), (1, .int l1), (2, .int l2), (3, .int l3)] []) : GR κ p l e s m args below meth c rmX10_tellCubes 8 o v B' r 227 [(0, .ref o), (1, .int l1), (2, .int l2), (3, .int l3), (6, .int l6)] [] := by
  have J324 : ∀ (r : RS) (l6 : Int32), fX10_tellCubes_L227_J324 r l1 l2 l3 l6 = some y → GR κ p l e s m args below meth c rmX10_tellCubes 8 o v B' r 324 [(0, .ref o), (1, .int l1), (2, .int l2), (3, .int l3), (6, .int l6)] [] := by
    intro r l6 h
    unfold fX10_tellCubes_L227_J324 at h
    refine G_iinc (pc' := 327) C dX10_tellCubes_324 4 rfl rfl [(6, .int (l6 + (1 : Int32))), (0, .ref o), (1, .int l1), (2, .int l2), (3, .int l3)] (by decide) rfl rfl ?_
    refine G_goto (tgt := 227) C dX10_tellCubes_327 (by decide) ?_
    exact G_sub [1, 2, 3, 4, 0] rfl (kc _ (Option.some.inj h).symm)
  have J323 : ∀ (r : RS) (l6 : Int32) (s0 : Int32) (s1 : Int32), fX10_tellCubes_L227_J323 r l1 l2 l3 l6 s0 s1 = some y → GR κ p l e s m args below meth c rmX10_tellCubes 8 o v B' r 323 [(0, .ref o), (1, .int l1), (2, .int l2), (3, .int l3), (6, .int l6)] [.int s0, .int s1, .ref (o + 15)] := by
    intro r l6 s0 s1 h
    unfold fX10_tellCubes_L227_J323 at h
    obtain ⟨r26, hr26, h⟩ := ob h
    refine R_s_sum (pc' := 324) C dX10_tellCubes_323 hr26 rfl ?_
    exact G_sub [0, 1, 2, 3, 4] rfl (J324 r26 l6 h)
  have J285 : ∀ (r : RS) (l6 : Int32) (s0 : Int32) (s1 : Int32), fX10_tellCubes_L227_J285 r l1 l2 l3 l6 s0 s1 = some y → GR κ p l e s m args below meth c rmX10_tellCubes 8 o v B' r 285 [(0, .ref o), (1, .int l1), (2, .int l2), (3, .int l3), (6, .int l6)] [.int s0, .int s1, .ref (o + 14)] := by
    intro r l6 s0 s1 h
    unfold fX10_tellCubes_L227_J285 at h
    obtain ⟨r22, hr22, h⟩ := ob h
    refine R_s_depth (pc' := 286) C dX10_tellCubes_285 hr22 rfl ?_
    refine G_aload_n (pc' := 287) C dX10_tellCubes_286 0 rfl rfl ?_
    refine R_g_sum (pc' := 290) C dX10_tellCubes_287 rfl ?_
    refine G_iload_n (pc' := 291) C dX10_tellCubes_290 3 rfl rfl ?_
    refine G_aload_n (pc' := 292) C dX10_tellCubes_291 0 rfl rfl ?_
    refine G_iload_n (pc' := 293) C dX10_tellCubes_292 3 rfl rfl ?_
    refine G_iload (pc' := 295) C dX10_tellCubes_293 4 rfl rfl ?_
    obtain ⟨q23, hq23, h⟩ := ob h
    refine G_cV0 (pc' := 298) C dX10_tellCubes_295 (tX10_sums κ l o r22 l3 l6 q23 hq23) (wV tw_ml_X10_183 tw_im_X10_sums tw_se_X10_X10_sums tw_in_X10 tw_co_X10_sums) yd_X10_sums rfl fi_X10 (RB_rd 0 rfl) rfl rfl (by decide) rfl (Nat.le_of_ble_eq_true rfl) rfl rfl ?_
    refine G_aload_n (pc' := 299) C dX10_tellCubes_298 0 rfl rfl ?_
    refine R_g_sum (pc' := 302) C dX10_tellCubes_299 rfl ?_
    refine G_iload_n (pc' := 303) C dX10_tellCubes_302 3 rfl rfl ?_
    obtain ⟨v24, hv24, h⟩ := ob h
    refine R_l_sum (pc' := 304) C dX10_tellCubes_303 hv24 rfl ?_
    refine G_icmp_ge (tgt := 317) (pc' := 307) C dX10_tellCubes_304 (by decide) rfl (fun hc => ?_) (fun hc => ?_)
    · replace h := z_ip hc h
      refine G_aload_n (pc' := 318) C dX10_tellCubes_317 0 rfl rfl ?_
      refine R_g_sum (pc' := 321) C dX10_tellCubes_318 rfl ?_
      refine G_iload_n (pc' := 322) C dX10_tellCubes_321 3 rfl rfl ?_
      obtain ⟨v25, hv25, h⟩ := ob h
      refine R_l_sum (pc' := 323) C dX10_tellCubes_322 hv25 rfl ?_
      exact G_sub [0, 1, 2, 3, 4] rfl (J323 r22 l6 v25 l3 h)
    · replace h := z_in hc h
      refine G_aload_n (pc' := 308) C dX10_tellCubes_307 0 rfl rfl ?_
      refine G_iload_n (pc' := 309) C dX10_tellCubes_308 3 rfl rfl ?_
      refine G_iload (pc' := 311) C dX10_tellCubes_309 4 rfl rfl ?_
      obtain ⟨q27, hq27, h⟩ := ob h
      refine G_cV0 (pc' := 314) C dX10_tellCubes_311 (tX10_sums κ l o r22 l3 l6 q27 hq27) (wV tw_ml_X10_183 tw_im_X10_sums tw_se_X10_X10_sums tw_in_X10 tw_co_X10_sums) yd_X10_sums rfl fi_X10 (RB_rd 0 rfl) rfl rfl (by decide) rfl (Nat.le_of_ble_eq_true rfl) rfl rfl ?_
      refine G_goto (tgt := 323) C dX10_tellCubes_314 (by decide) ?_
      exact G_sub [0, 1, 2, 3, 4] rfl (J323 r22 l6 q27 l3 h)
  unfold fX10_tellCubes_L227 at h
  refine G_iload (pc' := 229) C dX10_tellCubes_227 4 rfl rfl ?_
  refine G_iload_n (pc' := 230) C dX10_tellCubes_229 2 rfl rfl ?_
  refine G_icmp_ge (tgt := 330) (pc' := 233) C dX10_tellCubes_230 (by decide) rfl (fun hc => ?_) (fun hc => ?_)
  · replace h := z_ip hc h
    exact G_sub [0, 1, 2, 3] rfl (kx _ (Option.some.inj h).symm)
  · replace h := z_in hc h
    refine G_aload_n (pc' := 234) C dX10_tellCubes_233 0 rfl rfl ?_
    refine G_iload_n (pc' := 235) C dX10_tellCubes_234 3 rfl rfl ?_
    refine G_iload (pc' := 237) C dX10_tellCubes_235 4 rfl rfl ?_
    obtain ⟨q18, hq18, h⟩ := ob h
    refine G_cV0 (pc' := 240) C dX10_tellCubes_237 (tX10_digit κ l o r l3 l6 q18 hq18) (wV tw_ml_X10_173 tw_im_X10_digit tw_se_X10_X10_digit tw_in_X10 tw_co_X10_digit) yd_X10_digit rfl fi_X10 (RB_rd 0 rfl) rfl rfl (by decide) rfl (Nat.le_of_ble_eq_true rfl) rfl rfl ?_
    refine G_iconst (pc' := 241) (v := (2 : Int32)) C dX10_tellCubes_240 (by decide) rfl ?_
    refine G_icmp_ne (tgt := 324) (pc' := 244) C dX10_tellCubes_241 (by decide) rfl (fun hc => ?_) (fun hc => ?_)
    · replace h := z_in hc h
      exact G_sub [0, 1, 2, 3, 4] rfl (J324 r l6 h)
    · replace h := z_ip hc h
      refine G_aload_n (pc' := 245) C dX10_tellCubes_244 0 rfl rfl ?_
      refine R_g_depth (pc' := 248) C dX10_tellCubes_245 rfl ?_
      refine G_iload_n (pc' := 249) C dX10_tellCubes_248 3 rfl rfl ?_
      refine G_aload_n (pc' := 250) C dX10_tellCubes_249 0 rfl rfl ?_
      refine G_iload_n (pc' := 251) C dX10_tellCubes_250 3 rfl rfl ?_
      refine G_iload (pc' := 253) C dX10_tellCubes_251 4 rfl rfl ?_
      obtain ⟨q19, hq19, h⟩ := ob h
      refine G_cV0 (pc' := 256) C dX10_tellCubes_253 (tX10_deeper κ l o r l3 l6 q19 hq19) (wV tw_ml_X10_180 tw_im_X10_deeper tw_se_X10_X10_deeper tw_in_X10 tw_co_X10_deeper) yd_X10_deeper rfl fi_X10 (RB_rd 0 rfl) rfl rfl (by decide) rfl (Nat.le_of_ble_eq_true rfl) rfl rfl ?_
      refine G_iconst (pc' := 257) (v := (1 : Int32)) C dX10_tellCubes_256 (by decide) rfl ?_
      refine G_iadd (pc' := 258) C dX10_tellCubes_257 rfl ?_
      refine G_aload_n (pc' := 259) C dX10_tellCubes_258 0 rfl rfl ?_
      refine R_g_depth (pc' := 262) C dX10_tellCubes_259 rfl ?_
      refine G_iload_n (pc' := 263) C dX10_tellCubes_262 3 rfl rfl ?_
      obtain ⟨v20, hv20, h⟩ := ob h
      refine R_l_depth (pc' := 264) C dX10_tellCubes_263 hv20 rfl ?_
      refine G_icmp_ge (tgt := 279) (pc' := 267) C dX10_tellCubes_264 (by decide) rfl (fun hc => ?_) (fun hc => ?_)
      · replace h := z_ip hc h
        refine G_aload_n (pc' := 280) C dX10_tellCubes_279 0 rfl rfl ?_
        refine R_g_depth (pc' := 283) C dX10_tellCubes_280 rfl ?_
        refine G_iload_n (pc' := 284) C dX10_tellCubes_283 3 rfl rfl ?_
        obtain ⟨v21, hv21, h⟩ := ob h
        refine R_l_depth (pc' := 285) C dX10_tellCubes_284 hv21 rfl ?_
        exact G_sub [0, 1, 2, 3, 4] rfl (J285 r l6 v21 l3 h)
      · replace h := z_in hc h
        refine G_aload_n (pc' := 268) C dX10_tellCubes_267 0 rfl rfl ?_
        refine G_iload_n (pc' := 269) C dX10_tellCubes_268 3 rfl rfl ?_
        refine G_iload (pc' := 271) C dX10_tellCubes_269 4 rfl rfl ?_
        obtain ⟨q28, hq28, h⟩ := ob h
        refine G_cV0 (pc' := 274) C dX10_tellCubes_271 (tX10_deeper κ l o r l3 l6 q28 hq28) (wV tw_ml_X10_180 tw_im_X10_deeper tw_se_X10_X10_deeper tw_in_X10 tw_co_X10_deeper) yd_X10_deeper rfl fi_X10 (RB_rd 0 rfl) rfl rfl (by decide) rfl (Nat.le_of_ble_eq_true rfl) rfl rfl ?_
        refine G_iconst (pc' := 275) (v := (1 : Int32)) C dX10_tellCubes_274 (by decide) rfl ?_
        refine G_iadd (pc' := 276) C dX10_tellCubes_275 rfl ?_
        refine G_goto (tgt := 285) C dX10_tellCubes_276 (by decide) ?_
        exact G_sub [0, 1, 2, 3, 4] rfl (J285 r l6 (q28 + (1 : Int32)) l3 h)
set_option maxHeartbeats 4000000 in
set_option maxRecDepth 100000 in
theorem tX10_tellCubes_L9 {κ : KK} {p : Program} {l : Launch} {e : Env} {s : State} {m : MethodId} {args : Array Value} {below : List Frame} {meth : Method} {c : Code} (C : Cx κ p s m args meth c cX10_tellCubes 8 RX10 none) {o : Nat} {v : Option Value} {B' : Heap → Prop} {r : RS} {l1 : Int32} {l2 : Int32} {l3 : Int32} {y : (Int32 × RS) ⊕ RS} (h : fX10_tellCubes_L9 r l1 l2 l3 = some y) (kc : ∀ u, y = .inl u → GR κ p l e s m args below meth c rmX10_tellCubes 8 o v B' u.2 9 [(0, .ref o), (1, .int l1), (2, .int l2), (3, .int u.1)] []) (kx : ∀ w, y = .inr w → GR κ p l e s m args below meth c rmX10_tellCubes 8 o v B' w 336 [] []) : GR κ p l e s m args below meth c rmX10_tellCubes 8 o v B' r 9 [(0, .ref o), (1, .int l1), (2, .int l2), (3, .int l3)] [] := by
  have J330 : ∀ (r : RS) (l3 : Int32), fX10_tellCubes_L9_J330 r l1 l2 l3 = some y → GR κ p l e s m args below meth c rmX10_tellCubes 8 o v B' r 330 [(0, .ref o), (1, .int l1), (2, .int l2), (3, .int l3)] [] := by
    intro r l3 h
    unfold fX10_tellCubes_L9_J330 at h
    refine G_iinc (pc' := 333) C dX10_tellCubes_330 3 rfl rfl [(3, .int (l3 + (1 : Int32))), (0, .ref o), (1, .int l1), (2, .int l2)] (by decide) rfl rfl ?_
    refine G_goto (tgt := 9) C dX10_tellCubes_333 (by decide) ?_
    exact G_sub [1, 2, 3, 0] rfl (kc _ (Option.some.inj h).symm)
  have J186 : ∀ (r : RS) (l3 : Int32), fX10_tellCubes_L9_J186 r l1 l2 l3 = some y → GR κ p l e s m args below meth c rmX10_tellCubes 8 o v B' r 186 [(0, .ref o), (1, .int l1), (2, .int l2), (3, .int l3)] [] := by
    intro r l3 h
    unfold fX10_tellCubes_L9_J186 at h
    refine G_aload_n (pc' := 187) C dX10_tellCubes_186 0 rfl rfl ?_
    refine R_g_depth (pc' := 190) C dX10_tellCubes_187 rfl ?_
    refine G_iload_n (pc' := 191) C dX10_tellCubes_190 3 rfl rfl ?_
    refine G_iconst (pc' := 192) (v := (0 : Int32)) C dX10_tellCubes_191 (by decide) rfl ?_
    obtain ⟨r13, hr13, h⟩ := ob h
    refine R_s_depth (pc' := 193) C dX10_tellCubes_192 hr13 rfl ?_
    refine G_aload_n (pc' := 194) C dX10_tellCubes_193 0 rfl rfl ?_
    refine R_g_sum (pc' := 197) C dX10_tellCubes_194 rfl ?_
    refine G_iload_n (pc' := 198) C dX10_tellCubes_197 3 rfl rfl ?_
    refine G_iconst (pc' := 199) (v := (0 : Int32)) C dX10_tellCubes_198 (by decide) rfl ?_
    obtain ⟨r14, hr14, h⟩ := ob h
    refine R_s_sum (pc' := 200) C dX10_tellCubes_199 hr14 rfl ?_
    refine G_aload_n (pc' := 201) C dX10_tellCubes_200 0 rfl rfl ?_
    refine G_iload_n (pc' := 202) C dX10_tellCubes_201 3 rfl rfl ?_
    obtain ⟨q15, hq15, h⟩ := ob h
    refine G_cV0 (pc' := 205) C dX10_tellCubes_202 (tX10_isSettled κ l o r14 l3 q15 hq15) (wV tw_ml_X10_176 tw_im_X10_isSettled tw_se_X10_X10_isSettled tw_in_X10 tw_co_X10_isSettled) yd_X10_isSettled rfl fi_X10 (RB_rd 0 rfl) rfl rfl (by decide) rfl (Nat.le_of_ble_eq_true rfl) rfl rfl ?_
    refine G_if_ne (tgt := 330) (pc' := 208) C dX10_tellCubes_205 (by decide) rfl (fun hc => ?_) (fun hc => ?_)
    · replace h := z_in hc h
      exact G_sub [0, 1, 2, 3] rfl (J330 r14 l3 h)
    · replace h := z_ip hc h
      refine G_aload_n (pc' := 209) C dX10_tellCubes_208 0 rfl rfl ?_
      refine R_g_depth (pc' := 212) C dX10_tellCubes_209 rfl ?_
      refine G_iload_n (pc' := 213) C dX10_tellCubes_212 3 rfl rfl ?_
      refine G_bipush (pc' := 215) (v := (100 : Int32)) C dX10_tellCubes_213 (by decide) rfl ?_
      obtain ⟨r16, hr16, h⟩ := ob h
      refine R_s_depth (pc' := 216) C dX10_tellCubes_215 hr16 rfl ?_
      refine G_aload_n (pc' := 217) C dX10_tellCubes_216 0 rfl rfl ?_
      refine R_g_sum (pc' := 220) C dX10_tellCubes_217 rfl ?_
      refine G_iload_n (pc' := 221) C dX10_tellCubes_220 3 rfl rfl ?_
      refine G_ldc (pc' := 223) C dX10_tellCubes_221 tw_k_X10_179 rfl ?_
      obtain ⟨r17, hr17, h⟩ := ob h
      refine R_s_sum (pc' := 224) C dX10_tellCubes_223 hr17 rfl ?_
      refine G_iconst (pc' := 225) (v := (0 : Int32)) C dX10_tellCubes_224 (by decide) rfl ?_
      refine G_istore (pc' := 227) C dX10_tellCubes_225 [(6, .int (0 : Int32)), (0, .ref o), (1, .int l1), (2, .int l2), (3, .int l3)] (by decide) rfl rfl ?_
      obtain ⟨e29, hle29, h⟩ := ob h
      refine G_sub (lv' := [(0, .ref o), (1, .int l1), (2, .int l2), (3, .int l3), (6, .int (0 : Int32))]) [1, 2, 3, 4, 0] rfl ?_
      refine lpN_ind (body := fun u => fX10_tellCubes_L227 u.2 l1 l2 l3 u.1) (P := fun u => GR κ p l e s m args below meth c rmX10_tellCubes 8 o v B' u.2 227 [(0, .ref o), (1, .int l1), (2, .int l2), (3, .int l3), (6, .int u.1)] []) (X := fun w => GR κ p l e s m args below meth c rmX10_tellCubes 8 o v B' w 330 [(0, .ref o), (1, .int l1), (2, .int l2), (3, .int l3)] []) (fun u y hb kc kx => tX10_tellCubes_L227 C hb kc kx) _ _ _ hle29 ?_
      exact G_sub [0, 1, 2, 3] rfl (J330 e29 l3 h)
  have J116 : ∀ (r : RS) (l3 : Int32) (s0 : Int32) (s1 : Int32), fX10_tellCubes_L9_J116 r l1 l2 l3 s0 s1 = some y → GR κ p l e s m args below meth c rmX10_tellCubes 8 o v B' r 116 [(0, .ref o), (1, .int l1), (2, .int l2), (3, .int l3)] [.int s0, .int s1, .ref (o + 13)] := by
    intro r l3 s0 s1 h
    unfold fX10_tellCubes_L9_J116 at h
    obtain ⟨r31, hr31, h⟩ := ob h
    refine R_s_has (pc' := 117) C dX10_tellCubes_116 hr31 rfl ?_
    refine G_aload_n (pc' := 118) C dX10_tellCubes_117 0 rfl rfl ?_
    refine R_g_wide (pc' := 121) C dX10_tellCubes_118 rfl ?_
    refine G_iload_n (pc' := 122) C dX10_tellCubes_121 3 rfl rfl ?_
    refine G_iconst (pc' := 123) (v := (1 : Int32)) C dX10_tellCubes_122 (by decide) rfl ?_
    obtain ⟨r32, hr32, h⟩ := ob h
    refine R_s_wide (pc' := 124) C dX10_tellCubes_123 hr32 rfl ?_
    refine G_goto (tgt := 186) C dX10_tellCubes_124 (by decide) ?_
    exact G_sub [0, 1, 2, 3] rfl (J186 r32 l3 h)
  unfold fX10_tellCubes_L9 at h
  refine G_iload_n (pc' := 10) C dX10_tellCubes_9 3 rfl rfl ?_
  refine G_aload_n (pc' := 11) C dX10_tellCubes_10 0 rfl rfl ?_
  refine R_g_power (pc' := 14) C dX10_tellCubes_11 rfl ?_
  refine G_iload_n (pc' := 15) C dX10_tellCubes_14 2 rfl rfl ?_
  obtain ⟨v2, hv2, h⟩ := ob h
  refine R_l_power (pc' := 16) C dX10_tellCubes_15 hv2 rfl ?_
  refine G_icmp_ge (tgt := 336) (pc' := 19) C dX10_tellCubes_16 (by decide) rfl (fun hc => ?_) (fun hc => ?_)
  · replace h := z_ip hc h
    exact G_sub [] rfl (kx _ (Option.some.inj h).symm)
  · replace h := z_in hc h
    refine G_iconst (pc' := 20) (v := (0 : Int32)) C dX10_tellCubes_19 (by decide) rfl ?_
    refine G_istore (pc' := 22) C dX10_tellCubes_20 [(4, .int (0 : Int32)), (0, .ref o), (1, .int l1), (2, .int l2), (3, .int l3)] (by decide) rfl rfl ?_
    refine G_iconst (pc' := 23) (v := (-1 : Int32)) C dX10_tellCubes_22 (by decide) rfl ?_
    refine G_istore (pc' := 25) C dX10_tellCubes_23 [(5, .int (-1 : Int32)), (4, .int (0 : Int32)), (0, .ref o), (1, .int l1), (2, .int l2), (3, .int l3)] (by decide) rfl rfl ?_
    refine G_iconst (pc' := 26) (v := (0 : Int32)) C dX10_tellCubes_25 (by decide) rfl ?_
    refine G_istore (pc' := 28) C dX10_tellCubes_26 [(6, .int (0 : Int32)), (5, .int (-1 : Int32)), (4, .int (0 : Int32)), (0, .ref o), (1, .int l1), (2, .int l2), (3, .int l3)] (by decide) rfl rfl ?_
    obtain ⟨e4, hle4, h⟩ := ob h
    refine G_sub (lv' := [(0, .ref o), (1, .int l1), (2, .int l2), (3, .int l3), (4, .int (0 : Int32)), (5, .int (-1 : Int32)), (6, .int (0 : Int32))]) [3, 4, 5, 6, 2, 1, 0] rfl ?_
    refine lpN_ind (body := fun u => fX10_tellCubes_L28 r l1 l2 l3 u.1 u.2.1 u.2.2) (P := fun u => GR κ p l e s m args below meth c rmX10_tellCubes 8 o v B' r 28 [(0, .ref o), (1, .int l1), (2, .int l2), (3, .int l3), (4, .int u.1), (5, .int u.2.1), (6, .int u.2.2)] []) (X := fun w => GR κ p l e s m args below meth c rmX10_tellCubes 8 o v B' r 83 [(0, .ref o), (1, .int l1), (2, .int l2), (3, .int l3), (4, .int w.1), (5, .int w.2)] []) (fun u y hb kc kx => tX10_tellCubes_L28 C hb kc kx) _ _ _ hle4 ?_
    refine G_iload (pc' := 85) C dX10_tellCubes_83 5 rfl rfl ?_
    refine G_if_ge (tgt := 127) (pc' := 88) C dX10_tellCubes_85 (by decide) rfl (fun hc => ?_) (fun hc => ?_)
    · replace h := z_ip hc h
      refine G_aload_n (pc' := 128) C dX10_tellCubes_127 0 rfl rfl ?_
      refine R_g_has (pc' := 131) C dX10_tellCubes_128 rfl ?_
      refine G_iload_n (pc' := 132) C dX10_tellCubes_131 3 rfl rfl ?_
      refine G_aload_n (pc' := 133) C dX10_tellCubes_132 0 rfl rfl ?_
      refine R_g_has (pc' := 136) C dX10_tellCubes_133 rfl ?_
      refine G_iload_n (pc' := 137) C dX10_tellCubes_136 3 rfl rfl ?_
      refine G_aload_n (pc' := 138) C dX10_tellCubes_137 0 rfl rfl ?_
      refine R_g_power (pc' := 141) C dX10_tellCubes_138 rfl ?_
      refine G_iload (pc' := 143) C dX10_tellCubes_141 5 rfl rfl ?_
      obtain ⟨v5, hv5, h⟩ := ob h
      refine R_l_power (pc' := 144) C dX10_tellCubes_143 hv5 rfl ?_
      refine G_isub (pc' := 145) C dX10_tellCubes_144 rfl ?_
      obtain ⟨v6, hv6, h⟩ := ob h
      refine R_l_has (pc' := 146) C dX10_tellCubes_145 hv6 rfl ?_
      refine G_aload_n (pc' := 147) C dX10_tellCubes_146 0 rfl rfl ?_
      refine R_g_has (pc' := 150) C dX10_tellCubes_147 rfl ?_
      refine G_iload_n (pc' := 151) C dX10_tellCubes_150 3 rfl rfl ?_
      refine G_iconst (pc' := 152) (v := (2 : Int32)) C dX10_tellCubes_151 (by decide) rfl ?_
      refine G_aload_n (pc' := 153) C dX10_tellCubes_152 0 rfl rfl ?_
      refine R_g_power (pc' := 156) C dX10_tellCubes_153 rfl ?_
      refine G_iload (pc' := 158) C dX10_tellCubes_156 5 rfl rfl ?_
      obtain ⟨v7, hv7, h⟩ := ob h
      refine R_l_power (pc' := 159) C dX10_tellCubes_158 hv7 rfl ?_
      refine G_imul (pc' := 160) C dX10_tellCubes_159 rfl ?_
      refine G_isub (pc' := 161) C dX10_tellCubes_160 rfl ?_
      obtain ⟨v8, hv8, h⟩ := ob h
      refine R_l_has (pc' := 162) C dX10_tellCubes_161 hv8 rfl ?_
      refine G_ior (pc' := 163) C dX10_tellCubes_162 rfl ?_
      obtain ⟨r9, hr9, h⟩ := ob h
      refine R_s_has (pc' := 164) C dX10_tellCubes_163 hr9 rfl ?_
      refine G_aload_n (pc' := 165) C dX10_tellCubes_164 0 rfl rfl ?_
      refine R_g_wide (pc' := 168) C dX10_tellCubes_165 rfl ?_
      refine G_iload_n (pc' := 169) C dX10_tellCubes_168 3 rfl rfl ?_
      refine G_iconst (pc' := 170) (v := (2 : Int32)) C dX10_tellCubes_169 (by decide) rfl ?_
      refine G_aload_n (pc' := 171) C dX10_tellCubes_170 0 rfl rfl ?_
      refine R_g_wide (pc' := 174) C dX10_tellCubes_171 rfl ?_
      refine G_iload_n (pc' := 175) C dX10_tellCubes_174 3 rfl rfl ?_
      refine G_aload_n (pc' := 176) C dX10_tellCubes_175 0 rfl rfl ?_
      refine R_g_power (pc' := 179) C dX10_tellCubes_176 rfl ?_
      refine G_iload (pc' := 181) C dX10_tellCubes_179 5 rfl rfl ?_
      obtain ⟨v10, hv10, h⟩ := ob h
      refine R_l_power (pc' := 182) C dX10_tellCubes_181 hv10 rfl ?_
      refine G_isub (pc' := 183) C dX10_tellCubes_182 rfl ?_
      obtain ⟨v11, hv11, h⟩ := ob h
      refine R_l_wide (pc' := 184) C dX10_tellCubes_183 hv11 rfl ?_
      refine G_imul (pc' := 185) C dX10_tellCubes_184 rfl ?_
      obtain ⟨r12, hr12, h⟩ := ob h
      refine R_s_wide (pc' := 186) C dX10_tellCubes_185 hr12 rfl ?_
      exact G_sub [0, 1, 2, 3] rfl (J186 r12 l3 h)
    · replace h := z_in hc h
      refine G_aload_n (pc' := 89) C dX10_tellCubes_88 0 rfl rfl ?_
      refine G_iload_n (pc' := 90) C dX10_tellCubes_89 1 rfl rfl ?_
      refine G_iload (pc' := 92) C dX10_tellCubes_90 4 rfl rfl ?_
      obtain ⟨q30, hq30, h⟩ := ob h
      refine G_cV0 (pc' := 95) C dX10_tellCubes_92 (tX10_say0 κ l o r l1 e4.1 q30 hq30) (wV tw_ml_X10_123 tw_im_X10_say0 tw_se_X10_X10_say0 tw_in_X10 tw_co_X10_say0) yd_X10_say0 rfl fi_X10 (RB_rd 0 rfl) rfl rfl (by decide) rfl (Nat.le_of_ble_eq_true rfl) rfl rfl ?_
      refine G_istore (pc' := 97) C dX10_tellCubes_95 [(6, .int q30), (0, .ref o), (1, .int l1), (2, .int l2), (3, .int l3), (4, .int e4.1), (5, .int e4.2)] (by decide) rfl rfl ?_
      refine G_aload_n (pc' := 98) C dX10_tellCubes_97 1 rfl rfl ?_
      refine R_g_has (pc' := 101) C dX10_tellCubes_98 rfl ?_
      refine G_iload_n (pc' := 102) C dX10_tellCubes_101 4 rfl rfl ?_
      refine G_iload (pc' := 104) C dX10_tellCubes_102 0 rfl rfl ?_
      refine G_iconst (pc' := 105) (v := (2 : Int32)) C dX10_tellCubes_104 (by decide) rfl ?_
      refine G_icmp_ne (tgt := 112) (pc' := 108) C dX10_tellCubes_105 (by decide) rfl (fun hc => ?_) (fun hc => ?_)
      · replace h := z_in hc h
        refine G_iconst (pc' := 113) (v := (1 : Int32)) C dX10_tellCubes_112 (by decide) rfl ?_
        refine G_iload (pc' := 115) C dX10_tellCubes_113 0 rfl rfl ?_
        refine G_ishl (pc' := 116) C dX10_tellCubes_115 rfl ?_
        exact G_sub [1, 2, 3, 4] rfl (J116 r l3 ((1 : Int32) <<< (q30 &&& 31)) l3 h)
      · replace h := z_ip hc h
        refine G_iconst (pc' := 109) (v := (0 : Int32)) C dX10_tellCubes_108 (by decide) rfl ?_
        refine G_goto (tgt := 116) C dX10_tellCubes_109 (by decide) ?_
        exact G_sub [1, 2, 3, 4] rfl (J116 r l3 (0 : Int32) l3 h)
set_option maxHeartbeats 4000000 in
set_option maxRecDepth 100000 in
theorem tX10_tellCubes (κ : KK) (l : Launch) (o : Nat) (r : RS) (a1 : Int32) (q : RS) (h : fX10_tellCubes r a1 = some q) : MM κ l yX10_tellCubes cX10_tellCubes 8 none rmX10_tellCubes (RA o) [.ref o, .int a1] (RB κ o r) none (RB κ o q) := by
  refine MM.of (by decide +kernel) (Nat.le_of_ble_eq_true rfl) ?_
  intro p e s m below meth c C hnm
  unfold fX10_tellCubes at h
  refine G_sub (lv' := [(0, .ref o), (1, .int a1)]) [0, 1] rfl ?_
  refine G_aload_n (pc' := 1) C dX10_tellCubes_0 0 rfl rfl ?_
  refine R_g_bits (pc' := 4) C dX10_tellCubes_1 rfl ?_
  refine G_iload_n (pc' := 5) C dX10_tellCubes_4 1 rfl rfl ?_
  obtain ⟨v1, hv1, h⟩ := ob h
  refine R_l_bits (pc' := 6) C dX10_tellCubes_5 hv1 rfl ?_
  refine G_istore_n (pc' := 7) C dX10_tellCubes_6 [(2, .int v1), (0, .ref o), (1, .int a1)] (by decide) rfl rfl ?_
  refine G_iconst (pc' := 8) (v := (0 : Int32)) C dX10_tellCubes_7 (by decide) rfl ?_
  refine G_istore_n (pc' := 9) C dX10_tellCubes_8 [(3, .int (0 : Int32)), (2, .int v1), (0, .ref o), (1, .int a1)] (by decide) rfl rfl ?_
  obtain ⟨e33, hle33, h⟩ := ob h
  refine G_sub (lv' := [(0, .ref o), (1, .int a1), (2, .int v1), (3, .int (0 : Int32))]) [2, 3, 1, 0] rfl ?_
  refine lpN_ind (body := fun u => fX10_tellCubes_L9 u.2 a1 v1 u.1) (P := fun u => GR κ p l e s m ([.ref o, .int a1] : List Value).toArray below meth c rmX10_tellCubes 8 o none (RB κ o q) u.2 9 [(0, .ref o), (1, .int a1), (2, .int v1), (3, .int u.1)] []) (X := fun w => GR κ p l e s m ([.ref o, .int a1] : List Value).toArray below meth c rmX10_tellCubes 8 o none (RB κ o q) w 336 [] []) (fun u y hb kc kx => tX10_tellCubes_L9 C hb kc kx) _ _ _ hle33 ?_
  obtain rfl := Option.some.inj h
  exact G_vret C dX10_tellCubes_336 (fun _ h => h)
theorem dX10_whole_0 : decode cX10_whole 0 = .ok (.aload_n 0, 1) := by decide +kernel
theorem dX10_whole_1 : decode cX10_whole 1 = .ok (.getfield 51, 3) := by decide +kernel
theorem dX10_whole_4 : decode cX10_whole 4 = .ok (.aload_n 0, 1) := by decide +kernel
theorem dX10_whole_5 : decode cX10_whole 5 = .ok (.getfield 7, 3) := by decide +kernel
theorem dX10_whole_8 : decode cX10_whole 8 = .ok (.iload_n 1, 1) := by decide +kernel
theorem dX10_whole_9 : decode cX10_whole 9 = .ok (.iaload, 1) := by decide +kernel
theorem dX10_whole_10 : decode cX10_whole 10 = .ok (.iaload, 1) := by decide +kernel
theorem dX10_whole_11 : decode cX10_whole 11 = .ok (.iconst 1, 1) := by decide +kernel
theorem dX10_whole_12 : decode cX10_whole 12 = .ok (.isub, 1) := by decide +kernel
theorem dX10_whole_13 : decode cX10_whole 13 = .ok (.ireturn, 1) := by decide +kernel
abbrev rmX10_whole : Room := { frames := 0, cells := 0, slots := 0, locals := 0 }
theorem yd_X10_whole : yX10_whole.cls = RX10 ∧ yX10_whole.cls ≠ "java/lang/invoke/MethodHandle" ∧ yX10_whole.cls ≠ "java/lang/invoke/VarHandle" ∧ (parseMethodDescriptor yX10_whole.desc).map (fun d => d.parameters.length) = some 1 := by decide +kernel
def fX10_whole (r : RS) (a1 : Int32) : Option (Int32) :=
  (aI 16 (r.2.1 0) a1).bind fun v1 =>
  (aI 9 (r.2.1 11) v1).bind fun v2 =>
  some (v2 - (1 : Int32))
set_option maxHeartbeats 4000000 in
set_option maxRecDepth 100000 in
theorem tX10_whole (κ : KK) (l : Launch) (o : Nat) (r : RS) (a1 : Int32) (q : Int32) (h : fX10_whole r a1 = some q) : MM κ l yX10_whole cX10_whole 2 (some .int) rmX10_whole (RA o) [.ref o, .int a1] (RB κ o r) (some (Value.int q)) (RB κ o r) := by
  refine MM.of (by decide +kernel) (Nat.le_of_ble_eq_true rfl) ?_
  intro p e s m below meth c C hnm
  unfold fX10_whole at h
  refine G_sub (lv' := [(0, .ref o), (1, .int a1)]) [0, 1] rfl ?_
  refine G_aload_n (pc' := 1) C dX10_whole_0 0 rfl rfl ?_
  refine R_g_power (pc' := 4) C dX10_whole_1 rfl ?_
  refine G_aload_n (pc' := 5) C dX10_whole_4 0 rfl rfl ?_
  refine R_g_bits (pc' := 8) C dX10_whole_5 rfl ?_
  refine G_iload_n (pc' := 9) C dX10_whole_8 1 rfl rfl ?_
  obtain ⟨v1, hv1, h⟩ := ob h
  refine R_l_bits (pc' := 10) C dX10_whole_9 hv1 rfl ?_
  obtain ⟨v2, hv2, h⟩ := ob h
  refine R_l_power (pc' := 11) C dX10_whole_10 hv2 rfl ?_
  refine G_iconst (pc' := 12) (v := (1 : Int32)) C dX10_whole_11 (by decide) rfl ?_
  refine G_isub (pc' := 13) C dX10_whole_12 rfl ?_
  obtain rfl := Option.some.inj h
  exact G_iret C dX10_whole_13 (fun _ h => h)
theorem dX10_depth_0 : decode cX10_depth 0 = .ok (.aload_n 0, 1) := by decide +kernel
theorem dX10_depth_1 : decode cX10_depth 1 = .ok (.iload_n 1, 1) := by decide +kernel
theorem dX10_depth_2 : decode cX10_depth 2 = .ok (.invokevirtual 127, 3) := by decide +kernel
theorem dX10_depth_5 : decode cX10_depth 5 = .ok (.istore_n 2, 1) := by decide +kernel
theorem dX10_depth_6 : decode cX10_depth 6 = .ok (.iload_n 2, 1) := by decide +kernel
theorem dX10_depth_7 : decode cX10_depth 7 = .ok (.ifCond .eq 9, 3) := by decide +kernel
theorem dX10_depth_10 : decode cX10_depth 10 = .ok (.aload_n 0, 1) := by decide +kernel
theorem dX10_depth_11 : decode cX10_depth 11 = .ok (.iload_n 2, 1) := by decide +kernel
theorem dX10_depth_12 : decode cX10_depth 12 = .ok (.invokevirtual 136, 3) := by decide +kernel
theorem dX10_depth_15 : decode cX10_depth 15 = .ok (.ireturn, 1) := by decide +kernel
theorem dX10_depth_16 : decode cX10_depth 16 = .ok (.aload_n 0, 1) := by decide +kernel
theorem dX10_depth_17 : decode cX10_depth 17 = .ok (.iload_n 1, 1) := by decide +kernel
theorem dX10_depth_18 : decode cX10_depth 18 = .ok (.invokevirtual 186, 3) := by decide +kernel
theorem dX10_depth_21 : decode cX10_depth 21 = .ok (.aload_n 0, 1) := by decide +kernel
theorem dX10_depth_22 : decode cX10_depth 22 = .ok (.getfield 57, 3) := by decide +kernel
theorem dX10_depth_25 : decode cX10_depth 25 = .ok (.aload_n 0, 1) := by decide +kernel
theorem dX10_depth_26 : decode cX10_depth 26 = .ok (.iload_n 1, 1) := by decide +kernel
theorem dX10_depth_27 : decode cX10_depth 27 = .ok (.invokevirtual 190, 3) := by decide +kernel
theorem dX10_depth_30 : decode cX10_depth 30 = .ok (.iaload, 1) := by decide +kernel
theorem dX10_depth_31 : decode cX10_depth 31 = .ok (.ireturn, 1) := by decide +kernel
abbrev rmX10_depth : Room := { frames := 2, cells := 0, slots := 0, locals := 51 }
theorem yd_X10_depth : yX10_depth.cls = RX10 ∧ yX10_depth.cls ≠ "java/lang/invoke/MethodHandle" ∧ yX10_depth.cls ≠ "java/lang/invoke/VarHandle" ∧ (parseMethodDescriptor yX10_depth.desc).map (fun d => d.parameters.length) = some 1 := by decide +kernel
def fX10_depth (r : RS) (a1 : Int32) : Option (Int32 × RS) :=
  (fX10_askPlace r a1).bind fun q1 =>
  if q1 = 0 then
    (fX10_tellCubes r a1).bind fun q2 =>
    (fX10_whole q2 a1).bind fun q3 =>
    (aI 6561 (q2.2.1 13) q3).bind fun v4 =>
    some (v4, q2)
  else
    (fX10_meet r q1).bind fun q5 =>
    some (q5.1, q5.2)
set_option maxHeartbeats 4000000 in
set_option maxRecDepth 100000 in
theorem tX10_depth (κ : KK) (l : Launch) (o : Nat) (r : RS) (a1 : Int32) (q : Int32 × RS) (h : fX10_depth r a1 = some q) : MM κ l yX10_depth cX10_depth 3 (some .int) rmX10_depth (RA o) [.ref o, .int a1] (RB κ o r) (some (Value.int q.1)) (RB κ o q.2) := by
  refine MM.of (by decide +kernel) (Nat.le_of_ble_eq_true rfl) ?_
  intro p e s m below meth c C hnm
  unfold fX10_depth at h
  refine G_sub (lv' := [(0, .ref o), (1, .int a1)]) [0, 1] rfl ?_
  refine G_aload_n (pc' := 1) C dX10_depth_0 0 rfl rfl ?_
  refine G_iload_n (pc' := 2) C dX10_depth_1 1 rfl rfl ?_
  obtain ⟨q1, hq1, h⟩ := ob h
  refine G_cV0 (pc' := 5) C dX10_depth_2 (tX10_askPlace κ l o r a1 q1 hq1) (wV tw_ml_X10_127 tw_im_X10_askPlace tw_se_X10_X10_askPlace tw_in_X10 tw_co_X10_askPlace) yd_X10_askPlace rfl fi_X10 (RB_rd 0 rfl) rfl rfl (by decide) rfl (Nat.le_of_ble_eq_true rfl) rfl rfl ?_
  refine G_istore_n (pc' := 6) C dX10_depth_5 [(2, .int q1), (0, .ref o), (1, .int a1)] (by decide) rfl rfl ?_
  refine G_iload_n (pc' := 7) C dX10_depth_6 0 rfl rfl ?_
  refine G_if_eq (tgt := 16) (pc' := 10) C dX10_depth_7 (by decide) rfl (fun hc => ?_) (fun hc => ?_)
  · replace h := z_ip hc h
    refine G_aload_n (pc' := 17) C dX10_depth_16 1 rfl rfl ?_
    refine G_iload_n (pc' := 18) C dX10_depth_17 2 rfl rfl ?_
    obtain ⟨q2, hq2, h⟩ := ob h
    refine G_cV0 (pc' := 21) C dX10_depth_18 (tX10_tellCubes κ l o r a1 q2 hq2) (wV tw_ml_X10_186 tw_im_X10_tellCubes tw_se_X10_X10_tellCubes tw_in_X10 tw_co_X10_tellCubes) yd_X10_tellCubes rfl fi_X10 (RB_rd 0 rfl) rfl rfl (by decide) rfl (Nat.le_of_ble_eq_true rfl) rfl rfl ?_
    refine G_aload_n (pc' := 22) C dX10_depth_21 1 rfl rfl ?_
    refine R_g_depth (pc' := 25) C dX10_depth_22 rfl ?_
    refine G_aload_n (pc' := 26) C dX10_depth_25 1 rfl rfl ?_
    refine G_iload_n (pc' := 27) C dX10_depth_26 2 rfl rfl ?_
    obtain ⟨q3, hq3, h⟩ := ob h
    refine G_cV0 (pc' := 30) C dX10_depth_27 (tX10_whole κ l o q2 a1 q3 hq3) (wV tw_ml_X10_190 tw_im_X10_whole tw_se_X10_X10_whole tw_in_X10 tw_co_X10_whole) yd_X10_whole rfl fi_X10 (RB_rd 0 rfl) rfl rfl (by decide) rfl (Nat.le_of_ble_eq_true rfl) rfl rfl ?_
    obtain ⟨v4, hv4, h⟩ := ob h
    refine R_l_depth (pc' := 31) C dX10_depth_30 hv4 rfl ?_
    obtain rfl := Option.some.inj h
    exact G_iret C dX10_depth_31 (fun _ h => h)
  · replace h := z_in hc h
    refine G_aload_n (pc' := 11) C dX10_depth_10 1 rfl rfl ?_
    refine G_iload_n (pc' := 12) C dX10_depth_11 0 rfl rfl ?_
    obtain ⟨q5, hq5, h⟩ := ob h
    refine G_cV0 (pc' := 15) C dX10_depth_12 (tX10_meet κ l o r q1 q5 hq5) (wV tw_ml_X10_136 tw_im_X10_meet tw_se_X10_X10_meet tw_in_X10 tw_co_X10_meet) yd_X10_meet rfl fi_X10 (RB_rd 0 rfl) rfl rfl (by decide) rfl (Nat.le_of_ble_eq_true rfl) rfl rfl ?_
    obtain rfl := Option.some.inj h
    exact G_iret C dX10_depth_15 (fun _ h => h)
theorem dX10_sum_0 : decode cX10_sum 0 = .ok (.aload_n 0, 1) := by decide +kernel
theorem dX10_sum_1 : decode cX10_sum 1 = .ok (.iload_n 1, 1) := by decide +kernel
theorem dX10_sum_2 : decode cX10_sum 2 = .ok (.invokevirtual 127, 3) := by decide +kernel
theorem dX10_sum_5 : decode cX10_sum 5 = .ok (.istore_n 2, 1) := by decide +kernel
theorem dX10_sum_6 : decode cX10_sum 6 = .ok (.iload_n 2, 1) := by decide +kernel
theorem dX10_sum_7 : decode cX10_sum 7 = .ok (.ifCond .eq 9, 3) := by decide +kernel
theorem dX10_sum_10 : decode cX10_sum 10 = .ok (.aload_n 0, 1) := by decide +kernel
theorem dX10_sum_11 : decode cX10_sum 11 = .ok (.iload_n 2, 1) := by decide +kernel
theorem dX10_sum_12 : decode cX10_sum 12 = .ok (.invokevirtual 136, 3) := by decide +kernel
theorem dX10_sum_15 : decode cX10_sum 15 = .ok (.ireturn, 1) := by decide +kernel
theorem dX10_sum_16 : decode cX10_sum 16 = .ok (.aload_n 0, 1) := by decide +kernel
theorem dX10_sum_17 : decode cX10_sum 17 = .ok (.iload_n 1, 1) := by decide +kernel
theorem dX10_sum_18 : decode cX10_sum 18 = .ok (.invokevirtual 186, 3) := by decide +kernel
theorem dX10_sum_21 : decode cX10_sum 21 = .ok (.aload_n 0, 1) := by decide +kernel
theorem dX10_sum_22 : decode cX10_sum 22 = .ok (.getfield 60, 3) := by decide +kernel
theorem dX10_sum_25 : decode cX10_sum 25 = .ok (.aload_n 0, 1) := by decide +kernel
theorem dX10_sum_26 : decode cX10_sum 26 = .ok (.iload_n 1, 1) := by decide +kernel
theorem dX10_sum_27 : decode cX10_sum 27 = .ok (.invokevirtual 190, 3) := by decide +kernel
theorem dX10_sum_30 : decode cX10_sum 30 = .ok (.iaload, 1) := by decide +kernel
theorem dX10_sum_31 : decode cX10_sum 31 = .ok (.ireturn, 1) := by decide +kernel
abbrev rmX10_sum : Room := { frames := 2, cells := 0, slots := 0, locals := 51 }
theorem yd_X10_sum : yX10_sum.cls = RX10 ∧ yX10_sum.cls ≠ "java/lang/invoke/MethodHandle" ∧ yX10_sum.cls ≠ "java/lang/invoke/VarHandle" ∧ (parseMethodDescriptor yX10_sum.desc).map (fun d => d.parameters.length) = some 1 := by decide +kernel
def fX10_sum (r : RS) (a1 : Int32) : Option (Int32 × RS) :=
  (fX10_askPlace r a1).bind fun q1 =>
  if q1 = 0 then
    (fX10_tellCubes r a1).bind fun q2 =>
    (fX10_whole q2 a1).bind fun q3 =>
    (aI 6561 (q2.2.1 14) q3).bind fun v4 =>
    some (v4, q2)
  else
    (fX10_meet r q1).bind fun q5 =>
    some (q5.1, q5.2)
set_option maxHeartbeats 4000000 in
set_option maxRecDepth 100000 in
theorem tX10_sum (κ : KK) (l : Launch) (o : Nat) (r : RS) (a1 : Int32) (q : Int32 × RS) (h : fX10_sum r a1 = some q) : MM κ l yX10_sum cX10_sum 3 (some .int) rmX10_sum (RA o) [.ref o, .int a1] (RB κ o r) (some (Value.int q.1)) (RB κ o q.2) := by
  refine MM.of (by decide +kernel) (Nat.le_of_ble_eq_true rfl) ?_
  intro p e s m below meth c C hnm
  unfold fX10_sum at h
  refine G_sub (lv' := [(0, .ref o), (1, .int a1)]) [0, 1] rfl ?_
  refine G_aload_n (pc' := 1) C dX10_sum_0 0 rfl rfl ?_
  refine G_iload_n (pc' := 2) C dX10_sum_1 1 rfl rfl ?_
  obtain ⟨q1, hq1, h⟩ := ob h
  refine G_cV0 (pc' := 5) C dX10_sum_2 (tX10_askPlace κ l o r a1 q1 hq1) (wV tw_ml_X10_127 tw_im_X10_askPlace tw_se_X10_X10_askPlace tw_in_X10 tw_co_X10_askPlace) yd_X10_askPlace rfl fi_X10 (RB_rd 0 rfl) rfl rfl (by decide) rfl (Nat.le_of_ble_eq_true rfl) rfl rfl ?_
  refine G_istore_n (pc' := 6) C dX10_sum_5 [(2, .int q1), (0, .ref o), (1, .int a1)] (by decide) rfl rfl ?_
  refine G_iload_n (pc' := 7) C dX10_sum_6 0 rfl rfl ?_
  refine G_if_eq (tgt := 16) (pc' := 10) C dX10_sum_7 (by decide) rfl (fun hc => ?_) (fun hc => ?_)
  · replace h := z_ip hc h
    refine G_aload_n (pc' := 17) C dX10_sum_16 1 rfl rfl ?_
    refine G_iload_n (pc' := 18) C dX10_sum_17 2 rfl rfl ?_
    obtain ⟨q2, hq2, h⟩ := ob h
    refine G_cV0 (pc' := 21) C dX10_sum_18 (tX10_tellCubes κ l o r a1 q2 hq2) (wV tw_ml_X10_186 tw_im_X10_tellCubes tw_se_X10_X10_tellCubes tw_in_X10 tw_co_X10_tellCubes) yd_X10_tellCubes rfl fi_X10 (RB_rd 0 rfl) rfl rfl (by decide) rfl (Nat.le_of_ble_eq_true rfl) rfl rfl ?_
    refine G_aload_n (pc' := 22) C dX10_sum_21 1 rfl rfl ?_
    refine R_g_sum (pc' := 25) C dX10_sum_22 rfl ?_
    refine G_aload_n (pc' := 26) C dX10_sum_25 1 rfl rfl ?_
    refine G_iload_n (pc' := 27) C dX10_sum_26 2 rfl rfl ?_
    obtain ⟨q3, hq3, h⟩ := ob h
    refine G_cV0 (pc' := 30) C dX10_sum_27 (tX10_whole κ l o q2 a1 q3 hq3) (wV tw_ml_X10_190 tw_im_X10_whole tw_se_X10_X10_whole tw_in_X10 tw_co_X10_whole) yd_X10_whole rfl fi_X10 (RB_rd 0 rfl) rfl rfl (by decide) rfl (Nat.le_of_ble_eq_true rfl) rfl rfl ?_
    obtain ⟨v4, hv4, h⟩ := ob h
    refine R_l_sum (pc' := 31) C dX10_sum_30 hv4 rfl ?_
    obtain rfl := Option.some.inj h
    exact G_iret C dX10_sum_31 (fun _ h => h)
  · replace h := z_in hc h
    refine G_aload_n (pc' := 11) C dX10_sum_10 1 rfl rfl ?_
    refine G_iload_n (pc' := 12) C dX10_sum_11 0 rfl rfl ?_
    obtain ⟨q5, hq5, h⟩ := ob h
    refine G_cV0 (pc' := 15) C dX10_sum_12 (tX10_meet κ l o r q1 q5 hq5) (wV tw_ml_X10_136 tw_im_X10_meet tw_se_X10_X10_meet tw_in_X10 tw_co_X10_meet) yd_X10_meet rfl fi_X10 (RB_rd 0 rfl) rfl rfl (by decide) rfl (Nat.le_of_ble_eq_true rfl) rfl rfl ?_
    obtain rfl := Option.some.inj h
    exact G_iret C dX10_sum_15 (fun _ h => h)
theorem dX10_lookedAt_0 : decode cX10_lookedAt 0 = .ok (.iconst 0, 1) := by decide +kernel
theorem dX10_lookedAt_1 : decode cX10_lookedAt 1 = .ok (.istore 4, 2) := by decide +kernel
theorem dX10_lookedAt_3 : decode cX10_lookedAt 3 = .ok (.iload 4, 2) := by decide +kernel
theorem dX10_lookedAt_5 : decode cX10_lookedAt 5 = .ok (.iload_n 2, 1) := by decide +kernel
theorem dX10_lookedAt_6 : decode cX10_lookedAt 6 = .ok (.if_icmp .ge 64, 3) := by decide +kernel
theorem dX10_lookedAt_9 : decode cX10_lookedAt 9 = .ok (.aload_n 0, 1) := by decide +kernel
theorem dX10_lookedAt_10 : decode cX10_lookedAt 10 = .ok (.iload_n 1, 1) := by decide +kernel
theorem dX10_lookedAt_11 : decode cX10_lookedAt 11 = .ok (.iload 4, 2) := by decide +kernel
theorem dX10_lookedAt_13 : decode cX10_lookedAt 13 = .ok (.invokevirtual 173, 3) := by decide +kernel
theorem dX10_lookedAt_16 : decode cX10_lookedAt 16 = .ok (.iconst 2, 1) := by decide +kernel
theorem dX10_lookedAt_17 : decode cX10_lookedAt 17 = .ok (.if_icmp .ne 47, 3) := by decide +kernel
theorem dX10_lookedAt_20 : decode cX10_lookedAt 20 = .ok (.iload_n 3, 1) := by decide +kernel
theorem dX10_lookedAt_21 : decode cX10_lookedAt 21 = .ok (.ifCond .ne 24, 3) := by decide +kernel
theorem dX10_lookedAt_24 : decode cX10_lookedAt 24 = .ok (.aload_n 0, 1) := by decide +kernel
theorem dX10_lookedAt_25 : decode cX10_lookedAt 25 = .ok (.iload_n 1, 1) := by decide +kernel
theorem dX10_lookedAt_26 : decode cX10_lookedAt 26 = .ok (.iload 4, 2) := by decide +kernel
theorem dX10_lookedAt_28 : decode cX10_lookedAt 28 = .ok (.invokevirtual 180, 3) := by decide +kernel
theorem dX10_lookedAt_31 : decode cX10_lookedAt 31 = .ok (.iconst 1, 1) := by decide +kernel
theorem dX10_lookedAt_32 : decode cX10_lookedAt 32 = .ok (.iadd, 1) := by decide +kernel
theorem dX10_lookedAt_33 : decode cX10_lookedAt 33 = .ok (.aload_n 0, 1) := by decide +kernel
theorem dX10_lookedAt_34 : decode cX10_lookedAt 34 = .ok (.getfield 57, 3) := by decide +kernel
theorem dX10_lookedAt_37 : decode cX10_lookedAt 37 = .ok (.iload_n 1, 1) := by decide +kernel
theorem dX10_lookedAt_38 : decode cX10_lookedAt 38 = .ok (.iaload, 1) := by decide +kernel
theorem dX10_lookedAt_39 : decode cX10_lookedAt 39 = .ok (.if_icmp .ne 25, 3) := by decide +kernel
theorem dX10_lookedAt_42 : decode cX10_lookedAt 42 = .ok (.goto 19, 3) := by decide +kernel
theorem dX10_lookedAt_45 : decode cX10_lookedAt 45 = .ok (.aload_n 0, 1) := by decide +kernel
theorem dX10_lookedAt_46 : decode cX10_lookedAt 46 = .ok (.iload_n 1, 1) := by decide +kernel
theorem dX10_lookedAt_47 : decode cX10_lookedAt 47 = .ok (.iload 4, 2) := by decide +kernel
theorem dX10_lookedAt_49 : decode cX10_lookedAt 49 = .ok (.invokevirtual 183, 3) := by decide +kernel
theorem dX10_lookedAt_52 : decode cX10_lookedAt 52 = .ok (.aload_n 0, 1) := by decide +kernel
theorem dX10_lookedAt_53 : decode cX10_lookedAt 53 = .ok (.getfield 60, 3) := by decide +kernel
theorem dX10_lookedAt_56 : decode cX10_lookedAt 56 = .ok (.iload_n 1, 1) := by decide +kernel
theorem dX10_lookedAt_57 : decode cX10_lookedAt 57 = .ok (.iaload, 1) := by decide +kernel
theorem dX10_lookedAt_58 : decode cX10_lookedAt 58 = .ok (.if_icmp .ne 6, 3) := by decide +kernel
theorem dX10_lookedAt_61 : decode cX10_lookedAt 61 = .ok (.iload 4, 2) := by decide +kernel
theorem dX10_lookedAt_63 : decode cX10_lookedAt 63 = .ok (.ireturn, 1) := by decide +kernel
theorem dX10_lookedAt_64 : decode cX10_lookedAt 64 = .ok (.iinc 4 1, 3) := by decide +kernel
theorem dX10_lookedAt_67 : decode cX10_lookedAt 67 = .ok (.goto (-64), 3) := by decide +kernel
theorem dX10_lookedAt_70 : decode cX10_lookedAt 70 = .ok (.iconst (-1), 1) := by decide +kernel
theorem dX10_lookedAt_71 : decode cX10_lookedAt 71 = .ok (.ireturn, 1) := by decide +kernel
abbrev rmX10_lookedAt : Room := { frames := 1, cells := 0, slots := 0, locals := 24 }
theorem yd_X10_lookedAt : yX10_lookedAt.cls = RX10 ∧ yX10_lookedAt.cls ≠ "java/lang/invoke/MethodHandle" ∧ yX10_lookedAt.cls ≠ "java/lang/invoke/VarHandle" ∧ (parseMethodDescriptor yX10_lookedAt.desc).map (fun d => d.parameters.length) = some 3 := by decide +kernel
def fX10_lookedAt_L3_J64 (r : RS) (l1 : Int32) (l2 : Int32) (l3 : Int32) (l4 : Int32) : Option (Int32 ⊕ (Unit ⊕ Int32)) :=
  some (.inl (l4 + (1 : Int32)))
def fX10_lookedAt_L3_J61 (r : RS) (l4 : Int32) : Option (Int32 ⊕ (Unit ⊕ Int32)) :=
  some (.inr (.inr l4))
def fX10_lookedAt_L3 (r : RS) (l1 : Int32) (l2 : Int32) (l3 : Int32) (l4 : Int32) : Option (Int32 ⊕ (Unit ⊕ Int32)) :=
  if l2 ≤ l4 then
    some (.inr (.inl ()))
  else
    (fX10_digit r l1 l4).bind fun q1 =>
    if q1 = (2 : Int32) then
      if l3 = 0 then
        (fX10_deeper r l1 l4).bind fun q4 =>
        (aI 6561 (r.2.1 13) l1).bind fun v5 =>
        if (q4 + (1 : Int32)) = v5 then
          fX10_lookedAt_L3_J61 r l4
        else
          fX10_lookedAt_L3_J64 r l1 l2 l3 l4
      else
        (fX10_sums r l1 l4).bind fun q2 =>
        (aI 6561 (r.2.1 14) l1).bind fun v3 =>
        if q2 = v3 then
          fX10_lookedAt_L3_J61 r l4
        else
          fX10_lookedAt_L3_J64 r l1 l2 l3 l4
    else
      fX10_lookedAt_L3_J64 r l1 l2 l3 l4
def fX10_lookedAt (r : RS) (a1 : Int32) (a2 : Int32) (a3 : Int32) : Option (Int32) :=
  (lpN (fun u => fX10_lookedAt_L3 r a1 a2 a3 u) bigN (0 : Int32)).bind fun e6 =>
  sel e6 (fun x7 =>
    some (-1 : Int32)
    ) (fun rt => some rt)
set_option maxHeartbeats 4000000 in
set_option maxRecDepth 100000 in
theorem tX10_lookedAt_L3 {κ : KK} {p : Program} {l : Launch} {e : Env} {s : State} {m : MethodId} {args : Array Value} {below : List Frame} {meth : Method} {c : Code} (C : Cx κ p s m args meth c cX10_lookedAt 5 RX10 (some .int)) {o : Nat} {v : Option Value} {B' : Heap → Prop} {r : RS} {l1 : Int32} {l2 : Int32} {l3 : Int32} {l4 : Int32} {y : Int32 ⊕ (Unit ⊕ Int32)} (h : fX10_lookedAt_L3 r l1 l2 l3 l4 = some y) (kc : ∀ u, y = .inl u → GR κ p l e s m args below meth c rmX10_lookedAt 5 o v B' r 3 [(0, .ref o), (1, .int l1), (2, .int l2), (3, .int l3), (4, .int u)] []) (kx : ∀ w, y = .inr w → (∀ x, w = .inl x → GR κ p l e s m args below meth c rmX10_lookedAt 5 o v B' r 70 [] []) ∧ (∀ rt, w = .inr rt → v = (some (Value.int rt)) ∧ B' = (RB κ o r))) : GR κ p l e s m args below meth c rmX10_lookedAt 5 o v B' r 3 [(0, .ref o), (1, .int l1), (2, .int l2), (3, .int l3), (4, .int l4)] [] := by
  have J64 : ∀ (l4 : Int32), fX10_lookedAt_L3_J64 r l1 l2 l3 l4 = some y → GR κ p l e s m args below meth c rmX10_lookedAt 5 o v B' r 64 [(0, .ref o), (1, .int l1), (2, .int l2), (3, .int l3), (4, .int l4)] [] := by
    intro l4 h
    unfold fX10_lookedAt_L3_J64 at h
    refine G_iinc (pc' := 67) C dX10_lookedAt_64 4 rfl rfl [(4, .int (l4 + (1 : Int32))), (0, .ref o), (1, .int l1), (2, .int l2), (3, .int l3)] (by decide) rfl rfl ?_
    refine G_goto (tgt := 3) C dX10_lookedAt_67 (by decide) ?_
    exact G_sub [1, 2, 3, 4, 0] rfl (kc _ (Option.some.inj h).symm)
  have J61 : ∀ (l4 : Int32), fX10_lookedAt_L3_J61 r l4 = some y → GR κ p l e s m args below meth c rmX10_lookedAt 5 o v B' r 61 [(4, .int l4)] [] := by
    intro l4 h
    unfold fX10_lookedAt_L3_J61 at h
    refine G_iload (pc' := 63) C dX10_lookedAt_61 0 rfl rfl ?_
    obtain ⟨hv, hB⟩ := (kx _ (Option.some.inj h).symm).2 _ rfl
    subst hv
    subst hB
    exact G_iret C dX10_lookedAt_63 (fun _ h => h)
  unfold fX10_lookedAt_L3 at h
  refine G_iload (pc' := 5) C dX10_lookedAt_3 4 rfl rfl ?_
  refine G_iload_n (pc' := 6) C dX10_lookedAt_5 2 rfl rfl ?_
  refine G_icmp_ge (tgt := 70) (pc' := 9) C dX10_lookedAt_6 (by decide) rfl (fun hc => ?_) (fun hc => ?_)
  · replace h := z_ip hc h
    exact G_sub [] rfl ((kx _ (Option.some.inj h).symm).1 _ rfl)
  · replace h := z_in hc h
    refine G_aload_n (pc' := 10) C dX10_lookedAt_9 0 rfl rfl ?_
    refine G_iload_n (pc' := 11) C dX10_lookedAt_10 1 rfl rfl ?_
    refine G_iload (pc' := 13) C dX10_lookedAt_11 4 rfl rfl ?_
    obtain ⟨q1, hq1, h⟩ := ob h
    refine G_cV0 (pc' := 16) C dX10_lookedAt_13 (tX10_digit κ l o r l1 l4 q1 hq1) (wV tw_ml_X10_173 tw_im_X10_digit tw_se_X10_X10_digit tw_in_X10 tw_co_X10_digit) yd_X10_digit rfl fi_X10 (RB_rd 0 rfl) rfl rfl (by decide) rfl (Nat.le_of_ble_eq_true rfl) rfl rfl ?_
    refine G_iconst (pc' := 17) (v := (2 : Int32)) C dX10_lookedAt_16 (by decide) rfl ?_
    refine G_icmp_ne (tgt := 64) (pc' := 20) C dX10_lookedAt_17 (by decide) rfl (fun hc => ?_) (fun hc => ?_)
    · replace h := z_in hc h
      exact G_sub [0, 1, 2, 3, 4] rfl (J64 l4 h)
    · replace h := z_ip hc h
      refine G_iload_n (pc' := 21) C dX10_lookedAt_20 3 rfl rfl ?_
      refine G_if_ne (tgt := 45) (pc' := 24) C dX10_lookedAt_21 (by decide) rfl (fun hc => ?_) (fun hc => ?_)
      · replace h := z_in hc h
        refine G_aload_n (pc' := 46) C dX10_lookedAt_45 0 rfl rfl ?_
        refine G_iload_n (pc' := 47) C dX10_lookedAt_46 1 rfl rfl ?_
        refine G_iload (pc' := 49) C dX10_lookedAt_47 4 rfl rfl ?_
        obtain ⟨q2, hq2, h⟩ := ob h
        refine G_cV0 (pc' := 52) C dX10_lookedAt_49 (tX10_sums κ l o r l1 l4 q2 hq2) (wV tw_ml_X10_183 tw_im_X10_sums tw_se_X10_X10_sums tw_in_X10 tw_co_X10_sums) yd_X10_sums rfl fi_X10 (RB_rd 0 rfl) rfl rfl (by decide) rfl (Nat.le_of_ble_eq_true rfl) rfl rfl ?_
        refine G_aload_n (pc' := 53) C dX10_lookedAt_52 0 rfl rfl ?_
        refine R_g_sum (pc' := 56) C dX10_lookedAt_53 rfl ?_
        refine G_iload_n (pc' := 57) C dX10_lookedAt_56 1 rfl rfl ?_
        obtain ⟨v3, hv3, h⟩ := ob h
        refine R_l_sum (pc' := 58) C dX10_lookedAt_57 hv3 rfl ?_
        refine G_icmp_ne (tgt := 64) (pc' := 61) C dX10_lookedAt_58 (by decide) rfl (fun hc => ?_) (fun hc => ?_)
        · replace h := z_in hc h
          exact G_sub [0, 1, 2, 3, 4] rfl (J64 l4 h)
        · replace h := z_ip hc h
          exact G_sub [4] rfl (J61 l4 h)
      · replace h := z_ip hc h
        refine G_aload_n (pc' := 25) C dX10_lookedAt_24 0 rfl rfl ?_
        refine G_iload_n (pc' := 26) C dX10_lookedAt_25 1 rfl rfl ?_
        refine G_iload (pc' := 28) C dX10_lookedAt_26 4 rfl rfl ?_
        obtain ⟨q4, hq4, h⟩ := ob h
        refine G_cV0 (pc' := 31) C dX10_lookedAt_28 (tX10_deeper κ l o r l1 l4 q4 hq4) (wV tw_ml_X10_180 tw_im_X10_deeper tw_se_X10_X10_deeper tw_in_X10 tw_co_X10_deeper) yd_X10_deeper rfl fi_X10 (RB_rd 0 rfl) rfl rfl (by decide) rfl (Nat.le_of_ble_eq_true rfl) rfl rfl ?_
        refine G_iconst (pc' := 32) (v := (1 : Int32)) C dX10_lookedAt_31 (by decide) rfl ?_
        refine G_iadd (pc' := 33) C dX10_lookedAt_32 rfl ?_
        refine G_aload_n (pc' := 34) C dX10_lookedAt_33 0 rfl rfl ?_
        refine R_g_depth (pc' := 37) C dX10_lookedAt_34 rfl ?_
        refine G_iload_n (pc' := 38) C dX10_lookedAt_37 1 rfl rfl ?_
        obtain ⟨v5, hv5, h⟩ := ob h
        refine R_l_depth (pc' := 39) C dX10_lookedAt_38 hv5 rfl ?_
        refine G_icmp_ne (tgt := 64) (pc' := 42) C dX10_lookedAt_39 (by decide) rfl (fun hc => ?_) (fun hc => ?_)
        · replace h := z_in hc h
          exact G_sub [0, 1, 2, 3, 4] rfl (J64 l4 h)
        · replace h := z_ip hc h
          refine G_goto (tgt := 61) C dX10_lookedAt_42 (by decide) ?_
          exact G_sub [4] rfl (J61 l4 h)
set_option maxHeartbeats 4000000 in
set_option maxRecDepth 100000 in
theorem tX10_lookedAt (κ : KK) (l : Launch) (o : Nat) (r : RS) (a1 : Int32) (a2 : Int32) (a3 : Int32) (q : Int32) (h : fX10_lookedAt r a1 a2 a3 = some q) : MM κ l yX10_lookedAt cX10_lookedAt 5 (some .int) rmX10_lookedAt (RA o) [.ref o, .int a1, .int a2, .int a3] (RB κ o r) (some (Value.int q)) (RB κ o r) := by
  refine MM.of (by decide +kernel) (Nat.le_of_ble_eq_true rfl) ?_
  intro p e s m below meth c C hnm
  unfold fX10_lookedAt at h
  refine G_sub (lv' := [(0, .ref o), (1, .int a1), (2, .int a2), (3, .int a3)]) [0, 1, 2, 3] rfl ?_
  refine G_iconst (pc' := 1) (v := (0 : Int32)) C dX10_lookedAt_0 (by decide) rfl ?_
  refine G_istore (pc' := 3) C dX10_lookedAt_1 [(4, .int (0 : Int32)), (0, .ref o), (1, .int a1), (2, .int a2), (3, .int a3)] (by decide) rfl rfl ?_
  obtain ⟨e6, hle6, h⟩ := ob h
  refine G_sub (lv' := [(0, .ref o), (1, .int a1), (2, .int a2), (3, .int a3), (4, .int (0 : Int32))]) [1, 2, 3, 4, 0] rfl ?_
  refine lpN_ind (body := fun u => fX10_lookedAt_L3 r a1 a2 a3 u) (P := fun u => GR κ p l e s m ([.ref o, .int a1, .int a2, .int a3] : List Value).toArray below meth c rmX10_lookedAt 5 o (some (Value.int q)) (RB κ o r) r 3 [(0, .ref o), (1, .int a1), (2, .int a2), (3, .int a3), (4, .int u)] []) (X := fun w => (∀ x, w = .inl x → GR κ p l e s m ([.ref o, .int a1, .int a2, .int a3] : List Value).toArray below meth c rmX10_lookedAt 5 o (some (Value.int q)) (RB κ o r) r 70 [] []) ∧ (∀ rt, w = .inr rt → (some (Value.int q)) = (some (Value.int rt)) ∧ (RB κ o r) = (RB κ o r))) (fun u y hb kc kx => tX10_lookedAt_L3 C hb kc kx) _ _ _ hle6 ?_
  refine ⟨fun x7 hxx7 => ?_, fun rt hrt => ?_⟩
  · subst hxx7
    replace h := z_sl h
    refine G_iconst (pc' := 71) (v := (-1 : Int32)) C dX10_lookedAt_70 (by decide) rfl ?_
    obtain rfl := Option.some.inj h
    exact G_iret C dX10_lookedAt_71 (fun _ h => h)
  · subst hrt
    replace h := z_sr h
    obtain rfl := Option.some.inj h
    exact ⟨rfl, rfl⟩
theorem dX10_tree_0 : decode cX10_tree 0 = .ok (.iload_n 1, 1) := by decide +kernel
theorem dX10_tree_1 : decode cX10_tree 1 = .ok (.invokestatic 115, 3) := by decide +kernel
theorem dX10_tree_4 : decode cX10_tree 4 = .ok (.ifCond .eq 12, 3) := by decide +kernel
theorem dX10_tree_7 : decode cX10_tree 7 = .ok (.iload_n 2, 1) := by decide +kernel
theorem dX10_tree_8 : decode cX10_tree 8 = .ok (.ifCond .lt 8, 3) := by decide +kernel
theorem dX10_tree_11 : decode cX10_tree 11 = .ok (.iload_n 2, 1) := by decide +kernel
theorem dX10_tree_12 : decode cX10_tree 12 = .ok (.iconst 1, 1) := by decide +kernel
theorem dX10_tree_13 : decode cX10_tree 13 = .ok (.if_icmp .le 6, 3) := by decide +kernel
theorem dX10_tree_16 : decode cX10_tree 16 = .ok (.bipush (-2), 2) := by decide +kernel
theorem dX10_tree_18 : decode cX10_tree 18 = .ok (.ireturn, 1) := by decide +kernel
theorem dX10_tree_19 : decode cX10_tree 19 = .ok (.aload_n 0, 1) := by decide +kernel
theorem dX10_tree_20 : decode cX10_tree 20 = .ok (.getfield 7, 3) := by decide +kernel
theorem dX10_tree_23 : decode cX10_tree 23 = .ok (.iload_n 1, 1) := by decide +kernel
theorem dX10_tree_24 : decode cX10_tree 24 = .ok (.iaload, 1) := by decide +kernel
theorem dX10_tree_25 : decode cX10_tree 25 = .ok (.ifCond .ne 10, 3) := by decide +kernel
theorem dX10_tree_28 : decode cX10_tree 28 = .ok (.aload_n 0, 1) := by decide +kernel
theorem dX10_tree_29 : decode cX10_tree 29 = .ok (.bipush (-10), 2) := by decide +kernel
theorem dX10_tree_31 : decode cX10_tree 31 = .ok (.invokevirtual 136, 3) := by decide +kernel
theorem dX10_tree_34 : decode cX10_tree 34 = .ok (.ireturn, 1) := by decide +kernel
theorem dX10_tree_35 : decode cX10_tree 35 = .ok (.aload_n 0, 1) := by decide +kernel
theorem dX10_tree_36 : decode cX10_tree 36 = .ok (.iload_n 1, 1) := by decide +kernel
theorem dX10_tree_37 : decode cX10_tree 37 = .ok (.invokevirtual 186, 3) := by decide +kernel
theorem dX10_tree_40 : decode cX10_tree 40 = .ok (.aload_n 0, 1) := by decide +kernel
theorem dX10_tree_41 : decode cX10_tree 41 = .ok (.iconst 0, 1) := by decide +kernel
theorem dX10_tree_42 : decode cX10_tree 42 = .ok (.putfield 193, 3) := by decide +kernel
theorem dX10_tree_45 : decode cX10_tree 45 = .ok (.iconst 1, 1) := by decide +kernel
theorem dX10_tree_46 : decode cX10_tree 46 = .ok (.istore_n 3, 1) := by decide +kernel
theorem dX10_tree_47 : decode cX10_tree 47 = .ok (.aload_n 0, 1) := by decide +kernel
theorem dX10_tree_48 : decode cX10_tree 48 = .ok (.getfield 78, 3) := by decide +kernel
theorem dX10_tree_51 : decode cX10_tree 51 = .ok (.iconst 0, 1) := by decide +kernel
theorem dX10_tree_52 : decode cX10_tree 52 = .ok (.aload_n 0, 1) := by decide +kernel
theorem dX10_tree_53 : decode cX10_tree 53 = .ok (.iload_n 1, 1) := by decide +kernel
theorem dX10_tree_54 : decode cX10_tree 54 = .ok (.invokevirtual 190, 3) := by decide +kernel
theorem dX10_tree_57 : decode cX10_tree 57 = .ok (.iastore, 1) := by decide +kernel
theorem dX10_tree_58 : decode cX10_tree 58 = .ok (.aload_n 0, 1) := by decide +kernel
theorem dX10_tree_59 : decode cX10_tree 59 = .ok (.getfield 81, 3) := by decide +kernel
theorem dX10_tree_62 : decode cX10_tree 62 = .ok (.iconst 0, 1) := by decide +kernel
theorem dX10_tree_63 : decode cX10_tree 63 = .ok (.iconst 0, 1) := by decide +kernel
theorem dX10_tree_64 : decode cX10_tree 64 = .ok (.iastore, 1) := by decide +kernel
theorem dX10_tree_65 : decode cX10_tree 65 = .ok (.aload_n 0, 1) := by decide +kernel
theorem dX10_tree_66 : decode cX10_tree 66 = .ok (.getfield 84, 3) := by decide +kernel
theorem dX10_tree_69 : decode cX10_tree 69 = .ok (.iconst 0, 1) := by decide +kernel
theorem dX10_tree_70 : decode cX10_tree 70 = .ok (.iconst (-1), 1) := by decide +kernel
theorem dX10_tree_71 : decode cX10_tree 71 = .ok (.iastore, 1) := by decide +kernel
theorem dX10_tree_72 : decode cX10_tree 72 = .ok (.iload_n 3, 1) := by decide +kernel
theorem dX10_tree_73 : decode cX10_tree 73 = .ok (.ifCond .le 253, 3) := by decide +kernel
theorem dX10_tree_76 : decode cX10_tree 76 = .ok (.iinc 3 (-1), 3) := by decide +kernel
theorem dX10_tree_79 : decode cX10_tree 79 = .ok (.aload_n 0, 1) := by decide +kernel
theorem dX10_tree_80 : decode cX10_tree 80 = .ok (.getfield 78, 3) := by decide +kernel
theorem dX10_tree_83 : decode cX10_tree 83 = .ok (.iload_n 3, 1) := by decide +kernel
theorem dX10_tree_84 : decode cX10_tree 84 = .ok (.iaload, 1) := by decide +kernel
theorem dX10_tree_85 : decode cX10_tree 85 = .ok (.istore 4, 2) := by decide +kernel
theorem dX10_tree_87 : decode cX10_tree 87 = .ok (.aload_n 0, 1) := by decide +kernel
theorem dX10_tree_88 : decode cX10_tree 88 = .ok (.getfield 81, 3) := by decide +kernel
theorem dX10_tree_91 : decode cX10_tree 91 = .ok (.iload_n 3, 1) := by decide +kernel
theorem dX10_tree_92 : decode cX10_tree 92 = .ok (.iaload, 1) := by decide +kernel
theorem dX10_tree_93 : decode cX10_tree 93 = .ok (.istore 5, 2) := by decide +kernel
theorem dX10_tree_95 : decode cX10_tree 95 = .ok (.aload_n 0, 1) := by decide +kernel
theorem dX10_tree_96 : decode cX10_tree 96 = .ok (.getfield 193, 3) := by decide +kernel
theorem dX10_tree_99 : decode cX10_tree 99 = .ok (.istore 6, 2) := by decide +kernel
theorem dX10_tree_101 : decode cX10_tree 101 = .ok (.aload_n 0, 1) := by decide +kernel
theorem dX10_tree_102 : decode cX10_tree 102 = .ok (.dup, 1) := by decide +kernel
theorem dX10_tree_103 : decode cX10_tree 103 = .ok (.getfield 193, 3) := by decide +kernel
theorem dX10_tree_106 : decode cX10_tree 106 = .ok (.iconst 1, 1) := by decide +kernel
theorem dX10_tree_107 : decode cX10_tree 107 = .ok (.iadd, 1) := by decide +kernel
theorem dX10_tree_108 : decode cX10_tree 108 = .ok (.putfield 193, 3) := by decide +kernel
theorem dX10_tree_111 : decode cX10_tree 111 = .ok (.aload_n 0, 1) := by decide +kernel
theorem dX10_tree_112 : decode cX10_tree 112 = .ok (.getfield 84, 3) := by decide +kernel
theorem dX10_tree_115 : decode cX10_tree 115 = .ok (.iload_n 3, 1) := by decide +kernel
theorem dX10_tree_116 : decode cX10_tree 116 = .ok (.iaload, 1) := by decide +kernel
theorem dX10_tree_117 : decode cX10_tree 117 = .ok (.ifCond .lt 41, 3) := by decide +kernel
theorem dX10_tree_120 : decode cX10_tree 120 = .ok (.aload_n 0, 1) := by decide +kernel
theorem dX10_tree_121 : decode cX10_tree 121 = .ok (.getfield 87, 3) := by decide +kernel
theorem dX10_tree_124 : decode cX10_tree 124 = .ok (.iload_n 3, 1) := by decide +kernel
theorem dX10_tree_125 : decode cX10_tree 125 = .ok (.iaload, 1) := by decide +kernel
theorem dX10_tree_126 : decode cX10_tree 126 = .ok (.ifCond .ne 19, 3) := by decide +kernel
theorem dX10_tree_129 : decode cX10_tree 129 = .ok (.aload_n 0, 1) := by decide +kernel
theorem dX10_tree_130 : decode cX10_tree 130 = .ok (.getfield 72, 3) := by decide +kernel
theorem dX10_tree_133 : decode cX10_tree 133 = .ok (.aload_n 0, 1) := by decide +kernel
theorem dX10_tree_134 : decode cX10_tree 134 = .ok (.getfield 84, 3) := by decide +kernel
theorem dX10_tree_137 : decode cX10_tree 137 = .ok (.iload_n 3, 1) := by decide +kernel
theorem dX10_tree_138 : decode cX10_tree 138 = .ok (.iaload, 1) := by decide +kernel
theorem dX10_tree_139 : decode cX10_tree 139 = .ok (.iload 6, 2) := by decide +kernel
theorem dX10_tree_141 : decode cX10_tree 141 = .ok (.iastore, 1) := by decide +kernel
theorem dX10_tree_142 : decode cX10_tree 142 = .ok (.goto 16, 3) := by decide +kernel
theorem dX10_tree_145 : decode cX10_tree 145 = .ok (.aload_n 0, 1) := by decide +kernel
theorem dX10_tree_146 : decode cX10_tree 146 = .ok (.getfield 75, 3) := by decide +kernel
theorem dX10_tree_149 : decode cX10_tree 149 = .ok (.aload_n 0, 1) := by decide +kernel
theorem dX10_tree_150 : decode cX10_tree 150 = .ok (.getfield 84, 3) := by decide +kernel
theorem dX10_tree_153 : decode cX10_tree 153 = .ok (.iload_n 3, 1) := by decide +kernel
theorem dX10_tree_154 : decode cX10_tree 154 = .ok (.iaload, 1) := by decide +kernel
theorem dX10_tree_155 : decode cX10_tree 155 = .ok (.iload 6, 2) := by decide +kernel
theorem dX10_tree_157 : decode cX10_tree 157 = .ok (.iastore, 1) := by decide +kernel
theorem dX10_tree_158 : decode cX10_tree 158 = .ok (.aload_n 0, 1) := by decide +kernel
theorem dX10_tree_159 : decode cX10_tree 159 = .ok (.getfield 69, 3) := by decide +kernel
theorem dX10_tree_162 : decode cX10_tree 162 = .ok (.iload 6, 2) := by decide +kernel
theorem dX10_tree_164 : decode cX10_tree 164 = .ok (.iload 5, 2) := by decide +kernel
theorem dX10_tree_166 : decode cX10_tree 166 = .ok (.iastore, 1) := by decide +kernel
theorem dX10_tree_167 : decode cX10_tree 167 = .ok (.aload_n 0, 1) := by decide +kernel
theorem dX10_tree_168 : decode cX10_tree 168 = .ok (.getfield 72, 3) := by decide +kernel
theorem dX10_tree_171 : decode cX10_tree 171 = .ok (.iload 6, 2) := by decide +kernel
theorem dX10_tree_173 : decode cX10_tree 173 = .ok (.iconst (-1), 1) := by decide +kernel
theorem dX10_tree_174 : decode cX10_tree 174 = .ok (.iastore, 1) := by decide +kernel
theorem dX10_tree_175 : decode cX10_tree 175 = .ok (.aload_n 0, 1) := by decide +kernel
theorem dX10_tree_176 : decode cX10_tree 176 = .ok (.getfield 75, 3) := by decide +kernel
theorem dX10_tree_179 : decode cX10_tree 179 = .ok (.iload 6, 2) := by decide +kernel
theorem dX10_tree_181 : decode cX10_tree 181 = .ok (.iconst (-1), 1) := by decide +kernel
theorem dX10_tree_182 : decode cX10_tree 182 = .ok (.iastore, 1) := by decide +kernel
theorem dX10_tree_183 : decode cX10_tree 183 = .ok (.aload_n 0, 1) := by decide +kernel
theorem dX10_tree_184 : decode cX10_tree 184 = .ok (.iload 4, 2) := by decide +kernel
theorem dX10_tree_186 : decode cX10_tree 186 = .ok (.invokevirtual 176, 3) := by decide +kernel
theorem dX10_tree_189 : decode cX10_tree 189 = .ok (.ifCond .eq 46, 3) := by decide +kernel
theorem dX10_tree_192 : decode cX10_tree 192 = .ok (.aload_n 0, 1) := by decide +kernel
theorem dX10_tree_193 : decode cX10_tree 193 = .ok (.getfield 66, 3) := by decide +kernel
theorem dX10_tree_196 : decode cX10_tree 196 = .ok (.iload 6, 2) := by decide +kernel
theorem dX10_tree_198 : decode cX10_tree 198 = .ok (.aload_n 0, 1) := by decide +kernel
theorem dX10_tree_199 : decode cX10_tree 199 = .ok (.getfield 54, 3) := by decide +kernel
theorem dX10_tree_202 : decode cX10_tree 202 = .ok (.iload 4, 2) := by decide +kernel
theorem dX10_tree_204 : decode cX10_tree 204 = .ok (.iaload, 1) := by decide +kernel
theorem dX10_tree_205 : decode cX10_tree 205 = .ok (.ifCond .ne 8, 3) := by decide +kernel
theorem dX10_tree_208 : decode cX10_tree 208 = .ok (.bipush 22, 2) := by decide +kernel
theorem dX10_tree_210 : decode cX10_tree 210 = .ok (.goto 21, 3) := by decide +kernel
theorem dX10_tree_213 : decode cX10_tree 213 = .ok (.aload_n 0, 1) := by decide +kernel
theorem dX10_tree_214 : decode cX10_tree 214 = .ok (.getfield 54, 3) := by decide +kernel
theorem dX10_tree_217 : decode cX10_tree 217 = .ok (.iload 4, 2) := by decide +kernel
theorem dX10_tree_219 : decode cX10_tree 219 = .ok (.iaload, 1) := by decide +kernel
theorem dX10_tree_220 : decode cX10_tree 220 = .ok (.iconst 1, 1) := by decide +kernel
theorem dX10_tree_221 : decode cX10_tree 221 = .ok (.if_icmp .ne 8, 3) := by decide +kernel
theorem dX10_tree_224 : decode cX10_tree 224 = .ok (.bipush 20, 2) := by decide +kernel
theorem dX10_tree_226 : decode cX10_tree 226 = .ok (.goto 5, 3) := by decide +kernel
theorem dX10_tree_229 : decode cX10_tree 229 = .ok (.bipush 21, 2) := by decide +kernel
theorem dX10_tree_231 : decode cX10_tree 231 = .ok (.iastore, 1) := by decide +kernel
theorem dX10_tree_232 : decode cX10_tree 232 = .ok (.goto (-160), 3) := by decide +kernel
theorem dX10_tree_235 : decode cX10_tree 235 = .ok (.aload_n 0, 1) := by decide +kernel
theorem dX10_tree_236 : decode cX10_tree 236 = .ok (.iload 4, 2) := by decide +kernel
theorem dX10_tree_238 : decode cX10_tree 238 = .ok (.aload_n 0, 1) := by decide +kernel
theorem dX10_tree_239 : decode cX10_tree 239 = .ok (.getfield 7, 3) := by decide +kernel
theorem dX10_tree_242 : decode cX10_tree 242 = .ok (.iload_n 1, 1) := by decide +kernel
theorem dX10_tree_243 : decode cX10_tree 243 = .ok (.iaload, 1) := by decide +kernel
theorem dX10_tree_244 : decode cX10_tree 244 = .ok (.iload_n 2, 1) := by decide +kernel
theorem dX10_tree_245 : decode cX10_tree 245 = .ok (.invokevirtual 196, 3) := by decide +kernel
theorem dX10_tree_248 : decode cX10_tree 248 = .ok (.istore 7, 2) := by decide +kernel
theorem dX10_tree_250 : decode cX10_tree 250 = .ok (.aload_n 0, 1) := by decide +kernel
theorem dX10_tree_251 : decode cX10_tree 251 = .ok (.getfield 66, 3) := by decide +kernel
theorem dX10_tree_254 : decode cX10_tree 254 = .ok (.iload 6, 2) := by decide +kernel
theorem dX10_tree_256 : decode cX10_tree 256 = .ok (.iload 7, 2) := by decide +kernel
theorem dX10_tree_258 : decode cX10_tree 258 = .ok (.iastore, 1) := by decide +kernel
theorem dX10_tree_259 : decode cX10_tree 259 = .ok (.iconst 1, 1) := by decide +kernel
theorem dX10_tree_260 : decode cX10_tree 260 = .ok (.istore 8, 2) := by decide +kernel
theorem dX10_tree_262 : decode cX10_tree 262 = .ok (.iload 8, 2) := by decide +kernel
theorem dX10_tree_264 : decode cX10_tree 264 = .ok (.ifCond .lt 59, 3) := by decide +kernel
theorem dX10_tree_267 : decode cX10_tree 267 = .ok (.aload_n 0, 1) := by decide +kernel
theorem dX10_tree_268 : decode cX10_tree 268 = .ok (.getfield 78, 3) := by decide +kernel
theorem dX10_tree_271 : decode cX10_tree 271 = .ok (.iload_n 3, 1) := by decide +kernel
theorem dX10_tree_272 : decode cX10_tree 272 = .ok (.iload 4, 2) := by decide +kernel
theorem dX10_tree_274 : decode cX10_tree 274 = .ok (.iconst 2, 1) := by decide +kernel
theorem dX10_tree_275 : decode cX10_tree 275 = .ok (.iload 8, 2) := by decide +kernel
theorem dX10_tree_277 : decode cX10_tree 277 = .ok (.isub, 1) := by decide +kernel
theorem dX10_tree_278 : decode cX10_tree 278 = .ok (.aload_n 0, 1) := by decide +kernel
theorem dX10_tree_279 : decode cX10_tree 279 = .ok (.getfield 51, 3) := by decide +kernel
theorem dX10_tree_282 : decode cX10_tree 282 = .ok (.iload 7, 2) := by decide +kernel
theorem dX10_tree_284 : decode cX10_tree 284 = .ok (.iaload, 1) := by decide +kernel
theorem dX10_tree_285 : decode cX10_tree 285 = .ok (.imul, 1) := by decide +kernel
theorem dX10_tree_286 : decode cX10_tree 286 = .ok (.isub, 1) := by decide +kernel
theorem dX10_tree_287 : decode cX10_tree 287 = .ok (.iastore, 1) := by decide +kernel
theorem dX10_tree_288 : decode cX10_tree 288 = .ok (.aload_n 0, 1) := by decide +kernel
theorem dX10_tree_289 : decode cX10_tree 289 = .ok (.getfield 81, 3) := by decide +kernel
theorem dX10_tree_292 : decode cX10_tree 292 = .ok (.iload_n 3, 1) := by decide +kernel
theorem dX10_tree_293 : decode cX10_tree 293 = .ok (.iload 5, 2) := by decide +kernel
theorem dX10_tree_295 : decode cX10_tree 295 = .ok (.iconst 1, 1) := by decide +kernel
theorem dX10_tree_296 : decode cX10_tree 296 = .ok (.iadd, 1) := by decide +kernel
theorem dX10_tree_297 : decode cX10_tree 297 = .ok (.iastore, 1) := by decide +kernel
theorem dX10_tree_298 : decode cX10_tree 298 = .ok (.aload_n 0, 1) := by decide +kernel
theorem dX10_tree_299 : decode cX10_tree 299 = .ok (.getfield 84, 3) := by decide +kernel
theorem dX10_tree_302 : decode cX10_tree 302 = .ok (.iload_n 3, 1) := by decide +kernel
theorem dX10_tree_303 : decode cX10_tree 303 = .ok (.iload 6, 2) := by decide +kernel
theorem dX10_tree_305 : decode cX10_tree 305 = .ok (.iastore, 1) := by decide +kernel
theorem dX10_tree_306 : decode cX10_tree 306 = .ok (.aload_n 0, 1) := by decide +kernel
theorem dX10_tree_307 : decode cX10_tree 307 = .ok (.getfield 87, 3) := by decide +kernel
theorem dX10_tree_310 : decode cX10_tree 310 = .ok (.iload_n 3, 1) := by decide +kernel
theorem dX10_tree_311 : decode cX10_tree 311 = .ok (.iload 8, 2) := by decide +kernel
theorem dX10_tree_313 : decode cX10_tree 313 = .ok (.iastore, 1) := by decide +kernel
theorem dX10_tree_314 : decode cX10_tree 314 = .ok (.iinc 3 1, 3) := by decide +kernel
theorem dX10_tree_317 : decode cX10_tree 317 = .ok (.iinc 8 (-1), 3) := by decide +kernel
theorem dX10_tree_320 : decode cX10_tree 320 = .ok (.goto (-58), 3) := by decide +kernel
theorem dX10_tree_323 : decode cX10_tree 323 = .ok (.goto (-251), 3) := by decide +kernel
theorem dX10_tree_326 : decode cX10_tree 326 = .ok (.aload_n 0, 1) := by decide +kernel
theorem dX10_tree_327 : decode cX10_tree 327 = .ok (.getfield 193, 3) := by decide +kernel
theorem dX10_tree_330 : decode cX10_tree 330 = .ok (.ireturn, 1) := by decide +kernel
abbrev rmX10_tree : Room := { frames := 2, cells := 0, slots := 0, locals := 51 }
theorem yd_X10_tree : yX10_tree.cls = RX10 ∧ yX10_tree.cls ≠ "java/lang/invoke/MethodHandle" ∧ yX10_tree.cls ≠ "java/lang/invoke/VarHandle" ∧ (parseMethodDescriptor yX10_tree.desc).map (fun d => d.parameters.length) = some 2 := by decide +kernel
def fX10_tree_L262 (r : RS) (l1 : Int32) (l2 : Int32) (l4 : Int32) (l5 : Int32) (l6 : Int32) (l7 : Int32) (l3 : Int32) (l8 : Int32) : Option ((Int32 × Int32 × RS) ⊕ (Int32 × RS)) :=
  if l8 < 0 then
    some (.inr (l3, r))
  else
    (aI 9 (r.2.1 11) l7).bind fun v18 =>
    (sA r 20 40 l3 (l4 - (((2 : Int32) - l8) * v18))).bind fun r19 =>
    (sA r19 21 40 l3 (l5 + (1 : Int32))).bind fun r20 =>
    (sA r20 22 40 l3 l6).bind fun r21 =>
    (sA r21 23 40 l3 l8).bind fun r22 =>
    some (.inl ((l3 + (1 : Int32)), (l8 + (-1 : Int32)), r22))
def fX10_tree_L72_J231 (r : RS) (l1 : Int32) (l2 : Int32) (l3 : Int32) (s0 : Int32) (s1 : Int32) : Option ((Int32 × RS) ⊕ RS) :=
  (sA r 16 512 s1 s0).bind fun r26 =>
  some (.inl (l3, r26))
def fX10_tree_L72_J158 (r : RS) (l1 : Int32) (l2 : Int32) (l3 : Int32) (l4 : Int32) (l5 : Int32) (l6 : Int32) : Option ((Int32 × RS) ⊕ RS) :=
  (sA r 17 512 l6 l5).bind fun r11 =>
  (sA r11 18 512 l6 (-1 : Int32)).bind fun r12 =>
  (sA r12 19 512 l6 (-1 : Int32)).bind fun r13 =>
  (fX10_isSettled r13 l4).bind fun q14 =>
  if q14 = 0 then
    (aI 16 (r13.2.1 0) l1).bind fun v15 =>
    (fX10_lookedAt r13 l4 v15 l2).bind fun q16 =>
    (sA r13 16 512 l6 q16).bind fun r17 =>
    (lpN (fun u => fX10_tree_L262 u.2.2 l1 l2 l4 l5 l6 q16 u.1 u.2.1) bigN (l3, (1 : Int32), r17)).bind fun e23 =>
    some (.inl (e23.1, e23.2))
  else
    (aI 6561 (r13.2.1 12) l4).bind fun v24 =>
    if v24 = 0 then
      fX10_tree_L72_J231 r13 l1 l2 l3 (22 : Int32) l6
    else
      (aI 6561 (r13.2.1 12) l4).bind fun v25 =>
      if v25 = (1 : Int32) then
        fX10_tree_L72_J231 r13 l1 l2 l3 (20 : Int32) l6
      else
        fX10_tree_L72_J231 r13 l1 l2 l3 (21 : Int32) l6
def fX10_tree_L72 (r : RS) (l1 : Int32) (l2 : Int32) (l3 : Int32) : Option ((Int32 × RS) ⊕ RS) :=
  if l3 ≤ 0 then
    some (.inr r)
  else
    (aI 40 (r.2.1 20) (l3 + (-1 : Int32))).bind fun v8 =>
    (aI 40 (r.2.1 21) (l3 + (-1 : Int32))).bind fun v9 =>
    (aI 40 ((rI r 5 ((r.1 5) + (1 : Int32))).2.1 22) (l3 + (-1 : Int32))).bind fun v10 =>
    if v10 < 0 then
      fX10_tree_L72_J158 (rI r 5 ((r.1 5) + (1 : Int32))) l1 l2 (l3 + (-1 : Int32)) v8 v9 (r.1 5)
    else
      (aI 40 ((rI r 5 ((r.1 5) + (1 : Int32))).2.1 23) (l3 + (-1 : Int32))).bind fun v27 =>
      if v27 = 0 then
        (aI 40 ((rI r 5 ((r.1 5) + (1 : Int32))).2.1 22) (l3 + (-1 : Int32))).bind fun v30 =>
        (sA (rI r 5 ((r.1 5) + (1 : Int32))) 18 512 v30 (r.1 5)).bind fun r31 =>
        fX10_tree_L72_J158 r31 l1 l2 (l3 + (-1 : Int32)) v8 v9 (r.1 5)
      else
        (aI 40 ((rI r 5 ((r.1 5) + (1 : Int32))).2.1 22) (l3 + (-1 : Int32))).bind fun v28 =>
        (sA (rI r 5 ((r.1 5) + (1 : Int32))) 19 512 v28 (r.1 5)).bind fun r29 =>
        fX10_tree_L72_J158 r29 l1 l2 (l3 + (-1 : Int32)) v8 v9 (r.1 5)
def fX10_tree_J16 (r : RS) : Option (Int32 × RS) :=
  some ((-2 : Int32), r)
def fX10_tree (r : RS) (a1 : Int32) (a2 : Int32) : Option (Int32 × RS) :=
  (fX10_isPlace a1).bind fun q1 =>
  if q1 = 0 then
    fX10_tree_J16 r
  else
    if a2 < 0 then
      fX10_tree_J16 r
    else
      if a2 ≤ (1 : Int32) then
        (aI 16 (r.2.1 0) a1).bind fun v2 =>
        if v2 = 0 then
          (fX10_meet r (-10 : Int32)).bind fun q33 =>
          some (q33.1, q33.2)
        else
          (fX10_tellCubes r a1).bind fun q3 =>
          (fX10_whole (rI q3 5 (0 : Int32)) a1).bind fun q4 =>
          (sA (rI q3 5 (0 : Int32)) 20 40 (0 : Int32) q4).bind fun r5 =>
          (sA r5 21 40 (0 : Int32) (0 : Int32)).bind fun r6 =>
          (sA r6 22 40 (0 : Int32) (-1 : Int32)).bind fun r7 =>
          (lpN (fun u => fX10_tree_L72 u.2 a1 a2 u.1) bigN ((1 : Int32), r7)).bind fun e32 =>
          some ((e32.1 5), e32)
      else
        fX10_tree_J16 r
set_option maxHeartbeats 4000000 in
set_option maxRecDepth 100000 in
theorem tX10_tree_L262 {κ : KK} {p : Program} {l : Launch} {e : Env} {s : State} {m : MethodId} {args : Array Value} {below : List Frame} {meth : Method} {c : Code} (C : Cx κ p s m args meth c cX10_tree 9 RX10 (some .int)) {o : Nat} {v : Option Value} {B' : Heap → Prop} {r : RS} {l1 : Int32} {l2 : Int32} {l4 : Int32} {l5 : Int32} {l6 : Int32} {l7 : Int32} {l3 : Int32} {l8 : Int32} {y : (Int32 × Int32 × RS) ⊕ (Int32 × RS)} (h : fX10_tree_L262 r l1 l2 l4 l5 l6 l7 l3 l8 = some y) (kc : ∀ u, y = .inl u → GR κ p l e s m args below meth c rmX10_tree 9 o v B' u.2.2 262 [(0, .ref o), (1, .int l1), (2, .int l2), (3, .int u.1), (4, .int l4), (5, .int l5), (6, .int l6), (7, .int l7), (8, .int u.2.1)] []) (kx : ∀ w, y = .inr w → GR κ p l e s m args below meth c rmX10_tree 9 o v B' w.2 323 [(0, .ref o), (1, .int l1), (2, .int l2), (3, .int w.1)] []) : GR κ p l e s m args below meth c rmX10_tree 9 o v B' r 262 [(0, .ref o), (1, .int l1), (2, .int l2), (3, .int l3), (4, .int l4), (5, .int l5), (6, .int l6), (7, .int l7), (8, .int l8)] [] := by
  unfold fX10_tree_L262 at h
  refine G_iload (pc' := 264) C dX10_tree_262 8 rfl rfl ?_
  refine G_if_lt (tgt := 323) (pc' := 267) C dX10_tree_264 (by decide) rfl (fun hc => ?_) (fun hc => ?_)
  · replace h := z_ip hc h
    exact G_sub [0, 1, 2, 3] rfl (kx _ (Option.some.inj h).symm)
  · replace h := z_in hc h
    refine G_aload_n (pc' := 268) C dX10_tree_267 0 rfl rfl ?_
    refine R_g_comeCube (pc' := 271) C dX10_tree_268 rfl ?_
    refine G_iload_n (pc' := 272) C dX10_tree_271 3 rfl rfl ?_
    refine G_iload (pc' := 274) C dX10_tree_272 4 rfl rfl ?_
    refine G_iconst (pc' := 275) (v := (2 : Int32)) C dX10_tree_274 (by decide) rfl ?_
    refine G_iload (pc' := 277) C dX10_tree_275 8 rfl rfl ?_
    refine G_isub (pc' := 278) C dX10_tree_277 rfl ?_
    refine G_aload_n (pc' := 279) C dX10_tree_278 0 rfl rfl ?_
    refine R_g_power (pc' := 282) C dX10_tree_279 rfl ?_
    refine G_iload (pc' := 284) C dX10_tree_282 7 rfl rfl ?_
    obtain ⟨v18, hv18, h⟩ := ob h
    refine R_l_power (pc' := 285) C dX10_tree_284 hv18 rfl ?_
    refine G_imul (pc' := 286) C dX10_tree_285 rfl ?_
    refine G_isub (pc' := 287) C dX10_tree_286 rfl ?_
    obtain ⟨r19, hr19, h⟩ := ob h
    refine R_s_comeCube (pc' := 288) C dX10_tree_287 hr19 rfl ?_
    refine G_aload_n (pc' := 289) C dX10_tree_288 0 rfl rfl ?_
    refine R_g_comeLooks (pc' := 292) C dX10_tree_289 rfl ?_
    refine G_iload_n (pc' := 293) C dX10_tree_292 3 rfl rfl ?_
    refine G_iload (pc' := 295) C dX10_tree_293 5 rfl rfl ?_
    refine G_iconst (pc' := 296) (v := (1 : Int32)) C dX10_tree_295 (by decide) rfl ?_
    refine G_iadd (pc' := 297) C dX10_tree_296 rfl ?_
    obtain ⟨r20, hr20, h⟩ := ob h
    refine R_s_comeLooks (pc' := 298) C dX10_tree_297 hr20 rfl ?_
    refine G_aload_n (pc' := 299) C dX10_tree_298 0 rfl rfl ?_
    refine R_g_comeOf (pc' := 302) C dX10_tree_299 rfl ?_
    refine G_iload_n (pc' := 303) C dX10_tree_302 3 rfl rfl ?_
    refine G_iload (pc' := 305) C dX10_tree_303 6 rfl rfl ?_
    obtain ⟨r21, hr21, h⟩ := ob h
    refine R_s_comeOf (pc' := 306) C dX10_tree_305 hr21 rfl ?_
    refine G_aload_n (pc' := 307) C dX10_tree_306 0 rfl rfl ?_
    refine R_g_comeAs (pc' := 310) C dX10_tree_307 rfl ?_
    refine G_iload_n (pc' := 311) C dX10_tree_310 3 rfl rfl ?_
    refine G_iload (pc' := 313) C dX10_tree_311 8 rfl rfl ?_
    obtain ⟨r22, hr22, h⟩ := ob h
    refine R_s_comeAs (pc' := 314) C dX10_tree_313 hr22 rfl ?_
    refine G_iinc (pc' := 317) C dX10_tree_314 3 rfl rfl [(3, .int (l3 + (1 : Int32))), (0, .ref o), (1, .int l1), (2, .int l2), (4, .int l4), (5, .int l5), (6, .int l6), (7, .int l7), (8, .int l8)] (by decide) rfl rfl ?_
    refine G_iinc (pc' := 320) C dX10_tree_317 8 rfl rfl [(8, .int (l8 + (-1 : Int32))), (3, .int (l3 + (1 : Int32))), (0, .ref o), (1, .int l1), (2, .int l2), (4, .int l4), (5, .int l5), (6, .int l6), (7, .int l7)] (by decide) rfl rfl ?_
    refine G_goto (tgt := 262) C dX10_tree_320 (by decide) ?_
    exact G_sub [2, 3, 4, 1, 5, 6, 7, 8, 0] rfl (kc _ (Option.some.inj h).symm)
set_option maxHeartbeats 4000000 in
set_option maxRecDepth 100000 in
theorem tX10_tree_L72 {κ : KK} {p : Program} {l : Launch} {e : Env} {s : State} {m : MethodId} {args : Array Value} {below : List Frame} {meth : Method} {c : Code} (C : Cx κ p s m args meth c cX10_tree 9 RX10 (some .int)) {o : Nat} {v : Option Value} {B' : Heap → Prop} {r : RS} {l1 : Int32} {l2 : Int32} {l3 : Int32} {y : (Int32 × RS) ⊕ RS} (h : fX10_tree_L72 r l1 l2 l3 = some y) (kc : ∀ u, y = .inl u → GR κ p l e s m args below meth c rmX10_tree 9 o v B' u.2 72 [(0, .ref o), (1, .int l1), (2, .int l2), (3, .int u.1)] []) (kx : ∀ w, y = .inr w → GR κ p l e s m args below meth c rmX10_tree 9 o v B' w 326 [(0, .ref o)] []) : GR κ p l e s m args below meth c rmX10_tree 9 o v B' r 72 [(0, .ref o), (1, .int l1), (2, .int l2), (3, .int l3)] [] := by
  have J231 : ∀ (r : RS) (l3 : Int32) (s0 : Int32) (s1 : Int32), fX10_tree_L72_J231 r l1 l2 l3 s0 s1 = some y → GR κ p l e s m args below meth c rmX10_tree 9 o v B' r 231 [(0, .ref o), (1, .int l1), (2, .int l2), (3, .int l3)] [.int s0, .int s1, .ref (o + 17)] := by
    intro r l3 s0 s1 h
    unfold fX10_tree_L72_J231 at h
    obtain ⟨r26, hr26, h⟩ := ob h
    refine R_s_nodeSays (pc' := 232) C dX10_tree_231 hr26 rfl ?_
    refine G_goto (tgt := 72) C dX10_tree_232 (by decide) ?_
    exact G_sub [0, 1, 2, 3] rfl (kc _ (Option.some.inj h).symm)
  have J158 : ∀ (r : RS) (l3 : Int32) (l4 : Int32) (l5 : Int32) (l6 : Int32), fX10_tree_L72_J158 r l1 l2 l3 l4 l5 l6 = some y → GR κ p l e s m args below meth c rmX10_tree 9 o v B' r 158 [(0, .ref o), (1, .int l1), (2, .int l2), (3, .int l3), (4, .int l4), (5, .int l5), (6, .int l6)] [] := by
    intro r l3 l4 l5 l6 h
    unfold fX10_tree_L72_J158 at h
    refine G_aload_n (pc' := 159) C dX10_tree_158 0 rfl rfl ?_
    refine R_g_nodeLooks (pc' := 162) C dX10_tree_159 rfl ?_
    refine G_iload (pc' := 164) C dX10_tree_162 6 rfl rfl ?_
    refine G_iload (pc' := 166) C dX10_tree_164 5 rfl rfl ?_
    obtain ⟨r11, hr11, h⟩ := ob h
    refine R_s_nodeLooks (pc' := 167) C dX10_tree_166 hr11 rfl ?_
    refine G_aload_n (pc' := 168) C dX10_tree_167 0 rfl rfl ?_
    refine R_g_nodeZero (pc' := 171) C dX10_tree_168 rfl ?_
    refine G_iload (pc' := 173) C dX10_tree_171 6 rfl rfl ?_
    refine G_iconst (pc' := 174) (v := (-1 : Int32)) C dX10_tree_173 (by decide) rfl ?_
    obtain ⟨r12, hr12, h⟩ := ob h
    refine R_s_nodeZero (pc' := 175) C dX10_tree_174 hr12 rfl ?_
    refine G_aload_n (pc' := 176) C dX10_tree_175 0 rfl rfl ?_
    refine R_g_nodeOne (pc' := 179) C dX10_tree_176 rfl ?_
    refine G_iload (pc' := 181) C dX10_tree_179 6 rfl rfl ?_
    refine G_iconst (pc' := 182) (v := (-1 : Int32)) C dX10_tree_181 (by decide) rfl ?_
    obtain ⟨r13, hr13, h⟩ := ob h
    refine R_s_nodeOne (pc' := 183) C dX10_tree_182 hr13 rfl ?_
    refine G_aload_n (pc' := 184) C dX10_tree_183 0 rfl rfl ?_
    refine G_iload (pc' := 186) C dX10_tree_184 4 rfl rfl ?_
    obtain ⟨q14, hq14, h⟩ := ob h
    refine G_cV0 (pc' := 189) C dX10_tree_186 (tX10_isSettled κ l o r13 l4 q14 hq14) (wV tw_ml_X10_176 tw_im_X10_isSettled tw_se_X10_X10_isSettled tw_in_X10 tw_co_X10_isSettled) yd_X10_isSettled rfl fi_X10 (RB_rd 0 rfl) rfl rfl (by decide) rfl (Nat.le_of_ble_eq_true rfl) rfl rfl ?_
    refine G_if_eq (tgt := 235) (pc' := 192) C dX10_tree_189 (by decide) rfl (fun hc => ?_) (fun hc => ?_)
    · replace h := z_ip hc h
      refine G_aload_n (pc' := 236) C dX10_tree_235 0 rfl rfl ?_
      refine G_iload (pc' := 238) C dX10_tree_236 4 rfl rfl ?_
      refine G_aload_n (pc' := 239) C dX10_tree_238 0 rfl rfl ?_
      refine R_g_bits (pc' := 242) C dX10_tree_239 rfl ?_
      refine G_iload_n (pc' := 243) C dX10_tree_242 1 rfl rfl ?_
      obtain ⟨v15, hv15, h⟩ := ob h
      refine R_l_bits (pc' := 244) C dX10_tree_243 hv15 rfl ?_
      refine G_iload_n (pc' := 245) C dX10_tree_244 2 rfl rfl ?_
      obtain ⟨q16, hq16, h⟩ := ob h
      refine G_cV0 (pc' := 248) C dX10_tree_245 (tX10_lookedAt κ l o r13 l4 v15 l2 q16 hq16) (wV tw_ml_X10_196 tw_im_X10_lookedAt tw_se_X10_X10_lookedAt tw_in_X10 tw_co_X10_lookedAt) yd_X10_lookedAt rfl fi_X10 (RB_rd 0 rfl) rfl rfl (by decide) rfl (Nat.le_of_ble_eq_true rfl) rfl rfl ?_
      refine G_istore (pc' := 250) C dX10_tree_248 [(7, .int q16), (0, .ref o), (1, .int l1), (2, .int l2), (3, .int l3), (4, .int l4), (5, .int l5), (6, .int l6)] (by decide) rfl rfl ?_
      refine G_aload_n (pc' := 251) C dX10_tree_250 1 rfl rfl ?_
      refine R_g_nodeSays (pc' := 254) C dX10_tree_251 rfl ?_
      refine G_iload (pc' := 256) C dX10_tree_254 7 rfl rfl ?_
      refine G_iload (pc' := 258) C dX10_tree_256 0 rfl rfl ?_
      obtain ⟨r17, hr17, h⟩ := ob h
      refine R_s_nodeSays (pc' := 259) C dX10_tree_258 hr17 rfl ?_
      refine G_iconst (pc' := 260) (v := (1 : Int32)) C dX10_tree_259 (by decide) rfl ?_
      refine G_istore (pc' := 262) C dX10_tree_260 [(8, .int (1 : Int32)), (7, .int q16), (0, .ref o), (1, .int l1), (2, .int l2), (3, .int l3), (4, .int l4), (5, .int l5), (6, .int l6)] (by decide) rfl rfl ?_
      obtain ⟨e23, hle23, h⟩ := ob h
      refine G_sub (lv' := [(0, .ref o), (1, .int l1), (2, .int l2), (3, .int l3), (4, .int l4), (5, .int l5), (6, .int l6), (7, .int q16), (8, .int (1 : Int32))]) [2, 3, 4, 5, 6, 7, 8, 1, 0] rfl ?_
      refine lpN_ind (body := fun u => fX10_tree_L262 u.2.2 l1 l2 l4 l5 l6 q16 u.1 u.2.1) (P := fun u => GR κ p l e s m args below meth c rmX10_tree 9 o v B' u.2.2 262 [(0, .ref o), (1, .int l1), (2, .int l2), (3, .int u.1), (4, .int l4), (5, .int l5), (6, .int l6), (7, .int q16), (8, .int u.2.1)] []) (X := fun w => GR κ p l e s m args below meth c rmX10_tree 9 o v B' w.2 323 [(0, .ref o), (1, .int l1), (2, .int l2), (3, .int w.1)] []) (fun u y hb kc kx => tX10_tree_L262 C hb kc kx) _ _ _ hle23 ?_
      refine G_goto (tgt := 72) C dX10_tree_323 (by decide) ?_
      exact G_sub [0, 1, 2, 3] rfl (kc _ (Option.some.inj h).symm)
    · replace h := z_in hc h
      refine G_aload_n (pc' := 193) C dX10_tree_192 0 rfl rfl ?_
      refine R_g_nodeSays (pc' := 196) C dX10_tree_193 rfl ?_
      refine G_iload (pc' := 198) C dX10_tree_196 6 rfl rfl ?_
      refine G_aload_n (pc' := 199) C dX10_tree_198 0 rfl rfl ?_
      refine R_g_has (pc' := 202) C dX10_tree_199 rfl ?_
      refine G_iload (pc' := 204) C dX10_tree_202 4 rfl rfl ?_
      obtain ⟨v24, hv24, h⟩ := ob h
      refine R_l_has (pc' := 205) C dX10_tree_204 hv24 rfl ?_
      refine G_if_ne (tgt := 213) (pc' := 208) C dX10_tree_205 (by decide) rfl (fun hc => ?_) (fun hc => ?_)
      · replace h := z_in hc h
        refine G_aload_n (pc' := 214) C dX10_tree_213 0 rfl rfl ?_
        refine R_g_has (pc' := 217) C dX10_tree_214 rfl ?_
        refine G_iload (pc' := 219) C dX10_tree_217 4 rfl rfl ?_
        obtain ⟨v25, hv25, h⟩ := ob h
        refine R_l_has (pc' := 220) C dX10_tree_219 hv25 rfl ?_
        refine G_iconst (pc' := 221) (v := (1 : Int32)) C dX10_tree_220 (by decide) rfl ?_
        refine G_icmp_ne (tgt := 229) (pc' := 224) C dX10_tree_221 (by decide) rfl (fun hc => ?_) (fun hc => ?_)
        · replace h := z_in hc h
          refine G_bipush (pc' := 231) (v := (21 : Int32)) C dX10_tree_229 (by decide) rfl ?_
          exact G_sub [0, 1, 2, 3] rfl (J231 r13 l3 (21 : Int32) l6 h)
        · replace h := z_ip hc h
          refine G_bipush (pc' := 226) (v := (20 : Int32)) C dX10_tree_224 (by decide) rfl ?_
          refine G_goto (tgt := 231) C dX10_tree_226 (by decide) ?_
          exact G_sub [0, 1, 2, 3] rfl (J231 r13 l3 (20 : Int32) l6 h)
      · replace h := z_ip hc h
        refine G_bipush (pc' := 210) (v := (22 : Int32)) C dX10_tree_208 (by decide) rfl ?_
        refine G_goto (tgt := 231) C dX10_tree_210 (by decide) ?_
        exact G_sub [0, 1, 2, 3] rfl (J231 r13 l3 (22 : Int32) l6 h)
  unfold fX10_tree_L72 at h
  refine G_iload_n (pc' := 73) C dX10_tree_72 3 rfl rfl ?_
  refine G_if_le (tgt := 326) (pc' := 76) C dX10_tree_73 (by decide) rfl (fun hc => ?_) (fun hc => ?_)
  · replace h := z_ip hc h
    exact G_sub [0] rfl (kx _ (Option.some.inj h).symm)
  · replace h := z_in hc h
    refine G_iinc (pc' := 79) C dX10_tree_76 3 rfl rfl [(3, .int (l3 + (-1 : Int32))), (0, .ref o), (1, .int l1), (2, .int l2)] (by decide) rfl rfl ?_
    refine G_aload_n (pc' := 80) C dX10_tree_79 1 rfl rfl ?_
    refine R_g_comeCube (pc' := 83) C dX10_tree_80 rfl ?_
    refine G_iload_n (pc' := 84) C dX10_tree_83 0 rfl rfl ?_
    obtain ⟨v8, hv8, h⟩ := ob h
    refine R_l_comeCube (pc' := 85) C dX10_tree_84 hv8 rfl ?_
    refine G_istore (pc' := 87) C dX10_tree_85 [(4, .int v8), (3, .int (l3 + (-1 : Int32))), (0, .ref o), (1, .int l1), (2, .int l2)] (by decide) rfl rfl ?_
    refine G_aload_n (pc' := 88) C dX10_tree_87 2 rfl rfl ?_
    refine R_g_comeLooks (pc' := 91) C dX10_tree_88 rfl ?_
    refine G_iload_n (pc' := 92) C dX10_tree_91 1 rfl rfl ?_
    obtain ⟨v9, hv9, h⟩ := ob h
    refine R_l_comeLooks (pc' := 93) C dX10_tree_92 hv9 rfl ?_
    refine G_istore (pc' := 95) C dX10_tree_93 [(5, .int v9), (4, .int v8), (3, .int (l3 + (-1 : Int32))), (0, .ref o), (1, .int l1), (2, .int l2)] (by decide) rfl rfl ?_
    refine G_aload_n (pc' := 96) C dX10_tree_95 3 rfl rfl ?_
    refine R_g_nodes (pc' := 99) C dX10_tree_96 rfl ?_
    refine G_istore (pc' := 101) C dX10_tree_99 [(6, .int (r.1 5)), (5, .int v9), (4, .int v8), (3, .int (l3 + (-1 : Int32))), (0, .ref o), (1, .int l1), (2, .int l2)] (by decide) rfl rfl ?_
    refine G_aload_n (pc' := 102) C dX10_tree_101 4 rfl rfl ?_
    refine G_dup (pc' := 103) C dX10_tree_102 rfl rfl ?_
    refine R_g_nodes (pc' := 106) C dX10_tree_103 rfl ?_
    refine G_iconst (pc' := 107) (v := (1 : Int32)) C dX10_tree_106 (by decide) rfl ?_
    refine G_iadd (pc' := 108) C dX10_tree_107 rfl ?_
    refine R_p_nodes (pc' := 111) C dX10_tree_108 rfl ?_
    refine G_aload_n (pc' := 112) C dX10_tree_111 4 rfl rfl ?_
    refine R_g_comeOf (pc' := 115) C dX10_tree_112 rfl ?_
    refine G_iload_n (pc' := 116) C dX10_tree_115 3 rfl rfl ?_
    obtain ⟨v10, hv10, h⟩ := ob h
    refine R_l_comeOf (pc' := 117) C dX10_tree_116 hv10 rfl ?_
    refine G_if_lt (tgt := 158) (pc' := 120) C dX10_tree_117 (by decide) rfl (fun hc => ?_) (fun hc => ?_)
    · replace h := z_ip hc h
      exact G_sub [4, 5, 6, 3, 2, 1, 0] rfl (J158 (rI r 5 ((r.1 5) + (1 : Int32))) (l3 + (-1 : Int32)) v8 v9 (r.1 5) h)
    · replace h := z_in hc h
      refine G_aload_n (pc' := 121) C dX10_tree_120 4 rfl rfl ?_
      refine R_g_comeAs (pc' := 124) C dX10_tree_121 rfl ?_
      refine G_iload_n (pc' := 125) C dX10_tree_124 3 rfl rfl ?_
      obtain ⟨v27, hv27, h⟩ := ob h
      refine R_l_comeAs (pc' := 126) C dX10_tree_125 hv27 rfl ?_
      refine G_if_ne (tgt := 145) (pc' := 129) C dX10_tree_126 (by decide) rfl (fun hc => ?_) (fun hc => ?_)
      · replace h := z_in hc h
        refine G_aload_n (pc' := 146) C dX10_tree_145 4 rfl rfl ?_
        refine R_g_nodeOne (pc' := 149) C dX10_tree_146 rfl ?_
        refine G_aload_n (pc' := 150) C dX10_tree_149 4 rfl rfl ?_
        refine R_g_comeOf (pc' := 153) C dX10_tree_150 rfl ?_
        refine G_iload_n (pc' := 154) C dX10_tree_153 3 rfl rfl ?_
        obtain ⟨v28, hv28, h⟩ := ob h
        refine R_l_comeOf (pc' := 155) C dX10_tree_154 hv28 rfl ?_
        refine G_iload (pc' := 157) C dX10_tree_155 0 rfl rfl ?_
        obtain ⟨r29, hr29, h⟩ := ob h
        refine R_s_nodeOne (pc' := 158) C dX10_tree_157 hr29 rfl ?_
        exact G_sub [4, 5, 6, 3, 2, 1, 0] rfl (J158 r29 (l3 + (-1 : Int32)) v8 v9 (r.1 5) h)
      · replace h := z_ip hc h
        refine G_aload_n (pc' := 130) C dX10_tree_129 4 rfl rfl ?_
        refine R_g_nodeZero (pc' := 133) C dX10_tree_130 rfl ?_
        refine G_aload_n (pc' := 134) C dX10_tree_133 4 rfl rfl ?_
        refine R_g_comeOf (pc' := 137) C dX10_tree_134 rfl ?_
        refine G_iload_n (pc' := 138) C dX10_tree_137 3 rfl rfl ?_
        obtain ⟨v30, hv30, h⟩ := ob h
        refine R_l_comeOf (pc' := 139) C dX10_tree_138 hv30 rfl ?_
        refine G_iload (pc' := 141) C dX10_tree_139 0 rfl rfl ?_
        obtain ⟨r31, hr31, h⟩ := ob h
        refine R_s_nodeZero (pc' := 142) C dX10_tree_141 hr31 rfl ?_
        refine G_goto (tgt := 158) C dX10_tree_142 (by decide) ?_
        exact G_sub [4, 5, 6, 3, 2, 1, 0] rfl (J158 r31 (l3 + (-1 : Int32)) v8 v9 (r.1 5) h)
set_option maxHeartbeats 4000000 in
set_option maxRecDepth 100000 in
theorem tX10_tree (κ : KK) (l : Launch) (o : Nat) (r : RS) (a1 : Int32) (a2 : Int32) (q : Int32 × RS) (h : fX10_tree r a1 a2 = some q) : MM κ l yX10_tree cX10_tree 9 (some .int) rmX10_tree (RA o) [.ref o, .int a1, .int a2] (RB κ o r) (some (Value.int q.1)) (RB κ o q.2) := by
  refine MM.of (by decide +kernel) (Nat.le_of_ble_eq_true rfl) ?_
  intro p e s m below meth c C hnm
  have J16 : ∀ (r : RS), fX10_tree_J16 r = some q → GR κ p l e s m ([.ref o, .int a1, .int a2] : List Value).toArray below meth c rmX10_tree 9 o (some (Value.int q.1)) (RB κ o q.2) r 16 [] [] := by
    intro r h
    unfold fX10_tree_J16 at h
    refine G_bipush (pc' := 18) (v := (-2 : Int32)) C dX10_tree_16 (by decide) rfl ?_
    obtain rfl := Option.some.inj h
    exact G_iret C dX10_tree_18 (fun _ h => h)
  unfold fX10_tree at h
  refine G_sub (lv' := [(0, .ref o), (1, .int a1), (2, .int a2)]) [0, 1, 2] rfl ?_
  refine G_iload_n (pc' := 1) C dX10_tree_0 1 rfl rfl ?_
  obtain ⟨q1, hq1, h⟩ := ob h
  refine G_cS0 (pc' := 4) C dX10_tree_1 (tX10_isPlace κ l (RA o) (RB κ o r) a1 q1 hq1) (wS tw_ml_X10_115 tw_st_X10_isPlace tw_co_X10_isPlace tw_in_X10) yd_X10_isPlace rfl rfl rfl (by decide) rfl (Nat.le_of_ble_eq_true rfl) rfl rfl ?_
  refine G_if_eq (tgt := 16) (pc' := 7) C dX10_tree_4 (by decide) rfl (fun hc => ?_) (fun hc => ?_)
  · replace h := z_ip hc h
    exact G_sub [] rfl (J16 r h)
  · replace h := z_in hc h
    refine G_iload_n (pc' := 8) C dX10_tree_7 2 rfl rfl ?_
    refine G_if_lt (tgt := 16) (pc' := 11) C dX10_tree_8 (by decide) rfl (fun hc => ?_) (fun hc => ?_)
    · replace h := z_ip hc h
      exact G_sub [] rfl (J16 r h)
    · replace h := z_in hc h
      refine G_iload_n (pc' := 12) C dX10_tree_11 2 rfl rfl ?_
      refine G_iconst (pc' := 13) (v := (1 : Int32)) C dX10_tree_12 (by decide) rfl ?_
      refine G_icmp_le (tgt := 19) (pc' := 16) C dX10_tree_13 (by decide) rfl (fun hc => ?_) (fun hc => ?_)
      · replace h := z_ip hc h
        refine G_aload_n (pc' := 20) C dX10_tree_19 0 rfl rfl ?_
        refine R_g_bits (pc' := 23) C dX10_tree_20 rfl ?_
        refine G_iload_n (pc' := 24) C dX10_tree_23 1 rfl rfl ?_
        obtain ⟨v2, hv2, h⟩ := ob h
        refine R_l_bits (pc' := 25) C dX10_tree_24 hv2 rfl ?_
        refine G_if_ne (tgt := 35) (pc' := 28) C dX10_tree_25 (by decide) rfl (fun hc => ?_) (fun hc => ?_)
        · replace h := z_in hc h
          refine G_aload_n (pc' := 36) C dX10_tree_35 0 rfl rfl ?_
          refine G_iload_n (pc' := 37) C dX10_tree_36 1 rfl rfl ?_
          obtain ⟨q3, hq3, h⟩ := ob h
          refine G_cV0 (pc' := 40) C dX10_tree_37 (tX10_tellCubes κ l o r a1 q3 hq3) (wV tw_ml_X10_186 tw_im_X10_tellCubes tw_se_X10_X10_tellCubes tw_in_X10 tw_co_X10_tellCubes) yd_X10_tellCubes rfl fi_X10 (RB_rd 0 rfl) rfl rfl (by decide) rfl (Nat.le_of_ble_eq_true rfl) rfl rfl ?_
          refine G_aload_n (pc' := 41) C dX10_tree_40 0 rfl rfl ?_
          refine G_iconst (pc' := 42) (v := (0 : Int32)) C dX10_tree_41 (by decide) rfl ?_
          refine R_p_nodes (pc' := 45) C dX10_tree_42 rfl ?_
          refine G_iconst (pc' := 46) (v := (1 : Int32)) C dX10_tree_45 (by decide) rfl ?_
          refine G_istore_n (pc' := 47) C dX10_tree_46 [(3, .int (1 : Int32)), (0, .ref o), (1, .int a1), (2, .int a2)] (by decide) rfl rfl ?_
          refine G_aload_n (pc' := 48) C dX10_tree_47 1 rfl rfl ?_
          refine R_g_comeCube (pc' := 51) C dX10_tree_48 rfl ?_
          refine G_iconst (pc' := 52) (v := (0 : Int32)) C dX10_tree_51 (by decide) rfl ?_
          refine G_aload_n (pc' := 53) C dX10_tree_52 1 rfl rfl ?_
          refine G_iload_n (pc' := 54) C dX10_tree_53 2 rfl rfl ?_
          obtain ⟨q4, hq4, h⟩ := ob h
          refine G_cV0 (pc' := 57) C dX10_tree_54 (tX10_whole κ l o (rI q3 5 (0 : Int32)) a1 q4 hq4) (wV tw_ml_X10_190 tw_im_X10_whole tw_se_X10_X10_whole tw_in_X10 tw_co_X10_whole) yd_X10_whole rfl fi_X10 (RB_rd 0 rfl) rfl rfl (by decide) rfl (Nat.le_of_ble_eq_true rfl) rfl rfl ?_
          obtain ⟨r5, hr5, h⟩ := ob h
          refine R_s_comeCube (pc' := 58) C dX10_tree_57 hr5 rfl ?_
          refine G_aload_n (pc' := 59) C dX10_tree_58 1 rfl rfl ?_
          refine R_g_comeLooks (pc' := 62) C dX10_tree_59 rfl ?_
          refine G_iconst (pc' := 63) (v := (0 : Int32)) C dX10_tree_62 (by decide) rfl ?_
          refine G_iconst (pc' := 64) (v := (0 : Int32)) C dX10_tree_63 (by decide) rfl ?_
          obtain ⟨r6, hr6, h⟩ := ob h
          refine R_s_comeLooks (pc' := 65) C dX10_tree_64 hr6 rfl ?_
          refine G_aload_n (pc' := 66) C dX10_tree_65 1 rfl rfl ?_
          refine R_g_comeOf (pc' := 69) C dX10_tree_66 rfl ?_
          refine G_iconst (pc' := 70) (v := (0 : Int32)) C dX10_tree_69 (by decide) rfl ?_
          refine G_iconst (pc' := 71) (v := (-1 : Int32)) C dX10_tree_70 (by decide) rfl ?_
          obtain ⟨r7, hr7, h⟩ := ob h
          refine R_s_comeOf (pc' := 72) C dX10_tree_71 hr7 rfl ?_
          obtain ⟨e32, hle32, h⟩ := ob h
          refine G_sub (lv' := [(0, .ref o), (1, .int a1), (2, .int a2), (3, .int (1 : Int32))]) [1, 2, 3, 0] rfl ?_
          refine lpN_ind (body := fun u => fX10_tree_L72 u.2 a1 a2 u.1) (P := fun u => GR κ p l e s m ([.ref o, .int a1, .int a2] : List Value).toArray below meth c rmX10_tree 9 o (some (Value.int q.1)) (RB κ o q.2) u.2 72 [(0, .ref o), (1, .int a1), (2, .int a2), (3, .int u.1)] []) (X := fun w => GR κ p l e s m ([.ref o, .int a1, .int a2] : List Value).toArray below meth c rmX10_tree 9 o (some (Value.int q.1)) (RB κ o q.2) w 326 [(0, .ref o)] []) (fun u y hb kc kx => tX10_tree_L72 C hb kc kx) _ _ _ hle32 ?_
          refine G_aload_n (pc' := 327) C dX10_tree_326 0 rfl rfl ?_
          refine R_g_nodes (pc' := 330) C dX10_tree_327 rfl ?_
          obtain rfl := Option.some.inj h
          exact G_iret C dX10_tree_330 (fun _ h => h)
        · replace h := z_ip hc h
          refine G_aload_n (pc' := 29) C dX10_tree_28 0 rfl rfl ?_
          refine G_bipush (pc' := 31) (v := (-10 : Int32)) C dX10_tree_29 (by decide) rfl ?_
          obtain ⟨q33, hq33, h⟩ := ob h
          refine G_cV0 (pc' := 34) C dX10_tree_31 (tX10_meet κ l o r (-10 : Int32) q33 hq33) (wV tw_ml_X10_136 tw_im_X10_meet tw_se_X10_X10_meet tw_in_X10 tw_co_X10_meet) yd_X10_meet rfl fi_X10 (RB_rd 0 rfl) rfl rfl (by decide) rfl (Nat.le_of_ble_eq_true rfl) rfl rfl ?_
          obtain rfl := Option.some.inj h
          exact G_iret C dX10_tree_34 (fun _ h => h)
      · replace h := z_in hc h
        exact G_sub [] rfl (J16 r h)
