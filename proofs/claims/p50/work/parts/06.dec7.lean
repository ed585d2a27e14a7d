theorem dX7_init_0 : decode cX7_init 0 = .ok (.aload_n 0, 1) := by decide +kernel
theorem dX7_init_1 : decode cX7_init 1 = .ok (.invokespecial 1, 3) := by decide +kernel
theorem dX7_init_4 : decode cX7_init 4 = .ok (.aload_n 0, 1) := by decide +kernel
theorem dX7_init_5 : decode cX7_init 5 = .ok (.iconst 4, 1) := by decide +kernel
theorem dX7_init_6 : decode cX7_init 6 = .ok (.putfield 7, 3) := by decide +kernel
theorem dX7_init_9 : decode cX7_init 9 = .ok (.aload_n 0, 1) := by decide +kernel
theorem dX7_init_10 : decode cX7_init 10 = .ok (.bipush 9, 2) := by decide +kernel
theorem dX7_init_12 : decode cX7_init 12 = .ok (.putfield 13, 3) := by decide +kernel
theorem dX7_init_15 : decode cX7_init 15 = .ok (.aload_n 0, 1) := by decide +kernel
theorem dX7_init_16 : decode cX7_init 16 = .ok (.new 16, 3) := by decide +kernel
theorem dX7_init_19 : decode cX7_init 19 = .ok (.dup, 1) := by decide +kernel
theorem dX7_init_20 : decode cX7_init 20 = .ok (.invokespecial 18, 3) := by decide +kernel
theorem dX7_init_23 : decode cX7_init 23 = .ok (.putfield 19, 3) := by decide +kernel
theorem dX7_init_26 : decode cX7_init 26 = .ok (.aload_n 0, 1) := by decide +kernel
theorem dX7_init_27 : decode cX7_init 27 = .ok (.new 16, 3) := by decide +kernel
theorem dX7_init_30 : decode cX7_init 30 = .ok (.dup, 1) := by decide +kernel
theorem dX7_init_31 : decode cX7_init 31 = .ok (.invokespecial 18, 3) := by decide +kernel
theorem dX7_init_34 : decode cX7_init 34 = .ok (.putfield 23, 3) := by decide +kernel
theorem dX7_init_37 : decode cX7_init 37 = .ok (.aload_n 0, 1) := by decide +kernel
theorem dX7_init_38 : decode cX7_init 38 = .ok (.iconst 2, 1) := by decide +kernel
theorem dX7_init_39 : decode cX7_init 39 = .ok (.bipush 64, 2) := by decide +kernel
theorem dX7_init_41 : decode cX7_init 41 = .ok (.bipush 8, 2) := by decide +kernel
theorem dX7_init_43 : decode cX7_init 43 = .ok (.multianewarray 26 3, 4) := by decide +kernel
theorem dX7_init_47 : decode cX7_init 47 = .ok (.putfield 28, 3) := by decide +kernel
theorem dX7_init_50 : decode cX7_init 50 = .ok (.aload_n 0, 1) := by decide +kernel
theorem dX7_init_51 : decode cX7_init 51 = .ok (.ldc 31, 2) := by decide +kernel
theorem dX7_init_53 : decode cX7_init 53 = .ok (.putfield 33, 3) := by decide +kernel
theorem dX7_init_56 : decode cX7_init 56 = .ok (.return_, 1) := by decide +kernel
theorem dX7_grown_0 : decode cX7_grown 0 = .ok (.new 8, 3) := by decide +kernel
theorem dX7_grown_3 : decode cX7_grown 3 = .ok (.dup, 1) := by decide +kernel
theorem dX7_grown_4 : decode cX7_grown 4 = .ok (.invokespecial 37, 3) := by decide +kernel
theorem dX7_grown_7 : decode cX7_grown 7 = .ok (.astore_n 1, 1) := by decide +kernel
theorem dX7_grown_8 : decode cX7_grown 8 = .ok (.new 38, 3) := by decide +kernel
theorem dX7_grown_11 : decode cX7_grown 11 = .ok (.dup, 1) := by decide +kernel
theorem dX7_grown_12 : decode cX7_grown 12 = .ok (.invokespecial 40, 3) := by decide +kernel
theorem dX7_grown_15 : decode cX7_grown 15 = .ok (.astore_n 2, 1) := by decide +kernel
theorem dX7_grown_16 : decode cX7_grown 16 = .ok (.aload_n 0, 1) := by decide +kernel
theorem dX7_grown_17 : decode cX7_grown 17 = .ok (.iconst 1, 1) := by decide +kernel
theorem dX7_grown_18 : decode cX7_grown 18 = .ok (.iconst 2, 1) := by decide +kernel
theorem dX7_grown_19 : decode cX7_grown 19 = .ok (.invokestatic 41, 3) := by decide +kernel
theorem dX7_grown_22 : decode cX7_grown 22 = .ok (.ifCond .ne 34, 3) := by decide +kernel
theorem dX7_grown_25 : decode cX7_grown 25 = .ok (.aload_n 1, 1) := by decide +kernel
theorem dX7_grown_26 : decode cX7_grown 26 = .ok (.iconst 1, 1) := by decide +kernel
theorem dX7_grown_27 : decode cX7_grown 27 = .ok (.aload_n 0, 1) := by decide +kernel
theorem dX7_grown_28 : decode cX7_grown 28 = .ok (.iconst 2, 1) := by decide +kernel
theorem dX7_grown_29 : decode cX7_grown 29 = .ok (.iconst 4, 1) := by decide +kernel
theorem dX7_grown_30 : decode cX7_grown 30 = .ok (.invokestatic 41, 3) := by decide +kernel
theorem dX7_grown_33 : decode cX7_grown 33 = .ok (.iadd, 1) := by decide +kernel
theorem dX7_grown_34 : decode cX7_grown 34 = .ok (.putfield 7, 3) := by decide +kernel
theorem dX7_grown_37 : decode cX7_grown 37 = .ok (.aload_n 2, 1) := by decide +kernel
theorem dX7_grown_38 : decode cX7_grown 38 = .ok (.ldc 47, 2) := by decide +kernel
theorem dX7_grown_40 : decode cX7_grown 40 = .ok (.invokevirtual 49, 3) := by decide +kernel
theorem dX7_grown_43 : decode cX7_grown 43 = .ok (.aload_n 1, 1) := by decide +kernel
theorem dX7_grown_44 : decode cX7_grown 44 = .ok (.getfield 7, 3) := by decide +kernel
theorem dX7_grown_47 : decode cX7_grown 47 = .ok (.invokevirtual 53, 3) := by decide +kernel
theorem dX7_grown_50 : decode cX7_grown 50 = .ok (.ldc 56, 2) := by decide +kernel
theorem dX7_grown_52 : decode cX7_grown 52 = .ok (.invokevirtual 49, 3) := by decide +kernel
theorem dX7_grown_55 : decode cX7_grown 55 = .ok (.pop, 1) := by decide +kernel
theorem dX7_grown_56 : decode cX7_grown 56 = .ok (.aload_n 0, 1) := by decide +kernel
theorem dX7_grown_57 : decode cX7_grown 57 = .ok (.iconst 3, 1) := by decide +kernel
theorem dX7_grown_58 : decode cX7_grown 58 = .ok (.iconst 5, 1) := by decide +kernel
theorem dX7_grown_59 : decode cX7_grown 59 = .ok (.invokestatic 41, 3) := by decide +kernel
theorem dX7_grown_62 : decode cX7_grown 62 = .ok (.istore_n 3, 1) := by decide +kernel
theorem dX7_grown_63 : decode cX7_grown 63 = .ok (.iconst 0, 1) := by decide +kernel
theorem dX7_grown_64 : decode cX7_grown 64 = .ok (.istore 4, 2) := by decide +kernel
theorem dX7_grown_66 : decode cX7_grown 66 = .ok (.iload 4, 2) := by decide +kernel
theorem dX7_grown_68 : decode cX7_grown 68 = .ok (.iload_n 3, 1) := by decide +kernel
theorem dX7_grown_69 : decode cX7_grown 69 = .ok (.if_icmp .ge 135, 3) := by decide +kernel
theorem dX7_grown_72 : decode cX7_grown 72 = .ok (.aload_n 0, 1) := by decide +kernel
theorem dX7_grown_73 : decode cX7_grown 73 = .ok (.bipush 10, 2) := by decide +kernel
theorem dX7_grown_75 : decode cX7_grown 75 = .ok (.iload 4, 2) := by decide +kernel
theorem dX7_grown_77 : decode cX7_grown 77 = .ok (.iadd, 1) := by decide +kernel
theorem dX7_grown_78 : decode cX7_grown 78 = .ok (.iconst 3, 1) := by decide +kernel
theorem dX7_grown_79 : decode cX7_grown 79 = .ok (.invokestatic 41, 3) := by decide +kernel
theorem dX7_grown_82 : decode cX7_grown 82 = .ok (.ifCond .ne 19, 3) := by decide +kernel
theorem dX7_grown_85 : decode cX7_grown 85 = .ok (.aload_n 0, 1) := by decide +kernel
theorem dX7_grown_86 : decode cX7_grown 86 = .ok (.bipush 20, 2) := by decide +kernel
theorem dX7_grown_88 : decode cX7_grown 88 = .ok (.iload 4, 2) := by decide +kernel
theorem dX7_grown_90 : decode cX7_grown 90 = .ok (.iadd, 1) := by decide +kernel
theorem dX7_grown_91 : decode cX7_grown 91 = .ok (.bipush 9, 2) := by decide +kernel
theorem dX7_grown_93 : decode cX7_grown 93 = .ok (.invokestatic 41, 3) := by decide +kernel
theorem dX7_grown_96 : decode cX7_grown 96 = .ok (.iconst 4, 1) := by decide +kernel
theorem dX7_grown_97 : decode cX7_grown 97 = .ok (.isub, 1) := by decide +kernel
theorem dX7_grown_98 : decode cX7_grown 98 = .ok (.goto 4, 3) := by decide +kernel
theorem dX7_grown_101 : decode cX7_grown 101 = .ok (.iconst 0, 1) := by decide +kernel
theorem dX7_grown_102 : decode cX7_grown 102 = .ok (.istore 5, 2) := by decide +kernel
theorem dX7_grown_104 : decode cX7_grown 104 = .ok (.aload_n 1, 1) := by decide +kernel
theorem dX7_grown_105 : decode cX7_grown 105 = .ok (.getfield 19, 3) := by decide +kernel
theorem dX7_grown_108 : decode cX7_grown 108 = .ok (.iconst 5, 1) := by decide +kernel
theorem dX7_grown_109 : decode cX7_grown 109 = .ok (.newarray .int, 2) := by decide +kernel
theorem dX7_grown_111 : decode cX7_grown 111 = .ok (.dup, 1) := by decide +kernel
theorem dX7_grown_112 : decode cX7_grown 112 = .ok (.iconst 0, 1) := by decide +kernel
theorem dX7_grown_113 : decode cX7_grown 113 = .ok (.iconst 1, 1) := by decide +kernel
theorem dX7_grown_114 : decode cX7_grown 114 = .ok (.aload_n 0, 1) := by decide +kernel
theorem dX7_grown_115 : decode cX7_grown 115 = .ok (.bipush 30, 2) := by decide +kernel
theorem dX7_grown_117 : decode cX7_grown 117 = .ok (.iload 4, 2) := by decide +kernel
theorem dX7_grown_119 : decode cX7_grown 119 = .ok (.iadd, 1) := by decide +kernel
theorem dX7_grown_120 : decode cX7_grown 120 = .ok (.bipush 6, 2) := by decide +kernel
theorem dX7_grown_122 : decode cX7_grown 122 = .ok (.invokestatic 41, 3) := by decide +kernel
theorem dX7_grown_125 : decode cX7_grown 125 = .ok (.iadd, 1) := by decide +kernel
theorem dX7_grown_126 : decode cX7_grown 126 = .ok (.iastore, 1) := by decide +kernel
theorem dX7_grown_127 : decode cX7_grown 127 = .ok (.dup, 1) := by decide +kernel
theorem dX7_grown_128 : decode cX7_grown 128 = .ok (.iconst 1, 1) := by decide +kernel
theorem dX7_grown_129 : decode cX7_grown 129 = .ok (.iload 5, 2) := by decide +kernel
theorem dX7_grown_131 : decode cX7_grown 131 = .ok (.iastore, 1) := by decide +kernel
theorem dX7_grown_132 : decode cX7_grown 132 = .ok (.dup, 1) := by decide +kernel
theorem dX7_grown_133 : decode cX7_grown 133 = .ok (.iconst 2, 1) := by decide +kernel
theorem dX7_grown_134 : decode cX7_grown 134 = .ok (.iconst 0, 1) := by decide +kernel
theorem dX7_grown_135 : decode cX7_grown 135 = .ok (.iastore, 1) := by decide +kernel
theorem dX7_grown_136 : decode cX7_grown 136 = .ok (.dup, 1) := by decide +kernel
theorem dX7_grown_137 : decode cX7_grown 137 = .ok (.iconst 3, 1) := by decide +kernel
theorem dX7_grown_138 : decode cX7_grown 138 = .ok (.iconst 1, 1) := by decide +kernel
theorem dX7_grown_139 : decode cX7_grown 139 = .ok (.iastore, 1) := by decide +kernel
theorem dX7_grown_140 : decode cX7_grown 140 = .ok (.dup, 1) := by decide +kernel
theorem dX7_grown_141 : decode cX7_grown 141 = .ok (.iconst 4, 1) := by decide +kernel
theorem dX7_grown_142 : decode cX7_grown 142 = .ok (.iconst 1, 1) := by decide +kernel
theorem dX7_grown_143 : decode cX7_grown 143 = .ok (.iastore, 1) := by decide +kernel
theorem dX7_grown_144 : decode cX7_grown 144 = .ok (.invokeinterface 58 2, 5) := by decide +kernel
theorem dX7_grown_149 : decode cX7_grown 149 = .ok (.pop, 1) := by decide +kernel
theorem dX7_grown_150 : decode cX7_grown 150 = .ok (.aload_n 2, 1) := by decide +kernel
theorem dX7_grown_151 : decode cX7_grown 151 = .ok (.ldc 64, 2) := by decide +kernel
theorem dX7_grown_153 : decode cX7_grown 153 = .ok (.invokevirtual 49, 3) := by decide +kernel
theorem dX7_grown_156 : decode cX7_grown 156 = .ok (.aload_n 1, 1) := by decide +kernel
theorem dX7_grown_157 : decode cX7_grown 157 = .ok (.getfield 19, 3) := by decide +kernel
theorem dX7_grown_160 : decode cX7_grown 160 = .ok (.iload 4, 2) := by decide +kernel
theorem dX7_grown_162 : decode cX7_grown 162 = .ok (.invokeinterface 66 2, 5) := by decide +kernel
theorem dX7_grown_167 : decode cX7_grown 167 = .ok (.checkcast 70, 3) := by decide +kernel
theorem dX7_grown_170 : decode cX7_grown 170 = .ok (.iconst 0, 1) := by decide +kernel
theorem dX7_grown_171 : decode cX7_grown 171 = .ok (.iaload, 1) := by decide +kernel
theorem dX7_grown_172 : decode cX7_grown 172 = .ok (.invokevirtual 53, 3) := by decide +kernel
theorem dX7_grown_175 : decode cX7_grown 175 = .ok (.pop, 1) := by decide +kernel
theorem dX7_grown_176 : decode cX7_grown 176 = .ok (.iload 5, 2) := by decide +kernel
theorem dX7_grown_178 : decode cX7_grown 178 = .ok (.ifCond .eq 13, 3) := by decide +kernel
theorem dX7_grown_181 : decode cX7_grown 181 = .ok (.aload_n 2, 1) := by decide +kernel
theorem dX7_grown_182 : decode cX7_grown 182 = .ok (.iload 5, 2) := by decide +kernel
theorem dX7_grown_184 : decode cX7_grown 184 = .ok (.invokestatic 72, 3) := by decide +kernel
theorem dX7_grown_187 : decode cX7_grown 187 = .ok (.invokevirtual 49, 3) := by decide +kernel
theorem dX7_grown_190 : decode cX7_grown 190 = .ok (.pop, 1) := by decide +kernel
theorem dX7_grown_191 : decode cX7_grown 191 = .ok (.aload_n 2, 1) := by decide +kernel
theorem dX7_grown_192 : decode cX7_grown 192 = .ok (.ldc 76, 2) := by decide +kernel
theorem dX7_grown_194 : decode cX7_grown 194 = .ok (.invokevirtual 49, 3) := by decide +kernel
theorem dX7_grown_197 : decode cX7_grown 197 = .ok (.pop, 1) := by decide +kernel
theorem dX7_grown_198 : decode cX7_grown 198 = .ok (.iinc 4 1, 3) := by decide +kernel
theorem dX7_grown_201 : decode cX7_grown 201 = .ok (.goto (-135), 3) := by decide +kernel
theorem dX7_grown_204 : decode cX7_grown 204 = .ok (.iconst 0, 1) := by decide +kernel
theorem dX7_grown_205 : decode cX7_grown 205 = .ok (.istore 4, 2) := by decide +kernel
theorem dX7_grown_207 : decode cX7_grown 207 = .ok (.iload 4, 2) := by decide +kernel
theorem dX7_grown_209 : decode cX7_grown 209 = .ok (.aload_n 0, 1) := by decide +kernel
theorem dX7_grown_210 : decode cX7_grown 210 = .ok (.iconst 4, 1) := by decide +kernel
theorem dX7_grown_211 : decode cX7_grown 211 = .ok (.bipush 8, 2) := by decide +kernel
theorem dX7_grown_213 : decode cX7_grown 213 = .ok (.invokestatic 41, 3) := by decide +kernel
theorem dX7_grown_216 : decode cX7_grown 216 = .ok (.if_icmp .ge 175, 3) := by decide +kernel
theorem dX7_grown_219 : decode cX7_grown 219 = .ok (.bipush 6, 2) := by decide +kernel
theorem dX7_grown_221 : decode cX7_grown 221 = .ok (.newarray .int, 2) := by decide +kernel
theorem dX7_grown_223 : decode cX7_grown 223 = .ok (.dup, 1) := by decide +kernel
theorem dX7_grown_224 : decode cX7_grown 224 = .ok (.iconst 0, 1) := by decide +kernel
theorem dX7_grown_225 : decode cX7_grown 225 = .ok (.aload_n 0, 1) := by decide +kernel
theorem dX7_grown_226 : decode cX7_grown 226 = .ok (.bipush 40, 2) := by decide +kernel
theorem dX7_grown_228 : decode cX7_grown 228 = .ok (.iload 4, 2) := by decide +kernel
theorem dX7_grown_230 : decode cX7_grown 230 = .ok (.iadd, 1) := by decide +kernel
theorem dX7_grown_231 : decode cX7_grown 231 = .ok (.iconst 2, 1) := by decide +kernel
theorem dX7_grown_232 : decode cX7_grown 232 = .ok (.invokestatic 41, 3) := by decide +kernel
theorem dX7_grown_235 : decode cX7_grown 235 = .ok (.iastore, 1) := by decide +kernel
theorem dX7_grown_236 : decode cX7_grown 236 = .ok (.dup, 1) := by decide +kernel
theorem dX7_grown_237 : decode cX7_grown 237 = .ok (.iconst 1, 1) := by decide +kernel
theorem dX7_grown_238 : decode cX7_grown 238 = .ok (.aload_n 0, 1) := by decide +kernel
theorem dX7_grown_239 : decode cX7_grown 239 = .ok (.bipush 50, 2) := by decide +kernel
theorem dX7_grown_241 : decode cX7_grown 241 = .ok (.iload 4, 2) := by decide +kernel
theorem dX7_grown_243 : decode cX7_grown 243 = .ok (.iadd, 1) := by decide +kernel
theorem dX7_grown_244 : decode cX7_grown 244 = .ok (.bipush 12, 2) := by decide +kernel
theorem dX7_grown_246 : decode cX7_grown 246 = .ok (.invokestatic 41, 3) := by decide +kernel
theorem dX7_grown_249 : decode cX7_grown 249 = .ok (.iastore, 1) := by decide +kernel
theorem dX7_grown_250 : decode cX7_grown 250 = .ok (.dup, 1) := by decide +kernel
theorem dX7_grown_251 : decode cX7_grown 251 = .ok (.iconst 2, 1) := by decide +kernel
theorem dX7_grown_252 : decode cX7_grown 252 = .ok (.aload_n 0, 1) := by decide +kernel
theorem dX7_grown_253 : decode cX7_grown 253 = .ok (.bipush 60, 2) := by decide +kernel
theorem dX7_grown_255 : decode cX7_grown 255 = .ok (.iload 4, 2) := by decide +kernel
theorem dX7_grown_257 : decode cX7_grown 257 = .ok (.iadd, 1) := by decide +kernel
theorem dX7_grown_258 : decode cX7_grown 258 = .ok (.iconst 5, 1) := by decide +kernel
theorem dX7_grown_259 : decode cX7_grown 259 = .ok (.invokestatic 41, 3) := by decide +kernel
theorem dX7_grown_262 : decode cX7_grown 262 = .ok (.iastore, 1) := by decide +kernel
theorem dX7_grown_263 : decode cX7_grown 263 = .ok (.dup, 1) := by decide +kernel
theorem dX7_grown_264 : decode cX7_grown 264 = .ok (.iconst 3, 1) := by decide +kernel
theorem dX7_grown_265 : decode cX7_grown 265 = .ok (.iconst 1, 1) := by decide +kernel
theorem dX7_grown_266 : decode cX7_grown 266 = .ok (.aload_n 0, 1) := by decide +kernel
theorem dX7_grown_267 : decode cX7_grown 267 = .ok (.bipush 70, 2) := by decide +kernel
theorem dX7_grown_269 : decode cX7_grown 269 = .ok (.iload 4, 2) := by decide +kernel
theorem dX7_grown_271 : decode cX7_grown 271 = .ok (.iadd, 1) := by decide +kernel
theorem dX7_grown_272 : decode cX7_grown 272 = .ok (.bipush 20, 2) := by decide +kernel
theorem dX7_grown_274 : decode cX7_grown 274 = .ok (.invokestatic 41, 3) := by decide +kernel
theorem dX7_grown_277 : decode cX7_grown 277 = .ok (.iadd, 1) := by decide +kernel
theorem dX7_grown_278 : decode cX7_grown 278 = .ok (.iastore, 1) := by decide +kernel
theorem dX7_grown_279 : decode cX7_grown 279 = .ok (.dup, 1) := by decide +kernel
theorem dX7_grown_280 : decode cX7_grown 280 = .ok (.iconst 4, 1) := by decide +kernel
theorem dX7_grown_281 : decode cX7_grown 281 = .ok (.iconst 1, 1) := by decide +kernel
theorem dX7_grown_282 : decode cX7_grown 282 = .ok (.aload_n 0, 1) := by decide +kernel
theorem dX7_grown_283 : decode cX7_grown 283 = .ok (.bipush 80, 2) := by decide +kernel
theorem dX7_grown_285 : decode cX7_grown 285 = .ok (.iload 4, 2) := by decide +kernel
theorem dX7_grown_287 : decode cX7_grown 287 = .ok (.iadd, 1) := by decide +kernel
theorem dX7_grown_288 : decode cX7_grown 288 = .ok (.iconst 4, 1) := by decide +kernel
theorem dX7_grown_289 : decode cX7_grown 289 = .ok (.invokestatic 41, 3) := by decide +kernel
theorem dX7_grown_292 : decode cX7_grown 292 = .ok (.iadd, 1) := by decide +kernel
theorem dX7_grown_293 : decode cX7_grown 293 = .ok (.iastore, 1) := by decide +kernel
theorem dX7_grown_294 : decode cX7_grown 294 = .ok (.dup, 1) := by decide +kernel
theorem dX7_grown_295 : decode cX7_grown 295 = .ok (.iconst 5, 1) := by decide +kernel
theorem dX7_grown_296 : decode cX7_grown 296 = .ok (.iconst 1, 1) := by decide +kernel
theorem dX7_grown_297 : decode cX7_grown 297 = .ok (.aload_n 0, 1) := by decide +kernel
theorem dX7_grown_298 : decode cX7_grown 298 = .ok (.bipush 90, 2) := by decide +kernel
theorem dX7_grown_300 : decode cX7_grown 300 = .ok (.iload 4, 2) := by decide +kernel
theorem dX7_grown_302 : decode cX7_grown 302 = .ok (.iadd, 1) := by decide +kernel
theorem dX7_grown_303 : decode cX7_grown 303 = .ok (.iconst 3, 1) := by decide +kernel
theorem dX7_grown_304 : decode cX7_grown 304 = .ok (.invokestatic 41, 3) := by decide +kernel
theorem dX7_grown_307 : decode cX7_grown 307 = .ok (.iadd, 1) := by decide +kernel
theorem dX7_grown_308 : decode cX7_grown 308 = .ok (.iastore, 1) := by decide +kernel
theorem dX7_grown_309 : decode cX7_grown 309 = .ok (.astore 5, 2) := by decide +kernel
theorem dX7_grown_311 : decode cX7_grown 311 = .ok (.aload_n 2, 1) := by decide +kernel
theorem dX7_grown_312 : decode cX7_grown 312 = .ok (.ldc 78, 2) := by decide +kernel
theorem dX7_grown_314 : decode cX7_grown 314 = .ok (.invokevirtual 49, 3) := by decide +kernel
theorem dX7_grown_317 : decode cX7_grown 317 = .ok (.aload 5, 2) := by decide +kernel
theorem dX7_grown_319 : decode cX7_grown 319 = .ok (.iconst 0, 1) := by decide +kernel
theorem dX7_grown_320 : decode cX7_grown 320 = .ok (.iaload, 1) := by decide +kernel
theorem dX7_grown_321 : decode cX7_grown 321 = .ok (.ifCond .ne 8, 3) := by decide +kernel
theorem dX7_grown_324 : decode cX7_grown 324 = .ok (.ldc 80, 2) := by decide +kernel
theorem dX7_grown_326 : decode cX7_grown 326 = .ok (.goto 5, 3) := by decide +kernel
theorem dX7_grown_329 : decode cX7_grown 329 = .ok (.ldc 82, 2) := by decide +kernel
theorem dX7_grown_331 : decode cX7_grown 331 = .ok (.invokevirtual 49, 3) := by decide +kernel
theorem dX7_grown_334 : decode cX7_grown 334 = .ok (.pop, 1) := by decide +kernel
theorem dX7_grown_335 : decode cX7_grown 335 = .ok (.iconst 1, 1) := by decide +kernel
theorem dX7_grown_336 : decode cX7_grown 336 = .ok (.istore 6, 2) := by decide +kernel
theorem dX7_grown_338 : decode cX7_grown 338 = .ok (.iload 6, 2) := by decide +kernel
theorem dX7_grown_340 : decode cX7_grown 340 = .ok (.bipush 6, 2) := by decide +kernel
theorem dX7_grown_342 : decode cX7_grown 342 = .ok (.if_icmp .ge 24, 3) := by decide +kernel
theorem dX7_grown_345 : decode cX7_grown 345 = .ok (.aload_n 2, 1) := by decide +kernel
theorem dX7_grown_346 : decode cX7_grown 346 = .ok (.ldc 84, 2) := by decide +kernel
theorem dX7_grown_348 : decode cX7_grown 348 = .ok (.invokevirtual 49, 3) := by decide +kernel
theorem dX7_grown_351 : decode cX7_grown 351 = .ok (.aload 5, 2) := by decide +kernel
theorem dX7_grown_353 : decode cX7_grown 353 = .ok (.iload 6, 2) := by decide +kernel
theorem dX7_grown_355 : decode cX7_grown 355 = .ok (.iaload, 1) := by decide +kernel
theorem dX7_grown_356 : decode cX7_grown 356 = .ok (.invokevirtual 53, 3) := by decide +kernel
theorem dX7_grown_359 : decode cX7_grown 359 = .ok (.pop, 1) := by decide +kernel
theorem dX7_grown_360 : decode cX7_grown 360 = .ok (.iinc 6 1, 3) := by decide +kernel
theorem dX7_grown_363 : decode cX7_grown 363 = .ok (.goto (-25), 3) := by decide +kernel
theorem dX7_grown_366 : decode cX7_grown 366 = .ok (.aload_n 2, 1) := by decide +kernel
theorem dX7_grown_367 : decode cX7_grown 367 = .ok (.ldc 56, 2) := by decide +kernel
theorem dX7_grown_369 : decode cX7_grown 369 = .ok (.invokevirtual 49, 3) := by decide +kernel
theorem dX7_grown_372 : decode cX7_grown 372 = .ok (.pop, 1) := by decide +kernel
theorem dX7_grown_373 : decode cX7_grown 373 = .ok (.aload_n 1, 1) := by decide +kernel
theorem dX7_grown_374 : decode cX7_grown 374 = .ok (.getfield 23, 3) := by decide +kernel
theorem dX7_grown_377 : decode cX7_grown 377 = .ok (.aload 5, 2) := by decide +kernel
theorem dX7_grown_379 : decode cX7_grown 379 = .ok (.invokeinterface 58 2, 5) := by decide +kernel
theorem dX7_grown_384 : decode cX7_grown 384 = .ok (.pop, 1) := by decide +kernel
theorem dX7_grown_385 : decode cX7_grown 385 = .ok (.iinc 4 1, 3) := by decide +kernel
theorem dX7_grown_388 : decode cX7_grown 388 = .ok (.goto (-181), 3) := by decide +kernel
theorem dX7_grown_391 : decode cX7_grown 391 = .ok (.aload_n 0, 1) := by decide +kernel
theorem dX7_grown_392 : decode cX7_grown 392 = .ok (.iconst 5, 1) := by decide +kernel
theorem dX7_grown_393 : decode cX7_grown 393 = .ok (.iconst 2, 1) := by decide +kernel
theorem dX7_grown_394 : decode cX7_grown 394 = .ok (.invokestatic 41, 3) := by decide +kernel
theorem dX7_grown_397 : decode cX7_grown 397 = .ok (.ifCond .ne 35, 3) := by decide +kernel
theorem dX7_grown_400 : decode cX7_grown 400 = .ok (.aload_n 1, 1) := by decide +kernel
theorem dX7_grown_401 : decode cX7_grown 401 = .ok (.iconst 1, 1) := by decide +kernel
theorem dX7_grown_402 : decode cX7_grown 402 = .ok (.aload_n 0, 1) := by decide +kernel
theorem dX7_grown_403 : decode cX7_grown 403 = .ok (.bipush 6, 2) := by decide +kernel
theorem dX7_grown_405 : decode cX7_grown 405 = .ok (.iconst 4, 1) := by decide +kernel
theorem dX7_grown_406 : decode cX7_grown 406 = .ok (.invokestatic 41, 3) := by decide +kernel
theorem dX7_grown_409 : decode cX7_grown 409 = .ok (.iadd, 1) := by decide +kernel
theorem dX7_grown_410 : decode cX7_grown 410 = .ok (.putfield 13, 3) := by decide +kernel
theorem dX7_grown_413 : decode cX7_grown 413 = .ok (.aload_n 2, 1) := by decide +kernel
theorem dX7_grown_414 : decode cX7_grown 414 = .ok (.ldc 86, 2) := by decide +kernel
theorem dX7_grown_416 : decode cX7_grown 416 = .ok (.invokevirtual 49, 3) := by decide +kernel
theorem dX7_grown_419 : decode cX7_grown 419 = .ok (.aload_n 1, 1) := by decide +kernel
theorem dX7_grown_420 : decode cX7_grown 420 = .ok (.getfield 13, 3) := by decide +kernel
theorem dX7_grown_423 : decode cX7_grown 423 = .ok (.invokevirtual 53, 3) := by decide +kernel
theorem dX7_grown_426 : decode cX7_grown 426 = .ok (.ldc 56, 2) := by decide +kernel
theorem dX7_grown_428 : decode cX7_grown 428 = .ok (.invokevirtual 49, 3) := by decide +kernel
theorem dX7_grown_431 : decode cX7_grown 431 = .ok (.pop, 1) := by decide +kernel
theorem dX7_grown_432 : decode cX7_grown 432 = .ok (.iconst 0, 1) := by decide +kernel
theorem dX7_grown_433 : decode cX7_grown 433 = .ok (.istore 4, 2) := by decide +kernel
theorem dX7_grown_435 : decode cX7_grown 435 = .ok (.iload 4, 2) := by decide +kernel
theorem dX7_grown_437 : decode cX7_grown 437 = .ok (.iconst 2, 1) := by decide +kernel
theorem dX7_grown_438 : decode cX7_grown 438 = .ok (.if_icmp .ge 68, 3) := by decide +kernel
theorem dX7_grown_441 : decode cX7_grown 441 = .ok (.iconst 0, 1) := by decide +kernel
theorem dX7_grown_442 : decode cX7_grown 442 = .ok (.istore 5, 2) := by decide +kernel
theorem dX7_grown_444 : decode cX7_grown 444 = .ok (.iload 5, 2) := by decide +kernel
theorem dX7_grown_446 : decode cX7_grown 446 = .ok (.aload_n 1, 1) := by decide +kernel
theorem dX7_grown_447 : decode cX7_grown 447 = .ok (.invokevirtual 87, 3) := by decide +kernel
theorem dX7_grown_450 : decode cX7_grown 450 = .ok (.if_icmp .ge 50, 3) := by decide +kernel
theorem dX7_grown_453 : decode cX7_grown 453 = .ok (.iconst 0, 1) := by decide +kernel
theorem dX7_grown_454 : decode cX7_grown 454 = .ok (.istore 6, 2) := by decide +kernel
theorem dX7_grown_456 : decode cX7_grown 456 = .ok (.iload 6, 2) := by decide +kernel
theorem dX7_grown_458 : decode cX7_grown 458 = .ok (.aload_n 1, 1) := by decide +kernel
theorem dX7_grown_459 : decode cX7_grown 459 = .ok (.getfield 7, 3) := by decide +kernel
theorem dX7_grown_462 : decode cX7_grown 462 = .ok (.if_icmp .ge 32, 3) := by decide +kernel
theorem dX7_grown_465 : decode cX7_grown 465 = .ok (.aload_n 1, 1) := by decide +kernel
theorem dX7_grown_466 : decode cX7_grown 466 = .ok (.getfield 28, 3) := by decide +kernel
theorem dX7_grown_469 : decode cX7_grown 469 = .ok (.iload 4, 2) := by decide +kernel
theorem dX7_grown_471 : decode cX7_grown 471 = .ok (.aaload, 1) := by decide +kernel
theorem dX7_grown_472 : decode cX7_grown 472 = .ok (.iload 5, 2) := by decide +kernel
theorem dX7_grown_474 : decode cX7_grown 474 = .ok (.aaload, 1) := by decide +kernel
theorem dX7_grown_475 : decode cX7_grown 475 = .ok (.iload 6, 2) := by decide +kernel
theorem dX7_grown_477 : decode cX7_grown 477 = .ok (.aload_n 1, 1) := by decide +kernel
theorem dX7_grown_478 : decode cX7_grown 478 = .ok (.iload 4, 2) := by decide +kernel
theorem dX7_grown_480 : decode cX7_grown 480 = .ok (.iload 5, 2) := by decide +kernel
theorem dX7_grown_482 : decode cX7_grown 482 = .ok (.iload 6, 2) := by decide +kernel
theorem dX7_grown_484 : decode cX7_grown 484 = .ok (.invokevirtual 91, 3) := by decide +kernel
theorem dX7_grown_487 : decode cX7_grown 487 = .ok (.iastore, 1) := by decide +kernel
theorem dX7_grown_488 : decode cX7_grown 488 = .ok (.iinc 6 1, 3) := by decide +kernel
theorem dX7_grown_491 : decode cX7_grown 491 = .ok (.goto (-35), 3) := by decide +kernel
theorem dX7_grown_494 : decode cX7_grown 494 = .ok (.iinc 5 1, 3) := by decide +kernel
theorem dX7_grown_497 : decode cX7_grown 497 = .ok (.goto (-53), 3) := by decide +kernel
theorem dX7_grown_500 : decode cX7_grown 500 = .ok (.iinc 4 1, 3) := by decide +kernel
theorem dX7_grown_503 : decode cX7_grown 503 = .ok (.goto (-68), 3) := by decide +kernel
theorem dX7_grown_506 : decode cX7_grown 506 = .ok (.aload_n 1, 1) := by decide +kernel
theorem dX7_grown_507 : decode cX7_grown 507 = .ok (.aload_n 2, 1) := by decide +kernel
theorem dX7_grown_508 : decode cX7_grown 508 = .ok (.invokevirtual 95, 3) := by decide +kernel
theorem dX7_grown_511 : decode cX7_grown 511 = .ok (.putfield 33, 3) := by decide +kernel
theorem dX7_grown_514 : decode cX7_grown 514 = .ok (.aload_n 1, 1) := by decide +kernel
theorem dX7_grown_515 : decode cX7_grown 515 = .ok (.areturn, 1) := by decide +kernel
theorem dX7_first_0 : decode cX7_first 0 = .ok (.iconst 0, 1) := by decide +kernel
theorem dX7_first_1 : decode cX7_first 1 = .ok (.istore_n 2, 1) := by decide +kernel
theorem dX7_first_2 : decode cX7_first 2 = .ok (.iconst 0, 1) := by decide +kernel
theorem dX7_first_3 : decode cX7_first 3 = .ok (.istore_n 3, 1) := by decide +kernel
theorem dX7_first_4 : decode cX7_first 4 = .ok (.iload_n 3, 1) := by decide +kernel
theorem dX7_first_5 : decode cX7_first 5 = .ok (.iload_n 1, 1) := by decide +kernel
theorem dX7_first_6 : decode cX7_first 6 = .ok (.if_icmp .ge 27, 3) := by decide +kernel
theorem dX7_first_9 : decode cX7_first 9 = .ok (.iload_n 2, 1) := by decide +kernel
theorem dX7_first_10 : decode cX7_first 10 = .ok (.aload_n 0, 1) := by decide +kernel
theorem dX7_first_11 : decode cX7_first 11 = .ok (.getfield 19, 3) := by decide +kernel
theorem dX7_first_14 : decode cX7_first 14 = .ok (.iload_n 3, 1) := by decide +kernel
theorem dX7_first_15 : decode cX7_first 15 = .ok (.invokeinterface 66 2, 5) := by decide +kernel
theorem dX7_first_20 : decode cX7_first 20 = .ok (.checkcast 70, 3) := by decide +kernel
theorem dX7_first_23 : decode cX7_first 23 = .ok (.iconst 0, 1) := by decide +kernel
theorem dX7_first_24 : decode cX7_first 24 = .ok (.iaload, 1) := by decide +kernel
theorem dX7_first_25 : decode cX7_first 25 = .ok (.iadd, 1) := by decide +kernel
theorem dX7_first_26 : decode cX7_first 26 = .ok (.istore_n 2, 1) := by decide +kernel
theorem dX7_first_27 : decode cX7_first 27 = .ok (.iinc 3 1, 3) := by decide +kernel
theorem dX7_first_30 : decode cX7_first 30 = .ok (.goto (-26), 3) := by decide +kernel
theorem dX7_first_33 : decode cX7_first 33 = .ok (.iload_n 2, 1) := by decide +kernel
theorem dX7_first_34 : decode cX7_first 34 = .ok (.ireturn, 1) := by decide +kernel
theorem dX7_columns_0 : decode cX7_columns 0 = .ok (.aload_n 0, 1) := by decide +kernel
theorem dX7_columns_1 : decode cX7_columns 1 = .ok (.aload_n 0, 1) := by decide +kernel
theorem dX7_columns_2 : decode cX7_columns 2 = .ok (.getfield 19, 3) := by decide +kernel
theorem dX7_columns_5 : decode cX7_columns 5 = .ok (.invokeinterface 116 1, 5) := by decide +kernel
theorem dX7_columns_10 : decode cX7_columns 10 = .ok (.invokevirtual 119, 3) := by decide +kernel
theorem dX7_columns_13 : decode cX7_columns 13 = .ok (.ireturn, 1) := by decide +kernel
theorem dX7_picture_0 : decode cX7_picture 0 = .ok (.aload_n 0, 1) := by decide +kernel
theorem dX7_picture_1 : decode cX7_picture 1 = .ok (.getfield 23, 3) := by decide +kernel
theorem dX7_picture_4 : decode cX7_picture 4 = .ok (.invokeinterface 116 1, 5) := by decide +kernel
theorem dX7_picture_9 : decode cX7_picture 9 = .ok (.iconst 1, 1) := by decide +kernel
theorem dX7_picture_10 : decode cX7_picture 10 = .ok (.isub, 1) := by decide +kernel
theorem dX7_picture_11 : decode cX7_picture 11 = .ok (.istore 4, 2) := by decide +kernel
theorem dX7_picture_13 : decode cX7_picture 13 = .ok (.iload 4, 2) := by decide +kernel
theorem dX7_picture_15 : decode cX7_picture 15 = .ok (.ifCond .lt 80, 3) := by decide +kernel
theorem dX7_picture_18 : decode cX7_picture 18 = .ok (.aload_n 0, 1) := by decide +kernel
theorem dX7_picture_19 : decode cX7_picture 19 = .ok (.getfield 23, 3) := by decide +kernel
theorem dX7_picture_22 : decode cX7_picture 22 = .ok (.iload 4, 2) := by decide +kernel
theorem dX7_picture_24 : decode cX7_picture 24 = .ok (.invokeinterface 66 2, 5) := by decide +kernel
theorem dX7_picture_29 : decode cX7_picture 29 = .ok (.checkcast 70, 3) := by decide +kernel
theorem dX7_picture_32 : decode cX7_picture 32 = .ok (.astore 5, 2) := by decide +kernel
theorem dX7_picture_34 : decode cX7_picture 34 = .ok (.aload 5, 2) := by decide +kernel
theorem dX7_picture_36 : decode cX7_picture 36 = .ok (.iconst 0, 1) := by decide +kernel
theorem dX7_picture_37 : decode cX7_picture 37 = .ok (.iaload, 1) := by decide +kernel
theorem dX7_picture_38 : decode cX7_picture 38 = .ok (.iload_n 1, 1) := by decide +kernel
theorem dX7_picture_39 : decode cX7_picture 39 = .ok (.if_icmp .ne 50, 3) := by decide +kernel
theorem dX7_picture_42 : decode cX7_picture 42 = .ok (.iload_n 2, 1) := by decide +kernel
theorem dX7_picture_43 : decode cX7_picture 43 = .ok (.aload 5, 2) := by decide +kernel
theorem dX7_picture_45 : decode cX7_picture 45 = .ok (.iconst 1, 1) := by decide +kernel
theorem dX7_picture_46 : decode cX7_picture 46 = .ok (.iaload, 1) := by decide +kernel
theorem dX7_picture_47 : decode cX7_picture 47 = .ok (.if_icmp .lt 42, 3) := by decide +kernel
theorem dX7_picture_50 : decode cX7_picture 50 = .ok (.iload_n 2, 1) := by decide +kernel
theorem dX7_picture_51 : decode cX7_picture 51 = .ok (.aload 5, 2) := by decide +kernel
theorem dX7_picture_53 : decode cX7_picture 53 = .ok (.iconst 1, 1) := by decide +kernel
theorem dX7_picture_54 : decode cX7_picture 54 = .ok (.iaload, 1) := by decide +kernel
theorem dX7_picture_55 : decode cX7_picture 55 = .ok (.aload 5, 2) := by decide +kernel
theorem dX7_picture_57 : decode cX7_picture 57 = .ok (.iconst 3, 1) := by decide +kernel
theorem dX7_picture_58 : decode cX7_picture 58 = .ok (.iaload, 1) := by decide +kernel
theorem dX7_picture_59 : decode cX7_picture 59 = .ok (.iadd, 1) := by decide +kernel
theorem dX7_picture_60 : decode cX7_picture 60 = .ok (.if_icmp .ge 29, 3) := by decide +kernel
theorem dX7_picture_63 : decode cX7_picture 63 = .ok (.iload_n 3, 1) := by decide +kernel
theorem dX7_picture_64 : decode cX7_picture 64 = .ok (.aload 5, 2) := by decide +kernel
theorem dX7_picture_66 : decode cX7_picture 66 = .ok (.iconst 2, 1) := by decide +kernel
theorem dX7_picture_67 : decode cX7_picture 67 = .ok (.iaload, 1) := by decide +kernel
theorem dX7_picture_68 : decode cX7_picture 68 = .ok (.if_icmp .lt 21, 3) := by decide +kernel
theorem dX7_picture_71 : decode cX7_picture 71 = .ok (.iload_n 3, 1) := by decide +kernel
theorem dX7_picture_72 : decode cX7_picture 72 = .ok (.aload 5, 2) := by decide +kernel
theorem dX7_picture_74 : decode cX7_picture 74 = .ok (.iconst 2, 1) := by decide +kernel
theorem dX7_picture_75 : decode cX7_picture 75 = .ok (.iaload, 1) := by decide +kernel
theorem dX7_picture_76 : decode cX7_picture 76 = .ok (.aload 5, 2) := by decide +kernel
theorem dX7_picture_78 : decode cX7_picture 78 = .ok (.iconst 4, 1) := by decide +kernel
theorem dX7_picture_79 : decode cX7_picture 79 = .ok (.iaload, 1) := by decide +kernel
theorem dX7_picture_80 : decode cX7_picture 80 = .ok (.iadd, 1) := by decide +kernel
theorem dX7_picture_81 : decode cX7_picture 81 = .ok (.if_icmp .ge 8, 3) := by decide +kernel
theorem dX7_picture_84 : decode cX7_picture 84 = .ok (.aload 5, 2) := by decide +kernel
theorem dX7_picture_86 : decode cX7_picture 86 = .ok (.iconst 5, 1) := by decide +kernel
theorem dX7_picture_87 : decode cX7_picture 87 = .ok (.iaload, 1) := by decide +kernel
theorem dX7_picture_88 : decode cX7_picture 88 = .ok (.ireturn, 1) := by decide +kernel
theorem dX7_picture_89 : decode cX7_picture 89 = .ok (.iinc 4 (-1), 3) := by decide +kernel
theorem dX7_picture_92 : decode cX7_picture 92 = .ok (.goto (-79), 3) := by decide +kernel
theorem dX7_picture_95 : decode cX7_picture 95 = .ok (.iconst 0, 1) := by decide +kernel
theorem dX7_picture_96 : decode cX7_picture 96 = .ok (.ireturn, 1) := by decide +kernel
theorem dX7_seam_0 : decode cX7_seam 0 = .ok (.iload_n 1, 1) := by decide +kernel
theorem dX7_seam_1 : decode cX7_seam 1 = .ok (.iconst 1, 1) := by decide +kernel
theorem dX7_seam_2 : decode cX7_seam 2 = .ok (.iadd, 1) := by decide +kernel
theorem dX7_seam_3 : decode cX7_seam 3 = .ok (.aload_n 0, 1) := by decide +kernel
theorem dX7_seam_4 : decode cX7_seam 4 = .ok (.getfield 19, 3) := by decide +kernel
theorem dX7_seam_7 : decode cX7_seam 7 = .ok (.invokeinterface 116 1, 5) := by decide +kernel
theorem dX7_seam_12 : decode cX7_seam 12 = .ok (.if_icmp .ge 39, 3) := by decide +kernel
theorem dX7_seam_15 : decode cX7_seam 15 = .ok (.aload_n 0, 1) := by decide +kernel
theorem dX7_seam_16 : decode cX7_seam 16 = .ok (.getfield 19, 3) := by decide +kernel
theorem dX7_seam_19 : decode cX7_seam 19 = .ok (.iload_n 1, 1) := by decide +kernel
theorem dX7_seam_20 : decode cX7_seam 20 = .ok (.invokeinterface 66 2, 5) := by decide +kernel
theorem dX7_seam_25 : decode cX7_seam 25 = .ok (.checkcast 70, 3) := by decide +kernel
theorem dX7_seam_28 : decode cX7_seam 28 = .ok (.iconst 1, 1) := by decide +kernel
theorem dX7_seam_29 : decode cX7_seam 29 = .ok (.iaload, 1) := by decide +kernel
theorem dX7_seam_30 : decode cX7_seam 30 = .ok (.aload_n 0, 1) := by decide +kernel
theorem dX7_seam_31 : decode cX7_seam 31 = .ok (.getfield 19, 3) := by decide +kernel
theorem dX7_seam_34 : decode cX7_seam 34 = .ok (.iload_n 1, 1) := by decide +kernel
theorem dX7_seam_35 : decode cX7_seam 35 = .ok (.iconst 1, 1) := by decide +kernel
theorem dX7_seam_36 : decode cX7_seam 36 = .ok (.iadd, 1) := by decide +kernel
theorem dX7_seam_37 : decode cX7_seam 37 = .ok (.invokeinterface 66 2, 5) := by decide +kernel
theorem dX7_seam_42 : decode cX7_seam 42 = .ok (.checkcast 70, 3) := by decide +kernel
theorem dX7_seam_45 : decode cX7_seam 45 = .ok (.iconst 1, 1) := by decide +kernel
theorem dX7_seam_46 : decode cX7_seam 46 = .ok (.iaload, 1) := by decide +kernel
theorem dX7_seam_47 : decode cX7_seam 47 = .ok (.isub, 1) := by decide +kernel
theorem dX7_seam_48 : decode cX7_seam 48 = .ok (.goto 4, 3) := by decide +kernel
theorem dX7_seam_51 : decode cX7_seam 51 = .ok (.iconst 0, 1) := by decide +kernel
theorem dX7_seam_52 : decode cX7_seam 52 = .ok (.ireturn, 1) := by decide +kernel
theorem dX7_unlike_0 : decode cX7_unlike 0 = .ok (.iconst 0, 1) := by decide +kernel
theorem dX7_unlike_1 : decode cX7_unlike 1 = .ok (.istore_n 3, 1) := by decide +kernel
theorem dX7_unlike_2 : decode cX7_unlike 2 = .ok (.aload_n 0, 1) := by decide +kernel
theorem dX7_unlike_3 : decode cX7_unlike 3 = .ok (.iload_n 1, 1) := by decide +kernel
theorem dX7_unlike_4 : decode cX7_unlike 4 = .ok (.invokevirtual 119, 3) := by decide +kernel
theorem dX7_unlike_7 : decode cX7_unlike 7 = .ok (.istore 4, 2) := by decide +kernel
theorem dX7_unlike_9 : decode cX7_unlike 9 = .ok (.iload 4, 2) := by decide +kernel
theorem dX7_unlike_11 : decode cX7_unlike 11 = .ok (.aload_n 0, 1) := by decide +kernel
theorem dX7_unlike_12 : decode cX7_unlike 12 = .ok (.iload_n 1, 1) := by decide +kernel
theorem dX7_unlike_13 : decode cX7_unlike 13 = .ok (.iconst 1, 1) := by decide +kernel
theorem dX7_unlike_14 : decode cX7_unlike 14 = .ok (.iadd, 1) := by decide +kernel
theorem dX7_unlike_15 : decode cX7_unlike 15 = .ok (.invokevirtual 119, 3) := by decide +kernel
theorem dX7_unlike_18 : decode cX7_unlike 18 = .ok (.if_icmp .ge 59, 3) := by decide +kernel
theorem dX7_unlike_21 : decode cX7_unlike 21 = .ok (.iconst 0, 1) := by decide +kernel
theorem dX7_unlike_22 : decode cX7_unlike 22 = .ok (.istore 5, 2) := by decide +kernel
theorem dX7_unlike_24 : decode cX7_unlike 24 = .ok (.iload 5, 2) := by decide +kernel
theorem dX7_unlike_26 : decode cX7_unlike 26 = .ok (.aload_n 0, 1) := by decide +kernel
theorem dX7_unlike_27 : decode cX7_unlike 27 = .ok (.getfield 7, 3) := by decide +kernel
theorem dX7_unlike_30 : decode cX7_unlike 30 = .ok (.if_icmp .ge 41, 3) := by decide +kernel
theorem dX7_unlike_33 : decode cX7_unlike 33 = .ok (.iload_n 3, 1) := by decide +kernel
theorem dX7_unlike_34 : decode cX7_unlike 34 = .ok (.aload_n 0, 1) := by decide +kernel
theorem dX7_unlike_35 : decode cX7_unlike 35 = .ok (.getfield 28, 3) := by decide +kernel
theorem dX7_unlike_38 : decode cX7_unlike 38 = .ok (.iload_n 2, 1) := by decide +kernel
theorem dX7_unlike_39 : decode cX7_unlike 39 = .ok (.aaload, 1) := by decide +kernel
theorem dX7_unlike_40 : decode cX7_unlike 40 = .ok (.iload 4, 2) := by decide +kernel
theorem dX7_unlike_42 : decode cX7_unlike 42 = .ok (.aaload, 1) := by decide +kernel
theorem dX7_unlike_43 : decode cX7_unlike 43 = .ok (.iload 5, 2) := by decide +kernel
theorem dX7_unlike_45 : decode cX7_unlike 45 = .ok (.iaload, 1) := by decide +kernel
theorem dX7_unlike_46 : decode cX7_unlike 46 = .ok (.aload_n 0, 1) := by decide +kernel
theorem dX7_unlike_47 : decode cX7_unlike 47 = .ok (.iload_n 2, 1) := by decide +kernel
theorem dX7_unlike_48 : decode cX7_unlike 48 = .ok (.iload 4, 2) := by decide +kernel
theorem dX7_unlike_50 : decode cX7_unlike 50 = .ok (.iload 5, 2) := by decide +kernel
theorem dX7_unlike_52 : decode cX7_unlike 52 = .ok (.invokevirtual 91, 3) := by decide +kernel
theorem dX7_unlike_55 : decode cX7_unlike 55 = .ok (.if_icmp .ne 7, 3) := by decide +kernel
theorem dX7_unlike_58 : decode cX7_unlike 58 = .ok (.iconst 0, 1) := by decide +kernel
theorem dX7_unlike_59 : decode cX7_unlike 59 = .ok (.goto 4, 3) := by decide +kernel
theorem dX7_unlike_62 : decode cX7_unlike 62 = .ok (.iconst 1, 1) := by decide +kernel
theorem dX7_unlike_63 : decode cX7_unlike 63 = .ok (.iadd, 1) := by decide +kernel
theorem dX7_unlike_64 : decode cX7_unlike 64 = .ok (.istore_n 3, 1) := by decide +kernel
theorem dX7_unlike_65 : decode cX7_unlike 65 = .ok (.iinc 5 1, 3) := by decide +kernel
theorem dX7_unlike_68 : decode cX7_unlike 68 = .ok (.goto (-44), 3) := by decide +kernel
theorem dX7_unlike_71 : decode cX7_unlike 71 = .ok (.iinc 4 1, 3) := by decide +kernel
theorem dX7_unlike_74 : decode cX7_unlike 74 = .ok (.goto (-65), 3) := by decide +kernel
theorem dX7_unlike_77 : decode cX7_unlike 77 = .ok (.iload_n 3, 1) := by decide +kernel
theorem dX7_unlike_78 : decode cX7_unlike 78 = .ok (.ireturn, 1) := by decide +kernel
theorem dX7_pull_0 : decode cX7_pull 0 = .ok (.iconst 0, 1) := by decide +kernel
theorem dX7_pull_1 : decode cX7_pull 1 = .ok (.istore_n 2, 1) := by decide +kernel
theorem dX7_pull_2 : decode cX7_pull 2 = .ok (.aload_n 0, 1) := by decide +kernel
theorem dX7_pull_3 : decode cX7_pull 3 = .ok (.getfield 19, 3) := by decide +kernel
theorem dX7_pull_6 : decode cX7_pull 6 = .ok (.invokeinterface 99 1, 5) := by decide +kernel
theorem dX7_pull_11 : decode cX7_pull 11 = .ok (.astore_n 3, 1) := by decide +kernel
theorem dX7_pull_12 : decode cX7_pull 12 = .ok (.aload_n 3, 1) := by decide +kernel
theorem dX7_pull_13 : decode cX7_pull 13 = .ok (.invokeinterface 103 1, 5) := by decide +kernel
theorem dX7_pull_18 : decode cX7_pull 18 = .ok (.ifCond .eq 70, 3) := by decide +kernel
theorem dX7_pull_21 : decode cX7_pull 21 = .ok (.aload_n 3, 1) := by decide +kernel
theorem dX7_pull_22 : decode cX7_pull 22 = .ok (.invokeinterface 109 1, 5) := by decide +kernel
theorem dX7_pull_27 : decode cX7_pull 27 = .ok (.checkcast 70, 3) := by decide +kernel
theorem dX7_pull_30 : decode cX7_pull 30 = .ok (.astore 4, 2) := by decide +kernel
theorem dX7_pull_32 : decode cX7_pull 32 = .ok (.aload 4, 2) := by decide +kernel
theorem dX7_pull_34 : decode cX7_pull 34 = .ok (.iconst 1, 1) := by decide +kernel
theorem dX7_pull_35 : decode cX7_pull 35 = .ok (.iaload, 1) := by decide +kernel
theorem dX7_pull_36 : decode cX7_pull 36 = .ok (.istore 5, 2) := by decide +kernel
theorem dX7_pull_38 : decode cX7_pull 38 = .ok (.aload 4, 2) := by decide +kernel
theorem dX7_pull_40 : decode cX7_pull 40 = .ok (.iconst 1, 1) := by decide +kernel
theorem dX7_pull_41 : decode cX7_pull 41 = .ok (.aload 4, 2) := by decide +kernel
theorem dX7_pull_43 : decode cX7_pull 43 = .ok (.iconst 2, 1) := by decide +kernel
theorem dX7_pull_44 : decode cX7_pull 44 = .ok (.iaload, 1) := by decide +kernel
theorem dX7_pull_45 : decode cX7_pull 45 = .ok (.iconst 1, 1) := by decide +kernel
theorem dX7_pull_46 : decode cX7_pull 46 = .ok (.if_icmp .ne 8, 3) := by decide +kernel
theorem dX7_pull_49 : decode cX7_pull 49 = .ok (.iload 5, 2) := by decide +kernel
theorem dX7_pull_51 : decode cX7_pull 51 = .ok (.goto 16, 3) := by decide +kernel
theorem dX7_pull_54 : decode cX7_pull 54 = .ok (.bipush (-4), 2) := by decide +kernel
theorem dX7_pull_56 : decode cX7_pull 56 = .ok (.iconst 4, 1) := by decide +kernel
theorem dX7_pull_57 : decode cX7_pull 57 = .ok (.iload 5, 2) := by decide +kernel
theorem dX7_pull_59 : decode cX7_pull 59 = .ok (.iload_n 1, 1) := by decide +kernel
theorem dX7_pull_60 : decode cX7_pull 60 = .ok (.iadd, 1) := by decide +kernel
theorem dX7_pull_61 : decode cX7_pull 61 = .ok (.invokestatic 123, 3) := by decide +kernel
theorem dX7_pull_64 : decode cX7_pull 64 = .ok (.invokestatic 129, 3) := by decide +kernel
theorem dX7_pull_67 : decode cX7_pull 67 = .ok (.iastore, 1) := by decide +kernel
theorem dX7_pull_68 : decode cX7_pull 68 = .ok (.iload_n 2, 1) := by decide +kernel
theorem dX7_pull_69 : decode cX7_pull 69 = .ok (.aload 4, 2) := by decide +kernel
theorem dX7_pull_71 : decode cX7_pull 71 = .ok (.iconst 1, 1) := by decide +kernel
theorem dX7_pull_72 : decode cX7_pull 72 = .ok (.iaload, 1) := by decide +kernel
theorem dX7_pull_73 : decode cX7_pull 73 = .ok (.iload 5, 2) := by decide +kernel
theorem dX7_pull_75 : decode cX7_pull 75 = .ok (.if_icmp .ne 7, 3) := by decide +kernel
theorem dX7_pull_78 : decode cX7_pull 78 = .ok (.iconst 0, 1) := by decide +kernel
theorem dX7_pull_79 : decode cX7_pull 79 = .ok (.goto 4, 3) := by decide +kernel
theorem dX7_pull_82 : decode cX7_pull 82 = .ok (.iconst 1, 1) := by decide +kernel
theorem dX7_pull_83 : decode cX7_pull 83 = .ok (.iadd, 1) := by decide +kernel
theorem dX7_pull_84 : decode cX7_pull 84 = .ok (.istore_n 2, 1) := by decide +kernel
theorem dX7_pull_85 : decode cX7_pull 85 = .ok (.goto (-73), 3) := by decide +kernel
theorem dX7_pull_88 : decode cX7_pull 88 = .ok (.iload_n 2, 1) := by decide +kernel
theorem dX7_pull_89 : decode cX7_pull 89 = .ok (.ireturn, 1) := by decide +kernel
