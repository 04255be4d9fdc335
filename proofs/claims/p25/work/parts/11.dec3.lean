theorem dL_isLogSo_253 : decode cL_isLogSo 253 = .ok (.invokevirtual 45, 3) := by decide +kernel
theorem dL_isLogSo_256 : decode cL_isLogSo 256 = .ok (.imul, 1) := by decide +kernel
theorem dL_isLogSo_257 : decode cL_isLogSo 257 = .ok (.goto 12, 3) := by decide +kernel
theorem dL_isLogSo_260 : decode cL_isLogSo 260 = .ok (.aload_n 0, 1) := by decide +kernel
theorem dL_isLogSo_261 : decode cL_isLogSo 261 = .ok (.iload 7, 2) := by decide +kernel
theorem dL_isLogSo_263 : decode cL_isLogSo 263 = .ok (.iconst 0, 1) := by decide +kernel
theorem dL_isLogSo_264 : decode cL_isLogSo 264 = .ok (.iload 8, 2) := by decide +kernel
theorem dL_isLogSo_266 : decode cL_isLogSo 266 = .ok (.invokevirtual 45, 3) := by decide +kernel
theorem dL_isLogSo_269 : decode cL_isLogSo 269 = .ok (.istore 9, 2) := by decide +kernel
theorem dL_isLogSo_271 : decode cL_isLogSo 271 = .ok (.iload_n 3, 1) := by decide +kernel
theorem dL_isLogSo_272 : decode cL_isLogSo 272 = .ok (.ifCond .eq 35, 3) := by decide +kernel
theorem dL_isLogSo_275 : decode cL_isLogSo 275 = .ok (.aload_n 0, 1) := by decide +kernel
theorem dL_isLogSo_276 : decode cL_isLogSo 276 = .ok (.iload 7, 2) := by decide +kernel
theorem dL_isLogSo_278 : decode cL_isLogSo 278 = .ok (.iconst 1, 1) := by decide +kernel
theorem dL_isLogSo_279 : decode cL_isLogSo 279 = .ok (.invokevirtual 14, 3) := by decide +kernel
theorem dL_isLogSo_282 : decode cL_isLogSo 282 = .ok (.ifCond .eq 21, 3) := by decide +kernel
theorem dL_isLogSo_285 : decode cL_isLogSo 285 = .ok (.iload 9, 2) := by decide +kernel
theorem dL_isLogSo_287 : decode cL_isLogSo 287 = .ok (.bipush 7, 2) := by decide +kernel
theorem dL_isLogSo_289 : decode cL_isLogSo 289 = .ok (.iload 4, 2) := by decide +kernel
theorem dL_isLogSo_291 : decode cL_isLogSo 291 = .ok (.bipush 9, 2) := by decide +kernel
theorem dL_isLogSo_293 : decode cL_isLogSo 293 = .ok (.irem, 1) := by decide +kernel
theorem dL_isLogSo_294 : decode cL_isLogSo 294 = .ok (.isub, 1) := by decide +kernel
theorem dL_isLogSo_295 : decode cL_isLogSo 295 = .ok (.ishr, 1) := by decide +kernel
theorem dL_isLogSo_296 : decode cL_isLogSo 296 = .ok (.iconst 1, 1) := by decide +kernel
theorem dL_isLogSo_297 : decode cL_isLogSo 297 = .ok (.iand, 1) := by decide +kernel
theorem dL_isLogSo_298 : decode cL_isLogSo 298 = .ok (.iload 6, 2) := by decide +kernel
theorem dL_isLogSo_300 : decode cL_isLogSo 300 = .ok (.if_icmp .ne 7, 3) := by decide +kernel
theorem dL_isLogSo_303 : decode cL_isLogSo 303 = .ok (.iconst 1, 1) := by decide +kernel
theorem dL_isLogSo_304 : decode cL_isLogSo 304 = .ok (.goto 4, 3) := by decide +kernel
theorem dL_isLogSo_307 : decode cL_isLogSo 307 = .ok (.iconst 0, 1) := by decide +kernel
theorem dL_isLogSo_308 : decode cL_isLogSo 308 = .ok (.istore_n 3, 1) := by decide +kernel
theorem dL_isLogSo_309 : decode cL_isLogSo 309 = .ok (.iinc 7 1, 3) := by decide +kernel
theorem dL_isLogSo_312 : decode cL_isLogSo 312 = .ok (.goto (-93), 3) := by decide +kernel
theorem dL_isLogSo_315 : decode cL_isLogSo 315 = .ok (.iinc 4 1, 3) := by decide +kernel
theorem dL_isLogSo_318 : decode cL_isLogSo 318 = .ok (.goto (-192), 3) := by decide +kernel
theorem dL_isLogSo_321 : decode cL_isLogSo 321 = .ok (.iload_n 3, 1) := by decide +kernel
theorem dL_isLogSo_322 : decode cL_isLogSo 322 = .ok (.ireturn, 1) := by decide +kernel
theorem dL_areIfsSo_0 : decode cL_areIfsSo 0 = .ok (.aload_n 0, 1) := by decide +kernel
theorem dL_areIfsSo_1 : decode cL_areIfsSo 1 = .ok (.invokevirtual 55, 3) := by decide +kernel
theorem dL_areIfsSo_4 : decode cL_areIfsSo 4 = .ok (.istore_n 2, 1) := by decide +kernel
theorem dL_areIfsSo_5 : decode cL_areIfsSo 5 = .ok (.aload_n 0, 1) := by decide +kernel
theorem dL_areIfsSo_6 : decode cL_areIfsSo 6 = .ok (.iconst 0, 1) := by decide +kernel
theorem dL_areIfsSo_7 : decode cL_areIfsSo 7 = .ok (.invokevirtual 49, 3) := by decide +kernel
theorem dL_areIfsSo_10 : decode cL_areIfsSo 10 = .ok (.istore_n 3, 1) := by decide +kernel
theorem dL_areIfsSo_11 : decode cL_areIfsSo 11 = .ok (.iconst 0, 1) := by decide +kernel
theorem dL_areIfsSo_12 : decode cL_areIfsSo 12 = .ok (.istore 4, 2) := by decide +kernel
theorem dL_areIfsSo_14 : decode cL_areIfsSo 14 = .ok (.iconst 4, 1) := by decide +kernel
theorem dL_areIfsSo_15 : decode cL_areIfsSo 15 = .ok (.newarray .int, 2) := by decide +kernel
theorem dL_areIfsSo_17 : decode cL_areIfsSo 17 = .ok (.astore 5, 2) := by decide +kernel
theorem dL_areIfsSo_19 : decode cL_areIfsSo 19 = .ok (.iconst 4, 1) := by decide +kernel
theorem dL_areIfsSo_20 : decode cL_areIfsSo 20 = .ok (.newarray .int, 2) := by decide +kernel
theorem dL_areIfsSo_22 : decode cL_areIfsSo 22 = .ok (.astore 6, 2) := by decide +kernel
theorem dL_areIfsSo_24 : decode cL_areIfsSo 24 = .ok (.iload_n 2, 1) := by decide +kernel
theorem dL_areIfsSo_25 : decode cL_areIfsSo 25 = .ok (.ifCond .ne 7, 3) := by decide +kernel
theorem dL_areIfsSo_28 : decode cL_areIfsSo 28 = .ok (.iconst 1, 1) := by decide +kernel
theorem dL_areIfsSo_29 : decode cL_areIfsSo 29 = .ok (.goto 4, 3) := by decide +kernel
theorem dL_areIfsSo_32 : decode cL_areIfsSo 32 = .ok (.iconst 0, 1) := by decide +kernel
theorem dL_areIfsSo_33 : decode cL_areIfsSo 33 = .ok (.aload_n 0, 1) := by decide +kernel
theorem dL_areIfsSo_34 : decode cL_areIfsSo 34 = .ok (.bipush 7, 2) := by decide +kernel
theorem dL_areIfsSo_36 : decode cL_areIfsSo 36 = .ok (.invokevirtual 49, 3) := by decide +kernel
theorem dL_areIfsSo_39 : decode cL_areIfsSo 39 = .ok (.ifCond .ne 7, 3) := by decide +kernel
theorem dL_areIfsSo_42 : decode cL_areIfsSo 42 = .ok (.iconst 1, 1) := by decide +kernel
theorem dL_areIfsSo_43 : decode cL_areIfsSo 43 = .ok (.goto 4, 3) := by decide +kernel
theorem dL_areIfsSo_46 : decode cL_areIfsSo 46 = .ok (.iconst 0, 1) := by decide +kernel
theorem dL_areIfsSo_47 : decode cL_areIfsSo 47 = .ok (.if_icmp .ne 7, 3) := by decide +kernel
theorem dL_areIfsSo_50 : decode cL_areIfsSo 50 = .ok (.iconst 1, 1) := by decide +kernel
theorem dL_areIfsSo_51 : decode cL_areIfsSo 51 = .ok (.goto 4, 3) := by decide +kernel
theorem dL_areIfsSo_54 : decode cL_areIfsSo 54 = .ok (.iconst 0, 1) := by decide +kernel
theorem dL_areIfsSo_55 : decode cL_areIfsSo 55 = .ok (.istore 7, 2) := by decide +kernel
theorem dL_areIfsSo_57 : decode cL_areIfsSo 57 = .ok (.iconst 0, 1) := by decide +kernel
theorem dL_areIfsSo_58 : decode cL_areIfsSo 58 = .ok (.istore 8, 2) := by decide +kernel
theorem dL_areIfsSo_60 : decode cL_areIfsSo 60 = .ok (.iload 8, 2) := by decide +kernel
theorem dL_areIfsSo_62 : decode cL_areIfsSo 62 = .ok (.iconst 4, 1) := by decide +kernel
theorem dL_areIfsSo_63 : decode cL_areIfsSo 63 = .ok (.if_icmp .ge 43, 3) := by decide +kernel
theorem dL_areIfsSo_66 : decode cL_areIfsSo 66 = .ok (.aload 5, 2) := by decide +kernel
theorem dL_areIfsSo_68 : decode cL_areIfsSo 68 = .ok (.iload 8, 2) := by decide +kernel
theorem dL_areIfsSo_70 : decode cL_areIfsSo 70 = .ok (.aload_n 0, 1) := by decide +kernel
theorem dL_areIfsSo_71 : decode cL_areIfsSo 71 = .ok (.iload 8, 2) := by decide +kernel
theorem dL_areIfsSo_73 : decode cL_areIfsSo 73 = .ok (.iload_n 1, 1) := by decide +kernel
theorem dL_areIfsSo_74 : decode cL_areIfsSo 74 = .ok (.invokevirtual 59, 3) := by decide +kernel
theorem dL_areIfsSo_77 : decode cL_areIfsSo 77 = .ok (.iastore, 1) := by decide +kernel
theorem dL_areIfsSo_78 : decode cL_areIfsSo 78 = .ok (.aload 6, 2) := by decide +kernel
theorem dL_areIfsSo_80 : decode cL_areIfsSo 80 = .ok (.iload 8, 2) := by decide +kernel
theorem dL_areIfsSo_82 : decode cL_areIfsSo 82 = .ok (.aload_n 0, 1) := by decide +kernel
theorem dL_areIfsSo_83 : decode cL_areIfsSo 83 = .ok (.iload 8, 2) := by decide +kernel
theorem dL_areIfsSo_85 : decode cL_areIfsSo 85 = .ok (.iconst 2, 1) := by decide +kernel
theorem dL_areIfsSo_86 : decode cL_areIfsSo 86 = .ok (.invokevirtual 14, 3) := by decide +kernel
theorem dL_areIfsSo_89 : decode cL_areIfsSo 89 = .ok (.iastore, 1) := by decide +kernel
theorem dL_areIfsSo_90 : decode cL_areIfsSo 90 = .ok (.iload 4, 2) := by decide +kernel
theorem dL_areIfsSo_92 : decode cL_areIfsSo 92 = .ok (.aload 5, 2) := by decide +kernel
theorem dL_areIfsSo_94 : decode cL_areIfsSo 94 = .ok (.iload 8, 2) := by decide +kernel
theorem dL_areIfsSo_96 : decode cL_areIfsSo 96 = .ok (.iaload, 1) := by decide +kernel
theorem dL_areIfsSo_97 : decode cL_areIfsSo 97 = .ok (.iadd, 1) := by decide +kernel
theorem dL_areIfsSo_98 : decode cL_areIfsSo 98 = .ok (.istore 4, 2) := by decide +kernel
theorem dL_areIfsSo_100 : decode cL_areIfsSo 100 = .ok (.iinc 8 1, 3) := by decide +kernel
theorem dL_areIfsSo_103 : decode cL_areIfsSo 103 = .ok (.goto (-43), 3) := by decide +kernel
theorem dL_areIfsSo_106 : decode cL_areIfsSo 106 = .ok (.iload 7, 2) := by decide +kernel
theorem dL_areIfsSo_108 : decode cL_areIfsSo 108 = .ok (.ifCond .eq 28, 3) := by decide +kernel
theorem dL_areIfsSo_111 : decode cL_areIfsSo 111 = .ok (.aload_n 0, 1) := by decide +kernel
theorem dL_areIfsSo_112 : decode cL_areIfsSo 112 = .ok (.iload_n 1, 1) := by decide +kernel
theorem dL_areIfsSo_113 : decode cL_areIfsSo 113 = .ok (.invokevirtual 39, 3) := by decide +kernel
theorem dL_areIfsSo_116 : decode cL_areIfsSo 116 = .ok (.iload 4, 2) := by decide +kernel
theorem dL_areIfsSo_118 : decode cL_areIfsSo 118 = .ok (.if_icmp .ne 18, 3) := by decide +kernel
theorem dL_areIfsSo_121 : decode cL_areIfsSo 121 = .ok (.aload_n 0, 1) := by decide +kernel
theorem dL_areIfsSo_122 : decode cL_areIfsSo 122 = .ok (.iconst 0, 1) := by decide +kernel
theorem dL_areIfsSo_123 : decode cL_areIfsSo 123 = .ok (.invokevirtual 49, 3) := by decide +kernel
theorem dL_areIfsSo_126 : decode cL_areIfsSo 126 = .ok (.iload_n 3, 1) := by decide +kernel
theorem dL_areIfsSo_127 : decode cL_areIfsSo 127 = .ok (.iload_n 1, 1) := by decide +kernel
theorem dL_areIfsSo_128 : decode cL_areIfsSo 128 = .ok (.iadd, 1) := by decide +kernel
theorem dL_areIfsSo_129 : decode cL_areIfsSo 129 = .ok (.if_icmp .ne 7, 3) := by decide +kernel
theorem dL_areIfsSo_132 : decode cL_areIfsSo 132 = .ok (.iconst 1, 1) := by decide +kernel
theorem dL_areIfsSo_133 : decode cL_areIfsSo 133 = .ok (.goto 4, 3) := by decide +kernel
theorem dL_areIfsSo_136 : decode cL_areIfsSo 136 = .ok (.iconst 0, 1) := by decide +kernel
theorem dL_areIfsSo_137 : decode cL_areIfsSo 137 = .ok (.istore 7, 2) := by decide +kernel
theorem dL_areIfsSo_139 : decode cL_areIfsSo 139 = .ok (.iconst 0, 1) := by decide +kernel
theorem dL_areIfsSo_140 : decode cL_areIfsSo 140 = .ok (.istore 8, 2) := by decide +kernel
theorem dL_areIfsSo_142 : decode cL_areIfsSo 142 = .ok (.iload 8, 2) := by decide +kernel
theorem dL_areIfsSo_144 : decode cL_areIfsSo 144 = .ok (.iconst 4, 1) := by decide +kernel
theorem dL_areIfsSo_145 : decode cL_areIfsSo 145 = .ok (.if_icmp .ge 42, 3) := by decide +kernel
theorem dL_areIfsSo_148 : decode cL_areIfsSo 148 = .ok (.iload 7, 2) := by decide +kernel
theorem dL_areIfsSo_150 : decode cL_areIfsSo 150 = .ok (.ifCond .eq 28, 3) := by decide +kernel
theorem dL_areIfsSo_153 : decode cL_areIfsSo 153 = .ok (.aload_n 0, 1) := by decide +kernel
theorem dL_areIfsSo_154 : decode cL_areIfsSo 154 = .ok (.iload 8, 2) := by decide +kernel
theorem dL_areIfsSo_156 : decode cL_areIfsSo 156 = .ok (.iconst 2, 1) := by decide +kernel
theorem dL_areIfsSo_157 : decode cL_areIfsSo 157 = .ok (.invokevirtual 14, 3) := by decide +kernel
theorem dL_areIfsSo_160 : decode cL_areIfsSo 160 = .ok (.aload 6, 2) := by decide +kernel
theorem dL_areIfsSo_162 : decode cL_areIfsSo 162 = .ok (.iload 8, 2) := by decide +kernel
theorem dL_areIfsSo_164 : decode cL_areIfsSo 164 = .ok (.iaload, 1) := by decide +kernel
theorem dL_areIfsSo_165 : decode cL_areIfsSo 165 = .ok (.aload 5, 2) := by decide +kernel
theorem dL_areIfsSo_167 : decode cL_areIfsSo 167 = .ok (.iload 8, 2) := by decide +kernel
theorem dL_areIfsSo_169 : decode cL_areIfsSo 169 = .ok (.iaload, 1) := by decide +kernel
theorem dL_areIfsSo_170 : decode cL_areIfsSo 170 = .ok (.iadd, 1) := by decide +kernel
theorem dL_areIfsSo_171 : decode cL_areIfsSo 171 = .ok (.if_icmp .ne 7, 3) := by decide +kernel
theorem dL_areIfsSo_174 : decode cL_areIfsSo 174 = .ok (.iconst 1, 1) := by decide +kernel
theorem dL_areIfsSo_175 : decode cL_areIfsSo 175 = .ok (.goto 4, 3) := by decide +kernel
theorem dL_areIfsSo_178 : decode cL_areIfsSo 178 = .ok (.iconst 0, 1) := by decide +kernel
theorem dL_areIfsSo_179 : decode cL_areIfsSo 179 = .ok (.istore 7, 2) := by decide +kernel
theorem dL_areIfsSo_181 : decode cL_areIfsSo 181 = .ok (.iinc 8 1, 3) := by decide +kernel
theorem dL_areIfsSo_184 : decode cL_areIfsSo 184 = .ok (.goto (-42), 3) := by decide +kernel
theorem dL_areIfsSo_187 : decode cL_areIfsSo 187 = .ok (.iload 7, 2) := by decide +kernel
theorem dL_areIfsSo_189 : decode cL_areIfsSo 189 = .ok (.ifCond .eq 84, 3) := by decide +kernel
theorem dL_areIfsSo_192 : decode cL_areIfsSo 192 = .ok (.iload_n 2, 1) := by decide +kernel
theorem dL_areIfsSo_193 : decode cL_areIfsSo 193 = .ok (.ifCond .lt 17, 3) := by decide +kernel
theorem dL_areIfsSo_196 : decode cL_areIfsSo 196 = .ok (.iload_n 2, 1) := by decide +kernel
theorem dL_areIfsSo_197 : decode cL_areIfsSo 197 = .ok (.iload_n 1, 1) := by decide +kernel
theorem dL_areIfsSo_198 : decode cL_areIfsSo 198 = .ok (.if_icmp .gt 12, 3) := by decide +kernel
theorem dL_areIfsSo_201 : decode cL_areIfsSo 201 = .ok (.aload_n 0, 1) := by decide +kernel
theorem dL_areIfsSo_202 : decode cL_areIfsSo 202 = .ok (.bipush 7, 2) := by decide +kernel
theorem dL_areIfsSo_204 : decode cL_areIfsSo 204 = .ok (.invokevirtual 49, 3) := by decide +kernel
theorem dL_areIfsSo_207 : decode cL_areIfsSo 207 = .ok (.ifCond .ne 66, 3) := by decide +kernel
theorem dL_areIfsSo_210 : decode cL_areIfsSo 210 = .ok (.iload_n 2, 1) := by decide +kernel
theorem dL_areIfsSo_211 : decode cL_areIfsSo 211 = .ok (.ifCond .lt 17, 3) := by decide +kernel
theorem dL_areIfsSo_214 : decode cL_areIfsSo 214 = .ok (.iload_n 2, 1) := by decide +kernel
theorem dL_areIfsSo_215 : decode cL_areIfsSo 215 = .ok (.iload_n 1, 1) := by decide +kernel
theorem dL_areIfsSo_216 : decode cL_areIfsSo 216 = .ok (.if_icmp .le 12, 3) := by decide +kernel
theorem dL_areIfsSo_219 : decode cL_areIfsSo 219 = .ok (.aload_n 0, 1) := by decide +kernel
theorem dL_areIfsSo_220 : decode cL_areIfsSo 220 = .ok (.bipush 7, 2) := by decide +kernel
theorem dL_areIfsSo_222 : decode cL_areIfsSo 222 = .ok (.invokevirtual 49, 3) := by decide +kernel
theorem dL_areIfsSo_225 : decode cL_areIfsSo 225 = .ok (.ifCond .le 48, 3) := by decide +kernel
theorem dL_areIfsSo_228 : decode cL_areIfsSo 228 = .ok (.iload_n 2, 1) := by decide +kernel
theorem dL_areIfsSo_229 : decode cL_areIfsSo 229 = .ok (.ifCond .ge 25, 3) := by decide +kernel
theorem dL_areIfsSo_232 : decode cL_areIfsSo 232 = .ok (.aload_n 0, 1) := by decide +kernel
theorem dL_areIfsSo_233 : decode cL_areIfsSo 233 = .ok (.invokevirtual 55, 3) := by decide +kernel
theorem dL_areIfsSo_236 : decode cL_areIfsSo 236 = .ok (.ifCond .lt 33, 3) := by decide +kernel
theorem dL_areIfsSo_239 : decode cL_areIfsSo 239 = .ok (.aload_n 0, 1) := by decide +kernel
theorem dL_areIfsSo_240 : decode cL_areIfsSo 240 = .ok (.invokevirtual 55, 3) := by decide +kernel
theorem dL_areIfsSo_243 : decode cL_areIfsSo 243 = .ok (.sipush 1000, 3) := by decide +kernel
theorem dL_areIfsSo_246 : decode cL_areIfsSo 246 = .ok (.iload_n 1, 1) := by decide +kernel
theorem dL_areIfsSo_247 : decode cL_areIfsSo 247 = .ok (.isub, 1) := by decide +kernel
theorem dL_areIfsSo_248 : decode cL_areIfsSo 248 = .ok (.if_icmp .le 25, 3) := by decide +kernel
theorem dL_areIfsSo_251 : decode cL_areIfsSo 251 = .ok (.goto 18, 3) := by decide +kernel
theorem dL_areIfsSo_254 : decode cL_areIfsSo 254 = .ok (.iload_n 2, 1) := by decide +kernel
theorem dL_areIfsSo_255 : decode cL_areIfsSo 255 = .ok (.iload_n 1, 1) := by decide +kernel
theorem dL_areIfsSo_256 : decode cL_areIfsSo 256 = .ok (.if_icmp .lt 13, 3) := by decide +kernel
theorem dL_areIfsSo_259 : decode cL_areIfsSo 259 = .ok (.aload_n 0, 1) := by decide +kernel
theorem dL_areIfsSo_260 : decode cL_areIfsSo 260 = .ok (.invokevirtual 55, 3) := by decide +kernel
theorem dL_areIfsSo_263 : decode cL_areIfsSo 263 = .ok (.iload_n 2, 1) := by decide +kernel
theorem dL_areIfsSo_264 : decode cL_areIfsSo 264 = .ok (.iload_n 1, 1) := by decide +kernel
theorem dL_areIfsSo_265 : decode cL_areIfsSo 265 = .ok (.isub, 1) := by decide +kernel
theorem dL_areIfsSo_266 : decode cL_areIfsSo 266 = .ok (.if_icmp .ne 7, 3) := by decide +kernel
theorem dL_areIfsSo_269 : decode cL_areIfsSo 269 = .ok (.iconst 1, 1) := by decide +kernel
theorem dL_areIfsSo_270 : decode cL_areIfsSo 270 = .ok (.goto 4, 3) := by decide +kernel
theorem dL_areIfsSo_273 : decode cL_areIfsSo 273 = .ok (.iconst 0, 1) := by decide +kernel
theorem dL_areIfsSo_274 : decode cL_areIfsSo 274 = .ok (.istore 7, 2) := by decide +kernel
theorem dL_areIfsSo_276 : decode cL_areIfsSo 276 = .ok (.aload_n 0, 1) := by decide +kernel
theorem dL_areIfsSo_277 : decode cL_areIfsSo 277 = .ok (.invokevirtual 62, 3) := by decide +kernel
theorem dL_areIfsSo_280 : decode cL_areIfsSo 280 = .ok (.istore 8, 2) := by decide +kernel
theorem dL_areIfsSo_282 : decode cL_areIfsSo 282 = .ok (.iload 7, 2) := by decide +kernel
theorem dL_areIfsSo_284 : decode cL_areIfsSo 284 = .ok (.ifCond .eq 21, 3) := by decide +kernel
theorem dL_areIfsSo_287 : decode cL_areIfsSo 287 = .ok (.iload 8, 2) := by decide +kernel
theorem dL_areIfsSo_289 : decode cL_areIfsSo 289 = .ok (.ifCond .lt 16, 3) := by decide +kernel
theorem dL_areIfsSo_292 : decode cL_areIfsSo 292 = .ok (.aload_n 0, 1) := by decide +kernel
theorem dL_areIfsSo_293 : decode cL_areIfsSo 293 = .ok (.iconst 0, 1) := by decide +kernel
theorem dL_areIfsSo_294 : decode cL_areIfsSo 294 = .ok (.invokevirtual 49, 3) := by decide +kernel
theorem dL_areIfsSo_297 : decode cL_areIfsSo 297 = .ok (.iload_n 3, 1) := by decide +kernel
theorem dL_areIfsSo_298 : decode cL_areIfsSo 298 = .ok (.if_icmp .ne 7, 3) := by decide +kernel
theorem dL_areIfsSo_301 : decode cL_areIfsSo 301 = .ok (.iconst 1, 1) := by decide +kernel
theorem dL_areIfsSo_302 : decode cL_areIfsSo 302 = .ok (.goto 4, 3) := by decide +kernel
theorem dL_areIfsSo_305 : decode cL_areIfsSo 305 = .ok (.iconst 0, 1) := by decide +kernel
theorem dL_areIfsSo_306 : decode cL_areIfsSo 306 = .ok (.ireturn, 1) := by decide +kernel
theorem dL_areWinnersSo_0 : decode cL_areWinnersSo 0 = .ok (.aload_n 0, 1) := by decide +kernel
theorem dL_areWinnersSo_1 : decode cL_areWinnersSo 1 = .ok (.invokevirtual 65, 3) := by decide +kernel
theorem dL_areWinnersSo_4 : decode cL_areWinnersSo 4 = .ok (.istore_n 1, 1) := by decide +kernel
theorem dL_areWinnersSo_5 : decode cL_areWinnersSo 5 = .ok (.iload_n 1, 1) := by decide +kernel
theorem dL_areWinnersSo_6 : decode cL_areWinnersSo 6 = .ok (.ifCond .ne 7, 3) := by decide +kernel
theorem dL_areWinnersSo_9 : decode cL_areWinnersSo 9 = .ok (.iconst 1, 1) := by decide +kernel
theorem dL_areWinnersSo_10 : decode cL_areWinnersSo 10 = .ok (.goto 4, 3) := by decide +kernel
theorem dL_areWinnersSo_13 : decode cL_areWinnersSo 13 = .ok (.iconst 0, 1) := by decide +kernel
theorem dL_areWinnersSo_14 : decode cL_areWinnersSo 14 = .ok (.aload_n 0, 1) := by decide +kernel
theorem dL_areWinnersSo_15 : decode cL_areWinnersSo 15 = .ok (.bipush 7, 2) := by decide +kernel
theorem dL_areWinnersSo_17 : decode cL_areWinnersSo 17 = .ok (.invokevirtual 49, 3) := by decide +kernel
theorem dL_areWinnersSo_20 : decode cL_areWinnersSo 20 = .ok (.ifCond .ne 7, 3) := by decide +kernel
theorem dL_areWinnersSo_23 : decode cL_areWinnersSo 23 = .ok (.iconst 1, 1) := by decide +kernel
theorem dL_areWinnersSo_24 : decode cL_areWinnersSo 24 = .ok (.goto 4, 3) := by decide +kernel
theorem dL_areWinnersSo_27 : decode cL_areWinnersSo 27 = .ok (.iconst 0, 1) := by decide +kernel
theorem dL_areWinnersSo_28 : decode cL_areWinnersSo 28 = .ok (.if_icmp .ne 7, 3) := by decide +kernel
theorem dL_areWinnersSo_31 : decode cL_areWinnersSo 31 = .ok (.iconst 1, 1) := by decide +kernel
theorem dL_areWinnersSo_32 : decode cL_areWinnersSo 32 = .ok (.goto 4, 3) := by decide +kernel
theorem dL_areWinnersSo_35 : decode cL_areWinnersSo 35 = .ok (.iconst 0, 1) := by decide +kernel
theorem dL_areWinnersSo_36 : decode cL_areWinnersSo 36 = .ok (.istore_n 2, 1) := by decide +kernel
theorem dL_areWinnersSo_37 : decode cL_areWinnersSo 37 = .ok (.iconst 0, 1) := by decide +kernel
theorem dL_areWinnersSo_38 : decode cL_areWinnersSo 38 = .ok (.istore_n 3, 1) := by decide +kernel
theorem dL_areWinnersSo_39 : decode cL_areWinnersSo 39 = .ok (.iload_n 3, 1) := by decide +kernel
theorem dL_areWinnersSo_40 : decode cL_areWinnersSo 40 = .ok (.iconst 4, 1) := by decide +kernel
theorem dL_areWinnersSo_41 : decode cL_areWinnersSo 41 = .ok (.if_icmp .ge 174, 3) := by decide +kernel
theorem dL_areWinnersSo_44 : decode cL_areWinnersSo 44 = .ok (.iload_n 1, 1) := by decide +kernel
theorem dL_areWinnersSo_45 : decode cL_areWinnersSo 45 = .ok (.iload_n 3, 1) := by decide +kernel
theorem dL_areWinnersSo_46 : decode cL_areWinnersSo 46 = .ok (.ishr, 1) := by decide +kernel
theorem dL_areWinnersSo_47 : decode cL_areWinnersSo 47 = .ok (.iconst 1, 1) := by decide +kernel
theorem dL_areWinnersSo_48 : decode cL_areWinnersSo 48 = .ok (.iand, 1) := by decide +kernel
theorem dL_areWinnersSo_49 : decode cL_areWinnersSo 49 = .ok (.iconst 1, 1) := by decide +kernel
theorem dL_areWinnersSo_50 : decode cL_areWinnersSo 50 = .ok (.if_icmp .ne 7, 3) := by decide +kernel
theorem dL_areWinnersSo_53 : decode cL_areWinnersSo 53 = .ok (.iconst 1, 1) := by decide +kernel
theorem dL_areWinnersSo_54 : decode cL_areWinnersSo 54 = .ok (.goto 4, 3) := by decide +kernel
theorem dL_areWinnersSo_57 : decode cL_areWinnersSo 57 = .ok (.iconst 0, 1) := by decide +kernel
theorem dL_areWinnersSo_58 : decode cL_areWinnersSo 58 = .ok (.istore 4, 2) := by decide +kernel
theorem dL_areWinnersSo_60 : decode cL_areWinnersSo 60 = .ok (.iload_n 2, 1) := by decide +kernel
theorem dL_areWinnersSo_61 : decode cL_areWinnersSo 61 = .ok (.ifCond .eq 21, 3) := by decide +kernel
theorem dL_areWinnersSo_64 : decode cL_areWinnersSo 64 = .ok (.iload 4, 2) := by decide +kernel
theorem dL_areWinnersSo_66 : decode cL_areWinnersSo 66 = .ok (.ifCond .eq 12, 3) := by decide +kernel
theorem dL_areWinnersSo_69 : decode cL_areWinnersSo 69 = .ok (.aload_n 0, 1) := by decide +kernel
theorem dL_areWinnersSo_70 : decode cL_areWinnersSo 70 = .ok (.iload_n 3, 1) := by decide +kernel
theorem dL_areWinnersSo_71 : decode cL_areWinnersSo 71 = .ok (.iconst 0, 1) := by decide +kernel
theorem dL_areWinnersSo_72 : decode cL_areWinnersSo 72 = .ok (.invokevirtual 14, 3) := by decide +kernel
theorem dL_areWinnersSo_75 : decode cL_areWinnersSo 75 = .ok (.ifCond .le 7, 3) := by decide +kernel
theorem dL_areWinnersSo_78 : decode cL_areWinnersSo 78 = .ok (.iconst 1, 1) := by decide +kernel
theorem dL_areWinnersSo_79 : decode cL_areWinnersSo 79 = .ok (.goto 4, 3) := by decide +kernel
theorem dL_areWinnersSo_82 : decode cL_areWinnersSo 82 = .ok (.iconst 0, 1) := by decide +kernel
theorem dL_areWinnersSo_83 : decode cL_areWinnersSo 83 = .ok (.istore_n 2, 1) := by decide +kernel
theorem dL_areWinnersSo_84 : decode cL_areWinnersSo 84 = .ok (.iconst 0, 1) := by decide +kernel
theorem dL_areWinnersSo_85 : decode cL_areWinnersSo 85 = .ok (.istore 5, 2) := by decide +kernel
theorem dL_areWinnersSo_87 : decode cL_areWinnersSo 87 = .ok (.iload 5, 2) := by decide +kernel
theorem dL_areWinnersSo_89 : decode cL_areWinnersSo 89 = .ok (.iconst 4, 1) := by decide +kernel
theorem dL_areWinnersSo_90 : decode cL_areWinnersSo 90 = .ok (.if_icmp .ge 119, 3) := by decide +kernel
theorem dL_areWinnersSo_93 : decode cL_areWinnersSo 93 = .ok (.aload_n 0, 1) := by decide +kernel
theorem dL_areWinnersSo_94 : decode cL_areWinnersSo 94 = .ok (.iload_n 3, 1) := by decide +kernel
theorem dL_areWinnersSo_95 : decode cL_areWinnersSo 95 = .ok (.iconst 0, 1) := by decide +kernel
theorem dL_areWinnersSo_96 : decode cL_areWinnersSo 96 = .ok (.invokevirtual 14, 3) := by decide +kernel
theorem dL_areWinnersSo_99 : decode cL_areWinnersSo 99 = .ok (.ifCond .le 17, 3) := by decide +kernel
theorem dL_areWinnersSo_102 : decode cL_areWinnersSo 102 = .ok (.aload_n 0, 1) := by decide +kernel
theorem dL_areWinnersSo_103 : decode cL_areWinnersSo 103 = .ok (.iload 5, 2) := by decide +kernel
theorem dL_areWinnersSo_105 : decode cL_areWinnersSo 105 = .ok (.iconst 0, 1) := by decide +kernel
theorem dL_areWinnersSo_106 : decode cL_areWinnersSo 106 = .ok (.invokevirtual 14, 3) := by decide +kernel
theorem dL_areWinnersSo_109 : decode cL_areWinnersSo 109 = .ok (.ifCond .le 7, 3) := by decide +kernel
theorem dL_areWinnersSo_112 : decode cL_areWinnersSo 112 = .ok (.iconst 1, 1) := by decide +kernel
theorem dL_areWinnersSo_113 : decode cL_areWinnersSo 113 = .ok (.goto 4, 3) := by decide +kernel
theorem dL_areWinnersSo_116 : decode cL_areWinnersSo 116 = .ok (.iconst 0, 1) := by decide +kernel
theorem dL_areWinnersSo_117 : decode cL_areWinnersSo 117 = .ok (.istore 6, 2) := by decide +kernel
theorem dL_areWinnersSo_119 : decode cL_areWinnersSo 119 = .ok (.iload 6, 2) := by decide +kernel
theorem dL_areWinnersSo_121 : decode cL_areWinnersSo 121 = .ok (.ifCond .eq 22, 3) := by decide +kernel
theorem dL_areWinnersSo_124 : decode cL_areWinnersSo 124 = .ok (.aload_n 0, 1) := by decide +kernel
theorem dL_areWinnersSo_125 : decode cL_areWinnersSo 125 = .ok (.iload_n 3, 1) := by decide +kernel
theorem dL_areWinnersSo_126 : decode cL_areWinnersSo 126 = .ok (.iconst 0, 1) := by decide +kernel
theorem dL_areWinnersSo_127 : decode cL_areWinnersSo 127 = .ok (.iconst 0, 1) := by decide +kernel
theorem dL_areWinnersSo_128 : decode cL_areWinnersSo 128 = .ok (.invokevirtual 45, 3) := by decide +kernel
theorem dL_areWinnersSo_131 : decode cL_areWinnersSo 131 = .ok (.aload_n 0, 1) := by decide +kernel
theorem dL_areWinnersSo_132 : decode cL_areWinnersSo 132 = .ok (.iload 5, 2) := by decide +kernel
theorem dL_areWinnersSo_134 : decode cL_areWinnersSo 134 = .ok (.iconst 0, 1) := by decide +kernel
theorem dL_areWinnersSo_135 : decode cL_areWinnersSo 135 = .ok (.iconst 0, 1) := by decide +kernel
theorem dL_areWinnersSo_136 : decode cL_areWinnersSo 136 = .ok (.invokevirtual 45, 3) := by decide +kernel
theorem dL_areWinnersSo_139 : decode cL_areWinnersSo 139 = .ok (.isub, 1) := by decide +kernel
theorem dL_areWinnersSo_140 : decode cL_areWinnersSo 140 = .ok (.goto 4, 3) := by decide +kernel
theorem dL_areWinnersSo_143 : decode cL_areWinnersSo 143 = .ok (.iconst 0, 1) := by decide +kernel
theorem dL_areWinnersSo_144 : decode cL_areWinnersSo 144 = .ok (.istore 7, 2) := by decide +kernel
theorem dL_areWinnersSo_146 : decode cL_areWinnersSo 146 = .ok (.iload 6, 2) := by decide +kernel
theorem dL_areWinnersSo_148 : decode cL_areWinnersSo 148 = .ok (.ifCond .eq 27, 3) := by decide +kernel
theorem dL_areWinnersSo_151 : decode cL_areWinnersSo 151 = .ok (.iload 7, 2) := by decide +kernel
theorem dL_areWinnersSo_153 : decode cL_areWinnersSo 153 = .ok (.ifCond .ne 22, 3) := by decide +kernel
theorem dL_areWinnersSo_156 : decode cL_areWinnersSo 156 = .ok (.aload_n 0, 1) := by decide +kernel
theorem dL_areWinnersSo_157 : decode cL_areWinnersSo 157 = .ok (.iload_n 3, 1) := by decide +kernel
theorem dL_areWinnersSo_158 : decode cL_areWinnersSo 158 = .ok (.iconst 0, 1) := by decide +kernel
theorem dL_areWinnersSo_159 : decode cL_areWinnersSo 159 = .ok (.iconst 1, 1) := by decide +kernel
theorem dL_areWinnersSo_160 : decode cL_areWinnersSo 160 = .ok (.invokevirtual 45, 3) := by decide +kernel
theorem dL_areWinnersSo_163 : decode cL_areWinnersSo 163 = .ok (.aload_n 0, 1) := by decide +kernel
theorem dL_areWinnersSo_164 : decode cL_areWinnersSo 164 = .ok (.iload 5, 2) := by decide +kernel
theorem dL_areWinnersSo_166 : decode cL_areWinnersSo 166 = .ok (.iconst 0, 1) := by decide +kernel
theorem dL_areWinnersSo_167 : decode cL_areWinnersSo 167 = .ok (.iconst 1, 1) := by decide +kernel
theorem dL_areWinnersSo_168 : decode cL_areWinnersSo 168 = .ok (.invokevirtual 45, 3) := by decide +kernel
theorem dL_areWinnersSo_171 : decode cL_areWinnersSo 171 = .ok (.isub, 1) := by decide +kernel
theorem dL_areWinnersSo_172 : decode cL_areWinnersSo 172 = .ok (.goto 4, 3) := by decide +kernel
theorem dL_areWinnersSo_175 : decode cL_areWinnersSo 175 = .ok (.iconst 0, 1) := by decide +kernel
theorem dL_areWinnersSo_176 : decode cL_areWinnersSo 176 = .ok (.istore 8, 2) := by decide +kernel
theorem dL_areWinnersSo_178 : decode cL_areWinnersSo 178 = .ok (.iload_n 2, 1) := by decide +kernel
theorem dL_areWinnersSo_179 : decode cL_areWinnersSo 179 = .ok (.ifCond .eq 22, 3) := by decide +kernel
theorem dL_areWinnersSo_182 : decode cL_areWinnersSo 182 = .ok (.iload 4, 2) := by decide +kernel
theorem dL_areWinnersSo_184 : decode cL_areWinnersSo 184 = .ok (.ifCond .eq 13, 3) := by decide +kernel
theorem dL_areWinnersSo_187 : decode cL_areWinnersSo 187 = .ok (.iload 7, 2) := by decide +kernel
theorem dL_areWinnersSo_189 : decode cL_areWinnersSo 189 = .ok (.ifCond .gt 12, 3) := by decide +kernel
theorem dL_areWinnersSo_192 : decode cL_areWinnersSo 192 = .ok (.iload 8, 2) := by decide +kernel
theorem dL_areWinnersSo_194 : decode cL_areWinnersSo 194 = .ok (.ifCond .gt 7, 3) := by decide +kernel
theorem dL_areWinnersSo_197 : decode cL_areWinnersSo 197 = .ok (.iconst 1, 1) := by decide +kernel
theorem dL_areWinnersSo_198 : decode cL_areWinnersSo 198 = .ok (.goto 4, 3) := by decide +kernel
theorem dL_areWinnersSo_201 : decode cL_areWinnersSo 201 = .ok (.iconst 0, 1) := by decide +kernel
theorem dL_areWinnersSo_202 : decode cL_areWinnersSo 202 = .ok (.istore_n 2, 1) := by decide +kernel
theorem dL_areWinnersSo_203 : decode cL_areWinnersSo 203 = .ok (.iinc 5 1, 3) := by decide +kernel
theorem dL_areWinnersSo_206 : decode cL_areWinnersSo 206 = .ok (.goto (-119), 3) := by decide +kernel
theorem dL_areWinnersSo_209 : decode cL_areWinnersSo 209 = .ok (.iinc 3 1, 3) := by decide +kernel
theorem dL_areWinnersSo_212 : decode cL_areWinnersSo 212 = .ok (.goto (-173), 3) := by decide +kernel
theorem dL_areWinnersSo_215 : decode cL_areWinnersSo 215 = .ok (.iload_n 2, 1) := by decide +kernel
theorem dL_areWinnersSo_216 : decode cL_areWinnersSo 216 = .ok (.ireturn, 1) := by decide +kernel
theorem dL_law_0 : decode cL_law 0 = .ok (.new 15, 3) := by decide +kernel
theorem dL_law_3 : decode cL_law 3 = .ok (.dup, 1) := by decide +kernel
theorem dL_law_4 : decode cL_law 4 = .ok (.invokespecial 68, 3) := by decide +kernel
theorem dL_law_7 : decode cL_law 7 = .ok (.astore_n 1, 1) := by decide +kernel
theorem dL_law_8 : decode cL_law 8 = .ok (.aload_n 1, 1) := by decide +kernel
theorem dL_law_9 : decode cL_law 9 = .ok (.iconst 0, 1) := by decide +kernel
theorem dL_law_10 : decode cL_law 10 = .ok (.bipush 64, 2) := by decide +kernel
theorem dL_law_12 : decode cL_law 12 = .ok (.invokevirtual 27, 3) := by decide +kernel
theorem dL_law_15 : decode cL_law 15 = .ok (.aload_n 1, 1) := by decide +kernel
theorem dL_law_16 : decode cL_law 16 = .ok (.iconst 1, 1) := by decide +kernel
theorem dL_law_17 : decode cL_law 17 = .ok (.bipush 65, 2) := by decide +kernel
theorem dL_law_19 : decode cL_law 19 = .ok (.invokevirtual 27, 3) := by decide +kernel
theorem dL_law_22 : decode cL_law 22 = .ok (.iadd, 1) := by decide +kernel
theorem dL_law_23 : decode cL_law 23 = .ok (.aload_n 1, 1) := by decide +kernel
theorem dL_law_24 : decode cL_law 24 = .ok (.iconst 2, 1) := by decide +kernel
theorem dL_law_25 : decode cL_law 25 = .ok (.bipush 66, 2) := by decide +kernel
theorem dL_law_27 : decode cL_law 27 = .ok (.invokevirtual 27, 3) := by decide +kernel
theorem dL_law_30 : decode cL_law 30 = .ok (.iadd, 1) := by decide +kernel
theorem dL_law_31 : decode cL_law 31 = .ok (.istore_n 2, 1) := by decide +kernel
theorem dL_law_32 : decode cL_law 32 = .ok (.iconst 0, 1) := by decide +kernel
theorem dL_law_33 : decode cL_law 33 = .ok (.istore_n 3, 1) := by decide +kernel
theorem dL_law_34 : decode cL_law 34 = .ok (.iload_n 3, 1) := by decide +kernel
theorem dL_law_35 : decode cL_law 35 = .ok (.bipush 56, 2) := by decide +kernel
theorem dL_law_37 : decode cL_law 37 = .ok (.if_icmp .ge 91, 3) := by decide +kernel
theorem dL_law_40 : decode cL_law 40 = .ok (.aload_n 0, 1) := by decide +kernel
theorem dL_law_41 : decode cL_law 41 = .ok (.iload_n 3, 1) := by decide +kernel
theorem dL_law_42 : decode cL_law 42 = .ok (.invokestatic 69, 3) := by decide +kernel
theorem dL_law_45 : decode cL_law 45 = .ok (.istore 4, 2) := by decide +kernel
theorem dL_law_47 : decode cL_law 47 = .ok (.aload_n 1, 1) := by decide +kernel
theorem dL_law_48 : decode cL_law 48 = .ok (.iload 4, 2) := by decide +kernel
theorem dL_law_50 : decode cL_law 50 = .ok (.invokestatic 73, 3) := by decide +kernel
theorem dL_law_53 : decode cL_law 53 = .ok (.istore 5, 2) := by decide +kernel
theorem dL_law_55 : decode cL_law 55 = .ok (.iload 5, 2) := by decide +kernel
theorem dL_law_57 : decode cL_law 57 = .ok (.ifCond .lt 63, 3) := by decide +kernel
theorem dL_law_60 : decode cL_law 60 = .ok (.aload_n 1, 1) := by decide +kernel
theorem dL_law_61 : decode cL_law 61 = .ok (.invokestatic 77, 3) := by decide +kernel
theorem dL_law_64 : decode cL_law 64 = .ok (.ifCond .eq 56, 3) := by decide +kernel
theorem dL_law_67 : decode cL_law 67 = .ok (.iload_n 3, 1) := by decide +kernel
theorem dL_law_68 : decode cL_law 68 = .ok (.iconst 2, 1) := by decide +kernel
theorem dL_law_69 : decode cL_law 69 = .ok (.irem, 1) := by decide +kernel
theorem dL_law_70 : decode cL_law 70 = .ok (.iconst 1, 1) := by decide +kernel
theorem dL_law_71 : decode cL_law 71 = .ok (.if_icmp .ne 10, 3) := by decide +kernel
theorem dL_law_74 : decode cL_law 74 = .ok (.aload_n 1, 1) := by decide +kernel
theorem dL_law_75 : decode cL_law 75 = .ok (.invokestatic 81, 3) := by decide +kernel
theorem dL_law_78 : decode cL_law 78 = .ok (.ifCond .eq 42, 3) := by decide +kernel
theorem dL_law_81 : decode cL_law 81 = .ok (.iload_n 3, 1) := by decide +kernel
theorem dL_law_82 : decode cL_law 82 = .ok (.iconst 4, 1) := by decide +kernel
theorem dL_law_83 : decode cL_law 83 = .ok (.irem, 1) := by decide +kernel
theorem dL_law_84 : decode cL_law 84 = .ok (.iconst 2, 1) := by decide +kernel
theorem dL_law_85 : decode cL_law 85 = .ok (.if_icmp .ne 21, 3) := by decide +kernel
theorem dL_law_88 : decode cL_law 88 = .ok (.aload_n 1, 1) := by decide +kernel
theorem dL_law_89 : decode cL_law 89 = .ok (.iconst 1, 1) := by decide +kernel
theorem dL_law_90 : decode cL_law 90 = .ok (.iload 4, 2) := by decide +kernel
theorem dL_law_92 : decode cL_law 92 = .ok (.iconst 5, 1) := by decide +kernel
theorem dL_law_93 : decode cL_law 93 = .ok (.ishr, 1) := by decide +kernel
theorem dL_law_94 : decode cL_law 94 = .ok (.bipush 100, 2) := by decide +kernel
theorem dL_law_96 : decode cL_law 96 = .ok (.invokestatic 8, 3) := by decide +kernel
theorem dL_law_99 : decode cL_law 99 = .ok (.iadd, 1) := by decide +kernel
theorem dL_law_100 : decode cL_law 100 = .ok (.invokestatic 84, 3) := by decide +kernel
theorem dL_law_103 : decode cL_law 103 = .ok (.ifCond .eq 17, 3) := by decide +kernel
theorem dL_law_106 : decode cL_law 106 = .ok (.iload_n 3, 1) := by decide +kernel
theorem dL_law_107 : decode cL_law 107 = .ok (.iconst 3, 1) := by decide +kernel
theorem dL_law_108 : decode cL_law 108 = .ok (.irem, 1) := by decide +kernel
theorem dL_law_109 : decode cL_law 109 = .ok (.iconst 1, 1) := by decide +kernel
theorem dL_law_110 : decode cL_law 110 = .ok (.if_icmp .ne 12, 3) := by decide +kernel
theorem dL_law_113 : decode cL_law 113 = .ok (.aload_n 1, 1) := by decide +kernel
theorem dL_law_114 : decode cL_law 114 = .ok (.invokestatic 88, 3) := by decide +kernel
theorem dL_law_117 : decode cL_law 117 = .ok (.ifCond .ne 5, 3) := by decide +kernel
theorem dL_law_120 : decode cL_law 120 = .ok (.iconst 0, 1) := by decide +kernel
theorem dL_law_121 : decode cL_law 121 = .ok (.ireturn, 1) := by decide +kernel
theorem dL_law_122 : decode cL_law 122 = .ok (.iinc 3 1, 3) := by decide +kernel
theorem dL_law_125 : decode cL_law 125 = .ok (.goto (-91), 3) := by decide +kernel
theorem dL_law_128 : decode cL_law 128 = .ok (.iload_n 2, 1) := by decide +kernel
theorem dL_law_129 : decode cL_law 129 = .ok (.bipush 6, 2) := by decide +kernel
theorem dL_law_131 : decode cL_law 131 = .ok (.if_icmp .ne 7, 3) := by decide +kernel
theorem dL_law_134 : decode cL_law 134 = .ok (.iconst 1, 1) := by decide +kernel
theorem dL_law_135 : decode cL_law 135 = .ok (.goto 4, 3) := by decide +kernel
theorem dL_law_138 : decode cL_law 138 = .ok (.iconst 0, 1) := by decide +kernel
theorem dL_law_139 : decode cL_law 139 = .ok (.ireturn, 1) := by decide +kernel
