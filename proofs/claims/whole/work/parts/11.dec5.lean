theorem dX6_order_74 : decode cX6_order 74 = .ok (.aload_n 0, 1) := by decide +kernel
theorem dX6_order_75 : decode cX6_order 75 = .ok (.getfield 167, 3) := by decide +kernel
theorem dX6_order_78 : decode cX6_order 78 = .ok (.bipush 104, 2) := by decide +kernel
theorem dX6_order_80 : decode cX6_order 80 = .ok (.if_icmp .ne 8, 3) := by decide +kernel
theorem dX6_order_83 : decode cX6_order 83 = .ok (.bipush 104, 2) := by decide +kernel
theorem dX6_order_85 : decode cX6_order 85 = .ok (.goto 5, 3) := by decide +kernel
theorem dX6_order_88 : decode cX6_order 88 = .ok (.bipush 115, 2) := by decide +kernel
theorem dX6_order_90 : decode cX6_order 90 = .ok (.invokevirtual 160, 3) := by decide +kernel
theorem dX6_order_93 : decode cX6_order 93 = .ok (.aload_n 0, 1) := by decide +kernel
theorem dX6_order_94 : decode cX6_order 94 = .ok (.getfield 167, 3) := by decide +kernel
theorem dX6_order_97 : decode cX6_order 97 = .ok (.bipush 104, 2) := by decide +kernel
theorem dX6_order_99 : decode cX6_order 99 = .ok (.if_icmp .ne 124, 3) := by decide +kernel
theorem dX6_order_102 : decode cX6_order 102 = .ok (.aload_n 0, 1) := by decide +kernel
theorem dX6_order_103 : decode cX6_order 103 = .ok (.aload_n 0, 1) := by decide +kernel
theorem dX6_order_104 : decode cX6_order 104 = .ok (.bipush 111, 2) := by decide +kernel
theorem dX6_order_106 : decode cX6_order 106 = .ok (.invokevirtual 179, 3) := by decide +kernel
theorem dX6_order_109 : decode cX6_order 109 = .ok (.ifCond .eq 8, 3) := by decide +kernel
theorem dX6_order_112 : decode cX6_order 112 = .ok (.bipush 111, 2) := by decide +kernel
theorem dX6_order_114 : decode cX6_order 114 = .ok (.goto 5, 3) := by decide +kernel
theorem dX6_order_117 : decode cX6_order 117 = .ok (.bipush 104, 2) := by decide +kernel
theorem dX6_order_119 : decode cX6_order 119 = .ok (.putfield 167, 3) := by decide +kernel
theorem dX6_order_122 : decode cX6_order 122 = .ok (.aload_n 0, 1) := by decide +kernel
theorem dX6_order_123 : decode cX6_order 123 = .ok (.aload_n 0, 1) := by decide +kernel
theorem dX6_order_124 : decode cX6_order 124 = .ok (.getfield 167, 3) := by decide +kernel
theorem dX6_order_127 : decode cX6_order 127 = .ok (.bipush 111, 2) := by decide +kernel
theorem dX6_order_129 : decode cX6_order 129 = .ok (.if_icmp .ne 8, 3) := by decide +kernel
theorem dX6_order_132 : decode cX6_order 132 = .ok (.bipush 111, 2) := by decide +kernel
theorem dX6_order_134 : decode cX6_order 134 = .ok (.goto 5, 3) := by decide +kernel
theorem dX6_order_137 : decode cX6_order 137 = .ok (.bipush 101, 2) := by decide +kernel
theorem dX6_order_139 : decode cX6_order 139 = .ok (.invokevirtual 160, 3) := by decide +kernel
theorem dX6_order_142 : decode cX6_order 142 = .ok (.aload_n 0, 1) := by decide +kernel
theorem dX6_order_143 : decode cX6_order 143 = .ok (.aload_n 0, 1) := by decide +kernel
theorem dX6_order_144 : decode cX6_order 144 = .ok (.getfield 167, 3) := by decide +kernel
theorem dX6_order_147 : decode cX6_order 147 = .ok (.bipush 111, 2) := by decide +kernel
theorem dX6_order_149 : decode cX6_order 149 = .ok (.if_icmp .ne 8, 3) := by decide +kernel
theorem dX6_order_152 : decode cX6_order 152 = .ok (.bipush 108, 2) := by decide +kernel
theorem dX6_order_154 : decode cX6_order 154 = .ok (.goto 5, 3) := by decide +kernel
theorem dX6_order_157 : decode cX6_order 157 = .ok (.bipush 97, 2) := by decide +kernel
theorem dX6_order_159 : decode cX6_order 159 = .ok (.invokevirtual 160, 3) := by decide +kernel
theorem dX6_order_162 : decode cX6_order 162 = .ok (.aload_n 0, 1) := by decide +kernel
theorem dX6_order_163 : decode cX6_order 163 = .ok (.aload_n 0, 1) := by decide +kernel
theorem dX6_order_164 : decode cX6_order 164 = .ok (.getfield 167, 3) := by decide +kernel
theorem dX6_order_167 : decode cX6_order 167 = .ok (.bipush 111, 2) := by decide +kernel
theorem dX6_order_169 : decode cX6_order 169 = .ok (.if_icmp .ne 8, 3) := by decide +kernel
theorem dX6_order_172 : decode cX6_order 172 = .ok (.bipush 100, 2) := by decide +kernel
theorem dX6_order_174 : decode cX6_order 174 = .ok (.goto 5, 3) := by decide +kernel
theorem dX6_order_177 : decode cX6_order 177 = .ok (.bipush 114, 2) := by decide +kernel
theorem dX6_order_179 : decode cX6_order 179 = .ok (.invokevirtual 160, 3) := by decide +kernel
theorem dX6_order_182 : decode cX6_order 182 = .ok (.aload_n 0, 1) := by decide +kernel
theorem dX6_order_183 : decode cX6_order 183 = .ok (.aload_n 0, 1) := by decide +kernel
theorem dX6_order_184 : decode cX6_order 184 = .ok (.iconst 0, 1) := by decide +kernel
theorem dX6_order_185 : decode cX6_order 185 = .ok (.iconst 3, 1) := by decide +kernel
theorem dX6_order_186 : decode cX6_order 186 = .ok (.invokevirtual 173, 3) := by decide +kernel
theorem dX6_order_189 : decode cX6_order 189 = .ok (.putfield 176, 3) := by decide +kernel
theorem dX6_order_192 : decode cX6_order 192 = .ok (.aload_n 0, 1) := by decide +kernel
theorem dX6_order_193 : decode cX6_order 193 = .ok (.aload_n 0, 1) := by decide +kernel
theorem dX6_order_194 : decode cX6_order 194 = .ok (.getfield 167, 3) := by decide +kernel
theorem dX6_order_197 : decode cX6_order 197 = .ok (.bipush 111, 2) := by decide +kernel
theorem dX6_order_199 : decode cX6_order 199 = .ok (.if_icmp .ne 13, 3) := by decide +kernel
theorem dX6_order_202 : decode cX6_order 202 = .ok (.aload_n 0, 1) := by decide +kernel
theorem dX6_order_203 : decode cX6_order 203 = .ok (.iconst 0, 1) := by decide +kernel
theorem dX6_order_204 : decode cX6_order 204 = .ok (.bipush 9, 2) := by decide +kernel
theorem dX6_order_206 : decode cX6_order 206 = .ok (.invokevirtual 173, 3) := by decide +kernel
theorem dX6_order_209 : decode cX6_order 209 = .ok (.goto 10, 3) := by decide +kernel
theorem dX6_order_212 : decode cX6_order 212 = .ok (.aload_n 0, 1) := by decide +kernel
theorem dX6_order_213 : decode cX6_order 213 = .ok (.iconst 0, 1) := by decide +kernel
theorem dX6_order_214 : decode cX6_order 214 = .ok (.bipush 127, 2) := by decide +kernel
theorem dX6_order_216 : decode cX6_order 216 = .ok (.invokevirtual 173, 3) := by decide +kernel
theorem dX6_order_219 : decode cX6_order 219 = .ok (.putfield 182, 3) := by decide +kernel
theorem dX6_order_222 : decode cX6_order 222 = .ok (.return_, 1) := by decide +kernel
theorem dX6_order_223 : decode cX6_order 223 = .ok (.aload_n 0, 1) := by decide +kernel
theorem dX6_order_224 : decode cX6_order 224 = .ok (.aload_n 0, 1) := by decide +kernel
theorem dX6_order_225 : decode cX6_order 225 = .ok (.bipush 116, 2) := by decide +kernel
theorem dX6_order_227 : decode cX6_order 227 = .ok (.invokevirtual 179, 3) := by decide +kernel
theorem dX6_order_230 : decode cX6_order 230 = .ok (.ifCond .eq 8, 3) := by decide +kernel
theorem dX6_order_233 : decode cX6_order 233 = .ok (.bipush 116, 2) := by decide +kernel
theorem dX6_order_235 : decode cX6_order 235 = .ok (.goto 5, 3) := by decide +kernel
theorem dX6_order_238 : decode cX6_order 238 = .ok (.bipush 115, 2) := by decide +kernel
theorem dX6_order_240 : decode cX6_order 240 = .ok (.putfield 167, 3) := by decide +kernel
theorem dX6_order_243 : decode cX6_order 243 = .ok (.aload_n 0, 1) := by decide +kernel
theorem dX6_order_244 : decode cX6_order 244 = .ok (.getfield 167, 3) := by decide +kernel
theorem dX6_order_247 : decode cX6_order 247 = .ok (.bipush 116, 2) := by decide +kernel
theorem dX6_order_249 : decode cX6_order 249 = .ok (.if_icmp .ne 49, 3) := by decide +kernel
theorem dX6_order_252 : decode cX6_order 252 = .ok (.aload_n 0, 1) := by decide +kernel
theorem dX6_order_253 : decode cX6_order 253 = .ok (.bipush 116, 2) := by decide +kernel
theorem dX6_order_255 : decode cX6_order 255 = .ok (.invokevirtual 160, 3) := by decide +kernel
theorem dX6_order_258 : decode cX6_order 258 = .ok (.aload_n 0, 1) := by decide +kernel
theorem dX6_order_259 : decode cX6_order 259 = .ok (.bipush 105, 2) := by decide +kernel
theorem dX6_order_261 : decode cX6_order 261 = .ok (.invokevirtual 160, 3) := by decide +kernel
theorem dX6_order_264 : decode cX6_order 264 = .ok (.aload_n 0, 1) := by decide +kernel
theorem dX6_order_265 : decode cX6_order 265 = .ok (.bipush 99, 2) := by decide +kernel
theorem dX6_order_267 : decode cX6_order 267 = .ok (.invokevirtual 160, 3) := by decide +kernel
theorem dX6_order_270 : decode cX6_order 270 = .ok (.aload_n 0, 1) := by decide +kernel
theorem dX6_order_271 : decode cX6_order 271 = .ok (.bipush 107, 2) := by decide +kernel
theorem dX6_order_273 : decode cX6_order 273 = .ok (.invokevirtual 160, 3) := by decide +kernel
theorem dX6_order_276 : decode cX6_order 276 = .ok (.aload_n 0, 1) := by decide +kernel
theorem dX6_order_277 : decode cX6_order 277 = .ok (.aload_n 0, 1) := by decide +kernel
theorem dX6_order_278 : decode cX6_order 278 = .ok (.iconst 0, 1) := by decide +kernel
theorem dX6_order_279 : decode cX6_order 279 = .ok (.iconst 3, 1) := by decide +kernel
theorem dX6_order_280 : decode cX6_order 280 = .ok (.invokevirtual 173, 3) := by decide +kernel
theorem dX6_order_283 : decode cX6_order 283 = .ok (.putfield 176, 3) := by decide +kernel
theorem dX6_order_286 : decode cX6_order 286 = .ok (.aload_n 0, 1) := by decide +kernel
theorem dX6_order_287 : decode cX6_order 287 = .ok (.aload_n 0, 1) := by decide +kernel
theorem dX6_order_288 : decode cX6_order 288 = .ok (.iconst 1, 1) := by decide +kernel
theorem dX6_order_289 : decode cX6_order 289 = .ok (.bipush 99, 2) := by decide +kernel
theorem dX6_order_291 : decode cX6_order 291 = .ok (.invokevirtual 173, 3) := by decide +kernel
theorem dX6_order_294 : decode cX6_order 294 = .ok (.putfield 182, 3) := by decide +kernel
theorem dX6_order_297 : decode cX6_order 297 = .ok (.return_, 1) := by decide +kernel
theorem dX6_order_298 : decode cX6_order 298 = .ok (.aload_n 0, 1) := by decide +kernel
theorem dX6_order_299 : decode cX6_order 299 = .ok (.bipush 97, 2) := by decide +kernel
theorem dX6_order_301 : decode cX6_order 301 = .ok (.invokevirtual 160, 3) := by decide +kernel
theorem dX6_order_304 : decode cX6_order 304 = .ok (.aload_n 0, 1) := by decide +kernel
theorem dX6_order_305 : decode cX6_order 305 = .ok (.bipush 121, 2) := by decide +kernel
theorem dX6_order_307 : decode cX6_order 307 = .ok (.invokevirtual 160, 3) := by decide +kernel
theorem dX6_order_310 : decode cX6_order 310 = .ok (.aload_n 0, 1) := by decide +kernel
theorem dX6_order_311 : decode cX6_order 311 = .ok (.aload_n 0, 1) := by decide +kernel
theorem dX6_order_312 : decode cX6_order 312 = .ok (.iconst 0, 1) := by decide +kernel
theorem dX6_order_313 : decode cX6_order 313 = .ok (.iconst 3, 1) := by decide +kernel
theorem dX6_order_314 : decode cX6_order 314 = .ok (.invokevirtual 173, 3) := by decide +kernel
theorem dX6_order_317 : decode cX6_order 317 = .ok (.putfield 176, 3) := by decide +kernel
theorem dX6_order_320 : decode cX6_order 320 = .ok (.aload_n 0, 1) := by decide +kernel
theorem dX6_order_321 : decode cX6_order 321 = .ok (.aload_n 0, 1) := by decide +kernel
theorem dX6_order_322 : decode cX6_order 322 = .ok (.iconst 0, 1) := by decide +kernel
theorem dX6_order_323 : decode cX6_order 323 = .ok (.bipush 127, 2) := by decide +kernel
theorem dX6_order_325 : decode cX6_order 325 = .ok (.invokevirtual 173, 3) := by decide +kernel
theorem dX6_order_328 : decode cX6_order 328 = .ok (.putfield 182, 3) := by decide +kernel
theorem dX6_order_331 : decode cX6_order 331 = .ok (.aload_n 0, 1) := by decide +kernel
theorem dX6_order_332 : decode cX6_order 332 = .ok (.aload_n 0, 1) := by decide +kernel
theorem dX6_order_333 : decode cX6_order 333 = .ok (.iconst 0, 1) := by decide +kernel
theorem dX6_order_334 : decode cX6_order 334 = .ok (.sipush 255, 3) := by decide +kernel
theorem dX6_order_337 : decode cX6_order 337 = .ok (.invokevirtual 173, 3) := by decide +kernel
theorem dX6_order_340 : decode cX6_order 340 = .ok (.putfield 185, 3) := by decide +kernel
theorem dX6_order_343 : decode cX6_order 343 = .ok (.aload_n 0, 1) := by decide +kernel
theorem dX6_order_344 : decode cX6_order 344 = .ok (.aload_n 0, 1) := by decide +kernel
theorem dX6_order_345 : decode cX6_order 345 = .ok (.bipush 32, 2) := by decide +kernel
theorem dX6_order_347 : decode cX6_order 347 = .ok (.invokevirtual 179, 3) := by decide +kernel
theorem dX6_order_350 : decode cX6_order 350 = .ok (.ifCond .eq 14, 3) := by decide +kernel
theorem dX6_order_353 : decode cX6_order 353 = .ok (.aload_n 0, 1) := by decide +kernel
theorem dX6_order_354 : decode cX6_order 354 = .ok (.iconst 0, 1) := by decide +kernel
theorem dX6_order_355 : decode cX6_order 355 = .ok (.sipush 255, 3) := by decide +kernel
theorem dX6_order_358 : decode cX6_order 358 = .ok (.invokevirtual 173, 3) := by decide +kernel
theorem dX6_order_361 : decode cX6_order 361 = .ok (.goto 5, 3) := by decide +kernel
theorem dX6_order_364 : decode cX6_order 364 = .ok (.bipush (-5), 2) := by decide +kernel
theorem dX6_order_366 : decode cX6_order 366 = .ok (.putfield 170, 3) := by decide +kernel
theorem dX6_order_369 : decode cX6_order 369 = .ok (.return_, 1) := by decide +kernel
theorem dX6_does_0 : decode cX6_does 0 = .ok (.aload_n 0, 1) := by decide +kernel
theorem dX6_does_1 : decode cX6_does 1 = .ok (.getfield 167, 3) := by decide +kernel
theorem dX6_does_4 : decode cX6_does 4 = .ok (.lookupswitch 92 #[(104, 53), (111, 66), (114, 44), (116, 79)], 44) := by decide +kernel
theorem dX6_does_48 : decode cX6_does 48 = .ok (.aload_n 0, 1) := by decide +kernel
theorem dX6_does_49 : decode cX6_does 49 = .ok (.aload_n 0, 1) := by decide +kernel
theorem dX6_does_50 : decode cX6_does 50 = .ok (.getfield 176, 3) := by decide +kernel
theorem dX6_does_53 : decode cX6_does 53 = .ok (.invokevirtual 147, 3) := by decide +kernel
theorem dX6_does_56 : decode cX6_does 56 = .ok (.ireturn, 1) := by decide +kernel
theorem dX6_does_57 : decode cX6_does 57 = .ok (.aload_n 0, 1) := by decide +kernel
theorem dX6_does_58 : decode cX6_does 58 = .ok (.aload_n 0, 1) := by decide +kernel
theorem dX6_does_59 : decode cX6_does 59 = .ok (.getfield 176, 3) := by decide +kernel
theorem dX6_does_62 : decode cX6_does 62 = .ok (.aload_n 0, 1) := by decide +kernel
theorem dX6_does_63 : decode cX6_does 63 = .ok (.getfield 182, 3) := by decide +kernel
theorem dX6_does_66 : decode cX6_does 66 = .ok (.invokevirtual 135, 3) := by decide +kernel
theorem dX6_does_69 : decode cX6_does 69 = .ok (.ireturn, 1) := by decide +kernel
theorem dX6_does_70 : decode cX6_does 70 = .ok (.aload_n 0, 1) := by decide +kernel
theorem dX6_does_71 : decode cX6_does 71 = .ok (.aload_n 0, 1) := by decide +kernel
theorem dX6_does_72 : decode cX6_does 72 = .ok (.getfield 176, 3) := by decide +kernel
theorem dX6_does_75 : decode cX6_does 75 = .ok (.aload_n 0, 1) := by decide +kernel
theorem dX6_does_76 : decode cX6_does 76 = .ok (.getfield 182, 3) := by decide +kernel
theorem dX6_does_79 : decode cX6_does 79 = .ok (.invokevirtual 138, 3) := by decide +kernel
theorem dX6_does_82 : decode cX6_does 82 = .ok (.ireturn, 1) := by decide +kernel
theorem dX6_does_83 : decode cX6_does 83 = .ok (.aload_n 0, 1) := by decide +kernel
theorem dX6_does_84 : decode cX6_does 84 = .ok (.aload_n 0, 1) := by decide +kernel
theorem dX6_does_85 : decode cX6_does 85 = .ok (.getfield 176, 3) := by decide +kernel
theorem dX6_does_88 : decode cX6_does 88 = .ok (.aload_n 0, 1) := by decide +kernel
theorem dX6_does_89 : decode cX6_does 89 = .ok (.getfield 182, 3) := by decide +kernel
theorem dX6_does_92 : decode cX6_does 92 = .ok (.invokevirtual 141, 3) := by decide +kernel
theorem dX6_does_95 : decode cX6_does 95 = .ok (.ireturn, 1) := by decide +kernel
theorem dX6_does_96 : decode cX6_does 96 = .ok (.aload_n 0, 1) := by decide +kernel
theorem dX6_does_97 : decode cX6_does 97 = .ok (.aload_n 0, 1) := by decide +kernel
theorem dX6_does_98 : decode cX6_does 98 = .ok (.getfield 176, 3) := by decide +kernel
theorem dX6_does_101 : decode cX6_does 101 = .ok (.aload_n 0, 1) := by decide +kernel
theorem dX6_does_102 : decode cX6_does 102 = .ok (.getfield 182, 3) := by decide +kernel
theorem dX6_does_105 : decode cX6_does 105 = .ok (.aload_n 0, 1) := by decide +kernel
theorem dX6_does_106 : decode cX6_does 106 = .ok (.getfield 185, 3) := by decide +kernel
theorem dX6_does_109 : decode cX6_does 109 = .ok (.aload_n 0, 1) := by decide +kernel
theorem dX6_does_110 : decode cX6_does 110 = .ok (.getfield 170, 3) := by decide +kernel
theorem dX6_does_113 : decode cX6_does 113 = .ok (.invokevirtual 125, 3) := by decide +kernel
theorem dX6_does_116 : decode cX6_does 116 = .ok (.ireturn, 1) := by decide +kernel
theorem dX6_go_0 : decode cX6_go 0 = .ok (.aload_n 0, 1) := by decide +kernel
theorem dX6_go_1 : decode cX6_go 1 = .ok (.iconst 0, 1) := by decide +kernel
theorem dX6_go_2 : decode cX6_go 2 = .ok (.putfield 157, 3) := by decide +kernel
theorem dX6_go_5 : decode cX6_go 5 = .ok (.aload_n 0, 1) := by decide +kernel
theorem dX6_go_6 : decode cX6_go 6 = .ok (.iconst 0, 1) := by decide +kernel
theorem dX6_go_7 : decode cX6_go 7 = .ok (.putfield 153, 3) := by decide +kernel
theorem dX6_go_10 : decode cX6_go 10 = .ok (.iconst 0, 1) := by decide +kernel
theorem dX6_go_11 : decode cX6_go 11 = .ok (.istore_n 2, 1) := by decide +kernel
theorem dX6_go_12 : decode cX6_go 12 = .ok (.iconst 1, 1) := by decide +kernel
theorem dX6_go_13 : decode cX6_go 13 = .ok (.istore_n 3, 1) := by decide +kernel
theorem dX6_go_14 : decode cX6_go 14 = .ok (.iload_n 3, 1) := by decide +kernel
theorem dX6_go_15 : decode cX6_go 15 = .ok (.ifCond .eq 112, 3) := by decide +kernel
theorem dX6_go_18 : decode cX6_go 18 = .ok (.aload_n 0, 1) := by decide +kernel
theorem dX6_go_19 : decode cX6_go 19 = .ok (.invokevirtual 188, 3) := by decide +kernel
theorem dX6_go_22 : decode cX6_go 22 = .ok (.iload_n 1, 1) := by decide +kernel
theorem dX6_go_23 : decode cX6_go 23 = .ok (.ifCond .eq 10, 3) := by decide +kernel
theorem dX6_go_26 : decode cX6_go 26 = .ok (.aload_n 0, 1) := by decide +kernel
theorem dX6_go_27 : decode cX6_go 27 = .ok (.invokevirtual 191, 3) := by decide +kernel
theorem dX6_go_30 : decode cX6_go 30 = .ok (.goto 4, 3) := by decide +kernel
theorem dX6_go_33 : decode cX6_go 33 = .ok (.iconst 0, 1) := by decide +kernel
theorem dX6_go_34 : decode cX6_go 34 = .ok (.istore 4, 2) := by decide +kernel
theorem dX6_go_36 : decode cX6_go 36 = .ok (.iload 4, 2) := by decide +kernel
theorem dX6_go_38 : decode cX6_go 38 = .ok (.ifCond .ge 14, 3) := by decide +kernel
theorem dX6_go_41 : decode cX6_go 41 = .ok (.iload 4, 2) := by decide +kernel
theorem dX6_go_43 : decode cX6_go 43 = .ok (.bipush (-5), 2) := by decide +kernel
theorem dX6_go_45 : decode cX6_go 45 = .ok (.if_icmp .eq 7, 3) := by decide +kernel
theorem dX6_go_48 : decode cX6_go 48 = .ok (.iconst 1, 1) := by decide +kernel
theorem dX6_go_49 : decode cX6_go 49 = .ok (.goto 4, 3) := by decide +kernel
theorem dX6_go_52 : decode cX6_go 52 = .ok (.iconst 0, 1) := by decide +kernel
theorem dX6_go_53 : decode cX6_go 53 = .ok (.istore 5, 2) := by decide +kernel
theorem dX6_go_55 : decode cX6_go 55 = .ok (.iload 5, 2) := by decide +kernel
theorem dX6_go_57 : decode cX6_go 57 = .ok (.ifCond .eq 17, 3) := by decide +kernel
theorem dX6_go_60 : decode cX6_go 60 = .ok (.aload_n 0, 1) := by decide +kernel
theorem dX6_go_61 : decode cX6_go 61 = .ok (.iload_n 2, 1) := by decide +kernel
theorem dX6_go_62 : decode cX6_go 62 = .ok (.putfield 25, 3) := by decide +kernel
theorem dX6_go_65 : decode cX6_go 65 = .ok (.aload_n 0, 1) := by decide +kernel
theorem dX6_go_66 : decode cX6_go 66 = .ok (.iload 4, 2) := by decide +kernel
theorem dX6_go_68 : decode cX6_go 68 = .ok (.putfield 194, 3) := by decide +kernel
theorem dX6_go_71 : decode cX6_go 71 = .ok (.bipush (-4), 2) := by decide +kernel
theorem dX6_go_73 : decode cX6_go 73 = .ok (.ireturn, 1) := by decide +kernel
theorem dX6_go_74 : decode cX6_go 74 = .ok (.iinc 2 1, 3) := by decide +kernel
theorem dX6_go_77 : decode cX6_go 77 = .ok (.aload_n 0, 1) := by decide +kernel
theorem dX6_go_78 : decode cX6_go 78 = .ok (.getfield 153, 3) := by decide +kernel
theorem dX6_go_81 : decode cX6_go 81 = .ok (.ifCond .ne 18, 3) := by decide +kernel
theorem dX6_go_84 : decode cX6_go 84 = .ok (.aload_n 0, 1) := by decide +kernel
theorem dX6_go_85 : decode cX6_go 85 = .ok (.getfield 157, 3) := by decide +kernel
theorem dX6_go_88 : decode cX6_go 88 = .ok (.aload_n 0, 1) := by decide +kernel
theorem dX6_go_89 : decode cX6_go 89 = .ok (.getfield 150, 3) := by decide +kernel
theorem dX6_go_92 : decode cX6_go 92 = .ok (.if_icmp .ge 7, 3) := by decide +kernel
theorem dX6_go_95 : decode cX6_go 95 = .ok (.iconst 1, 1) := by decide +kernel
theorem dX6_go_96 : decode cX6_go 96 = .ok (.goto 4, 3) := by decide +kernel
theorem dX6_go_99 : decode cX6_go 99 = .ok (.iconst 0, 1) := by decide +kernel
theorem dX6_go_100 : decode cX6_go 100 = .ok (.istore_n 3, 1) := by decide +kernel
theorem dX6_go_101 : decode cX6_go 101 = .ok (.iload_n 3, 1) := by decide +kernel
theorem dX6_go_102 : decode cX6_go 102 = .ok (.ifCond .eq 22, 3) := by decide +kernel
theorem dX6_go_105 : decode cX6_go 105 = .ok (.aload_n 0, 1) := by decide +kernel
theorem dX6_go_106 : decode cX6_go 106 = .ok (.bipush 59, 2) := by decide +kernel
theorem dX6_go_108 : decode cX6_go 108 = .ok (.invokevirtual 160, 3) := by decide +kernel
theorem dX6_go_111 : decode cX6_go 111 = .ok (.aload_n 0, 1) := by decide +kernel
theorem dX6_go_112 : decode cX6_go 112 = .ok (.getfield 153, 3) := by decide +kernel
theorem dX6_go_115 : decode cX6_go 115 = .ok (.ifCond .ne 7, 3) := by decide +kernel
theorem dX6_go_118 : decode cX6_go 118 = .ok (.iconst 1, 1) := by decide +kernel
theorem dX6_go_119 : decode cX6_go 119 = .ok (.goto 4, 3) := by decide +kernel
theorem dX6_go_122 : decode cX6_go 122 = .ok (.iconst 0, 1) := by decide +kernel
theorem dX6_go_123 : decode cX6_go 123 = .ok (.istore_n 3, 1) := by decide +kernel
theorem dX6_go_124 : decode cX6_go 124 = .ok (.goto (-110), 3) := by decide +kernel
theorem dX6_go_127 : decode cX6_go 127 = .ok (.iload_n 2, 1) := by decide +kernel
theorem dX6_go_128 : decode cX6_go 128 = .ok (.ireturn, 1) := by decide +kernel
theorem dX6_perform_0 : decode cX6_perform 0 = .ok (.aload_n 0, 1) := by decide +kernel
theorem dX6_perform_1 : decode cX6_perform 1 = .ok (.iconst 0, 1) := by decide +kernel
theorem dX6_perform_2 : decode cX6_perform 2 = .ok (.invokevirtual 197, 3) := by decide +kernel
theorem dX6_perform_5 : decode cX6_perform 5 = .ok (.istore_n 1, 1) := by decide +kernel
theorem dX6_perform_6 : decode cX6_perform 6 = .ok (.aload_n 0, 1) := by decide +kernel
theorem dX6_perform_7 : decode cX6_perform 7 = .ok (.getfield 153, 3) := by decide +kernel
theorem dX6_perform_10 : decode cX6_perform 10 = .ok (.ifCond .eq 11, 3) := by decide +kernel
theorem dX6_perform_13 : decode cX6_perform 13 = .ok (.bipush (-100), 2) := by decide +kernel
theorem dX6_perform_15 : decode cX6_perform 15 = .ok (.aload_n 0, 1) := by decide +kernel
theorem dX6_perform_16 : decode cX6_perform 16 = .ok (.getfield 157, 3) := by decide +kernel
theorem dX6_perform_19 : decode cX6_perform 19 = .ok (.isub, 1) := by decide +kernel
theorem dX6_perform_20 : decode cX6_perform 20 = .ok (.ireturn, 1) := by decide +kernel
theorem dX6_perform_21 : decode cX6_perform 21 = .ok (.aload_n 0, 1) := by decide +kernel
theorem dX6_perform_22 : decode cX6_perform 22 = .ok (.invokevirtual 122, 3) := by decide +kernel
theorem dX6_perform_25 : decode cX6_perform 25 = .ok (.aload_n 0, 1) := by decide +kernel
theorem dX6_perform_26 : decode cX6_perform 26 = .ok (.iconst 1, 1) := by decide +kernel
theorem dX6_perform_27 : decode cX6_perform 27 = .ok (.invokevirtual 197, 3) := by decide +kernel
theorem dX6_perform_30 : decode cX6_perform 30 = .ok (.istore_n 2, 1) := by decide +kernel
theorem dX6_perform_31 : decode cX6_perform 31 = .ok (.iload_n 2, 1) := by decide +kernel
theorem dX6_perform_32 : decode cX6_perform 32 = .ok (.ifCond .ge 7, 3) := by decide +kernel
theorem dX6_perform_35 : decode cX6_perform 35 = .ok (.aload_n 0, 1) := by decide +kernel
theorem dX6_perform_36 : decode cX6_perform 36 = .ok (.invokevirtual 201, 3) := by decide +kernel
theorem dX6_perform_39 : decode cX6_perform 39 = .ok (.aload_n 0, 1) := by decide +kernel
theorem dX6_perform_40 : decode cX6_perform 40 = .ok (.iload_n 2, 1) := by decide +kernel
theorem dX6_perform_41 : decode cX6_perform 41 = .ok (.invokevirtual 129, 3) := by decide +kernel
theorem dX6_perform_44 : decode cX6_perform 44 = .ok (.ireturn, 1) := by decide +kernel
theorem dX6_stopped_0 : decode cX6_stopped 0 = .ok (.iload_n 1, 1) := by decide +kernel
theorem dX6_stopped_1 : decode cX6_stopped 1 = .ok (.iconst 0, 1) := by decide +kernel
theorem dX6_stopped_2 : decode cX6_stopped 2 = .ok (.iconst 1, 1) := by decide +kernel
theorem dX6_stopped_3 : decode cX6_stopped 3 = .ok (.invokestatic 36, 3) := by decide +kernel
theorem dX6_stopped_6 : decode cX6_stopped 6 = .ok (.ifCond .ne 8, 3) := by decide +kernel
theorem dX6_stopped_9 : decode cX6_stopped 9 = .ok (.bipush (-2), 2) := by decide +kernel
theorem dX6_stopped_11 : decode cX6_stopped 11 = .ok (.goto 32, 3) := by decide +kernel
theorem dX6_stopped_14 : decode cX6_stopped 14 = .ok (.aload_n 0, 1) := by decide +kernel
theorem dX6_stopped_15 : decode cX6_stopped 15 = .ok (.getfield 25, 3) := by decide +kernel
theorem dX6_stopped_18 : decode cX6_stopped 18 = .ok (.bipush (-5), 2) := by decide +kernel
theorem dX6_stopped_20 : decode cX6_stopped 20 = .ok (.if_icmp .ne 8, 3) := by decide +kernel
theorem dX6_stopped_23 : decode cX6_stopped 23 = .ok (.bipush (-5), 2) := by decide +kernel
theorem dX6_stopped_25 : decode cX6_stopped 25 = .ok (.goto 18, 3) := by decide +kernel
theorem dX6_stopped_28 : decode cX6_stopped 28 = .ok (.iload_n 1, 1) := by decide +kernel
theorem dX6_stopped_29 : decode cX6_stopped 29 = .ok (.ifCond .ne 10, 3) := by decide +kernel
theorem dX6_stopped_32 : decode cX6_stopped 32 = .ok (.aload_n 0, 1) := by decide +kernel
theorem dX6_stopped_33 : decode cX6_stopped 33 = .ok (.getfield 25, 3) := by decide +kernel
theorem dX6_stopped_36 : decode cX6_stopped 36 = .ok (.goto 7, 3) := by decide +kernel
theorem dX6_stopped_39 : decode cX6_stopped 39 = .ok (.aload_n 0, 1) := by decide +kernel
theorem dX6_stopped_40 : decode cX6_stopped 40 = .ok (.getfield 194, 3) := by decide +kernel
theorem dX6_stopped_43 : decode cX6_stopped 43 = .ok (.ireturn, 1) := by decide +kernel
theorem dX6_undo_0 : decode cX6_undo 0 = .ok (.aload_n 0, 1) := by decide +kernel
theorem dX6_undo_1 : decode cX6_undo 1 = .ok (.getfield 40, 3) := by decide +kernel
theorem dX6_undo_4 : decode cX6_undo 4 = .ok (.ifCond .ne 6, 3) := by decide +kernel
theorem dX6_undo_7 : decode cX6_undo 7 = .ok (.bipush (-5), 2) := by decide +kernel
theorem dX6_undo_9 : decode cX6_undo 9 = .ok (.ireturn, 1) := by decide +kernel
theorem dX6_undo_10 : decode cX6_undo 10 = .ok (.aload_n 0, 1) := by decide +kernel
theorem dX6_undo_11 : decode cX6_undo 11 = .ok (.dup, 1) := by decide +kernel
theorem dX6_undo_12 : decode cX6_undo 12 = .ok (.getfield 40, 3) := by decide +kernel
theorem dX6_undo_15 : decode cX6_undo 15 = .ok (.iconst 1, 1) := by decide +kernel
theorem dX6_undo_16 : decode cX6_undo 16 = .ok (.isub, 1) := by decide +kernel
theorem dX6_undo_17 : decode cX6_undo 17 = .ok (.putfield 40, 3) := by decide +kernel
theorem dX6_undo_20 : decode cX6_undo 20 = .ok (.iconst 0, 1) := by decide +kernel
theorem dX6_undo_21 : decode cX6_undo 21 = .ok (.istore_n 1, 1) := by decide +kernel
theorem dX6_undo_22 : decode cX6_undo 22 = .ok (.iload_n 1, 1) := by decide +kernel
theorem dX6_undo_23 : decode cX6_undo 23 = .ok (.sipush 375, 3) := by decide +kernel
theorem dX6_undo_26 : decode cX6_undo 26 = .ok (.if_icmp .ge 30, 3) := by decide +kernel
theorem dX6_undo_29 : decode cX6_undo 29 = .ok (.aload_n 0, 1) := by decide +kernel
theorem dX6_undo_30 : decode cX6_undo 30 = .ok (.getfield 7, 3) := by decide +kernel
theorem dX6_undo_33 : decode cX6_undo 33 = .ok (.iload_n 1, 1) := by decide +kernel
theorem dX6_undo_34 : decode cX6_undo 34 = .ok (.aload_n 0, 1) := by decide +kernel
theorem dX6_undo_35 : decode cX6_undo 35 = .ok (.getfield 16, 3) := by decide +kernel
theorem dX6_undo_38 : decode cX6_undo 38 = .ok (.sipush 375, 3) := by decide +kernel
theorem dX6_undo_41 : decode cX6_undo 41 = .ok (.aload_n 0, 1) := by decide +kernel
theorem dX6_undo_42 : decode cX6_undo 42 = .ok (.getfield 40, 3) := by decide +kernel
theorem dX6_undo_45 : decode cX6_undo 45 = .ok (.imul, 1) := by decide +kernel
theorem dX6_undo_46 : decode cX6_undo 46 = .ok (.iload_n 1, 1) := by decide +kernel
theorem dX6_undo_47 : decode cX6_undo 47 = .ok (.iadd, 1) := by decide +kernel
theorem dX6_undo_48 : decode cX6_undo 48 = .ok (.iaload, 1) := by decide +kernel
theorem dX6_undo_49 : decode cX6_undo 49 = .ok (.iastore, 1) := by decide +kernel
theorem dX6_undo_50 : decode cX6_undo 50 = .ok (.iinc 1 1, 3) := by decide +kernel
theorem dX6_undo_53 : decode cX6_undo 53 = .ok (.goto (-31), 3) := by decide +kernel
theorem dX6_undo_56 : decode cX6_undo 56 = .ok (.aload_n 0, 1) := by decide +kernel
theorem dX6_undo_57 : decode cX6_undo 57 = .ok (.getfield 40, 3) := by decide +kernel
theorem dX6_undo_60 : decode cX6_undo 60 = .ok (.ireturn, 1) := by decide +kernel
theorem dX6_keep_0 : decode cX6_keep 0 = .ok (.iconst 0, 1) := by decide +kernel
theorem dX6_keep_1 : decode cX6_keep 1 = .ok (.istore_n 1, 1) := by decide +kernel
theorem dX6_keep_2 : decode cX6_keep 2 = .ok (.iload_n 1, 1) := by decide +kernel
theorem dX6_keep_3 : decode cX6_keep 3 = .ok (.sipush 375, 3) := by decide +kernel
theorem dX6_keep_6 : decode cX6_keep 6 = .ok (.if_icmp .ge 21, 3) := by decide +kernel
theorem dX6_keep_9 : decode cX6_keep 9 = .ok (.aload_n 0, 1) := by decide +kernel
theorem dX6_keep_10 : decode cX6_keep 10 = .ok (.getfield 19, 3) := by decide +kernel
theorem dX6_keep_13 : decode cX6_keep 13 = .ok (.iload_n 1, 1) := by decide +kernel
theorem dX6_keep_14 : decode cX6_keep 14 = .ok (.aload_n 0, 1) := by decide +kernel
theorem dX6_keep_15 : decode cX6_keep 15 = .ok (.getfield 7, 3) := by decide +kernel
theorem dX6_keep_18 : decode cX6_keep 18 = .ok (.iload_n 1, 1) := by decide +kernel
theorem dX6_keep_19 : decode cX6_keep 19 = .ok (.iaload, 1) := by decide +kernel
theorem dX6_keep_20 : decode cX6_keep 20 = .ok (.iastore, 1) := by decide +kernel
theorem dX6_keep_21 : decode cX6_keep 21 = .ok (.iinc 1 1, 3) := by decide +kernel
theorem dX6_keep_24 : decode cX6_keep 24 = .ok (.goto (-22), 3) := by decide +kernel
theorem dX6_keep_27 : decode cX6_keep 27 = .ok (.aload_n 0, 1) := by decide +kernel
theorem dX6_keep_28 : decode cX6_keep 28 = .ok (.iconst 1, 1) := by decide +kernel
theorem dX6_keep_29 : decode cX6_keep 29 = .ok (.putfield 204, 3) := by decide +kernel
theorem dX6_keep_32 : decode cX6_keep 32 = .ok (.aload_n 0, 1) := by decide +kernel
theorem dX6_keep_33 : decode cX6_keep 33 = .ok (.getfield 7, 3) := by decide +kernel
theorem dX6_keep_36 : decode cX6_keep 36 = .ok (.iconst 3, 1) := by decide +kernel
theorem dX6_keep_37 : decode cX6_keep 37 = .ok (.iaload, 1) := by decide +kernel
theorem dX6_keep_38 : decode cX6_keep 38 = .ok (.ireturn, 1) := by decide +kernel
theorem dX6_restore_0 : decode cX6_restore 0 = .ok (.aload_n 0, 1) := by decide +kernel
theorem dX6_restore_1 : decode cX6_restore 1 = .ok (.getfield 204, 3) := by decide +kernel
theorem dX6_restore_4 : decode cX6_restore 4 = .ok (.ifCond .ne 6, 3) := by decide +kernel
theorem dX6_restore_7 : decode cX6_restore 7 = .ok (.bipush (-5), 2) := by decide +kernel
theorem dX6_restore_9 : decode cX6_restore 9 = .ok (.ireturn, 1) := by decide +kernel
theorem dX6_restore_10 : decode cX6_restore 10 = .ok (.aload_n 0, 1) := by decide +kernel
theorem dX6_restore_11 : decode cX6_restore 11 = .ok (.invokevirtual 122, 3) := by decide +kernel
theorem dX6_restore_14 : decode cX6_restore 14 = .ok (.iconst 0, 1) := by decide +kernel
theorem dX6_restore_15 : decode cX6_restore 15 = .ok (.istore_n 1, 1) := by decide +kernel
theorem dX6_restore_16 : decode cX6_restore 16 = .ok (.iload_n 1, 1) := by decide +kernel
theorem dX6_restore_17 : decode cX6_restore 17 = .ok (.sipush 375, 3) := by decide +kernel
theorem dX6_restore_20 : decode cX6_restore 20 = .ok (.if_icmp .ge 21, 3) := by decide +kernel
theorem dX6_restore_23 : decode cX6_restore 23 = .ok (.aload_n 0, 1) := by decide +kernel
theorem dX6_restore_24 : decode cX6_restore 24 = .ok (.getfield 7, 3) := by decide +kernel
theorem dX6_restore_27 : decode cX6_restore 27 = .ok (.iload_n 1, 1) := by decide +kernel
theorem dX6_restore_28 : decode cX6_restore 28 = .ok (.aload_n 0, 1) := by decide +kernel
theorem dX6_restore_29 : decode cX6_restore 29 = .ok (.getfield 19, 3) := by decide +kernel
theorem dX6_restore_32 : decode cX6_restore 32 = .ok (.iload_n 1, 1) := by decide +kernel
theorem dX6_restore_33 : decode cX6_restore 33 = .ok (.iaload, 1) := by decide +kernel
theorem dX6_restore_34 : decode cX6_restore 34 = .ok (.iastore, 1) := by decide +kernel
theorem dX6_restore_35 : decode cX6_restore 35 = .ok (.iinc 1 1, 3) := by decide +kernel
theorem dX6_restore_38 : decode cX6_restore 38 = .ok (.goto (-22), 3) := by decide +kernel
theorem dX6_restore_41 : decode cX6_restore 41 = .ok (.aload_n 0, 1) := by decide +kernel
theorem dX6_restore_42 : decode cX6_restore 42 = .ok (.aload_n 0, 1) := by decide +kernel
theorem dX6_restore_43 : decode cX6_restore 43 = .ok (.getfield 7, 3) := by decide +kernel
theorem dX6_restore_46 : decode cX6_restore 46 = .ok (.iconst 3, 1) := by decide +kernel
theorem dX6_restore_47 : decode cX6_restore 47 = .ok (.iaload, 1) := by decide +kernel
theorem dX6_restore_48 : decode cX6_restore 48 = .ok (.invokevirtual 129, 3) := by decide +kernel
theorem dX6_restore_51 : decode cX6_restore 51 = .ok (.ireturn, 1) := by decide +kernel
theorem dX6_speaker_0 : decode cX6_speaker 0 = .ok (.iload_n 1, 1) := by decide +kernel
theorem dX6_speaker_1 : decode cX6_speaker 1 = .ok (.invokestatic 109, 3) := by decide +kernel
theorem dX6_speaker_4 : decode cX6_speaker 4 = .ok (.ifCond .ne 7, 3) := by decide +kernel
theorem dX6_speaker_7 : decode cX6_speaker 7 = .ok (.iconst (-1), 1) := by decide +kernel
theorem dX6_speaker_8 : decode cX6_speaker 8 = .ok (.goto 28, 3) := by decide +kernel
theorem dX6_speaker_11 : decode cX6_speaker 11 = .ok (.iload_n 2, 1) := by decide +kernel
theorem dX6_speaker_12 : decode cX6_speaker 12 = .ok (.iconst 0, 1) := by decide +kernel
theorem dX6_speaker_13 : decode cX6_speaker 13 = .ok (.bipush 6, 2) := by decide +kernel
theorem dX6_speaker_15 : decode cX6_speaker 15 = .ok (.invokestatic 36, 3) := by decide +kernel
theorem dX6_speaker_18 : decode cX6_speaker 18 = .ok (.ifCond .eq 16, 3) := by decide +kernel
theorem dX6_speaker_21 : decode cX6_speaker 21 = .ok (.aload_n 0, 1) := by decide +kernel
theorem dX6_speaker_22 : decode cX6_speaker 22 = .ok (.getfield 7, 3) := by decide +kernel
theorem dX6_speaker_25 : decode cX6_speaker 25 = .ok (.iload_n 1, 1) := by decide +kernel
theorem dX6_speaker_26 : decode cX6_speaker 26 = .ok (.iload_n 2, 1) := by decide +kernel
theorem dX6_speaker_27 : decode cX6_speaker 27 = .ok (.invokestatic 33, 3) := by decide +kernel
theorem dX6_speaker_30 : decode cX6_speaker 30 = .ok (.iaload, 1) := by decide +kernel
theorem dX6_speaker_31 : decode cX6_speaker 31 = .ok (.goto 5, 3) := by decide +kernel
theorem dX6_speaker_34 : decode cX6_speaker 34 = .ok (.bipush (-2), 2) := by decide +kernel
theorem dX6_speaker_36 : decode cX6_speaker 36 = .ok (.ireturn, 1) := by decide +kernel
theorem dX6_ticksOf_0 : decode cX6_ticksOf 0 = .ok (.aload_n 0, 1) := by decide +kernel
theorem dX6_ticksOf_1 : decode cX6_ticksOf 1 = .ok (.iload_n 1, 1) := by decide +kernel
theorem dX6_ticksOf_2 : decode cX6_ticksOf 2 = .ok (.iload_n 2, 1) := by decide +kernel
theorem dX6_ticksOf_3 : decode cX6_ticksOf 3 = .ok (.iconst 2, 1) := by decide +kernel
theorem dX6_ticksOf_4 : decode cX6_ticksOf 4 = .ok (.invokevirtual 43, 3) := by decide +kernel
theorem dX6_ticksOf_7 : decode cX6_ticksOf 7 = .ok (.invokestatic 78, 3) := by decide +kernel
theorem dX6_ticksOf_10 : decode cX6_ticksOf 10 = .ok (.istore_n 3, 1) := by decide +kernel
theorem dX6_ticksOf_11 : decode cX6_ticksOf 11 = .ok (.aload_n 0, 1) := by decide +kernel
theorem dX6_ticksOf_12 : decode cX6_ticksOf 12 = .ok (.aload_n 0, 1) := by decide +kernel
theorem dX6_ticksOf_13 : decode cX6_ticksOf 13 = .ok (.iload_n 1, 1) := by decide +kernel
theorem dX6_ticksOf_14 : decode cX6_ticksOf 14 = .ok (.iload_n 2, 1) := by decide +kernel
theorem dX6_ticksOf_15 : decode cX6_ticksOf 15 = .ok (.iconst 0, 1) := by decide +kernel
theorem dX6_ticksOf_16 : decode cX6_ticksOf 16 = .ok (.invokevirtual 43, 3) := by decide +kernel
theorem dX6_ticksOf_19 : decode cX6_ticksOf 19 = .ok (.invokevirtual 74, 3) := by decide +kernel
theorem dX6_ticksOf_22 : decode cX6_ticksOf 22 = .ok (.istore 4, 2) := by decide +kernel
theorem dX6_ticksOf_24 : decode cX6_ticksOf 24 = .ok (.iload_n 3, 1) := by decide +kernel
theorem dX6_ticksOf_25 : decode cX6_ticksOf 25 = .ok (.iload 4, 2) := by decide +kernel
theorem dX6_ticksOf_27 : decode cX6_ticksOf 27 = .ok (.bipush (-5), 2) := by decide +kernel
theorem dX6_ticksOf_29 : decode cX6_ticksOf 29 = .ok (.if_icmp .ne 7, 3) := by decide +kernel
theorem dX6_ticksOf_32 : decode cX6_ticksOf 32 = .ok (.iconst 0, 1) := by decide +kernel
theorem dX6_ticksOf_33 : decode cX6_ticksOf 33 = .ok (.goto 19, 3) := by decide +kernel
theorem dX6_ticksOf_36 : decode cX6_ticksOf 36 = .ok (.iload_n 3, 1) := by decide +kernel
theorem dX6_ticksOf_37 : decode cX6_ticksOf 37 = .ok (.bipush 9, 2) := by decide +kernel
theorem dX6_ticksOf_39 : decode cX6_ticksOf 39 = .ok (.idiv, 1) := by decide +kernel
theorem dX6_ticksOf_40 : decode cX6_ticksOf 40 = .ok (.aload_n 0, 1) := by decide +kernel
theorem dX6_ticksOf_41 : decode cX6_ticksOf 41 = .ok (.getfield 7, 3) := by decide +kernel
theorem dX6_ticksOf_44 : decode cX6_ticksOf 44 = .ok (.iload 4, 2) := by decide +kernel
theorem dX6_ticksOf_46 : decode cX6_ticksOf 46 = .ok (.iconst 1, 1) := by decide +kernel
theorem dX6_ticksOf_47 : decode cX6_ticksOf 47 = .ok (.invokestatic 29, 3) := by decide +kernel
theorem dX6_ticksOf_50 : decode cX6_ticksOf 50 = .ok (.iaload, 1) := by decide +kernel
theorem dX6_ticksOf_51 : decode cX6_ticksOf 51 = .ok (.imul, 1) := by decide +kernel
theorem dX6_ticksOf_52 : decode cX6_ticksOf 52 = .ok (.iadd, 1) := by decide +kernel
theorem dX6_ticksOf_53 : decode cX6_ticksOf 53 = .ok (.ireturn, 1) := by decide +kernel
theorem dX6_message_0 : decode cX6_message 0 = .ok (.iload_n 1, 1) := by decide +kernel
theorem dX6_message_1 : decode cX6_message 1 = .ok (.invokestatic 109, 3) := by decide +kernel
theorem dX6_message_4 : decode cX6_message 4 = .ok (.ifCond .eq 23, 3) := by decide +kernel
theorem dX6_message_7 : decode cX6_message 7 = .ok (.iload_n 2, 1) := by decide +kernel
theorem dX6_message_8 : decode cX6_message 8 = .ok (.iconst 0, 1) := by decide +kernel
theorem dX6_message_9 : decode cX6_message 9 = .ok (.aload_n 0, 1) := by decide +kernel
theorem dX6_message_10 : decode cX6_message 10 = .ok (.getfield 7, 3) := by decide +kernel
theorem dX6_message_13 : decode cX6_message 13 = .ok (.iload_n 1, 1) := by decide +kernel
theorem dX6_message_14 : decode cX6_message 14 = .ok (.iconst 0, 1) := by decide +kernel
theorem dX6_message_15 : decode cX6_message 15 = .ok (.invokestatic 33, 3) := by decide +kernel
theorem dX6_message_18 : decode cX6_message 18 = .ok (.iaload, 1) := by decide +kernel
theorem dX6_message_19 : decode cX6_message 19 = .ok (.iconst 1, 1) := by decide +kernel
theorem dX6_message_20 : decode cX6_message 20 = .ok (.isub, 1) := by decide +kernel
theorem dX6_message_21 : decode cX6_message 21 = .ok (.invokestatic 36, 3) := by decide +kernel
theorem dX6_message_24 : decode cX6_message 24 = .ok (.ifCond .ne 5, 3) := by decide +kernel
theorem dX6_message_27 : decode cX6_message 27 = .ok (.iconst (-1), 1) := by decide +kernel
theorem dX6_message_28 : decode cX6_message 28 = .ok (.ireturn, 1) := by decide +kernel
theorem dX6_message_29 : decode cX6_message 29 = .ok (.iload_n 3, 1) := by decide +kernel
theorem dX6_message_30 : decode cX6_message 30 = .ok (.tableswitch 60 0 4 #[34, 34, 34, 42, 53], 34) := by decide +kernel
theorem dX6_message_64 : decode cX6_message 64 = .ok (.aload_n 0, 1) := by decide +kernel
theorem dX6_message_65 : decode cX6_message 65 = .ok (.iload_n 1, 1) := by decide +kernel
theorem dX6_message_66 : decode cX6_message 66 = .ok (.iload_n 2, 1) := by decide +kernel
theorem dX6_message_67 : decode cX6_message 67 = .ok (.iload_n 3, 1) := by decide +kernel
theorem dX6_message_68 : decode cX6_message 68 = .ok (.invokevirtual 43, 3) := by decide +kernel
theorem dX6_message_71 : decode cX6_message 71 = .ok (.ireturn, 1) := by decide +kernel
theorem dX6_message_72 : decode cX6_message 72 = .ok (.aload_n 0, 1) := by decide +kernel
theorem dX6_message_73 : decode cX6_message 73 = .ok (.iload_n 1, 1) := by decide +kernel
theorem dX6_message_74 : decode cX6_message 74 = .ok (.iload_n 2, 1) := by decide +kernel
theorem dX6_message_75 : decode cX6_message 75 = .ok (.iconst 2, 1) := by decide +kernel
theorem dX6_message_76 : decode cX6_message 76 = .ok (.invokevirtual 43, 3) := by decide +kernel
theorem dX6_message_79 : decode cX6_message 79 = .ok (.invokestatic 78, 3) := by decide +kernel
theorem dX6_message_82 : decode cX6_message 82 = .ok (.ireturn, 1) := by decide +kernel
theorem dX6_message_83 : decode cX6_message 83 = .ok (.aload_n 0, 1) := by decide +kernel
theorem dX6_message_84 : decode cX6_message 84 = .ok (.iload_n 1, 1) := by decide +kernel
theorem dX6_message_85 : decode cX6_message 85 = .ok (.iload_n 2, 1) := by decide +kernel
theorem dX6_message_86 : decode cX6_message 86 = .ok (.invokevirtual 207, 3) := by decide +kernel
theorem dX6_message_89 : decode cX6_message 89 = .ok (.ireturn, 1) := by decide +kernel
theorem dX6_message_90 : decode cX6_message 90 = .ok (.bipush (-2), 2) := by decide +kernel
theorem dX6_message_92 : decode cX6_message 92 = .ok (.ireturn, 1) := by decide +kernel
theorem dX6_listener_0 : decode cX6_listener 0 = .ok (.iload_n 1, 1) := by decide +kernel
theorem dX6_listener_1 : decode cX6_listener 1 = .ok (.invokestatic 109, 3) := by decide +kernel
theorem dX6_listener_4 : decode cX6_listener 4 = .ok (.ifCond .ne 7, 3) := by decide +kernel
theorem dX6_listener_7 : decode cX6_listener 7 = .ok (.iconst (-1), 1) := by decide +kernel
theorem dX6_listener_8 : decode cX6_listener 8 = .ok (.goto 27, 3) := by decide +kernel
theorem dX6_listener_11 : decode cX6_listener 11 = .ok (.iload_n 2, 1) := by decide +kernel
theorem dX6_listener_12 : decode cX6_listener 12 = .ok (.iconst 0, 1) := by decide +kernel
theorem dX6_listener_13 : decode cX6_listener 13 = .ok (.iconst 4, 1) := by decide +kernel
theorem dX6_listener_14 : decode cX6_listener 14 = .ok (.invokestatic 36, 3) := by decide +kernel
theorem dX6_listener_17 : decode cX6_listener 17 = .ok (.ifCond .eq 16, 3) := by decide +kernel
theorem dX6_listener_20 : decode cX6_listener 20 = .ok (.aload_n 0, 1) := by decide +kernel
theorem dX6_listener_21 : decode cX6_listener 21 = .ok (.getfield 7, 3) := by decide +kernel
theorem dX6_listener_24 : decode cX6_listener 24 = .ok (.iload_n 1, 1) := by decide +kernel
theorem dX6_listener_25 : decode cX6_listener 25 = .ok (.iload_n 2, 1) := by decide +kernel
theorem dX6_listener_26 : decode cX6_listener 26 = .ok (.invokestatic 29, 3) := by decide +kernel
theorem dX6_listener_29 : decode cX6_listener 29 = .ok (.iaload, 1) := by decide +kernel
theorem dX6_listener_30 : decode cX6_listener 30 = .ok (.goto 5, 3) := by decide +kernel
theorem dX6_listener_33 : decode cX6_listener 33 = .ok (.bipush (-2), 2) := by decide +kernel
theorem dX6_listener_35 : decode cX6_listener 35 = .ok (.ireturn, 1) := by decide +kernel
theorem dX6_bit_0 : decode cX6_bit 0 = .ok (.iload_n 1, 1) := by decide +kernel
theorem dX6_bit_1 : decode cX6_bit 1 = .ok (.ifCond .lt 12, 3) := by decide +kernel
theorem dX6_bit_4 : decode cX6_bit 4 = .ok (.iload_n 2, 1) := by decide +kernel
theorem dX6_bit_5 : decode cX6_bit 5 = .ok (.iconst 0, 1) := by decide +kernel
theorem dX6_bit_6 : decode cX6_bit 6 = .ok (.iconst 3, 1) := by decide +kernel
theorem dX6_bit_7 : decode cX6_bit 7 = .ok (.invokestatic 36, 3) := by decide +kernel
theorem dX6_bit_10 : decode cX6_bit 10 = .ok (.ifCond .ne 6, 3) := by decide +kernel
theorem dX6_bit_13 : decode cX6_bit 13 = .ok (.bipush (-2), 2) := by decide +kernel
theorem dX6_bit_15 : decode cX6_bit 15 = .ok (.ireturn, 1) := by decide +kernel
theorem dX6_bit_16 : decode cX6_bit 16 = .ok (.iload_n 1, 1) := by decide +kernel
theorem dX6_bit_17 : decode cX6_bit 17 = .ok (.aload_n 0, 1) := by decide +kernel
theorem dX6_bit_18 : decode cX6_bit 18 = .ok (.getfield 7, 3) := by decide +kernel
theorem dX6_bit_21 : decode cX6_bit 21 = .ok (.bipush 118, 2) := by decide +kernel
theorem dX6_bit_23 : decode cX6_bit 23 = .ok (.iaload, 1) := by decide +kernel
theorem dX6_bit_24 : decode cX6_bit 24 = .ok (.if_icmp .lt 8, 3) := by decide +kernel
theorem dX6_bit_27 : decode cX6_bit 27 = .ok (.bipush (-5), 2) := by decide +kernel
theorem dX6_bit_29 : decode cX6_bit 29 = .ok (.goto 26, 3) := by decide +kernel
theorem dX6_bit_32 : decode cX6_bit 32 = .ok (.aload_n 0, 1) := by decide +kernel
theorem dX6_bit_33 : decode cX6_bit 33 = .ok (.getfield 7, 3) := by decide +kernel
theorem dX6_bit_36 : decode cX6_bit 36 = .ok (.bipush 119, 2) := by decide +kernel
theorem dX6_bit_38 : decode cX6_bit 38 = .ok (.iconst 4, 1) := by decide +kernel
theorem dX6_bit_39 : decode cX6_bit 39 = .ok (.aload_n 0, 1) := by decide +kernel
theorem dX6_bit_40 : decode cX6_bit 40 = .ok (.getfield 7, 3) := by decide +kernel
theorem dX6_bit_43 : decode cX6_bit 43 = .ok (.bipush 118, 2) := by decide +kernel
theorem dX6_bit_45 : decode cX6_bit 45 = .ok (.iaload, 1) := by decide +kernel
theorem dX6_bit_46 : decode cX6_bit 46 = .ok (.iconst 1, 1) := by decide +kernel
theorem dX6_bit_47 : decode cX6_bit 47 = .ok (.isub, 1) := by decide +kernel
theorem dX6_bit_48 : decode cX6_bit 48 = .ok (.iload_n 1, 1) := by decide +kernel
theorem dX6_bit_49 : decode cX6_bit 49 = .ok (.isub, 1) := by decide +kernel
theorem dX6_bit_50 : decode cX6_bit 50 = .ok (.imul, 1) := by decide +kernel
theorem dX6_bit_51 : decode cX6_bit 51 = .ok (.iadd, 1) := by decide +kernel
theorem dX6_bit_52 : decode cX6_bit 52 = .ok (.iload_n 2, 1) := by decide +kernel
theorem dX6_bit_53 : decode cX6_bit 53 = .ok (.iadd, 1) := by decide +kernel
theorem dX6_bit_54 : decode cX6_bit 54 = .ok (.iaload, 1) := by decide +kernel
theorem dX6_bit_55 : decode cX6_bit 55 = .ok (.ireturn, 1) := by decide +kernel
theorem dX6_winners_0 : decode cX6_winners 0 = .ok (.iconst 0, 1) := by decide +kernel
theorem dX6_winners_1 : decode cX6_winners 1 = .ok (.istore_n 1, 1) := by decide +kernel
theorem dX6_winners_2 : decode cX6_winners 2 = .ok (.iconst 0, 1) := by decide +kernel
theorem dX6_winners_3 : decode cX6_winners 3 = .ok (.istore_n 2, 1) := by decide +kernel
theorem dX6_winners_4 : decode cX6_winners 4 = .ok (.iload_n 2, 1) := by decide +kernel
theorem dX6_winners_5 : decode cX6_winners 5 = .ok (.iconst 4, 1) := by decide +kernel
theorem dX6_winners_6 : decode cX6_winners 6 = .ok (.if_icmp .ge 32, 3) := by decide +kernel
theorem dX6_winners_9 : decode cX6_winners 9 = .ok (.iload_n 1, 1) := by decide +kernel
theorem dX6_winners_10 : decode cX6_winners 10 = .ok (.aload_n 0, 1) := by decide +kernel
theorem dX6_winners_11 : decode cX6_winners 11 = .ok (.getfield 7, 3) := by decide +kernel
theorem dX6_winners_14 : decode cX6_winners 14 = .ok (.iload_n 2, 1) := by decide +kernel
theorem dX6_winners_15 : decode cX6_winners 15 = .ok (.iconst 0, 1) := by decide +kernel
theorem dX6_winners_16 : decode cX6_winners 16 = .ok (.invokestatic 33, 3) := by decide +kernel
theorem dX6_winners_19 : decode cX6_winners 19 = .ok (.iaload, 1) := by decide +kernel
theorem dX6_winners_20 : decode cX6_winners 20 = .ok (.ifCond .le 9, 3) := by decide +kernel
theorem dX6_winners_23 : decode cX6_winners 23 = .ok (.iconst 1, 1) := by decide +kernel
theorem dX6_winners_24 : decode cX6_winners 24 = .ok (.iload_n 2, 1) := by decide +kernel
theorem dX6_winners_25 : decode cX6_winners 25 = .ok (.ishl, 1) := by decide +kernel
theorem dX6_winners_26 : decode cX6_winners 26 = .ok (.goto 4, 3) := by decide +kernel
theorem dX6_winners_29 : decode cX6_winners 29 = .ok (.iconst 0, 1) := by decide +kernel
theorem dX6_winners_30 : decode cX6_winners 30 = .ok (.ior, 1) := by decide +kernel
theorem dX6_winners_31 : decode cX6_winners 31 = .ok (.istore_n 1, 1) := by decide +kernel
theorem dX6_winners_32 : decode cX6_winners 32 = .ok (.iinc 2 1, 3) := by decide +kernel
theorem dX6_winners_35 : decode cX6_winners 35 = .ok (.goto (-31), 3) := by decide +kernel
theorem dX6_winners_38 : decode cX6_winners 38 = .ok (.iconst 0, 1) := by decide +kernel
theorem dX6_winners_39 : decode cX6_winners 39 = .ok (.istore_n 2, 1) := by decide +kernel
theorem dX6_winners_40 : decode cX6_winners 40 = .ok (.iload_n 2, 1) := by decide +kernel
theorem dX6_winners_41 : decode cX6_winners 41 = .ok (.bipush 27, 2) := by decide +kernel
theorem dX6_winners_43 : decode cX6_winners 43 = .ok (.if_icmp .ge 138, 3) := by decide +kernel
theorem dX6_winners_46 : decode cX6_winners 46 = .ok (.iconst 0, 1) := by decide +kernel
theorem dX6_winners_47 : decode cX6_winners 47 = .ok (.istore_n 3, 1) := by decide +kernel
theorem dX6_winners_48 : decode cX6_winners 48 = .ok (.iconst 0, 1) := by decide +kernel
theorem dX6_winners_49 : decode cX6_winners 49 = .ok (.istore 4, 2) := by decide +kernel
theorem dX6_winners_51 : decode cX6_winners 51 = .ok (.iconst 0, 1) := by decide +kernel
theorem dX6_winners_52 : decode cX6_winners 52 = .ok (.istore 5, 2) := by decide +kernel
theorem dX6_winners_54 : decode cX6_winners 54 = .ok (.iload 5, 2) := by decide +kernel
theorem dX6_winners_56 : decode cX6_winners 56 = .ok (.iconst 4, 1) := by decide +kernel
theorem dX6_winners_57 : decode cX6_winners 57 = .ok (.if_icmp .ge 103, 3) := by decide +kernel
theorem dX6_winners_60 : decode cX6_winners 60 = .ok (.iload_n 1, 1) := by decide +kernel
theorem dX6_winners_61 : decode cX6_winners 61 = .ok (.iload 5, 2) := by decide +kernel
theorem dX6_winners_63 : decode cX6_winners 63 = .ok (.ishr, 1) := by decide +kernel
theorem dX6_winners_64 : decode cX6_winners 64 = .ok (.iconst 1, 1) := by decide +kernel
theorem dX6_winners_65 : decode cX6_winners 65 = .ok (.iand, 1) := by decide +kernel
theorem dX6_winners_66 : decode cX6_winners 66 = .ok (.iconst 1, 1) := by decide +kernel
theorem dX6_winners_67 : decode cX6_winners 67 = .ok (.if_icmp .ne 29, 3) := by decide +kernel
theorem dX6_winners_70 : decode cX6_winners 70 = .ok (.iload_n 2, 1) := by decide +kernel
theorem dX6_winners_71 : decode cX6_winners 71 = .ok (.invokestatic 58, 3) := by decide +kernel
theorem dX6_winners_74 : decode cX6_winners 74 = .ok (.ifCond .ne 22, 3) := by decide +kernel
theorem dX6_winners_77 : decode cX6_winners 77 = .ok (.iload_n 2, 1) := by decide +kernel
theorem dX6_winners_78 : decode cX6_winners 78 = .ok (.aload_n 0, 1) := by decide +kernel
theorem dX6_winners_79 : decode cX6_winners 79 = .ok (.iload 5, 2) := by decide +kernel
theorem dX6_winners_81 : decode cX6_winners 81 = .ok (.iconst 0, 1) := by decide +kernel
theorem dX6_winners_82 : decode cX6_winners 82 = .ok (.iconst 2, 1) := by decide +kernel
theorem dX6_winners_83 : decode cX6_winners 83 = .ok (.invokevirtual 43, 3) := by decide +kernel
theorem dX6_winners_86 : decode cX6_winners 86 = .ok (.invokestatic 78, 3) := by decide +kernel
theorem dX6_winners_89 : decode cX6_winners 89 = .ok (.if_icmp .ge 7, 3) := by decide +kernel
theorem dX6_winners_92 : decode cX6_winners 92 = .ok (.iconst 1, 1) := by decide +kernel
theorem dX6_winners_93 : decode cX6_winners 93 = .ok (.goto 4, 3) := by decide +kernel
theorem dX6_winners_96 : decode cX6_winners 96 = .ok (.iconst 0, 1) := by decide +kernel
theorem dX6_winners_97 : decode cX6_winners 97 = .ok (.istore 6, 2) := by decide +kernel
theorem dX6_winners_99 : decode cX6_winners 99 = .ok (.iload_n 3, 1) := by decide +kernel
theorem dX6_winners_100 : decode cX6_winners 100 = .ok (.iload 6, 2) := by decide +kernel
theorem dX6_winners_102 : decode cX6_winners 102 = .ok (.ifCond .eq 20, 3) := by decide +kernel
theorem dX6_winners_105 : decode cX6_winners 105 = .ok (.aload_n 0, 1) := by decide +kernel
theorem dX6_winners_106 : decode cX6_winners 106 = .ok (.iload 5, 2) := by decide +kernel
theorem dX6_winners_108 : decode cX6_winners 108 = .ok (.iload_n 2, 1) := by decide +kernel
theorem dX6_winners_109 : decode cX6_winners 109 = .ok (.invokevirtual 51, 3) := by decide +kernel
theorem dX6_winners_112 : decode cX6_winners 112 = .ok (.ifCond .ne 10, 3) := by decide +kernel
theorem dX6_winners_115 : decode cX6_winners 115 = .ok (.iconst 1, 1) := by decide +kernel
theorem dX6_winners_116 : decode cX6_winners 116 = .ok (.iload 5, 2) := by decide +kernel
theorem dX6_winners_118 : decode cX6_winners 118 = .ok (.ishl, 1) := by decide +kernel
theorem dX6_winners_119 : decode cX6_winners 119 = .ok (.goto 4, 3) := by decide +kernel
theorem dX6_winners_122 : decode cX6_winners 122 = .ok (.iconst 0, 1) := by decide +kernel
theorem dX6_winners_123 : decode cX6_winners 123 = .ok (.ior, 1) := by decide +kernel
theorem dX6_winners_124 : decode cX6_winners 124 = .ok (.istore_n 3, 1) := by decide +kernel
theorem dX6_winners_125 : decode cX6_winners 125 = .ok (.iload 4, 2) := by decide +kernel
theorem dX6_winners_127 : decode cX6_winners 127 = .ok (.iload 6, 2) := by decide +kernel
theorem dX6_winners_129 : decode cX6_winners 129 = .ok (.ifCond .eq 21, 3) := by decide +kernel
theorem dX6_winners_132 : decode cX6_winners 132 = .ok (.aload_n 0, 1) := by decide +kernel
theorem dX6_winners_133 : decode cX6_winners 133 = .ok (.iload 5, 2) := by decide +kernel
theorem dX6_winners_135 : decode cX6_winners 135 = .ok (.iload_n 2, 1) := by decide +kernel
theorem dX6_winners_136 : decode cX6_winners 136 = .ok (.invokevirtual 51, 3) := by decide +kernel
theorem dX6_winners_139 : decode cX6_winners 139 = .ok (.iconst 1, 1) := by decide +kernel
theorem dX6_winners_140 : decode cX6_winners 140 = .ok (.if_icmp .ne 10, 3) := by decide +kernel
theorem dX6_winners_143 : decode cX6_winners 143 = .ok (.iconst 1, 1) := by decide +kernel
theorem dX6_winners_144 : decode cX6_winners 144 = .ok (.iload 5, 2) := by decide +kernel
theorem dX6_winners_146 : decode cX6_winners 146 = .ok (.ishl, 1) := by decide +kernel
theorem dX6_winners_147 : decode cX6_winners 147 = .ok (.goto 4, 3) := by decide +kernel
theorem dX6_winners_150 : decode cX6_winners 150 = .ok (.iconst 0, 1) := by decide +kernel
theorem dX6_winners_151 : decode cX6_winners 151 = .ok (.ior, 1) := by decide +kernel
theorem dX6_winners_152 : decode cX6_winners 152 = .ok (.istore 4, 2) := by decide +kernel
theorem dX6_winners_154 : decode cX6_winners 154 = .ok (.iinc 5 1, 3) := by decide +kernel
theorem dX6_winners_157 : decode cX6_winners 157 = .ok (.goto (-103), 3) := by decide +kernel
theorem dX6_winners_160 : decode cX6_winners 160 = .ok (.iload_n 1, 1) := by decide +kernel
theorem dX6_winners_161 : decode cX6_winners 161 = .ok (.iload_n 3, 1) := by decide +kernel
theorem dX6_winners_162 : decode cX6_winners 162 = .ok (.ifCond .eq 10, 3) := by decide +kernel
theorem dX6_winners_165 : decode cX6_winners 165 = .ok (.iload 4, 2) := by decide +kernel
theorem dX6_winners_167 : decode cX6_winners 167 = .ok (.iconst (-1), 1) := by decide +kernel
theorem dX6_winners_168 : decode cX6_winners 168 = .ok (.ixor, 1) := by decide +kernel
theorem dX6_winners_169 : decode cX6_winners 169 = .ok (.goto 4, 3) := by decide +kernel
theorem dX6_winners_172 : decode cX6_winners 172 = .ok (.iconst (-1), 1) := by decide +kernel
theorem dX6_winners_173 : decode cX6_winners 173 = .ok (.iand, 1) := by decide +kernel
theorem dX6_winners_174 : decode cX6_winners 174 = .ok (.istore_n 1, 1) := by decide +kernel
theorem dX6_winners_175 : decode cX6_winners 175 = .ok (.iinc 2 1, 3) := by decide +kernel
theorem dX6_winners_178 : decode cX6_winners 178 = .ok (.goto (-138), 3) := by decide +kernel
theorem dX6_winners_181 : decode cX6_winners 181 = .ok (.iload_n 1, 1) := by decide +kernel
theorem dX6_winners_182 : decode cX6_winners 182 = .ok (.ireturn, 1) := by decide +kernel
theorem dX6_emptyIn_0 : decode cX6_emptyIn 0 = .ok (.aload_n 0, 1) := by decide +kernel
theorem dX6_emptyIn_1 : decode cX6_emptyIn 1 = .ok (.invokevirtual 122, 3) := by decide +kernel
theorem dX6_emptyIn_4 : decode cX6_emptyIn 4 = .ok (.iconst 0, 1) := by decide +kernel
theorem dX6_emptyIn_5 : decode cX6_emptyIn 5 = .ok (.istore_n 1, 1) := by decide +kernel
theorem dX6_emptyIn_6 : decode cX6_emptyIn 6 = .ok (.iload_n 1, 1) := by decide +kernel
theorem dX6_emptyIn_7 : decode cX6_emptyIn 7 = .ok (.sipush 1000, 3) := by decide +kernel
theorem dX6_emptyIn_10 : decode cX6_emptyIn 10 = .ok (.if_icmp .ge 20, 3) := by decide +kernel
theorem dX6_emptyIn_13 : decode cX6_emptyIn 13 = .ok (.aload_n 0, 1) := by decide +kernel
theorem dX6_emptyIn_14 : decode cX6_emptyIn 14 = .ok (.invokevirtual 85, 3) := by decide +kernel
theorem dX6_emptyIn_17 : decode cX6_emptyIn 17 = .ok (.ifCond .le 13, 3) := by decide +kernel
theorem dX6_emptyIn_20 : decode cX6_emptyIn 20 = .ok (.aload_n 0, 1) := by decide +kernel
theorem dX6_emptyIn_21 : decode cX6_emptyIn 21 = .ok (.invokevirtual 116, 3) := by decide +kernel
theorem dX6_emptyIn_24 : decode cX6_emptyIn 24 = .ok (.iinc 1 1, 3) := by decide +kernel
theorem dX6_emptyIn_27 : decode cX6_emptyIn 27 = .ok (.goto (-21), 3) := by decide +kernel
theorem dX6_emptyIn_30 : decode cX6_emptyIn 30 = .ok (.aload_n 0, 1) := by decide +kernel
theorem dX6_emptyIn_31 : decode cX6_emptyIn 31 = .ok (.invokevirtual 85, 3) := by decide +kernel
theorem dX6_emptyIn_34 : decode cX6_emptyIn 34 = .ok (.ifCond .ne 7, 3) := by decide +kernel
theorem dX6_emptyIn_37 : decode cX6_emptyIn 37 = .ok (.iconst 1, 1) := by decide +kernel
theorem dX6_emptyIn_38 : decode cX6_emptyIn 38 = .ok (.goto 4, 3) := by decide +kernel
theorem dX6_emptyIn_41 : decode cX6_emptyIn 41 = .ok (.iconst 0, 1) := by decide +kernel
theorem dX6_emptyIn_42 : decode cX6_emptyIn 42 = .ok (.istore_n 2, 1) := by decide +kernel
theorem dX6_emptyIn_43 : decode cX6_emptyIn 43 = .ok (.aload_n 0, 1) := by decide +kernel
theorem dX6_emptyIn_44 : decode cX6_emptyIn 44 = .ok (.invokevirtual 201, 3) := by decide +kernel
theorem dX6_emptyIn_47 : decode cX6_emptyIn 47 = .ok (.iload_n 2, 1) := by decide +kernel
theorem dX6_emptyIn_48 : decode cX6_emptyIn 48 = .ok (.ifCond .eq 7, 3) := by decide +kernel
theorem dX6_emptyIn_51 : decode cX6_emptyIn 51 = .ok (.iload_n 1, 1) := by decide +kernel
theorem dX6_emptyIn_52 : decode cX6_emptyIn 52 = .ok (.goto 5, 3) := by decide +kernel
theorem dX6_emptyIn_55 : decode cX6_emptyIn 55 = .ok (.bipush (-5), 2) := by decide +kernel
theorem dX6_emptyIn_57 : decode cX6_emptyIn 57 = .ok (.ireturn, 1) := by decide +kernel
theorem dX6_ifRun_0 : decode cX6_ifRun 0 = .ok (.iload_n 1, 1) := by decide +kernel
theorem dX6_ifRun_1 : decode cX6_ifRun 1 = .ok (.invokestatic 109, 3) := by decide +kernel
theorem dX6_ifRun_4 : decode cX6_ifRun 4 = .ok (.ifCond .ne 5, 3) := by decide +kernel
theorem dX6_ifRun_7 : decode cX6_ifRun 7 = .ok (.iconst (-1), 1) := by decide +kernel
theorem dX6_ifRun_8 : decode cX6_ifRun 8 = .ok (.ireturn, 1) := by decide +kernel
theorem dX6_ifRun_9 : decode cX6_ifRun 9 = .ok (.iload_n 2, 1) := by decide +kernel
theorem dX6_ifRun_10 : decode cX6_ifRun 10 = .ok (.iconst 1, 1) := by decide +kernel
theorem dX6_ifRun_11 : decode cX6_ifRun 11 = .ok (.sipush 300, 3) := by decide +kernel
theorem dX6_ifRun_14 : decode cX6_ifRun 14 = .ok (.invokestatic 36, 3) := by decide +kernel
theorem dX6_ifRun_17 : decode cX6_ifRun 17 = .ok (.ifCond .ne 6, 3) := by decide +kernel
theorem dX6_ifRun_20 : decode cX6_ifRun 20 = .ok (.bipush (-2), 2) := by decide +kernel
theorem dX6_ifRun_22 : decode cX6_ifRun 22 = .ok (.ireturn, 1) := by decide +kernel
theorem dX6_ifRun_23 : decode cX6_ifRun 23 = .ok (.aload_n 0, 1) := by decide +kernel
theorem dX6_ifRun_24 : decode cX6_ifRun 24 = .ok (.invokevirtual 122, 3) := by decide +kernel
theorem dX6_ifRun_27 : decode cX6_ifRun 27 = .ok (.aload_n 0, 1) := by decide +kernel
theorem dX6_ifRun_28 : decode cX6_ifRun 28 = .ok (.getfield 7, 3) := by decide +kernel
theorem dX6_ifRun_31 : decode cX6_ifRun 31 = .ok (.iload_n 1, 1) := by decide +kernel
theorem dX6_ifRun_32 : decode cX6_ifRun 32 = .ok (.iconst 2, 1) := by decide +kernel
theorem dX6_ifRun_33 : decode cX6_ifRun 33 = .ok (.invokestatic 33, 3) := by decide +kernel
theorem dX6_ifRun_36 : decode cX6_ifRun 36 = .ok (.iaload, 1) := by decide +kernel
theorem dX6_ifRun_37 : decode cX6_ifRun 37 = .ok (.istore_n 3, 1) := by decide +kernel
theorem dX6_ifRun_38 : decode cX6_ifRun 38 = .ok (.iconst 0, 1) := by decide +kernel
theorem dX6_ifRun_39 : decode cX6_ifRun 39 = .ok (.istore 4, 2) := by decide +kernel
theorem dX6_ifRun_41 : decode cX6_ifRun 41 = .ok (.iload 4, 2) := by decide +kernel
theorem dX6_ifRun_43 : decode cX6_ifRun 43 = .ok (.iload_n 2, 1) := by decide +kernel
theorem dX6_ifRun_44 : decode cX6_ifRun 44 = .ok (.if_icmp .ge 13, 3) := by decide +kernel
theorem dX6_ifRun_47 : decode cX6_ifRun 47 = .ok (.aload_n 0, 1) := by decide +kernel
theorem dX6_ifRun_48 : decode cX6_ifRun 48 = .ok (.invokevirtual 116, 3) := by decide +kernel
theorem dX6_ifRun_51 : decode cX6_ifRun 51 = .ok (.iinc 4 1, 3) := by decide +kernel
theorem dX6_ifRun_54 : decode cX6_ifRun 54 = .ok (.goto (-13), 3) := by decide +kernel
theorem dX6_ifRun_57 : decode cX6_ifRun 57 = .ok (.aload_n 0, 1) := by decide +kernel
theorem dX6_ifRun_58 : decode cX6_ifRun 58 = .ok (.getfield 7, 3) := by decide +kernel
theorem dX6_ifRun_61 : decode cX6_ifRun 61 = .ok (.iload_n 1, 1) := by decide +kernel
theorem dX6_ifRun_62 : decode cX6_ifRun 62 = .ok (.iconst 2, 1) := by decide +kernel
theorem dX6_ifRun_63 : decode cX6_ifRun 63 = .ok (.invokestatic 33, 3) := by decide +kernel
theorem dX6_ifRun_66 : decode cX6_ifRun 66 = .ok (.iaload, 1) := by decide +kernel
theorem dX6_ifRun_67 : decode cX6_ifRun 67 = .ok (.iload_n 3, 1) := by decide +kernel
theorem dX6_ifRun_68 : decode cX6_ifRun 68 = .ok (.isub, 1) := by decide +kernel
theorem dX6_ifRun_69 : decode cX6_ifRun 69 = .ok (.istore 4, 2) := by decide +kernel
theorem dX6_ifRun_71 : decode cX6_ifRun 71 = .ok (.aload_n 0, 1) := by decide +kernel
theorem dX6_ifRun_72 : decode cX6_ifRun 72 = .ok (.invokevirtual 201, 3) := by decide +kernel
theorem dX6_ifRun_75 : decode cX6_ifRun 75 = .ok (.iload 4, 2) := by decide +kernel
theorem dX6_ifRun_77 : decode cX6_ifRun 77 = .ok (.ireturn, 1) := by decide +kernel
theorem dX6_count_0 : decode cX6_count 0 = .ok (.iload_n 1, 1) := by decide +kernel
theorem dX6_count_1 : decode cX6_count 1 = .ok (.tableswitch 174 0 15 #[79, 86, 91, 96, 104, 112, 120, 128, 133, 138, 146, 154, 154, 154, 164, 169], 79) := by decide +kernel
theorem dX6_count_80 : decode cX6_count 80 = .ok (.aload_n 0, 1) := by decide +kernel
theorem dX6_count_81 : decode cX6_count 81 = .ok (.getfield 7, 3) := by decide +kernel
theorem dX6_count_84 : decode cX6_count 84 = .ok (.iconst 3, 1) := by decide +kernel
theorem dX6_count_85 : decode cX6_count 85 = .ok (.iaload, 1) := by decide +kernel
theorem dX6_count_86 : decode cX6_count 86 = .ok (.ireturn, 1) := by decide +kernel
theorem dX6_count_87 : decode cX6_count 87 = .ok (.aload_n 0, 1) := by decide +kernel
theorem dX6_count_88 : decode cX6_count 88 = .ok (.invokevirtual 54, 3) := by decide +kernel
theorem dX6_count_91 : decode cX6_count 91 = .ok (.ireturn, 1) := by decide +kernel
theorem dX6_count_92 : decode cX6_count 92 = .ok (.aload_n 0, 1) := by decide +kernel
theorem dX6_count_93 : decode cX6_count 93 = .ok (.invokevirtual 91, 3) := by decide +kernel
theorem dX6_count_96 : decode cX6_count 96 = .ok (.ireturn, 1) := by decide +kernel
theorem dX6_count_97 : decode cX6_count 97 = .ok (.aload_n 0, 1) := by decide +kernel
theorem dX6_count_98 : decode cX6_count 98 = .ok (.getfield 7, 3) := by decide +kernel
theorem dX6_count_101 : decode cX6_count 101 = .ok (.bipush 112, 2) := by decide +kernel
theorem dX6_count_103 : decode cX6_count 103 = .ok (.iaload, 1) := by decide +kernel
theorem dX6_count_104 : decode cX6_count 104 = .ok (.ireturn, 1) := by decide +kernel
theorem dX6_count_105 : decode cX6_count 105 = .ok (.aload_n 0, 1) := by decide +kernel
theorem dX6_count_106 : decode cX6_count 106 = .ok (.getfield 7, 3) := by decide +kernel
theorem dX6_count_109 : decode cX6_count 109 = .ok (.bipush 113, 2) := by decide +kernel
theorem dX6_count_111 : decode cX6_count 111 = .ok (.iaload, 1) := by decide +kernel
theorem dX6_count_112 : decode cX6_count 112 = .ok (.ireturn, 1) := by decide +kernel
theorem dX6_count_113 : decode cX6_count 113 = .ok (.aload_n 0, 1) := by decide +kernel
theorem dX6_count_114 : decode cX6_count 114 = .ok (.getfield 7, 3) := by decide +kernel
theorem dX6_count_117 : decode cX6_count 117 = .ok (.bipush 114, 2) := by decide +kernel
theorem dX6_count_119 : decode cX6_count 119 = .ok (.iaload, 1) := by decide +kernel
theorem dX6_count_120 : decode cX6_count 120 = .ok (.ireturn, 1) := by decide +kernel
theorem dX6_count_121 : decode cX6_count 121 = .ok (.aload_n 0, 1) := by decide +kernel
theorem dX6_count_122 : decode cX6_count 122 = .ok (.getfield 7, 3) := by decide +kernel
theorem dX6_count_125 : decode cX6_count 125 = .ok (.bipush 115, 2) := by decide +kernel
theorem dX6_count_127 : decode cX6_count 127 = .ok (.iaload, 1) := by decide +kernel
theorem dX6_count_128 : decode cX6_count 128 = .ok (.ireturn, 1) := by decide +kernel
theorem dX6_count_129 : decode cX6_count 129 = .ok (.aload_n 0, 1) := by decide +kernel
theorem dX6_count_130 : decode cX6_count 130 = .ok (.invokevirtual 85, 3) := by decide +kernel
theorem dX6_count_133 : decode cX6_count 133 = .ok (.ireturn, 1) := by decide +kernel
theorem dX6_count_134 : decode cX6_count 134 = .ok (.aload_n 0, 1) := by decide +kernel
theorem dX6_count_135 : decode cX6_count 135 = .ok (.invokevirtual 113, 3) := by decide +kernel
theorem dX6_count_138 : decode cX6_count 138 = .ok (.ireturn, 1) := by decide +kernel
theorem dX6_count_139 : decode cX6_count 139 = .ok (.aload_n 0, 1) := by decide +kernel
theorem dX6_count_140 : decode cX6_count 140 = .ok (.getfield 7, 3) := by decide +kernel
theorem dX6_count_143 : decode cX6_count 143 = .ok (.bipush 116, 2) := by decide +kernel
theorem dX6_count_145 : decode cX6_count 145 = .ok (.iaload, 1) := by decide +kernel
theorem dX6_count_146 : decode cX6_count 146 = .ok (.ireturn, 1) := by decide +kernel
theorem dX6_count_147 : decode cX6_count 147 = .ok (.aload_n 0, 1) := by decide +kernel
theorem dX6_count_148 : decode cX6_count 148 = .ok (.getfield 7, 3) := by decide +kernel
theorem dX6_count_151 : decode cX6_count 151 = .ok (.bipush 117, 2) := by decide +kernel
theorem dX6_count_153 : decode cX6_count 153 = .ok (.iaload, 1) := by decide +kernel
theorem dX6_count_154 : decode cX6_count 154 = .ok (.ireturn, 1) := by decide +kernel
theorem dX6_count_155 : decode cX6_count 155 = .ok (.aload_n 0, 1) := by decide +kernel
theorem dX6_count_156 : decode cX6_count 156 = .ok (.getfield 7, 3) := by decide +kernel
theorem dX6_count_159 : decode cX6_count 159 = .ok (.iload_n 1, 1) := by decide +kernel
theorem dX6_count_160 : decode cX6_count 160 = .ok (.bipush 11, 2) := by decide +kernel
theorem dX6_count_162 : decode cX6_count 162 = .ok (.isub, 1) := by decide +kernel
theorem dX6_count_163 : decode cX6_count 163 = .ok (.iaload, 1) := by decide +kernel
theorem dX6_count_164 : decode cX6_count 164 = .ok (.ireturn, 1) := by decide +kernel
theorem dX6_count_165 : decode cX6_count 165 = .ok (.aload_n 0, 1) := by decide +kernel
theorem dX6_count_166 : decode cX6_count 166 = .ok (.getfield 40, 3) := by decide +kernel
theorem dX6_count_169 : decode cX6_count 169 = .ok (.ireturn, 1) := by decide +kernel
theorem dX6_count_170 : decode cX6_count 170 = .ok (.aload_n 0, 1) := by decide +kernel
theorem dX6_count_171 : decode cX6_count 171 = .ok (.getfield 150, 3) := by decide +kernel
theorem dX6_count_174 : decode cX6_count 174 = .ok (.ireturn, 1) := by decide +kernel
theorem dX6_count_175 : decode cX6_count 175 = .ok (.bipush (-2), 2) := by decide +kernel
theorem dX6_count_177 : decode cX6_count 177 = .ok (.ireturn, 1) := by decide +kernel
theorem dL_law_0 : decode cL_law 0 = .ok (.new 7, 3) := by decide +kernel
theorem dL_law_3 : decode cL_law 3 = .ok (.dup, 1) := by decide +kernel
theorem dL_law_4 : decode cL_law 4 = .ok (.invokespecial 9, 3) := by decide +kernel
theorem dL_law_7 : decode cL_law 7 = .ok (.astore_n 1, 1) := by decide +kernel
theorem dL_law_8 : decode cL_law 8 = .ok (.new 10, 3) := by decide +kernel
theorem dL_law_11 : decode cL_law 11 = .ok (.dup, 1) := by decide +kernel
theorem dL_law_12 : decode cL_law 12 = .ok (.invokespecial 12, 3) := by decide +kernel
theorem dL_law_15 : decode cL_law 15 = .ok (.astore_n 2, 1) := by decide +kernel
theorem dL_law_16 : decode cL_law 16 = .ok (.iconst 0, 1) := by decide +kernel
theorem dL_law_17 : decode cL_law 17 = .ok (.istore_n 3, 1) := by decide +kernel
theorem dL_law_18 : decode cL_law 18 = .ok (.iload_n 3, 1) := by decide +kernel
theorem dL_law_19 : decode cL_law 19 = .ok (.aload_n 0, 1) := by decide +kernel
theorem dL_law_20 : decode cL_law 20 = .ok (.arraylength, 1) := by decide +kernel
theorem dL_law_21 : decode cL_law 21 = .ok (.iconst 5, 1) := by decide +kernel
theorem dL_law_22 : decode cL_law 22 = .ok (.isub, 1) := by decide +kernel
theorem dL_law_23 : decode cL_law 23 = .ok (.if_icmp .gt 687, 3) := by decide +kernel
theorem dL_law_26 : decode cL_law 26 = .ok (.aload_n 0, 1) := by decide +kernel
theorem dL_law_27 : decode cL_law 27 = .ok (.iload_n 3, 1) := by decide +kernel
theorem dL_law_28 : decode cL_law 28 = .ok (.iaload, 1) := by decide +kernel
theorem dL_law_29 : decode cL_law 29 = .ok (.bipush 31, 2) := by decide +kernel
theorem dL_law_31 : decode cL_law 31 = .ok (.iand, 1) := by decide +kernel
theorem dL_law_32 : decode cL_law 32 = .ok (.tableswitch 672 0 21 #[104, 157, 180, 213, 246, 279, 312, 335, 360, 373, 386, 409, 422, 435, 448, 481, 524, 557, 590, 603, 616, 649], 104) := by decide +kernel
theorem dL_law_136 : decode cL_law 136 = .ok (.aload_n 1, 1) := by decide +kernel
theorem dL_law_137 : decode cL_law 137 = .ok (.aload_n 0, 1) := by decide +kernel
theorem dL_law_138 : decode cL_law 138 = .ok (.iload_n 3, 1) := by decide +kernel
theorem dL_law_139 : decode cL_law 139 = .ok (.iconst 1, 1) := by decide +kernel
theorem dL_law_140 : decode cL_law 140 = .ok (.iadd, 1) := by decide +kernel
theorem dL_law_141 : decode cL_law 141 = .ok (.iaload, 1) := by decide +kernel
theorem dL_law_142 : decode cL_law 142 = .ok (.aload_n 0, 1) := by decide +kernel
theorem dL_law_143 : decode cL_law 143 = .ok (.iload_n 3, 1) := by decide +kernel
theorem dL_law_144 : decode cL_law 144 = .ok (.iconst 2, 1) := by decide +kernel
theorem dL_law_145 : decode cL_law 145 = .ok (.iadd, 1) := by decide +kernel
theorem dL_law_146 : decode cL_law 146 = .ok (.iaload, 1) := by decide +kernel
theorem dL_law_147 : decode cL_law 147 = .ok (.aload_n 0, 1) := by decide +kernel
theorem dL_law_148 : decode cL_law 148 = .ok (.iload_n 3, 1) := by decide +kernel
theorem dL_law_149 : decode cL_law 149 = .ok (.iconst 3, 1) := by decide +kernel
theorem dL_law_150 : decode cL_law 150 = .ok (.iadd, 1) := by decide +kernel
theorem dL_law_151 : decode cL_law 151 = .ok (.iaload, 1) := by decide +kernel
theorem dL_law_152 : decode cL_law 152 = .ok (.aload_n 0, 1) := by decide +kernel
theorem dL_law_153 : decode cL_law 153 = .ok (.iload_n 3, 1) := by decide +kernel
theorem dL_law_154 : decode cL_law 154 = .ok (.iconst 4, 1) := by decide +kernel
theorem dL_law_155 : decode cL_law 155 = .ok (.iadd, 1) := by decide +kernel
theorem dL_law_156 : decode cL_law 156 = .ok (.iaload, 1) := by decide +kernel
theorem dL_law_157 : decode cL_law 157 = .ok (.invokevirtual 13, 3) := by decide +kernel
theorem dL_law_160 : decode cL_law 160 = .ok (.aload_n 2, 1) := by decide +kernel
theorem dL_law_161 : decode cL_law 161 = .ok (.aload_n 0, 1) := by decide +kernel
theorem dL_law_162 : decode cL_law 162 = .ok (.iload_n 3, 1) := by decide +kernel
theorem dL_law_163 : decode cL_law 163 = .ok (.iconst 1, 1) := by decide +kernel
theorem dL_law_164 : decode cL_law 164 = .ok (.iadd, 1) := by decide +kernel
theorem dL_law_165 : decode cL_law 165 = .ok (.iaload, 1) := by decide +kernel
theorem dL_law_166 : decode cL_law 166 = .ok (.aload_n 0, 1) := by decide +kernel
theorem dL_law_167 : decode cL_law 167 = .ok (.iload_n 3, 1) := by decide +kernel
theorem dL_law_168 : decode cL_law 168 = .ok (.iconst 2, 1) := by decide +kernel
theorem dL_law_169 : decode cL_law 169 = .ok (.iadd, 1) := by decide +kernel
theorem dL_law_170 : decode cL_law 170 = .ok (.iaload, 1) := by decide +kernel
theorem dL_law_171 : decode cL_law 171 = .ok (.aload_n 0, 1) := by decide +kernel
theorem dL_law_172 : decode cL_law 172 = .ok (.iload_n 3, 1) := by decide +kernel
theorem dL_law_173 : decode cL_law 173 = .ok (.iconst 3, 1) := by decide +kernel
theorem dL_law_174 : decode cL_law 174 = .ok (.iadd, 1) := by decide +kernel
theorem dL_law_175 : decode cL_law 175 = .ok (.iaload, 1) := by decide +kernel
theorem dL_law_176 : decode cL_law 176 = .ok (.aload_n 0, 1) := by decide +kernel
theorem dL_law_177 : decode cL_law 177 = .ok (.iload_n 3, 1) := by decide +kernel
theorem dL_law_178 : decode cL_law 178 = .ok (.iconst 4, 1) := by decide +kernel
theorem dL_law_179 : decode cL_law 179 = .ok (.iadd, 1) := by decide +kernel
theorem dL_law_180 : decode cL_law 180 = .ok (.iaload, 1) := by decide +kernel
theorem dL_law_181 : decode cL_law 181 = .ok (.invokevirtual 17, 3) := by decide +kernel
theorem dL_law_184 : decode cL_law 184 = .ok (.if_icmp .eq 520, 3) := by decide +kernel
theorem dL_law_187 : decode cL_law 187 = .ok (.iconst 0, 1) := by decide +kernel
theorem dL_law_188 : decode cL_law 188 = .ok (.ireturn, 1) := by decide +kernel
theorem dL_law_189 : decode cL_law 189 = .ok (.aload_n 1, 1) := by decide +kernel
theorem dL_law_190 : decode cL_law 190 = .ok (.aload_n 0, 1) := by decide +kernel
theorem dL_law_191 : decode cL_law 191 = .ok (.iload_n 3, 1) := by decide +kernel
theorem dL_law_192 : decode cL_law 192 = .ok (.iconst 1, 1) := by decide +kernel
theorem dL_law_193 : decode cL_law 193 = .ok (.iadd, 1) := by decide +kernel
theorem dL_law_194 : decode cL_law 194 = .ok (.iaload, 1) := by decide +kernel
theorem dL_law_195 : decode cL_law 195 = .ok (.invokevirtual 18, 3) := by decide +kernel
theorem dL_law_198 : decode cL_law 198 = .ok (.aload_n 2, 1) := by decide +kernel
theorem dL_law_199 : decode cL_law 199 = .ok (.aload_n 0, 1) := by decide +kernel
theorem dL_law_200 : decode cL_law 200 = .ok (.iload_n 3, 1) := by decide +kernel
theorem dL_law_201 : decode cL_law 201 = .ok (.iconst 1, 1) := by decide +kernel
theorem dL_law_202 : decode cL_law 202 = .ok (.iadd, 1) := by decide +kernel
theorem dL_law_203 : decode cL_law 203 = .ok (.iaload, 1) := by decide +kernel
theorem dL_law_204 : decode cL_law 204 = .ok (.invokevirtual 22, 3) := by decide +kernel
theorem dL_law_207 : decode cL_law 207 = .ok (.if_icmp .eq 497, 3) := by decide +kernel
theorem dL_law_210 : decode cL_law 210 = .ok (.iconst 0, 1) := by decide +kernel
theorem dL_law_211 : decode cL_law 211 = .ok (.ireturn, 1) := by decide +kernel
theorem dL_law_212 : decode cL_law 212 = .ok (.aload_n 1, 1) := by decide +kernel
theorem dL_law_213 : decode cL_law 213 = .ok (.aload_n 0, 1) := by decide +kernel
theorem dL_law_214 : decode cL_law 214 = .ok (.iload_n 3, 1) := by decide +kernel
theorem dL_law_215 : decode cL_law 215 = .ok (.iconst 1, 1) := by decide +kernel
theorem dL_law_216 : decode cL_law 216 = .ok (.iadd, 1) := by decide +kernel
theorem dL_law_217 : decode cL_law 217 = .ok (.iaload, 1) := by decide +kernel
theorem dL_law_218 : decode cL_law 218 = .ok (.aload_n 0, 1) := by decide +kernel
theorem dL_law_219 : decode cL_law 219 = .ok (.iload_n 3, 1) := by decide +kernel
theorem dL_law_220 : decode cL_law 220 = .ok (.iconst 2, 1) := by decide +kernel
theorem dL_law_221 : decode cL_law 221 = .ok (.iadd, 1) := by decide +kernel
theorem dL_law_222 : decode cL_law 222 = .ok (.iaload, 1) := by decide +kernel
theorem dL_law_223 : decode cL_law 223 = .ok (.invokevirtual 23, 3) := by decide +kernel
theorem dL_law_226 : decode cL_law 226 = .ok (.aload_n 2, 1) := by decide +kernel
theorem dL_law_227 : decode cL_law 227 = .ok (.aload_n 0, 1) := by decide +kernel
theorem dL_law_228 : decode cL_law 228 = .ok (.iload_n 3, 1) := by decide +kernel
theorem dL_law_229 : decode cL_law 229 = .ok (.iconst 1, 1) := by decide +kernel
theorem dL_law_230 : decode cL_law 230 = .ok (.iadd, 1) := by decide +kernel
theorem dL_law_231 : decode cL_law 231 = .ok (.iaload, 1) := by decide +kernel
theorem dL_law_232 : decode cL_law 232 = .ok (.aload_n 0, 1) := by decide +kernel
theorem dL_law_233 : decode cL_law 233 = .ok (.iload_n 3, 1) := by decide +kernel
theorem dL_law_234 : decode cL_law 234 = .ok (.iconst 2, 1) := by decide +kernel
theorem dL_law_235 : decode cL_law 235 = .ok (.iadd, 1) := by decide +kernel
theorem dL_law_236 : decode cL_law 236 = .ok (.iaload, 1) := by decide +kernel
theorem dL_law_237 : decode cL_law 237 = .ok (.invokevirtual 27, 3) := by decide +kernel
theorem dL_law_240 : decode cL_law 240 = .ok (.if_icmp .eq 464, 3) := by decide +kernel
theorem dL_law_243 : decode cL_law 243 = .ok (.iconst 0, 1) := by decide +kernel
theorem dL_law_244 : decode cL_law 244 = .ok (.ireturn, 1) := by decide +kernel
theorem dL_law_245 : decode cL_law 245 = .ok (.aload_n 1, 1) := by decide +kernel
theorem dL_law_246 : decode cL_law 246 = .ok (.aload_n 0, 1) := by decide +kernel
theorem dL_law_247 : decode cL_law 247 = .ok (.iload_n 3, 1) := by decide +kernel
theorem dL_law_248 : decode cL_law 248 = .ok (.iconst 1, 1) := by decide +kernel
theorem dL_law_249 : decode cL_law 249 = .ok (.iadd, 1) := by decide +kernel
theorem dL_law_250 : decode cL_law 250 = .ok (.iaload, 1) := by decide +kernel
theorem dL_law_251 : decode cL_law 251 = .ok (.aload_n 0, 1) := by decide +kernel
theorem dL_law_252 : decode cL_law 252 = .ok (.iload_n 3, 1) := by decide +kernel
theorem dL_law_253 : decode cL_law 253 = .ok (.iconst 2, 1) := by decide +kernel
theorem dL_law_254 : decode cL_law 254 = .ok (.iadd, 1) := by decide +kernel
theorem dL_law_255 : decode cL_law 255 = .ok (.iaload, 1) := by decide +kernel
theorem dL_law_256 : decode cL_law 256 = .ok (.invokevirtual 28, 3) := by decide +kernel
theorem dL_law_259 : decode cL_law 259 = .ok (.aload_n 2, 1) := by decide +kernel
