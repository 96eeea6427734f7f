theorem dL_isMerged_19 : decode cL_isMerged 19 = .ok (.aload_n 0, 1) := by decide +kernel
theorem dL_isMerged_20 : decode cL_isMerged 20 = .ok (.iconst 4, 1) := by decide +kernel
theorem dL_isMerged_21 : decode cL_isMerged 21 = .ok (.iload 10, 2) := by decide +kernel
theorem dL_isMerged_23 : decode cL_isMerged 23 = .ok (.iload 11, 2) := by decide +kernel
theorem dL_isMerged_25 : decode cL_isMerged 25 = .ok (.iconst 0, 1) := by decide +kernel
theorem dL_isMerged_26 : decode cL_isMerged 26 = .ok (.iconst 0, 1) := by decide +kernel
theorem dL_isMerged_27 : decode cL_isMerged 27 = .ok (.invokestatic 115, 3) := by decide +kernel
theorem dL_isMerged_30 : decode cL_isMerged 30 = .ok (.iload 10, 2) := by decide +kernel
theorem dL_isMerged_32 : decode cL_isMerged 32 = .ok (.iconst 5, 1) := by decide +kernel
theorem dL_isMerged_33 : decode cL_isMerged 33 = .ok (.if_icmp .gt 9, 3) := by decide +kernel
theorem dL_isMerged_36 : decode cL_isMerged 36 = .ok (.iload 11, 2) := by decide +kernel
theorem dL_isMerged_38 : decode cL_isMerged 38 = .ok (.iconst 5, 1) := by decide +kernel
theorem dL_isMerged_39 : decode cL_isMerged 39 = .ok (.if_icmp .le 9, 3) := by decide +kernel
theorem dL_isMerged_42 : decode cL_isMerged 42 = .ok (.sipush (-300), 3) := by decide +kernel
theorem dL_isMerged_45 : decode cL_isMerged 45 = .ok (.goto 6, 3) := by decide +kernel
theorem dL_isMerged_48 : decode cL_isMerged 48 = .ok (.sipush (-200), 3) := by decide +kernel
theorem dL_isMerged_51 : decode cL_isMerged 51 = .ok (.if_icmp .ne 7, 3) := by decide +kernel
theorem dL_isMerged_54 : decode cL_isMerged 54 = .ok (.iconst 1, 1) := by decide +kernel
theorem dL_isMerged_55 : decode cL_isMerged 55 = .ok (.goto 4, 3) := by decide +kernel
theorem dL_isMerged_58 : decode cL_isMerged 58 = .ok (.iconst 0, 1) := by decide +kernel
theorem dL_isMerged_59 : decode cL_isMerged 59 = .ok (.ireturn, 1) := by decide +kernel
theorem dL_isMerged_60 : decode cL_isMerged 60 = .ok (.iconst 0, 1) := by decide +kernel
theorem dL_isMerged_61 : decode cL_isMerged 61 = .ok (.istore 12, 2) := by decide +kernel
theorem dL_isMerged_63 : decode cL_isMerged 63 = .ok (.iconst 0, 1) := by decide +kernel
theorem dL_isMerged_64 : decode cL_isMerged 64 = .ok (.istore 13, 2) := by decide +kernel
theorem dL_isMerged_66 : decode cL_isMerged 66 = .ok (.iconst 0, 1) := by decide +kernel
theorem dL_isMerged_67 : decode cL_isMerged 67 = .ok (.istore 14, 2) := by decide +kernel
theorem dL_isMerged_69 : decode cL_isMerged 69 = .ok (.iload 14, 2) := by decide +kernel
theorem dL_isMerged_71 : decode cL_isMerged 71 = .ok (.aload 9, 2) := by decide +kernel
theorem dL_isMerged_73 : decode cL_isMerged 73 = .ok (.iconst 0, 1) := by decide +kernel
theorem dL_isMerged_74 : decode cL_isMerged 74 = .ok (.iaload, 1) := by decide +kernel
theorem dL_isMerged_75 : decode cL_isMerged 75 = .ok (.if_icmp .ge 389, 3) := by decide +kernel
theorem dL_isMerged_78 : decode cL_isMerged 78 = .ok (.iconst 0, 1) := by decide +kernel
theorem dL_isMerged_79 : decode cL_isMerged 79 = .ok (.istore 15, 2) := by decide +kernel
theorem dL_isMerged_81 : decode cL_isMerged 81 = .ok (.iconst 0, 1) := by decide +kernel
theorem dL_isMerged_82 : decode cL_isMerged 82 = .ok (.istore 16, 2) := by decide +kernel
theorem dL_isMerged_84 : decode cL_isMerged 84 = .ok (.iload 16, 2) := by decide +kernel
theorem dL_isMerged_86 : decode cL_isMerged 86 = .ok (.iconst 4, 1) := by decide +kernel
theorem dL_isMerged_87 : decode cL_isMerged 87 = .ok (.if_icmp .ge 49, 3) := by decide +kernel
theorem dL_isMerged_90 : decode cL_isMerged 90 = .ok (.iload 15, 2) := by decide +kernel
theorem dL_isMerged_92 : decode cL_isMerged 92 = .ok (.ifCond .ne 31, 3) := by decide +kernel
theorem dL_isMerged_95 : decode cL_isMerged 95 = .ok (.aload 5, 2) := by decide +kernel
theorem dL_isMerged_97 : decode cL_isMerged 97 = .ok (.iload 10, 2) := by decide +kernel
theorem dL_isMerged_99 : decode cL_isMerged 99 = .ok (.iload 14, 2) := by decide +kernel
theorem dL_isMerged_101 : decode cL_isMerged 101 = .ok (.iload 16, 2) := by decide +kernel
theorem dL_isMerged_103 : decode cL_isMerged 103 = .ok (.invokestatic 99, 3) := by decide +kernel
theorem dL_isMerged_106 : decode cL_isMerged 106 = .ok (.ifCond .eq 21, 3) := by decide +kernel
theorem dL_isMerged_109 : decode cL_isMerged 109 = .ok (.aload 5, 2) := by decide +kernel
theorem dL_isMerged_111 : decode cL_isMerged 111 = .ok (.iload 11, 2) := by decide +kernel
theorem dL_isMerged_113 : decode cL_isMerged 113 = .ok (.iload 14, 2) := by decide +kernel
theorem dL_isMerged_115 : decode cL_isMerged 115 = .ok (.iload 16, 2) := by decide +kernel
theorem dL_isMerged_117 : decode cL_isMerged 117 = .ok (.invokestatic 99, 3) := by decide +kernel
theorem dL_isMerged_120 : decode cL_isMerged 120 = .ok (.ifCond .eq 7, 3) := by decide +kernel
theorem dL_isMerged_123 : decode cL_isMerged 123 = .ok (.iconst 1, 1) := by decide +kernel
theorem dL_isMerged_124 : decode cL_isMerged 124 = .ok (.goto 4, 3) := by decide +kernel
theorem dL_isMerged_127 : decode cL_isMerged 127 = .ok (.iconst 0, 1) := by decide +kernel
theorem dL_isMerged_128 : decode cL_isMerged 128 = .ok (.istore 15, 2) := by decide +kernel
theorem dL_isMerged_130 : decode cL_isMerged 130 = .ok (.iinc 16 1, 3) := by decide +kernel
theorem dL_isMerged_133 : decode cL_isMerged 133 = .ok (.goto (-49), 3) := by decide +kernel
theorem dL_isMerged_136 : decode cL_isMerged 136 = .ok (.aload 4, 2) := by decide +kernel
theorem dL_isMerged_138 : decode cL_isMerged 138 = .ok (.iconst 2, 1) := by decide +kernel
theorem dL_isMerged_139 : decode cL_isMerged 139 = .ok (.iload 10, 2) := by decide +kernel
theorem dL_isMerged_141 : decode cL_isMerged 141 = .ok (.imul, 1) := by decide +kernel
theorem dL_isMerged_142 : decode cL_isMerged 142 = .ok (.iload 14, 2) := by decide +kernel
theorem dL_isMerged_144 : decode cL_isMerged 144 = .ok (.iadd, 1) := by decide +kernel
theorem dL_isMerged_145 : decode cL_isMerged 145 = .ok (.iaload, 1) := by decide +kernel
theorem dL_isMerged_146 : decode cL_isMerged 146 = .ok (.iconst 2, 1) := by decide +kernel
theorem dL_isMerged_147 : decode cL_isMerged 147 = .ok (.irem, 1) := by decide +kernel
theorem dL_isMerged_148 : decode cL_isMerged 148 = .ok (.istore 16, 2) := by decide +kernel
theorem dL_isMerged_150 : decode cL_isMerged 150 = .ok (.aload 4, 2) := by decide +kernel
theorem dL_isMerged_152 : decode cL_isMerged 152 = .ok (.iconst 2, 1) := by decide +kernel
theorem dL_isMerged_153 : decode cL_isMerged 153 = .ok (.iload 11, 2) := by decide +kernel
theorem dL_isMerged_155 : decode cL_isMerged 155 = .ok (.imul, 1) := by decide +kernel
theorem dL_isMerged_156 : decode cL_isMerged 156 = .ok (.iload 14, 2) := by decide +kernel
theorem dL_isMerged_158 : decode cL_isMerged 158 = .ok (.iadd, 1) := by decide +kernel
theorem dL_isMerged_159 : decode cL_isMerged 159 = .ok (.iaload, 1) := by decide +kernel
theorem dL_isMerged_160 : decode cL_isMerged 160 = .ok (.iconst 2, 1) := by decide +kernel
theorem dL_isMerged_161 : decode cL_isMerged 161 = .ok (.irem, 1) := by decide +kernel
theorem dL_isMerged_162 : decode cL_isMerged 162 = .ok (.istore 17, 2) := by decide +kernel
theorem dL_isMerged_164 : decode cL_isMerged 164 = .ok (.iload 15, 2) := by decide +kernel
theorem dL_isMerged_166 : decode cL_isMerged 166 = .ok (.ifCond .eq 30, 3) := by decide +kernel
theorem dL_isMerged_169 : decode cL_isMerged 169 = .ok (.iload 16, 2) := by decide +kernel
theorem dL_isMerged_171 : decode cL_isMerged 171 = .ok (.iload 17, 2) := by decide +kernel
theorem dL_isMerged_173 : decode cL_isMerged 173 = .ok (.if_icmp .le 23, 3) := by decide +kernel
theorem dL_isMerged_176 : decode cL_isMerged 176 = .ok (.aload_n 1, 1) := by decide +kernel
theorem dL_isMerged_177 : decode cL_isMerged 177 = .ok (.aload_n 3, 1) := by decide +kernel
theorem dL_isMerged_178 : decode cL_isMerged 178 = .ok (.aload 4, 2) := by decide +kernel
theorem dL_isMerged_180 : decode cL_isMerged 180 = .ok (.iload 11, 2) := by decide +kernel
theorem dL_isMerged_182 : decode cL_isMerged 182 = .ok (.iload 10, 2) := by decide +kernel
theorem dL_isMerged_184 : decode cL_isMerged 184 = .ok (.iload 14, 2) := by decide +kernel
theorem dL_isMerged_186 : decode cL_isMerged 186 = .ok (.invokestatic 118, 3) := by decide +kernel
theorem dL_isMerged_189 : decode cL_isMerged 189 = .ok (.ifCond .eq 7, 3) := by decide +kernel
theorem dL_isMerged_192 : decode cL_isMerged 192 = .ok (.iconst 1, 1) := by decide +kernel
theorem dL_isMerged_193 : decode cL_isMerged 193 = .ok (.goto 4, 3) := by decide +kernel
theorem dL_isMerged_196 : decode cL_isMerged 196 = .ok (.iconst 0, 1) := by decide +kernel
theorem dL_isMerged_197 : decode cL_isMerged 197 = .ok (.istore 18, 2) := by decide +kernel
theorem dL_isMerged_199 : decode cL_isMerged 199 = .ok (.iload 15, 2) := by decide +kernel
theorem dL_isMerged_201 : decode cL_isMerged 201 = .ok (.ifCond .eq 30, 3) := by decide +kernel
theorem dL_isMerged_204 : decode cL_isMerged 204 = .ok (.iload 17, 2) := by decide +kernel
theorem dL_isMerged_206 : decode cL_isMerged 206 = .ok (.iload 16, 2) := by decide +kernel
theorem dL_isMerged_208 : decode cL_isMerged 208 = .ok (.if_icmp .le 23, 3) := by decide +kernel
theorem dL_isMerged_211 : decode cL_isMerged 211 = .ok (.aload_n 1, 1) := by decide +kernel
theorem dL_isMerged_212 : decode cL_isMerged 212 = .ok (.aload_n 3, 1) := by decide +kernel
theorem dL_isMerged_213 : decode cL_isMerged 213 = .ok (.aload 4, 2) := by decide +kernel
theorem dL_isMerged_215 : decode cL_isMerged 215 = .ok (.iload 10, 2) := by decide +kernel
theorem dL_isMerged_217 : decode cL_isMerged 217 = .ok (.iload 11, 2) := by decide +kernel
theorem dL_isMerged_219 : decode cL_isMerged 219 = .ok (.iload 14, 2) := by decide +kernel
theorem dL_isMerged_221 : decode cL_isMerged 221 = .ok (.invokestatic 118, 3) := by decide +kernel
theorem dL_isMerged_224 : decode cL_isMerged 224 = .ok (.ifCond .eq 7, 3) := by decide +kernel
theorem dL_isMerged_227 : decode cL_isMerged 227 = .ok (.iconst 1, 1) := by decide +kernel
theorem dL_isMerged_228 : decode cL_isMerged 228 = .ok (.goto 4, 3) := by decide +kernel
theorem dL_isMerged_231 : decode cL_isMerged 231 = .ok (.iconst 0, 1) := by decide +kernel
theorem dL_isMerged_232 : decode cL_isMerged 232 = .ok (.istore 19, 2) := by decide +kernel
theorem dL_isMerged_234 : decode cL_isMerged 234 = .ok (.iload 18, 2) := by decide +kernel
theorem dL_isMerged_236 : decode cL_isMerged 236 = .ok (.ifCond .ne 8, 3) := by decide +kernel
theorem dL_isMerged_239 : decode cL_isMerged 239 = .ok (.iload 19, 2) := by decide +kernel
theorem dL_isMerged_241 : decode cL_isMerged 241 = .ok (.ifCond .eq 39, 3) := by decide +kernel
theorem dL_isMerged_244 : decode cL_isMerged 244 = .ok (.aload_n 1, 1) := by decide +kernel
theorem dL_isMerged_245 : decode cL_isMerged 245 = .ok (.aload_n 2, 1) := by decide +kernel
theorem dL_isMerged_246 : decode cL_isMerged 246 = .ok (.aload_n 3, 1) := by decide +kernel
theorem dL_isMerged_247 : decode cL_isMerged 247 = .ok (.aload 4, 2) := by decide +kernel
theorem dL_isMerged_249 : decode cL_isMerged 249 = .ok (.aload 6, 2) := by decide +kernel
theorem dL_isMerged_251 : decode cL_isMerged 251 = .ok (.aload 7, 2) := by decide +kernel
theorem dL_isMerged_253 : decode cL_isMerged 253 = .ok (.aload 8, 2) := by decide +kernel
theorem dL_isMerged_255 : decode cL_isMerged 255 = .ok (.aload 9, 2) := by decide +kernel
theorem dL_isMerged_257 : decode cL_isMerged 257 = .ok (.iload 18, 2) := by decide +kernel
theorem dL_isMerged_259 : decode cL_isMerged 259 = .ok (.ifCond .eq 8, 3) := by decide +kernel
theorem dL_isMerged_262 : decode cL_isMerged 262 = .ok (.iload 10, 2) := by decide +kernel
theorem dL_isMerged_264 : decode cL_isMerged 264 = .ok (.goto 5, 3) := by decide +kernel
theorem dL_isMerged_267 : decode cL_isMerged 267 = .ok (.iload 11, 2) := by decide +kernel
theorem dL_isMerged_269 : decode cL_isMerged 269 = .ok (.iload 14, 2) := by decide +kernel
theorem dL_isMerged_271 : decode cL_isMerged 271 = .ok (.invokestatic 122, 3) := by decide +kernel
theorem dL_isMerged_274 : decode cL_isMerged 274 = .ok (.iinc 12 1, 3) := by decide +kernel
theorem dL_isMerged_277 : decode cL_isMerged 277 = .ok (.goto 42, 3) := by decide +kernel
theorem dL_isMerged_280 : decode cL_isMerged 280 = .ok (.iload 15, 2) := by decide +kernel
theorem dL_isMerged_282 : decode cL_isMerged 282 = .ok (.ifCond .eq 37, 3) := by decide +kernel
theorem dL_isMerged_285 : decode cL_isMerged 285 = .ok (.iload 16, 2) := by decide +kernel
theorem dL_isMerged_287 : decode cL_isMerged 287 = .ok (.iload 17, 2) := by decide +kernel
theorem dL_isMerged_289 : decode cL_isMerged 289 = .ok (.iadd, 1) := by decide +kernel
theorem dL_isMerged_290 : decode cL_isMerged 290 = .ok (.ifCond .le 29, 3) := by decide +kernel
theorem dL_isMerged_293 : decode cL_isMerged 293 = .ok (.iload 13, 2) := by decide +kernel
theorem dL_isMerged_295 : decode cL_isMerged 295 = .ok (.aload_n 1, 1) := by decide +kernel
theorem dL_isMerged_296 : decode cL_isMerged 296 = .ok (.aload_n 2, 1) := by decide +kernel
theorem dL_isMerged_297 : decode cL_isMerged 297 = .ok (.aload 4, 2) := by decide +kernel
theorem dL_isMerged_299 : decode cL_isMerged 299 = .ok (.aload 5, 2) := by decide +kernel
theorem dL_isMerged_301 : decode cL_isMerged 301 = .ok (.aload 7, 2) := by decide +kernel
theorem dL_isMerged_303 : decode cL_isMerged 303 = .ok (.aload 8, 2) := by decide +kernel
theorem dL_isMerged_305 : decode cL_isMerged 305 = .ok (.aload 9, 2) := by decide +kernel
theorem dL_isMerged_307 : decode cL_isMerged 307 = .ok (.iload 10, 2) := by decide +kernel
theorem dL_isMerged_309 : decode cL_isMerged 309 = .ok (.iload 11, 2) := by decide +kernel
theorem dL_isMerged_311 : decode cL_isMerged 311 = .ok (.iload 14, 2) := by decide +kernel
theorem dL_isMerged_313 : decode cL_isMerged 313 = .ok (.invokestatic 126, 3) := by decide +kernel
theorem dL_isMerged_316 : decode cL_isMerged 316 = .ok (.iadd, 1) := by decide +kernel
theorem dL_isMerged_317 : decode cL_isMerged 317 = .ok (.istore 13, 2) := by decide +kernel
theorem dL_isMerged_319 : decode cL_isMerged 319 = .ok (.iload 15, 2) := by decide +kernel
theorem dL_isMerged_321 : decode cL_isMerged 321 = .ok (.ifCond .eq 137, 3) := by decide +kernel
theorem dL_isMerged_324 : decode cL_isMerged 324 = .ok (.aload 4, 2) := by decide +kernel
theorem dL_isMerged_326 : decode cL_isMerged 326 = .ok (.iconst 2, 1) := by decide +kernel
theorem dL_isMerged_327 : decode cL_isMerged 327 = .ok (.iload 10, 2) := by decide +kernel
theorem dL_isMerged_329 : decode cL_isMerged 329 = .ok (.imul, 1) := by decide +kernel
theorem dL_isMerged_330 : decode cL_isMerged 330 = .ok (.iload 14, 2) := by decide +kernel
theorem dL_isMerged_332 : decode cL_isMerged 332 = .ok (.iadd, 1) := by decide +kernel
theorem dL_isMerged_333 : decode cL_isMerged 333 = .ok (.iaload, 1) := by decide +kernel
theorem dL_isMerged_334 : decode cL_isMerged 334 = .ok (.iconst 2, 1) := by decide +kernel
theorem dL_isMerged_335 : decode cL_isMerged 335 = .ok (.irem, 1) := by decide +kernel
theorem dL_isMerged_336 : decode cL_isMerged 336 = .ok (.aload 4, 2) := by decide +kernel
theorem dL_isMerged_338 : decode cL_isMerged 338 = .ok (.iconst 2, 1) := by decide +kernel
theorem dL_isMerged_339 : decode cL_isMerged 339 = .ok (.iload 11, 2) := by decide +kernel
theorem dL_isMerged_341 : decode cL_isMerged 341 = .ok (.imul, 1) := by decide +kernel
theorem dL_isMerged_342 : decode cL_isMerged 342 = .ok (.iload 14, 2) := by decide +kernel
theorem dL_isMerged_344 : decode cL_isMerged 344 = .ok (.iadd, 1) := by decide +kernel
theorem dL_isMerged_345 : decode cL_isMerged 345 = .ok (.iaload, 1) := by decide +kernel
theorem dL_isMerged_346 : decode cL_isMerged 346 = .ok (.iconst 2, 1) := by decide +kernel
theorem dL_isMerged_347 : decode cL_isMerged 347 = .ok (.irem, 1) := by decide +kernel
theorem dL_isMerged_348 : decode cL_isMerged 348 = .ok (.iadd, 1) := by decide +kernel
theorem dL_isMerged_349 : decode cL_isMerged 349 = .ok (.ifCond .ne 109, 3) := by decide +kernel
theorem dL_isMerged_352 : decode cL_isMerged 352 = .ok (.aload 4, 2) := by decide +kernel
theorem dL_isMerged_354 : decode cL_isMerged 354 = .ok (.iconst 2, 1) := by decide +kernel
theorem dL_isMerged_355 : decode cL_isMerged 355 = .ok (.iload 10, 2) := by decide +kernel
theorem dL_isMerged_357 : decode cL_isMerged 357 = .ok (.imul, 1) := by decide +kernel
theorem dL_isMerged_358 : decode cL_isMerged 358 = .ok (.iload 14, 2) := by decide +kernel
theorem dL_isMerged_360 : decode cL_isMerged 360 = .ok (.iadd, 1) := by decide +kernel
theorem dL_isMerged_361 : decode cL_isMerged 361 = .ok (.iaload, 1) := by decide +kernel
theorem dL_isMerged_362 : decode cL_isMerged 362 = .ok (.aload 4, 2) := by decide +kernel
theorem dL_isMerged_364 : decode cL_isMerged 364 = .ok (.iconst 2, 1) := by decide +kernel
theorem dL_isMerged_365 : decode cL_isMerged 365 = .ok (.iload 11, 2) := by decide +kernel
theorem dL_isMerged_367 : decode cL_isMerged 367 = .ok (.imul, 1) := by decide +kernel
theorem dL_isMerged_368 : decode cL_isMerged 368 = .ok (.iload 14, 2) := by decide +kernel
theorem dL_isMerged_370 : decode cL_isMerged 370 = .ok (.iadd, 1) := by decide +kernel
theorem dL_isMerged_371 : decode cL_isMerged 371 = .ok (.iaload, 1) := by decide +kernel
theorem dL_isMerged_372 : decode cL_isMerged 372 = .ok (.iadd, 1) := by decide +kernel
theorem dL_isMerged_373 : decode cL_isMerged 373 = .ok (.ifCond .le 85, 3) := by decide +kernel
theorem dL_isMerged_376 : decode cL_isMerged 376 = .ok (.iconst 0, 1) := by decide +kernel
theorem dL_isMerged_377 : decode cL_isMerged 377 = .ok (.istore 20, 2) := by decide +kernel
theorem dL_isMerged_379 : decode cL_isMerged 379 = .ok (.iload 20, 2) := by decide +kernel
theorem dL_isMerged_381 : decode cL_isMerged 381 = .ok (.iconst 4, 1) := by decide +kernel
theorem dL_isMerged_382 : decode cL_isMerged 382 = .ok (.if_icmp .ge 54, 3) := by decide +kernel
theorem dL_isMerged_385 : decode cL_isMerged 385 = .ok (.iload 10, 2) := by decide +kernel
theorem dL_isMerged_387 : decode cL_isMerged 387 = .ok (.iload 14, 2) := by decide +kernel
theorem dL_isMerged_389 : decode cL_isMerged 389 = .ok (.iload 20, 2) := by decide +kernel
theorem dL_isMerged_391 : decode cL_isMerged 391 = .ok (.invokestatic 71, 3) := by decide +kernel
theorem dL_isMerged_394 : decode cL_isMerged 394 = .ok (.istore 21, 2) := by decide +kernel
theorem dL_isMerged_396 : decode cL_isMerged 396 = .ok (.iload 11, 2) := by decide +kernel
theorem dL_isMerged_398 : decode cL_isMerged 398 = .ok (.iload 14, 2) := by decide +kernel
theorem dL_isMerged_400 : decode cL_isMerged 400 = .ok (.iload 20, 2) := by decide +kernel
theorem dL_isMerged_402 : decode cL_isMerged 402 = .ok (.invokestatic 71, 3) := by decide +kernel
theorem dL_isMerged_405 : decode cL_isMerged 405 = .ok (.istore 22, 2) := by decide +kernel
theorem dL_isMerged_407 : decode cL_isMerged 407 = .ok (.aload_n 3, 1) := by decide +kernel
theorem dL_isMerged_408 : decode cL_isMerged 408 = .ok (.iload 21, 2) := by decide +kernel
theorem dL_isMerged_410 : decode cL_isMerged 410 = .ok (.aload_n 3, 1) := by decide +kernel
theorem dL_isMerged_411 : decode cL_isMerged 411 = .ok (.iload 21, 2) := by decide +kernel
theorem dL_isMerged_413 : decode cL_isMerged 413 = .ok (.laload, 1) := by decide +kernel
theorem dL_isMerged_414 : decode cL_isMerged 414 = .ok (.aload_n 3, 1) := by decide +kernel
theorem dL_isMerged_415 : decode cL_isMerged 415 = .ok (.iload 22, 2) := by decide +kernel
theorem dL_isMerged_417 : decode cL_isMerged 417 = .ok (.laload, 1) := by decide +kernel
theorem dL_isMerged_418 : decode cL_isMerged 418 = .ok (.invokestatic 103, 3) := by decide +kernel
theorem dL_isMerged_421 : decode cL_isMerged 421 = .ok (.lastore, 1) := by decide +kernel
theorem dL_isMerged_422 : decode cL_isMerged 422 = .ok (.aload_n 3, 1) := by decide +kernel
theorem dL_isMerged_423 : decode cL_isMerged 423 = .ok (.iload 22, 2) := by decide +kernel
theorem dL_isMerged_425 : decode cL_isMerged 425 = .ok (.aload_n 3, 1) := by decide +kernel
theorem dL_isMerged_426 : decode cL_isMerged 426 = .ok (.iload 21, 2) := by decide +kernel
theorem dL_isMerged_428 : decode cL_isMerged 428 = .ok (.laload, 1) := by decide +kernel
theorem dL_isMerged_429 : decode cL_isMerged 429 = .ok (.lastore, 1) := by decide +kernel
theorem dL_isMerged_430 : decode cL_isMerged 430 = .ok (.iinc 20 1, 3) := by decide +kernel
theorem dL_isMerged_433 : decode cL_isMerged 433 = .ok (.goto (-54), 3) := by decide +kernel
theorem dL_isMerged_436 : decode cL_isMerged 436 = .ok (.aload 4, 2) := by decide +kernel
theorem dL_isMerged_438 : decode cL_isMerged 438 = .ok (.iconst 2, 1) := by decide +kernel
theorem dL_isMerged_439 : decode cL_isMerged 439 = .ok (.iload 10, 2) := by decide +kernel
theorem dL_isMerged_441 : decode cL_isMerged 441 = .ok (.imul, 1) := by decide +kernel
theorem dL_isMerged_442 : decode cL_isMerged 442 = .ok (.iload 14, 2) := by decide +kernel
theorem dL_isMerged_444 : decode cL_isMerged 444 = .ok (.iadd, 1) := by decide +kernel
theorem dL_isMerged_445 : decode cL_isMerged 445 = .ok (.iconst 2, 1) := by decide +kernel
theorem dL_isMerged_446 : decode cL_isMerged 446 = .ok (.iastore, 1) := by decide +kernel
theorem dL_isMerged_447 : decode cL_isMerged 447 = .ok (.aload 4, 2) := by decide +kernel
theorem dL_isMerged_449 : decode cL_isMerged 449 = .ok (.iconst 2, 1) := by decide +kernel
theorem dL_isMerged_450 : decode cL_isMerged 450 = .ok (.iload 11, 2) := by decide +kernel
theorem dL_isMerged_452 : decode cL_isMerged 452 = .ok (.imul, 1) := by decide +kernel
theorem dL_isMerged_453 : decode cL_isMerged 453 = .ok (.iload 14, 2) := by decide +kernel
theorem dL_isMerged_455 : decode cL_isMerged 455 = .ok (.iadd, 1) := by decide +kernel
theorem dL_isMerged_456 : decode cL_isMerged 456 = .ok (.iconst 2, 1) := by decide +kernel
theorem dL_isMerged_457 : decode cL_isMerged 457 = .ok (.iastore, 1) := by decide +kernel
theorem dL_isMerged_458 : decode cL_isMerged 458 = .ok (.iinc 14 1, 3) := by decide +kernel
theorem dL_isMerged_461 : decode cL_isMerged 461 = .ok (.goto (-392), 3) := by decide +kernel
theorem dL_isMerged_464 : decode cL_isMerged 464 = .ok (.aload_n 0, 1) := by decide +kernel
theorem dL_isMerged_465 : decode cL_isMerged 465 = .ok (.iconst 4, 1) := by decide +kernel
theorem dL_isMerged_466 : decode cL_isMerged 466 = .ok (.iload 10, 2) := by decide +kernel
theorem dL_isMerged_468 : decode cL_isMerged 468 = .ok (.iload 11, 2) := by decide +kernel
theorem dL_isMerged_470 : decode cL_isMerged 470 = .ok (.iconst 0, 1) := by decide +kernel
theorem dL_isMerged_471 : decode cL_isMerged 471 = .ok (.iconst 0, 1) := by decide +kernel
theorem dL_isMerged_472 : decode cL_isMerged 472 = .ok (.invokestatic 115, 3) := by decide +kernel
theorem dL_isMerged_475 : decode cL_isMerged 475 = .ok (.bipush 100, 2) := by decide +kernel
theorem dL_isMerged_477 : decode cL_isMerged 477 = .ok (.iload 12, 2) := by decide +kernel
theorem dL_isMerged_479 : decode cL_isMerged 479 = .ok (.imul, 1) := by decide +kernel
theorem dL_isMerged_480 : decode cL_isMerged 480 = .ok (.iload 13, 2) := by decide +kernel
theorem dL_isMerged_482 : decode cL_isMerged 482 = .ok (.iadd, 1) := by decide +kernel
theorem dL_isMerged_483 : decode cL_isMerged 483 = .ok (.if_icmp .ne 7, 3) := by decide +kernel
theorem dL_isMerged_486 : decode cL_isMerged 486 = .ok (.iconst 1, 1) := by decide +kernel
theorem dL_isMerged_487 : decode cL_isMerged 487 = .ok (.goto 4, 3) := by decide +kernel
theorem dL_isMerged_490 : decode cL_isMerged 490 = .ok (.iconst 0, 1) := by decide +kernel
theorem dL_isMerged_491 : decode cL_isMerged 491 = .ok (.ireturn, 1) := by decide +kernel
theorem dL_isPassed_0 : decode cL_isPassed 0 = .ok (.iload 9, 2) := by decide +kernel
theorem dL_isPassed_2 : decode cL_isPassed 2 = .ok (.bipush 24, 2) := by decide +kernel
theorem dL_isPassed_4 : decode cL_isPassed 4 = .ok (.if_icmp .le 25, 3) := by decide +kernel
theorem dL_isPassed_7 : decode cL_isPassed 7 = .ok (.aload_n 0, 1) := by decide +kernel
theorem dL_isPassed_8 : decode cL_isPassed 8 = .ok (.iconst 5, 1) := by decide +kernel
theorem dL_isPassed_9 : decode cL_isPassed 9 = .ok (.iload 9, 2) := by decide +kernel
theorem dL_isPassed_11 : decode cL_isPassed 11 = .ok (.iconst 0, 1) := by decide +kernel
theorem dL_isPassed_12 : decode cL_isPassed 12 = .ok (.iconst 0, 1) := by decide +kernel
theorem dL_isPassed_13 : decode cL_isPassed 13 = .ok (.iconst 0, 1) := by decide +kernel
theorem dL_isPassed_14 : decode cL_isPassed 14 = .ok (.invokestatic 115, 3) := by decide +kernel
theorem dL_isPassed_17 : decode cL_isPassed 17 = .ok (.sipush (-200), 3) := by decide +kernel
theorem dL_isPassed_20 : decode cL_isPassed 20 = .ok (.if_icmp .ne 7, 3) := by decide +kernel
theorem dL_isPassed_23 : decode cL_isPassed 23 = .ok (.iconst 1, 1) := by decide +kernel
theorem dL_isPassed_24 : decode cL_isPassed 24 = .ok (.goto 4, 3) := by decide +kernel
theorem dL_isPassed_27 : decode cL_isPassed 27 = .ok (.iconst 0, 1) := by decide +kernel
theorem dL_isPassed_28 : decode cL_isPassed 28 = .ok (.ireturn, 1) := by decide +kernel
theorem dL_isPassed_29 : decode cL_isPassed 29 = .ok (.aload 8, 2) := by decide +kernel
theorem dL_isPassed_31 : decode cL_isPassed 31 = .ok (.iconst 1, 1) := by decide +kernel
theorem dL_isPassed_32 : decode cL_isPassed 32 = .ok (.dup2, 1) := by decide +kernel
theorem dL_isPassed_33 : decode cL_isPassed 33 = .ok (.iaload, 1) := by decide +kernel
theorem dL_isPassed_34 : decode cL_isPassed 34 = .ok (.iload 9, 2) := by decide +kernel
theorem dL_isPassed_36 : decode cL_isPassed 36 = .ok (.iadd, 1) := by decide +kernel
theorem dL_isPassed_37 : decode cL_isPassed 37 = .ok (.iastore, 1) := by decide +kernel
theorem dL_isPassed_38 : decode cL_isPassed 38 = .ok (.iconst 0, 1) := by decide +kernel
theorem dL_isPassed_39 : decode cL_isPassed 39 = .ok (.istore 10, 2) := by decide +kernel
theorem dL_isPassed_41 : decode cL_isPassed 41 = .ok (.iconst 0, 1) := by decide +kernel
theorem dL_isPassed_42 : decode cL_isPassed 42 = .ok (.istore 11, 2) := by decide +kernel
theorem dL_isPassed_44 : decode cL_isPassed 44 = .ok (.iload 11, 2) := by decide +kernel
theorem dL_isPassed_46 : decode cL_isPassed 46 = .ok (.bipush 6, 2) := by decide +kernel
theorem dL_isPassed_48 : decode cL_isPassed 48 = .ok (.if_icmp .ge 187, 3) := by decide +kernel
theorem dL_isPassed_51 : decode cL_isPassed 51 = .ok (.iconst 0, 1) := by decide +kernel
theorem dL_isPassed_52 : decode cL_isPassed 52 = .ok (.istore 12, 2) := by decide +kernel
theorem dL_isPassed_54 : decode cL_isPassed 54 = .ok (.iload 12, 2) := by decide +kernel
theorem dL_isPassed_56 : decode cL_isPassed 56 = .ok (.aload 8, 2) := by decide +kernel
theorem dL_isPassed_58 : decode cL_isPassed 58 = .ok (.iconst 0, 1) := by decide +kernel
theorem dL_isPassed_59 : decode cL_isPassed 59 = .ok (.iaload, 1) := by decide +kernel
theorem dL_isPassed_60 : decode cL_isPassed 60 = .ok (.if_icmp .ge 169, 3) := by decide +kernel
theorem dL_isPassed_63 : decode cL_isPassed 63 = .ok (.aload_n 1, 1) := by decide +kernel
theorem dL_isPassed_64 : decode cL_isPassed 64 = .ok (.aload 4, 2) := by decide +kernel
theorem dL_isPassed_66 : decode cL_isPassed 66 = .ok (.aload 5, 2) := by decide +kernel
theorem dL_isPassed_68 : decode cL_isPassed 68 = .ok (.aload 6, 2) := by decide +kernel
theorem dL_isPassed_70 : decode cL_isPassed 70 = .ok (.aload 7, 2) := by decide +kernel
theorem dL_isPassed_72 : decode cL_isPassed 72 = .ok (.aload 8, 2) := by decide +kernel
theorem dL_isPassed_74 : decode cL_isPassed 74 = .ok (.iload 11, 2) := by decide +kernel
theorem dL_isPassed_76 : decode cL_isPassed 76 = .ok (.iload 12, 2) := by decide +kernel
theorem dL_isPassed_78 : decode cL_isPassed 78 = .ok (.invokestatic 90, 3) := by decide +kernel
theorem dL_isPassed_81 : decode cL_isPassed 81 = .ok (.istore 13, 2) := by decide +kernel
theorem dL_isPassed_83 : decode cL_isPassed 83 = .ok (.iconst 0, 1) := by decide +kernel
theorem dL_isPassed_84 : decode cL_isPassed 84 = .ok (.istore 14, 2) := by decide +kernel
theorem dL_isPassed_86 : decode cL_isPassed 86 = .ok (.iload 13, 2) := by decide +kernel
theorem dL_isPassed_88 : decode cL_isPassed 88 = .ok (.iconst 1, 1) := by decide +kernel
theorem dL_isPassed_89 : decode cL_isPassed 89 = .ok (.if_icmp .le 7, 3) := by decide +kernel
theorem dL_isPassed_92 : decode cL_isPassed 92 = .ok (.iconst 1, 1) := by decide +kernel
theorem dL_isPassed_93 : decode cL_isPassed 93 = .ok (.goto 4, 3) := by decide +kernel
theorem dL_isPassed_96 : decode cL_isPassed 96 = .ok (.iconst 0, 1) := by decide +kernel
theorem dL_isPassed_97 : decode cL_isPassed 97 = .ok (.istore 15, 2) := by decide +kernel
theorem dL_isPassed_99 : decode cL_isPassed 99 = .ok (.iconst 0, 1) := by decide +kernel
theorem dL_isPassed_100 : decode cL_isPassed 100 = .ok (.istore 16, 2) := by decide +kernel
theorem dL_isPassed_102 : decode cL_isPassed 102 = .ok (.iload 16, 2) := by decide +kernel
theorem dL_isPassed_104 : decode cL_isPassed 104 = .ok (.aload 8, 2) := by decide +kernel
theorem dL_isPassed_106 : decode cL_isPassed 106 = .ok (.iconst 2, 1) := by decide +kernel
theorem dL_isPassed_107 : decode cL_isPassed 107 = .ok (.iaload, 1) := by decide +kernel
theorem dL_isPassed_108 : decode cL_isPassed 108 = .ok (.if_icmp .ge 82, 3) := by decide +kernel
theorem dL_isPassed_111 : decode cL_isPassed 111 = .ok (.aload 7, 2) := by decide +kernel
theorem dL_isPassed_113 : decode cL_isPassed 113 = .ok (.iload 16, 2) := by decide +kernel
theorem dL_isPassed_115 : decode cL_isPassed 115 = .ok (.iaload, 1) := by decide +kernel
theorem dL_isPassed_116 : decode cL_isPassed 116 = .ok (.iload 12, 2) := by decide +kernel
theorem dL_isPassed_118 : decode cL_isPassed 118 = .ok (.if_icmp .ne 17, 3) := by decide +kernel
theorem dL_isPassed_121 : decode cL_isPassed 121 = .ok (.aload 6, 2) := by decide +kernel
theorem dL_isPassed_123 : decode cL_isPassed 123 = .ok (.bipush 6, 2) := by decide +kernel
theorem dL_isPassed_125 : decode cL_isPassed 125 = .ok (.iload 16, 2) := by decide +kernel
theorem dL_isPassed_127 : decode cL_isPassed 127 = .ok (.imul, 1) := by decide +kernel
theorem dL_isPassed_128 : decode cL_isPassed 128 = .ok (.iload 11, 2) := by decide +kernel
theorem dL_isPassed_130 : decode cL_isPassed 130 = .ok (.iadd, 1) := by decide +kernel
theorem dL_isPassed_131 : decode cL_isPassed 131 = .ok (.iaload, 1) := by decide +kernel
theorem dL_isPassed_132 : decode cL_isPassed 132 = .ok (.goto 4, 3) := by decide +kernel
theorem dL_isPassed_135 : decode cL_isPassed 135 = .ok (.iconst 0, 1) := by decide +kernel
theorem dL_isPassed_136 : decode cL_isPassed 136 = .ok (.istore 17, 2) := by decide +kernel
theorem dL_isPassed_138 : decode cL_isPassed 138 = .ok (.iload 14, 2) := by decide +kernel
theorem dL_isPassed_140 : decode cL_isPassed 140 = .ok (.iload 17, 2) := by decide +kernel
theorem dL_isPassed_142 : decode cL_isPassed 142 = .ok (.ifCond .le 7, 3) := by decide +kernel
theorem dL_isPassed_145 : decode cL_isPassed 145 = .ok (.iconst 1, 1) := by decide +kernel
theorem dL_isPassed_146 : decode cL_isPassed 146 = .ok (.goto 4, 3) := by decide +kernel
theorem dL_isPassed_149 : decode cL_isPassed 149 = .ok (.iconst 0, 1) := by decide +kernel
theorem dL_isPassed_150 : decode cL_isPassed 150 = .ok (.iadd, 1) := by decide +kernel
theorem dL_isPassed_151 : decode cL_isPassed 151 = .ok (.istore 14, 2) := by decide +kernel
theorem dL_isPassed_153 : decode cL_isPassed 153 = .ok (.iload 15, 2) := by decide +kernel
theorem dL_isPassed_155 : decode cL_isPassed 155 = .ok (.ifCond .eq 26, 3) := by decide +kernel
theorem dL_isPassed_158 : decode cL_isPassed 158 = .ok (.iload 17, 2) := by decide +kernel
theorem dL_isPassed_160 : decode cL_isPassed 160 = .ok (.ifCond .eq 17, 3) := by decide +kernel
theorem dL_isPassed_163 : decode cL_isPassed 163 = .ok (.aload 8, 2) := by decide +kernel
theorem dL_isPassed_165 : decode cL_isPassed 165 = .ok (.iconst 1, 1) := by decide +kernel
theorem dL_isPassed_166 : decode cL_isPassed 166 = .ok (.iaload, 1) := by decide +kernel
theorem dL_isPassed_167 : decode cL_isPassed 167 = .ok (.iconst 1, 1) := by decide +kernel
theorem dL_isPassed_168 : decode cL_isPassed 168 = .ok (.iadd, 1) := by decide +kernel
theorem dL_isPassed_169 : decode cL_isPassed 169 = .ok (.iload 17, 2) := by decide +kernel
theorem dL_isPassed_171 : decode cL_isPassed 171 = .ok (.isub, 1) := by decide +kernel
theorem dL_isPassed_172 : decode cL_isPassed 172 = .ok (.bipush 12, 2) := by decide +kernel
theorem dL_isPassed_174 : decode cL_isPassed 174 = .ok (.if_icmp .le 7, 3) := by decide +kernel
theorem dL_isPassed_177 : decode cL_isPassed 177 = .ok (.iconst 1, 1) := by decide +kernel
theorem dL_isPassed_178 : decode cL_isPassed 178 = .ok (.goto 4, 3) := by decide +kernel
theorem dL_isPassed_181 : decode cL_isPassed 181 = .ok (.iconst 0, 1) := by decide +kernel
theorem dL_isPassed_182 : decode cL_isPassed 182 = .ok (.istore 15, 2) := by decide +kernel
theorem dL_isPassed_184 : decode cL_isPassed 184 = .ok (.iinc 16 1, 3) := by decide +kernel
theorem dL_isPassed_187 : decode cL_isPassed 187 = .ok (.goto (-85), 3) := by decide +kernel
theorem dL_isPassed_190 : decode cL_isPassed 190 = .ok (.iload 15, 2) := by decide +kernel
theorem dL_isPassed_192 : decode cL_isPassed 192 = .ok (.ifCond .eq 31, 3) := by decide +kernel
theorem dL_isPassed_195 : decode cL_isPassed 195 = .ok (.iload 14, 2) := by decide +kernel
theorem dL_isPassed_197 : decode cL_isPassed 197 = .ok (.ifCond .le 26, 3) := by decide +kernel
theorem dL_isPassed_200 : decode cL_isPassed 200 = .ok (.aload_n 1, 1) := by decide +kernel
theorem dL_isPassed_201 : decode cL_isPassed 201 = .ok (.aload_n 2, 1) := by decide +kernel
theorem dL_isPassed_202 : decode cL_isPassed 202 = .ok (.aload_n 3, 1) := by decide +kernel
theorem dL_isPassed_203 : decode cL_isPassed 203 = .ok (.aload 4, 2) := by decide +kernel
theorem dL_isPassed_205 : decode cL_isPassed 205 = .ok (.aload 5, 2) := by decide +kernel
theorem dL_isPassed_207 : decode cL_isPassed 207 = .ok (.aload 6, 2) := by decide +kernel
theorem dL_isPassed_209 : decode cL_isPassed 209 = .ok (.aload 7, 2) := by decide +kernel
theorem dL_isPassed_211 : decode cL_isPassed 211 = .ok (.aload 8, 2) := by decide +kernel
theorem dL_isPassed_213 : decode cL_isPassed 213 = .ok (.iload 11, 2) := by decide +kernel
theorem dL_isPassed_215 : decode cL_isPassed 215 = .ok (.iload 12, 2) := by decide +kernel
theorem dL_isPassed_217 : decode cL_isPassed 217 = .ok (.invokestatic 122, 3) := by decide +kernel
theorem dL_isPassed_220 : decode cL_isPassed 220 = .ok (.iinc 10 1, 3) := by decide +kernel
theorem dL_isPassed_223 : decode cL_isPassed 223 = .ok (.iinc 12 1, 3) := by decide +kernel
theorem dL_isPassed_226 : decode cL_isPassed 226 = .ok (.goto (-172), 3) := by decide +kernel
theorem dL_isPassed_229 : decode cL_isPassed 229 = .ok (.iinc 11 1, 3) := by decide +kernel
theorem dL_isPassed_232 : decode cL_isPassed 232 = .ok (.goto (-188), 3) := by decide +kernel
theorem dL_isPassed_235 : decode cL_isPassed 235 = .ok (.aload_n 0, 1) := by decide +kernel
theorem dL_isPassed_236 : decode cL_isPassed 236 = .ok (.iconst 5, 1) := by decide +kernel
theorem dL_isPassed_237 : decode cL_isPassed 237 = .ok (.iload 9, 2) := by decide +kernel
theorem dL_isPassed_239 : decode cL_isPassed 239 = .ok (.iconst 0, 1) := by decide +kernel
theorem dL_isPassed_240 : decode cL_isPassed 240 = .ok (.iconst 0, 1) := by decide +kernel
theorem dL_isPassed_241 : decode cL_isPassed 241 = .ok (.iconst 0, 1) := by decide +kernel
theorem dL_isPassed_242 : decode cL_isPassed 242 = .ok (.invokestatic 115, 3) := by decide +kernel
theorem dL_isPassed_245 : decode cL_isPassed 245 = .ok (.iload 10, 2) := by decide +kernel
theorem dL_isPassed_247 : decode cL_isPassed 247 = .ok (.if_icmp .ne 7, 3) := by decide +kernel
theorem dL_isPassed_250 : decode cL_isPassed 250 = .ok (.iconst 1, 1) := by decide +kernel
theorem dL_isPassed_251 : decode cL_isPassed 251 = .ok (.goto 4, 3) := by decide +kernel
theorem dL_isPassed_254 : decode cL_isPassed 254 = .ok (.iconst 0, 1) := by decide +kernel
theorem dL_isPassed_255 : decode cL_isPassed 255 = .ok (.ireturn, 1) := by decide +kernel
theorem dL_isDone_0 : decode cL_isDone 0 = .ok (.aload_n 1, 1) := by decide +kernel
theorem dL_isDone_1 : decode cL_isDone 1 = .ok (.iload_n 2, 1) := by decide +kernel
theorem dL_isDone_2 : decode cL_isDone 2 = .ok (.bipush 40, 2) := by decide +kernel
theorem dL_isDone_4 : decode cL_isDone 4 = .ok (.invokestatic 130, 3) := by decide +kernel
theorem dL_isDone_7 : decode cL_isDone 7 = .ok (.istore 12, 2) := by decide +kernel
theorem dL_isDone_9 : decode cL_isDone 9 = .ok (.aload_n 1, 1) := by decide +kernel
theorem dL_isDone_10 : decode cL_isDone 10 = .ok (.iload_n 2, 1) := by decide +kernel
theorem dL_isDone_11 : decode cL_isDone 11 = .ok (.iconst 1, 1) := by decide +kernel
theorem dL_isDone_12 : decode cL_isDone 12 = .ok (.iadd, 1) := by decide +kernel
theorem dL_isDone_13 : decode cL_isDone 13 = .ok (.sipush 6000, 3) := by decide +kernel
theorem dL_isDone_16 : decode cL_isDone 16 = .ok (.invokestatic 130, 3) := by decide +kernel
theorem dL_isDone_19 : decode cL_isDone 19 = .ok (.istore 13, 2) := by decide +kernel
theorem dL_isDone_21 : decode cL_isDone 21 = .ok (.aload_n 1, 1) := by decide +kernel
theorem dL_isDone_22 : decode cL_isDone 22 = .ok (.iload_n 2, 1) := by decide +kernel
theorem dL_isDone_23 : decode cL_isDone 23 = .ok (.iconst 2, 1) := by decide +kernel
theorem dL_isDone_24 : decode cL_isDone 24 = .ok (.iadd, 1) := by decide +kernel
theorem dL_isDone_25 : decode cL_isDone 25 = .ok (.sipush 7000, 3) := by decide +kernel
theorem dL_isDone_28 : decode cL_isDone 28 = .ok (.invokestatic 130, 3) := by decide +kernel
theorem dL_isDone_31 : decode cL_isDone 31 = .ok (.istore 14, 2) := by decide +kernel
theorem dL_isDone_33 : decode cL_isDone 33 = .ok (.aload_n 1, 1) := by decide +kernel
theorem dL_isDone_34 : decode cL_isDone 34 = .ok (.iload_n 2, 1) := by decide +kernel
theorem dL_isDone_35 : decode cL_isDone 35 = .ok (.iconst 3, 1) := by decide +kernel
theorem dL_isDone_36 : decode cL_isDone 36 = .ok (.iadd, 1) := by decide +kernel
theorem dL_isDone_37 : decode cL_isDone 37 = .ok (.sipush 8000, 3) := by decide +kernel
theorem dL_isDone_40 : decode cL_isDone 40 = .ok (.invokestatic 130, 3) := by decide +kernel
theorem dL_isDone_43 : decode cL_isDone 43 = .ok (.istore 15, 2) := by decide +kernel
theorem dL_isDone_45 : decode cL_isDone 45 = .ok (.iload 13, 2) := by decide +kernel
theorem dL_isDone_47 : decode cL_isDone 47 = .ok (.bipush 30, 2) := by decide +kernel
theorem dL_isDone_49 : decode cL_isDone 49 = .ok (.irem, 1) := by decide +kernel
theorem dL_isDone_50 : decode cL_isDone 50 = .ok (.ifCond .ne 8, 3) := by decide +kernel
theorem dL_isDone_53 : decode cL_isDone 53 = .ok (.bipush 6, 2) := by decide +kernel
theorem dL_isDone_55 : decode cL_isDone 55 = .ok (.goto 8, 3) := by decide +kernel
theorem dL_isDone_58 : decode cL_isDone 58 = .ok (.iload 13, 2) := by decide +kernel
theorem dL_isDone_60 : decode cL_isDone 60 = .ok (.bipush 6, 2) := by decide +kernel
theorem dL_isDone_62 : decode cL_isDone 62 = .ok (.irem, 1) := by decide +kernel
theorem dL_isDone_63 : decode cL_isDone 63 = .ok (.istore 16, 2) := by decide +kernel
theorem dL_isDone_65 : decode cL_isDone 65 = .ok (.iload 14, 2) := by decide +kernel
theorem dL_isDone_67 : decode cL_isDone 67 = .ok (.bipush 30, 2) := by decide +kernel
theorem dL_isDone_69 : decode cL_isDone 69 = .ok (.irem, 1) := by decide +kernel
theorem dL_isDone_70 : decode cL_isDone 70 = .ok (.ifCond .ne 10, 3) := by decide +kernel
theorem dL_isDone_73 : decode cL_isDone 73 = .ok (.aload 11, 2) := by decide +kernel
theorem dL_isDone_75 : decode cL_isDone 75 = .ok (.iconst 0, 1) := by decide +kernel
theorem dL_isDone_76 : decode cL_isDone 76 = .ok (.iaload, 1) := by decide +kernel
theorem dL_isDone_77 : decode cL_isDone 77 = .ok (.goto 7, 3) := by decide +kernel
theorem dL_isDone_80 : decode cL_isDone 80 = .ok (.iload 14, 2) := by decide +kernel
theorem dL_isDone_82 : decode cL_isDone 82 = .ok (.iconst 2, 1) := by decide +kernel
theorem dL_isDone_83 : decode cL_isDone 83 = .ok (.irem, 1) := by decide +kernel
theorem dL_isDone_84 : decode cL_isDone 84 = .ok (.istore 17, 2) := by decide +kernel
theorem dL_isDone_86 : decode cL_isDone 86 = .ok (.iload 16, 2) := by decide +kernel
theorem dL_isDone_88 : decode cL_isDone 88 = .ok (.bipush 6, 2) := by decide +kernel
theorem dL_isDone_90 : decode cL_isDone 90 = .ok (.if_icmp .ge 37, 3) := by decide +kernel
theorem dL_isDone_93 : decode cL_isDone 93 = .ok (.iload 17, 2) := by decide +kernel
theorem dL_isDone_95 : decode cL_isDone 95 = .ok (.aload 11, 2) := by decide +kernel
theorem dL_isDone_97 : decode cL_isDone 97 = .ok (.iconst 0, 1) := by decide +kernel
theorem dL_isDone_98 : decode cL_isDone 98 = .ok (.iaload, 1) := by decide +kernel
theorem dL_isDone_99 : decode cL_isDone 99 = .ok (.if_icmp .ge 28, 3) := by decide +kernel
theorem dL_isDone_102 : decode cL_isDone 102 = .ok (.aload 6, 2) := by decide +kernel
theorem dL_isDone_104 : decode cL_isDone 104 = .ok (.iconst 2, 1) := by decide +kernel
theorem dL_isDone_105 : decode cL_isDone 105 = .ok (.iload 16, 2) := by decide +kernel
theorem dL_isDone_107 : decode cL_isDone 107 = .ok (.bipush 6, 2) := by decide +kernel
theorem dL_isDone_109 : decode cL_isDone 109 = .ok (.irem, 1) := by decide +kernel
theorem dL_isDone_110 : decode cL_isDone 110 = .ok (.imul, 1) := by decide +kernel
theorem dL_isDone_111 : decode cL_isDone 111 = .ok (.iload 17, 2) := by decide +kernel
theorem dL_isDone_113 : decode cL_isDone 113 = .ok (.iconst 2, 1) := by decide +kernel
theorem dL_isDone_114 : decode cL_isDone 114 = .ok (.irem, 1) := by decide +kernel
theorem dL_isDone_115 : decode cL_isDone 115 = .ok (.iadd, 1) := by decide +kernel
theorem dL_isDone_116 : decode cL_isDone 116 = .ok (.iaload, 1) := by decide +kernel
theorem dL_isDone_117 : decode cL_isDone 117 = .ok (.iconst 2, 1) := by decide +kernel
theorem dL_isDone_118 : decode cL_isDone 118 = .ok (.irem, 1) := by decide +kernel
theorem dL_isDone_119 : decode cL_isDone 119 = .ok (.iconst 1, 1) := by decide +kernel
theorem dL_isDone_120 : decode cL_isDone 120 = .ok (.if_icmp .ne 7, 3) := by decide +kernel
theorem dL_isDone_123 : decode cL_isDone 123 = .ok (.iconst 1, 1) := by decide +kernel
theorem dL_isDone_124 : decode cL_isDone 124 = .ok (.goto 4, 3) := by decide +kernel
theorem dL_isDone_127 : decode cL_isDone 127 = .ok (.iconst 0, 1) := by decide +kernel
theorem dL_isDone_128 : decode cL_isDone 128 = .ok (.istore 18, 2) := by decide +kernel
theorem dL_isDone_130 : decode cL_isDone 130 = .ok (.iload 12, 2) := by decide +kernel
theorem dL_isDone_132 : decode cL_isDone 132 = .ok (.iconst 3, 1) := by decide +kernel
theorem dL_isDone_133 : decode cL_isDone 133 = .ok (.if_icmp .ge 90, 3) := by decide +kernel
theorem dL_isDone_136 : decode cL_isDone 136 = .ok (.aload 11, 2) := by decide +kernel
theorem dL_isDone_138 : decode cL_isDone 138 = .ok (.iconst 0, 1) := by decide +kernel
theorem dL_isDone_139 : decode cL_isDone 139 = .ok (.iaload, 1) := by decide +kernel
theorem dL_isDone_140 : decode cL_isDone 140 = .ok (.iconst 2, 1) := by decide +kernel
theorem dL_isDone_141 : decode cL_isDone 141 = .ok (.if_icmp .ge 82, 3) := by decide +kernel
theorem dL_isDone_144 : decode cL_isDone 144 = .ok (.iload 16, 2) := by decide +kernel
theorem dL_isDone_146 : decode cL_isDone 146 = .ok (.bipush 6, 2) := by decide +kernel
theorem dL_isDone_148 : decode cL_isDone 148 = .ok (.if_icmp .ge 37, 3) := by decide +kernel
theorem dL_isDone_151 : decode cL_isDone 151 = .ok (.aload 7, 2) := by decide +kernel
theorem dL_isDone_153 : decode cL_isDone 153 = .ok (.iconst 4, 1) := by decide +kernel
theorem dL_isDone_154 : decode cL_isDone 154 = .ok (.aload 11, 2) := by decide +kernel
theorem dL_isDone_156 : decode cL_isDone 156 = .ok (.iconst 0, 1) := by decide +kernel
theorem dL_isDone_157 : decode cL_isDone 157 = .ok (.iaload, 1) := by decide +kernel
theorem dL_isDone_158 : decode cL_isDone 158 = .ok (.imul, 1) := by decide +kernel
theorem dL_isDone_159 : decode cL_isDone 159 = .ok (.iload 16, 2) := by decide +kernel
theorem dL_isDone_161 : decode cL_isDone 161 = .ok (.iconst 2, 1) := by decide +kernel
theorem dL_isDone_162 : decode cL_isDone 162 = .ok (.idiv, 1) := by decide +kernel
theorem dL_isDone_163 : decode cL_isDone 163 = .ok (.iastore, 1) := by decide +kernel
theorem dL_isDone_164 : decode cL_isDone 164 = .ok (.aload 6, 2) := by decide +kernel
theorem dL_isDone_166 : decode cL_isDone 166 = .ok (.iconst 2, 1) := by decide +kernel
theorem dL_isDone_167 : decode cL_isDone 167 = .ok (.iload 16, 2) := by decide +kernel
theorem dL_isDone_169 : decode cL_isDone 169 = .ok (.imul, 1) := by decide +kernel
theorem dL_isDone_170 : decode cL_isDone 170 = .ok (.aload 11, 2) := by decide +kernel
theorem dL_isDone_172 : decode cL_isDone 172 = .ok (.iconst 0, 1) := by decide +kernel
theorem dL_isDone_173 : decode cL_isDone 173 = .ok (.iaload, 1) := by decide +kernel
theorem dL_isDone_174 : decode cL_isDone 174 = .ok (.iadd, 1) := by decide +kernel
theorem dL_isDone_175 : decode cL_isDone 175 = .ok (.iconst 1, 1) := by decide +kernel
theorem dL_isDone_176 : decode cL_isDone 176 = .ok (.iastore, 1) := by decide +kernel
theorem dL_isDone_177 : decode cL_isDone 177 = .ok (.aload 11, 2) := by decide +kernel
theorem dL_isDone_179 : decode cL_isDone 179 = .ok (.iconst 0, 1) := by decide +kernel
theorem dL_isDone_180 : decode cL_isDone 180 = .ok (.dup2, 1) := by decide +kernel
theorem dL_isDone_181 : decode cL_isDone 181 = .ok (.iaload, 1) := by decide +kernel
theorem dL_isDone_182 : decode cL_isDone 182 = .ok (.iconst 1, 1) := by decide +kernel
theorem dL_isDone_183 : decode cL_isDone 183 = .ok (.iadd, 1) := by decide +kernel
theorem dL_isDone_184 : decode cL_isDone 184 = .ok (.iastore, 1) := by decide +kernel
theorem dL_isDone_185 : decode cL_isDone 185 = .ok (.aload_n 0, 1) := by decide +kernel
theorem dL_isDone_186 : decode cL_isDone 186 = .ok (.iconst 0, 1) := by decide +kernel
theorem dL_isDone_187 : decode cL_isDone 187 = .ok (.iload 16, 2) := by decide +kernel
theorem dL_isDone_189 : decode cL_isDone 189 = .ok (.iconst 0, 1) := by decide +kernel
theorem dL_isDone_190 : decode cL_isDone 190 = .ok (.iconst 0, 1) := by decide +kernel
theorem dL_isDone_191 : decode cL_isDone 191 = .ok (.iconst 0, 1) := by decide +kernel
theorem dL_isDone_192 : decode cL_isDone 192 = .ok (.invokestatic 115, 3) := by decide +kernel
theorem dL_isDone_195 : decode cL_isDone 195 = .ok (.iload 16, 2) := by decide +kernel
theorem dL_isDone_197 : decode cL_isDone 197 = .ok (.bipush 6, 2) := by decide +kernel
theorem dL_isDone_199 : decode cL_isDone 199 = .ok (.if_icmp .ge 12, 3) := by decide +kernel
theorem dL_isDone_202 : decode cL_isDone 202 = .ok (.aload 11, 2) := by decide +kernel
theorem dL_isDone_204 : decode cL_isDone 204 = .ok (.iconst 0, 1) := by decide +kernel
theorem dL_isDone_205 : decode cL_isDone 205 = .ok (.iaload, 1) := by decide +kernel
theorem dL_isDone_206 : decode cL_isDone 206 = .ok (.iconst 1, 1) := by decide +kernel
theorem dL_isDone_207 : decode cL_isDone 207 = .ok (.isub, 1) := by decide +kernel
theorem dL_isDone_208 : decode cL_isDone 208 = .ok (.goto 6, 3) := by decide +kernel
theorem dL_isDone_211 : decode cL_isDone 211 = .ok (.sipush (-300), 3) := by decide +kernel
theorem dL_isDone_214 : decode cL_isDone 214 = .ok (.if_icmp .ne 7, 3) := by decide +kernel
theorem dL_isDone_217 : decode cL_isDone 217 = .ok (.iconst 1, 1) := by decide +kernel
theorem dL_isDone_218 : decode cL_isDone 218 = .ok (.goto 4, 3) := by decide +kernel
theorem dL_isDone_221 : decode cL_isDone 221 = .ok (.iconst 0, 1) := by decide +kernel
theorem dL_isDone_222 : decode cL_isDone 222 = .ok (.ireturn, 1) := by decide +kernel
theorem dL_isDone_223 : decode cL_isDone 223 = .ok (.iload 12, 2) := by decide +kernel
theorem dL_isDone_225 : decode cL_isDone 225 = .ok (.bipush 16, 2) := by decide +kernel
theorem dL_isDone_227 : decode cL_isDone 227 = .ok (.if_icmp .ge 288, 3) := by decide +kernel
theorem dL_isDone_230 : decode cL_isDone 230 = .ok (.iload 14, 2) := by decide +kernel
theorem dL_isDone_232 : decode cL_isDone 232 = .ok (.bipush 40, 2) := by decide +kernel
theorem dL_isDone_234 : decode cL_isDone 234 = .ok (.irem, 1) := by decide +kernel
theorem dL_isDone_235 : decode cL_isDone 235 = .ok (.iconst 3, 1) := by decide +kernel
theorem dL_isDone_236 : decode cL_isDone 236 = .ok (.if_icmp .ne 7, 3) := by decide +kernel
theorem dL_isDone_239 : decode cL_isDone 239 = .ok (.iconst 4, 1) := by decide +kernel
theorem dL_isDone_240 : decode cL_isDone 240 = .ok (.goto 9, 3) := by decide +kernel
theorem dL_isDone_243 : decode cL_isDone 243 = .ok (.iload 14, 2) := by decide +kernel
theorem dL_isDone_245 : decode cL_isDone 245 = .ok (.iconst 2, 1) := by decide +kernel
theorem dL_isDone_246 : decode cL_isDone 246 = .ok (.idiv, 1) := by decide +kernel
theorem dL_isDone_247 : decode cL_isDone 247 = .ok (.iconst 4, 1) := by decide +kernel
theorem dL_isDone_248 : decode cL_isDone 248 = .ok (.irem, 1) := by decide +kernel
theorem dL_isDone_249 : decode cL_isDone 249 = .ok (.istore 19, 2) := by decide +kernel
theorem dL_isDone_251 : decode cL_isDone 251 = .ok (.iload 15, 2) := by decide +kernel
theorem dL_isDone_253 : decode cL_isDone 253 = .ok (.bipush 30, 2) := by decide +kernel
theorem dL_isDone_255 : decode cL_isDone 255 = .ok (.irem, 1) := by decide +kernel
theorem dL_isDone_256 : decode cL_isDone 256 = .ok (.ifCond .le 7, 3) := by decide +kernel
theorem dL_isDone_259 : decode cL_isDone 259 = .ok (.iconst 1, 1) := by decide +kernel
theorem dL_isDone_260 : decode cL_isDone 260 = .ok (.goto 4, 3) := by decide +kernel
theorem dL_isDone_263 : decode cL_isDone 263 = .ok (.iconst 0, 1) := by decide +kernel
theorem dL_isDone_264 : decode cL_isDone 264 = .ok (.istore 20, 2) := by decide +kernel
theorem dL_isDone_266 : decode cL_isDone 266 = .ok (.iload 18, 2) := by decide +kernel
theorem dL_isDone_268 : decode cL_isDone 268 = .ok (.ifCond .eq 32, 3) := by decide +kernel
theorem dL_isDone_271 : decode cL_isDone 271 = .ok (.iload 19, 2) := by decide +kernel
theorem dL_isDone_273 : decode cL_isDone 273 = .ok (.iconst 4, 1) := by decide +kernel
theorem dL_isDone_274 : decode cL_isDone 274 = .ok (.if_icmp .ge 26, 3) := by decide +kernel
theorem dL_isDone_277 : decode cL_isDone 277 = .ok (.iload 20, 2) := by decide +kernel
theorem dL_isDone_279 : decode cL_isDone 279 = .ok (.ifCond .eq 21, 3) := by decide +kernel
theorem dL_isDone_282 : decode cL_isDone 282 = .ok (.aload 7, 2) := by decide +kernel
theorem dL_isDone_284 : decode cL_isDone 284 = .ok (.iload 16, 2) := by decide +kernel
theorem dL_isDone_286 : decode cL_isDone 286 = .ok (.iload 17, 2) := by decide +kernel
theorem dL_isDone_288 : decode cL_isDone 288 = .ok (.iload 19, 2) := by decide +kernel
theorem dL_isDone_290 : decode cL_isDone 290 = .ok (.invokestatic 99, 3) := by decide +kernel
theorem dL_isDone_293 : decode cL_isDone 293 = .ok (.ifCond .eq 7, 3) := by decide +kernel
theorem dL_isDone_296 : decode cL_isDone 296 = .ok (.iconst 1, 1) := by decide +kernel
theorem dL_isDone_297 : decode cL_isDone 297 = .ok (.goto 4, 3) := by decide +kernel
theorem dL_isDone_300 : decode cL_isDone 300 = .ok (.iconst 0, 1) := by decide +kernel
theorem dL_isDone_301 : decode cL_isDone 301 = .ok (.istore 21, 2) := by decide +kernel
theorem dL_isDone_303 : decode cL_isDone 303 = .ok (.iload 16, 2) := by decide +kernel
theorem dL_isDone_305 : decode cL_isDone 305 = .ok (.bipush 6, 2) := by decide +kernel
theorem dL_isDone_307 : decode cL_isDone 307 = .ok (.if_icmp .ge 15, 3) := by decide +kernel
theorem dL_isDone_310 : decode cL_isDone 310 = .ok (.aload 11, 2) := by decide +kernel
theorem dL_isDone_312 : decode cL_isDone 312 = .ok (.iconst 3, 1) := by decide +kernel
theorem dL_isDone_313 : decode cL_isDone 313 = .ok (.iload 16, 2) := by decide +kernel
theorem dL_isDone_315 : decode cL_isDone 315 = .ok (.iadd, 1) := by decide +kernel
theorem dL_isDone_316 : decode cL_isDone 316 = .ok (.iaload, 1) := by decide +kernel
theorem dL_isDone_317 : decode cL_isDone 317 = .ok (.iconst 1, 1) := by decide +kernel
theorem dL_isDone_318 : decode cL_isDone 318 = .ok (.iadd, 1) := by decide +kernel
theorem dL_isDone_319 : decode cL_isDone 319 = .ok (.goto 4, 3) := by decide +kernel
theorem dL_isDone_322 : decode cL_isDone 322 = .ok (.iconst 0, 1) := by decide +kernel
theorem dL_isDone_323 : decode cL_isDone 323 = .ok (.istore 22, 2) := by decide +kernel
theorem dL_isDone_325 : decode cL_isDone 325 = .ok (.iload 20, 2) := by decide +kernel
theorem dL_isDone_327 : decode cL_isDone 327 = .ok (.ifCond .ne 9, 3) := by decide +kernel
theorem dL_isDone_330 : decode cL_isDone 330 = .ok (.sipush 1000, 3) := by decide +kernel
theorem dL_isDone_333 : decode cL_isDone 333 = .ok (.goto 33, 3) := by decide +kernel
theorem dL_isDone_336 : decode cL_isDone 336 = .ok (.iload 15, 2) := by decide +kernel
theorem dL_isDone_338 : decode cL_isDone 338 = .ok (.bipush 6, 2) := by decide +kernel
theorem dL_isDone_340 : decode cL_isDone 340 = .ok (.irem, 1) := by decide +kernel
theorem dL_isDone_341 : decode cL_isDone 341 = .ok (.ifCond .ne 7, 3) := by decide +kernel
theorem dL_isDone_344 : decode cL_isDone 344 = .ok (.iconst (-1), 1) := by decide +kernel
theorem dL_isDone_345 : decode cL_isDone 345 = .ok (.goto 21, 3) := by decide +kernel
theorem dL_isDone_348 : decode cL_isDone 348 = .ok (.iload 16, 2) := by decide +kernel
theorem dL_isDone_350 : decode cL_isDone 350 = .ok (.bipush 6, 2) := by decide +kernel
theorem dL_isDone_352 : decode cL_isDone 352 = .ok (.if_icmp .ge 13, 3) := by decide +kernel
theorem dL_isDone_355 : decode cL_isDone 355 = .ok (.iload 16, 2) := by decide +kernel
theorem dL_isDone_357 : decode cL_isDone 357 = .ok (.iload 22, 2) := by decide +kernel
theorem dL_isDone_359 : decode cL_isDone 359 = .ok (.invokestatic 97, 3) := by decide +kernel
theorem dL_isDone_362 : decode cL_isDone 362 = .ok (.goto 4, 3) := by decide +kernel
theorem dL_isDone_365 : decode cL_isDone 365 = .ok (.iconst 0, 1) := by decide +kernel
theorem dL_isDone_366 : decode cL_isDone 366 = .ok (.istore 23, 2) := by decide +kernel
theorem dL_isDone_368 : decode cL_isDone 368 = .ok (.iload 18, 2) := by decide +kernel
theorem dL_isDone_370 : decode cL_isDone 370 = .ok (.ifCond .eq 9, 3) := by decide +kernel
theorem dL_isDone_373 : decode cL_isDone 373 = .ok (.iload 19, 2) := by decide +kernel
theorem dL_isDone_375 : decode cL_isDone 375 = .ok (.iconst 4, 1) := by decide +kernel
theorem dL_isDone_376 : decode cL_isDone 376 = .ok (.if_icmp .ne 9, 3) := by decide +kernel
theorem dL_isDone_379 : decode cL_isDone 379 = .ok (.sipush (-300), 3) := by decide +kernel
theorem dL_isDone_382 : decode cL_isDone 382 = .ok (.goto 38, 3) := by decide +kernel
theorem dL_isDone_385 : decode cL_isDone 385 = .ok (.iload 20, 2) := by decide +kernel
theorem dL_isDone_387 : decode cL_isDone 387 = .ok (.ifCond .ne 9, 3) := by decide +kernel
theorem dL_isDone_390 : decode cL_isDone 390 = .ok (.sipush (-200), 3) := by decide +kernel
theorem dL_isDone_393 : decode cL_isDone 393 = .ok (.goto 27, 3) := by decide +kernel
theorem dL_isDone_396 : decode cL_isDone 396 = .ok (.iload 21, 2) := by decide +kernel
theorem dL_isDone_398 : decode cL_isDone 398 = .ok (.ifCond .eq 20, 3) := by decide +kernel
theorem dL_isDone_401 : decode cL_isDone 401 = .ok (.aload_n 3, 1) := by decide +kernel
theorem dL_isDone_402 : decode cL_isDone 402 = .ok (.iload 16, 2) := by decide +kernel
theorem dL_isDone_404 : decode cL_isDone 404 = .ok (.iload 17, 2) := by decide +kernel
theorem dL_isDone_406 : decode cL_isDone 406 = .ok (.iload 19, 2) := by decide +kernel
theorem dL_isDone_408 : decode cL_isDone 408 = .ok (.invokestatic 71, 3) := by decide +kernel
theorem dL_isDone_411 : decode cL_isDone 411 = .ok (.laload, 1) := by decide +kernel
theorem dL_isDone_412 : decode cL_isDone 412 = .ok (.invokestatic 74, 3) := by decide +kernel
theorem dL_isDone_415 : decode cL_isDone 415 = .ok (.goto 5, 3) := by decide +kernel
theorem dL_isDone_418 : decode cL_isDone 418 = .ok (.bipush (-100), 2) := by decide +kernel
theorem dL_isDone_420 : decode cL_isDone 420 = .ok (.istore 24, 2) := by decide +kernel
theorem dL_isDone_422 : decode cL_isDone 422 = .ok (.iload 21, 2) := by decide +kernel
theorem dL_isDone_424 : decode cL_isDone 424 = .ok (.ifCond .eq 67, 3) := by decide +kernel
