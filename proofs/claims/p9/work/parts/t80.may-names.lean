abbrev cX10_may : ByteArray := prog_12_method_22_code
def yX10_may : MethodName := ⟨RX10, "may", "(LSchemaReaderModel$Text;ILSchemaReaderModel$Text;I)Z"⟩
def wsX10_may : List Cond := .code yX10_may cX10_may 9 (some .boolean) :: sr_G
theorem dX10_may_0 : decode cX10_may 0 = .ok (.aload_n 1, 1) := by decide +kernel
theorem dX10_may_1 : decode cX10_may 1 = .ok (.getfield 92, 3) := by decide +kernel
theorem dX10_may_4 : decode cX10_may 4 = .ok (.iload_n 2, 1) := by decide +kernel
theorem dX10_may_5 : decode cX10_may 5 = .ok (.iaload, 1) := by decide +kernel
theorem dX10_may_6 : decode cX10_may 6 = .ok (.istore 5, 2) := by decide +kernel
theorem dX10_may_8 : decode cX10_may 8 = .ok (.iload 5, 2) := by decide +kernel
theorem dX10_may_10 : decode cX10_may 10 = .ok (.bipush 8, 2) := by decide +kernel
theorem dX10_may_12 : decode cX10_may 12 = .ok (.if_icmp .ne 43, 3) := by decide +kernel
theorem dX10_may_15 : decode cX10_may 15 = .ok (.aload_n 1, 1) := by decide +kernel
theorem dX10_may_16 : decode cX10_may 16 = .ok (.getfield 105, 3) := by decide +kernel
theorem dX10_may_19 : decode cX10_may 19 = .ok (.iload_n 2, 1) := by decide +kernel
theorem dX10_may_20 : decode cX10_may 20 = .ok (.iaload, 1) := by decide +kernel
theorem dX10_may_21 : decode cX10_may 21 = .ok (.istore 6, 2) := by decide +kernel
theorem dX10_may_23 : decode cX10_may 23 = .ok (.iload 6, 2) := by decide +kernel
theorem dX10_may_25 : decode cX10_may 25 = .ok (.ifCond .lt 28, 3) := by decide +kernel
theorem dX10_may_28 : decode cX10_may 28 = .ok (.aload_n 0, 1) := by decide +kernel
theorem dX10_may_29 : decode cX10_may 29 = .ok (.aload_n 1, 1) := by decide +kernel
theorem dX10_may_30 : decode cX10_may 30 = .ok (.getfield 102, 3) := by decide +kernel
theorem dX10_may_33 : decode cX10_may 33 = .ok (.iload 6, 2) := by decide +kernel
theorem dX10_may_35 : decode cX10_may 35 = .ok (.iaload, 1) := by decide +kernel
theorem dX10_may_36 : decode cX10_may 36 = .ok (.iload 4, 2) := by decide +kernel
theorem dX10_may_38 : decode cX10_may 38 = .ok (.invokevirtual 131, 3) := by decide +kernel
theorem dX10_may_41 : decode cX10_may 41 = .ok (.aload_n 1, 1) := by decide +kernel
theorem dX10_may_42 : decode cX10_may 42 = .ok (.getfield 122, 3) := by decide +kernel
theorem dX10_may_45 : decode cX10_may 45 = .ok (.iload 6, 2) := by decide +kernel
theorem dX10_may_47 : decode cX10_may 47 = .ok (.iaload, 1) := by decide +kernel
theorem dX10_may_48 : decode cX10_may 48 = .ok (.istore 6, 2) := by decide +kernel
theorem dX10_may_50 : decode cX10_may 50 = .ok (.goto (-27), 3) := by decide +kernel
theorem dX10_may_53 : decode cX10_may 53 = .ok (.iconst 1, 1) := by decide +kernel
theorem dX10_may_54 : decode cX10_may 54 = .ok (.ireturn, 1) := by decide +kernel
theorem dX10_may_55 : decode cX10_may 55 = .ok (.aload_n 3, 1) := by decide +kernel
theorem dX10_may_56 : decode cX10_may 56 = .ok (.getfield 92, 3) := by decide +kernel
theorem dX10_may_59 : decode cX10_may 59 = .ok (.iload 4, 2) := by decide +kernel
theorem dX10_may_61 : decode cX10_may 61 = .ok (.iaload, 1) := by decide +kernel
theorem dX10_may_62 : decode cX10_may 62 = .ok (.bipush 8, 2) := by decide +kernel
theorem dX10_may_64 : decode cX10_may 64 = .ok (.if_icmp .ne 41, 3) := by decide +kernel
theorem dX10_may_67 : decode cX10_may 67 = .ok (.aload_n 1, 1) := by decide +kernel
theorem dX10_may_68 : decode cX10_may 68 = .ok (.iload_n 2, 1) := by decide +kernel
theorem dX10_may_69 : decode cX10_may 69 = .ok (.aload_n 3, 1) := by decide +kernel
theorem dX10_may_70 : decode cX10_may 70 = .ok (.iload 4, 2) := by decide +kernel
theorem dX10_may_72 : decode cX10_may 72 = .ok (.invokestatic 138, 3) := by decide +kernel
theorem dX10_may_75 : decode cX10_may 75 = .ok (.istore 6, 2) := by decide +kernel
theorem dX10_may_77 : decode cX10_may 77 = .ok (.iload 6, 2) := by decide +kernel
theorem dX10_may_79 : decode cX10_may 79 = .ok (.ifCond .lt 15, 3) := by decide +kernel
theorem dX10_may_82 : decode cX10_may 82 = .ok (.aload_n 0, 1) := by decide +kernel
theorem dX10_may_83 : decode cX10_may 83 = .ok (.iload_n 2, 1) := by decide +kernel
theorem dX10_may_84 : decode cX10_may 84 = .ok (.aload_n 3, 1) := by decide +kernel
theorem dX10_may_85 : decode cX10_may 85 = .ok (.getfield 102, 3) := by decide +kernel
theorem dX10_may_88 : decode cX10_may 88 = .ok (.iload 6, 2) := by decide +kernel
theorem dX10_may_90 : decode cX10_may 90 = .ok (.iaload, 1) := by decide +kernel
theorem dX10_may_91 : decode cX10_may 91 = .ok (.invokevirtual 131, 3) := by decide +kernel
theorem dX10_may_94 : decode cX10_may 94 = .ok (.iload 6, 2) := by decide +kernel
theorem dX10_may_96 : decode cX10_may 96 = .ok (.ifCond .lt 7, 3) := by decide +kernel
theorem dX10_may_99 : decode cX10_may 99 = .ok (.iconst 1, 1) := by decide +kernel
theorem dX10_may_100 : decode cX10_may 100 = .ok (.goto 4, 3) := by decide +kernel
theorem dX10_may_103 : decode cX10_may 103 = .ok (.iconst 0, 1) := by decide +kernel
theorem dX10_may_104 : decode cX10_may 104 = .ok (.ireturn, 1) := by decide +kernel
theorem dX10_may_105 : decode cX10_may 105 = .ok (.iload 5, 2) := by decide +kernel
theorem dX10_may_107 : decode cX10_may 107 = .ok (.invokestatic 95, 3) := by decide +kernel
theorem dX10_may_110 : decode cX10_may 110 = .ok (.ifCond .ne 16, 3) := by decide +kernel
theorem dX10_may_113 : decode cX10_may 113 = .ok (.aload_n 3, 1) := by decide +kernel
theorem dX10_may_114 : decode cX10_may 114 = .ok (.getfield 92, 3) := by decide +kernel
theorem dX10_may_117 : decode cX10_may 117 = .ok (.iload 4, 2) := by decide +kernel
theorem dX10_may_119 : decode cX10_may 119 = .ok (.iaload, 1) := by decide +kernel
theorem dX10_may_120 : decode cX10_may 120 = .ok (.invokestatic 95, 3) := by decide +kernel
theorem dX10_may_123 : decode cX10_may 123 = .ok (.ifCond .eq 45, 3) := by decide +kernel
theorem dX10_may_126 : decode cX10_may 126 = .ok (.iload 5, 2) := by decide +kernel
theorem dX10_may_128 : decode cX10_may 128 = .ok (.invokestatic 95, 3) := by decide +kernel
theorem dX10_may_131 : decode cX10_may 131 = .ok (.ifCond .eq 35, 3) := by decide +kernel
theorem dX10_may_134 : decode cX10_may 134 = .ok (.aload_n 3, 1) := by decide +kernel
theorem dX10_may_135 : decode cX10_may 135 = .ok (.getfield 92, 3) := by decide +kernel
theorem dX10_may_138 : decode cX10_may 138 = .ok (.iload 4, 2) := by decide +kernel
theorem dX10_may_140 : decode cX10_may 140 = .ok (.iaload, 1) := by decide +kernel
theorem dX10_may_141 : decode cX10_may 141 = .ok (.invokestatic 95, 3) := by decide +kernel
theorem dX10_may_144 : decode cX10_may 144 = .ok (.ifCond .eq 22, 3) := by decide +kernel
theorem dX10_may_147 : decode cX10_may 147 = .ok (.iload 5, 2) := by decide +kernel
theorem dX10_may_149 : decode cX10_may 149 = .ok (.aload_n 3, 1) := by decide +kernel
theorem dX10_may_150 : decode cX10_may 150 = .ok (.getfield 92, 3) := by decide +kernel
theorem dX10_may_153 : decode cX10_may 153 = .ok (.iload 4, 2) := by decide +kernel
theorem dX10_may_155 : decode cX10_may 155 = .ok (.iaload, 1) := by decide +kernel
theorem dX10_may_156 : decode cX10_may 156 = .ok (.invokestatic 98, 3) := by decide +kernel
theorem dX10_may_159 : decode cX10_may 159 = .ok (.ifCond .eq 7, 3) := by decide +kernel
theorem dX10_may_162 : decode cX10_may 162 = .ok (.iconst 1, 1) := by decide +kernel
theorem dX10_may_163 : decode cX10_may 163 = .ok (.goto 4, 3) := by decide +kernel
theorem dX10_may_166 : decode cX10_may 166 = .ok (.iconst 0, 1) := by decide +kernel
theorem dX10_may_167 : decode cX10_may 167 = .ok (.ireturn, 1) := by decide +kernel
theorem dX10_may_168 : decode cX10_may 168 = .ok (.iload 5, 2) := by decide +kernel
theorem dX10_may_170 : decode cX10_may 170 = .ok (.aload_n 3, 1) := by decide +kernel
theorem dX10_may_171 : decode cX10_may 171 = .ok (.getfield 92, 3) := by decide +kernel
theorem dX10_may_174 : decode cX10_may 174 = .ok (.iload 4, 2) := by decide +kernel
theorem dX10_may_176 : decode cX10_may 176 = .ok (.iaload, 1) := by decide +kernel
theorem dX10_may_177 : decode cX10_may 177 = .ok (.if_icmp .eq 5, 3) := by decide +kernel
theorem dX10_may_180 : decode cX10_may 180 = .ok (.iconst 0, 1) := by decide +kernel
theorem dX10_may_181 : decode cX10_may 181 = .ok (.ireturn, 1) := by decide +kernel
theorem dX10_may_182 : decode cX10_may 182 = .ok (.iload 5, 2) := by decide +kernel
theorem dX10_may_184 : decode cX10_may 184 = .ok (.bipush 6, 2) := by decide +kernel
theorem dX10_may_186 : decode cX10_may 186 = .ok (.if_icmp .eq 10, 3) := by decide +kernel
theorem dX10_may_189 : decode cX10_may 189 = .ok (.iload 5, 2) := by decide +kernel
theorem dX10_may_191 : decode cX10_may 191 = .ok (.bipush 7, 2) := by decide +kernel
theorem dX10_may_193 : decode cX10_may 193 = .ok (.if_icmp .ne 32, 3) := by decide +kernel
theorem dX10_may_196 : decode cX10_may 196 = .ok (.aload_n 0, 1) := by decide +kernel
theorem dX10_may_197 : decode cX10_may 197 = .ok (.aload_n 1, 1) := by decide +kernel
theorem dX10_may_198 : decode cX10_may 198 = .ok (.getfield 102, 3) := by decide +kernel
theorem dX10_may_201 : decode cX10_may 201 = .ok (.aload_n 1, 1) := by decide +kernel
theorem dX10_may_202 : decode cX10_may 202 = .ok (.getfield 105, 3) := by decide +kernel
theorem dX10_may_205 : decode cX10_may 205 = .ok (.iload_n 2, 1) := by decide +kernel
theorem dX10_may_206 : decode cX10_may 206 = .ok (.iaload, 1) := by decide +kernel
theorem dX10_may_207 : decode cX10_may 207 = .ok (.iaload, 1) := by decide +kernel
theorem dX10_may_208 : decode cX10_may 208 = .ok (.aload_n 3, 1) := by decide +kernel
theorem dX10_may_209 : decode cX10_may 209 = .ok (.getfield 102, 3) := by decide +kernel
theorem dX10_may_212 : decode cX10_may 212 = .ok (.aload_n 3, 1) := by decide +kernel
theorem dX10_may_213 : decode cX10_may 213 = .ok (.getfield 105, 3) := by decide +kernel
theorem dX10_may_216 : decode cX10_may 216 = .ok (.iload 4, 2) := by decide +kernel
theorem dX10_may_218 : decode cX10_may 218 = .ok (.iaload, 1) := by decide +kernel
theorem dX10_may_219 : decode cX10_may 219 = .ok (.iaload, 1) := by decide +kernel
theorem dX10_may_220 : decode cX10_may 220 = .ok (.invokevirtual 131, 3) := by decide +kernel
theorem dX10_may_223 : decode cX10_may 223 = .ok (.iconst 1, 1) := by decide +kernel
theorem dX10_may_224 : decode cX10_may 224 = .ok (.ireturn, 1) := by decide +kernel
theorem dX10_may_225 : decode cX10_may 225 = .ok (.aload_n 1, 1) := by decide +kernel
theorem dX10_may_226 : decode cX10_may 226 = .ok (.iload_n 2, 1) := by decide +kernel
theorem dX10_may_227 : decode cX10_may 227 = .ok (.aload_n 3, 1) := by decide +kernel
theorem dX10_may_228 : decode cX10_may 228 = .ok (.iload 4, 2) := by decide +kernel
theorem dX10_may_230 : decode cX10_may 230 = .ok (.invokestatic 108, 3) := by decide +kernel
theorem dX10_may_233 : decode cX10_may 233 = .ok (.ifCond .ne 5, 3) := by decide +kernel
theorem dX10_may_236 : decode cX10_may 236 = .ok (.iconst 0, 1) := by decide +kernel
theorem dX10_may_237 : decode cX10_may 237 = .ok (.ireturn, 1) := by decide +kernel
theorem dX10_may_238 : decode cX10_may 238 = .ok (.iload 5, 2) := by decide +kernel
theorem dX10_may_240 : decode cX10_may 240 = .ok (.bipush 10, 2) := by decide +kernel
theorem dX10_may_242 : decode cX10_may 242 = .ok (.if_icmp .ne 81, 3) := by decide +kernel
theorem dX10_may_245 : decode cX10_may 245 = .ok (.iconst 1, 1) := by decide +kernel
theorem dX10_may_246 : decode cX10_may 246 = .ok (.istore 6, 2) := by decide +kernel
theorem dX10_may_248 : decode cX10_may 248 = .ok (.aload_n 1, 1) := by decide +kernel
theorem dX10_may_249 : decode cX10_may 249 = .ok (.getfield 105, 3) := by decide +kernel
theorem dX10_may_252 : decode cX10_may 252 = .ok (.iload_n 2, 1) := by decide +kernel
theorem dX10_may_253 : decode cX10_may 253 = .ok (.iaload, 1) := by decide +kernel
theorem dX10_may_254 : decode cX10_may 254 = .ok (.istore 7, 2) := by decide +kernel
theorem dX10_may_256 : decode cX10_may 256 = .ok (.iload 7, 2) := by decide +kernel
theorem dX10_may_258 : decode cX10_may 258 = .ok (.ifCond .lt 44, 3) := by decide +kernel
theorem dX10_may_261 : decode cX10_may 261 = .ok (.iload 6, 2) := by decide +kernel
theorem dX10_may_263 : decode cX10_may 263 = .ok (.ifCond .eq 24, 3) := by decide +kernel
theorem dX10_may_266 : decode cX10_may 266 = .ok (.aload_n 3, 1) := by decide +kernel
theorem dX10_may_267 : decode cX10_may 267 = .ok (.iload 4, 2) := by decide +kernel
theorem dX10_may_269 : decode cX10_may 269 = .ok (.aload_n 1, 1) := by decide +kernel
theorem dX10_may_270 : decode cX10_may 270 = .ok (.aload_n 1, 1) := by decide +kernel
theorem dX10_may_271 : decode cX10_may 271 = .ok (.getfield 142, 3) := by decide +kernel
theorem dX10_may_274 : decode cX10_may 274 = .ok (.iload 7, 2) := by decide +kernel
theorem dX10_may_276 : decode cX10_may 276 = .ok (.iaload, 1) := by decide +kernel
theorem dX10_may_277 : decode cX10_may 277 = .ok (.invokevirtual 145, 3) := by decide +kernel
theorem dX10_may_280 : decode cX10_may 280 = .ok (.ifCond .lt 7, 3) := by decide +kernel
theorem dX10_may_283 : decode cX10_may 283 = .ok (.iconst 1, 1) := by decide +kernel
theorem dX10_may_284 : decode cX10_may 284 = .ok (.goto 4, 3) := by decide +kernel
theorem dX10_may_287 : decode cX10_may 287 = .ok (.iconst 0, 1) := by decide +kernel
theorem dX10_may_288 : decode cX10_may 288 = .ok (.istore 6, 2) := by decide +kernel
theorem dX10_may_290 : decode cX10_may 290 = .ok (.aload_n 1, 1) := by decide +kernel
theorem dX10_may_291 : decode cX10_may 291 = .ok (.getfield 122, 3) := by decide +kernel
theorem dX10_may_294 : decode cX10_may 294 = .ok (.iload 7, 2) := by decide +kernel
theorem dX10_may_296 : decode cX10_may 296 = .ok (.iaload, 1) := by decide +kernel
theorem dX10_may_297 : decode cX10_may 297 = .ok (.istore 7, 2) := by decide +kernel
theorem dX10_may_299 : decode cX10_may 299 = .ok (.goto (-43), 3) := by decide +kernel
theorem dX10_may_302 : decode cX10_may 302 = .ok (.aload_n 3, 1) := by decide +kernel
theorem dX10_may_303 : decode cX10_may 303 = .ok (.getfield 149, 3) := by decide +kernel
theorem dX10_may_306 : decode cX10_may 306 = .ok (.iload 4, 2) := by decide +kernel
theorem dX10_may_308 : decode cX10_may 308 = .ok (.iaload, 1) := by decide +kernel
theorem dX10_may_309 : decode cX10_may 309 = .ok (.ifCond .ge 8, 3) := by decide +kernel
theorem dX10_may_312 : decode cX10_may 312 = .ok (.iload 6, 2) := by decide +kernel
theorem dX10_may_314 : decode cX10_may 314 = .ok (.ifCond .eq 7, 3) := by decide +kernel
theorem dX10_may_317 : decode cX10_may 317 = .ok (.iconst 1, 1) := by decide +kernel
theorem dX10_may_318 : decode cX10_may 318 = .ok (.goto 4, 3) := by decide +kernel
theorem dX10_may_321 : decode cX10_may 321 = .ok (.iconst 0, 1) := by decide +kernel
theorem dX10_may_322 : decode cX10_may 322 = .ok (.ireturn, 1) := by decide +kernel
theorem dX10_may_323 : decode cX10_may 323 = .ok (.iconst 1, 1) := by decide +kernel
theorem dX10_may_324 : decode cX10_may 324 = .ok (.istore 6, 2) := by decide +kernel
theorem dX10_may_326 : decode cX10_may 326 = .ok (.aload_n 3, 1) := by decide +kernel
theorem dX10_may_327 : decode cX10_may 327 = .ok (.getfield 105, 3) := by decide +kernel
theorem dX10_may_330 : decode cX10_may 330 = .ok (.iload 4, 2) := by decide +kernel
theorem dX10_may_332 : decode cX10_may 332 = .ok (.iaload, 1) := by decide +kernel
theorem dX10_may_333 : decode cX10_may 333 = .ok (.istore 7, 2) := by decide +kernel
theorem dX10_may_335 : decode cX10_may 335 = .ok (.iload 7, 2) := by decide +kernel
theorem dX10_may_337 : decode cX10_may 337 = .ok (.ifCond .lt 82, 3) := by decide +kernel
theorem dX10_may_340 : decode cX10_may 340 = .ok (.iload 5, 2) := by decide +kernel
theorem dX10_may_342 : decode cX10_may 342 = .ok (.bipush 11, 2) := by decide +kernel
theorem dX10_may_344 : decode cX10_may 344 = .ok (.if_icmp .ne 75, 3) := by decide +kernel
theorem dX10_may_347 : decode cX10_may 347 = .ok (.aload_n 1, 1) := by decide +kernel
theorem dX10_may_348 : decode cX10_may 348 = .ok (.iload_n 2, 1) := by decide +kernel
theorem dX10_may_349 : decode cX10_may 349 = .ok (.aload_n 3, 1) := by decide +kernel
theorem dX10_may_350 : decode cX10_may 350 = .ok (.iload 7, 2) := by decide +kernel
theorem dX10_may_352 : decode cX10_may 352 = .ok (.invokestatic 152, 3) := by decide +kernel
theorem dX10_may_355 : decode cX10_may 355 = .ok (.istore 8, 2) := by decide +kernel
theorem dX10_may_357 : decode cX10_may 357 = .ok (.iload 8, 2) := by decide +kernel
theorem dX10_may_359 : decode cX10_may 359 = .ok (.ifCond .lt 21, 3) := by decide +kernel
theorem dX10_may_362 : decode cX10_may 362 = .ok (.aload_n 0, 1) := by decide +kernel
theorem dX10_may_363 : decode cX10_may 363 = .ok (.aload_n 1, 1) := by decide +kernel
theorem dX10_may_364 : decode cX10_may 364 = .ok (.getfield 102, 3) := by decide +kernel
theorem dX10_may_367 : decode cX10_may 367 = .ok (.iload 8, 2) := by decide +kernel
theorem dX10_may_369 : decode cX10_may 369 = .ok (.iaload, 1) := by decide +kernel
theorem dX10_may_370 : decode cX10_may 370 = .ok (.aload_n 3, 1) := by decide +kernel
theorem dX10_may_371 : decode cX10_may 371 = .ok (.getfield 102, 3) := by decide +kernel
theorem dX10_may_374 : decode cX10_may 374 = .ok (.iload 7, 2) := by decide +kernel
theorem dX10_may_376 : decode cX10_may 376 = .ok (.iaload, 1) := by decide +kernel
theorem dX10_may_377 : decode cX10_may 377 = .ok (.invokevirtual 131, 3) := by decide +kernel
theorem dX10_may_380 : decode cX10_may 380 = .ok (.iload 6, 2) := by decide +kernel
theorem dX10_may_382 : decode cX10_may 382 = .ok (.ifCond .eq 22, 3) := by decide +kernel
theorem dX10_may_385 : decode cX10_may 385 = .ok (.iload 8, 2) := by decide +kernel
theorem dX10_may_387 : decode cX10_may 387 = .ok (.ifCond .ge 13, 3) := by decide +kernel
theorem dX10_may_390 : decode cX10_may 390 = .ok (.aload_n 3, 1) := by decide +kernel
theorem dX10_may_391 : decode cX10_may 391 = .ok (.getfield 155, 3) := by decide +kernel
theorem dX10_may_394 : decode cX10_may 394 = .ok (.iload 7, 2) := by decide +kernel
theorem dX10_may_396 : decode cX10_may 396 = .ok (.iaload, 1) := by decide +kernel
theorem dX10_may_397 : decode cX10_may 397 = .ok (.ifCond .lt 7, 3) := by decide +kernel
theorem dX10_may_400 : decode cX10_may 400 = .ok (.iconst 1, 1) := by decide +kernel
theorem dX10_may_401 : decode cX10_may 401 = .ok (.goto 4, 3) := by decide +kernel
theorem dX10_may_404 : decode cX10_may 404 = .ok (.iconst 0, 1) := by decide +kernel
theorem dX10_may_405 : decode cX10_may 405 = .ok (.istore 6, 2) := by decide +kernel
theorem dX10_may_407 : decode cX10_may 407 = .ok (.aload_n 3, 1) := by decide +kernel
theorem dX10_may_408 : decode cX10_may 408 = .ok (.getfield 122, 3) := by decide +kernel
theorem dX10_may_411 : decode cX10_may 411 = .ok (.iload 7, 2) := by decide +kernel
theorem dX10_may_413 : decode cX10_may 413 = .ok (.iaload, 1) := by decide +kernel
theorem dX10_may_414 : decode cX10_may 414 = .ok (.istore 7, 2) := by decide +kernel
theorem dX10_may_416 : decode cX10_may 416 = .ok (.goto (-81), 3) := by decide +kernel
theorem dX10_may_419 : decode cX10_may 419 = .ok (.iload 6, 2) := by decide +kernel
theorem dX10_may_421 : decode cX10_may 421 = .ok (.ireturn, 1) := by decide +kernel
def rmX10_may (mc ms : Nat) : Room := { frames := 153, cells := mc, slots := ms, locals := 3823 }
theorem g10_131 (c0 : Cond) : GoodIn (c0 :: sr_G) (wsV RX10 131 RX10 yX10_ask wsX10_ask) := sr_V c0 (sr_ins (by decide +kernel))
theorem g10_152 (c0 : Cond) : GoodIn (c0 :: sr_G) (va_wsS RX10 152 yX10_fieldLike wsX10_fieldLike) := sr_S c0 (sr_ins (by decide +kernel))
theorem g10_138 (c0 : Cond) : GoodIn (c0 :: sr_G) (va_wsS RX10 138 yX10_branchFor wsX10_branchFor) := sr_S c0 (sr_ins (by decide +kernel))
theorem gn10_145 : (∀ w ∈ ([.instanceMethod yX9_symbol, .selects RX9 yX9_symbol yX9_symbol, .initialized yX9_symbol.cls, .code yX9_symbol cX9_symbol 6 (some .int)] : List Cond), w ∈ sr_G) ∧ (.methodLinkNest RX10 145 yX9_symbol "SchemaReaderModel" : Cond) ∈ sr_N := ⟨sr_ins (by decide +kernel), List.mem_filter.mpr ⟨in_tables_1_7 _ (List.mem_of_getElem? (i := 69) rfl), rfl⟩⟩
