abbrev cX9_fit : ByteArray := prog_13_method_31_code
def yX9_fit : MethodName := ⟨RX9, "fit", "(II)V"⟩
def wsX9_fit : List Cond := .code yX9_fit cX9_fit 6 none :: sr_G
theorem dX9_fit_0 : decode cX9_fit 0 = .ok (.aload_n 0, 1) := by decide +kernel
theorem dX9_fit_1 : decode cX9_fit 1 = .ok (.getfield 19, 3) := by decide +kernel
theorem dX9_fit_4 : decode cX9_fit 4 = .ok (.iload_n 1, 1) := by decide +kernel
theorem dX9_fit_5 : decode cX9_fit 5 = .ok (.iaload, 1) := by decide +kernel
theorem dX9_fit_6 : decode cX9_fit 6 = .ok (.istore_n 3, 1) := by decide +kernel
theorem dX9_fit_7 : decode cX9_fit 7 = .ok (.aload_n 0, 1) := by decide +kernel
theorem dX9_fit_8 : decode cX9_fit 8 = .ok (.getfield 38, 3) := by decide +kernel
theorem dX9_fit_11 : decode cX9_fit 11 = .ok (.iload_n 2, 1) := by decide +kernel
theorem dX9_fit_12 : decode cX9_fit 12 = .ok (.iaload, 1) := by decide +kernel
theorem dX9_fit_13 : decode cX9_fit 13 = .ok (.tableswitch 450 0 10 #[59, 85, 120, 163, 188, 188, 307, 374, 288, 213, 253], 59) := by decide +kernel
theorem dX9_fit_72 : decode cX9_fit 72 = .ok (.aload_n 0, 1) := by decide +kernel
theorem dX9_fit_73 : decode cX9_fit 73 = .ok (.aload_n 0, 1) := by decide +kernel
theorem dX9_fit_74 : decode cX9_fit 74 = .ok (.getfield 15, 3) := by decide +kernel
theorem dX9_fit_77 : decode cX9_fit 77 = .ok (.iload_n 1, 1) := by decide +kernel
theorem dX9_fit_78 : decode cX9_fit 78 = .ok (.iaload, 1) := by decide +kernel
theorem dX9_fit_79 : decode cX9_fit 79 = .ok (.bipush 6, 2) := by decide +kernel
theorem dX9_fit_81 : decode cX9_fit 81 = .ok (.if_icmp .ne 7, 3) := by decide +kernel
theorem dX9_fit_84 : decode cX9_fit 84 = .ok (.iconst 1, 1) := by decide +kernel
theorem dX9_fit_85 : decode cX9_fit 85 = .ok (.goto 4, 3) := by decide +kernel
theorem dX9_fit_88 : decode cX9_fit 88 = .ok (.iconst 0, 1) := by decide +kernel
theorem dX9_fit_89 : decode cX9_fit 89 = .ok (.bipush 12, 2) := by decide +kernel
theorem dX9_fit_91 : decode cX9_fit 91 = .ok (.iload_n 3, 1) := by decide +kernel
theorem dX9_fit_92 : decode cX9_fit 92 = .ok (.invokevirtual 105, 3) := by decide +kernel
theorem dX9_fit_95 : decode cX9_fit 95 = .ok (.goto 458, 3) := by decide +kernel
theorem dX9_fit_98 : decode cX9_fit 98 = .ok (.aload_n 0, 1) := by decide +kernel
theorem dX9_fit_99 : decode cX9_fit 99 = .ok (.aload_n 0, 1) := by decide +kernel
theorem dX9_fit_100 : decode cX9_fit 100 = .ok (.getfield 15, 3) := by decide +kernel
theorem dX9_fit_103 : decode cX9_fit 103 = .ok (.iload_n 1, 1) := by decide +kernel
theorem dX9_fit_104 : decode cX9_fit 104 = .ok (.iaload, 1) := by decide +kernel
theorem dX9_fit_105 : decode cX9_fit 105 = .ok (.iconst 4, 1) := by decide +kernel
theorem dX9_fit_106 : decode cX9_fit 106 = .ok (.if_icmp .eq 13, 3) := by decide +kernel
theorem dX9_fit_109 : decode cX9_fit 109 = .ok (.aload_n 0, 1) := by decide +kernel
theorem dX9_fit_110 : decode cX9_fit 110 = .ok (.getfield 15, 3) := by decide +kernel
theorem dX9_fit_113 : decode cX9_fit 113 = .ok (.iload_n 1, 1) := by decide +kernel
theorem dX9_fit_114 : decode cX9_fit 114 = .ok (.iaload, 1) := by decide +kernel
theorem dX9_fit_115 : decode cX9_fit 115 = .ok (.iconst 5, 1) := by decide +kernel
theorem dX9_fit_116 : decode cX9_fit 116 = .ok (.if_icmp .ne 7, 3) := by decide +kernel
theorem dX9_fit_119 : decode cX9_fit 119 = .ok (.iconst 1, 1) := by decide +kernel
theorem dX9_fit_120 : decode cX9_fit 120 = .ok (.goto 4, 3) := by decide +kernel
theorem dX9_fit_123 : decode cX9_fit 123 = .ok (.iconst 0, 1) := by decide +kernel
theorem dX9_fit_124 : decode cX9_fit 124 = .ok (.bipush 12, 2) := by decide +kernel
theorem dX9_fit_126 : decode cX9_fit 126 = .ok (.iload_n 3, 1) := by decide +kernel
theorem dX9_fit_127 : decode cX9_fit 127 = .ok (.invokevirtual 105, 3) := by decide +kernel
theorem dX9_fit_130 : decode cX9_fit 130 = .ok (.goto 423, 3) := by decide +kernel
theorem dX9_fit_133 : decode cX9_fit 133 = .ok (.aload_n 0, 1) := by decide +kernel
theorem dX9_fit_134 : decode cX9_fit 134 = .ok (.aload_n 0, 1) := by decide +kernel
theorem dX9_fit_135 : decode cX9_fit 135 = .ok (.getfield 15, 3) := by decide +kernel
theorem dX9_fit_138 : decode cX9_fit 138 = .ok (.iload_n 1, 1) := by decide +kernel
theorem dX9_fit_139 : decode cX9_fit 139 = .ok (.iaload, 1) := by decide +kernel
theorem dX9_fit_140 : decode cX9_fit 140 = .ok (.iconst 3, 1) := by decide +kernel
theorem dX9_fit_141 : decode cX9_fit 141 = .ok (.if_icmp .ne 25, 3) := by decide +kernel
theorem dX9_fit_144 : decode cX9_fit 144 = .ok (.aload_n 0, 1) := by decide +kernel
theorem dX9_fit_145 : decode cX9_fit 145 = .ok (.getfield 22, 3) := by decide +kernel
theorem dX9_fit_148 : decode cX9_fit 148 = .ok (.iload_n 1, 1) := by decide +kernel
theorem dX9_fit_149 : decode cX9_fit 149 = .ok (.laload, 1) := by decide +kernel
theorem dX9_fit_150 : decode cX9_fit 150 = .ok (.aload_n 0, 1) := by decide +kernel
theorem dX9_fit_151 : decode cX9_fit 151 = .ok (.getfield 22, 3) := by decide +kernel
theorem dX9_fit_154 : decode cX9_fit 154 = .ok (.iload_n 1, 1) := by decide +kernel
theorem dX9_fit_155 : decode cX9_fit 155 = .ok (.laload, 1) := by decide +kernel
theorem dX9_fit_156 : decode cX9_fit 156 = .ok (.l2i, 1) := by decide +kernel
theorem dX9_fit_157 : decode cX9_fit 157 = .ok (.i2l, 1) := by decide +kernel
theorem dX9_fit_158 : decode cX9_fit 158 = .ok (.lcmp, 1) := by decide +kernel
theorem dX9_fit_159 : decode cX9_fit 159 = .ok (.ifCond .ne 7, 3) := by decide +kernel
theorem dX9_fit_162 : decode cX9_fit 162 = .ok (.iconst 1, 1) := by decide +kernel
theorem dX9_fit_163 : decode cX9_fit 163 = .ok (.goto 4, 3) := by decide +kernel
theorem dX9_fit_166 : decode cX9_fit 166 = .ok (.iconst 0, 1) := by decide +kernel
theorem dX9_fit_167 : decode cX9_fit 167 = .ok (.bipush 12, 2) := by decide +kernel
theorem dX9_fit_169 : decode cX9_fit 169 = .ok (.iload_n 3, 1) := by decide +kernel
theorem dX9_fit_170 : decode cX9_fit 170 = .ok (.invokevirtual 105, 3) := by decide +kernel
theorem dX9_fit_173 : decode cX9_fit 173 = .ok (.goto 380, 3) := by decide +kernel
theorem dX9_fit_176 : decode cX9_fit 176 = .ok (.aload_n 0, 1) := by decide +kernel
theorem dX9_fit_177 : decode cX9_fit 177 = .ok (.aload_n 0, 1) := by decide +kernel
theorem dX9_fit_178 : decode cX9_fit 178 = .ok (.getfield 15, 3) := by decide +kernel
theorem dX9_fit_181 : decode cX9_fit 181 = .ok (.iload_n 1, 1) := by decide +kernel
theorem dX9_fit_182 : decode cX9_fit 182 = .ok (.iaload, 1) := by decide +kernel
theorem dX9_fit_183 : decode cX9_fit 183 = .ok (.iconst 3, 1) := by decide +kernel
theorem dX9_fit_184 : decode cX9_fit 184 = .ok (.if_icmp .ne 7, 3) := by decide +kernel
theorem dX9_fit_187 : decode cX9_fit 187 = .ok (.iconst 1, 1) := by decide +kernel
theorem dX9_fit_188 : decode cX9_fit 188 = .ok (.goto 4, 3) := by decide +kernel
theorem dX9_fit_191 : decode cX9_fit 191 = .ok (.iconst 0, 1) := by decide +kernel
theorem dX9_fit_192 : decode cX9_fit 192 = .ok (.bipush 12, 2) := by decide +kernel
theorem dX9_fit_194 : decode cX9_fit 194 = .ok (.iload_n 3, 1) := by decide +kernel
theorem dX9_fit_195 : decode cX9_fit 195 = .ok (.invokevirtual 105, 3) := by decide +kernel
theorem dX9_fit_198 : decode cX9_fit 198 = .ok (.goto 355, 3) := by decide +kernel
theorem dX9_fit_201 : decode cX9_fit 201 = .ok (.aload_n 0, 1) := by decide +kernel
theorem dX9_fit_202 : decode cX9_fit 202 = .ok (.aload_n 0, 1) := by decide +kernel
theorem dX9_fit_203 : decode cX9_fit 203 = .ok (.getfield 15, 3) := by decide +kernel
theorem dX9_fit_206 : decode cX9_fit 206 = .ok (.iload_n 1, 1) := by decide +kernel
theorem dX9_fit_207 : decode cX9_fit 207 = .ok (.iaload, 1) := by decide +kernel
theorem dX9_fit_208 : decode cX9_fit 208 = .ok (.iconst 2, 1) := by decide +kernel
theorem dX9_fit_209 : decode cX9_fit 209 = .ok (.if_icmp .ne 7, 3) := by decide +kernel
theorem dX9_fit_212 : decode cX9_fit 212 = .ok (.iconst 1, 1) := by decide +kernel
theorem dX9_fit_213 : decode cX9_fit 213 = .ok (.goto 4, 3) := by decide +kernel
theorem dX9_fit_216 : decode cX9_fit 216 = .ok (.iconst 0, 1) := by decide +kernel
theorem dX9_fit_217 : decode cX9_fit 217 = .ok (.bipush 12, 2) := by decide +kernel
theorem dX9_fit_219 : decode cX9_fit 219 = .ok (.iload_n 3, 1) := by decide +kernel
theorem dX9_fit_220 : decode cX9_fit 220 = .ok (.invokevirtual 105, 3) := by decide +kernel
theorem dX9_fit_223 : decode cX9_fit 223 = .ok (.goto 330, 3) := by decide +kernel
theorem dX9_fit_226 : decode cX9_fit 226 = .ok (.aload_n 0, 1) := by decide +kernel
theorem dX9_fit_227 : decode cX9_fit 227 = .ok (.aload_n 0, 1) := by decide +kernel
theorem dX9_fit_228 : decode cX9_fit 228 = .ok (.getfield 15, 3) := by decide +kernel
theorem dX9_fit_231 : decode cX9_fit 231 = .ok (.iload_n 1, 1) := by decide +kernel
theorem dX9_fit_232 : decode cX9_fit 232 = .ok (.iaload, 1) := by decide +kernel
theorem dX9_fit_233 : decode cX9_fit 233 = .ok (.iconst 2, 1) := by decide +kernel
theorem dX9_fit_234 : decode cX9_fit 234 = .ok (.if_icmp .ne 22, 3) := by decide +kernel
theorem dX9_fit_237 : decode cX9_fit 237 = .ok (.aload_n 0, 1) := by decide +kernel
theorem dX9_fit_238 : decode cX9_fit 238 = .ok (.getfield 26, 3) := by decide +kernel
theorem dX9_fit_241 : decode cX9_fit 241 = .ok (.iload_n 1, 1) := by decide +kernel
theorem dX9_fit_242 : decode cX9_fit 242 = .ok (.iaload, 1) := by decide +kernel
theorem dX9_fit_243 : decode cX9_fit 243 = .ok (.aload_n 0, 1) := by decide +kernel
theorem dX9_fit_244 : decode cX9_fit 244 = .ok (.getfield 44, 3) := by decide +kernel
theorem dX9_fit_247 : decode cX9_fit 247 = .ok (.iload_n 2, 1) := by decide +kernel
theorem dX9_fit_248 : decode cX9_fit 248 = .ok (.iaload, 1) := by decide +kernel
theorem dX9_fit_249 : decode cX9_fit 249 = .ok (.if_icmp .ne 7, 3) := by decide +kernel
theorem dX9_fit_252 : decode cX9_fit 252 = .ok (.iconst 1, 1) := by decide +kernel
theorem dX9_fit_253 : decode cX9_fit 253 = .ok (.goto 4, 3) := by decide +kernel
theorem dX9_fit_256 : decode cX9_fit 256 = .ok (.iconst 0, 1) := by decide +kernel
theorem dX9_fit_257 : decode cX9_fit 257 = .ok (.bipush 12, 2) := by decide +kernel
theorem dX9_fit_259 : decode cX9_fit 259 = .ok (.iload_n 3, 1) := by decide +kernel
theorem dX9_fit_260 : decode cX9_fit 260 = .ok (.invokevirtual 105, 3) := by decide +kernel
theorem dX9_fit_263 : decode cX9_fit 263 = .ok (.goto 290, 3) := by decide +kernel
theorem dX9_fit_266 : decode cX9_fit 266 = .ok (.aload_n 0, 1) := by decide +kernel
theorem dX9_fit_267 : decode cX9_fit 267 = .ok (.aload_n 0, 1) := by decide +kernel
theorem dX9_fit_268 : decode cX9_fit 268 = .ok (.getfield 15, 3) := by decide +kernel
theorem dX9_fit_271 : decode cX9_fit 271 = .ok (.iload_n 1, 1) := by decide +kernel
theorem dX9_fit_272 : decode cX9_fit 272 = .ok (.iaload, 1) := by decide +kernel
theorem dX9_fit_273 : decode cX9_fit 273 = .ok (.iconst 2, 1) := by decide +kernel
theorem dX9_fit_274 : decode cX9_fit 274 = .ok (.if_icmp .ne 17, 3) := by decide +kernel
theorem dX9_fit_277 : decode cX9_fit 277 = .ok (.aload_n 0, 1) := by decide +kernel
theorem dX9_fit_278 : decode cX9_fit 278 = .ok (.iload_n 2, 1) := by decide +kernel
theorem dX9_fit_279 : decode cX9_fit 279 = .ok (.aload_n 0, 1) := by decide +kernel
theorem dX9_fit_280 : decode cX9_fit 280 = .ok (.iload_n 1, 1) := by decide +kernel
theorem dX9_fit_281 : decode cX9_fit 281 = .ok (.invokevirtual 266, 3) := by decide +kernel
theorem dX9_fit_284 : decode cX9_fit 284 = .ok (.ifCond .lt 7, 3) := by decide +kernel
theorem dX9_fit_287 : decode cX9_fit 287 = .ok (.iconst 1, 1) := by decide +kernel
theorem dX9_fit_288 : decode cX9_fit 288 = .ok (.goto 4, 3) := by decide +kernel
theorem dX9_fit_291 : decode cX9_fit 291 = .ok (.iconst 0, 1) := by decide +kernel
theorem dX9_fit_292 : decode cX9_fit 292 = .ok (.bipush 12, 2) := by decide +kernel
theorem dX9_fit_294 : decode cX9_fit 294 = .ok (.iload_n 3, 1) := by decide +kernel
theorem dX9_fit_295 : decode cX9_fit 295 = .ok (.invokevirtual 105, 3) := by decide +kernel
theorem dX9_fit_298 : decode cX9_fit 298 = .ok (.goto 255, 3) := by decide +kernel
theorem dX9_fit_301 : decode cX9_fit 301 = .ok (.aload_n 0, 1) := by decide +kernel
theorem dX9_fit_302 : decode cX9_fit 302 = .ok (.iload_n 1, 1) := by decide +kernel
theorem dX9_fit_303 : decode cX9_fit 303 = .ok (.aload_n 0, 1) := by decide +kernel
theorem dX9_fit_304 : decode cX9_fit 304 = .ok (.getfield 56, 3) := by decide +kernel
theorem dX9_fit_307 : decode cX9_fit 307 = .ok (.aload_n 0, 1) := by decide +kernel
theorem dX9_fit_308 : decode cX9_fit 308 = .ok (.getfield 47, 3) := by decide +kernel
theorem dX9_fit_311 : decode cX9_fit 311 = .ok (.iload_n 2, 1) := by decide +kernel
theorem dX9_fit_312 : decode cX9_fit 312 = .ok (.iaload, 1) := by decide +kernel
theorem dX9_fit_313 : decode cX9_fit 313 = .ok (.iaload, 1) := by decide +kernel
theorem dX9_fit_314 : decode cX9_fit 314 = .ok (.invokevirtual 274, 3) := by decide +kernel
theorem dX9_fit_317 : decode cX9_fit 317 = .ok (.goto 236, 3) := by decide +kernel
theorem dX9_fit_320 : decode cX9_fit 320 = .ok (.aload_n 0, 1) := by decide +kernel
theorem dX9_fit_321 : decode cX9_fit 321 = .ok (.aload_n 0, 1) := by decide +kernel
theorem dX9_fit_322 : decode cX9_fit 322 = .ok (.getfield 15, 3) := by decide +kernel
theorem dX9_fit_325 : decode cX9_fit 325 = .ok (.iload_n 1, 1) := by decide +kernel
theorem dX9_fit_326 : decode cX9_fit 326 = .ok (.iaload, 1) := by decide +kernel
theorem dX9_fit_327 : decode cX9_fit 327 = .ok (.iconst 1, 1) := by decide +kernel
theorem dX9_fit_328 : decode cX9_fit 328 = .ok (.if_icmp .ne 7, 3) := by decide +kernel
theorem dX9_fit_331 : decode cX9_fit 331 = .ok (.iconst 1, 1) := by decide +kernel
theorem dX9_fit_332 : decode cX9_fit 332 = .ok (.goto 4, 3) := by decide +kernel
theorem dX9_fit_335 : decode cX9_fit 335 = .ok (.iconst 0, 1) := by decide +kernel
theorem dX9_fit_336 : decode cX9_fit 336 = .ok (.bipush 12, 2) := by decide +kernel
theorem dX9_fit_338 : decode cX9_fit 338 = .ok (.iload_n 3, 1) := by decide +kernel
theorem dX9_fit_339 : decode cX9_fit 339 = .ok (.invokevirtual 105, 3) := by decide +kernel
theorem dX9_fit_342 : decode cX9_fit 342 = .ok (.aload_n 0, 1) := by decide +kernel
theorem dX9_fit_343 : decode cX9_fit 343 = .ok (.getfield 29, 3) := by decide +kernel
theorem dX9_fit_346 : decode cX9_fit 346 = .ok (.iload_n 1, 1) := by decide +kernel
theorem dX9_fit_347 : decode cX9_fit 347 = .ok (.iaload, 1) := by decide +kernel
theorem dX9_fit_348 : decode cX9_fit 348 = .ok (.istore 4, 2) := by decide +kernel
theorem dX9_fit_350 : decode cX9_fit 350 = .ok (.iload 4, 2) := by decide +kernel
theorem dX9_fit_352 : decode cX9_fit 352 = .ok (.ifCond .lt 32, 3) := by decide +kernel
theorem dX9_fit_355 : decode cX9_fit 355 = .ok (.aload_n 0, 1) := by decide +kernel
theorem dX9_fit_356 : decode cX9_fit 356 = .ok (.iload 4, 2) := by decide +kernel
theorem dX9_fit_358 : decode cX9_fit 358 = .ok (.aload_n 0, 1) := by decide +kernel
theorem dX9_fit_359 : decode cX9_fit 359 = .ok (.getfield 56, 3) := by decide +kernel
theorem dX9_fit_362 : decode cX9_fit 362 = .ok (.aload_n 0, 1) := by decide +kernel
theorem dX9_fit_363 : decode cX9_fit 363 = .ok (.getfield 47, 3) := by decide +kernel
theorem dX9_fit_366 : decode cX9_fit 366 = .ok (.iload_n 2, 1) := by decide +kernel
theorem dX9_fit_367 : decode cX9_fit 367 = .ok (.iaload, 1) := by decide +kernel
theorem dX9_fit_368 : decode cX9_fit 368 = .ok (.iaload, 1) := by decide +kernel
theorem dX9_fit_369 : decode cX9_fit 369 = .ok (.invokevirtual 274, 3) := by decide +kernel
theorem dX9_fit_372 : decode cX9_fit 372 = .ok (.aload_n 0, 1) := by decide +kernel
theorem dX9_fit_373 : decode cX9_fit 373 = .ok (.getfield 32, 3) := by decide +kernel
theorem dX9_fit_376 : decode cX9_fit 376 = .ok (.iload 4, 2) := by decide +kernel
theorem dX9_fit_378 : decode cX9_fit 378 = .ok (.iaload, 1) := by decide +kernel
theorem dX9_fit_379 : decode cX9_fit 379 = .ok (.istore 4, 2) := by decide +kernel
theorem dX9_fit_381 : decode cX9_fit 381 = .ok (.goto (-31), 3) := by decide +kernel
theorem dX9_fit_384 : decode cX9_fit 384 = .ok (.goto 169, 3) := by decide +kernel
theorem dX9_fit_387 : decode cX9_fit 387 = .ok (.aload_n 0, 1) := by decide +kernel
theorem dX9_fit_388 : decode cX9_fit 388 = .ok (.aload_n 0, 1) := by decide +kernel
theorem dX9_fit_389 : decode cX9_fit 389 = .ok (.getfield 15, 3) := by decide +kernel
theorem dX9_fit_392 : decode cX9_fit 392 = .ok (.iload_n 1, 1) := by decide +kernel
theorem dX9_fit_393 : decode cX9_fit 393 = .ok (.iaload, 1) := by decide +kernel
theorem dX9_fit_394 : decode cX9_fit 394 = .ok (.ifCond .ne 7, 3) := by decide +kernel
theorem dX9_fit_397 : decode cX9_fit 397 = .ok (.iconst 1, 1) := by decide +kernel
theorem dX9_fit_398 : decode cX9_fit 398 = .ok (.goto 4, 3) := by decide +kernel
theorem dX9_fit_401 : decode cX9_fit 401 = .ok (.iconst 0, 1) := by decide +kernel
theorem dX9_fit_402 : decode cX9_fit 402 = .ok (.bipush 12, 2) := by decide +kernel
theorem dX9_fit_404 : decode cX9_fit 404 = .ok (.iload_n 3, 1) := by decide +kernel
theorem dX9_fit_405 : decode cX9_fit 405 = .ok (.invokevirtual 105, 3) := by decide +kernel
theorem dX9_fit_408 : decode cX9_fit 408 = .ok (.aload_n 0, 1) := by decide +kernel
theorem dX9_fit_409 : decode cX9_fit 409 = .ok (.getfield 29, 3) := by decide +kernel
theorem dX9_fit_412 : decode cX9_fit 412 = .ok (.iload_n 1, 1) := by decide +kernel
theorem dX9_fit_413 : decode cX9_fit 413 = .ok (.iaload, 1) := by decide +kernel
theorem dX9_fit_414 : decode cX9_fit 414 = .ok (.istore 4, 2) := by decide +kernel
theorem dX9_fit_416 : decode cX9_fit 416 = .ok (.iload 4, 2) := by decide +kernel
theorem dX9_fit_418 : decode cX9_fit 418 = .ok (.ifCond .lt 42, 3) := by decide +kernel
theorem dX9_fit_421 : decode cX9_fit 421 = .ok (.aload_n 0, 1) := by decide +kernel
theorem dX9_fit_422 : decode cX9_fit 422 = .ok (.aload_n 0, 1) := by decide +kernel
theorem dX9_fit_423 : decode cX9_fit 423 = .ok (.getfield 32, 3) := by decide +kernel
theorem dX9_fit_426 : decode cX9_fit 426 = .ok (.iload 4, 2) := by decide +kernel
theorem dX9_fit_428 : decode cX9_fit 428 = .ok (.iaload, 1) := by decide +kernel
theorem dX9_fit_429 : decode cX9_fit 429 = .ok (.aload_n 0, 1) := by decide +kernel
theorem dX9_fit_430 : decode cX9_fit 430 = .ok (.getfield 56, 3) := by decide +kernel
theorem dX9_fit_433 : decode cX9_fit 433 = .ok (.aload_n 0, 1) := by decide +kernel
theorem dX9_fit_434 : decode cX9_fit 434 = .ok (.getfield 47, 3) := by decide +kernel
theorem dX9_fit_437 : decode cX9_fit 437 = .ok (.iload_n 2, 1) := by decide +kernel
theorem dX9_fit_438 : decode cX9_fit 438 = .ok (.iaload, 1) := by decide +kernel
theorem dX9_fit_439 : decode cX9_fit 439 = .ok (.iaload, 1) := by decide +kernel
theorem dX9_fit_440 : decode cX9_fit 440 = .ok (.invokevirtual 274, 3) := by decide +kernel
theorem dX9_fit_443 : decode cX9_fit 443 = .ok (.aload_n 0, 1) := by decide +kernel
theorem dX9_fit_444 : decode cX9_fit 444 = .ok (.getfield 32, 3) := by decide +kernel
theorem dX9_fit_447 : decode cX9_fit 447 = .ok (.aload_n 0, 1) := by decide +kernel
theorem dX9_fit_448 : decode cX9_fit 448 = .ok (.getfield 32, 3) := by decide +kernel
theorem dX9_fit_451 : decode cX9_fit 451 = .ok (.iload 4, 2) := by decide +kernel
theorem dX9_fit_453 : decode cX9_fit 453 = .ok (.iaload, 1) := by decide +kernel
theorem dX9_fit_454 : decode cX9_fit 454 = .ok (.iaload, 1) := by decide +kernel
theorem dX9_fit_455 : decode cX9_fit 455 = .ok (.istore 4, 2) := by decide +kernel
theorem dX9_fit_457 : decode cX9_fit 457 = .ok (.goto (-41), 3) := by decide +kernel
theorem dX9_fit_460 : decode cX9_fit 460 = .ok (.goto 93, 3) := by decide +kernel
theorem dX9_fit_463 : decode cX9_fit 463 = .ok (.aload_n 0, 1) := by decide +kernel
theorem dX9_fit_464 : decode cX9_fit 464 = .ok (.aload_n 0, 1) := by decide +kernel
theorem dX9_fit_465 : decode cX9_fit 465 = .ok (.getfield 15, 3) := by decide +kernel
theorem dX9_fit_468 : decode cX9_fit 468 = .ok (.iload_n 1, 1) := by decide +kernel
theorem dX9_fit_469 : decode cX9_fit 469 = .ok (.iaload, 1) := by decide +kernel
theorem dX9_fit_470 : decode cX9_fit 470 = .ok (.ifCond .ne 7, 3) := by decide +kernel
theorem dX9_fit_473 : decode cX9_fit 473 = .ok (.iconst 1, 1) := by decide +kernel
theorem dX9_fit_474 : decode cX9_fit 474 = .ok (.goto 4, 3) := by decide +kernel
theorem dX9_fit_477 : decode cX9_fit 477 = .ok (.iconst 0, 1) := by decide +kernel
theorem dX9_fit_478 : decode cX9_fit 478 = .ok (.bipush 12, 2) := by decide +kernel
theorem dX9_fit_480 : decode cX9_fit 480 = .ok (.iload_n 3, 1) := by decide +kernel
theorem dX9_fit_481 : decode cX9_fit 481 = .ok (.invokevirtual 105, 3) := by decide +kernel
theorem dX9_fit_484 : decode cX9_fit 484 = .ok (.aload_n 0, 1) := by decide +kernel
theorem dX9_fit_485 : decode cX9_fit 485 = .ok (.getfield 47, 3) := by decide +kernel
theorem dX9_fit_488 : decode cX9_fit 488 = .ok (.iload_n 2, 1) := by decide +kernel
theorem dX9_fit_489 : decode cX9_fit 489 = .ok (.iaload, 1) := by decide +kernel
theorem dX9_fit_490 : decode cX9_fit 490 = .ok (.istore 4, 2) := by decide +kernel
theorem dX9_fit_492 : decode cX9_fit 492 = .ok (.iload 4, 2) := by decide +kernel
theorem dX9_fit_494 : decode cX9_fit 494 = .ok (.ifCond .lt 59, 3) := by decide +kernel
theorem dX9_fit_497 : decode cX9_fit 497 = .ok (.aload_n 0, 1) := by decide +kernel
theorem dX9_fit_498 : decode cX9_fit 498 = .ok (.iload_n 1, 1) := by decide +kernel
theorem dX9_fit_499 : decode cX9_fit 499 = .ok (.aload_n 0, 1) := by decide +kernel
theorem dX9_fit_500 : decode cX9_fit 500 = .ok (.getfield 59, 3) := by decide +kernel
theorem dX9_fit_503 : decode cX9_fit 503 = .ok (.iload 4, 2) := by decide +kernel
theorem dX9_fit_505 : decode cX9_fit 505 = .ok (.iaload, 1) := by decide +kernel
theorem dX9_fit_506 : decode cX9_fit 506 = .ok (.invokevirtual 277, 3) := by decide +kernel
theorem dX9_fit_509 : decode cX9_fit 509 = .ok (.istore 5, 2) := by decide +kernel
theorem dX9_fit_511 : decode cX9_fit 511 = .ok (.aload_n 0, 1) := by decide +kernel
theorem dX9_fit_512 : decode cX9_fit 512 = .ok (.iload 5, 2) := by decide +kernel
theorem dX9_fit_514 : decode cX9_fit 514 = .ok (.ifCond .lt 7, 3) := by decide +kernel
theorem dX9_fit_517 : decode cX9_fit 517 = .ok (.iconst 1, 1) := by decide +kernel
theorem dX9_fit_518 : decode cX9_fit 518 = .ok (.goto 4, 3) := by decide +kernel
theorem dX9_fit_521 : decode cX9_fit 521 = .ok (.iconst 0, 1) := by decide +kernel
theorem dX9_fit_522 : decode cX9_fit 522 = .ok (.bipush 12, 2) := by decide +kernel
theorem dX9_fit_524 : decode cX9_fit 524 = .ok (.iload_n 3, 1) := by decide +kernel
theorem dX9_fit_525 : decode cX9_fit 525 = .ok (.invokevirtual 105, 3) := by decide +kernel
theorem dX9_fit_528 : decode cX9_fit 528 = .ok (.aload_n 0, 1) := by decide +kernel
theorem dX9_fit_529 : decode cX9_fit 529 = .ok (.iload 5, 2) := by decide +kernel
theorem dX9_fit_531 : decode cX9_fit 531 = .ok (.aload_n 0, 1) := by decide +kernel
theorem dX9_fit_532 : decode cX9_fit 532 = .ok (.getfield 56, 3) := by decide +kernel
theorem dX9_fit_535 : decode cX9_fit 535 = .ok (.iload 4, 2) := by decide +kernel
theorem dX9_fit_537 : decode cX9_fit 537 = .ok (.iaload, 1) := by decide +kernel
theorem dX9_fit_538 : decode cX9_fit 538 = .ok (.invokevirtual 274, 3) := by decide +kernel
theorem dX9_fit_541 : decode cX9_fit 541 = .ok (.aload_n 0, 1) := by decide +kernel
theorem dX9_fit_542 : decode cX9_fit 542 = .ok (.getfield 65, 3) := by decide +kernel
theorem dX9_fit_545 : decode cX9_fit 545 = .ok (.iload 4, 2) := by decide +kernel
theorem dX9_fit_547 : decode cX9_fit 547 = .ok (.iaload, 1) := by decide +kernel
theorem dX9_fit_548 : decode cX9_fit 548 = .ok (.istore 4, 2) := by decide +kernel
theorem dX9_fit_550 : decode cX9_fit 550 = .ok (.goto (-58), 3) := by decide +kernel
theorem dX9_fit_553 : decode cX9_fit 553 = .ok (.return_, 1) := by decide +kernel
def rmX9_fit (d : Nat) (mc ms : Nat) : Room := { frames := 1 * d + 10, cells := mc, slots := ms, locals := 25 * d + 165 }
theorem g9_274 (c0 : Cond) : GoodIn (c0 :: sr_G) (wsV RX9 274 RX9 yX9_fit wsX9_fit) := sr_V c0 (sr_ins (by decide +kernel))
theorem g9_277 (c0 : Cond) : GoodIn (c0 :: sr_G) (wsV RX9 277 RX9 yX9_memberLike wsX9_memberLike) := sr_V c0 (sr_ins (by decide +kernel))
