-- the law: what its bytes say, its calls
theorem pcW_c {Z : (Nat → Prop) → State → Heap → Prop} {D : va_G} {cl : List vw_C} {tys : List (ClassId × FieldType)} {s : State} {H : Heap} {locs : List Loc} {wc T : va_W} (hZ : okZ Z) {A : Nat → Prop} (hS : va_S A s.heap H locs) (hA : ∀ q, s.heap.size ≤ q → A q) (hP : va_P D cl (wc ++ T) H) (hD : va_D A (wc ++ T)) (hK : va_K D cl tys s) (hz : Z A s s.heap) {av : List Value} :
    ∀ U : State, U.heap = H → s.WarmedH U.vm → pcW Z D cl tys av wc H.size av.toArray U := fun U hU hW =>
  ⟨rfl, by rw [hU], by rw [hU]; exact sr_Pl hP, va_K.moved hW.alike hK, sr_Dm (fun _ _ => trivial) (sr_Dl hD), by
    rw [hU]
    exact hZ.1 _ s U _ hW (hZ.2.2.1 A _ s H (sr_free hD hS hA) (hZ.2.1 A s s.heap H hS.2.1 hz))⟩
theorem dL_0 : decode code 0 = .ok (.new 8, 3) := by decide +kernel
theorem dL_3 : decode code 3 = .ok (.dup, 1) := by decide +kernel
theorem dL_4 : decode code 4 = .ok (.invokespecial 37, 3) := by decide +kernel
theorem dL_7 : decode code 7 = .ok (.astore_n 1, 1) := by decide +kernel
theorem dL_8 : decode code 8 = .ok (.new 38, 3) := by decide +kernel
theorem dL_11 : decode code 11 = .ok (.dup, 1) := by decide +kernel
theorem dL_12 : decode code 12 = .ok (.invokespecial 40, 3) := by decide +kernel
theorem dL_15 : decode code 15 = .ok (.astore_n 2, 1) := by decide +kernel
theorem dL_16 : decode code 16 = .ok (.iconst 1, 1) := by decide +kernel
theorem dL_17 : decode code 17 = .ok (.newarray .long, 2) := by decide +kernel
theorem dL_19 : decode code 19 = .ok (.astore_n 3, 1) := by decide +kernel
theorem dL_20 : decode code 20 = .ok (.iconst 0, 1) := by decide +kernel
theorem dL_21 : decode code 21 = .ok (.istore 4, 2) := by decide +kernel
theorem dL_23 : decode code 23 = .ok (.iload 4, 2) := by decide +kernel
theorem dL_25 : decode code 25 = .ok (.aload_n 0, 1) := by decide +kernel
theorem dL_26 : decode code 26 = .ok (.arraylength, 1) := by decide +kernel
theorem dL_27 : decode code 27 = .ok (.bipush 6, 2) := by decide +kernel
theorem dL_29 : decode code 29 = .ok (.isub, 1) := by decide +kernel
theorem dL_30 : decode code 30 = .ok (.if_icmp .gt 396, 3) := by decide +kernel
theorem dL_33 : decode code 33 = .ok (.aload_n 0, 1) := by decide +kernel
theorem dL_34 : decode code 34 = .ok (.iload 4, 2) := by decide +kernel
theorem dL_36 : decode code 36 = .ok (.iaload, 1) := by decide +kernel
theorem dL_37 : decode code 37 = .ok (.bipush 15, 2) := by decide +kernel
theorem dL_39 : decode code 39 = .ok (.iand, 1) := by decide +kernel
theorem dL_40 : decode code 40 = .ok (.tableswitch 380 0 9 #[56, 132, 157, 170, 183, 196, 224, 237, 265, 305], 56) := by decide +kernel
theorem dL_96 : decode code 96 = .ok (.aload_n 1, 1) := by decide +kernel
theorem dL_97 : decode code 97 = .ok (.aload_n 0, 1) := by decide +kernel
theorem dL_98 : decode code 98 = .ok (.iload 4, 2) := by decide +kernel
theorem dL_100 : decode code 100 = .ok (.iconst 1, 1) := by decide +kernel
theorem dL_101 : decode code 101 = .ok (.iadd, 1) := by decide +kernel
theorem dL_102 : decode code 102 = .ok (.iaload, 1) := by decide +kernel
theorem dL_103 : decode code 103 = .ok (.aload_n 0, 1) := by decide +kernel
theorem dL_104 : decode code 104 = .ok (.iload 4, 2) := by decide +kernel
theorem dL_106 : decode code 106 = .ok (.iconst 2, 1) := by decide +kernel
theorem dL_107 : decode code 107 = .ok (.iadd, 1) := by decide +kernel
theorem dL_108 : decode code 108 = .ok (.iaload, 1) := by decide +kernel
theorem dL_109 : decode code 109 = .ok (.aload_n 0, 1) := by decide +kernel
theorem dL_110 : decode code 110 = .ok (.iload 4, 2) := by decide +kernel
theorem dL_112 : decode code 112 = .ok (.iconst 3, 1) := by decide +kernel
theorem dL_113 : decode code 113 = .ok (.iadd, 1) := by decide +kernel
theorem dL_114 : decode code 114 = .ok (.iaload, 1) := by decide +kernel
theorem dL_115 : decode code 115 = .ok (.aload_n 0, 1) := by decide +kernel
theorem dL_116 : decode code 116 = .ok (.iload 4, 2) := by decide +kernel
theorem dL_118 : decode code 118 = .ok (.iconst 4, 1) := by decide +kernel
theorem dL_119 : decode code 119 = .ok (.iadd, 1) := by decide +kernel
theorem dL_120 : decode code 120 = .ok (.iaload, 1) := by decide +kernel
theorem dL_121 : decode code 121 = .ok (.aload_n 0, 1) := by decide +kernel
theorem dL_122 : decode code 122 = .ok (.iload 4, 2) := by decide +kernel
theorem dL_124 : decode code 124 = .ok (.iconst 5, 1) := by decide +kernel
theorem dL_125 : decode code 125 = .ok (.iadd, 1) := by decide +kernel
theorem dL_126 : decode code 126 = .ok (.iaload, 1) := by decide +kernel
theorem dL_127 : decode code 127 = .ok (.aload_n 3, 1) := by decide +kernel
theorem dL_128 : decode code 128 = .ok (.invokestatic 41, 3) := by decide +kernel
theorem dL_131 : decode code 131 = .ok (.istore 5, 2) := by decide +kernel
theorem dL_133 : decode code 133 = .ok (.aload_n 2, 1) := by decide +kernel
theorem dL_134 : decode code 134 = .ok (.aload_n 0, 1) := by decide +kernel
theorem dL_135 : decode code 135 = .ok (.iload 4, 2) := by decide +kernel
theorem dL_137 : decode code 137 = .ok (.iconst 1, 1) := by decide +kernel
theorem dL_138 : decode code 138 = .ok (.iadd, 1) := by decide +kernel
theorem dL_139 : decode code 139 = .ok (.iaload, 1) := by decide +kernel
theorem dL_140 : decode code 140 = .ok (.aload_n 0, 1) := by decide +kernel
theorem dL_141 : decode code 141 = .ok (.iload 4, 2) := by decide +kernel
theorem dL_143 : decode code 143 = .ok (.iconst 2, 1) := by decide +kernel
theorem dL_144 : decode code 144 = .ok (.iadd, 1) := by decide +kernel
theorem dL_145 : decode code 145 = .ok (.iaload, 1) := by decide +kernel
theorem dL_146 : decode code 146 = .ok (.aload_n 0, 1) := by decide +kernel
theorem dL_147 : decode code 147 = .ok (.iload 4, 2) := by decide +kernel
theorem dL_149 : decode code 149 = .ok (.iconst 3, 1) := by decide +kernel
theorem dL_150 : decode code 150 = .ok (.iadd, 1) := by decide +kernel
theorem dL_151 : decode code 151 = .ok (.iaload, 1) := by decide +kernel
theorem dL_152 : decode code 152 = .ok (.aload_n 0, 1) := by decide +kernel
theorem dL_153 : decode code 153 = .ok (.iload 4, 2) := by decide +kernel
theorem dL_155 : decode code 155 = .ok (.iconst 4, 1) := by decide +kernel
theorem dL_156 : decode code 156 = .ok (.iadd, 1) := by decide +kernel
theorem dL_157 : decode code 157 = .ok (.iaload, 1) := by decide +kernel
theorem dL_158 : decode code 158 = .ok (.aload_n 0, 1) := by decide +kernel
theorem dL_159 : decode code 159 = .ok (.iload 4, 2) := by decide +kernel
theorem dL_161 : decode code 161 = .ok (.iconst 5, 1) := by decide +kernel
theorem dL_162 : decode code 162 = .ok (.iadd, 1) := by decide +kernel
theorem dL_163 : decode code 163 = .ok (.iaload, 1) := by decide +kernel
theorem dL_164 : decode code 164 = .ok (.invokevirtual 46, 3) := by decide +kernel
theorem dL_167 : decode code 167 = .ok (.istore 6, 2) := by decide +kernel
theorem dL_169 : decode code 169 = .ok (.goto 251, 3) := by decide +kernel
theorem dL_172 : decode code 172 = .ok (.aload_n 1, 1) := by decide +kernel
theorem dL_173 : decode code 173 = .ok (.aload_n 0, 1) := by decide +kernel
theorem dL_174 : decode code 174 = .ok (.iload 4, 2) := by decide +kernel
theorem dL_176 : decode code 176 = .ok (.iconst 1, 1) := by decide +kernel
theorem dL_177 : decode code 177 = .ok (.iadd, 1) := by decide +kernel
theorem dL_178 : decode code 178 = .ok (.iaload, 1) := by decide +kernel
theorem dL_179 : decode code 179 = .ok (.invokestatic 47, 3) := by decide +kernel
theorem dL_182 : decode code 182 = .ok (.istore 5, 2) := by decide +kernel
theorem dL_184 : decode code 184 = .ok (.aload_n 2, 1) := by decide +kernel
theorem dL_185 : decode code 185 = .ok (.aload_n 0, 1) := by decide +kernel
theorem dL_186 : decode code 186 = .ok (.iload 4, 2) := by decide +kernel
theorem dL_188 : decode code 188 = .ok (.iconst 1, 1) := by decide +kernel
theorem dL_189 : decode code 189 = .ok (.iadd, 1) := by decide +kernel
theorem dL_190 : decode code 190 = .ok (.iaload, 1) := by decide +kernel
theorem dL_191 : decode code 191 = .ok (.invokevirtual 50, 3) := by decide +kernel
theorem dL_194 : decode code 194 = .ok (.goto 226, 3) := by decide +kernel
theorem dL_197 : decode code 197 = .ok (.aload_n 1, 1) := by decide +kernel
theorem dL_198 : decode code 198 = .ok (.invokevirtual 51, 3) := by decide +kernel
theorem dL_201 : decode code 201 = .ok (.pop, 1) := by decide +kernel
theorem dL_202 : decode code 202 = .ok (.aload_n 2, 1) := by decide +kernel
theorem dL_203 : decode code 203 = .ok (.invokevirtual 55, 3) := by decide +kernel
theorem dL_206 : decode code 206 = .ok (.pop, 1) := by decide +kernel
theorem dL_207 : decode code 207 = .ok (.goto 213, 3) := by decide +kernel
theorem dL_210 : decode code 210 = .ok (.aload_n 1, 1) := by decide +kernel
theorem dL_211 : decode code 211 = .ok (.invokevirtual 56, 3) := by decide +kernel
theorem dL_214 : decode code 214 = .ok (.pop, 1) := by decide +kernel
theorem dL_215 : decode code 215 = .ok (.aload_n 2, 1) := by decide +kernel
theorem dL_216 : decode code 216 = .ok (.invokevirtual 59, 3) := by decide +kernel
theorem dL_219 : decode code 219 = .ok (.pop, 1) := by decide +kernel
theorem dL_220 : decode code 220 = .ok (.goto 200, 3) := by decide +kernel
theorem dL_223 : decode code 223 = .ok (.aload_n 1, 1) := by decide +kernel
theorem dL_224 : decode code 224 = .ok (.invokevirtual 60, 3) := by decide +kernel
theorem dL_227 : decode code 227 = .ok (.pop, 1) := by decide +kernel
theorem dL_228 : decode code 228 = .ok (.aload_n 2, 1) := by decide +kernel
theorem dL_229 : decode code 229 = .ok (.invokevirtual 63, 3) := by decide +kernel
theorem dL_232 : decode code 232 = .ok (.pop, 1) := by decide +kernel
theorem dL_233 : decode code 233 = .ok (.goto 187, 3) := by decide +kernel
theorem dL_236 : decode code 236 = .ok (.aload_n 1, 1) := by decide +kernel
theorem dL_237 : decode code 237 = .ok (.aload_n 0, 1) := by decide +kernel
theorem dL_238 : decode code 238 = .ok (.iload 4, 2) := by decide +kernel
theorem dL_240 : decode code 240 = .ok (.iconst 1, 1) := by decide +kernel
theorem dL_241 : decode code 241 = .ok (.iadd, 1) := by decide +kernel
theorem dL_242 : decode code 242 = .ok (.iaload, 1) := by decide +kernel
theorem dL_243 : decode code 243 = .ok (.aload_n 3, 1) := by decide +kernel
theorem dL_244 : decode code 244 = .ok (.invokestatic 64, 3) := by decide +kernel
theorem dL_247 : decode code 247 = .ok (.istore 5, 2) := by decide +kernel
theorem dL_249 : decode code 249 = .ok (.aload_n 2, 1) := by decide +kernel
theorem dL_250 : decode code 250 = .ok (.aload_n 0, 1) := by decide +kernel
theorem dL_251 : decode code 251 = .ok (.iload 4, 2) := by decide +kernel
theorem dL_253 : decode code 253 = .ok (.iconst 1, 1) := by decide +kernel
theorem dL_254 : decode code 254 = .ok (.iadd, 1) := by decide +kernel
theorem dL_255 : decode code 255 = .ok (.iaload, 1) := by decide +kernel
theorem dL_256 : decode code 256 = .ok (.invokevirtual 67, 3) := by decide +kernel
theorem dL_259 : decode code 259 = .ok (.istore 6, 2) := by decide +kernel
theorem dL_261 : decode code 261 = .ok (.goto 159, 3) := by decide +kernel
theorem dL_264 : decode code 264 = .ok (.aload_n 1, 1) := by decide +kernel
theorem dL_265 : decode code 265 = .ok (.invokevirtual 68, 3) := by decide +kernel
theorem dL_268 : decode code 268 = .ok (.pop2, 1) := by decide +kernel
theorem dL_269 : decode code 269 = .ok (.aload_n 2, 1) := by decide +kernel
theorem dL_270 : decode code 270 = .ok (.invokevirtual 72, 3) := by decide +kernel
theorem dL_273 : decode code 273 = .ok (.pop2, 1) := by decide +kernel
theorem dL_274 : decode code 274 = .ok (.goto 146, 3) := by decide +kernel
theorem dL_277 : decode code 277 = .ok (.aload_n 1, 1) := by decide +kernel
theorem dL_278 : decode code 278 = .ok (.aload_n 0, 1) := by decide +kernel
theorem dL_279 : decode code 279 = .ok (.iload 4, 2) := by decide +kernel
theorem dL_281 : decode code 281 = .ok (.iconst 1, 1) := by decide +kernel
theorem dL_282 : decode code 282 = .ok (.iadd, 1) := by decide +kernel
theorem dL_283 : decode code 283 = .ok (.iaload, 1) := by decide +kernel
theorem dL_284 : decode code 284 = .ok (.aload_n 3, 1) := by decide +kernel
theorem dL_285 : decode code 285 = .ok (.invokestatic 73, 3) := by decide +kernel
theorem dL_288 : decode code 288 = .ok (.istore 5, 2) := by decide +kernel
theorem dL_290 : decode code 290 = .ok (.aload_n 2, 1) := by decide +kernel
theorem dL_291 : decode code 291 = .ok (.aload_n 0, 1) := by decide +kernel
theorem dL_292 : decode code 292 = .ok (.iload 4, 2) := by decide +kernel
theorem dL_294 : decode code 294 = .ok (.iconst 1, 1) := by decide +kernel
theorem dL_295 : decode code 295 = .ok (.iadd, 1) := by decide +kernel
theorem dL_296 : decode code 296 = .ok (.iaload, 1) := by decide +kernel
theorem dL_297 : decode code 297 = .ok (.invokevirtual 75, 3) := by decide +kernel
theorem dL_300 : decode code 300 = .ok (.istore 6, 2) := by decide +kernel
theorem dL_302 : decode code 302 = .ok (.goto 118, 3) := by decide +kernel
theorem dL_305 : decode code 305 = .ok (.aload_n 1, 1) := by decide +kernel
theorem dL_306 : decode code 306 = .ok (.aload_n 0, 1) := by decide +kernel
theorem dL_307 : decode code 307 = .ok (.iload 4, 2) := by decide +kernel
theorem dL_309 : decode code 309 = .ok (.iconst 1, 1) := by decide +kernel
theorem dL_310 : decode code 310 = .ok (.iadd, 1) := by decide +kernel
theorem dL_311 : decode code 311 = .ok (.iaload, 1) := by decide +kernel
theorem dL_312 : decode code 312 = .ok (.aload_n 0, 1) := by decide +kernel
theorem dL_313 : decode code 313 = .ok (.iload 4, 2) := by decide +kernel
theorem dL_315 : decode code 315 = .ok (.iconst 2, 1) := by decide +kernel
theorem dL_316 : decode code 316 = .ok (.iadd, 1) := by decide +kernel
theorem dL_317 : decode code 317 = .ok (.iaload, 1) := by decide +kernel
theorem dL_318 : decode code 318 = .ok (.aload_n 3, 1) := by decide +kernel
theorem dL_319 : decode code 319 = .ok (.invokestatic 76, 3) := by decide +kernel
theorem dL_322 : decode code 322 = .ok (.istore 5, 2) := by decide +kernel
theorem dL_324 : decode code 324 = .ok (.aload_n 2, 1) := by decide +kernel
theorem dL_325 : decode code 325 = .ok (.aload_n 0, 1) := by decide +kernel
theorem dL_326 : decode code 326 = .ok (.iload 4, 2) := by decide +kernel
theorem dL_328 : decode code 328 = .ok (.iconst 1, 1) := by decide +kernel
theorem dL_329 : decode code 329 = .ok (.iadd, 1) := by decide +kernel
theorem dL_330 : decode code 330 = .ok (.iaload, 1) := by decide +kernel
theorem dL_331 : decode code 331 = .ok (.aload_n 0, 1) := by decide +kernel
theorem dL_332 : decode code 332 = .ok (.iload 4, 2) := by decide +kernel
theorem dL_334 : decode code 334 = .ok (.iconst 2, 1) := by decide +kernel
theorem dL_335 : decode code 335 = .ok (.iadd, 1) := by decide +kernel
theorem dL_336 : decode code 336 = .ok (.iaload, 1) := by decide +kernel
theorem dL_337 : decode code 337 = .ok (.invokevirtual 79, 3) := by decide +kernel
theorem dL_340 : decode code 340 = .ok (.istore 6, 2) := by decide +kernel
theorem dL_342 : decode code 342 = .ok (.goto 78, 3) := by decide +kernel
theorem dL_345 : decode code 345 = .ok (.aload_n 1, 1) := by decide +kernel
theorem dL_346 : decode code 346 = .ok (.aload_n 0, 1) := by decide +kernel
theorem dL_347 : decode code 347 = .ok (.iload 4, 2) := by decide +kernel
theorem dL_349 : decode code 349 = .ok (.iconst 1, 1) := by decide +kernel
theorem dL_350 : decode code 350 = .ok (.iadd, 1) := by decide +kernel
theorem dL_351 : decode code 351 = .ok (.iaload, 1) := by decide +kernel
theorem dL_352 : decode code 352 = .ok (.aload_n 0, 1) := by decide +kernel
theorem dL_353 : decode code 353 = .ok (.iload 4, 2) := by decide +kernel
theorem dL_355 : decode code 355 = .ok (.iconst 2, 1) := by decide +kernel
theorem dL_356 : decode code 356 = .ok (.iadd, 1) := by decide +kernel
theorem dL_357 : decode code 357 = .ok (.iaload, 1) := by decide +kernel
theorem dL_358 : decode code 358 = .ok (.aload_n 3, 1) := by decide +kernel
theorem dL_359 : decode code 359 = .ok (.invokestatic 80, 3) := by decide +kernel
theorem dL_362 : decode code 362 = .ok (.istore 5, 2) := by decide +kernel
theorem dL_364 : decode code 364 = .ok (.aload_n 2, 1) := by decide +kernel
theorem dL_365 : decode code 365 = .ok (.aload_n 0, 1) := by decide +kernel
theorem dL_366 : decode code 366 = .ok (.iload 4, 2) := by decide +kernel
theorem dL_368 : decode code 368 = .ok (.iconst 1, 1) := by decide +kernel
theorem dL_369 : decode code 369 = .ok (.iadd, 1) := by decide +kernel
theorem dL_370 : decode code 370 = .ok (.iaload, 1) := by decide +kernel
theorem dL_371 : decode code 371 = .ok (.aload_n 0, 1) := by decide +kernel
theorem dL_372 : decode code 372 = .ok (.iload 4, 2) := by decide +kernel
theorem dL_374 : decode code 374 = .ok (.iconst 2, 1) := by decide +kernel
theorem dL_375 : decode code 375 = .ok (.iadd, 1) := by decide +kernel
theorem dL_376 : decode code 376 = .ok (.iaload, 1) := by decide +kernel
theorem dL_377 : decode code 377 = .ok (.invokevirtual 82, 3) := by decide +kernel
theorem dL_380 : decode code 380 = .ok (.istore 6, 2) := by decide +kernel
theorem dL_382 : decode code 382 = .ok (.aload_n 2, 1) := by decide +kernel
theorem dL_383 : decode code 383 = .ok (.invokevirtual 83, 3) := by decide +kernel
theorem dL_386 : decode code 386 = .ok (.iload 5, 2) := by decide +kernel
theorem dL_388 : decode code 388 = .ok (.if_icmp .eq 5, 3) := by decide +kernel
theorem dL_391 : decode code 391 = .ok (.iconst 0, 1) := by decide +kernel
theorem dL_392 : decode code 392 = .ok (.ireturn, 1) := by decide +kernel
theorem dL_393 : decode code 393 = .ok (.iload 5, 2) := by decide +kernel
theorem dL_395 : decode code 395 = .ok (.ifCond .ne 22, 3) := by decide +kernel
theorem dL_398 : decode code 398 = .ok (.aload_n 3, 1) := by decide +kernel
theorem dL_399 : decode code 399 = .ok (.iconst 0, 1) := by decide +kernel
theorem dL_400 : decode code 400 = .ok (.laload, 1) := by decide +kernel
theorem dL_401 : decode code 401 = .ok (.iload 6, 2) := by decide +kernel
theorem dL_403 : decode code 403 = .ok (.ifCond .eq 7, 3) := by decide +kernel
theorem dL_406 : decode code 406 = .ok (.lconst 1, 1) := by decide +kernel
theorem dL_407 : decode code 407 = .ok (.goto 4, 3) := by decide +kernel
theorem dL_410 : decode code 410 = .ok (.lconst 0, 1) := by decide +kernel
theorem dL_411 : decode code 411 = .ok (.lcmp, 1) := by decide +kernel
theorem dL_412 : decode code 412 = .ok (.ifCond .eq 5, 3) := by decide +kernel
theorem dL_415 : decode code 415 = .ok (.iconst 0, 1) := by decide +kernel
theorem dL_416 : decode code 416 = .ok (.ireturn, 1) := by decide +kernel
theorem dL_417 : decode code 417 = .ok (.goto 3, 3) := by decide +kernel
theorem dL_420 : decode code 420 = .ok (.iinc 4 6, 3) := by decide +kernel
theorem dL_423 : decode code 423 = .ok (.goto (-400), 3) := by decide +kernel
theorem dL_426 : decode code 426 = .ok (.iconst 1, 1) := by decide +kernel
theorem dL_427 : decode code 427 = .ok (.ireturn, 1) := by decide +kernel
-- new 8 class SchemaReader
-- invokespecial 37 Method SchemaReader."<init>":()V
-- new 38 class SchemaReaderModel
-- invokespecial 40 Method SchemaReaderModel."<init>":()V
-- static 41 Method feed:(LSchemaReader;IIIII[J)I
theorem gL_46 (c0 : Cond) : GoodIn (c0 :: sr_G) (wsV RX12 46 RX10 yX10_feed wsX10_feed) := sr_V c0 (sr_ins (by decide +kernel))
-- static 47 Method end:(LSchemaReader;I)I
theorem gL_50 (c0 : Cond) : GoodIn (c0 :: sr_G) (wsV RX12 50 RX10 yX10_end wsX10_end) := sr_V c0 (sr_ins (by decide +kernel))
theorem gL_51 (c0 : Cond) : GoodIn (c0 :: sr_G) (wsV RX12 51 RX8 yX8_schema wsX8_schema) := sr_V c0 (sr_ins (by decide +kernel))
theorem gL_55 (c0 : Cond) : GoodIn (c0 :: sr_G) (wsV RX12 55 RX10 yX10_schema wsX10_schema) := sr_V c0 (sr_ins (by decide +kernel))
theorem gL_56 (c0 : Cond) : GoodIn (c0 :: sr_G) (wsV RX12 56 RX8 yX8_place wsX8_place) := sr_V c0 (sr_ins (by decide +kernel))
theorem gL_59 (c0 : Cond) : GoodIn (c0 :: sr_G) (wsV RX12 59 RX10 yX10_place wsX10_place) := sr_V c0 (sr_ins (by decide +kernel))
theorem gL_60 (c0 : Cond) : GoodIn (c0 :: sr_G) (wsV RX12 60 RX8 yX8_size wsX8_size) := sr_V c0 (sr_ins (by decide +kernel))
theorem gL_63 (c0 : Cond) : GoodIn (c0 :: sr_G) (wsV RX12 63 RX10 yX10_size wsX10_size) := sr_V c0 (sr_ins (by decide +kernel))
-- static 64 Method letter:(LSchemaReader;I[J)I
theorem gL_67 (c0 : Cond) : GoodIn (c0 :: sr_G) (wsV RX12 67 RX10 yX10_letter wsX10_letter) := sr_V c0 (sr_ins (by decide +kernel))
theorem gL_68 (c0 : Cond) : GoodIn (c0 :: sr_G) (wsV RX12 68 RX8 yX8_print wsX8_print) := sr_V c0 (sr_ins (by decide +kernel))
theorem gL_72 (c0 : Cond) : GoodIn (c0 :: sr_G) (wsV RX12 72 RX10 yX10_print wsX10_print) := sr_V c0 (sr_ins (by decide +kernel))
-- static 73 Method keep:(LSchemaReader;I[J)I
theorem gL_75 (c0 : Cond) : GoodIn (c0 :: sr_G) (wsV RX12 75 RX10 yX10_keep wsX10_keep) := sr_V c0 (sr_ins (by decide +kernel))
-- static 76 Method fits:(LSchemaReader;II[J)I
theorem gL_79 (c0 : Cond) : GoodIn (c0 :: sr_G) (wsV RX12 79 RX10 yX10_fits wsX10_fits) := sr_V c0 (sr_ins (by decide +kernel))
-- static 80 Method matches:(LSchemaReader;II[J)I
theorem gL_82 (c0 : Cond) : GoodIn (c0 :: sr_G) (wsV RX12 82 RX10 yX10_matches wsX10_matches) := sr_V c0 (sr_ins (by decide +kernel))
theorem gL_83 (c0 : Cond) : GoodIn (c0 :: sr_G) (wsV RX12 83 RX10 yX10_thrown wsX10_thrown) := sr_V c0 (sr_ins (by decide +kernel))
theorem gwL_41 : ∀ w ∈ ([.codeWith yX12_feed cX12_feed 8 (some .int) [(0, 16, 19, 13)], .initialized yX12_feed.cls, .methodLink RX12 41 yX12_feed, .static yX12_feed] : List Cond), w ∈ sr_G := sr_ins (by decide +kernel)
theorem gwL_47 : ∀ w ∈ ([.codeWith yX12_end cX12_end 3 (some .int) [(0, 5, 8, 19)], .initialized yX12_end.cls, .methodLink RX12 47 yX12_end, .static yX12_end] : List Cond), w ∈ sr_G := sr_ins (by decide +kernel)
theorem gwL_64 : ∀ w ∈ ([.codeWith yX12_letter cX12_letter 4 (some .int) [(0, 9, 12, 25)], .initialized yX12_letter.cls, .methodLink RX12 64 yX12_letter, .static yX12_letter] : List Cond), w ∈ sr_G := sr_ins (by decide +kernel)
theorem gwL_73 : ∀ w ∈ ([.codeWith yX12_keep cX12_keep 4 (some .int) [(0, 9, 12, 25), (0, 9, 15, 13)], .initialized yX12_keep.cls, .methodLink RX12 73 yX12_keep, .static yX12_keep] : List Cond), w ∈ sr_G := sr_ins (by decide +kernel)
theorem gwL_76 : ∀ w ∈ ([.codeWith yX12_fits cX12_fits 5 (some .int) [(0, 17, 20, 25), (0, 17, 24, 13)], .initialized yX12_fits.cls, .methodLink RX12 76 yX12_fits, .static yX12_fits] : List Cond), w ∈ sr_G := sr_ins (by decide +kernel)
theorem gwL_80 : ∀ w ∈ ([.codeWith yX12_matches cX12_matches 5 (some .int) [(0, 17, 20, 25), (0, 17, 24, 13)], .initialized yX12_matches.cls, .methodLink RX12 80 yX12_matches, .static yX12_matches] : List Cond), w ∈ sr_G := sr_ins (by decide +kernel)
