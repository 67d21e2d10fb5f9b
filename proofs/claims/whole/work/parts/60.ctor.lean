/-! the constructor of the reference -/
theorem qmX12_27 : Cond.methodLink RX12 27 objectInit ∈ z_ws := List.mem_filter.mpr ⟨List.mem_append_right _ (List.mem_of_getElem? (i := 1273) (by decide +kernel)), rfl⟩
theorem qa_boolean : Cond.arrayClass FieldType.boolean ∈ z_ws := List.mem_filter.mpr ⟨List.mem_append_right _ (List.mem_of_getElem? (i := 252) (by decide +kernel)), rfl⟩
theorem dX12_init_0 : decode cX12_init 0 = .ok (.aload_n 0, 1) := by decide +kernel
theorem dX12_init_1 : decode cX12_init 1 = .ok (.invokespecial 27, 3) := by decide +kernel
theorem dX12_init_4 : decode cX12_init 4 = .ok (.aload_n 0, 1) := by decide +kernel
theorem dX12_init_5 : decode cX12_init 5 = .ok (.sipush 940, 3) := by decide +kernel
theorem dX12_init_8 : decode cX12_init 8 = .ok (.newarray .byte, 2) := by decide +kernel
theorem dX12_init_10 : decode cX12_init 10 = .ok (.putfield 14, 3) := by decide +kernel
theorem dX12_init_13 : decode cX12_init 13 = .ok (.aload_n 0, 1) := by decide +kernel
theorem dX12_init_14 : decode cX12_init 14 = .ok (.sipush 357, 3) := by decide +kernel
theorem dX12_init_17 : decode cX12_init 17 = .ok (.newarray .int, 2) := by decide +kernel
theorem dX12_init_19 : decode cX12_init 19 = .ok (.putfield 33, 3) := by decide +kernel
theorem dX12_init_22 : decode cX12_init 22 = .ok (.aload_n 0, 1) := by decide +kernel
theorem dX12_init_23 : decode cX12_init 23 = .ok (.bipush 36, 2) := by decide +kernel
theorem dX12_init_25 : decode cX12_init 25 = .ok (.newarray .int, 2) := by decide +kernel
theorem dX12_init_27 : decode cX12_init 27 = .ok (.putfield 37, 3) := by decide +kernel
theorem dX12_init_30 : decode cX12_init 30 = .ok (.aload_n 0, 1) := by decide +kernel
theorem dX12_init_31 : decode cX12_init 31 = .ok (.sipush 135, 3) := by decide +kernel
theorem dX12_init_34 : decode cX12_init 34 = .ok (.newarray .int, 2) := by decide +kernel
theorem dX12_init_36 : decode cX12_init 36 = .ok (.putfield 40, 3) := by decide +kernel
theorem dX12_init_39 : decode cX12_init 39 = .ok (.aload_n 0, 1) := by decide +kernel
theorem dX12_init_40 : decode cX12_init 40 = .ok (.bipush 28, 2) := by decide +kernel
theorem dX12_init_42 : decode cX12_init 42 = .ok (.newarray .long, 2) := by decide +kernel
theorem dX12_init_44 : decode cX12_init 44 = .ok (.putfield 43, 3) := by decide +kernel
theorem dX12_init_47 : decode cX12_init 47 = .ok (.aload_n 0, 1) := by decide +kernel
theorem dX12_init_48 : decode cX12_init 48 = .ok (.bipush 22, 2) := by decide +kernel
theorem dX12_init_50 : decode cX12_init 50 = .ok (.newarray .long, 2) := by decide +kernel
theorem dX12_init_52 : decode cX12_init 52 = .ok (.putfield 47, 3) := by decide +kernel
theorem dX12_init_55 : decode cX12_init 55 = .ok (.aload_n 0, 1) := by decide +kernel
theorem dX12_init_56 : decode cX12_init 56 = .ok (.bipush 7, 2) := by decide +kernel
theorem dX12_init_58 : decode cX12_init 58 = .ok (.newarray .long, 2) := by decide +kernel
theorem dX12_init_60 : decode cX12_init 60 = .ok (.putfield 50, 3) := by decide +kernel
theorem dX12_init_63 : decode cX12_init 63 = .ok (.aload_n 0, 1) := by decide +kernel
theorem dX12_init_64 : decode cX12_init 64 = .ok (.bipush 104, 2) := by decide +kernel
theorem dX12_init_66 : decode cX12_init 66 = .ok (.newarray .int, 2) := by decide +kernel
theorem dX12_init_68 : decode cX12_init 68 = .ok (.putfield 53, 3) := by decide +kernel
theorem dX12_init_71 : decode cX12_init 71 = .ok (.aload_n 0, 1) := by decide +kernel
theorem dX12_init_72 : decode cX12_init 72 = .ok (.bipush 13, 2) := by decide +kernel
theorem dX12_init_74 : decode cX12_init 74 = .ok (.newarray .int, 2) := by decide +kernel
theorem dX12_init_76 : decode cX12_init 76 = .ok (.putfield 56, 3) := by decide +kernel
theorem dX12_init_79 : decode cX12_init 79 = .ok (.aload_n 0, 1) := by decide +kernel
theorem dX12_init_80 : decode cX12_init 80 = .ok (.sipush 729, 3) := by decide +kernel
theorem dX12_init_83 : decode cX12_init 83 = .ok (.newarray .long, 2) := by decide +kernel
theorem dX12_init_85 : decode cX12_init 85 = .ok (.putfield 59, 3) := by decide +kernel
theorem dX12_init_88 : decode cX12_init 88 = .ok (.aload_n 0, 1) := by decide +kernel
theorem dX12_init_89 : decode cX12_init 89 = .ok (.sipush 729, 3) := by decide +kernel
theorem dX12_init_92 : decode cX12_init 92 = .ok (.newarray .int, 2) := by decide +kernel
theorem dX12_init_94 : decode cX12_init 94 = .ok (.putfield 62, 3) := by decide +kernel
theorem dX12_init_97 : decode cX12_init 97 = .ok (.aload_n 0, 1) := by decide +kernel
theorem dX12_init_98 : decode cX12_init 98 = .ok (.sipush 400, 3) := by decide +kernel
theorem dX12_init_101 : decode cX12_init 101 = .ok (.newarray .byte, 2) := by decide +kernel
theorem dX12_init_103 : decode cX12_init 103 = .ok (.putfield 65, 3) := by decide +kernel
theorem dX12_init_106 : decode cX12_init 106 = .ok (.aload_n 0, 1) := by decide +kernel
theorem dX12_init_107 : decode cX12_init 107 = .ok (.bipush 64, 2) := by decide +kernel
theorem dX12_init_109 : decode cX12_init 109 = .ok (.newarray .int, 2) := by decide +kernel
theorem dX12_init_111 : decode cX12_init 111 = .ok (.putfield 68, 3) := by decide +kernel
theorem dX12_init_114 : decode cX12_init 114 = .ok (.aload_n 0, 1) := by decide +kernel
theorem dX12_init_115 : decode cX12_init 115 = .ok (.bipush 124, 2) := by decide +kernel
theorem dX12_init_117 : decode cX12_init 117 = .ok (.newarray .int, 2) := by decide +kernel
theorem dX12_init_119 : decode cX12_init 119 = .ok (.putfield 71, 3) := by decide +kernel
theorem dX12_init_122 : decode cX12_init 122 = .ok (.aload_n 0, 1) := by decide +kernel
theorem dX12_init_123 : decode cX12_init 123 = .ok (.iconst 4, 1) := by decide +kernel
theorem dX12_init_124 : decode cX12_init 124 = .ok (.newarray .int, 2) := by decide +kernel
theorem dX12_init_126 : decode cX12_init 126 = .ok (.putfield 74, 3) := by decide +kernel
theorem dX12_init_129 : decode cX12_init 129 = .ok (.aload_n 0, 1) := by decide +kernel
theorem dX12_init_130 : decode cX12_init 130 = .ok (.iconst 4, 1) := by decide +kernel
theorem dX12_init_131 : decode cX12_init 131 = .ok (.newarray .int, 2) := by decide +kernel
theorem dX12_init_133 : decode cX12_init 133 = .ok (.putfield 77, 3) := by decide +kernel
theorem dX12_init_136 : decode cX12_init 136 = .ok (.aload_n 0, 1) := by decide +kernel
theorem dX12_init_137 : decode cX12_init 137 = .ok (.iconst 3, 1) := by decide +kernel
theorem dX12_init_138 : decode cX12_init 138 = .ok (.newarray .int, 2) := by decide +kernel
theorem dX12_init_140 : decode cX12_init 140 = .ok (.putfield 80, 3) := by decide +kernel
theorem dX12_init_143 : decode cX12_init 143 = .ok (.aload_n 0, 1) := by decide +kernel
theorem dX12_init_144 : decode cX12_init 144 = .ok (.bipush 45, 2) := by decide +kernel
theorem dX12_init_146 : decode cX12_init 146 = .ok (.newarray .int, 2) := by decide +kernel
theorem dX12_init_148 : decode cX12_init 148 = .ok (.putfield 83, 3) := by decide +kernel
theorem dX12_init_151 : decode cX12_init 151 = .ok (.aload_n 0, 1) := by decide +kernel
theorem dX12_init_152 : decode cX12_init 152 = .ok (.bipush 45, 2) := by decide +kernel
theorem dX12_init_154 : decode cX12_init 154 = .ok (.newarray .boolean, 2) := by decide +kernel
theorem dX12_init_156 : decode cX12_init 156 = .ok (.putfield 86, 3) := by decide +kernel
theorem dX12_init_159 : decode cX12_init 159 = .ok (.aload_n 0, 1) := by decide +kernel
theorem dX12_init_160 : decode cX12_init 160 = .ok (.sipush 714, 3) := by decide +kernel
theorem dX12_init_163 : decode cX12_init 163 = .ok (.newarray .int, 2) := by decide +kernel
theorem dX12_init_165 : decode cX12_init 165 = .ok (.putfield 90, 3) := by decide +kernel
theorem dX12_init_168 : decode cX12_init 168 = .ok (.aload_n 0, 1) := by decide +kernel
theorem dX12_init_169 : decode cX12_init 169 = .ok (.bipush 28, 2) := by decide +kernel
theorem dX12_init_171 : decode cX12_init 171 = .ok (.newarray .long, 2) := by decide +kernel
theorem dX12_init_173 : decode cX12_init 173 = .ok (.putfield 93, 3) := by decide +kernel
theorem dX12_init_176 : decode cX12_init 176 = .ok (.aload_n 0, 1) := by decide +kernel
theorem dX12_init_177 : decode cX12_init 177 = .ok (.iconst 2, 1) := by decide +kernel
theorem dX12_init_178 : decode cX12_init 178 = .ok (.newarray .boolean, 2) := by decide +kernel
theorem dX12_init_180 : decode cX12_init 180 = .ok (.putfield 96, 3) := by decide +kernel
theorem dX12_init_183 : decode cX12_init 183 = .ok (.aload_n 0, 1) := by decide +kernel
theorem dX12_init_184 : decode cX12_init 184 = .ok (.getfield 47, 3) := by decide +kernel
theorem dX12_init_187 : decode cX12_init 187 = .ok (.iconst 0, 1) := by decide +kernel
theorem dX12_init_188 : decode cX12_init 188 = .ok (.ldc2_w 99, 3) := by decide +kernel
theorem dX12_init_191 : decode cX12_init 191 = .ok (.lastore, 1) := by decide +kernel
theorem dX12_init_192 : decode cX12_init 192 = .ok (.aload_n 0, 1) := by decide +kernel
theorem dX12_init_193 : decode cX12_init 193 = .ok (.getfield 47, 3) := by decide +kernel
theorem dX12_init_196 : decode cX12_init 196 = .ok (.iconst 1, 1) := by decide +kernel
theorem dX12_init_197 : decode cX12_init 197 = .ok (.ldc2_w 101, 3) := by decide +kernel
theorem dX12_init_200 : decode cX12_init 200 = .ok (.lastore, 1) := by decide +kernel
theorem dX12_init_201 : decode cX12_init 201 = .ok (.aload_n 0, 1) := by decide +kernel
theorem dX12_init_202 : decode cX12_init 202 = .ok (.getfield 47, 3) := by decide +kernel
theorem dX12_init_205 : decode cX12_init 205 = .ok (.iconst 2, 1) := by decide +kernel
theorem dX12_init_206 : decode cX12_init 206 = .ok (.ldc2_w 103, 3) := by decide +kernel
theorem dX12_init_209 : decode cX12_init 209 = .ok (.lastore, 1) := by decide +kernel
theorem dX12_init_210 : decode cX12_init 210 = .ok (.aload_n 0, 1) := by decide +kernel
theorem dX12_init_211 : decode cX12_init 211 = .ok (.getfield 47, 3) := by decide +kernel
theorem dX12_init_214 : decode cX12_init 214 = .ok (.iconst 3, 1) := by decide +kernel
theorem dX12_init_215 : decode cX12_init 215 = .ok (.ldc2_w 105, 3) := by decide +kernel
theorem dX12_init_218 : decode cX12_init 218 = .ok (.lastore, 1) := by decide +kernel
theorem dX12_init_219 : decode cX12_init 219 = .ok (.aload_n 0, 1) := by decide +kernel
theorem dX12_init_220 : decode cX12_init 220 = .ok (.getfield 47, 3) := by decide +kernel
theorem dX12_init_223 : decode cX12_init 223 = .ok (.iconst 4, 1) := by decide +kernel
theorem dX12_init_224 : decode cX12_init 224 = .ok (.ldc2_w 107, 3) := by decide +kernel
theorem dX12_init_227 : decode cX12_init 227 = .ok (.lastore, 1) := by decide +kernel
theorem dX12_init_228 : decode cX12_init 228 = .ok (.aload_n 0, 1) := by decide +kernel
theorem dX12_init_229 : decode cX12_init 229 = .ok (.getfield 47, 3) := by decide +kernel
theorem dX12_init_232 : decode cX12_init 232 = .ok (.iconst 5, 1) := by decide +kernel
theorem dX12_init_233 : decode cX12_init 233 = .ok (.ldc2_w 109, 3) := by decide +kernel
theorem dX12_init_236 : decode cX12_init 236 = .ok (.lastore, 1) := by decide +kernel
theorem dX12_init_237 : decode cX12_init 237 = .ok (.aload_n 0, 1) := by decide +kernel
theorem dX12_init_238 : decode cX12_init 238 = .ok (.getfield 47, 3) := by decide +kernel
theorem dX12_init_241 : decode cX12_init 241 = .ok (.bipush 6, 2) := by decide +kernel
theorem dX12_init_243 : decode cX12_init 243 = .ok (.ldc2_w 111, 3) := by decide +kernel
theorem dX12_init_246 : decode cX12_init 246 = .ok (.lastore, 1) := by decide +kernel
theorem dX12_init_247 : decode cX12_init 247 = .ok (.aload_n 0, 1) := by decide +kernel
theorem dX12_init_248 : decode cX12_init 248 = .ok (.getfield 47, 3) := by decide +kernel
theorem dX12_init_251 : decode cX12_init 251 = .ok (.bipush 7, 2) := by decide +kernel
theorem dX12_init_253 : decode cX12_init 253 = .ok (.ldc2_w 113, 3) := by decide +kernel
theorem dX12_init_256 : decode cX12_init 256 = .ok (.lastore, 1) := by decide +kernel
theorem dX12_init_257 : decode cX12_init 257 = .ok (.aload_n 0, 1) := by decide +kernel
theorem dX12_init_258 : decode cX12_init 258 = .ok (.getfield 47, 3) := by decide +kernel
theorem dX12_init_261 : decode cX12_init 261 = .ok (.bipush 8, 2) := by decide +kernel
theorem dX12_init_263 : decode cX12_init 263 = .ok (.ldc2_w 115, 3) := by decide +kernel
theorem dX12_init_266 : decode cX12_init 266 = .ok (.lastore, 1) := by decide +kernel
theorem dX12_init_267 : decode cX12_init 267 = .ok (.aload_n 0, 1) := by decide +kernel
theorem dX12_init_268 : decode cX12_init 268 = .ok (.getfield 47, 3) := by decide +kernel
theorem dX12_init_271 : decode cX12_init 271 = .ok (.bipush 9, 2) := by decide +kernel
theorem dX12_init_273 : decode cX12_init 273 = .ok (.ldc2_w 117, 3) := by decide +kernel
theorem dX12_init_276 : decode cX12_init 276 = .ok (.lastore, 1) := by decide +kernel
theorem dX12_init_277 : decode cX12_init 277 = .ok (.aload_n 0, 1) := by decide +kernel
theorem dX12_init_278 : decode cX12_init 278 = .ok (.getfield 47, 3) := by decide +kernel
theorem dX12_init_281 : decode cX12_init 281 = .ok (.bipush 10, 2) := by decide +kernel
theorem dX12_init_283 : decode cX12_init 283 = .ok (.ldc2_w 119, 3) := by decide +kernel
theorem dX12_init_286 : decode cX12_init 286 = .ok (.lastore, 1) := by decide +kernel
theorem dX12_init_287 : decode cX12_init 287 = .ok (.aload_n 0, 1) := by decide +kernel
theorem dX12_init_288 : decode cX12_init 288 = .ok (.getfield 47, 3) := by decide +kernel
theorem dX12_init_291 : decode cX12_init 291 = .ok (.bipush 11, 2) := by decide +kernel
theorem dX12_init_293 : decode cX12_init 293 = .ok (.ldc2_w 121, 3) := by decide +kernel
theorem dX12_init_296 : decode cX12_init 296 = .ok (.lastore, 1) := by decide +kernel
theorem dX12_init_297 : decode cX12_init 297 = .ok (.aload_n 0, 1) := by decide +kernel
theorem dX12_init_298 : decode cX12_init 298 = .ok (.getfield 47, 3) := by decide +kernel
theorem dX12_init_301 : decode cX12_init 301 = .ok (.bipush 12, 2) := by decide +kernel
theorem dX12_init_303 : decode cX12_init 303 = .ok (.ldc2_w 123, 3) := by decide +kernel
theorem dX12_init_306 : decode cX12_init 306 = .ok (.lastore, 1) := by decide +kernel
theorem dX12_init_307 : decode cX12_init 307 = .ok (.aload_n 0, 1) := by decide +kernel
theorem dX12_init_308 : decode cX12_init 308 = .ok (.getfield 47, 3) := by decide +kernel
theorem dX12_init_311 : decode cX12_init 311 = .ok (.bipush 13, 2) := by decide +kernel
theorem dX12_init_313 : decode cX12_init 313 = .ok (.ldc2_w 125, 3) := by decide +kernel
theorem dX12_init_316 : decode cX12_init 316 = .ok (.lastore, 1) := by decide +kernel
theorem dX12_init_317 : decode cX12_init 317 = .ok (.aload_n 0, 1) := by decide +kernel
theorem dX12_init_318 : decode cX12_init 318 = .ok (.getfield 47, 3) := by decide +kernel
theorem dX12_init_321 : decode cX12_init 321 = .ok (.bipush 14, 2) := by decide +kernel
theorem dX12_init_323 : decode cX12_init 323 = .ok (.ldc2_w 127, 3) := by decide +kernel
theorem dX12_init_326 : decode cX12_init 326 = .ok (.lastore, 1) := by decide +kernel
theorem dX12_init_327 : decode cX12_init 327 = .ok (.aload_n 0, 1) := by decide +kernel
theorem dX12_init_328 : decode cX12_init 328 = .ok (.getfield 47, 3) := by decide +kernel
theorem dX12_init_331 : decode cX12_init 331 = .ok (.bipush 15, 2) := by decide +kernel
theorem dX12_init_333 : decode cX12_init 333 = .ok (.ldc2_w 129, 3) := by decide +kernel
theorem dX12_init_336 : decode cX12_init 336 = .ok (.lastore, 1) := by decide +kernel
theorem dX12_init_337 : decode cX12_init 337 = .ok (.aload_n 0, 1) := by decide +kernel
theorem dX12_init_338 : decode cX12_init 338 = .ok (.getfield 47, 3) := by decide +kernel
theorem dX12_init_341 : decode cX12_init 341 = .ok (.bipush 16, 2) := by decide +kernel
theorem dX12_init_343 : decode cX12_init 343 = .ok (.ldc2_w 131, 3) := by decide +kernel
theorem dX12_init_346 : decode cX12_init 346 = .ok (.lastore, 1) := by decide +kernel
theorem dX12_init_347 : decode cX12_init 347 = .ok (.aload_n 0, 1) := by decide +kernel
theorem dX12_init_348 : decode cX12_init 348 = .ok (.getfield 47, 3) := by decide +kernel
theorem dX12_init_351 : decode cX12_init 351 = .ok (.bipush 17, 2) := by decide +kernel
theorem dX12_init_353 : decode cX12_init 353 = .ok (.ldc2_w 133, 3) := by decide +kernel
theorem dX12_init_356 : decode cX12_init 356 = .ok (.lastore, 1) := by decide +kernel
theorem dX12_init_357 : decode cX12_init 357 = .ok (.aload_n 0, 1) := by decide +kernel
theorem dX12_init_358 : decode cX12_init 358 = .ok (.getfield 47, 3) := by decide +kernel
theorem dX12_init_361 : decode cX12_init 361 = .ok (.bipush 18, 2) := by decide +kernel
theorem dX12_init_363 : decode cX12_init 363 = .ok (.ldc2_w 135, 3) := by decide +kernel
theorem dX12_init_366 : decode cX12_init 366 = .ok (.lastore, 1) := by decide +kernel
theorem dX12_init_367 : decode cX12_init 367 = .ok (.aload_n 0, 1) := by decide +kernel
theorem dX12_init_368 : decode cX12_init 368 = .ok (.getfield 47, 3) := by decide +kernel
theorem dX12_init_371 : decode cX12_init 371 = .ok (.bipush 19, 2) := by decide +kernel
theorem dX12_init_373 : decode cX12_init 373 = .ok (.ldc2_w 137, 3) := by decide +kernel
theorem dX12_init_376 : decode cX12_init 376 = .ok (.lastore, 1) := by decide +kernel
theorem dX12_init_377 : decode cX12_init 377 = .ok (.aload_n 0, 1) := by decide +kernel
theorem dX12_init_378 : decode cX12_init 378 = .ok (.getfield 47, 3) := by decide +kernel
theorem dX12_init_381 : decode cX12_init 381 = .ok (.bipush 20, 2) := by decide +kernel
theorem dX12_init_383 : decode cX12_init 383 = .ok (.ldc2_w 139, 3) := by decide +kernel
theorem dX12_init_386 : decode cX12_init 386 = .ok (.lastore, 1) := by decide +kernel
theorem dX12_init_387 : decode cX12_init 387 = .ok (.aload_n 0, 1) := by decide +kernel
theorem dX12_init_388 : decode cX12_init 388 = .ok (.getfield 47, 3) := by decide +kernel
theorem dX12_init_391 : decode cX12_init 391 = .ok (.bipush 21, 2) := by decide +kernel
theorem dX12_init_393 : decode cX12_init 393 = .ok (.ldc2_w 141, 3) := by decide +kernel
theorem dX12_init_396 : decode cX12_init 396 = .ok (.lastore, 1) := by decide +kernel
theorem dX12_init_397 : decode cX12_init 397 = .ok (.aload_n 0, 1) := by decide +kernel
theorem dX12_init_398 : decode cX12_init 398 = .ok (.invokevirtual 143, 3) := by decide +kernel
theorem dX12_init_401 : decode cX12_init 401 = .ok (.iconst 0, 1) := by decide +kernel
theorem dX12_init_402 : decode cX12_init 402 = .ok (.istore_n 1, 1) := by decide +kernel
theorem dX12_init_403 : decode cX12_init 403 = .ok (.iload_n 1, 1) := by decide +kernel
theorem dX12_init_404 : decode cX12_init 404 = .ok (.bipush 36, 2) := by decide +kernel
theorem dX12_init_406 : decode cX12_init 406 = .ok (.if_icmp .ge 21, 3) := by decide +kernel
theorem dX12_init_409 : decode cX12_init 409 = .ok (.aload_n 0, 1) := by decide +kernel
theorem dX12_init_410 : decode cX12_init 410 = .ok (.getfield 33, 3) := by decide +kernel
theorem dX12_init_413 : decode cX12_init 413 = .ok (.iload_n 1, 1) := by decide +kernel
theorem dX12_init_414 : decode cX12_init 414 = .ok (.aload_n 0, 1) := by decide +kernel
theorem dX12_init_415 : decode cX12_init 415 = .ok (.getfield 37, 3) := by decide +kernel
theorem dX12_init_418 : decode cX12_init 418 = .ok (.iload_n 1, 1) := by decide +kernel
theorem dX12_init_419 : decode cX12_init 419 = .ok (.iaload, 1) := by decide +kernel
theorem dX12_init_420 : decode cX12_init 420 = .ok (.iastore, 1) := by decide +kernel
theorem dX12_init_421 : decode cX12_init 421 = .ok (.iinc 1 1, 3) := by decide +kernel
theorem dX12_init_424 : decode cX12_init 424 = .ok (.goto (-21), 3) := by decide +kernel
theorem dX12_init_427 : decode cX12_init 427 = .ok (.return_, 1) := by decide +kernel
abbrev rm_X12_init : Room := { frames := 1, cells := 22, slots := 4533, locals := 21 }
noncomputable def fX12_init_b403_i (o0 : Nat) (x1 : Int32) (h : z_T) : Option ((Int32 × z_T) ⊕ (z_T)) :=
  y_br ((36 : Int32) ≤ x1)
    (y_mp <|
    some h)
    (y_gd (z_ok h o0 11) <|
    y_bi (z_R h o0 6) fun o4 =>
    y_bi (z_R h o0 7) fun o5 =>
    y_gd (z_ok h o5 13) <|
    y_gd (z_ix x1 (z_N h o5)) <|
    y_gd (z_ok h o4 13) <|
    y_gd (z_ix x1 (z_N h o4)) <|
    y_nm (z_sI h o4 x1.toNatClampNeg (z_I h o5 x1.toNatClampNeg)) fun h10 =>
    y_nm (x1 + 1) fun v11 =>
    some (.inl (v11, h10)))
noncomputable def fX12_init_b403 (o0 : Nat) (x1 : Int32) (h : z_T) : Option (z_T) := y_lp (fun q : Int32 × z_T => fX12_init_b403_i o0 q.1 q.2) (x1, h)
noncomputable def fX12_init (o0 : Nat) (h : z_T) : Option (z_T) :=
  y_nm (z_n h) fun o12 =>
  y_nm (z_al h 12 940) fun h13 =>
  y_gd (z_ok h13 o0 11) <|
  y_nm (z_sR h13 o0 1 (some o12)) fun h16 =>
  y_nm (z_n h16) fun o17 =>
  y_nm (z_al h16 13 357) fun h18 =>
  y_gd (z_ok h18 o0 11) <|
  y_nm (z_sR h18 o0 6 (some o17)) fun h21 =>
  y_nm (z_n h21) fun o22 =>
  y_nm (z_al h21 13 36) fun h23 =>
  y_gd (z_ok h23 o0 11) <|
  y_nm (z_sR h23 o0 7 (some o22)) fun h26 =>
  y_nm (z_n h26) fun o27 =>
  y_nm (z_al h26 13 135) fun h28 =>
  y_gd (z_ok h28 o0 11) <|
  y_nm (z_sR h28 o0 8 (some o27)) fun h31 =>
  y_nm (z_n h31) fun o32 =>
  y_nm (z_al h31 14 28) fun h33 =>
  y_gd (z_ok h33 o0 11) <|
  y_nm (z_sR h33 o0 9 (some o32)) fun h36 =>
  y_nm (z_n h36) fun o37 =>
  y_nm (z_al h36 14 22) fun h38 =>
  y_gd (z_ok h38 o0 11) <|
  y_nm (z_sR h38 o0 10 (some o37)) fun h41 =>
  y_nm (z_n h41) fun o42 =>
  y_nm (z_al h41 14 7) fun h43 =>
  y_gd (z_ok h43 o0 11) <|
  y_nm (z_sR h43 o0 21 (some o42)) fun h46 =>
  y_nm (z_n h46) fun o47 =>
  y_nm (z_al h46 13 104) fun h48 =>
  y_gd (z_ok h48 o0 11) <|
  y_nm (z_sR h48 o0 22 (some o47)) fun h51 =>
  y_nm (z_n h51) fun o52 =>
  y_nm (z_al h51 13 13) fun h53 =>
  y_gd (z_ok h53 o0 11) <|
  y_nm (z_sR h53 o0 23 (some o52)) fun h56 =>
  y_nm (z_n h56) fun o57 =>
  y_nm (z_al h56 14 729) fun h58 =>
  y_gd (z_ok h58 o0 11) <|
  y_nm (z_sR h58 o0 25 (some o57)) fun h61 =>
  y_nm (z_n h61) fun o62 =>
  y_nm (z_al h61 13 729) fun h63 =>
  y_gd (z_ok h63 o0 11) <|
  y_nm (z_sR h63 o0 26 (some o62)) fun h66 =>
  y_nm (z_n h66) fun o67 =>
  y_nm (z_al h66 12 400) fun h68 =>
  y_gd (z_ok h68 o0 11) <|
  y_nm (z_sR h68 o0 29 (some o67)) fun h71 =>
  y_nm (z_n h71) fun o72 =>
  y_nm (z_al h71 13 64) fun h73 =>
  y_gd (z_ok h73 o0 11) <|
  y_nm (z_sR h73 o0 30 (some o72)) fun h76 =>
  y_nm (z_n h76) fun o77 =>
  y_nm (z_al h76 13 124) fun h78 =>
  y_gd (z_ok h78 o0 11) <|
  y_nm (z_sR h78 o0 32 (some o77)) fun h81 =>
  y_nm (z_n h81) fun o82 =>
  y_nm (z_al h81 13 4) fun h83 =>
  y_gd (z_ok h83 o0 11) <|
  y_nm (z_sR h83 o0 33 (some o82)) fun h86 =>
  y_nm (z_n h86) fun o87 =>
  y_nm (z_al h86 13 4) fun h88 =>
  y_gd (z_ok h88 o0 11) <|
  y_nm (z_sR h88 o0 34 (some o87)) fun h91 =>
  y_nm (z_n h91) fun o92 =>
  y_nm (z_al h91 13 3) fun h93 =>
  y_gd (z_ok h93 o0 11) <|
  y_nm (z_sR h93 o0 43 (some o92)) fun h96 =>
  y_nm (z_n h96) fun o97 =>
  y_nm (z_al h96 13 45) fun h98 =>
  y_gd (z_ok h98 o0 11) <|
  y_nm (z_sR h98 o0 47 (some o97)) fun h101 =>
  y_nm (z_n h101) fun o102 =>
  y_nm (z_al h101 15 45) fun h103 =>
  y_gd (z_ok h103 o0 11) <|
  y_nm (z_sR h103 o0 53 (some o102)) fun h106 =>
  y_nm (z_n h106) fun o107 =>
  y_nm (z_al h106 13 714) fun h108 =>
  y_gd (z_ok h108 o0 11) <|
  y_nm (z_sR h108 o0 54 (some o107)) fun h111 =>
  y_nm (z_n h111) fun o112 =>
  y_nm (z_al h111 14 28) fun h113 =>
  y_gd (z_ok h113 o0 11) <|
  y_nm (z_sR h113 o0 55 (some o112)) fun h116 =>
  y_nm (z_n h116) fun o117 =>
  y_nm (z_al h116 15 2) fun h118 =>
  y_gd (z_ok h118 o0 11) <|
  y_nm (z_sR h118 o0 56 (some o117)) fun h121 =>
  y_bi (z_R h121 o0 10) fun o123 =>
  y_gd (z_ok h121 o123 14) <|
  y_gd (z_ix (0 : Int32) (z_N h121 o123)) <|
  y_nm (z_sL h121 o123 (0 : Int32).toNatClampNeg (1952805748 : Int64)) fun h126 =>
  y_gd (z_ix (1 : Int32) (z_N h126 o123)) <|
  y_nm (z_sL h126 o123 (1 : Int32).toNatClampNeg (431415976301 : Int64)) fun h131 =>
  y_gd (z_ix (2 : Int32) (z_N h131 o123)) <|
  y_nm (z_sL h131 o123 (2 : Int32).toNatClampNeg (1919905645 : Int64)) fun h136 =>
  y_gd (z_ix (3 : Int32) (z_N h136 o123)) <|
  y_nm (z_sL h136 o123 (3 : Int32).toNatClampNeg (499985311076 : Int64)) fun h141 =>
  y_gd (z_ix (4 : Int32) (z_N h141 o123)) <|
  y_nm (z_sL h141 o123 (4 : Int32).toNatClampNeg (1937076837 : Int64)) fun h146 =>
  y_gd (z_ix (5 : Int32) (z_N h146 o123)) <|
  y_nm (z_sL h146 o123 (5 : Int32).toNatClampNeg (1818326117 : Int64)) fun h151 =>
  y_gd (z_ix (6 : Int32) (z_N h151 o123)) <|
  y_nm (z_sL h151 o123 (6 : Int32).toNatClampNeg (513021013607 : Int64)) fun h156 =>
  y_gd (z_ix (7 : Int32) (z_N h156 o123)) <|
  y_nm (z_sL h156 o123 (7 : Int32).toNatClampNeg (465557353070 : Int64)) fun h161 =>
  y_gd (z_ix (8 : Int32) (z_N h161 o123)) <|
  y_nm (z_sL h161 o123 (8 : Int32).toNatClampNeg (26990 : Int64)) fun h166 =>
  y_gd (z_ix (9 : Int32) (z_N h166 o123)) <|
  y_nm (z_sL h166 o123 (9 : Int32).toNatClampNeg (495873784179 : Int64)) fun h171 =>
  y_gd (z_ix (10 : Int32) (z_N h171 o123)) <|
  y_nm (z_sL h171 o123 (10 : Int32).toNatClampNeg (470021465459 : Int64)) fun h176 =>
  y_gd (z_ix (11 : Int32) (z_N h176 o123)) <|
  y_nm (z_sL h176 o123 (11 : Int32).toNatClampNeg (30064 : Int64)) fun h181 =>
  y_gd (z_ix (12 : Int32) (z_N h181 o123)) <|
  y_nm (z_sL h181 o123 (12 : Int32).toNatClampNeg (6448484 : Int64)) fun h186 =>
  y_gd (z_ix (13 : Int32) (z_N h186 o123)) <|
  y_nm (z_sL h186 o123 (13 : Int32).toNatClampNeg (28530 : Int64)) fun h191 =>
  y_gd (z_ix (14 : Int32) (z_N h191 o123)) <|
  y_nm (z_sL h191 o123 (14 : Int32).toNatClampNeg (6385252 : Int64)) fun h196 =>
  y_gd (z_ix (15 : Int32) (z_N h196 o123)) <|
  y_nm (z_sL h196 o123 (15 : Int32).toNatClampNeg (7237492 : Int64)) fun h201 =>
  y_gd (z_ix (16 : Int32) (z_N h201 o123)) <|
  y_nm (z_sL h201 o123 (16 : Int32).toNatClampNeg (1735356260 : Int64)) fun h206 =>
  y_gd (z_ix (17 : Int32) (z_N h206 o123)) <|
  y_nm (z_sL h206 o123 (17 : Int32).toNatClampNeg (1801810036 : Int64)) fun h211 =>
  y_gd (z_ix (18 : Int32) (z_N h211 o123)) <|
  y_nm (z_sL h211 o123 (18 : Int32).toNatClampNeg (418548245860 : Int64)) fun h216 =>
  y_gd (z_ix (19 : Int32) (z_N h216 o123)) <|
  y_nm (z_sL h216 o123 (19 : Int32).toNatClampNeg (491495845235 : Int64)) fun h221 =>
  y_gd (z_ix (20 : Int32) (z_N h221 o123)) <|
  y_nm (z_sL h221 o123 (20 : Int32).toNatClampNeg (110442489933171 : Int64)) fun h226 =>
  y_gd (z_ix (21 : Int32) (z_N h226 o123)) <|
  y_nm (z_sL h226 o123 (21 : Int32).toNatClampNeg (482854658917 : Int64)) fun h231 =>
  y_bi (fX12_clears o0 h231) fun h233 =>
  fX12_init_b403 o0 (0 : Int32) h233
set_option maxHeartbeats 40000000 in
set_option maxRecDepth 100000 in
theorem mm_X12_init {G : z_Gt} (hSK : z_SK (z_S G)) (l : Launch) (ad : Nat → Nat) (o0 : Nat) (h : z_T) {h9 : z_T} (hv : fX12_init o0 h = some h9) : z_Mv G (z_S G) l yX12_init cX12_init 2 rm_X12_init 22 4533 [.ref (ad o0)] ad h h9 := by
  refine z_ofW hSK (by decide) (Nat.le_of_ble_eq_true rfl) ?_
  intro p e s m args below meth c ls hc hr hnm hB hl
  have hx := hc.1.1
  have hb := hc.1.2.1
  have hown := hc.1.2.2.2.1
  have hts := hc.1.2.2.2.2
  replace hc : z_C G (z_S G) ad (z_n h) p m c cX12_init 2 s args RX12 meth := hc
  replace hown : s.vm.findClass RX12 = some m.cls := hown
  replace hl : lv_has ls 2 [(0, .ref (ad o0))] := hl
  show W p l e rm_X12_init s m args below meth c s.heap [] 0 0 (MQ below (z_Qv G ad h9 (z_n h) s.heap.size) args s 22 4533 (z_A ad (z_n h) s.heap.size)) (F0 m 0 ls [])
  obtain ⟨rs, kt⟩ : ∃ rs : z_T, rs = h9 := ⟨_, rfl⟩
  generalize hn0 : z_n h = n0 at hc hB ⊢
  have L403 : ∀ (nn403 : Nat) (x1 : Int32) (h : z_T) (H : Heap) (locs : List Loc) (ls : Array Slot), z_B G ad n0 s h H locs → lv_has ls 2 [(0, .ref (ad o0)), (1, .int x1)] → ∀ vv403, y_lpN (fun q : Int32 × z_T => fX12_init_b403_i o0 q.1 q.2) nn403 (x1, h) = some vv403 → vv403 = h9 → W p l e rm_X12_init s m args below meth c H locs 22 4533 (MQ below (z_Qv G ad h9 n0 s.heap.size) args s 22 4533 (z_A ad n0 s.heap.size)) (F0 m 403 ls []) := by
    intro nn403
    induction nn403 with
    | zero => intro x1 h H locs ls hB hl vv403 hv kv403; exact absurd hv (fun q => y_lpN_0 q)
    | succ nn403 ih403 =>
      intro x1 h H locs ls hB hl vv403 hv kv403
      obtain ⟨w, hq, kw403⟩ := y_lpN_e hv
      clear hv
      have hv : fX12_init_b403_i o0 x1 h = some w := hq
      clear hq
      refine lv_iload_n hx hb dX12_init_403 rfl (lv_at hl 1 rfl) ?_
      refine lv_bipush (v := (36 : Int32)) hx hb dX12_init_404 (by decide) ?_
      refine lv_icmp_ge (tgt := 427) hx hb dX12_init_406 (by decide) (fun c1 => ?_) (fun c1 => ?_)
      · replace hv := y_br_t hv c1
        obtain ⟨t2, hq, ew⟩ := y_mp_e hv
        clear hv; subst ew
        replace kw403 : t2 = _ := kw403
        subst kw403
        have hv := hq
        clear hq
        replace hv := Option.some.inj hv
        subst hv
        rw [← kv403]
        exact z_vret hc hB hr dX12_init_427
      · replace hv := y_br_f hv c1
        refine lv_aload_n hx hb dX12_init_409 rfl (lv_at hl 0 rfl) ?_
        replace hv := y_gd_e hv
        obtain ⟨g3, hv⟩ := hv
        replace hv := y_bi_e hv
        obtain ⟨o4, eo4, hv⟩ := hv
        refine z_getR hc hB 11 6 g3 eo4 (by decide) (by decide) rfl (z_l1 hc qfX12_33) dX12_init_410 ?_
        refine lv_iload_n hx hb dX12_init_413 rfl (lv_at hl 1 rfl) ?_
        refine lv_aload_n hx hb dX12_init_414 rfl (lv_at hl 0 rfl) ?_
        replace hv := y_bi_e hv
        obtain ⟨o5, eo5, hv⟩ := hv
        refine z_getR hc hB 11 7 g3 eo5 (by decide) (by decide) rfl (z_l1 hc qfX12_37) dX12_init_415 ?_
        refine lv_iload_n hx hb dX12_init_418 rfl (lv_at hl 1 rfl) ?_
        replace hv := y_gd_e hv
        obtain ⟨g6, hv⟩ := hv
        replace hv := y_gd_e hv
        obtain ⟨i7, hv⟩ := hv
        refine z_iald hc hB g6 i7 dX12_init_419 ?_
        replace hv := y_gd_e hv
        obtain ⟨g8, hv⟩ := hv
        replace hv := y_gd_e hv
        obtain ⟨i9, hv⟩ := hv
        replace hv := y_nm_e hv
        obtain ⟨h10, eh10, hv⟩ := hv
        refine y_iast hc hB eh10 g8 i9 dX12_init_420 (fun H locs hB => ?_)
        replace hv := y_nm_e hv
        obtain ⟨v11, ev11, hv⟩ := hv
        refine lv_iinc (v := v11) (lv' := [(1, .int v11), (0, .ref (ad o0))]) hx hb dX12_init_421 hl (k := 1) rfl (by rw [ev11]; rfl) (by decide) rfl (fun ls hl => ?_)
        refine lv_goto (tgt := 403) hx hb dX12_init_424 (by decide) ?_
        replace hv := Option.some.inj hv
        subst hv
        exact ih403 v11 h10 _ _ _ hB (lv_sub hl [1, 0] rfl) _ kw403 kv403
  rw [← kt] at hv
  refine lv_aload_n hx hb dX12_init_0 rfl (lv_at hl 0 rfl) ?_
  refine z_objI hc qmX12_27 q_objInst q_objCode hl.1 ⟨Nat.le_of_ble_eq_true rfl, Nat.le_of_ble_eq_true rfl⟩ dX12_init_1 ?_
  refine lv_aload_n hx hb dX12_init_4 rfl (lv_at hl 0 rfl) ?_
  refine lv_sipush (v := (940 : Int32)) hx hb dX12_init_5 (by decide) ?_
  replace hv := y_nm_e hv
  obtain ⟨o12, eo12, hv⟩ := hv
  replace hv := y_nm_e hv
  obtain ⟨h13, eh13, hv⟩ := hv
  refine z_newarr hc hB 12 940 (n := (940 : Int32)) eh13 (by decide) (by decide) (by decide) rfl qa_byte (by decide) (by decide) (Nat.le_of_ble_eq_true rfl) (Nat.le_of_ble_eq_true rfl) dX12_init_8 (fun H hB => ?_)
  rw [← eo12]
  have g14 : z_ok h13 o12 12 = true := by rw [eh13, eo12]; exact z_al_ok
  replace hv := y_gd_e hv
  obtain ⟨g15, hv⟩ := hv
  replace hv := y_nm_e hv
  obtain ⟨h16, eh16, hv⟩ := hv
  refine z_putF hc hB 11 1 (r := (some o12)) rfl (z_hrS (k := 12) g14) eh16 g15 qfX12_14 dX12_init_10 hnm (by decide) (by decide) rfl rfl rfl (fun r => by cases r <;> rfl) (fun r => by cases r <;> rfl) (fun H locs hB => ?_)
  refine lv_aload_n hx hb dX12_init_13 rfl (lv_at hl 0 rfl) ?_
  refine lv_sipush (v := (357 : Int32)) hx hb dX12_init_14 (by decide) ?_
  replace hv := y_nm_e hv
  obtain ⟨o17, eo17, hv⟩ := hv
  replace hv := y_nm_e hv
  obtain ⟨h18, eh18, hv⟩ := hv
  refine z_newarr hc hB 13 357 (n := (357 : Int32)) eh18 (by decide) (by decide) (by decide) rfl qa_int (by decide) (by decide) (Nat.le_of_ble_eq_true rfl) (Nat.le_of_ble_eq_true rfl) dX12_init_17 (fun H hB => ?_)
  rw [← eo17]
  have g19 : z_ok h18 o17 13 = true := by rw [eh18, eo17]; exact z_al_ok
  replace hv := y_gd_e hv
  obtain ⟨g20, hv⟩ := hv
  replace hv := y_nm_e hv
  obtain ⟨h21, eh21, hv⟩ := hv
  refine z_putF hc hB 11 6 (r := (some o17)) rfl (z_hrS (k := 13) g19) eh21 g20 qfX12_33 dX12_init_19 hnm (by decide) (by decide) rfl rfl rfl (fun r => by cases r <;> rfl) (fun r => by cases r <;> rfl) (fun H locs hB => ?_)
  refine lv_aload_n hx hb dX12_init_22 rfl (lv_at hl 0 rfl) ?_
  refine lv_bipush (v := (36 : Int32)) hx hb dX12_init_23 (by decide) ?_
  replace hv := y_nm_e hv
  obtain ⟨o22, eo22, hv⟩ := hv
  replace hv := y_nm_e hv
  obtain ⟨h23, eh23, hv⟩ := hv
  refine z_newarr hc hB 13 36 (n := (36 : Int32)) eh23 (by decide) (by decide) (by decide) rfl qa_int (by decide) (by decide) (Nat.le_of_ble_eq_true rfl) (Nat.le_of_ble_eq_true rfl) dX12_init_25 (fun H hB => ?_)
  rw [← eo22]
  have g24 : z_ok h23 o22 13 = true := by rw [eh23, eo22]; exact z_al_ok
  replace hv := y_gd_e hv
  obtain ⟨g25, hv⟩ := hv
  replace hv := y_nm_e hv
  obtain ⟨h26, eh26, hv⟩ := hv
  refine z_putF hc hB 11 7 (r := (some o22)) rfl (z_hrS (k := 13) g24) eh26 g25 qfX12_37 dX12_init_27 hnm (by decide) (by decide) rfl rfl rfl (fun r => by cases r <;> rfl) (fun r => by cases r <;> rfl) (fun H locs hB => ?_)
  refine lv_aload_n hx hb dX12_init_30 rfl (lv_at hl 0 rfl) ?_
  refine lv_sipush (v := (135 : Int32)) hx hb dX12_init_31 (by decide) ?_
  replace hv := y_nm_e hv
  obtain ⟨o27, eo27, hv⟩ := hv
  replace hv := y_nm_e hv
  obtain ⟨h28, eh28, hv⟩ := hv
  refine z_newarr hc hB 13 135 (n := (135 : Int32)) eh28 (by decide) (by decide) (by decide) rfl qa_int (by decide) (by decide) (Nat.le_of_ble_eq_true rfl) (Nat.le_of_ble_eq_true rfl) dX12_init_34 (fun H hB => ?_)
  rw [← eo27]
  have g29 : z_ok h28 o27 13 = true := by rw [eh28, eo27]; exact z_al_ok
  replace hv := y_gd_e hv
  obtain ⟨g30, hv⟩ := hv
  replace hv := y_nm_e hv
  obtain ⟨h31, eh31, hv⟩ := hv
  refine z_putF hc hB 11 8 (r := (some o27)) rfl (z_hrS (k := 13) g29) eh31 g30 qfX12_40 dX12_init_36 hnm (by decide) (by decide) rfl rfl rfl (fun r => by cases r <;> rfl) (fun r => by cases r <;> rfl) (fun H locs hB => ?_)
  refine lv_aload_n hx hb dX12_init_39 rfl (lv_at hl 0 rfl) ?_
  refine lv_bipush (v := (28 : Int32)) hx hb dX12_init_40 (by decide) ?_
  replace hv := y_nm_e hv
  obtain ⟨o32, eo32, hv⟩ := hv
  replace hv := y_nm_e hv
  obtain ⟨h33, eh33, hv⟩ := hv
  refine z_newarr hc hB 14 28 (n := (28 : Int32)) eh33 (by decide) (by decide) (by decide) rfl qa_long (by decide) (by decide) (Nat.le_of_ble_eq_true rfl) (Nat.le_of_ble_eq_true rfl) dX12_init_42 (fun H hB => ?_)
  rw [← eo32]
  have g34 : z_ok h33 o32 14 = true := by rw [eh33, eo32]; exact z_al_ok
  replace hv := y_gd_e hv
  obtain ⟨g35, hv⟩ := hv
  replace hv := y_nm_e hv
  obtain ⟨h36, eh36, hv⟩ := hv
  refine z_putF hc hB 11 9 (r := (some o32)) rfl (z_hrS (k := 14) g34) eh36 g35 qfX12_43 dX12_init_44 hnm (by decide) (by decide) rfl rfl rfl (fun r => by cases r <;> rfl) (fun r => by cases r <;> rfl) (fun H locs hB => ?_)
  refine lv_aload_n hx hb dX12_init_47 rfl (lv_at hl 0 rfl) ?_
  refine lv_bipush (v := (22 : Int32)) hx hb dX12_init_48 (by decide) ?_
  replace hv := y_nm_e hv
  obtain ⟨o37, eo37, hv⟩ := hv
  replace hv := y_nm_e hv
  obtain ⟨h38, eh38, hv⟩ := hv
  refine z_newarr hc hB 14 22 (n := (22 : Int32)) eh38 (by decide) (by decide) (by decide) rfl qa_long (by decide) (by decide) (Nat.le_of_ble_eq_true rfl) (Nat.le_of_ble_eq_true rfl) dX12_init_50 (fun H hB => ?_)
  rw [← eo37]
  have g39 : z_ok h38 o37 14 = true := by rw [eh38, eo37]; exact z_al_ok
  replace hv := y_gd_e hv
  obtain ⟨g40, hv⟩ := hv
  replace hv := y_nm_e hv
  obtain ⟨h41, eh41, hv⟩ := hv
  refine z_putF hc hB 11 10 (r := (some o37)) rfl (z_hrS (k := 14) g39) eh41 g40 qfX12_47 dX12_init_52 hnm (by decide) (by decide) rfl rfl rfl (fun r => by cases r <;> rfl) (fun r => by cases r <;> rfl) (fun H locs hB => ?_)
  refine lv_aload_n hx hb dX12_init_55 rfl (lv_at hl 0 rfl) ?_
  refine lv_bipush (v := (7 : Int32)) hx hb dX12_init_56 (by decide) ?_
  replace hv := y_nm_e hv
  obtain ⟨o42, eo42, hv⟩ := hv
  replace hv := y_nm_e hv
  obtain ⟨h43, eh43, hv⟩ := hv
  refine z_newarr hc hB 14 7 (n := (7 : Int32)) eh43 (by decide) (by decide) (by decide) rfl qa_long (by decide) (by decide) (Nat.le_of_ble_eq_true rfl) (Nat.le_of_ble_eq_true rfl) dX12_init_58 (fun H hB => ?_)
  rw [← eo42]
  have g44 : z_ok h43 o42 14 = true := by rw [eh43, eo42]; exact z_al_ok
  replace hv := y_gd_e hv
  obtain ⟨g45, hv⟩ := hv
  replace hv := y_nm_e hv
  obtain ⟨h46, eh46, hv⟩ := hv
  refine z_putF hc hB 11 21 (r := (some o42)) rfl (z_hrS (k := 14) g44) eh46 g45 qfX12_50 dX12_init_60 hnm (by decide) (by decide) rfl rfl rfl (fun r => by cases r <;> rfl) (fun r => by cases r <;> rfl) (fun H locs hB => ?_)
  refine lv_aload_n hx hb dX12_init_63 rfl (lv_at hl 0 rfl) ?_
  refine lv_bipush (v := (104 : Int32)) hx hb dX12_init_64 (by decide) ?_
  replace hv := y_nm_e hv
  obtain ⟨o47, eo47, hv⟩ := hv
  replace hv := y_nm_e hv
  obtain ⟨h48, eh48, hv⟩ := hv
  refine z_newarr hc hB 13 104 (n := (104 : Int32)) eh48 (by decide) (by decide) (by decide) rfl qa_int (by decide) (by decide) (Nat.le_of_ble_eq_true rfl) (Nat.le_of_ble_eq_true rfl) dX12_init_66 (fun H hB => ?_)
  rw [← eo47]
  have g49 : z_ok h48 o47 13 = true := by rw [eh48, eo47]; exact z_al_ok
  replace hv := y_gd_e hv
  obtain ⟨g50, hv⟩ := hv
  replace hv := y_nm_e hv
  obtain ⟨h51, eh51, hv⟩ := hv
  refine z_putF hc hB 11 22 (r := (some o47)) rfl (z_hrS (k := 13) g49) eh51 g50 qfX12_53 dX12_init_68 hnm (by decide) (by decide) rfl rfl rfl (fun r => by cases r <;> rfl) (fun r => by cases r <;> rfl) (fun H locs hB => ?_)
  refine lv_aload_n hx hb dX12_init_71 rfl (lv_at hl 0 rfl) ?_
  refine lv_bipush (v := (13 : Int32)) hx hb dX12_init_72 (by decide) ?_
  replace hv := y_nm_e hv
  obtain ⟨o52, eo52, hv⟩ := hv
  replace hv := y_nm_e hv
  obtain ⟨h53, eh53, hv⟩ := hv
  refine z_newarr hc hB 13 13 (n := (13 : Int32)) eh53 (by decide) (by decide) (by decide) rfl qa_int (by decide) (by decide) (Nat.le_of_ble_eq_true rfl) (Nat.le_of_ble_eq_true rfl) dX12_init_74 (fun H hB => ?_)
  rw [← eo52]
  have g54 : z_ok h53 o52 13 = true := by rw [eh53, eo52]; exact z_al_ok
  replace hv := y_gd_e hv
  obtain ⟨g55, hv⟩ := hv
  replace hv := y_nm_e hv
  obtain ⟨h56, eh56, hv⟩ := hv
  refine z_putF hc hB 11 23 (r := (some o52)) rfl (z_hrS (k := 13) g54) eh56 g55 qfX12_56 dX12_init_76 hnm (by decide) (by decide) rfl rfl rfl (fun r => by cases r <;> rfl) (fun r => by cases r <;> rfl) (fun H locs hB => ?_)
  refine lv_aload_n hx hb dX12_init_79 rfl (lv_at hl 0 rfl) ?_
  refine lv_sipush (v := (729 : Int32)) hx hb dX12_init_80 (by decide) ?_
  replace hv := y_nm_e hv
  obtain ⟨o57, eo57, hv⟩ := hv
  replace hv := y_nm_e hv
  obtain ⟨h58, eh58, hv⟩ := hv
  refine z_newarr hc hB 14 729 (n := (729 : Int32)) eh58 (by decide) (by decide) (by decide) rfl qa_long (by decide) (by decide) (Nat.le_of_ble_eq_true rfl) (Nat.le_of_ble_eq_true rfl) dX12_init_83 (fun H hB => ?_)
  rw [← eo57]
  have g59 : z_ok h58 o57 14 = true := by rw [eh58, eo57]; exact z_al_ok
  replace hv := y_gd_e hv
  obtain ⟨g60, hv⟩ := hv
  replace hv := y_nm_e hv
  obtain ⟨h61, eh61, hv⟩ := hv
  refine z_putF hc hB 11 25 (r := (some o57)) rfl (z_hrS (k := 14) g59) eh61 g60 qfX12_59 dX12_init_85 hnm (by decide) (by decide) rfl rfl rfl (fun r => by cases r <;> rfl) (fun r => by cases r <;> rfl) (fun H locs hB => ?_)
  refine lv_aload_n hx hb dX12_init_88 rfl (lv_at hl 0 rfl) ?_
  refine lv_sipush (v := (729 : Int32)) hx hb dX12_init_89 (by decide) ?_
  replace hv := y_nm_e hv
  obtain ⟨o62, eo62, hv⟩ := hv
  replace hv := y_nm_e hv
  obtain ⟨h63, eh63, hv⟩ := hv
  refine z_newarr hc hB 13 729 (n := (729 : Int32)) eh63 (by decide) (by decide) (by decide) rfl qa_int (by decide) (by decide) (Nat.le_of_ble_eq_true rfl) (Nat.le_of_ble_eq_true rfl) dX12_init_92 (fun H hB => ?_)
  rw [← eo62]
  have g64 : z_ok h63 o62 13 = true := by rw [eh63, eo62]; exact z_al_ok
  replace hv := y_gd_e hv
  obtain ⟨g65, hv⟩ := hv
  replace hv := y_nm_e hv
  obtain ⟨h66, eh66, hv⟩ := hv
  refine z_putF hc hB 11 26 (r := (some o62)) rfl (z_hrS (k := 13) g64) eh66 g65 qfX12_62 dX12_init_94 hnm (by decide) (by decide) rfl rfl rfl (fun r => by cases r <;> rfl) (fun r => by cases r <;> rfl) (fun H locs hB => ?_)
  refine lv_aload_n hx hb dX12_init_97 rfl (lv_at hl 0 rfl) ?_
  refine lv_sipush (v := (400 : Int32)) hx hb dX12_init_98 (by decide) ?_
  replace hv := y_nm_e hv
  obtain ⟨o67, eo67, hv⟩ := hv
  replace hv := y_nm_e hv
  obtain ⟨h68, eh68, hv⟩ := hv
  refine z_newarr hc hB 12 400 (n := (400 : Int32)) eh68 (by decide) (by decide) (by decide) rfl qa_byte (by decide) (by decide) (Nat.le_of_ble_eq_true rfl) (Nat.le_of_ble_eq_true rfl) dX12_init_101 (fun H hB => ?_)
  rw [← eo67]
  have g69 : z_ok h68 o67 12 = true := by rw [eh68, eo67]; exact z_al_ok
  replace hv := y_gd_e hv
  obtain ⟨g70, hv⟩ := hv
  replace hv := y_nm_e hv
  obtain ⟨h71, eh71, hv⟩ := hv
  refine z_putF hc hB 11 29 (r := (some o67)) rfl (z_hrS (k := 12) g69) eh71 g70 qfX12_65 dX12_init_103 hnm (by decide) (by decide) rfl rfl rfl (fun r => by cases r <;> rfl) (fun r => by cases r <;> rfl) (fun H locs hB => ?_)
  refine lv_aload_n hx hb dX12_init_106 rfl (lv_at hl 0 rfl) ?_
  refine lv_bipush (v := (64 : Int32)) hx hb dX12_init_107 (by decide) ?_
  replace hv := y_nm_e hv
  obtain ⟨o72, eo72, hv⟩ := hv
  replace hv := y_nm_e hv
  obtain ⟨h73, eh73, hv⟩ := hv
  refine z_newarr hc hB 13 64 (n := (64 : Int32)) eh73 (by decide) (by decide) (by decide) rfl qa_int (by decide) (by decide) (Nat.le_of_ble_eq_true rfl) (Nat.le_of_ble_eq_true rfl) dX12_init_109 (fun H hB => ?_)
  rw [← eo72]
  have g74 : z_ok h73 o72 13 = true := by rw [eh73, eo72]; exact z_al_ok
  replace hv := y_gd_e hv
  obtain ⟨g75, hv⟩ := hv
  replace hv := y_nm_e hv
  obtain ⟨h76, eh76, hv⟩ := hv
  refine z_putF hc hB 11 30 (r := (some o72)) rfl (z_hrS (k := 13) g74) eh76 g75 qfX12_68 dX12_init_111 hnm (by decide) (by decide) rfl rfl rfl (fun r => by cases r <;> rfl) (fun r => by cases r <;> rfl) (fun H locs hB => ?_)
  refine lv_aload_n hx hb dX12_init_114 rfl (lv_at hl 0 rfl) ?_
  refine lv_bipush (v := (124 : Int32)) hx hb dX12_init_115 (by decide) ?_
  replace hv := y_nm_e hv
  obtain ⟨o77, eo77, hv⟩ := hv
  replace hv := y_nm_e hv
  obtain ⟨h78, eh78, hv⟩ := hv
  refine z_newarr hc hB 13 124 (n := (124 : Int32)) eh78 (by decide) (by decide) (by decide) rfl qa_int (by decide) (by decide) (Nat.le_of_ble_eq_true rfl) (Nat.le_of_ble_eq_true rfl) dX12_init_117 (fun H hB => ?_)
  rw [← eo77]
  have g79 : z_ok h78 o77 13 = true := by rw [eh78, eo77]; exact z_al_ok
  replace hv := y_gd_e hv
  obtain ⟨g80, hv⟩ := hv
  replace hv := y_nm_e hv
  obtain ⟨h81, eh81, hv⟩ := hv
  refine z_putF hc hB 11 32 (r := (some o77)) rfl (z_hrS (k := 13) g79) eh81 g80 qfX12_71 dX12_init_119 hnm (by decide) (by decide) rfl rfl rfl (fun r => by cases r <;> rfl) (fun r => by cases r <;> rfl) (fun H locs hB => ?_)
  refine lv_aload_n hx hb dX12_init_122 rfl (lv_at hl 0 rfl) ?_
  refine lv_iconst (v := (4 : Int32)) hx hb dX12_init_123 (by decide) ?_
  replace hv := y_nm_e hv
  obtain ⟨o82, eo82, hv⟩ := hv
  replace hv := y_nm_e hv
  obtain ⟨h83, eh83, hv⟩ := hv
  refine z_newarr hc hB 13 4 (n := (4 : Int32)) eh83 (by decide) (by decide) (by decide) rfl qa_int (by decide) (by decide) (Nat.le_of_ble_eq_true rfl) (Nat.le_of_ble_eq_true rfl) dX12_init_124 (fun H hB => ?_)
  rw [← eo82]
  have g84 : z_ok h83 o82 13 = true := by rw [eh83, eo82]; exact z_al_ok
  replace hv := y_gd_e hv
  obtain ⟨g85, hv⟩ := hv
  replace hv := y_nm_e hv
  obtain ⟨h86, eh86, hv⟩ := hv
  refine z_putF hc hB 11 33 (r := (some o82)) rfl (z_hrS (k := 13) g84) eh86 g85 qfX12_74 dX12_init_126 hnm (by decide) (by decide) rfl rfl rfl (fun r => by cases r <;> rfl) (fun r => by cases r <;> rfl) (fun H locs hB => ?_)
  refine lv_aload_n hx hb dX12_init_129 rfl (lv_at hl 0 rfl) ?_
  refine lv_iconst (v := (4 : Int32)) hx hb dX12_init_130 (by decide) ?_
  replace hv := y_nm_e hv
  obtain ⟨o87, eo87, hv⟩ := hv
  replace hv := y_nm_e hv
  obtain ⟨h88, eh88, hv⟩ := hv
  refine z_newarr hc hB 13 4 (n := (4 : Int32)) eh88 (by decide) (by decide) (by decide) rfl qa_int (by decide) (by decide) (Nat.le_of_ble_eq_true rfl) (Nat.le_of_ble_eq_true rfl) dX12_init_131 (fun H hB => ?_)
  rw [← eo87]
  have g89 : z_ok h88 o87 13 = true := by rw [eh88, eo87]; exact z_al_ok
  replace hv := y_gd_e hv
  obtain ⟨g90, hv⟩ := hv
  replace hv := y_nm_e hv
  obtain ⟨h91, eh91, hv⟩ := hv
  refine z_putF hc hB 11 34 (r := (some o87)) rfl (z_hrS (k := 13) g89) eh91 g90 qfX12_77 dX12_init_133 hnm (by decide) (by decide) rfl rfl rfl (fun r => by cases r <;> rfl) (fun r => by cases r <;> rfl) (fun H locs hB => ?_)
  refine lv_aload_n hx hb dX12_init_136 rfl (lv_at hl 0 rfl) ?_
  refine lv_iconst (v := (3 : Int32)) hx hb dX12_init_137 (by decide) ?_
  replace hv := y_nm_e hv
  obtain ⟨o92, eo92, hv⟩ := hv
  replace hv := y_nm_e hv
  obtain ⟨h93, eh93, hv⟩ := hv
  refine z_newarr hc hB 13 3 (n := (3 : Int32)) eh93 (by decide) (by decide) (by decide) rfl qa_int (by decide) (by decide) (Nat.le_of_ble_eq_true rfl) (Nat.le_of_ble_eq_true rfl) dX12_init_138 (fun H hB => ?_)
  rw [← eo92]
  have g94 : z_ok h93 o92 13 = true := by rw [eh93, eo92]; exact z_al_ok
  replace hv := y_gd_e hv
  obtain ⟨g95, hv⟩ := hv
  replace hv := y_nm_e hv
  obtain ⟨h96, eh96, hv⟩ := hv
  refine z_putF hc hB 11 43 (r := (some o92)) rfl (z_hrS (k := 13) g94) eh96 g95 qfX12_80 dX12_init_140 hnm (by decide) (by decide) rfl rfl rfl (fun r => by cases r <;> rfl) (fun r => by cases r <;> rfl) (fun H locs hB => ?_)
  refine lv_aload_n hx hb dX12_init_143 rfl (lv_at hl 0 rfl) ?_
  refine lv_bipush (v := (45 : Int32)) hx hb dX12_init_144 (by decide) ?_
  replace hv := y_nm_e hv
  obtain ⟨o97, eo97, hv⟩ := hv
  replace hv := y_nm_e hv
  obtain ⟨h98, eh98, hv⟩ := hv
  refine z_newarr hc hB 13 45 (n := (45 : Int32)) eh98 (by decide) (by decide) (by decide) rfl qa_int (by decide) (by decide) (Nat.le_of_ble_eq_true rfl) (Nat.le_of_ble_eq_true rfl) dX12_init_146 (fun H hB => ?_)
  rw [← eo97]
  have g99 : z_ok h98 o97 13 = true := by rw [eh98, eo97]; exact z_al_ok
  replace hv := y_gd_e hv
  obtain ⟨g100, hv⟩ := hv
  replace hv := y_nm_e hv
  obtain ⟨h101, eh101, hv⟩ := hv
  refine z_putF hc hB 11 47 (r := (some o97)) rfl (z_hrS (k := 13) g99) eh101 g100 qfX12_83 dX12_init_148 hnm (by decide) (by decide) rfl rfl rfl (fun r => by cases r <;> rfl) (fun r => by cases r <;> rfl) (fun H locs hB => ?_)
  refine lv_aload_n hx hb dX12_init_151 rfl (lv_at hl 0 rfl) ?_
  refine lv_bipush (v := (45 : Int32)) hx hb dX12_init_152 (by decide) ?_
  replace hv := y_nm_e hv
  obtain ⟨o102, eo102, hv⟩ := hv
  replace hv := y_nm_e hv
  obtain ⟨h103, eh103, hv⟩ := hv
  refine z_newarr hc hB 15 45 (n := (45 : Int32)) eh103 (by decide) (by decide) (by decide) rfl qa_boolean (by decide) (by decide) (Nat.le_of_ble_eq_true rfl) (Nat.le_of_ble_eq_true rfl) dX12_init_154 (fun H hB => ?_)
  rw [← eo102]
  have g104 : z_ok h103 o102 15 = true := by rw [eh103, eo102]; exact z_al_ok
  replace hv := y_gd_e hv
  obtain ⟨g105, hv⟩ := hv
  replace hv := y_nm_e hv
  obtain ⟨h106, eh106, hv⟩ := hv
  refine z_putF hc hB 11 53 (r := (some o102)) rfl (z_hrS (k := 15) g104) eh106 g105 qfX12_86 dX12_init_156 hnm (by decide) (by decide) rfl rfl rfl (fun r => by cases r <;> rfl) (fun r => by cases r <;> rfl) (fun H locs hB => ?_)
  refine lv_aload_n hx hb dX12_init_159 rfl (lv_at hl 0 rfl) ?_
  refine lv_sipush (v := (714 : Int32)) hx hb dX12_init_160 (by decide) ?_
  replace hv := y_nm_e hv
  obtain ⟨o107, eo107, hv⟩ := hv
  replace hv := y_nm_e hv
  obtain ⟨h108, eh108, hv⟩ := hv
  refine z_newarr hc hB 13 714 (n := (714 : Int32)) eh108 (by decide) (by decide) (by decide) rfl qa_int (by decide) (by decide) (Nat.le_of_ble_eq_true rfl) (Nat.le_of_ble_eq_true rfl) dX12_init_163 (fun H hB => ?_)
  rw [← eo107]
  have g109 : z_ok h108 o107 13 = true := by rw [eh108, eo107]; exact z_al_ok
  replace hv := y_gd_e hv
  obtain ⟨g110, hv⟩ := hv
  replace hv := y_nm_e hv
  obtain ⟨h111, eh111, hv⟩ := hv
  refine z_putF hc hB 11 54 (r := (some o107)) rfl (z_hrS (k := 13) g109) eh111 g110 qfX12_90 dX12_init_165 hnm (by decide) (by decide) rfl rfl rfl (fun r => by cases r <;> rfl) (fun r => by cases r <;> rfl) (fun H locs hB => ?_)
  refine lv_aload_n hx hb dX12_init_168 rfl (lv_at hl 0 rfl) ?_
  refine lv_bipush (v := (28 : Int32)) hx hb dX12_init_169 (by decide) ?_
  replace hv := y_nm_e hv
  obtain ⟨o112, eo112, hv⟩ := hv
  replace hv := y_nm_e hv
  obtain ⟨h113, eh113, hv⟩ := hv
  refine z_newarr hc hB 14 28 (n := (28 : Int32)) eh113 (by decide) (by decide) (by decide) rfl qa_long (by decide) (by decide) (Nat.le_of_ble_eq_true rfl) (Nat.le_of_ble_eq_true rfl) dX12_init_171 (fun H hB => ?_)
  rw [← eo112]
  have g114 : z_ok h113 o112 14 = true := by rw [eh113, eo112]; exact z_al_ok
  replace hv := y_gd_e hv
  obtain ⟨g115, hv⟩ := hv
  replace hv := y_nm_e hv
  obtain ⟨h116, eh116, hv⟩ := hv
  refine z_putF hc hB 11 55 (r := (some o112)) rfl (z_hrS (k := 14) g114) eh116 g115 qfX12_93 dX12_init_173 hnm (by decide) (by decide) rfl rfl rfl (fun r => by cases r <;> rfl) (fun r => by cases r <;> rfl) (fun H locs hB => ?_)
  refine lv_aload_n hx hb dX12_init_176 rfl (lv_at hl 0 rfl) ?_
  refine lv_iconst (v := (2 : Int32)) hx hb dX12_init_177 (by decide) ?_
  replace hv := y_nm_e hv
  obtain ⟨o117, eo117, hv⟩ := hv
  replace hv := y_nm_e hv
  obtain ⟨h118, eh118, hv⟩ := hv
  refine z_newarr hc hB 15 2 (n := (2 : Int32)) eh118 (by decide) (by decide) (by decide) rfl qa_boolean (by decide) (by decide) (Nat.le_of_ble_eq_true rfl) (Nat.le_of_ble_eq_true rfl) dX12_init_178 (fun H hB => ?_)
  rw [← eo117]
  have g119 : z_ok h118 o117 15 = true := by rw [eh118, eo117]; exact z_al_ok
  replace hv := y_gd_e hv
  obtain ⟨g120, hv⟩ := hv
  replace hv := y_nm_e hv
  obtain ⟨h121, eh121, hv⟩ := hv
  refine z_putF hc hB 11 56 (r := (some o117)) rfl (z_hrS (k := 15) g119) eh121 g120 qfX12_96 dX12_init_180 hnm (by decide) (by decide) rfl rfl rfl (fun r => by cases r <;> rfl) (fun r => by cases r <;> rfl) (fun H locs hB => ?_)
  refine lv_aload_n hx hb dX12_init_183 rfl (lv_at hl 0 rfl) ?_
  have g122 : z_ok h121 o0 11 = true := by rw [eh121]; exact g120
  replace hv := y_bi_e hv
  obtain ⟨o123, eo123, hv⟩ := hv
  refine z_getR hc hB 11 10 g122 eo123 (by decide) (by decide) rfl (z_l1 hc qfX12_47) dX12_init_184 ?_
  refine lv_iconst (v := (0 : Int32)) hx hb dX12_init_187 (by decide) ?_
  refine lv_ldc2 (v := (1952805748 : Int64)) hx hb hown (hts _ qkX12_99) dX12_init_188 ?_
  replace hv := y_gd_e hv
  obtain ⟨g124, hv⟩ := hv
  replace hv := y_gd_e hv
  obtain ⟨i125, hv⟩ := hv
  replace hv := y_nm_e hv
  obtain ⟨h126, eh126, hv⟩ := hv
  refine y_last hc hB eh126 g124 i125 dX12_init_191 (fun H locs hB => ?_)
  refine lv_aload_n hx hb dX12_init_192 rfl (lv_at hl 0 rfl) ?_
  have g127 : z_ok h126 o0 11 = true := by rw [eh126]; exact g122
  have er128 : z_R h126 o0 10 = some o123 := by rw [eh126]; exact eo123
  refine z_getR hc hB 11 10 g127 er128 (by decide) (by decide) rfl (z_l1 hc qfX12_47) dX12_init_193 ?_
  refine lv_iconst (v := (1 : Int32)) hx hb dX12_init_196 (by decide) ?_
  refine lv_ldc2 (v := (431415976301 : Int64)) hx hb hown (hts _ qkX12_101) dX12_init_197 ?_
  have g129 : z_ok h126 o123 14 = true := by rw [eh126]; exact g124
  replace hv := y_gd_e hv
  obtain ⟨i130, hv⟩ := hv
  replace hv := y_nm_e hv
  obtain ⟨h131, eh131, hv⟩ := hv
  refine y_last hc hB eh131 g129 i130 dX12_init_200 (fun H locs hB => ?_)
  refine lv_aload_n hx hb dX12_init_201 rfl (lv_at hl 0 rfl) ?_
  have g132 : z_ok h131 o0 11 = true := by rw [eh131]; exact g127
  have er133 : z_R h131 o0 10 = some o123 := by rw [eh131]; exact er128
  refine z_getR hc hB 11 10 g132 er133 (by decide) (by decide) rfl (z_l1 hc qfX12_47) dX12_init_202 ?_
  refine lv_iconst (v := (2 : Int32)) hx hb dX12_init_205 (by decide) ?_
  refine lv_ldc2 (v := (1919905645 : Int64)) hx hb hown (hts _ qkX12_103) dX12_init_206 ?_
  have g134 : z_ok h131 o123 14 = true := by rw [eh131]; exact g129
  replace hv := y_gd_e hv
  obtain ⟨i135, hv⟩ := hv
  replace hv := y_nm_e hv
  obtain ⟨h136, eh136, hv⟩ := hv
  refine y_last hc hB eh136 g134 i135 dX12_init_209 (fun H locs hB => ?_)
  refine lv_aload_n hx hb dX12_init_210 rfl (lv_at hl 0 rfl) ?_
  have g137 : z_ok h136 o0 11 = true := by rw [eh136]; exact g132
  have er138 : z_R h136 o0 10 = some o123 := by rw [eh136]; exact er133
  refine z_getR hc hB 11 10 g137 er138 (by decide) (by decide) rfl (z_l1 hc qfX12_47) dX12_init_211 ?_
  refine lv_iconst (v := (3 : Int32)) hx hb dX12_init_214 (by decide) ?_
  refine lv_ldc2 (v := (499985311076 : Int64)) hx hb hown (hts _ qkX12_105) dX12_init_215 ?_
  have g139 : z_ok h136 o123 14 = true := by rw [eh136]; exact g134
  replace hv := y_gd_e hv
  obtain ⟨i140, hv⟩ := hv
  replace hv := y_nm_e hv
  obtain ⟨h141, eh141, hv⟩ := hv
  refine y_last hc hB eh141 g139 i140 dX12_init_218 (fun H locs hB => ?_)
  refine lv_aload_n hx hb dX12_init_219 rfl (lv_at hl 0 rfl) ?_
  have g142 : z_ok h141 o0 11 = true := by rw [eh141]; exact g137
  have er143 : z_R h141 o0 10 = some o123 := by rw [eh141]; exact er138
  refine z_getR hc hB 11 10 g142 er143 (by decide) (by decide) rfl (z_l1 hc qfX12_47) dX12_init_220 ?_
  refine lv_iconst (v := (4 : Int32)) hx hb dX12_init_223 (by decide) ?_
  refine lv_ldc2 (v := (1937076837 : Int64)) hx hb hown (hts _ qkX12_107) dX12_init_224 ?_
  have g144 : z_ok h141 o123 14 = true := by rw [eh141]; exact g139
  replace hv := y_gd_e hv
  obtain ⟨i145, hv⟩ := hv
  replace hv := y_nm_e hv
  obtain ⟨h146, eh146, hv⟩ := hv
  refine y_last hc hB eh146 g144 i145 dX12_init_227 (fun H locs hB => ?_)
  refine lv_aload_n hx hb dX12_init_228 rfl (lv_at hl 0 rfl) ?_
  have g147 : z_ok h146 o0 11 = true := by rw [eh146]; exact g142
  have er148 : z_R h146 o0 10 = some o123 := by rw [eh146]; exact er143
  refine z_getR hc hB 11 10 g147 er148 (by decide) (by decide) rfl (z_l1 hc qfX12_47) dX12_init_229 ?_
  refine lv_iconst (v := (5 : Int32)) hx hb dX12_init_232 (by decide) ?_
  refine lv_ldc2 (v := (1818326117 : Int64)) hx hb hown (hts _ qkX12_109) dX12_init_233 ?_
  have g149 : z_ok h146 o123 14 = true := by rw [eh146]; exact g144
  replace hv := y_gd_e hv
  obtain ⟨i150, hv⟩ := hv
  replace hv := y_nm_e hv
  obtain ⟨h151, eh151, hv⟩ := hv
  refine y_last hc hB eh151 g149 i150 dX12_init_236 (fun H locs hB => ?_)
  refine lv_aload_n hx hb dX12_init_237 rfl (lv_at hl 0 rfl) ?_
  have g152 : z_ok h151 o0 11 = true := by rw [eh151]; exact g147
  have er153 : z_R h151 o0 10 = some o123 := by rw [eh151]; exact er148
  refine z_getR hc hB 11 10 g152 er153 (by decide) (by decide) rfl (z_l1 hc qfX12_47) dX12_init_238 ?_
  refine lv_bipush (v := (6 : Int32)) hx hb dX12_init_241 (by decide) ?_
  refine lv_ldc2 (v := (513021013607 : Int64)) hx hb hown (hts _ qkX12_111) dX12_init_243 ?_
  have g154 : z_ok h151 o123 14 = true := by rw [eh151]; exact g149
  replace hv := y_gd_e hv
  obtain ⟨i155, hv⟩ := hv
  replace hv := y_nm_e hv
  obtain ⟨h156, eh156, hv⟩ := hv
  refine y_last hc hB eh156 g154 i155 dX12_init_246 (fun H locs hB => ?_)
  refine lv_aload_n hx hb dX12_init_247 rfl (lv_at hl 0 rfl) ?_
  have g157 : z_ok h156 o0 11 = true := by rw [eh156]; exact g152
  have er158 : z_R h156 o0 10 = some o123 := by rw [eh156]; exact er153
  refine z_getR hc hB 11 10 g157 er158 (by decide) (by decide) rfl (z_l1 hc qfX12_47) dX12_init_248 ?_
  refine lv_bipush (v := (7 : Int32)) hx hb dX12_init_251 (by decide) ?_
  refine lv_ldc2 (v := (465557353070 : Int64)) hx hb hown (hts _ qkX12_113) dX12_init_253 ?_
  have g159 : z_ok h156 o123 14 = true := by rw [eh156]; exact g154
  replace hv := y_gd_e hv
  obtain ⟨i160, hv⟩ := hv
  replace hv := y_nm_e hv
  obtain ⟨h161, eh161, hv⟩ := hv
  refine y_last hc hB eh161 g159 i160 dX12_init_256 (fun H locs hB => ?_)
  refine lv_aload_n hx hb dX12_init_257 rfl (lv_at hl 0 rfl) ?_
  have g162 : z_ok h161 o0 11 = true := by rw [eh161]; exact g157
  have er163 : z_R h161 o0 10 = some o123 := by rw [eh161]; exact er158
  refine z_getR hc hB 11 10 g162 er163 (by decide) (by decide) rfl (z_l1 hc qfX12_47) dX12_init_258 ?_
  refine lv_bipush (v := (8 : Int32)) hx hb dX12_init_261 (by decide) ?_
  refine lv_ldc2 (v := (26990 : Int64)) hx hb hown (hts _ qkX12_115) dX12_init_263 ?_
  have g164 : z_ok h161 o123 14 = true := by rw [eh161]; exact g159
  replace hv := y_gd_e hv
  obtain ⟨i165, hv⟩ := hv
  replace hv := y_nm_e hv
  obtain ⟨h166, eh166, hv⟩ := hv
  refine y_last hc hB eh166 g164 i165 dX12_init_266 (fun H locs hB => ?_)
  refine lv_aload_n hx hb dX12_init_267 rfl (lv_at hl 0 rfl) ?_
  have g167 : z_ok h166 o0 11 = true := by rw [eh166]; exact g162
  have er168 : z_R h166 o0 10 = some o123 := by rw [eh166]; exact er163
  refine z_getR hc hB 11 10 g167 er168 (by decide) (by decide) rfl (z_l1 hc qfX12_47) dX12_init_268 ?_
  refine lv_bipush (v := (9 : Int32)) hx hb dX12_init_271 (by decide) ?_
  refine lv_ldc2 (v := (495873784179 : Int64)) hx hb hown (hts _ qkX12_117) dX12_init_273 ?_
  have g169 : z_ok h166 o123 14 = true := by rw [eh166]; exact g164
  replace hv := y_gd_e hv
  obtain ⟨i170, hv⟩ := hv
  replace hv := y_nm_e hv
  obtain ⟨h171, eh171, hv⟩ := hv
  refine y_last hc hB eh171 g169 i170 dX12_init_276 (fun H locs hB => ?_)
  refine lv_aload_n hx hb dX12_init_277 rfl (lv_at hl 0 rfl) ?_
  have g172 : z_ok h171 o0 11 = true := by rw [eh171]; exact g167
  have er173 : z_R h171 o0 10 = some o123 := by rw [eh171]; exact er168
  refine z_getR hc hB 11 10 g172 er173 (by decide) (by decide) rfl (z_l1 hc qfX12_47) dX12_init_278 ?_
  refine lv_bipush (v := (10 : Int32)) hx hb dX12_init_281 (by decide) ?_
  refine lv_ldc2 (v := (470021465459 : Int64)) hx hb hown (hts _ qkX12_119) dX12_init_283 ?_
  have g174 : z_ok h171 o123 14 = true := by rw [eh171]; exact g169
  replace hv := y_gd_e hv
  obtain ⟨i175, hv⟩ := hv
  replace hv := y_nm_e hv
  obtain ⟨h176, eh176, hv⟩ := hv
  refine y_last hc hB eh176 g174 i175 dX12_init_286 (fun H locs hB => ?_)
  refine lv_aload_n hx hb dX12_init_287 rfl (lv_at hl 0 rfl) ?_
  have g177 : z_ok h176 o0 11 = true := by rw [eh176]; exact g172
  have er178 : z_R h176 o0 10 = some o123 := by rw [eh176]; exact er173
  refine z_getR hc hB 11 10 g177 er178 (by decide) (by decide) rfl (z_l1 hc qfX12_47) dX12_init_288 ?_
  refine lv_bipush (v := (11 : Int32)) hx hb dX12_init_291 (by decide) ?_
  refine lv_ldc2 (v := (30064 : Int64)) hx hb hown (hts _ qkX12_121) dX12_init_293 ?_
  have g179 : z_ok h176 o123 14 = true := by rw [eh176]; exact g174
  replace hv := y_gd_e hv
  obtain ⟨i180, hv⟩ := hv
  replace hv := y_nm_e hv
  obtain ⟨h181, eh181, hv⟩ := hv
  refine y_last hc hB eh181 g179 i180 dX12_init_296 (fun H locs hB => ?_)
  refine lv_aload_n hx hb dX12_init_297 rfl (lv_at hl 0 rfl) ?_
  have g182 : z_ok h181 o0 11 = true := by rw [eh181]; exact g177
  have er183 : z_R h181 o0 10 = some o123 := by rw [eh181]; exact er178
  refine z_getR hc hB 11 10 g182 er183 (by decide) (by decide) rfl (z_l1 hc qfX12_47) dX12_init_298 ?_
  refine lv_bipush (v := (12 : Int32)) hx hb dX12_init_301 (by decide) ?_
  refine lv_ldc2 (v := (6448484 : Int64)) hx hb hown (hts _ qkX12_123) dX12_init_303 ?_
  have g184 : z_ok h181 o123 14 = true := by rw [eh181]; exact g179
  replace hv := y_gd_e hv
  obtain ⟨i185, hv⟩ := hv
  replace hv := y_nm_e hv
  obtain ⟨h186, eh186, hv⟩ := hv
  refine y_last hc hB eh186 g184 i185 dX12_init_306 (fun H locs hB => ?_)
  refine lv_aload_n hx hb dX12_init_307 rfl (lv_at hl 0 rfl) ?_
  have g187 : z_ok h186 o0 11 = true := by rw [eh186]; exact g182
  have er188 : z_R h186 o0 10 = some o123 := by rw [eh186]; exact er183
  refine z_getR hc hB 11 10 g187 er188 (by decide) (by decide) rfl (z_l1 hc qfX12_47) dX12_init_308 ?_
  refine lv_bipush (v := (13 : Int32)) hx hb dX12_init_311 (by decide) ?_
  refine lv_ldc2 (v := (28530 : Int64)) hx hb hown (hts _ qkX12_125) dX12_init_313 ?_
  have g189 : z_ok h186 o123 14 = true := by rw [eh186]; exact g184
  replace hv := y_gd_e hv
  obtain ⟨i190, hv⟩ := hv
  replace hv := y_nm_e hv
  obtain ⟨h191, eh191, hv⟩ := hv
  refine y_last hc hB eh191 g189 i190 dX12_init_316 (fun H locs hB => ?_)
  refine lv_aload_n hx hb dX12_init_317 rfl (lv_at hl 0 rfl) ?_
  have g192 : z_ok h191 o0 11 = true := by rw [eh191]; exact g187
  have er193 : z_R h191 o0 10 = some o123 := by rw [eh191]; exact er188
  refine z_getR hc hB 11 10 g192 er193 (by decide) (by decide) rfl (z_l1 hc qfX12_47) dX12_init_318 ?_
  refine lv_bipush (v := (14 : Int32)) hx hb dX12_init_321 (by decide) ?_
  refine lv_ldc2 (v := (6385252 : Int64)) hx hb hown (hts _ qkX12_127) dX12_init_323 ?_
  have g194 : z_ok h191 o123 14 = true := by rw [eh191]; exact g189
  replace hv := y_gd_e hv
  obtain ⟨i195, hv⟩ := hv
  replace hv := y_nm_e hv
  obtain ⟨h196, eh196, hv⟩ := hv
  refine y_last hc hB eh196 g194 i195 dX12_init_326 (fun H locs hB => ?_)
  refine lv_aload_n hx hb dX12_init_327 rfl (lv_at hl 0 rfl) ?_
  have g197 : z_ok h196 o0 11 = true := by rw [eh196]; exact g192
  have er198 : z_R h196 o0 10 = some o123 := by rw [eh196]; exact er193
  refine z_getR hc hB 11 10 g197 er198 (by decide) (by decide) rfl (z_l1 hc qfX12_47) dX12_init_328 ?_
  refine lv_bipush (v := (15 : Int32)) hx hb dX12_init_331 (by decide) ?_
  refine lv_ldc2 (v := (7237492 : Int64)) hx hb hown (hts _ qkX12_129) dX12_init_333 ?_
  have g199 : z_ok h196 o123 14 = true := by rw [eh196]; exact g194
  replace hv := y_gd_e hv
  obtain ⟨i200, hv⟩ := hv
  replace hv := y_nm_e hv
  obtain ⟨h201, eh201, hv⟩ := hv
  refine y_last hc hB eh201 g199 i200 dX12_init_336 (fun H locs hB => ?_)
  refine lv_aload_n hx hb dX12_init_337 rfl (lv_at hl 0 rfl) ?_
  have g202 : z_ok h201 o0 11 = true := by rw [eh201]; exact g197
  have er203 : z_R h201 o0 10 = some o123 := by rw [eh201]; exact er198
  refine z_getR hc hB 11 10 g202 er203 (by decide) (by decide) rfl (z_l1 hc qfX12_47) dX12_init_338 ?_
  refine lv_bipush (v := (16 : Int32)) hx hb dX12_init_341 (by decide) ?_
  refine lv_ldc2 (v := (1735356260 : Int64)) hx hb hown (hts _ qkX12_131) dX12_init_343 ?_
  have g204 : z_ok h201 o123 14 = true := by rw [eh201]; exact g199
  replace hv := y_gd_e hv
  obtain ⟨i205, hv⟩ := hv
  replace hv := y_nm_e hv
  obtain ⟨h206, eh206, hv⟩ := hv
  refine y_last hc hB eh206 g204 i205 dX12_init_346 (fun H locs hB => ?_)
  refine lv_aload_n hx hb dX12_init_347 rfl (lv_at hl 0 rfl) ?_
  have g207 : z_ok h206 o0 11 = true := by rw [eh206]; exact g202
  have er208 : z_R h206 o0 10 = some o123 := by rw [eh206]; exact er203
  refine z_getR hc hB 11 10 g207 er208 (by decide) (by decide) rfl (z_l1 hc qfX12_47) dX12_init_348 ?_
  refine lv_bipush (v := (17 : Int32)) hx hb dX12_init_351 (by decide) ?_
  refine lv_ldc2 (v := (1801810036 : Int64)) hx hb hown (hts _ qkX12_133) dX12_init_353 ?_
  have g209 : z_ok h206 o123 14 = true := by rw [eh206]; exact g204
  replace hv := y_gd_e hv
  obtain ⟨i210, hv⟩ := hv
  replace hv := y_nm_e hv
  obtain ⟨h211, eh211, hv⟩ := hv
  refine y_last hc hB eh211 g209 i210 dX12_init_356 (fun H locs hB => ?_)
  refine lv_aload_n hx hb dX12_init_357 rfl (lv_at hl 0 rfl) ?_
  have g212 : z_ok h211 o0 11 = true := by rw [eh211]; exact g207
  have er213 : z_R h211 o0 10 = some o123 := by rw [eh211]; exact er208
  refine z_getR hc hB 11 10 g212 er213 (by decide) (by decide) rfl (z_l1 hc qfX12_47) dX12_init_358 ?_
  refine lv_bipush (v := (18 : Int32)) hx hb dX12_init_361 (by decide) ?_
  refine lv_ldc2 (v := (418548245860 : Int64)) hx hb hown (hts _ qkX12_135) dX12_init_363 ?_
  have g214 : z_ok h211 o123 14 = true := by rw [eh211]; exact g209
  replace hv := y_gd_e hv
  obtain ⟨i215, hv⟩ := hv
  replace hv := y_nm_e hv
  obtain ⟨h216, eh216, hv⟩ := hv
  refine y_last hc hB eh216 g214 i215 dX12_init_366 (fun H locs hB => ?_)
  refine lv_aload_n hx hb dX12_init_367 rfl (lv_at hl 0 rfl) ?_
  have g217 : z_ok h216 o0 11 = true := by rw [eh216]; exact g212
  have er218 : z_R h216 o0 10 = some o123 := by rw [eh216]; exact er213
  refine z_getR hc hB 11 10 g217 er218 (by decide) (by decide) rfl (z_l1 hc qfX12_47) dX12_init_368 ?_
  refine lv_bipush (v := (19 : Int32)) hx hb dX12_init_371 (by decide) ?_
  refine lv_ldc2 (v := (491495845235 : Int64)) hx hb hown (hts _ qkX12_137) dX12_init_373 ?_
  have g219 : z_ok h216 o123 14 = true := by rw [eh216]; exact g214
  replace hv := y_gd_e hv
  obtain ⟨i220, hv⟩ := hv
  replace hv := y_nm_e hv
  obtain ⟨h221, eh221, hv⟩ := hv
  refine y_last hc hB eh221 g219 i220 dX12_init_376 (fun H locs hB => ?_)
  refine lv_aload_n hx hb dX12_init_377 rfl (lv_at hl 0 rfl) ?_
  have g222 : z_ok h221 o0 11 = true := by rw [eh221]; exact g217
  have er223 : z_R h221 o0 10 = some o123 := by rw [eh221]; exact er218
  refine z_getR hc hB 11 10 g222 er223 (by decide) (by decide) rfl (z_l1 hc qfX12_47) dX12_init_378 ?_
  refine lv_bipush (v := (20 : Int32)) hx hb dX12_init_381 (by decide) ?_
  refine lv_ldc2 (v := (110442489933171 : Int64)) hx hb hown (hts _ qkX12_139) dX12_init_383 ?_
  have g224 : z_ok h221 o123 14 = true := by rw [eh221]; exact g219
  replace hv := y_gd_e hv
  obtain ⟨i225, hv⟩ := hv
  replace hv := y_nm_e hv
  obtain ⟨h226, eh226, hv⟩ := hv
  refine y_last hc hB eh226 g224 i225 dX12_init_386 (fun H locs hB => ?_)
  refine lv_aload_n hx hb dX12_init_387 rfl (lv_at hl 0 rfl) ?_
  have g227 : z_ok h226 o0 11 = true := by rw [eh226]; exact g222
  have er228 : z_R h226 o0 10 = some o123 := by rw [eh226]; exact er223
  refine z_getR hc hB 11 10 g227 er228 (by decide) (by decide) rfl (z_l1 hc qfX12_47) dX12_init_388 ?_
  refine lv_bipush (v := (21 : Int32)) hx hb dX12_init_391 (by decide) ?_
  refine lv_ldc2 (v := (482854658917 : Int64)) hx hb hown (hts _ qkX12_141) dX12_init_393 ?_
  have g229 : z_ok h226 o123 14 = true := by rw [eh226]; exact g224
  replace hv := y_gd_e hv
  obtain ⟨i230, hv⟩ := hv
  replace hv := y_nm_e hv
  obtain ⟨h231, eh231, hv⟩ := hv
  refine y_last hc hB eh231 g229 i230 dX12_init_396 (fun H locs hB => ?_)
  refine lv_aload_n hx hb dX12_init_397 rfl (lv_at hl 0 rfl) ?_
  replace hv := y_bi_e hv
  obtain ⟨h233, c232, hv⟩ := hv
  have g234 : z_ok h231 o0 11 = true := by rw [eh231]; exact g227
  refine z_thV hc hB (z_runV (rest := []) hc hB 11 (mm_X12_clears hSK l ad o0 h231 c232) md_X12_clears qmX12_143 g234 (by decide) rfl rfl rfl ⟨Nat.le_of_ble_eq_true rfl, Nat.le_of_ble_eq_true rfl⟩ rfl hl.1 rfl (Nat.le_of_ble_eq_true rfl) dX12_init_398 ⟨Nat.le_of_ble_eq_true rfl, Nat.le_of_ble_eq_true rfl⟩) (fun H locs hB => ?_)
  refine lv_iconst (v := (0 : Int32)) hx hb dX12_init_401 (by decide) ?_
  refine lv_istore_n (lv' := [(1, .int (0 : Int32)), (0, .ref (ad o0))]) hx hb dX12_init_402 rfl hl (by decide) rfl (fun ls hl => ?_)
  replace hv := y_lp_e hv
  obtain ⟨n, hv⟩ := hv
  exact L403 n (0 : Int32) h233 _ _ _ hB (lv_sub hl [1, 0] rfl) _ hv kt
