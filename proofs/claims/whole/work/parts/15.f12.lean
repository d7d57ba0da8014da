/-! FACTS, by program: methods, straight stretches, branches, links -/
def MX12_init : Ms := (yX12_init, cX12_init, 2, none, [])
set_option maxRecDepth 100000 in
theorem kX12_init : mkI MX12_init 0 := ⟨⟨List.mem_of_getElem? (i := 1409) (by rfl), by decide +kernel⟩, by decide +kernel⟩
theorem sX12_init_0 : dsOk (MN MX12_init).cls (MB MX12_init) 0 [(.aload_n 0, 0, 0, 0)] 1 = true := by decide +kernel
theorem dX12_init_1 : decode (MB MX12_init) 1 = .ok (.invokespecial 1, 3) := by decide +kernel
theorem sX12_init_4 : dsOk (MN MX12_init).cls (MB MX12_init) 4 [(.aload_n 0, 0, 0, 0), (.bipush 7, 0, 0, 7)] 7 = true := by decide +kernel
theorem dX12_init_7 : decode (MB MX12_init) 7 = .ok (.anewarray 7, 3) := by decide +kernel
theorem sX12_init_10 : dsOk (MN MX12_init).cls (MB MX12_init) 10 [(.dup, 0, 0, 0), (.iconst 0, 0, 0, 0)] 12 = true := by decide +kernel
theorem dX12_init_12 : decode (MB MX12_init) 12 = .ok (.ldc 9, 2) := by decide +kernel
theorem dX12_init_14 : decode (MB MX12_init) 14 = .ok (.aastore, 1) := by decide +kernel
theorem sX12_init_15 : dsOk (MN MX12_init).cls (MB MX12_init) 15 [(.dup, 0, 0, 0), (.iconst 1, 0, 0, 0)] 17 = true := by decide +kernel
theorem dX12_init_17 : decode (MB MX12_init) 17 = .ok (.ldc 11, 2) := by decide +kernel
theorem dX12_init_19 : decode (MB MX12_init) 19 = .ok (.aastore, 1) := by decide +kernel
theorem sX12_init_20 : dsOk (MN MX12_init).cls (MB MX12_init) 20 [(.dup, 0, 0, 0), (.iconst 2, 0, 0, 0)] 22 = true := by decide +kernel
theorem dX12_init_22 : decode (MB MX12_init) 22 = .ok (.ldc 13, 2) := by decide +kernel
theorem dX12_init_24 : decode (MB MX12_init) 24 = .ok (.aastore, 1) := by decide +kernel
theorem sX12_init_25 : dsOk (MN MX12_init).cls (MB MX12_init) 25 [(.dup, 0, 0, 0), (.iconst 3, 0, 0, 0)] 27 = true := by decide +kernel
theorem dX12_init_27 : decode (MB MX12_init) 27 = .ok (.ldc 15, 2) := by decide +kernel
theorem dX12_init_29 : decode (MB MX12_init) 29 = .ok (.aastore, 1) := by decide +kernel
theorem sX12_init_30 : dsOk (MN MX12_init).cls (MB MX12_init) 30 [(.dup, 0, 0, 0), (.iconst 4, 0, 0, 0)] 32 = true := by decide +kernel
theorem dX12_init_32 : decode (MB MX12_init) 32 = .ok (.ldc 17, 2) := by decide +kernel
theorem dX12_init_34 : decode (MB MX12_init) 34 = .ok (.aastore, 1) := by decide +kernel
theorem sX12_init_35 : dsOk (MN MX12_init).cls (MB MX12_init) 35 [(.dup, 0, 0, 0), (.iconst 5, 0, 0, 0)] 37 = true := by decide +kernel
theorem dX12_init_37 : decode (MB MX12_init) 37 = .ok (.ldc 19, 2) := by decide +kernel
theorem dX12_init_39 : decode (MB MX12_init) 39 = .ok (.aastore, 1) := by decide +kernel
theorem sX12_init_40 : dsOk (MN MX12_init).cls (MB MX12_init) 40 [(.dup, 0, 0, 0), (.bipush 6, 0, 0, 6)] 43 = true := by decide +kernel
theorem dX12_init_43 : decode (MB MX12_init) 43 = .ok (.ldc 21, 2) := by decide +kernel
theorem dX12_init_45 : decode (MB MX12_init) 45 = .ok (.aastore, 1) := by decide +kernel
theorem dX12_init_46 : decode (MB MX12_init) 46 = .ok (.putfield 23, 3) := by decide +kernel
theorem sX12_init_49 : dsOk (MN MX12_init).cls (MB MX12_init) 49 [(.aload_n 0, 0, 0, 0), (.iconst 4, 0, 0, 0)] 51 = true := by decide +kernel
theorem dX12_init_51 : decode (MB MX12_init) 51 = .ok (.anewarray 7, 3) := by decide +kernel
theorem sX12_init_54 : dsOk (MN MX12_init).cls (MB MX12_init) 54 [(.dup, 0, 0, 0), (.iconst 0, 0, 0, 0)] 56 = true := by decide +kernel
theorem dX12_init_56 : decode (MB MX12_init) 56 = .ok (.ldc 29, 2) := by decide +kernel
theorem dX12_init_58 : decode (MB MX12_init) 58 = .ok (.aastore, 1) := by decide +kernel
theorem sX12_init_59 : dsOk (MN MX12_init).cls (MB MX12_init) 59 [(.dup, 0, 0, 0), (.iconst 1, 0, 0, 0)] 61 = true := by decide +kernel
theorem dX12_init_61 : decode (MB MX12_init) 61 = .ok (.ldc 31, 2) := by decide +kernel
theorem dX12_init_63 : decode (MB MX12_init) 63 = .ok (.aastore, 1) := by decide +kernel
theorem sX12_init_64 : dsOk (MN MX12_init).cls (MB MX12_init) 64 [(.dup, 0, 0, 0), (.iconst 2, 0, 0, 0)] 66 = true := by decide +kernel
theorem dX12_init_66 : decode (MB MX12_init) 66 = .ok (.ldc 33, 2) := by decide +kernel
theorem dX12_init_68 : decode (MB MX12_init) 68 = .ok (.aastore, 1) := by decide +kernel
theorem sX12_init_69 : dsOk (MN MX12_init).cls (MB MX12_init) 69 [(.dup, 0, 0, 0), (.iconst 3, 0, 0, 0)] 71 = true := by decide +kernel
theorem dX12_init_71 : decode (MB MX12_init) 71 = .ok (.ldc 35, 2) := by decide +kernel
theorem dX12_init_73 : decode (MB MX12_init) 73 = .ok (.aastore, 1) := by decide +kernel
theorem dX12_init_74 : decode (MB MX12_init) 74 = .ok (.putfield 37, 3) := by decide +kernel
theorem sX12_init_77 : dsOk (MN MX12_init).cls (MB MX12_init) 77 [(.aload_n 0, 0, 0, 0), (.iconst 4, 0, 0, 0)] 79 = true := by decide +kernel
theorem dX12_init_79 : decode (MB MX12_init) 79 = .ok (.newarray .int, 2) := by decide +kernel
theorem dX12_init_81 : decode (MB MX12_init) 81 = .ok (.putfield 40, 3) := by decide +kernel
theorem sX12_init_84 : dsOk (MN MX12_init).cls (MB MX12_init) 84 [(.aload_n 0, 0, 0, 0), (.bipush 12, 0, 0, 12)] 87 = true := by decide +kernel
theorem dX12_init_87 : decode (MB MX12_init) 87 = .ok (.newarray .int, 2) := by decide +kernel
theorem dX12_init_89 : decode (MB MX12_init) 89 = .ok (.putfield 43, 3) := by decide +kernel
theorem sX12_init_92 : dsOk (MN MX12_init).cls (MB MX12_init) 92 [(.aload_n 0, 0, 0, 0), (.bipush 12, 0, 0, 12)] 95 = true := by decide +kernel
theorem dX12_init_95 : decode (MB MX12_init) 95 = .ok (.newarray .int, 2) := by decide +kernel
theorem dX12_init_97 : decode (MB MX12_init) 97 = .ok (.putfield 46, 3) := by decide +kernel
theorem sX12_init_100 : dsOk (MN MX12_init).cls (MB MX12_init) 100 [(.aload_n 0, 0, 0, 0), (.bipush 12, 0, 0, 12)] 103 = true := by decide +kernel
theorem dX12_init_103 : decode (MB MX12_init) 103 = .ok (.newarray .int, 2) := by decide +kernel
theorem dX12_init_105 : decode (MB MX12_init) 105 = .ok (.putfield 49, 3) := by decide +kernel
theorem sX12_init_108 : dsOk (MN MX12_init).cls (MB MX12_init) 108 [(.aload_n 0, 0, 0, 0), (.bipush 12, 0, 0, 12)] 111 = true := by decide +kernel
theorem dX12_init_111 : decode (MB MX12_init) 111 = .ok (.newarray .int, 2) := by decide +kernel
theorem dX12_init_113 : decode (MB MX12_init) 113 = .ok (.putfield 51, 3) := by decide +kernel
theorem sX12_init_116 : dsOk (MN MX12_init).cls (MB MX12_init) 116 [(.aload_n 0, 0, 0, 0), (.sipush 720, 0, 0, 720)] 120 = true := by decide +kernel
theorem dX12_init_120 : decode (MB MX12_init) 120 = .ok (.newarray .int, 2) := by decide +kernel
theorem dX12_init_122 : decode (MB MX12_init) 122 = .ok (.putfield 54, 3) := by decide +kernel
theorem sX12_init_125 : dsOk (MN MX12_init).cls (MB MX12_init) 125 [(.aload_n 0, 0, 0, 0), (.bipush 16, 0, 0, 16)] 128 = true := by decide +kernel
theorem dX12_init_128 : decode (MB MX12_init) 128 = .ok (.newarray .int, 2) := by decide +kernel
theorem dX12_init_130 : decode (MB MX12_init) 130 = .ok (.putfield 57, 3) := by decide +kernel
theorem sX12_init_133 : dsOk (MN MX12_init).cls (MB MX12_init) 133 [(.aload_n 0, 0, 0, 0), (.bipush 16, 0, 0, 16)] 136 = true := by decide +kernel
theorem dX12_init_136 : decode (MB MX12_init) 136 = .ok (.newarray .int, 2) := by decide +kernel
theorem dX12_init_138 : decode (MB MX12_init) 138 = .ok (.putfield 60, 3) := by decide +kernel
theorem sX12_init_141 : dsOk (MN MX12_init).cls (MB MX12_init) 141 [(.aload_n 0, 0, 0, 0), (.sipush 480, 0, 0, 480)] 145 = true := by decide +kernel
theorem dX12_init_145 : decode (MB MX12_init) 145 = .ok (.newarray .int, 2) := by decide +kernel
theorem dX12_init_147 : decode (MB MX12_init) 147 = .ok (.putfield 63, 3) := by decide +kernel
theorem sX12_init_150 : dsOk (MN MX12_init).cls (MB MX12_init) 150 [(.aload_n 0, 0, 0, 0), (.bipush 20, 0, 0, 20)] 153 = true := by decide +kernel
theorem dX12_init_153 : decode (MB MX12_init) 153 = .ok (.newarray .int, 2) := by decide +kernel
theorem dX12_init_155 : decode (MB MX12_init) 155 = .ok (.putfield 66, 3) := by decide +kernel
theorem sX12_init_158 : dsOk (MN MX12_init).cls (MB MX12_init) 158 [(.aload_n 0, 0, 0, 0), (.bipush 12, 0, 0, 12)] 161 = true := by decide +kernel
theorem dX12_init_161 : decode (MB MX12_init) 161 = .ok (.newarray .int, 2) := by decide +kernel
theorem dX12_init_163 : decode (MB MX12_init) 163 = .ok (.putfield 69, 3) := by decide +kernel
theorem sX12_init_166 : dsOk (MN MX12_init).cls (MB MX12_init) 166 [(.aload_n 0, 0, 0, 0), (.bipush 12, 0, 0, 12)] 169 = true := by decide +kernel
theorem dX12_init_169 : decode (MB MX12_init) 169 = .ok (.newarray .int, 2) := by decide +kernel
theorem dX12_init_171 : decode (MB MX12_init) 171 = .ok (.putfield 72, 3) := by decide +kernel
theorem sX12_init_174 : dsOk (MN MX12_init).cls (MB MX12_init) 174 [(.aload_n 0, 0, 0, 0), (.sipush 1000, 0, 0, 1000)] 178 = true := by decide +kernel
theorem dX12_init_178 : decode (MB MX12_init) 178 = .ok (.newarray .int, 2) := by decide +kernel
theorem dX12_init_180 : decode (MB MX12_init) 180 = .ok (.putfield 75, 3) := by decide +kernel
theorem sX12_init_183 : dsOk (MN MX12_init).cls (MB MX12_init) 183 [(.aload_n 0, 0, 0, 0), (.iconst 4, 0, 0, 0)] 185 = true := by decide +kernel
theorem dX12_init_185 : decode (MB MX12_init) 185 = .ok (.newarray .int, 2) := by decide +kernel
theorem dX12_init_187 : decode (MB MX12_init) 187 = .ok (.putfield 78, 3) := by decide +kernel
theorem sX12_init_190 : dsOk (MN MX12_init).cls (MB MX12_init) 190 [(.aload_n 0, 0, 0, 0), (.sipush 500, 0, 0, 500)] 194 = true := by decide +kernel
theorem dX12_init_194 : decode (MB MX12_init) 194 = .ok (.newarray .int, 2) := by decide +kernel
theorem dX12_init_196 : decode (MB MX12_init) 196 = .ok (.putfield 81, 3) := by decide +kernel
theorem sX12_init_199 : dsOk (MN MX12_init).cls (MB MX12_init) 199 [(.aload_n 0, 0, 0, 0), (.iconst (-1), 0, 0, 0), (.putfield 84, 11, 28, 0), (.aload_n 0, 0, 0, 0), (.iconst 4, 0, 0, 0)] 206 = true := by decide +kernel
theorem dX12_init_206 : decode (MB MX12_init) 206 = .ok (.newarray .int, 2) := by decide +kernel
theorem dX12_init_208 : decode (MB MX12_init) 208 = .ok (.putfield 88, 3) := by decide +kernel
theorem sX12_init_211 : dsOk (MN MX12_init).cls (MB MX12_init) 211 [(.aload_n 0, 0, 0, 0), (.bipush 64, 0, 0, 64)] 214 = true := by decide +kernel
theorem dX12_init_214 : decode (MB MX12_init) 214 = .ok (.newarray .int, 2) := by decide +kernel
theorem dX12_init_216 : decode (MB MX12_init) 216 = .ok (.putfield 91, 3) := by decide +kernel
theorem sX12_init_219 : dsOk (MN MX12_init).cls (MB MX12_init) 219 [(.aload_n 0, 0, 0, 0), (.sipush 720, 0, 0, 720)] 223 = true := by decide +kernel
theorem dX12_init_223 : decode (MB MX12_init) 223 = .ok (.newarray .int, 2) := by decide +kernel
theorem dX12_init_225 : decode (MB MX12_init) 225 = .ok (.putfield 94, 3) := by decide +kernel
theorem sX12_init_228 : dsOk (MN MX12_init).cls (MB MX12_init) 228 [(.aload_n 0, 0, 0, 0), (.sipush 720, 0, 0, 720)] 232 = true := by decide +kernel
theorem dX12_init_232 : decode (MB MX12_init) 232 = .ok (.newarray .int, 2) := by decide +kernel
theorem dX12_init_234 : decode (MB MX12_init) 234 = .ok (.putfield 97, 3) := by decide +kernel
theorem sX12_init_237 : dsOk (MN MX12_init).cls (MB MX12_init) 237 [(.aload_n 0, 0, 0, 0), (.sipush 720, 0, 0, 720)] 241 = true := by decide +kernel
theorem dX12_init_241 : decode (MB MX12_init) 241 = .ok (.newarray .boolean, 2) := by decide +kernel
theorem dX12_init_243 : decode (MB MX12_init) 243 = .ok (.putfield 100, 3) := by decide +kernel
theorem sX12_init_246 : dsOk (MN MX12_init).cls (MB MX12_init) 246 [(.aload_n 0, 0, 0, 0), (.bipush 6, 0, 0, 6)] 249 = true := by decide +kernel
theorem dX12_init_249 : decode (MB MX12_init) 249 = .ok (.newarray .long, 2) := by decide +kernel
theorem dX12_init_251 : decode (MB MX12_init) 251 = .ok (.putfield 104, 3) := by decide +kernel
theorem sX12_init_254 : dsOk (MN MX12_init).cls (MB MX12_init) 254 [(.aload_n 0, 0, 0, 0), (.bipush 6, 0, 0, 6)] 257 = true := by decide +kernel
theorem dX12_init_257 : decode (MB MX12_init) 257 = .ok (.newarray .long, 2) := by decide +kernel
theorem dX12_init_259 : decode (MB MX12_init) 259 = .ok (.putfield 108, 3) := by decide +kernel
theorem sX12_init_262 : dsOk (MN MX12_init).cls (MB MX12_init) 262 [(.aload_n 0, 0, 0, 0), (.ldc 111, 0, 0, 55800)] 265 = true := by decide +kernel
theorem dX12_init_265 : decode (MB MX12_init) 265 = .ok (.newarray .long, 2) := by decide +kernel
theorem dX12_init_267 : decode (MB MX12_init) 267 = .ok (.putfield 112, 3) := by decide +kernel
theorem sX12_init_270 : dsOk (MN MX12_init).cls (MB MX12_init) 270 [(.aload_n 0, 0, 0, 0), (.bipush 10, 0, 0, 10)] 273 = true := by decide +kernel
theorem dX12_init_273 : decode (MB MX12_init) 273 = .ok (.newarray .int, 2) := by decide +kernel
theorem dX12_init_275 : decode (MB MX12_init) 275 = .ok (.putfield 115, 3) := by decide +kernel
theorem sX12_init_278 : dsOk (MN MX12_init).cls (MB MX12_init) 278 [(.aload_n 0, 0, 0, 0), (.bipush 20, 0, 0, 20)] 281 = true := by decide +kernel
theorem dX12_init_281 : decode (MB MX12_init) 281 = .ok (.newarray .int, 2) := by decide +kernel
theorem dX12_init_283 : decode (MB MX12_init) 283 = .ok (.putfield 118, 3) := by decide +kernel
theorem sX12_init_286 : dsOk (MN MX12_init).cls (MB MX12_init) 286 [(.aload_n 0, 0, 0, 0), (.bipush 20, 0, 0, 20)] 289 = true := by decide +kernel
theorem dX12_init_289 : decode (MB MX12_init) 289 = .ok (.newarray .int, 2) := by decide +kernel
theorem dX12_init_291 : decode (MB MX12_init) 291 = .ok (.putfield 121, 3) := by decide +kernel
theorem sX12_init_294 : dsOk (MN MX12_init).cls (MB MX12_init) 294 [(.aload_n 0, 0, 0, 0), (.bipush 30, 0, 0, 30)] 297 = true := by decide +kernel
theorem dX12_init_297 : decode (MB MX12_init) 297 = .ok (.newarray .int, 2) := by decide +kernel
theorem dX12_init_299 : decode (MB MX12_init) 299 = .ok (.putfield 124, 3) := by decide +kernel
theorem sX12_init_302 : dsOk (MN MX12_init).cls (MB MX12_init) 302 [(.aload_n 0, 0, 0, 0), (.bipush 10, 0, 0, 10)] 305 = true := by decide +kernel
theorem dX12_init_305 : decode (MB MX12_init) 305 = .ok (.newarray .int, 2) := by decide +kernel
theorem dX12_init_307 : decode (MB MX12_init) 307 = .ok (.putfield 127, 3) := by decide +kernel
theorem sX12_init_310 : dsOk (MN MX12_init).cls (MB MX12_init) 310 [(.aload_n 0, 0, 0, 0), (.bipush 10, 0, 0, 10)] 313 = true := by decide +kernel
theorem dX12_init_313 : decode (MB MX12_init) 313 = .ok (.newarray .int, 2) := by decide +kernel
theorem dX12_init_315 : decode (MB MX12_init) 315 = .ok (.putfield 130, 3) := by decide +kernel
theorem sX12_init_318 : dsOk (MN MX12_init).cls (MB MX12_init) 318 [(.aload_n 0, 0, 0, 0), (.iconst 4, 0, 0, 0)] 320 = true := by decide +kernel
theorem dX12_init_320 : decode (MB MX12_init) 320 = .ok (.newarray .int, 2) := by decide +kernel
theorem dX12_init_322 : decode (MB MX12_init) 322 = .ok (.putfield 133, 3) := by decide +kernel
theorem sX12_init_325 : dsOk (MN MX12_init).cls (MB MX12_init) 325 [(.aload_n 0, 0, 0, 0), (.iconst 4, 0, 0, 0)] 327 = true := by decide +kernel
theorem dX12_init_327 : decode (MB MX12_init) 327 = .ok (.newarray .int, 2) := by decide +kernel
theorem dX12_init_329 : decode (MB MX12_init) 329 = .ok (.putfield 136, 3) := by decide +kernel
theorem sX12_init_332 : dsOk (MN MX12_init).cls (MB MX12_init) 332 [(.aload_n 0, 0, 0, 0), (.bipush 30, 0, 0, 30)] 335 = true := by decide +kernel
theorem dX12_init_335 : decode (MB MX12_init) 335 = .ok (.newarray .long, 2) := by decide +kernel
theorem dX12_init_337 : decode (MB MX12_init) 337 = .ok (.putfield 139, 3) := by decide +kernel
theorem sX12_init_340 : dsOk (MN MX12_init).cls (MB MX12_init) 340 [(.aload_n 0, 0, 0, 0), (.iconst 4, 0, 0, 0)] 342 = true := by decide +kernel
theorem dX12_init_342 : decode (MB MX12_init) 342 = .ok (.newarray .long, 2) := by decide +kernel
theorem dX12_init_344 : decode (MB MX12_init) 344 = .ok (.putfield 142, 3) := by decide +kernel
theorem sX12_init_347 : dsOk (MN MX12_init).cls (MB MX12_init) 347 [(.aload_n 0, 0, 0, 0), (.iconst (-1), 0, 0, 0), (.putfield 145, 11, 57, 0), (.aload_n 0, 0, 0, 0), (.iconst (-1), 0, 0, 0), (.putfield 148, 11, 58, 0), (.aload_n 0, 0, 0, 0), (.sipush 720, 0, 0, 720)] 361 = true := by decide +kernel
theorem dX12_init_361 : decode (MB MX12_init) 361 = .ok (.newarray .int, 2) := by decide +kernel
theorem dX12_init_363 : decode (MB MX12_init) 363 = .ok (.putfield 151, 3) := by decide +kernel
theorem sX12_init_366 : dsOk (MN MX12_init).cls (MB MX12_init) 366 [(.aload_n 0, 0, 0, 0), (.bipush 12, 0, 0, 12)] 369 = true := by decide +kernel
theorem dX12_init_369 : decode (MB MX12_init) 369 = .ok (.newarray .int, 2) := by decide +kernel
theorem dX12_init_371 : decode (MB MX12_init) 371 = .ok (.putfield 154, 3) := by decide +kernel
theorem sX12_init_374 : dsOk (MN MX12_init).cls (MB MX12_init) 374 [(.aload_n 0, 0, 0, 0), (.sipush 720, 0, 0, 720)] 378 = true := by decide +kernel
theorem dX12_init_378 : decode (MB MX12_init) 378 = .ok (.newarray .int, 2) := by decide +kernel
theorem dX12_init_380 : decode (MB MX12_init) 380 = .ok (.putfield 157, 3) := by decide +kernel
theorem sX12_init_383 : dsOk (MN MX12_init).cls (MB MX12_init) 383 [(.aload_n 0, 0, 0, 0), (.sipush 720, 0, 0, 720)] 387 = true := by decide +kernel
theorem dX12_init_387 : decode (MB MX12_init) 387 = .ok (.newarray .int, 2) := by decide +kernel
theorem dX12_init_389 : decode (MB MX12_init) 389 = .ok (.putfield 160, 3) := by decide +kernel
theorem sX12_init_392 : dsOk (MN MX12_init).cls (MB MX12_init) 392 [(.aload_n 0, 0, 0, 0), (.bipush 20, 0, 0, 20)] 395 = true := by decide +kernel
theorem dX12_init_395 : decode (MB MX12_init) 395 = .ok (.newarray .int, 2) := by decide +kernel
theorem dX12_init_397 : decode (MB MX12_init) 397 = .ok (.putfield 163, 3) := by decide +kernel
theorem sX12_init_400 : dsOk (MN MX12_init).cls (MB MX12_init) 400 [(.aload_n 0, 0, 0, 0), (.bipush 20, 0, 0, 20)] 403 = true := by decide +kernel
theorem dX12_init_403 : decode (MB MX12_init) 403 = .ok (.newarray .int, 2) := by decide +kernel
theorem dX12_init_405 : decode (MB MX12_init) 405 = .ok (.putfield 166, 3) := by decide +kernel
theorem sX12_init_408 : dsOk (MN MX12_init).cls (MB MX12_init) 408 [(.aload_n 0, 0, 0, 0), (.iconst 4, 0, 0, 0)] 410 = true := by decide +kernel
theorem dX12_init_410 : decode (MB MX12_init) 410 = .ok (.newarray .int, 2) := by decide +kernel
theorem dX12_init_412 : decode (MB MX12_init) 412 = .ok (.putfield 169, 3) := by decide +kernel
theorem sX12_init_415 : dsOk (MN MX12_init).cls (MB MX12_init) 415 [(.aload_n 0, 0, 0, 0), (.sipush 720, 0, 0, 720)] 419 = true := by decide +kernel
theorem dX12_init_419 : decode (MB MX12_init) 419 = .ok (.newarray .boolean, 2) := by decide +kernel
theorem dX12_init_421 : decode (MB MX12_init) 421 = .ok (.putfield 172, 3) := by decide +kernel
theorem sX12_init_424 : dsOk (MN MX12_init).cls (MB MX12_init) 424 [(.iconst 0, 0, 0, 0), (.istore_n 1, 0, 0, 0)] 426 = true := by decide +kernel
theorem sX12_init_426 : dsOk (MN MX12_init).cls (MB MX12_init) 426 [(.iload_n 1, 0, 0, 0), (.bipush 10, 0, 0, 10)] 429 = true := by decide +kernel
theorem dX12_init_429 : decode (MB MX12_init) 429 = .ok (.if_icmp .ge 17, 3) := by decide +kernel
theorem sX12_init_432 : dsOk (MN MX12_init).cls (MB MX12_init) 432 [(.aload_n 0, 0, 0, 0), (.getfield 66, 11, 12, 0), (.iload_n 1, 0, 0, 0), (.bipush 100, 0, 0, 100), (.iastore, 0, 0, 0), (.iinc 1 1, 0, 0, 0)] 443 = true := by decide +kernel
theorem dX12_init_443 : decode (MB MX12_init) 443 = .ok (.goto (-17), 3) := by decide +kernel
theorem dX12_init_446 : decode (MB MX12_init) 446 = .ok (.return_, 1) := by decide +kernel
def MX12_thrown : Ms := (yX12_thrown, cX12_thrown, 1, (some .int), [])
set_option maxRecDepth 100000 in
theorem kX12_thrown : mkV MX12_thrown 0 := ⟨⟨List.mem_of_getElem? (i := 1658) (by rfl), by decide +kernel⟩, by decide +kernel⟩
theorem sX12_thrown_0 : dsOk (MN MX12_thrown).cls (MB MX12_thrown) 0 [(.aload_n 0, 0, 0, 0), (.getfield 175, 11, 2, 0)] 4 = true := by decide +kernel
theorem dX12_thrown_4 : decode (MB MX12_thrown) 4 = .ok (.ireturn, 1) := by decide +kernel
def MX12_fail : Ms := (yX12_fail, cX12_fail, 2, (some .int), [])
set_option maxRecDepth 100000 in
theorem kX12_fail : mkV MX12_fail 1 := ⟨⟨List.mem_of_getElem? (i := 1670) (by rfl), by decide +kernel⟩, by decide +kernel⟩
theorem sX12_fail_0 : dsOk (MN MX12_fail).cls (MB MX12_fail) 0 [(.aload_n 0, 0, 0, 0), (.iload_n 1, 0, 0, 0), (.putfield 175, 11, 2, 0), (.iconst 0, 0, 0, 0)] 6 = true := by decide +kernel
theorem dX12_fail_6 : decode (MB MX12_fail) 6 = .ok (.ireturn, 1) := by decide +kernel
def MX12_isIn : Ms := (yX12_isIn, cX12_isIn, 6, (some .boolean), [])
set_option maxRecDepth 100000 in
theorem kX12_isIn : mkS MX12_isIn 3 := ⟨⟨List.mem_of_getElem? (i := 1805) (by rfl), by decide +kernel⟩, by decide +kernel⟩
theorem sX12_isIn_0 : dsOk (MN MX12_isIn).cls (MB MX12_isIn) 0 [(.lload_n 0, 0, 0, 0), (.lload_n 2, 0, 0, 0), (.lcmp, 0, 0, 0)] 3 = true := by decide +kernel
theorem dX12_isIn_3 : decode (MB MX12_isIn) 3 = .ok (.ifCond .lt 14, 3) := by decide +kernel
theorem sX12_isIn_6 : dsOk (MN MX12_isIn).cls (MB MX12_isIn) 6 [(.lload_n 0, 0, 0, 0), (.lload 4, 0, 0, 0), (.lcmp, 0, 0, 0)] 10 = true := by decide +kernel
theorem dX12_isIn_10 : decode (MB MX12_isIn) 10 = .ok (.ifCond .gt 7, 3) := by decide +kernel
theorem sX12_isIn_13 : dsOk (MN MX12_isIn).cls (MB MX12_isIn) 13 [(.iconst 1, 0, 0, 0)] 14 = true := by decide +kernel
theorem dX12_isIn_14 : decode (MB MX12_isIn) 14 = .ok (.goto 4, 3) := by decide +kernel
theorem sX12_isIn_17 : dsOk (MN MX12_isIn).cls (MB MX12_isIn) 17 [(.iconst 0, 0, 0, 0)] 18 = true := by decide +kernel
theorem dX12_isIn_18 : decode (MB MX12_isIn) 18 = .ok (.ireturn, 1) := by decide +kernel
def MX12_isBook : Ms := (yX12_isBook, cX12_isBook, 2, (some .boolean), [])
set_option maxRecDepth 100000 in
theorem kX12_isBook : mkV MX12_isBook 1 := ⟨⟨List.mem_of_getElem? (i := 1813) (by rfl), by decide +kernel⟩, by decide +kernel⟩
theorem sX12_isBook_0 : dsOk (MN MX12_isBook).cls (MB MX12_isBook) 0 [(.iload_n 1, 0, 0, 0), (.i2l, 0, 0, 0), (.lconst 0, 0, 0, 0), (.aload_n 0, 0, 0, 0), (.getfield 40, 11, 3, 0), (.iconst 0, 0, 0, 0), (.iaload, 0, 0, 0), (.iconst 1, 0, 0, 0), (.isub, 0, 0, 0), (.i2l, 0, 0, 0)] 12 = true := by decide +kernel
theorem dX12_isBook_12 : decode (MB MX12_isBook) 12 = .ok (.invokestatic 178, 3) := by decide +kernel
theorem dX12_isBook_15 : decode (MB MX12_isBook) 15 = .ok (.ireturn, 1) := by decide +kernel
def MX12_feed : Ms := (yX12_feed, cX12_feed, 8, (some .int), [])
set_option maxRecDepth 100000 in
theorem kX12_feed : mkV MX12_feed 5 := ⟨⟨List.mem_of_getElem? (i := 1662) (by rfl), by decide +kernel⟩, by decide +kernel⟩
theorem sX12_feed_0 : dsOk (MN MX12_feed).cls (MB MX12_feed) 0 [(.aload_n 0, 0, 0, 0), (.iconst 0, 0, 0, 0), (.putfield 175, 11, 2, 0), (.aload_n 0, 0, 0, 0), (.getfield 182, 11, 18, 0), (.bipush 20, 0, 0, 20), (.iadd, 0, 0, 0), (.sipush 500, 0, 0, 500)] 15 = true := by decide +kernel
theorem dX12_feed_15 : decode (MB MX12_feed) 15 = .ok (.if_icmp .le 5, 3) := by decide +kernel
theorem sX12_feed_18 : dsOk (MN MX12_feed).cls (MB MX12_feed) 18 [(.iconst (-1), 0, 0, 0)] 19 = true := by decide +kernel
theorem dX12_feed_19 : decode (MB MX12_feed) 19 = .ok (.ireturn, 1) := by decide +kernel
theorem sX12_feed_20 : dsOk (MN MX12_feed).cls (MB MX12_feed) 20 [(.iconst 0, 0, 0, 0), (.istore 6, 0, 0, 0)] 23 = true := by decide +kernel
theorem sX12_feed_23 : dsOk (MN MX12_feed).cls (MB MX12_feed) 23 [(.iload 6, 0, 0, 0), (.bipush 20, 0, 0, 20)] 27 = true := by decide +kernel
theorem dX12_feed_27 : decode (MB MX12_feed) 27 = .ok (.if_icmp .ge 93, 3) := by decide +kernel
theorem sX12_feed_30 : dsOk (MN MX12_feed).cls (MB MX12_feed) 30 [(.iload 6, 0, 0, 0), (.iconst 4, 0, 0, 0)] 33 = true := by decide +kernel
theorem dX12_feed_33 : decode (MB MX12_feed) 33 = .ok (.if_icmp .ge 7, 3) := by decide +kernel
theorem sX12_feed_36 : dsOk (MN MX12_feed).cls (MB MX12_feed) 36 [(.iload_n 1, 0, 0, 0)] 37 = true := by decide +kernel
theorem dX12_feed_37 : decode (MB MX12_feed) 37 = .ok (.goto 39, 3) := by decide +kernel
theorem sX12_feed_40 : dsOk (MN MX12_feed).cls (MB MX12_feed) 40 [(.iload 6, 0, 0, 0), (.bipush 8, 0, 0, 8)] 44 = true := by decide +kernel
theorem dX12_feed_44 : decode (MB MX12_feed) 44 = .ok (.if_icmp .ge 7, 3) := by decide +kernel
theorem sX12_feed_47 : dsOk (MN MX12_feed).cls (MB MX12_feed) 47 [(.iload_n 2, 0, 0, 0)] 48 = true := by decide +kernel
theorem dX12_feed_48 : decode (MB MX12_feed) 48 = .ok (.goto 28, 3) := by decide +kernel
theorem sX12_feed_51 : dsOk (MN MX12_feed).cls (MB MX12_feed) 51 [(.iload 6, 0, 0, 0), (.bipush 12, 0, 0, 12)] 55 = true := by decide +kernel
theorem dX12_feed_55 : decode (MB MX12_feed) 55 = .ok (.if_icmp .ge 7, 3) := by decide +kernel
theorem sX12_feed_58 : dsOk (MN MX12_feed).cls (MB MX12_feed) 58 [(.iload_n 3, 0, 0, 0)] 59 = true := by decide +kernel
theorem dX12_feed_59 : decode (MB MX12_feed) 59 = .ok (.goto 17, 3) := by decide +kernel
theorem sX12_feed_62 : dsOk (MN MX12_feed).cls (MB MX12_feed) 62 [(.iload 6, 0, 0, 0), (.bipush 16, 0, 0, 16)] 66 = true := by decide +kernel
theorem dX12_feed_66 : decode (MB MX12_feed) 66 = .ok (.if_icmp .ge 8, 3) := by decide +kernel
theorem sX12_feed_69 : dsOk (MN MX12_feed).cls (MB MX12_feed) 69 [(.iload 4, 0, 0, 0)] 71 = true := by decide +kernel
theorem dX12_feed_71 : decode (MB MX12_feed) 71 = .ok (.goto 5, 3) := by decide +kernel
theorem sX12_feed_74 : dsOk (MN MX12_feed).cls (MB MX12_feed) 74 [(.iload 5, 0, 0, 0)] 76 = true := by decide +kernel
theorem sX12_feed_76 : dsOk (MN MX12_feed).cls (MB MX12_feed) 76 [(.istore 7, 0, 0, 0), (.aload_n 0, 0, 0, 0), (.getfield 81, 11, 17, 0), (.aload_n 0, 0, 0, 0), (.getfield 182, 11, 18, 0), (.iload 7, 0, 0, 0), (.bipush 24, 0, 0, 24), (.bipush 8, 0, 0, 8), (.iload 6, 0, 0, 0), (.iconst 4, 0, 0, 0), (.irem, 0, 0, 0), (.imul, 0, 0, 0), (.isub, 0, 0, 0), (.ishr, 0, 0, 0), (.sipush 255, 0, 0, 255), (.iand, 0, 0, 0), (.iastore, 0, 0, 0), (.aload_n 0, 0, 0, 0), (.dup, 0, 0, 0), (.getfield 182, 11, 18, 0), (.iconst 1, 0, 0, 0), (.iadd, 0, 0, 0), (.putfield 182, 11, 18, 0), (.iinc 6 1, 0, 0, 0)] 117 = true := by decide +kernel
theorem dX12_feed_117 : decode (MB MX12_feed) 117 = .ok (.goto (-94), 3) := by decide +kernel
theorem sX12_feed_120 : dsOk (MN MX12_feed).cls (MB MX12_feed) 120 [(.aload_n 0, 0, 0, 0), (.getfield 182, 11, 18, 0)] 124 = true := by decide +kernel
theorem dX12_feed_124 : decode (MB MX12_feed) 124 = .ok (.ireturn, 1) := by decide +kernel
def MX12_byteAt : Ms := (yX12_byteAt, cX12_byteAt, 2, (some .int), [])
set_option maxRecDepth 100000 in
theorem kX12_byteAt : mkV MX12_byteAt 1 := ⟨⟨List.mem_of_getElem? (i := 1678) (by rfl), by decide +kernel⟩, by decide +kernel⟩
theorem sX12_byteAt_0 : dsOk (MN MX12_byteAt).cls (MB MX12_byteAt) 0 [(.iload_n 1, 0, 0, 0), (.aload_n 0, 0, 0, 0), (.getfield 185, 11, 20, 0)] 5 = true := by decide +kernel
theorem dX12_byteAt_5 : decode (MB MX12_byteAt) 5 = .ok (.if_icmp .ge 12, 3) := by decide +kernel
theorem sX12_byteAt_8 : dsOk (MN MX12_byteAt).cls (MB MX12_byteAt) 8 [(.aload_n 0, 0, 0, 0), (.getfield 81, 11, 17, 0), (.iload_n 1, 0, 0, 0), (.iaload, 0, 0, 0)] 14 = true := by decide +kernel
theorem dX12_byteAt_14 : decode (MB MX12_byteAt) 14 = .ok (.goto 4, 3) := by decide +kernel
theorem sX12_byteAt_17 : dsOk (MN MX12_byteAt).cls (MB MX12_byteAt) 17 [(.iconst (-1), 0, 0, 0)] 18 = true := by decide +kernel
theorem dX12_byteAt_18 : decode (MB MX12_byteAt) 18 = .ok (.ireturn, 1) := by decide +kernel
def MX12_isLetter : Ms := (yX12_isLetter, cX12_isLetter, 1, (some .boolean), [])
set_option maxRecDepth 100000 in
theorem kX12_isLetter : mkS MX12_isLetter 1 := ⟨⟨List.mem_of_getElem? (i := 1681) (by rfl), by decide +kernel⟩, by decide +kernel⟩
theorem sX12_isLetter_0 : dsOk (MN MX12_isLetter).cls (MB MX12_isLetter) 0 [(.iload_n 0, 0, 0, 0), (.bipush 97, 0, 0, 97)] 3 = true := by decide +kernel
theorem dX12_isLetter_3 : decode (MB MX12_isLetter) 3 = .ok (.if_icmp .lt 13, 3) := by decide +kernel
theorem sX12_isLetter_6 : dsOk (MN MX12_isLetter).cls (MB MX12_isLetter) 6 [(.iload_n 0, 0, 0, 0), (.bipush 122, 0, 0, 122)] 9 = true := by decide +kernel
theorem dX12_isLetter_9 : decode (MB MX12_isLetter) 9 = .ok (.if_icmp .gt 7, 3) := by decide +kernel
theorem sX12_isLetter_12 : dsOk (MN MX12_isLetter).cls (MB MX12_isLetter) 12 [(.iconst 1, 0, 0, 0)] 13 = true := by decide +kernel
theorem dX12_isLetter_13 : decode (MB MX12_isLetter) 13 = .ok (.goto 4, 3) := by decide +kernel
theorem sX12_isLetter_16 : dsOk (MN MX12_isLetter).cls (MB MX12_isLetter) 16 [(.iconst 0, 0, 0, 0)] 17 = true := by decide +kernel
theorem dX12_isLetter_17 : decode (MB MX12_isLetter) 17 = .ok (.ireturn, 1) := by decide +kernel
def MX12_isDigit : Ms := (yX12_isDigit, cX12_isDigit, 1, (some .boolean), [])
set_option maxRecDepth 100000 in
theorem kX12_isDigit : mkS MX12_isDigit 1 := ⟨⟨List.mem_of_getElem? (i := 1684) (by rfl), by decide +kernel⟩, by decide +kernel⟩
theorem sX12_isDigit_0 : dsOk (MN MX12_isDigit).cls (MB MX12_isDigit) 0 [(.iload_n 0, 0, 0, 0), (.bipush 48, 0, 0, 48)] 3 = true := by decide +kernel
theorem dX12_isDigit_3 : decode (MB MX12_isDigit) 3 = .ok (.if_icmp .lt 13, 3) := by decide +kernel
theorem sX12_isDigit_6 : dsOk (MN MX12_isDigit).cls (MB MX12_isDigit) 6 [(.iload_n 0, 0, 0, 0), (.bipush 57, 0, 0, 57)] 9 = true := by decide +kernel
theorem dX12_isDigit_9 : decode (MB MX12_isDigit) 9 = .ok (.if_icmp .gt 7, 3) := by decide +kernel
theorem sX12_isDigit_12 : dsOk (MN MX12_isDigit).cls (MB MX12_isDigit) 12 [(.iconst 1, 0, 0, 0)] 13 = true := by decide +kernel
theorem dX12_isDigit_13 : decode (MB MX12_isDigit) 13 = .ok (.goto 4, 3) := by decide +kernel
theorem sX12_isDigit_16 : dsOk (MN MX12_isDigit).cls (MB MX12_isDigit) 16 [(.iconst 0, 0, 0, 0)] 17 = true := by decide +kernel
theorem dX12_isDigit_17 : decode (MB MX12_isDigit) 17 = .ok (.ireturn, 1) := by decide +kernel
def MX12_isMark : Ms := (yX12_isMark, cX12_isMark, 1, (some .boolean), [])
set_option maxRecDepth 100000 in
theorem kX12_isMark : mkS MX12_isMark 1 := ⟨⟨List.mem_of_getElem? (i := 1689) (by rfl), by decide +kernel⟩, by decide +kernel⟩
theorem sX12_isMark_0 : dsOk (MN MX12_isMark).cls (MB MX12_isMark) 0 [(.iload_n 0, 0, 0, 0), (.bipush 59, 0, 0, 59)] 3 = true := by decide +kernel
theorem dX12_isMark_3 : decode (MB MX12_isMark) 3 = .ok (.if_icmp .eq 51, 3) := by decide +kernel
theorem sX12_isMark_6 : dsOk (MN MX12_isMark).cls (MB MX12_isMark) 6 [(.iload_n 0, 0, 0, 0), (.bipush 40, 0, 0, 40)] 9 = true := by decide +kernel
theorem dX12_isMark_9 : decode (MB MX12_isMark) 9 = .ok (.if_icmp .eq 45, 3) := by decide +kernel
theorem sX12_isMark_12 : dsOk (MN MX12_isMark).cls (MB MX12_isMark) 12 [(.iload_n 0, 0, 0, 0), (.bipush 41, 0, 0, 41)] 15 = true := by decide +kernel
theorem dX12_isMark_15 : decode (MB MX12_isMark) 15 = .ok (.if_icmp .eq 39, 3) := by decide +kernel
theorem sX12_isMark_18 : dsOk (MN MX12_isMark).cls (MB MX12_isMark) 18 [(.iload_n 0, 0, 0, 0), (.bipush 43, 0, 0, 43)] 21 = true := by decide +kernel
theorem dX12_isMark_21 : decode (MB MX12_isMark) 21 = .ok (.if_icmp .eq 33, 3) := by decide +kernel
theorem sX12_isMark_24 : dsOk (MN MX12_isMark).cls (MB MX12_isMark) 24 [(.iload_n 0, 0, 0, 0), (.bipush 45, 0, 0, 45)] 27 = true := by decide +kernel
theorem dX12_isMark_27 : decode (MB MX12_isMark) 27 = .ok (.if_icmp .eq 27, 3) := by decide +kernel
theorem sX12_isMark_30 : dsOk (MN MX12_isMark).cls (MB MX12_isMark) 30 [(.iload_n 0, 0, 0, 0), (.bipush 42, 0, 0, 42)] 33 = true := by decide +kernel
theorem dX12_isMark_33 : decode (MB MX12_isMark) 33 = .ok (.if_icmp .eq 21, 3) := by decide +kernel
theorem sX12_isMark_36 : dsOk (MN MX12_isMark).cls (MB MX12_isMark) 36 [(.iload_n 0, 0, 0, 0), (.bipush 47, 0, 0, 47)] 39 = true := by decide +kernel
theorem dX12_isMark_39 : decode (MB MX12_isMark) 39 = .ok (.if_icmp .eq 15, 3) := by decide +kernel
theorem sX12_isMark_42 : dsOk (MN MX12_isMark).cls (MB MX12_isMark) 42 [(.iload_n 0, 0, 0, 0), (.bipush 60, 0, 0, 60)] 45 = true := by decide +kernel
theorem dX12_isMark_45 : decode (MB MX12_isMark) 45 = .ok (.if_icmp .eq 9, 3) := by decide +kernel
theorem sX12_isMark_48 : dsOk (MN MX12_isMark).cls (MB MX12_isMark) 48 [(.iload_n 0, 0, 0, 0), (.bipush 61, 0, 0, 61)] 51 = true := by decide +kernel
theorem dX12_isMark_51 : decode (MB MX12_isMark) 51 = .ok (.if_icmp .ne 7, 3) := by decide +kernel
theorem sX12_isMark_54 : dsOk (MN MX12_isMark).cls (MB MX12_isMark) 54 [(.iconst 1, 0, 0, 0)] 55 = true := by decide +kernel
theorem dX12_isMark_55 : decode (MB MX12_isMark) 55 = .ok (.goto 4, 3) := by decide +kernel
theorem sX12_isMark_58 : dsOk (MN MX12_isMark).cls (MB MX12_isMark) 58 [(.iconst 0, 0, 0, 0)] 59 = true := by decide +kernel
theorem dX12_isMark_59 : decode (MB MX12_isMark) 59 = .ok (.ireturn, 1) := by decide +kernel
def MX12_stepOn : Ms := (yX12_stepOn, cX12_stepOn, 2, none, [])
set_option maxRecDepth 100000 in
theorem kX12_stepOn : mkV MX12_stepOn 0 := ⟨⟨List.mem_of_getElem? (i := 1674) (by rfl), by decide +kernel⟩, by decide +kernel⟩
theorem sX12_stepOn_0 : dsOk (MN MX12_stepOn).cls (MB MX12_stepOn) 0 [(.aload_n 0, 0, 0, 0), (.aload_n 0, 0, 0, 0), (.getfield 188, 11, 19, 0)] 5 = true := by decide +kernel
theorem dX12_stepOn_5 : decode (MB MX12_stepOn) 5 = .ok (.invokevirtual 191, 3) := by decide +kernel
theorem sX12_stepOn_8 : dsOk (MN MX12_stepOn).cls (MB MX12_stepOn) 8 [(.bipush 32, 0, 0, 32)] 10 = true := by decide +kernel
theorem dX12_stepOn_10 : decode (MB MX12_stepOn) 10 = .ok (.if_icmp .eq 16, 3) := by decide +kernel
theorem sX12_stepOn_13 : dsOk (MN MX12_stepOn).cls (MB MX12_stepOn) 13 [(.aload_n 0, 0, 0, 0), (.aload_n 0, 0, 0, 0), (.getfield 188, 11, 19, 0)] 18 = true := by decide +kernel
theorem dX12_stepOn_18 : decode (MB MX12_stepOn) 18 = .ok (.invokevirtual 191, 3) := by decide +kernel
theorem sX12_stepOn_21 : dsOk (MN MX12_stepOn).cls (MB MX12_stepOn) 21 [(.bipush 10, 0, 0, 10)] 23 = true := by decide +kernel
theorem dX12_stepOn_23 : decode (MB MX12_stepOn) 23 = .ok (.if_icmp .ne 16, 3) := by decide +kernel
theorem sX12_stepOn_26 : dsOk (MN MX12_stepOn).cls (MB MX12_stepOn) 26 [(.aload_n 0, 0, 0, 0), (.dup, 0, 0, 0), (.getfield 188, 11, 19, 0), (.iconst 1, 0, 0, 0), (.iadd, 0, 0, 0), (.putfield 188, 11, 19, 0)] 36 = true := by decide +kernel
theorem dX12_stepOn_36 : decode (MB MX12_stepOn) 36 = .ok (.goto (-36), 3) := by decide +kernel
theorem sX12_stepOn_39 : dsOk (MN MX12_stepOn).cls (MB MX12_stepOn) 39 [(.aload_n 0, 0, 0, 0), (.aload_n 0, 0, 0, 0), (.getfield 188, 11, 19, 0), (.putfield 195, 11, 24, 0), (.aload_n 0, 0, 0, 0), (.aload_n 0, 0, 0, 0), (.getfield 188, 11, 19, 0)] 52 = true := by decide +kernel
theorem dX12_stepOn_52 : decode (MB MX12_stepOn) 52 = .ok (.invokevirtual 191, 3) := by decide +kernel
theorem sX12_stepOn_55 : dsOk (MN MX12_stepOn).cls (MB MX12_stepOn) 55 [(.istore_n 1, 0, 0, 0), (.iload_n 1, 0, 0, 0), (.iconst (-1), 0, 0, 0)] 58 = true := by decide +kernel
theorem dX12_stepOn_58 : decode (MB MX12_stepOn) 58 = .ok (.if_icmp .ne 11, 3) := by decide +kernel
theorem sX12_stepOn_61 : dsOk (MN MX12_stepOn).cls (MB MX12_stepOn) 61 [(.aload_n 0, 0, 0, 0), (.iconst 0, 0, 0, 0), (.putfield 198, 11, 21, 0)] 66 = true := by decide +kernel
theorem dX12_stepOn_66 : decode (MB MX12_stepOn) 66 = .ok (.goto 146, 3) := by decide +kernel
theorem sX12_stepOn_69 : dsOk (MN MX12_stepOn).cls (MB MX12_stepOn) 69 [(.iload_n 1, 0, 0, 0)] 70 = true := by decide +kernel
theorem dX12_stepOn_70 : decode (MB MX12_stepOn) 70 = .ok (.invokestatic 201, 3) := by decide +kernel
theorem dX12_stepOn_73 : decode (MB MX12_stepOn) 73 = .ok (.ifCond .eq 38, 3) := by decide +kernel
theorem sX12_stepOn_76 : dsOk (MN MX12_stepOn).cls (MB MX12_stepOn) 76 [(.aload_n 0, 0, 0, 0), (.aload_n 0, 0, 0, 0), (.getfield 188, 11, 19, 0)] 81 = true := by decide +kernel
theorem dX12_stepOn_81 : decode (MB MX12_stepOn) 81 = .ok (.invokevirtual 191, 3) := by decide +kernel
theorem dX12_stepOn_84 : decode (MB MX12_stepOn) 84 = .ok (.invokestatic 201, 3) := by decide +kernel
theorem dX12_stepOn_87 : decode (MB MX12_stepOn) 87 = .ok (.ifCond .eq 16, 3) := by decide +kernel
theorem sX12_stepOn_90 : dsOk (MN MX12_stepOn).cls (MB MX12_stepOn) 90 [(.aload_n 0, 0, 0, 0), (.dup, 0, 0, 0), (.getfield 188, 11, 19, 0), (.iconst 1, 0, 0, 0), (.iadd, 0, 0, 0), (.putfield 188, 11, 19, 0)] 100 = true := by decide +kernel
theorem dX12_stepOn_100 : decode (MB MX12_stepOn) 100 = .ok (.goto (-24), 3) := by decide +kernel
theorem sX12_stepOn_103 : dsOk (MN MX12_stepOn).cls (MB MX12_stepOn) 103 [(.aload_n 0, 0, 0, 0), (.iconst 1, 0, 0, 0), (.putfield 198, 11, 21, 0)] 108 = true := by decide +kernel
theorem dX12_stepOn_108 : decode (MB MX12_stepOn) 108 = .ok (.goto 104, 3) := by decide +kernel
theorem sX12_stepOn_111 : dsOk (MN MX12_stepOn).cls (MB MX12_stepOn) 111 [(.iload_n 1, 0, 0, 0)] 112 = true := by decide +kernel
theorem dX12_stepOn_112 : decode (MB MX12_stepOn) 112 = .ok (.invokestatic 205, 3) := by decide +kernel
theorem dX12_stepOn_115 : decode (MB MX12_stepOn) 115 = .ok (.ifCond .eq 71, 3) := by decide +kernel
theorem sX12_stepOn_118 : dsOk (MN MX12_stepOn).cls (MB MX12_stepOn) 118 [(.aload_n 0, 0, 0, 0), (.iconst 0, 0, 0, 0), (.putfield 208, 11, 22, 0)] 123 = true := by decide +kernel
theorem sX12_stepOn_123 : dsOk (MN MX12_stepOn).cls (MB MX12_stepOn) 123 [(.aload_n 0, 0, 0, 0), (.aload_n 0, 0, 0, 0), (.getfield 188, 11, 19, 0)] 128 = true := by decide +kernel
theorem dX12_stepOn_128 : decode (MB MX12_stepOn) 128 = .ok (.invokevirtual 191, 3) := by decide +kernel
theorem dX12_stepOn_131 : decode (MB MX12_stepOn) 131 = .ok (.invokestatic 205, 3) := by decide +kernel
theorem dX12_stepOn_134 : decode (MB MX12_stepOn) 134 = .ok (.ifCond .eq 44, 3) := by decide +kernel
theorem sX12_stepOn_137 : dsOk (MN MX12_stepOn).cls (MB MX12_stepOn) 137 [(.aload_n 0, 0, 0, 0), (.ldc 211, 0, 0, 100000), (.bipush 10, 0, 0, 10), (.aload_n 0, 0, 0, 0), (.getfield 208, 11, 22, 0), (.imul, 0, 0, 0), (.aload_n 0, 0, 0, 0), (.aload_n 0, 0, 0, 0), (.getfield 188, 11, 19, 0)] 152 = true := by decide +kernel
theorem dX12_stepOn_152 : decode (MB MX12_stepOn) 152 = .ok (.invokevirtual 191, 3) := by decide +kernel
theorem sX12_stepOn_155 : dsOk (MN MX12_stepOn).cls (MB MX12_stepOn) 155 [(.iadd, 0, 0, 0), (.bipush 48, 0, 0, 48), (.isub, 0, 0, 0)] 159 = true := by decide +kernel
theorem dX12_stepOn_159 : decode (MB MX12_stepOn) 159 = .ok (.invokestatic 212, 3) := by decide +kernel
theorem sX12_stepOn_162 : dsOk (MN MX12_stepOn).cls (MB MX12_stepOn) 162 [(.putfield 208, 11, 22, 0), (.aload_n 0, 0, 0, 0), (.dup, 0, 0, 0), (.getfield 188, 11, 19, 0), (.iconst 1, 0, 0, 0), (.iadd, 0, 0, 0), (.putfield 188, 11, 19, 0)] 175 = true := by decide +kernel
theorem dX12_stepOn_175 : decode (MB MX12_stepOn) 175 = .ok (.goto (-52), 3) := by decide +kernel
theorem sX12_stepOn_178 : dsOk (MN MX12_stepOn).cls (MB MX12_stepOn) 178 [(.aload_n 0, 0, 0, 0), (.iconst 2, 0, 0, 0), (.putfield 198, 11, 21, 0)] 183 = true := by decide +kernel
theorem dX12_stepOn_183 : decode (MB MX12_stepOn) 183 = .ok (.goto 29, 3) := by decide +kernel
theorem sX12_stepOn_186 : dsOk (MN MX12_stepOn).cls (MB MX12_stepOn) 186 [(.aload_n 0, 0, 0, 0), (.dup, 0, 0, 0), (.getfield 188, 11, 19, 0), (.iconst 1, 0, 0, 0), (.iadd, 0, 0, 0), (.putfield 188, 11, 19, 0), (.aload_n 0, 0, 0, 0), (.iload_n 1, 0, 0, 0)] 198 = true := by decide +kernel
theorem dX12_stepOn_198 : decode (MB MX12_stepOn) 198 = .ok (.invokestatic 218, 3) := by decide +kernel
theorem dX12_stepOn_201 : decode (MB MX12_stepOn) 201 = .ok (.ifCond .eq 7, 3) := by decide +kernel
theorem sX12_stepOn_204 : dsOk (MN MX12_stepOn).cls (MB MX12_stepOn) 204 [(.iconst 3, 0, 0, 0)] 205 = true := by decide +kernel
theorem dX12_stepOn_205 : decode (MB MX12_stepOn) 205 = .ok (.goto 4, 3) := by decide +kernel
theorem sX12_stepOn_208 : dsOk (MN MX12_stepOn).cls (MB MX12_stepOn) 208 [(.iconst 4, 0, 0, 0)] 209 = true := by decide +kernel
theorem sX12_stepOn_209 : dsOk (MN MX12_stepOn).cls (MB MX12_stepOn) 209 [(.putfield 198, 11, 21, 0)] 212 = true := by decide +kernel
theorem sX12_stepOn_212 : dsOk (MN MX12_stepOn).cls (MB MX12_stepOn) 212 [(.aload_n 0, 0, 0, 0), (.aload_n 0, 0, 0, 0), (.getfield 188, 11, 19, 0), (.putfield 221, 11, 25, 0)] 220 = true := by decide +kernel
theorem dX12_stepOn_220 : decode (MB MX12_stepOn) 220 = .ok (.return_, 1) := by decide +kernel
def MX12_cant : Ms := (yX12_cant, cX12_cant, 2, none, [])
set_option maxRecDepth 100000 in
theorem kX12_cant : mkV MX12_cant 1 := ⟨⟨List.mem_of_getElem? (i := 1708) (by rfl), by decide +kernel⟩, by decide +kernel⟩
theorem sX12_cant_0 : dsOk (MN MX12_cant).cls (MB MX12_cant) 0 [(.aload_n 0, 0, 0, 0), (.getfield 224, 11, 26, 0)] 4 = true := by decide +kernel
theorem dX12_cant_4 : decode (MB MX12_cant) 4 = .ok (.ifCond .eq 4, 3) := by decide +kernel
theorem dX12_cant_7 : decode (MB MX12_cant) 7 = .ok (.return_, 1) := by decide +kernel
theorem sX12_cant_8 : dsOk (MN MX12_cant).cls (MB MX12_cant) 8 [(.aload_n 0, 0, 0, 0), (.iload_n 1, 0, 0, 0), (.putfield 224, 11, 26, 0), (.aload_n 0, 0, 0, 0), (.aload_n 0, 0, 0, 0), (.getfield 195, 11, 24, 0), (.putfield 227, 11, 27, 0)] 21 = true := by decide +kernel
theorem dX12_cant_21 : decode (MB MX12_cant) 21 = .ok (.return_, 1) := by decide +kernel
def MX12_is : Ms := (yX12_is, cX12_is, 4, (some .boolean), [])
set_option maxRecDepth 100000 in
theorem kX12_is : mkV MX12_is 1 := ⟨⟨List.mem_of_getElem? (i := 1701) (by rfl), by decide +kernel⟩, by decide +kernel⟩
theorem sX12_is_0 : dsOk (MN MX12_is).cls (MB MX12_is) 0 [(.aload_n 0, 0, 0, 0), (.getfield 224, 11, 26, 0)] 4 = true := by decide +kernel
theorem dX12_is_4 : decode (MB MX12_is) 4 = .ok (.ifCond .ne 31, 3) := by decide +kernel
theorem sX12_is_7 : dsOk (MN MX12_is).cls (MB MX12_is) 7 [(.aload_n 0, 0, 0, 0), (.getfield 198, 11, 21, 0), (.iconst 1, 0, 0, 0)] 12 = true := by decide +kernel
theorem dX12_is_12 : decode (MB MX12_is) 12 = .ok (.if_icmp .ne 23, 3) := by decide +kernel
theorem sX12_is_15 : dsOk (MN MX12_is).cls (MB MX12_is) 15 [(.aload_n 1, 0, 0, 0)] 16 = true := by decide +kernel
theorem dX12_is_16 : decode (MB MX12_is) 16 = .ok (.invokevirtual 230, 3) := by decide +kernel
theorem sX12_is_19 : dsOk (MN MX12_is).cls (MB MX12_is) 19 [(.aload_n 0, 0, 0, 0), (.getfield 221, 11, 25, 0), (.aload_n 0, 0, 0, 0), (.getfield 195, 11, 24, 0), (.isub, 0, 0, 0)] 28 = true := by decide +kernel
theorem dX12_is_28 : decode (MB MX12_is) 28 = .ok (.if_icmp .ne 7, 3) := by decide +kernel
theorem sX12_is_31 : dsOk (MN MX12_is).cls (MB MX12_is) 31 [(.iconst 1, 0, 0, 0)] 32 = true := by decide +kernel
theorem dX12_is_32 : decode (MB MX12_is) 32 = .ok (.goto 4, 3) := by decide +kernel
theorem sX12_is_35 : dsOk (MN MX12_is).cls (MB MX12_is) 35 [(.iconst 0, 0, 0, 0)] 36 = true := by decide +kernel
theorem sX12_is_36 : dsOk (MN MX12_is).cls (MB MX12_is) 36 [(.istore_n 2, 0, 0, 0), (.iconst 0, 0, 0, 0), (.istore_n 3, 0, 0, 0)] 39 = true := by decide +kernel
theorem sX12_is_39 : dsOk (MN MX12_is).cls (MB MX12_is) 39 [(.iload_n 2, 0, 0, 0)] 40 = true := by decide +kernel
theorem dX12_is_40 : decode (MB MX12_is) 40 = .ok (.ifCond .eq 42, 3) := by decide +kernel
theorem sX12_is_43 : dsOk (MN MX12_is).cls (MB MX12_is) 43 [(.iload_n 3, 0, 0, 0), (.aload_n 1, 0, 0, 0)] 45 = true := by decide +kernel
theorem dX12_is_45 : decode (MB MX12_is) 45 = .ok (.invokevirtual 230, 3) := by decide +kernel
theorem dX12_is_48 : decode (MB MX12_is) 48 = .ok (.if_icmp .ge 34, 3) := by decide +kernel
theorem sX12_is_51 : dsOk (MN MX12_is).cls (MB MX12_is) 51 [(.aload_n 1, 0, 0, 0), (.iload_n 3, 0, 0, 0)] 53 = true := by decide +kernel
theorem dX12_is_53 : decode (MB MX12_is) 53 = .ok (.invokevirtual 234, 3) := by decide +kernel
theorem sX12_is_56 : dsOk (MN MX12_is).cls (MB MX12_is) 56 [(.aload_n 0, 0, 0, 0), (.getfield 81, 11, 17, 0), (.aload_n 0, 0, 0, 0), (.getfield 195, 11, 24, 0), (.iload_n 3, 0, 0, 0), (.iadd, 0, 0, 0), (.iaload, 0, 0, 0)] 67 = true := by decide +kernel
theorem dX12_is_67 : decode (MB MX12_is) 67 = .ok (.if_icmp .ne 7, 3) := by decide +kernel
theorem sX12_is_70 : dsOk (MN MX12_is).cls (MB MX12_is) 70 [(.iconst 1, 0, 0, 0)] 71 = true := by decide +kernel
theorem dX12_is_71 : decode (MB MX12_is) 71 = .ok (.goto 4, 3) := by decide +kernel
theorem sX12_is_74 : dsOk (MN MX12_is).cls (MB MX12_is) 74 [(.iconst 0, 0, 0, 0)] 75 = true := by decide +kernel
theorem sX12_is_75 : dsOk (MN MX12_is).cls (MB MX12_is) 75 [(.istore_n 2, 0, 0, 0), (.iinc 3 1, 0, 0, 0)] 79 = true := by decide +kernel
theorem dX12_is_79 : decode (MB MX12_is) 79 = .ok (.goto (-40), 3) := by decide +kernel
theorem sX12_is_82 : dsOk (MN MX12_is).cls (MB MX12_is) 82 [(.iload_n 2, 0, 0, 0)] 83 = true := by decide +kernel
theorem dX12_is_83 : decode (MB MX12_is) 83 = .ok (.ireturn, 1) := by decide +kernel
def MX12_which : Ms := (yX12_which, cX12_which, 3, (some .int), [])
set_option maxRecDepth 100000 in
theorem kX12_which : mkV MX12_which 1 := ⟨⟨List.mem_of_getElem? (i := 1697) (by rfl), by decide +kernel⟩, by decide +kernel⟩
theorem sX12_which_0 : dsOk (MN MX12_which).cls (MB MX12_which) 0 [(.iconst 0, 0, 0, 0), (.istore_n 2, 0, 0, 0)] 2 = true := by decide +kernel
theorem sX12_which_2 : dsOk (MN MX12_which).cls (MB MX12_which) 2 [(.iload_n 2, 0, 0, 0), (.aload_n 1, 0, 0, 0), (.arraylength, 0, 0, 0)] 5 = true := by decide +kernel
theorem dX12_which_5 : decode (MB MX12_which) 5 = .ok (.if_icmp .ge 21, 3) := by decide +kernel
theorem sX12_which_8 : dsOk (MN MX12_which).cls (MB MX12_which) 8 [(.aload_n 0, 0, 0, 0), (.aload_n 1, 0, 0, 0), (.iload_n 2, 0, 0, 0), (.aaload, 0, 0, 0)] 12 = true := by decide +kernel
theorem dX12_which_12 : decode (MB MX12_which) 12 = .ok (.invokevirtual 238, 3) := by decide +kernel
theorem dX12_which_15 : decode (MB MX12_which) 15 = .ok (.ifCond .eq 5, 3) := by decide +kernel
theorem sX12_which_18 : dsOk (MN MX12_which).cls (MB MX12_which) 18 [(.iload_n 2, 0, 0, 0)] 19 = true := by decide +kernel
theorem dX12_which_19 : decode (MB MX12_which) 19 = .ok (.ireturn, 1) := by decide +kernel
theorem sX12_which_20 : dsOk (MN MX12_which).cls (MB MX12_which) 20 [(.iinc 2 1, 0, 0, 0)] 23 = true := by decide +kernel
theorem dX12_which_23 : decode (MB MX12_which) 23 = .ok (.goto (-21), 3) := by decide +kernel
theorem sX12_which_26 : dsOk (MN MX12_which).cls (MB MX12_which) 26 [(.iconst (-1), 0, 0, 0)] 27 = true := by decide +kernel
theorem dX12_which_27 : decode (MB MX12_which) 27 = .ok (.ireturn, 1) := by decide +kernel
def MX12_isMarked : Ms := (yX12_isMarked, cX12_isMarked, 2, (some .boolean), [])
set_option maxRecDepth 100000 in
theorem kX12_isMarked : mkV MX12_isMarked 1 := ⟨⟨List.mem_of_getElem? (i := 1733) (by rfl), by decide +kernel⟩, by decide +kernel⟩
theorem sX12_isMarked_0 : dsOk (MN MX12_isMarked).cls (MB MX12_isMarked) 0 [(.aload_n 0, 0, 0, 0), (.getfield 224, 11, 26, 0)] 4 = true := by decide +kernel
theorem dX12_isMarked_4 : decode (MB MX12_isMarked) 4 = .ok (.ifCond .ne 28, 3) := by decide +kernel
theorem sX12_isMarked_7 : dsOk (MN MX12_isMarked).cls (MB MX12_isMarked) 7 [(.aload_n 0, 0, 0, 0), (.getfield 198, 11, 21, 0), (.iconst 3, 0, 0, 0)] 12 = true := by decide +kernel
theorem dX12_isMarked_12 : decode (MB MX12_isMarked) 12 = .ok (.if_icmp .ne 20, 3) := by decide +kernel
theorem sX12_isMarked_15 : dsOk (MN MX12_isMarked).cls (MB MX12_isMarked) 15 [(.aload_n 0, 0, 0, 0), (.getfield 81, 11, 17, 0), (.aload_n 0, 0, 0, 0), (.getfield 195, 11, 24, 0), (.iaload, 0, 0, 0), (.iload_n 1, 0, 0, 0)] 25 = true := by decide +kernel
theorem dX12_isMarked_25 : decode (MB MX12_isMarked) 25 = .ok (.if_icmp .ne 7, 3) := by decide +kernel
theorem sX12_isMarked_28 : dsOk (MN MX12_isMarked).cls (MB MX12_isMarked) 28 [(.iconst 1, 0, 0, 0)] 29 = true := by decide +kernel
theorem dX12_isMarked_29 : decode (MB MX12_isMarked) 29 = .ok (.goto 4, 3) := by decide +kernel
theorem sX12_isMarked_32 : dsOk (MN MX12_isMarked).cls (MB MX12_isMarked) 32 [(.iconst 0, 0, 0, 0)] 33 = true := by decide +kernel
theorem dX12_isMarked_33 : decode (MB MX12_isMarked) 33 = .ok (.ireturn, 1) := by decide +kernel
def MX12_mark : Ms := (yX12_mark, cX12_mark, 2, none, [])
set_option maxRecDepth 100000 in
theorem kX12_mark : mkV MX12_mark 1 := ⟨⟨List.mem_of_getElem? (i := 1762) (by rfl), by decide +kernel⟩, by decide +kernel⟩
theorem sX12_mark_0 : dsOk (MN MX12_mark).cls (MB MX12_mark) 0 [(.aload_n 0, 0, 0, 0), (.getfield 224, 11, 26, 0)] 4 = true := by decide +kernel
theorem dX12_mark_4 : decode (MB MX12_mark) 4 = .ok (.ifCond .ne 16, 3) := by decide +kernel
theorem sX12_mark_7 : dsOk (MN MX12_mark).cls (MB MX12_mark) 7 [(.aload_n 0, 0, 0, 0), (.iload_n 1, 0, 0, 0)] 9 = true := by decide +kernel
theorem dX12_mark_9 : decode (MB MX12_mark) 9 = .ok (.invokevirtual 242, 3) := by decide +kernel
theorem dX12_mark_12 : decode (MB MX12_mark) 12 = .ok (.ifCond .ne 8, 3) := by decide +kernel
theorem sX12_mark_15 : dsOk (MN MX12_mark).cls (MB MX12_mark) 15 [(.aload_n 0, 0, 0, 0), (.iconst 1, 0, 0, 0)] 17 = true := by decide +kernel
theorem dX12_mark_17 : decode (MB MX12_mark) 17 = .ok (.invokevirtual 245, 3) := by decide +kernel
theorem sX12_mark_20 : dsOk (MN MX12_mark).cls (MB MX12_mark) 20 [(.aload_n 0, 0, 0, 0), (.getfield 224, 11, 26, 0)] 24 = true := by decide +kernel
theorem dX12_mark_24 : decode (MB MX12_mark) 24 = .ok (.ifCond .ne 7, 3) := by decide +kernel
theorem sX12_mark_27 : dsOk (MN MX12_mark).cls (MB MX12_mark) 27 [(.aload_n 0, 0, 0, 0)] 28 = true := by decide +kernel
theorem dX12_mark_28 : decode (MB MX12_mark) 28 = .ok (.invokevirtual 249, 3) := by decide +kernel
theorem dX12_mark_31 : decode (MB MX12_mark) 31 = .ok (.return_, 1) := by decide +kernel
def MX12_numberNow : Ms := (yX12_numberNow, cX12_numberNow, 3, (some .int), [])
set_option maxRecDepth 100000 in
theorem kX12_numberNow : mkV MX12_numberNow 2 := ⟨⟨List.mem_of_getElem? (i := 1720) (by rfl), by decide +kernel⟩, by decide +kernel⟩
theorem sX12_numberNow_0 : dsOk (MN MX12_numberNow).cls (MB MX12_numberNow) 0 [(.aload_n 0, 0, 0, 0), (.getfield 224, 11, 26, 0)] 4 = true := by decide +kernel
theorem dX12_numberNow_4 : decode (MB MX12_numberNow) 4 = .ok (.ifCond .eq 5, 3) := by decide +kernel
theorem sX12_numberNow_7 : dsOk (MN MX12_numberNow).cls (MB MX12_numberNow) 7 [(.iconst 0, 0, 0, 0)] 8 = true := by decide +kernel
theorem dX12_numberNow_8 : decode (MB MX12_numberNow) 8 = .ok (.ireturn, 1) := by decide +kernel
theorem sX12_numberNow_9 : dsOk (MN MX12_numberNow).cls (MB MX12_numberNow) 9 [(.aload_n 0, 0, 0, 0), (.getfield 198, 11, 21, 0), (.iconst 2, 0, 0, 0)] 14 = true := by decide +kernel
theorem dX12_numberNow_14 : decode (MB MX12_numberNow) 14 = .ok (.if_icmp .eq 11, 3) := by decide +kernel
theorem sX12_numberNow_17 : dsOk (MN MX12_numberNow).cls (MB MX12_numberNow) 17 [(.aload_n 0, 0, 0, 0), (.iconst 1, 0, 0, 0)] 19 = true := by decide +kernel
theorem dX12_numberNow_19 : decode (MB MX12_numberNow) 19 = .ok (.invokevirtual 245, 3) := by decide +kernel
theorem dX12_numberNow_22 : decode (MB MX12_numberNow) 22 = .ok (.goto 37, 3) := by decide +kernel
theorem sX12_numberNow_25 : dsOk (MN MX12_numberNow).cls (MB MX12_numberNow) 25 [(.aload_n 0, 0, 0, 0), (.getfield 221, 11, 25, 0), (.aload_n 0, 0, 0, 0), (.getfield 195, 11, 24, 0), (.isub, 0, 0, 0), (.iconst 4, 0, 0, 0)] 35 = true := by decide +kernel
theorem dX12_numberNow_35 : decode (MB MX12_numberNow) 35 = .ok (.if_icmp .gt 19, 3) := by decide +kernel
theorem sX12_numberNow_38 : dsOk (MN MX12_numberNow).cls (MB MX12_numberNow) 38 [(.aload_n 0, 0, 0, 0), (.getfield 208, 11, 22, 0), (.iload_n 1, 0, 0, 0)] 43 = true := by decide +kernel
theorem dX12_numberNow_43 : decode (MB MX12_numberNow) 43 = .ok (.if_icmp .lt 11, 3) := by decide +kernel
theorem sX12_numberNow_46 : dsOk (MN MX12_numberNow).cls (MB MX12_numberNow) 46 [(.aload_n 0, 0, 0, 0), (.getfield 208, 11, 22, 0), (.iload_n 2, 0, 0, 0)] 51 = true := by decide +kernel
theorem dX12_numberNow_51 : decode (MB MX12_numberNow) 51 = .ok (.if_icmp .le 8, 3) := by decide +kernel
theorem sX12_numberNow_54 : dsOk (MN MX12_numberNow).cls (MB MX12_numberNow) 54 [(.aload_n 0, 0, 0, 0), (.iconst 2, 0, 0, 0)] 56 = true := by decide +kernel
theorem dX12_numberNow_56 : decode (MB MX12_numberNow) 56 = .ok (.invokevirtual 245, 3) := by decide +kernel
theorem sX12_numberNow_59 : dsOk (MN MX12_numberNow).cls (MB MX12_numberNow) 59 [(.aload_n 0, 0, 0, 0), (.getfield 224, 11, 26, 0)] 63 = true := by decide +kernel
theorem dX12_numberNow_63 : decode (MB MX12_numberNow) 63 = .ok (.ifCond .ne 10, 3) := by decide +kernel
theorem sX12_numberNow_66 : dsOk (MN MX12_numberNow).cls (MB MX12_numberNow) 66 [(.aload_n 0, 0, 0, 0), (.getfield 208, 11, 22, 0)] 70 = true := by decide +kernel
theorem dX12_numberNow_70 : decode (MB MX12_numberNow) 70 = .ok (.goto 4, 3) := by decide +kernel
theorem sX12_numberNow_73 : dsOk (MN MX12_numberNow).cls (MB MX12_numberNow) 73 [(.iconst 0, 0, 0, 0)] 74 = true := by decide +kernel
theorem dX12_numberNow_74 : decode (MB MX12_numberNow) 74 = .ok (.ireturn, 1) := by decide +kernel
def MX12_readNumber : Ms := (yX12_readNumber, cX12_readNumber, 4, (some .int), [])
set_option maxRecDepth 100000 in
theorem kX12_readNumber : mkV MX12_readNumber 2 := ⟨⟨List.mem_of_getElem? (i := 1716) (by rfl), by decide +kernel⟩, by decide +kernel⟩
theorem sX12_readNumber_0 : dsOk (MN MX12_readNumber).cls (MB MX12_readNumber) 0 [(.aload_n 0, 0, 0, 0), (.iload_n 1, 0, 0, 0), (.iload_n 2, 0, 0, 0)] 3 = true := by decide +kernel
theorem dX12_readNumber_3 : decode (MB MX12_readNumber) 3 = .ok (.invokevirtual 252, 3) := by decide +kernel
theorem sX12_readNumber_6 : dsOk (MN MX12_readNumber).cls (MB MX12_readNumber) 6 [(.istore_n 3, 0, 0, 0), (.aload_n 0, 0, 0, 0), (.getfield 224, 11, 26, 0)] 11 = true := by decide +kernel
theorem dX12_readNumber_11 : decode (MB MX12_readNumber) 11 = .ok (.ifCond .ne 7, 3) := by decide +kernel
theorem sX12_readNumber_14 : dsOk (MN MX12_readNumber).cls (MB MX12_readNumber) 14 [(.aload_n 0, 0, 0, 0)] 15 = true := by decide +kernel
theorem dX12_readNumber_15 : decode (MB MX12_readNumber) 15 = .ok (.invokevirtual 249, 3) := by decide +kernel
theorem sX12_readNumber_18 : dsOk (MN MX12_readNumber).cls (MB MX12_readNumber) 18 [(.iload_n 3, 0, 0, 0)] 19 = true := by decide +kernel
theorem dX12_readNumber_19 : decode (MB MX12_readNumber) 19 = .ok (.ireturn, 1) := by decide +kernel
def MX12_lay : Ms := (yX12_lay, cX12_lay, 2, none, [])
set_option maxRecDepth 100000 in
theorem kX12_lay : mkV MX12_lay 1 := ⟨⟨List.mem_of_getElem? (i := 1758) (by rfl), by decide +kernel⟩, by decide +kernel⟩
theorem sX12_lay_0 : dsOk (MN MX12_lay).cls (MB MX12_lay) 0 [(.aload_n 0, 0, 0, 0), (.getfield 224, 11, 26, 0)] 4 = true := by decide +kernel
theorem dX12_lay_4 : decode (MB MX12_lay) 4 = .ok (.ifCond .eq 4, 3) := by decide +kernel
theorem dX12_lay_7 : decode (MB MX12_lay) 7 = .ok (.return_, 1) := by decide +kernel
theorem sX12_lay_8 : dsOk (MN MX12_lay).cls (MB MX12_lay) 8 [(.aload_n 0, 0, 0, 0), (.getfield 75, 11, 15, 0), (.sipush 500, 0, 0, 500), (.aload_n 0, 0, 0, 0), (.getfield 255, 11, 23, 0), (.iadd, 0, 0, 0), (.iload_n 1, 0, 0, 0), (.iastore, 0, 0, 0), (.aload_n 0, 0, 0, 0), (.dup, 0, 0, 0), (.getfield 255, 11, 23, 0), (.iconst 1, 0, 0, 0), (.iadd, 0, 0, 0), (.putfield 255, 11, 23, 0)] 32 = true := by decide +kernel
theorem dX12_lay_32 : decode (MB MX12_lay) 32 = .ok (.return_, 1) := by decide +kernel
def MX12_readPart : Ms := (yX12_readPart, cX12_readPart, 3, none, [])
set_option maxRecDepth 100000 in
theorem kX12_readPart : mkV MX12_readPart 1 := ⟨⟨List.mem_of_getElem? (i := 1754) (by rfl), by decide +kernel⟩, by decide +kernel⟩
theorem sX12_readPart_0 : dsOk (MN MX12_readPart).cls (MB MX12_readPart) 0 [(.aload_n 0, 0, 0, 0), (.getfield 224, 11, 26, 0)] 4 = true := by decide +kernel
theorem dX12_readPart_4 : decode (MB MX12_readPart) 4 = .ok (.ifCond .eq 4, 3) := by decide +kernel
theorem dX12_readPart_7 : decode (MB MX12_readPart) 7 = .ok (.return_, 1) := by decide +kernel
theorem sX12_readPart_8 : dsOk (MN MX12_readPart).cls (MB MX12_readPart) 8 [(.aload_n 0, 0, 0, 0), (.getfield 198, 11, 21, 0), (.iconst 2, 0, 0, 0)] 13 = true := by decide +kernel
theorem dX12_readPart_13 : decode (MB MX12_readPart) 13 = .ok (.if_icmp .ne 16, 3) := by decide +kernel
theorem sX12_readPart_16 : dsOk (MN MX12_readPart).cls (MB MX12_readPart) 16 [(.aload_n 0, 0, 0, 0), (.aload_n 0, 0, 0, 0), (.iconst 0, 0, 0, 0), (.sipush 9999, 0, 0, 9999)] 22 = true := by decide +kernel
theorem dX12_readPart_22 : decode (MB MX12_readPart) 22 = .ok (.invokevirtual 258, 3) := by decide +kernel
theorem dX12_readPart_25 : decode (MB MX12_readPart) 25 = .ok (.invokevirtual 261, 3) := by decide +kernel
theorem dX12_readPart_28 : decode (MB MX12_readPart) 28 = .ok (.return_, 1) := by decide +kernel
theorem sX12_readPart_29 : dsOk (MN MX12_readPart).cls (MB MX12_readPart) 29 [(.aload_n 0, 0, 0, 0), (.getfield 198, 11, 21, 0), (.iconst 1, 0, 0, 0)] 34 = true := by decide +kernel
theorem dX12_readPart_34 : decode (MB MX12_readPart) 34 = .ok (.if_icmp .ne 41, 3) := by decide +kernel
theorem sX12_readPart_37 : dsOk (MN MX12_readPart).cls (MB MX12_readPart) 37 [(.aload_n 0, 0, 0, 0), (.aload_n 0, 0, 0, 0), (.getfield 37, 11, 1, 0)] 42 = true := by decide +kernel
theorem dX12_readPart_42 : decode (MB MX12_readPart) 42 = .ok (.invokevirtual 264, 3) := by decide +kernel
theorem sX12_readPart_45 : dsOk (MN MX12_readPart).cls (MB MX12_readPart) 45 [(.istore_n 2, 0, 0, 0), (.iload_n 2, 0, 0, 0), (.iconst (-1), 0, 0, 0)] 48 = true := by decide +kernel
theorem dX12_readPart_48 : decode (MB MX12_readPart) 48 = .ok (.if_icmp .ne 8, 3) := by decide +kernel
theorem sX12_readPart_51 : dsOk (MN MX12_readPart).cls (MB MX12_readPart) 51 [(.aload_n 0, 0, 0, 0), (.iconst 3, 0, 0, 0)] 53 = true := by decide +kernel
theorem dX12_readPart_53 : decode (MB MX12_readPart) 53 = .ok (.invokevirtual 245, 3) := by decide +kernel
theorem sX12_readPart_56 : dsOk (MN MX12_readPart).cls (MB MX12_readPart) 56 [(.aload_n 0, 0, 0, 0), (.iconst (-1), 0, 0, 0), (.iload_n 2, 0, 0, 0), (.isub, 0, 0, 0)] 60 = true := by decide +kernel
theorem dX12_readPart_60 : decode (MB MX12_readPart) 60 = .ok (.invokevirtual 261, 3) := by decide +kernel
theorem sX12_readPart_63 : dsOk (MN MX12_readPart).cls (MB MX12_readPart) 63 [(.aload_n 0, 0, 0, 0), (.getfield 224, 11, 26, 0)] 67 = true := by decide +kernel
theorem dX12_readPart_67 : decode (MB MX12_readPart) 67 = .ok (.ifCond .ne 7, 3) := by decide +kernel
theorem sX12_readPart_70 : dsOk (MN MX12_readPart).cls (MB MX12_readPart) 70 [(.aload_n 0, 0, 0, 0)] 71 = true := by decide +kernel
theorem dX12_readPart_71 : decode (MB MX12_readPart) 71 = .ok (.invokevirtual 249, 3) := by decide +kernel
theorem dX12_readPart_74 : decode (MB MX12_readPart) 74 = .ok (.return_, 1) := by decide +kernel
theorem sX12_readPart_75 : dsOk (MN MX12_readPart).cls (MB MX12_readPart) 75 [(.aload_n 0, 0, 0, 0), (.bipush 40, 0, 0, 40)] 78 = true := by decide +kernel
theorem dX12_readPart_78 : decode (MB MX12_readPart) 78 = .ok (.invokevirtual 268, 3) := by decide +kernel
theorem sX12_readPart_81 : dsOk (MN MX12_readPart).cls (MB MX12_readPart) 81 [(.aload_n 0, 0, 0, 0), (.iload_n 1, 0, 0, 0), (.iconst 1, 0, 0, 0), (.iadd, 0, 0, 0)] 85 = true := by decide +kernel
theorem dX12_readPart_85 : decode (MB MX12_readPart) 85 = .ok (.invokevirtual 271, 3) := by decide +kernel
theorem sX12_readPart_88 : dsOk (MN MX12_readPart).cls (MB MX12_readPart) 88 [(.aload_n 0, 0, 0, 0), (.bipush 41, 0, 0, 41)] 91 = true := by decide +kernel
theorem dX12_readPart_91 : decode (MB MX12_readPart) 91 = .ok (.invokevirtual 268, 3) := by decide +kernel
theorem dX12_readPart_94 : decode (MB MX12_readPart) 94 = .ok (.return_, 1) := by decide +kernel
def MX12_readProduct : Ms := (yX12_readProduct, cX12_readProduct, 3, none, [])
set_option maxRecDepth 100000 in
theorem kX12_readProduct : mkV MX12_readProduct 1 := ⟨⟨List.mem_of_getElem? (i := 1750) (by rfl), by decide +kernel⟩, by decide +kernel⟩
theorem sX12_readProduct_0 : dsOk (MN MX12_readProduct).cls (MB MX12_readProduct) 0 [(.aload_n 0, 0, 0, 0), (.iload_n 1, 0, 0, 0)] 2 = true := by decide +kernel
theorem dX12_readProduct_2 : decode (MB MX12_readProduct) 2 = .ok (.invokevirtual 274, 3) := by decide +kernel
theorem sX12_readProduct_5 : dsOk (MN MX12_readProduct).cls (MB MX12_readProduct) 5 [(.aload_n 0, 0, 0, 0), (.bipush 42, 0, 0, 42)] 8 = true := by decide +kernel
theorem dX12_readProduct_8 : decode (MB MX12_readProduct) 8 = .ok (.invokevirtual 242, 3) := by decide +kernel
theorem dX12_readProduct_11 : decode (MB MX12_readProduct) 11 = .ok (.ifCond .ne 12, 3) := by decide +kernel
theorem sX12_readProduct_14 : dsOk (MN MX12_readProduct).cls (MB MX12_readProduct) 14 [(.aload_n 0, 0, 0, 0), (.bipush 47, 0, 0, 47)] 17 = true := by decide +kernel
theorem dX12_readProduct_17 : decode (MB MX12_readProduct) 17 = .ok (.invokevirtual 242, 3) := by decide +kernel
theorem dX12_readProduct_20 : decode (MB MX12_readProduct) 20 = .ok (.ifCond .eq 37, 3) := by decide +kernel
theorem sX12_readProduct_23 : dsOk (MN MX12_readProduct).cls (MB MX12_readProduct) 23 [(.aload_n 0, 0, 0, 0), (.bipush 42, 0, 0, 42)] 26 = true := by decide +kernel
theorem dX12_readProduct_26 : decode (MB MX12_readProduct) 26 = .ok (.invokevirtual 242, 3) := by decide +kernel
theorem dX12_readProduct_29 : decode (MB MX12_readProduct) 29 = .ok (.ifCond .eq 8, 3) := by decide +kernel
theorem sX12_readProduct_32 : dsOk (MN MX12_readProduct).cls (MB MX12_readProduct) 32 [(.bipush (-22), 0, 0, -22)] 34 = true := by decide +kernel
theorem dX12_readProduct_34 : decode (MB MX12_readProduct) 34 = .ok (.goto 5, 3) := by decide +kernel
theorem sX12_readProduct_37 : dsOk (MN MX12_readProduct).cls (MB MX12_readProduct) 37 [(.bipush (-23), 0, 0, -23)] 39 = true := by decide +kernel
theorem sX12_readProduct_39 : dsOk (MN MX12_readProduct).cls (MB MX12_readProduct) 39 [(.istore_n 2, 0, 0, 0), (.aload_n 0, 0, 0, 0)] 41 = true := by decide +kernel
theorem dX12_readProduct_41 : decode (MB MX12_readProduct) 41 = .ok (.invokevirtual 249, 3) := by decide +kernel
theorem sX12_readProduct_44 : dsOk (MN MX12_readProduct).cls (MB MX12_readProduct) 44 [(.aload_n 0, 0, 0, 0), (.iload_n 1, 0, 0, 0)] 46 = true := by decide +kernel
theorem dX12_readProduct_46 : decode (MB MX12_readProduct) 46 = .ok (.invokevirtual 274, 3) := by decide +kernel
theorem sX12_readProduct_49 : dsOk (MN MX12_readProduct).cls (MB MX12_readProduct) 49 [(.aload_n 0, 0, 0, 0), (.iload_n 2, 0, 0, 0)] 51 = true := by decide +kernel
theorem dX12_readProduct_51 : decode (MB MX12_readProduct) 51 = .ok (.invokevirtual 261, 3) := by decide +kernel
theorem dX12_readProduct_54 : decode (MB MX12_readProduct) 54 = .ok (.goto (-49), 3) := by decide +kernel
theorem dX12_readProduct_57 : decode (MB MX12_readProduct) 57 = .ok (.return_, 1) := by decide +kernel
def MX12_readSum : Ms := (yX12_readSum, cX12_readSum, 3, none, [])
set_option maxRecDepth 100000 in
theorem kX12_readSum : mkV MX12_readSum 1 := ⟨⟨List.mem_of_getElem? (i := 1746) (by rfl), by decide +kernel⟩, by decide +kernel⟩
theorem sX12_readSum_0 : dsOk (MN MX12_readSum).cls (MB MX12_readSum) 0 [(.aload_n 0, 0, 0, 0), (.iload_n 1, 0, 0, 0)] 2 = true := by decide +kernel
theorem dX12_readSum_2 : decode (MB MX12_readSum) 2 = .ok (.invokevirtual 277, 3) := by decide +kernel
theorem sX12_readSum_5 : dsOk (MN MX12_readSum).cls (MB MX12_readSum) 5 [(.aload_n 0, 0, 0, 0), (.bipush 43, 0, 0, 43)] 8 = true := by decide +kernel
theorem dX12_readSum_8 : decode (MB MX12_readSum) 8 = .ok (.invokevirtual 242, 3) := by decide +kernel
theorem dX12_readSum_11 : decode (MB MX12_readSum) 11 = .ok (.ifCond .ne 12, 3) := by decide +kernel
theorem sX12_readSum_14 : dsOk (MN MX12_readSum).cls (MB MX12_readSum) 14 [(.aload_n 0, 0, 0, 0), (.bipush 45, 0, 0, 45)] 17 = true := by decide +kernel
theorem dX12_readSum_17 : decode (MB MX12_readSum) 17 = .ok (.invokevirtual 242, 3) := by decide +kernel
theorem dX12_readSum_20 : decode (MB MX12_readSum) 20 = .ok (.ifCond .eq 37, 3) := by decide +kernel
theorem sX12_readSum_23 : dsOk (MN MX12_readSum).cls (MB MX12_readSum) 23 [(.aload_n 0, 0, 0, 0), (.bipush 43, 0, 0, 43)] 26 = true := by decide +kernel
theorem dX12_readSum_26 : decode (MB MX12_readSum) 26 = .ok (.invokevirtual 242, 3) := by decide +kernel
theorem dX12_readSum_29 : decode (MB MX12_readSum) 29 = .ok (.ifCond .eq 8, 3) := by decide +kernel
theorem sX12_readSum_32 : dsOk (MN MX12_readSum).cls (MB MX12_readSum) 32 [(.bipush (-20), 0, 0, -20)] 34 = true := by decide +kernel
theorem dX12_readSum_34 : decode (MB MX12_readSum) 34 = .ok (.goto 5, 3) := by decide +kernel
theorem sX12_readSum_37 : dsOk (MN MX12_readSum).cls (MB MX12_readSum) 37 [(.bipush (-21), 0, 0, -21)] 39 = true := by decide +kernel
theorem sX12_readSum_39 : dsOk (MN MX12_readSum).cls (MB MX12_readSum) 39 [(.istore_n 2, 0, 0, 0), (.aload_n 0, 0, 0, 0)] 41 = true := by decide +kernel
theorem dX12_readSum_41 : decode (MB MX12_readSum) 41 = .ok (.invokevirtual 249, 3) := by decide +kernel
theorem sX12_readSum_44 : dsOk (MN MX12_readSum).cls (MB MX12_readSum) 44 [(.aload_n 0, 0, 0, 0), (.iload_n 1, 0, 0, 0)] 46 = true := by decide +kernel
theorem dX12_readSum_46 : decode (MB MX12_readSum) 46 = .ok (.invokevirtual 277, 3) := by decide +kernel
theorem sX12_readSum_49 : dsOk (MN MX12_readSum).cls (MB MX12_readSum) 49 [(.aload_n 0, 0, 0, 0), (.iload_n 2, 0, 0, 0)] 51 = true := by decide +kernel
theorem dX12_readSum_51 : decode (MB MX12_readSum) 51 = .ok (.invokevirtual 261, 3) := by decide +kernel
theorem dX12_readSum_54 : decode (MB MX12_readSum) 54 = .ok (.goto (-49), 3) := by decide +kernel
theorem dX12_readSum_57 : decode (MB MX12_readSum) 57 = .ok (.return_, 1) := by decide +kernel
def MX12_readNot : Ms := (yX12_readNot, cX12_readNot, 4, none, [])
set_option maxRecDepth 100000 in
theorem kX12_readNot : mkV MX12_readNot 1 := ⟨⟨List.mem_of_getElem? (i := 1741) (by rfl), by decide +kernel⟩, by decide +kernel⟩
theorem sX12_readNot_0 : dsOk (MN MX12_readNot).cls (MB MX12_readNot) 0 [(.iconst 0, 0, 0, 0), (.istore_n 2, 0, 0, 0)] 2 = true := by decide +kernel
theorem sX12_readNot_2 : dsOk (MN MX12_readNot).cls (MB MX12_readNot) 2 [(.aload_n 0, 0, 0, 0)] 3 = true := by decide +kernel
theorem dX12_readNot_3 : decode (MB MX12_readNot) 3 = .ok (.ldc_w 280, 3) := by decide +kernel
theorem dX12_readNot_6 : decode (MB MX12_readNot) 6 = .ok (.invokevirtual 238, 3) := by decide +kernel
theorem dX12_readNot_9 : decode (MB MX12_readNot) 9 = .ok (.ifCond .eq 31, 3) := by decide +kernel
theorem sX12_readNot_12 : dsOk (MN MX12_readNot).cls (MB MX12_readNot) 12 [(.iload_n 2, 0, 0, 0), (.bipush 6, 0, 0, 6)] 15 = true := by decide +kernel
theorem dX12_readNot_15 : decode (MB MX12_readNot) 15 = .ok (.if_icmp .ne 8, 3) := by decide +kernel
theorem sX12_readNot_18 : dsOk (MN MX12_readNot).cls (MB MX12_readNot) 18 [(.aload_n 0, 0, 0, 0), (.iconst 2, 0, 0, 0)] 20 = true := by decide +kernel
theorem dX12_readNot_20 : decode (MB MX12_readNot) 20 = .ok (.invokevirtual 245, 3) := by decide +kernel
theorem sX12_readNot_23 : dsOk (MN MX12_readNot).cls (MB MX12_readNot) 23 [(.iinc 2 1, 0, 0, 0), (.aload_n 0, 0, 0, 0), (.getfield 224, 11, 26, 0)] 30 = true := by decide +kernel
theorem dX12_readNot_30 : decode (MB MX12_readNot) 30 = .ok (.ifCond .ne (-28), 3) := by decide +kernel
theorem sX12_readNot_33 : dsOk (MN MX12_readNot).cls (MB MX12_readNot) 33 [(.aload_n 0, 0, 0, 0)] 34 = true := by decide +kernel
theorem dX12_readNot_34 : decode (MB MX12_readNot) 34 = .ok (.invokevirtual 249, 3) := by decide +kernel
theorem dX12_readNot_37 : decode (MB MX12_readNot) 37 = .ok (.goto (-35), 3) := by decide +kernel
theorem sX12_readNot_40 : dsOk (MN MX12_readNot).cls (MB MX12_readNot) 40 [(.aload_n 0, 0, 0, 0), (.iload_n 1, 0, 0, 0)] 42 = true := by decide +kernel
theorem dX12_readNot_42 : decode (MB MX12_readNot) 42 = .ok (.invokevirtual 282, 3) := by decide +kernel
theorem sX12_readNot_45 : dsOk (MN MX12_readNot).cls (MB MX12_readNot) 45 [(.aload_n 0, 0, 0, 0), (.bipush 60, 0, 0, 60)] 48 = true := by decide +kernel
theorem dX12_readNot_48 : decode (MB MX12_readNot) 48 = .ok (.invokevirtual 242, 3) := by decide +kernel
theorem dX12_readNot_51 : decode (MB MX12_readNot) 51 = .ok (.ifCond .ne 12, 3) := by decide +kernel
theorem sX12_readNot_54 : dsOk (MN MX12_readNot).cls (MB MX12_readNot) 54 [(.aload_n 0, 0, 0, 0), (.bipush 61, 0, 0, 61)] 57 = true := by decide +kernel
theorem dX12_readNot_57 : decode (MB MX12_readNot) 57 = .ok (.invokevirtual 242, 3) := by decide +kernel
theorem dX12_readNot_60 : decode (MB MX12_readNot) 60 = .ok (.ifCond .eq 34, 3) := by decide +kernel
theorem sX12_readNot_63 : dsOk (MN MX12_readNot).cls (MB MX12_readNot) 63 [(.aload_n 0, 0, 0, 0), (.bipush 60, 0, 0, 60)] 66 = true := by decide +kernel
theorem dX12_readNot_66 : decode (MB MX12_readNot) 66 = .ok (.invokevirtual 242, 3) := by decide +kernel
theorem dX12_readNot_69 : decode (MB MX12_readNot) 69 = .ok (.ifCond .eq 8, 3) := by decide +kernel
theorem sX12_readNot_72 : dsOk (MN MX12_readNot).cls (MB MX12_readNot) 72 [(.bipush (-24), 0, 0, -24)] 74 = true := by decide +kernel
theorem dX12_readNot_74 : decode (MB MX12_readNot) 74 = .ok (.goto 5, 3) := by decide +kernel
theorem sX12_readNot_77 : dsOk (MN MX12_readNot).cls (MB MX12_readNot) 77 [(.bipush (-25), 0, 0, -25)] 79 = true := by decide +kernel
theorem sX12_readNot_79 : dsOk (MN MX12_readNot).cls (MB MX12_readNot) 79 [(.istore_n 3, 0, 0, 0), (.aload_n 0, 0, 0, 0)] 81 = true := by decide +kernel
theorem dX12_readNot_81 : decode (MB MX12_readNot) 81 = .ok (.invokevirtual 249, 3) := by decide +kernel
theorem sX12_readNot_84 : dsOk (MN MX12_readNot).cls (MB MX12_readNot) 84 [(.aload_n 0, 0, 0, 0), (.iload_n 1, 0, 0, 0)] 86 = true := by decide +kernel
theorem dX12_readNot_86 : decode (MB MX12_readNot) 86 = .ok (.invokevirtual 282, 3) := by decide +kernel
theorem sX12_readNot_89 : dsOk (MN MX12_readNot).cls (MB MX12_readNot) 89 [(.aload_n 0, 0, 0, 0), (.iload_n 3, 0, 0, 0)] 91 = true := by decide +kernel
theorem dX12_readNot_91 : decode (MB MX12_readNot) 91 = .ok (.invokevirtual 261, 3) := by decide +kernel
theorem sX12_readNot_94 : dsOk (MN MX12_readNot).cls (MB MX12_readNot) 94 [(.iconst 0, 0, 0, 0), (.istore_n 3, 0, 0, 0)] 96 = true := by decide +kernel
theorem sX12_readNot_96 : dsOk (MN MX12_readNot).cls (MB MX12_readNot) 96 [(.iload_n 3, 0, 0, 0), (.iload_n 2, 0, 0, 0)] 98 = true := by decide +kernel
theorem dX12_readNot_98 : decode (MB MX12_readNot) 98 = .ok (.if_icmp .ge 15, 3) := by decide +kernel
theorem sX12_readNot_101 : dsOk (MN MX12_readNot).cls (MB MX12_readNot) 101 [(.aload_n 0, 0, 0, 0), (.bipush (-28), 0, 0, -28)] 104 = true := by decide +kernel
theorem dX12_readNot_104 : decode (MB MX12_readNot) 104 = .ok (.invokevirtual 261, 3) := by decide +kernel
theorem sX12_readNot_107 : dsOk (MN MX12_readNot).cls (MB MX12_readNot) 107 [(.iinc 3 1, 0, 0, 0)] 110 = true := by decide +kernel
theorem dX12_readNot_110 : decode (MB MX12_readNot) 110 = .ok (.goto (-14), 3) := by decide +kernel
theorem dX12_readNot_113 : decode (MB MX12_readNot) 113 = .ok (.return_, 1) := by decide +kernel
def MX12_readAnd : Ms := (yX12_readAnd, cX12_readAnd, 2, none, [])
set_option maxRecDepth 100000 in
theorem kX12_readAnd : mkV MX12_readAnd 1 := ⟨⟨List.mem_of_getElem? (i := 1737) (by rfl), by decide +kernel⟩, by decide +kernel⟩
theorem sX12_readAnd_0 : dsOk (MN MX12_readAnd).cls (MB MX12_readAnd) 0 [(.aload_n 0, 0, 0, 0), (.iload_n 1, 0, 0, 0)] 2 = true := by decide +kernel
theorem dX12_readAnd_2 : decode (MB MX12_readAnd) 2 = .ok (.invokevirtual 285, 3) := by decide +kernel
theorem sX12_readAnd_5 : dsOk (MN MX12_readAnd).cls (MB MX12_readAnd) 5 [(.aload_n 0, 0, 0, 0)] 6 = true := by decide +kernel
theorem dX12_readAnd_6 : decode (MB MX12_readAnd) 6 = .ok (.ldc_w 288, 3) := by decide +kernel
theorem dX12_readAnd_9 : decode (MB MX12_readAnd) 9 = .ok (.invokevirtual 238, 3) := by decide +kernel
theorem dX12_readAnd_12 : decode (MB MX12_readAnd) 12 = .ok (.ifCond .eq 21, 3) := by decide +kernel
theorem sX12_readAnd_15 : dsOk (MN MX12_readAnd).cls (MB MX12_readAnd) 15 [(.aload_n 0, 0, 0, 0)] 16 = true := by decide +kernel
theorem dX12_readAnd_16 : decode (MB MX12_readAnd) 16 = .ok (.invokevirtual 249, 3) := by decide +kernel
theorem sX12_readAnd_19 : dsOk (MN MX12_readAnd).cls (MB MX12_readAnd) 19 [(.aload_n 0, 0, 0, 0), (.iload_n 1, 0, 0, 0)] 21 = true := by decide +kernel
theorem dX12_readAnd_21 : decode (MB MX12_readAnd) 21 = .ok (.invokevirtual 285, 3) := by decide +kernel
theorem sX12_readAnd_24 : dsOk (MN MX12_readAnd).cls (MB MX12_readAnd) 24 [(.aload_n 0, 0, 0, 0), (.bipush (-26), 0, 0, -26)] 27 = true := by decide +kernel
theorem dX12_readAnd_27 : decode (MB MX12_readAnd) 27 = .ok (.invokevirtual 261, 3) := by decide +kernel
theorem dX12_readAnd_30 : decode (MB MX12_readAnd) 30 = .ok (.goto (-25), 3) := by decide +kernel
theorem dX12_readAnd_33 : decode (MB MX12_readAnd) 33 = .ok (.return_, 1) := by decide +kernel
def MX12_readExpression : Ms := (yX12_readExpression, cX12_readExpression, 3, none, [])
set_option maxRecDepth 100000 in
theorem kX12_readExpression : mkV MX12_readExpression 1 := ⟨⟨List.mem_of_getElem? (i := 1729) (by rfl), by decide +kernel⟩, by decide +kernel⟩
theorem sX12_readExpression_0 : dsOk (MN MX12_readExpression).cls (MB MX12_readExpression) 0 [(.aload_n 0, 0, 0, 0), (.getfield 224, 11, 26, 0)] 4 = true := by decide +kernel
theorem dX12_readExpression_4 : decode (MB MX12_readExpression) 4 = .ok (.ifCond .eq 4, 3) := by decide +kernel
theorem dX12_readExpression_7 : decode (MB MX12_readExpression) 7 = .ok (.return_, 1) := by decide +kernel
theorem sX12_readExpression_8 : dsOk (MN MX12_readExpression).cls (MB MX12_readExpression) 8 [(.aload_n 0, 0, 0, 0), (.getfield 198, 11, 21, 0), (.iconst 2, 0, 0, 0)] 13 = true := by decide +kernel
theorem dX12_readExpression_13 : decode (MB MX12_readExpression) 13 = .ok (.if_icmp .eq 20, 3) := by decide +kernel
theorem sX12_readExpression_16 : dsOk (MN MX12_readExpression).cls (MB MX12_readExpression) 16 [(.aload_n 0, 0, 0, 0), (.getfield 198, 11, 21, 0), (.iconst 1, 0, 0, 0)] 21 = true := by decide +kernel
theorem dX12_readExpression_21 : decode (MB MX12_readExpression) 21 = .ok (.if_icmp .eq 12, 3) := by decide +kernel
theorem sX12_readExpression_24 : dsOk (MN MX12_readExpression).cls (MB MX12_readExpression) 24 [(.aload_n 0, 0, 0, 0), (.bipush 40, 0, 0, 40)] 27 = true := by decide +kernel
theorem dX12_readExpression_27 : decode (MB MX12_readExpression) 27 = .ok (.invokevirtual 242, 3) := by decide +kernel
theorem dX12_readExpression_30 : decode (MB MX12_readExpression) 30 = .ok (.ifCond .eq 7, 3) := by decide +kernel
theorem sX12_readExpression_33 : dsOk (MN MX12_readExpression).cls (MB MX12_readExpression) 33 [(.iconst 1, 0, 0, 0)] 34 = true := by decide +kernel
theorem dX12_readExpression_34 : decode (MB MX12_readExpression) 34 = .ok (.goto 4, 3) := by decide +kernel
theorem sX12_readExpression_37 : dsOk (MN MX12_readExpression).cls (MB MX12_readExpression) 37 [(.iconst 0, 0, 0, 0)] 38 = true := by decide +kernel
theorem sX12_readExpression_38 : dsOk (MN MX12_readExpression).cls (MB MX12_readExpression) 38 [(.istore_n 2, 0, 0, 0), (.iload_n 2, 0, 0, 0)] 40 = true := by decide +kernel
theorem dX12_readExpression_40 : decode (MB MX12_readExpression) 40 = .ok (.ifCond .ne 11, 3) := by decide +kernel
theorem sX12_readExpression_43 : dsOk (MN MX12_readExpression).cls (MB MX12_readExpression) 43 [(.aload_n 0, 0, 0, 0), (.iconst 1, 0, 0, 0)] 45 = true := by decide +kernel
theorem dX12_readExpression_45 : decode (MB MX12_readExpression) 45 = .ok (.invokevirtual 245, 3) := by decide +kernel
theorem dX12_readExpression_48 : decode (MB MX12_readExpression) 48 = .ok (.goto 14, 3) := by decide +kernel
theorem sX12_readExpression_51 : dsOk (MN MX12_readExpression).cls (MB MX12_readExpression) 51 [(.iload_n 1, 0, 0, 0), (.bipush 6, 0, 0, 6)] 54 = true := by decide +kernel
theorem dX12_readExpression_54 : decode (MB MX12_readExpression) 54 = .ok (.if_icmp .ne 8, 3) := by decide +kernel
theorem sX12_readExpression_57 : dsOk (MN MX12_readExpression).cls (MB MX12_readExpression) 57 [(.aload_n 0, 0, 0, 0), (.iconst 2, 0, 0, 0)] 59 = true := by decide +kernel
theorem dX12_readExpression_59 : decode (MB MX12_readExpression) 59 = .ok (.invokevirtual 245, 3) := by decide +kernel
theorem sX12_readExpression_62 : dsOk (MN MX12_readExpression).cls (MB MX12_readExpression) 62 [(.aload_n 0, 0, 0, 0), (.iload_n 1, 0, 0, 0)] 64 = true := by decide +kernel
theorem dX12_readExpression_64 : decode (MB MX12_readExpression) 64 = .ok (.invokevirtual 290, 3) := by decide +kernel
theorem sX12_readExpression_67 : dsOk (MN MX12_readExpression).cls (MB MX12_readExpression) 67 [(.aload_n 0, 0, 0, 0)] 68 = true := by decide +kernel
theorem dX12_readExpression_68 : decode (MB MX12_readExpression) 68 = .ok (.ldc_w 293, 3) := by decide +kernel
theorem dX12_readExpression_71 : decode (MB MX12_readExpression) 71 = .ok (.invokevirtual 238, 3) := by decide +kernel
theorem dX12_readExpression_74 : decode (MB MX12_readExpression) 74 = .ok (.ifCond .eq 21, 3) := by decide +kernel
theorem sX12_readExpression_77 : dsOk (MN MX12_readExpression).cls (MB MX12_readExpression) 77 [(.aload_n 0, 0, 0, 0)] 78 = true := by decide +kernel
theorem dX12_readExpression_78 : decode (MB MX12_readExpression) 78 = .ok (.invokevirtual 249, 3) := by decide +kernel
theorem sX12_readExpression_81 : dsOk (MN MX12_readExpression).cls (MB MX12_readExpression) 81 [(.aload_n 0, 0, 0, 0), (.iload_n 1, 0, 0, 0)] 83 = true := by decide +kernel
theorem dX12_readExpression_83 : decode (MB MX12_readExpression) 83 = .ok (.invokevirtual 290, 3) := by decide +kernel
theorem sX12_readExpression_86 : dsOk (MN MX12_readExpression).cls (MB MX12_readExpression) 86 [(.aload_n 0, 0, 0, 0), (.bipush (-27), 0, 0, -27)] 89 = true := by decide +kernel
theorem dX12_readExpression_89 : decode (MB MX12_readExpression) 89 = .ok (.invokevirtual 261, 3) := by decide +kernel
theorem dX12_readExpression_92 : decode (MB MX12_readExpression) 92 = .ok (.goto (-25), 3) := by decide +kernel
theorem dX12_readExpression_95 : decode (MB MX12_readExpression) 95 = .ok (.return_, 1) := by decide +kernel
def MX12_readOneOf : Ms := (yX12_readOneOf, cX12_readOneOf, 2, (some .int), [])
set_option maxRecDepth 100000 in
theorem kX12_readOneOf : mkV MX12_readOneOf 0 := ⟨⟨List.mem_of_getElem? (i := 1773) (by rfl), by decide +kernel⟩, by decide +kernel⟩
theorem sX12_readOneOf_0 : dsOk (MN MX12_readOneOf).cls (MB MX12_readOneOf) 0 [(.aload_n 0, 0, 0, 0), (.iconst 0, 0, 0, 0), (.sipush 9999, 0, 0, 9999)] 5 = true := by decide +kernel
theorem dX12_readOneOf_5 : decode (MB MX12_readOneOf) 5 = .ok (.invokevirtual 252, 3) := by decide +kernel
theorem sX12_readOneOf_8 : dsOk (MN MX12_readOneOf).cls (MB MX12_readOneOf) 8 [(.istore_n 1, 0, 0, 0), (.aload_n 0, 0, 0, 0), (.getfield 224, 11, 26, 0)] 13 = true := by decide +kernel
theorem dX12_readOneOf_13 : decode (MB MX12_readOneOf) 13 = .ok (.ifCond .ne 18, 3) := by decide +kernel
theorem sX12_readOneOf_16 : dsOk (MN MX12_readOneOf).cls (MB MX12_readOneOf) 16 [(.iload_n 1, 0, 0, 0), (.aload_n 0, 0, 0, 0), (.getfield 40, 11, 3, 0), (.iconst 2, 0, 0, 0), (.iaload, 0, 0, 0)] 23 = true := by decide +kernel
theorem dX12_readOneOf_23 : decode (MB MX12_readOneOf) 23 = .ok (.if_icmp .lt 8, 3) := by decide +kernel
theorem sX12_readOneOf_26 : dsOk (MN MX12_readOneOf).cls (MB MX12_readOneOf) 26 [(.aload_n 0, 0, 0, 0), (.iconst 3, 0, 0, 0)] 28 = true := by decide +kernel
theorem dX12_readOneOf_28 : decode (MB MX12_readOneOf) 28 = .ok (.invokevirtual 245, 3) := by decide +kernel
theorem sX12_readOneOf_31 : dsOk (MN MX12_readOneOf).cls (MB MX12_readOneOf) 31 [(.aload_n 0, 0, 0, 0), (.getfield 224, 11, 26, 0)] 35 = true := by decide +kernel
theorem dX12_readOneOf_35 : decode (MB MX12_readOneOf) 35 = .ok (.ifCond .ne 7, 3) := by decide +kernel
theorem sX12_readOneOf_38 : dsOk (MN MX12_readOneOf).cls (MB MX12_readOneOf) 38 [(.aload_n 0, 0, 0, 0)] 39 = true := by decide +kernel
theorem dX12_readOneOf_39 : decode (MB MX12_readOneOf) 39 = .ok (.invokevirtual 249, 3) := by decide +kernel
theorem sX12_readOneOf_42 : dsOk (MN MX12_readOneOf).cls (MB MX12_readOneOf) 42 [(.aload_n 0, 0, 0, 0), (.getfield 224, 11, 26, 0)] 46 = true := by decide +kernel
theorem dX12_readOneOf_46 : decode (MB MX12_readOneOf) 46 = .ok (.ifCond .ne 7, 3) := by decide +kernel
theorem sX12_readOneOf_49 : dsOk (MN MX12_readOneOf).cls (MB MX12_readOneOf) 49 [(.iload_n 1, 0, 0, 0)] 50 = true := by decide +kernel
theorem dX12_readOneOf_50 : decode (MB MX12_readOneOf) 50 = .ok (.goto 4, 3) := by decide +kernel
theorem sX12_readOneOf_53 : dsOk (MN MX12_readOneOf).cls (MB MX12_readOneOf) 53 [(.iconst 0, 0, 0, 0)] 54 = true := by decide +kernel
theorem dX12_readOneOf_54 : decode (MB MX12_readOneOf) 54 = .ok (.ireturn, 1) := by decide +kernel
def MX12_isAmong : Ms := (yX12_isAmong, cX12_isAmong, 5, (some .boolean), [])
set_option maxRecDepth 100000 in
theorem kX12_isAmong : mkS MX12_isAmong 4 := ⟨⟨List.mem_of_getElem? (i := 1780) (by rfl), by decide +kernel⟩, by decide +kernel⟩
theorem sX12_isAmong_0 : dsOk (MN MX12_isAmong).cls (MB MX12_isAmong) 0 [(.iconst 0, 0, 0, 0), (.istore 4, 0, 0, 0)] 3 = true := by decide +kernel
theorem sX12_isAmong_3 : dsOk (MN MX12_isAmong).cls (MB MX12_isAmong) 3 [(.iload 4, 0, 0, 0), (.iload_n 2, 0, 0, 0)] 6 = true := by decide +kernel
theorem dX12_isAmong_6 : decode (MB MX12_isAmong) 6 = .ok (.if_icmp .ge 21, 3) := by decide +kernel
theorem sX12_isAmong_9 : dsOk (MN MX12_isAmong).cls (MB MX12_isAmong) 9 [(.aload_n 0, 0, 0, 0), (.iload_n 1, 0, 0, 0), (.iload 4, 0, 0, 0), (.iadd, 0, 0, 0), (.iaload, 0, 0, 0), (.iload_n 3, 0, 0, 0)] 16 = true := by decide +kernel
theorem dX12_isAmong_16 : decode (MB MX12_isAmong) 16 = .ok (.if_icmp .ne 5, 3) := by decide +kernel
theorem sX12_isAmong_19 : dsOk (MN MX12_isAmong).cls (MB MX12_isAmong) 19 [(.iconst 1, 0, 0, 0)] 20 = true := by decide +kernel
theorem dX12_isAmong_20 : decode (MB MX12_isAmong) 20 = .ok (.ireturn, 1) := by decide +kernel
theorem sX12_isAmong_21 : dsOk (MN MX12_isAmong).cls (MB MX12_isAmong) 21 [(.iinc 4 1, 0, 0, 0)] 24 = true := by decide +kernel
theorem dX12_isAmong_24 : decode (MB MX12_isAmong) 24 = .ok (.goto (-21), 3) := by decide +kernel
theorem sX12_isAmong_27 : dsOk (MN MX12_isAmong).cls (MB MX12_isAmong) 27 [(.iconst 0, 0, 0, 0)] 28 = true := by decide +kernel
theorem dX12_isAmong_28 : decode (MB MX12_isAmong) 28 = .ok (.ireturn, 1) := by decide +kernel
def MX12_readLeaves : Ms := (yX12_readLeaves, cX12_readLeaves, 8, (some .int), [])
set_option maxRecDepth 100000 in
theorem kX12_readLeaves : mkV MX12_readLeaves 5 := ⟨⟨List.mem_of_getElem? (i := 1777) (by rfl), by decide +kernel⟩, by decide +kernel⟩
theorem sX12_readLeaves_0 : dsOk (MN MX12_readLeaves).cls (MB MX12_readLeaves) 0 [(.iload 4, 0, 0, 0), (.istore 6, 0, 0, 0)] 4 = true := by decide +kernel
theorem sX12_readLeaves_4 : dsOk (MN MX12_readLeaves).cls (MB MX12_readLeaves) 4 [(.aload_n 0, 0, 0, 0), (.getfield 224, 11, 26, 0)] 8 = true := by decide +kernel
theorem dX12_readLeaves_8 : decode (MB MX12_readLeaves) 8 = .ok (.ifCond .ne 114, 3) := by decide +kernel
theorem sX12_readLeaves_11 : dsOk (MN MX12_readLeaves).cls (MB MX12_readLeaves) 11 [(.aload_n 0, 0, 0, 0), (.getfield 198, 11, 21, 0), (.iconst 2, 0, 0, 0)] 16 = true := by decide +kernel
theorem dX12_readLeaves_16 : decode (MB MX12_readLeaves) 16 = .ok (.if_icmp .ne 106, 3) := by decide +kernel
theorem sX12_readLeaves_19 : dsOk (MN MX12_readLeaves).cls (MB MX12_readLeaves) 19 [(.iload 6, 0, 0, 0), (.iload 5, 0, 0, 0)] 23 = true := by decide +kernel
theorem dX12_readLeaves_23 : decode (MB MX12_readLeaves) 23 = .ok (.if_icmp .ne 8, 3) := by decide +kernel
theorem sX12_readLeaves_26 : dsOk (MN MX12_readLeaves).cls (MB MX12_readLeaves) 26 [(.aload_n 0, 0, 0, 0), (.iconst 2, 0, 0, 0)] 28 = true := by decide +kernel
theorem dX12_readLeaves_28 : decode (MB MX12_readLeaves) 28 = .ok (.invokevirtual 245, 3) := by decide +kernel
theorem sX12_readLeaves_31 : dsOk (MN MX12_readLeaves).cls (MB MX12_readLeaves) 31 [(.aload_n 0, 0, 0, 0), (.iconst 0, 0, 0, 0), (.sipush 9999, 0, 0, 9999)] 36 = true := by decide +kernel
theorem dX12_readLeaves_36 : decode (MB MX12_readLeaves) 36 = .ok (.invokevirtual 252, 3) := by decide +kernel
theorem sX12_readLeaves_39 : dsOk (MN MX12_readLeaves).cls (MB MX12_readLeaves) 39 [(.istore 7, 0, 0, 0), (.aload_n 0, 0, 0, 0), (.getfield 224, 11, 26, 0)] 45 = true := by decide +kernel
theorem dX12_readLeaves_45 : decode (MB MX12_readLeaves) 45 = .ok (.ifCond .ne 25, 3) := by decide +kernel
theorem sX12_readLeaves_48 : dsOk (MN MX12_readLeaves).cls (MB MX12_readLeaves) 48 [(.iload 7, 0, 0, 0), (.aload_n 0, 0, 0, 0), (.getfield 49, 11, 6, 0), (.bipush 6, 0, 0, 6), (.iload_n 1, 0, 0, 0), (.iadd, 0, 0, 0), (.iaload, 0, 0, 0)] 59 = true := by decide +kernel
theorem dX12_readLeaves_59 : decode (MB MX12_readLeaves) 59 = .ok (.if_icmp .lt 11, 3) := by decide +kernel
theorem sX12_readLeaves_62 : dsOk (MN MX12_readLeaves).cls (MB MX12_readLeaves) 62 [(.aload_n 0, 0, 0, 0), (.iconst 3, 0, 0, 0)] 64 = true := by decide +kernel
theorem dX12_readLeaves_64 : decode (MB MX12_readLeaves) 64 = .ok (.invokevirtual 245, 3) := by decide +kernel
theorem dX12_readLeaves_67 : decode (MB MX12_readLeaves) 67 = .ok (.goto 27, 3) := by decide +kernel
theorem sX12_readLeaves_70 : dsOk (MN MX12_readLeaves).cls (MB MX12_readLeaves) 70 [(.aload_n 0, 0, 0, 0), (.getfield 224, 11, 26, 0)] 74 = true := by decide +kernel
theorem dX12_readLeaves_74 : decode (MB MX12_readLeaves) 74 = .ok (.ifCond .ne 20, 3) := by decide +kernel
theorem sX12_readLeaves_77 : dsOk (MN MX12_readLeaves).cls (MB MX12_readLeaves) 77 [(.aload_n 2, 0, 0, 0), (.iload_n 3, 0, 0, 0), (.iload 6, 0, 0, 0), (.iload 7, 0, 0, 0)] 83 = true := by decide +kernel
theorem dX12_readLeaves_83 : decode (MB MX12_readLeaves) 83 = .ok (.invokestatic 295, 3) := by decide +kernel
theorem dX12_readLeaves_86 : decode (MB MX12_readLeaves) 86 = .ok (.ifCond .eq 8, 3) := by decide +kernel
theorem sX12_readLeaves_89 : dsOk (MN MX12_readLeaves).cls (MB MX12_readLeaves) 89 [(.aload_n 0, 0, 0, 0), (.iconst 4, 0, 0, 0)] 91 = true := by decide +kernel
theorem dX12_readLeaves_91 : decode (MB MX12_readLeaves) 91 = .ok (.invokevirtual 245, 3) := by decide +kernel
theorem sX12_readLeaves_94 : dsOk (MN MX12_readLeaves).cls (MB MX12_readLeaves) 94 [(.aload_n 0, 0, 0, 0), (.getfield 224, 11, 26, 0)] 98 = true := by decide +kernel
theorem dX12_readLeaves_98 : decode (MB MX12_readLeaves) 98 = .ok (.ifCond .eq 6, 3) := by decide +kernel
theorem sX12_readLeaves_101 : dsOk (MN MX12_readLeaves).cls (MB MX12_readLeaves) 101 [(.iload 6, 0, 0, 0)] 103 = true := by decide +kernel
theorem dX12_readLeaves_103 : decode (MB MX12_readLeaves) 103 = .ok (.ireturn, 1) := by decide +kernel
theorem sX12_readLeaves_104 : dsOk (MN MX12_readLeaves).cls (MB MX12_readLeaves) 104 [(.aload_n 2, 0, 0, 0), (.iload_n 3, 0, 0, 0), (.iload 6, 0, 0, 0), (.iadd, 0, 0, 0), (.iload 7, 0, 0, 0), (.iastore, 0, 0, 0), (.iinc 6 1, 0, 0, 0), (.aload_n 0, 0, 0, 0)] 116 = true := by decide +kernel
theorem dX12_readLeaves_116 : decode (MB MX12_readLeaves) 116 = .ok (.invokevirtual 249, 3) := by decide +kernel
theorem dX12_readLeaves_119 : decode (MB MX12_readLeaves) 119 = .ok (.goto (-115), 3) := by decide +kernel
theorem sX12_readLeaves_122 : dsOk (MN MX12_readLeaves).cls (MB MX12_readLeaves) 122 [(.iload 6, 0, 0, 0)] 124 = true := by decide +kernel
theorem dX12_readLeaves_124 : decode (MB MX12_readLeaves) 124 = .ok (.ireturn, 1) := by decide +kernel
def MX12_readBook : Ms := (yX12_readBook, cX12_readBook, 3, none, [])
set_option maxRecDepth 100000 in
theorem kX12_readBook : mkV MX12_readBook 1 := ⟨⟨List.mem_of_getElem? (i := 1712) (by rfl), by decide +kernel⟩, by decide +kernel⟩
theorem sX12_readBook_0 : dsOk (MN MX12_readBook).cls (MB MX12_readBook) 0 [(.aload_n 0, 0, 0, 0), (.getfield 40, 11, 3, 0), (.iconst 2, 0, 0, 0), (.iaload, 0, 0, 0), (.bipush 6, 0, 0, 6)] 8 = true := by decide +kernel
theorem dX12_readBook_8 : decode (MB MX12_readBook) 8 = .ok (.if_icmp .ne 8, 3) := by decide +kernel
theorem sX12_readBook_11 : dsOk (MN MX12_readBook).cls (MB MX12_readBook) 11 [(.aload_n 0, 0, 0, 0), (.iconst 2, 0, 0, 0)] 13 = true := by decide +kernel
theorem dX12_readBook_13 : decode (MB MX12_readBook) 13 = .ok (.invokevirtual 245, 3) := by decide +kernel
theorem sX12_readBook_16 : dsOk (MN MX12_readBook).cls (MB MX12_readBook) 16 [(.aload_n 0, 0, 0, 0), (.getfield 224, 11, 26, 0)] 20 = true := by decide +kernel
theorem dX12_readBook_20 : decode (MB MX12_readBook) 20 = .ok (.ifCond .eq 4, 3) := by decide +kernel
theorem dX12_readBook_23 : decode (MB MX12_readBook) 23 = .ok (.return_, 1) := by decide +kernel
theorem sX12_readBook_24 : dsOk (MN MX12_readBook).cls (MB MX12_readBook) 24 [(.aload_n 0, 0, 0, 0)] 25 = true := by decide +kernel
theorem dX12_readBook_25 : decode (MB MX12_readBook) 25 = .ok (.invokevirtual 249, 3) := by decide +kernel
theorem sX12_readBook_28 : dsOk (MN MX12_readBook).cls (MB MX12_readBook) 28 [(.bipush 6, 0, 0, 6), (.aload_n 0, 0, 0, 0), (.getfield 40, 11, 3, 0), (.iconst 2, 0, 0, 0), (.iaload, 0, 0, 0), (.iadd, 0, 0, 0), (.istore_n 2, 0, 0, 0), (.aload_n 0, 0, 0, 0), (.getfield 43, 11, 4, 0), (.iload_n 2, 0, 0, 0), (.iload_n 1, 0, 0, 0), (.iastore, 0, 0, 0), (.aload_n 0, 0, 0, 0), (.getfield 46, 11, 5, 0), (.iload_n 2, 0, 0, 0), (.iload_n 1, 0, 0, 0), (.iconst 2, 0, 0, 0)] 52 = true := by decide +kernel
theorem dX12_readBook_52 : decode (MB MX12_readBook) 52 = .ok (.if_icmp .ne 13, 3) := by decide +kernel
theorem sX12_readBook_55 : dsOk (MN MX12_readBook).cls (MB MX12_readBook) 55 [(.aload_n 0, 0, 0, 0), (.iconst 0, 0, 0, 0), (.bipush 99, 0, 0, 99)] 59 = true := by decide +kernel
theorem dX12_readBook_59 : decode (MB MX12_readBook) 59 = .ok (.invokevirtual 258, 3) := by decide +kernel
theorem dX12_readBook_62 : decode (MB MX12_readBook) 62 = .ok (.goto 19, 3) := by decide +kernel
theorem sX12_readBook_65 : dsOk (MN MX12_readBook).cls (MB MX12_readBook) 65 [(.iload_n 1, 0, 0, 0), (.iconst 5, 0, 0, 0)] 67 = true := by decide +kernel
theorem dX12_readBook_67 : decode (MB MX12_readBook) 67 = .ok (.if_icmp .ne 13, 3) := by decide +kernel
theorem sX12_readBook_70 : dsOk (MN MX12_readBook).cls (MB MX12_readBook) 70 [(.aload_n 0, 0, 0, 0), (.iconst 1, 0, 0, 0), (.bipush 9, 0, 0, 9)] 74 = true := by decide +kernel
theorem dX12_readBook_74 : decode (MB MX12_readBook) 74 = .ok (.invokevirtual 258, 3) := by decide +kernel
theorem dX12_readBook_77 : decode (MB MX12_readBook) 77 = .ok (.goto 4, 3) := by decide +kernel
theorem sX12_readBook_80 : dsOk (MN MX12_readBook).cls (MB MX12_readBook) 80 [(.iconst 0, 0, 0, 0)] 81 = true := by decide +kernel
theorem sX12_readBook_81 : dsOk (MN MX12_readBook).cls (MB MX12_readBook) 81 [(.iastore, 0, 0, 0), (.aload_n 0, 0, 0, 0), (.getfield 49, 11, 6, 0), (.iload_n 2, 0, 0, 0), (.aload_n 0, 0, 0, 0), (.iconst 1, 0, 0, 0), (.sipush 2000, 0, 0, 2000)] 92 = true := by decide +kernel
theorem dX12_readBook_92 : decode (MB MX12_readBook) 92 = .ok (.invokevirtual 252, 3) := by decide +kernel
theorem sX12_readBook_95 : dsOk (MN MX12_readBook).cls (MB MX12_readBook) 95 [(.iastore, 0, 0, 0), (.aload_n 0, 0, 0, 0), (.getfield 224, 11, 26, 0)] 100 = true := by decide +kernel
theorem dX12_readBook_100 : decode (MB MX12_readBook) 100 = .ok (.ifCond .ne 25, 3) := by decide +kernel
theorem sX12_readBook_103 : dsOk (MN MX12_readBook).cls (MB MX12_readBook) 103 [(.iload_n 1, 0, 0, 0), (.iconst 1, 0, 0, 0)] 105 = true := by decide +kernel
theorem dX12_readBook_105 : decode (MB MX12_readBook) 105 = .ok (.if_icmp .ne 20, 3) := by decide +kernel
theorem sX12_readBook_108 : dsOk (MN MX12_readBook).cls (MB MX12_readBook) 108 [(.aload_n 0, 0, 0, 0), (.getfield 49, 11, 6, 0), (.iload_n 2, 0, 0, 0), (.iaload, 0, 0, 0), (.iconst 2, 0, 0, 0), (.irem, 0, 0, 0), (.iconst 1, 0, 0, 0)] 117 = true := by decide +kernel
theorem dX12_readBook_117 : decode (MB MX12_readBook) 117 = .ok (.if_icmp .ne 8, 3) := by decide +kernel
theorem sX12_readBook_120 : dsOk (MN MX12_readBook).cls (MB MX12_readBook) 120 [(.aload_n 0, 0, 0, 0), (.iconst 2, 0, 0, 0)] 122 = true := by decide +kernel
theorem dX12_readBook_122 : decode (MB MX12_readBook) 122 = .ok (.invokevirtual 245, 3) := by decide +kernel
theorem sX12_readBook_125 : dsOk (MN MX12_readBook).cls (MB MX12_readBook) 125 [(.aload_n 0, 0, 0, 0), (.getfield 224, 11, 26, 0)] 129 = true := by decide +kernel
theorem dX12_readBook_129 : decode (MB MX12_readBook) 129 = .ok (.ifCond .ne 7, 3) := by decide +kernel
theorem sX12_readBook_132 : dsOk (MN MX12_readBook).cls (MB MX12_readBook) 132 [(.aload_n 0, 0, 0, 0)] 133 = true := by decide +kernel
theorem dX12_readBook_133 : decode (MB MX12_readBook) 133 = .ok (.invokevirtual 249, 3) := by decide +kernel
theorem sX12_readBook_136 : dsOk (MN MX12_readBook).cls (MB MX12_readBook) 136 [(.aload_n 0, 0, 0, 0), (.getfield 69, 11, 13, 0), (.iload_n 2, 0, 0, 0), (.aload_n 0, 0, 0, 0), (.getfield 255, 11, 23, 0), (.iastore, 0, 0, 0), (.iload_n 1, 0, 0, 0), (.bipush 6, 0, 0, 6)] 149 = true := by decide +kernel
theorem dX12_readBook_149 : decode (MB MX12_readBook) 149 = .ok (.if_icmp .ne 7, 3) := by decide +kernel
theorem sX12_readBook_152 : dsOk (MN MX12_readBook).cls (MB MX12_readBook) 152 [(.aload_n 0, 0, 0, 0)] 153 = true := by decide +kernel
theorem dX12_readBook_153 : decode (MB MX12_readBook) 153 = .ok (.invokevirtual 299, 3) := by decide +kernel
theorem sX12_readBook_156 : dsOk (MN MX12_readBook).cls (MB MX12_readBook) 156 [(.aload_n 0, 0, 0, 0), (.getfield 72, 11, 14, 0), (.iload_n 2, 0, 0, 0), (.aload_n 0, 0, 0, 0), (.getfield 255, 11, 23, 0), (.iastore, 0, 0, 0), (.aload_n 0, 0, 0, 0), (.getfield 51, 11, 7, 0), (.iload_n 2, 0, 0, 0), (.iconst 0, 0, 0, 0), (.iastore, 0, 0, 0), (.aload_n 0, 0, 0, 0), (.getfield 40, 11, 3, 0), (.iconst 2, 0, 0, 0), (.dup2, 0, 0, 0), (.iaload, 0, 0, 0), (.iconst 1, 0, 0, 0), (.iadd, 0, 0, 0), (.iastore, 0, 0, 0)] 183 = true := by decide +kernel
theorem dX12_readBook_183 : decode (MB MX12_readBook) 183 = .ok (.return_, 1) := by decide +kernel
def MX12_readRule : Ms := (yX12_readRule, cX12_readRule, 1, none, [])
set_option maxRecDepth 100000 in
theorem kX12_readRule : mkV MX12_readRule 0 := ⟨⟨List.mem_of_getElem? (i := 1724) (by rfl), by decide +kernel⟩, by decide +kernel⟩
theorem sX12_readRule_0 : dsOk (MN MX12_readRule).cls (MB MX12_readRule) 0 [(.aload_n 0, 0, 0, 0), (.getfield 224, 11, 26, 0)] 4 = true := by decide +kernel
theorem dX12_readRule_4 : decode (MB MX12_readRule) 4 = .ok (.ifCond .ne 18, 3) := by decide +kernel
theorem sX12_readRule_7 : dsOk (MN MX12_readRule).cls (MB MX12_readRule) 7 [(.aload_n 0, 0, 0, 0)] 8 = true := by decide +kernel
theorem dX12_readRule_8 : decode (MB MX12_readRule) 8 = .ok (.ldc_w 302, 3) := by decide +kernel
theorem dX12_readRule_11 : decode (MB MX12_readRule) 11 = .ok (.invokevirtual 238, 3) := by decide +kernel
theorem dX12_readRule_14 : decode (MB MX12_readRule) 14 = .ok (.ifCond .ne 8, 3) := by decide +kernel
theorem sX12_readRule_17 : dsOk (MN MX12_readRule).cls (MB MX12_readRule) 17 [(.aload_n 0, 0, 0, 0), (.iconst 1, 0, 0, 0)] 19 = true := by decide +kernel
theorem dX12_readRule_19 : decode (MB MX12_readRule) 19 = .ok (.invokevirtual 245, 3) := by decide +kernel
theorem sX12_readRule_22 : dsOk (MN MX12_readRule).cls (MB MX12_readRule) 22 [(.aload_n 0, 0, 0, 0), (.getfield 224, 11, 26, 0)] 26 = true := by decide +kernel
theorem dX12_readRule_26 : decode (MB MX12_readRule) 26 = .ok (.ifCond .ne 7, 3) := by decide +kernel
theorem sX12_readRule_29 : dsOk (MN MX12_readRule).cls (MB MX12_readRule) 29 [(.aload_n 0, 0, 0, 0)] 30 = true := by decide +kernel
theorem dX12_readRule_30 : decode (MB MX12_readRule) 30 = .ok (.invokevirtual 249, 3) := by decide +kernel
theorem sX12_readRule_33 : dsOk (MN MX12_readRule).cls (MB MX12_readRule) 33 [(.aload_n 0, 0, 0, 0), (.iconst 0, 0, 0, 0)] 35 = true := by decide +kernel
theorem dX12_readRule_35 : decode (MB MX12_readRule) 35 = .ok (.invokevirtual 271, 3) := by decide +kernel
theorem dX12_readRule_38 : decode (MB MX12_readRule) 38 = .ok (.return_, 1) := by decide +kernel
def MX12_readGone : Ms := (yX12_readGone, cX12_readGone, 2, none, [])
set_option maxRecDepth 100000 in
theorem kX12_readGone : mkV MX12_readGone 0 := ⟨⟨List.mem_of_getElem? (i := 1769) (by rfl), by decide +kernel⟩, by decide +kernel⟩
theorem sX12_readGone_0 : dsOk (MN MX12_readGone).cls (MB MX12_readGone) 0 [(.aload_n 0, 0, 0, 0)] 1 = true := by decide +kernel
theorem dX12_readGone_1 : decode (MB MX12_readGone) 1 = .ok (.invokevirtual 249, 3) := by decide +kernel
theorem sX12_readGone_4 : dsOk (MN MX12_readGone).cls (MB MX12_readGone) 4 [(.aload_n 0, 0, 0, 0)] 5 = true := by decide +kernel
theorem dX12_readGone_5 : decode (MB MX12_readGone) 5 = .ok (.invokevirtual 304, 3) := by decide +kernel
theorem sX12_readGone_8 : dsOk (MN MX12_readGone).cls (MB MX12_readGone) 8 [(.istore_n 1, 0, 0, 0), (.aload_n 0, 0, 0, 0), (.getfield 224, 11, 26, 0)] 13 = true := by decide +kernel
theorem dX12_readGone_13 : decode (MB MX12_readGone) 13 = .ok (.ifCond .ne 16, 3) := by decide +kernel
theorem sX12_readGone_16 : dsOk (MN MX12_readGone).cls (MB MX12_readGone) 16 [(.aload_n 0, 0, 0, 0), (.getfield 198, 11, 21, 0), (.iconst 2, 0, 0, 0)] 21 = true := by decide +kernel
theorem dX12_readGone_21 : decode (MB MX12_readGone) 21 = .ok (.if_icmp .eq 8, 3) := by decide +kernel
theorem sX12_readGone_24 : dsOk (MN MX12_readGone).cls (MB MX12_readGone) 24 [(.aload_n 0, 0, 0, 0), (.iconst 1, 0, 0, 0)] 26 = true := by decide +kernel
theorem dX12_readGone_26 : decode (MB MX12_readGone) 26 = .ok (.invokevirtual 245, 3) := by decide +kernel
theorem sX12_readGone_29 : dsOk (MN MX12_readGone).cls (MB MX12_readGone) 29 [(.aload_n 0, 0, 0, 0), (.getfield 224, 11, 26, 0)] 33 = true := by decide +kernel
theorem dX12_readGone_33 : decode (MB MX12_readGone) 33 = .ok (.ifCond .ne 39, 3) := by decide +kernel
theorem sX12_readGone_36 : dsOk (MN MX12_readGone).cls (MB MX12_readGone) 36 [(.aload_n 0, 0, 0, 0), (.getfield 51, 11, 7, 0), (.bipush 6, 0, 0, 6), (.iload_n 1, 0, 0, 0), (.iadd, 0, 0, 0), (.aload_n 0, 0, 0, 0), (.iload_n 1, 0, 0, 0), (.aload_n 0, 0, 0, 0), (.getfield 54, 11, 8, 0), (.bipush 60, 0, 0, 60), (.bipush 6, 0, 0, 6), (.iload_n 1, 0, 0, 0), (.iadd, 0, 0, 0), (.imul, 0, 0, 0), (.aload_n 0, 0, 0, 0), (.getfield 51, 11, 7, 0), (.bipush 6, 0, 0, 6), (.iload_n 1, 0, 0, 0), (.iadd, 0, 0, 0), (.iaload, 0, 0, 0), (.bipush 60, 0, 0, 60)] 68 = true := by decide +kernel
theorem dX12_readGone_68 : decode (MB MX12_readGone) 68 = .ok (.invokevirtual 307, 3) := by decide +kernel
theorem sX12_readGone_71 : dsOk (MN MX12_readGone).cls (MB MX12_readGone) 71 [(.iastore, 0, 0, 0)] 72 = true := by decide +kernel
theorem dX12_readGone_72 : decode (MB MX12_readGone) 72 = .ok (.return_, 1) := by decide +kernel
def MX12_readCopy : Ms := (yX12_readCopy, cX12_readCopy, 2, none, [])
set_option maxRecDepth 100000 in
theorem kX12_readCopy : mkV MX12_readCopy 0 := ⟨⟨List.mem_of_getElem? (i := 1785) (by rfl), by decide +kernel⟩, by decide +kernel⟩
theorem sX12_readCopy_0 : dsOk (MN MX12_readCopy).cls (MB MX12_readCopy) 0 [(.aload_n 0, 0, 0, 0), (.getfield 40, 11, 3, 0), (.iconst 3, 0, 0, 0), (.iaload, 0, 0, 0), (.bipush 8, 0, 0, 8)] 8 = true := by decide +kernel
theorem dX12_readCopy_8 : decode (MB MX12_readCopy) 8 = .ok (.if_icmp .ne 8, 3) := by decide +kernel
theorem sX12_readCopy_11 : dsOk (MN MX12_readCopy).cls (MB MX12_readCopy) 11 [(.aload_n 0, 0, 0, 0), (.iconst 2, 0, 0, 0)] 13 = true := by decide +kernel
theorem dX12_readCopy_13 : decode (MB MX12_readCopy) 13 = .ok (.invokevirtual 245, 3) := by decide +kernel
theorem sX12_readCopy_16 : dsOk (MN MX12_readCopy).cls (MB MX12_readCopy) 16 [(.aload_n 0, 0, 0, 0), (.getfield 224, 11, 26, 0)] 20 = true := by decide +kernel
theorem dX12_readCopy_20 : decode (MB MX12_readCopy) 20 = .ok (.ifCond .eq 4, 3) := by decide +kernel
theorem dX12_readCopy_23 : decode (MB MX12_readCopy) 23 = .ok (.return_, 1) := by decide +kernel
theorem sX12_readCopy_24 : dsOk (MN MX12_readCopy).cls (MB MX12_readCopy) 24 [(.aload_n 0, 0, 0, 0)] 25 = true := by decide +kernel
theorem dX12_readCopy_25 : decode (MB MX12_readCopy) 25 = .ok (.invokevirtual 249, 3) := by decide +kernel
theorem sX12_readCopy_28 : dsOk (MN MX12_readCopy).cls (MB MX12_readCopy) 28 [(.bipush 8, 0, 0, 8), (.aload_n 0, 0, 0, 0), (.getfield 40, 11, 3, 0), (.iconst 3, 0, 0, 0), (.iaload, 0, 0, 0), (.iadd, 0, 0, 0), (.istore_n 1, 0, 0, 0), (.aload_n 0, 0, 0, 0), (.getfield 57, 11, 9, 0), (.iload_n 1, 0, 0, 0), (.aload_n 0, 0, 0, 0)] 44 = true := by decide +kernel
theorem dX12_readCopy_44 : decode (MB MX12_readCopy) 44 = .ok (.invokevirtual 304, 3) := by decide +kernel
theorem sX12_readCopy_47 : dsOk (MN MX12_readCopy).cls (MB MX12_readCopy) 47 [(.iastore, 0, 0, 0), (.aload_n 0, 0, 0, 0), (.getfield 60, 11, 10, 0), (.iload_n 1, 0, 0, 0), (.aload_n 0, 0, 0, 0), (.getfield 224, 11, 26, 0)] 57 = true := by decide +kernel
theorem dX12_readCopy_57 : decode (MB MX12_readCopy) 57 = .ok (.ifCond .ne 27, 3) := by decide +kernel
theorem sX12_readCopy_60 : dsOk (MN MX12_readCopy).cls (MB MX12_readCopy) 60 [(.aload_n 0, 0, 0, 0), (.aload_n 0, 0, 0, 0), (.getfield 57, 11, 9, 0), (.iload_n 1, 0, 0, 0), (.iaload, 0, 0, 0), (.aload_n 0, 0, 0, 0), (.getfield 63, 11, 11, 0), (.bipush 30, 0, 0, 30), (.iload_n 1, 0, 0, 0), (.imul, 0, 0, 0), (.iconst 0, 0, 0, 0), (.bipush 30, 0, 0, 30)] 78 = true := by decide +kernel
theorem dX12_readCopy_78 : decode (MB MX12_readCopy) 78 = .ok (.invokevirtual 307, 3) := by decide +kernel
theorem dX12_readCopy_81 : decode (MB MX12_readCopy) 81 = .ok (.goto 4, 3) := by decide +kernel
theorem sX12_readCopy_84 : dsOk (MN MX12_readCopy).cls (MB MX12_readCopy) 84 [(.iconst 0, 0, 0, 0)] 85 = true := by decide +kernel
theorem sX12_readCopy_85 : dsOk (MN MX12_readCopy).cls (MB MX12_readCopy) 85 [(.iastore, 0, 0, 0), (.aload_n 0, 0, 0, 0), (.getfield 40, 11, 3, 0), (.iconst 3, 0, 0, 0), (.dup2, 0, 0, 0), (.iaload, 0, 0, 0), (.iconst 1, 0, 0, 0), (.iadd, 0, 0, 0), (.iastore, 0, 0, 0)] 96 = true := by decide +kernel
theorem dX12_readCopy_96 : decode (MB MX12_readCopy) 96 = .ok (.return_, 1) := by decide +kernel
def MX12_readLine : Ms := (yX12_readLine, cX12_readLine, 5, (some .boolean), [])
set_option maxRecDepth 100000 in
theorem kX12_readLine : mkV MX12_readLine 1 := ⟨⟨List.mem_of_getElem? (i := 1693) (by rfl), by decide +kernel⟩, by decide +kernel⟩
theorem sX12_readLine_0 : dsOk (MN MX12_readLine).cls (MB MX12_readLine) 0 [(.aload_n 0, 0, 0, 0), (.aload_n 0, 0, 0, 0), (.getfield 23, 11, 0, 0)] 5 = true := by decide +kernel
theorem dX12_readLine_5 : decode (MB MX12_readLine) 5 = .ok (.invokevirtual 264, 3) := by decide +kernel
theorem sX12_readLine_8 : dsOk (MN MX12_readLine).cls (MB MX12_readLine) 8 [(.istore_n 2, 0, 0, 0), (.aload_n 0, 0, 0, 0)] 10 = true := by decide +kernel
theorem dX12_readLine_10 : decode (MB MX12_readLine) 10 = .ok (.ldc_w 311, 3) := by decide +kernel
theorem dX12_readLine_13 : decode (MB MX12_readLine) 13 = .ok (.invokevirtual 238, 3) := by decide +kernel
theorem sX12_readLine_16 : dsOk (MN MX12_readLine).cls (MB MX12_readLine) 16 [(.istore_n 3, 0, 0, 0), (.iload_n 3, 0, 0, 0)] 18 = true := by decide +kernel
theorem dX12_readLine_18 : decode (MB MX12_readLine) 18 = .ok (.ifCond .eq 12, 3) := by decide +kernel
theorem sX12_readLine_21 : dsOk (MN MX12_readLine).cls (MB MX12_readLine) 21 [(.iload_n 1, 0, 0, 0)] 22 = true := by decide +kernel
theorem dX12_readLine_22 : decode (MB MX12_readLine) 22 = .ok (.ifCond .eq 8, 3) := by decide +kernel
theorem sX12_readLine_25 : dsOk (MN MX12_readLine).cls (MB MX12_readLine) 25 [(.aload_n 0, 0, 0, 0), (.iconst 5, 0, 0, 0)] 27 = true := by decide +kernel
theorem dX12_readLine_27 : decode (MB MX12_readLine) 27 = .ok (.invokevirtual 245, 3) := by decide +kernel
theorem sX12_readLine_30 : dsOk (MN MX12_readLine).cls (MB MX12_readLine) 30 [(.iload_n 2, 0, 0, 0), (.iconst (-1), 0, 0, 0)] 32 = true := by decide +kernel
theorem dX12_readLine_32 : decode (MB MX12_readLine) 32 = .ok (.if_icmp .eq 11, 3) := by decide +kernel
theorem sX12_readLine_35 : dsOk (MN MX12_readLine).cls (MB MX12_readLine) 35 [(.aload_n 0, 0, 0, 0), (.iload_n 2, 0, 0, 0)] 37 = true := by decide +kernel
theorem dX12_readLine_37 : decode (MB MX12_readLine) 37 = .ok (.invokevirtual 312, 3) := by decide +kernel
theorem dX12_readLine_40 : decode (MB MX12_readLine) 40 = .ok (.goto 98, 3) := by decide +kernel
theorem sX12_readLine_43 : dsOk (MN MX12_readLine).cls (MB MX12_readLine) 43 [(.aload_n 0, 0, 0, 0)] 44 = true := by decide +kernel
theorem dX12_readLine_44 : decode (MB MX12_readLine) 44 = .ok (.ldc_w 315, 3) := by decide +kernel
theorem dX12_readLine_47 : decode (MB MX12_readLine) 47 = .ok (.invokevirtual 238, 3) := by decide +kernel
theorem dX12_readLine_50 : decode (MB MX12_readLine) 50 = .ok (.ifCond .eq 10, 3) := by decide +kernel
theorem sX12_readLine_53 : dsOk (MN MX12_readLine).cls (MB MX12_readLine) 53 [(.aload_n 0, 0, 0, 0)] 54 = true := by decide +kernel
theorem dX12_readLine_54 : decode (MB MX12_readLine) 54 = .ok (.invokevirtual 316, 3) := by decide +kernel
theorem dX12_readLine_57 : decode (MB MX12_readLine) 57 = .ok (.goto 81, 3) := by decide +kernel
theorem sX12_readLine_60 : dsOk (MN MX12_readLine).cls (MB MX12_readLine) 60 [(.aload_n 0, 0, 0, 0)] 61 = true := by decide +kernel
theorem dX12_readLine_61 : decode (MB MX12_readLine) 61 = .ok (.ldc_w 319, 3) := by decide +kernel
theorem dX12_readLine_64 : decode (MB MX12_readLine) 64 = .ok (.invokevirtual 238, 3) := by decide +kernel
theorem dX12_readLine_67 : decode (MB MX12_readLine) 67 = .ok (.ifCond .eq 10, 3) := by decide +kernel
theorem sX12_readLine_70 : dsOk (MN MX12_readLine).cls (MB MX12_readLine) 70 [(.aload_n 0, 0, 0, 0)] 71 = true := by decide +kernel
theorem dX12_readLine_71 : decode (MB MX12_readLine) 71 = .ok (.invokevirtual 321, 3) := by decide +kernel
theorem dX12_readLine_74 : decode (MB MX12_readLine) 74 = .ok (.goto 64, 3) := by decide +kernel
theorem sX12_readLine_77 : dsOk (MN MX12_readLine).cls (MB MX12_readLine) 77 [(.iload_n 3, 0, 0, 0)] 78 = true := by decide +kernel
theorem dX12_readLine_78 : decode (MB MX12_readLine) 78 = .ok (.ifCond .ne 8, 3) := by decide +kernel
theorem sX12_readLine_81 : dsOk (MN MX12_readLine).cls (MB MX12_readLine) 81 [(.aload_n 0, 0, 0, 0), (.iconst 1, 0, 0, 0)] 83 = true := by decide +kernel
theorem dX12_readLine_83 : decode (MB MX12_readLine) 83 = .ok (.invokevirtual 245, 3) := by decide +kernel
theorem sX12_readLine_86 : dsOk (MN MX12_readLine).cls (MB MX12_readLine) 86 [(.aload_n 0, 0, 0, 0), (.getfield 224, 11, 26, 0)] 90 = true := by decide +kernel
theorem dX12_readLine_90 : decode (MB MX12_readLine) 90 = .ok (.ifCond .ne 7, 3) := by decide +kernel
theorem sX12_readLine_93 : dsOk (MN MX12_readLine).cls (MB MX12_readLine) 93 [(.aload_n 0, 0, 0, 0)] 94 = true := by decide +kernel
theorem dX12_readLine_94 : decode (MB MX12_readLine) 94 = .ok (.invokevirtual 249, 3) := by decide +kernel
theorem sX12_readLine_97 : dsOk (MN MX12_readLine).cls (MB MX12_readLine) 97 [(.iconst 0, 0, 0, 0), (.istore 4, 0, 0, 0)] 100 = true := by decide +kernel
theorem sX12_readLine_100 : dsOk (MN MX12_readLine).cls (MB MX12_readLine) 100 [(.iload 4, 0, 0, 0), (.bipush 10, 0, 0, 10)] 104 = true := by decide +kernel
theorem dX12_readLine_104 : decode (MB MX12_readLine) 104 = .ok (.if_icmp .ge 34, 3) := by decide +kernel
theorem sX12_readLine_107 : dsOk (MN MX12_readLine).cls (MB MX12_readLine) 107 [(.aload_n 0, 0, 0, 0), (.getfield 224, 11, 26, 0)] 111 = true := by decide +kernel
theorem dX12_readLine_111 : decode (MB MX12_readLine) 111 = .ok (.ifCond .ne 27, 3) := by decide +kernel
theorem sX12_readLine_114 : dsOk (MN MX12_readLine).cls (MB MX12_readLine) 114 [(.aload_n 0, 0, 0, 0), (.getfield 66, 11, 12, 0), (.bipush 10, 0, 0, 10), (.iload 4, 0, 0, 0), (.iadd, 0, 0, 0), (.aload_n 0, 0, 0, 0), (.iconst 0, 0, 0, 0), (.sipush 9999, 0, 0, 9999)] 128 = true := by decide +kernel
theorem dX12_readLine_128 : decode (MB MX12_readLine) 128 = .ok (.invokevirtual 258, 3) := by decide +kernel
theorem sX12_readLine_131 : dsOk (MN MX12_readLine).cls (MB MX12_readLine) 131 [(.iastore, 0, 0, 0), (.iinc 4 1, 0, 0, 0)] 135 = true := by decide +kernel
theorem dX12_readLine_135 : decode (MB MX12_readLine) 135 = .ok (.goto (-35), 3) := by decide +kernel
theorem sX12_readLine_138 : dsOk (MN MX12_readLine).cls (MB MX12_readLine) 138 [(.aload_n 0, 0, 0, 0), (.bipush 59, 0, 0, 59)] 141 = true := by decide +kernel
theorem dX12_readLine_141 : decode (MB MX12_readLine) 141 = .ok (.invokevirtual 268, 3) := by decide +kernel
theorem sX12_readLine_144 : dsOk (MN MX12_readLine).cls (MB MX12_readLine) 144 [(.iload_n 1, 0, 0, 0)] 145 = true := by decide +kernel
theorem dX12_readLine_145 : decode (MB MX12_readLine) 145 = .ok (.ifCond .ne 7, 3) := by decide +kernel
theorem sX12_readLine_148 : dsOk (MN MX12_readLine).cls (MB MX12_readLine) 148 [(.iload_n 3, 0, 0, 0)] 149 = true := by decide +kernel
theorem dX12_readLine_149 : decode (MB MX12_readLine) 149 = .ok (.ifCond .eq 7, 3) := by decide +kernel
theorem sX12_readLine_152 : dsOk (MN MX12_readLine).cls (MB MX12_readLine) 152 [(.iconst 1, 0, 0, 0)] 153 = true := by decide +kernel
theorem dX12_readLine_153 : decode (MB MX12_readLine) 153 = .ok (.goto 4, 3) := by decide +kernel
theorem sX12_readLine_156 : dsOk (MN MX12_readLine).cls (MB MX12_readLine) 156 [(.iconst 0, 0, 0, 0)] 157 = true := by decide +kernel
theorem dX12_readLine_157 : decode (MB MX12_readLine) 157 = .ok (.ireturn, 1) := by decide +kernel
def MX12_shelf : Ms := (yX12_shelf, cX12_shelf, 3, (some .int), [])
set_option maxRecDepth 100000 in
theorem kX12_shelf : mkV MX12_shelf 1 := ⟨⟨List.mem_of_getElem? (i := 1666) (by rfl), by decide +kernel⟩, by decide +kernel⟩
theorem sX12_shelf_0 : dsOk (MN MX12_shelf).cls (MB MX12_shelf) 0 [(.aload_n 0, 0, 0, 0), (.iconst 0, 0, 0, 0), (.putfield 175, 11, 2, 0), (.iload_n 1, 0, 0, 0)] 6 = true := by decide +kernel
theorem dX12_shelf_6 : decode (MB MX12_shelf) 6 = .ok (.ifCond .lt 11, 3) := by decide +kernel
theorem sX12_shelf_9 : dsOk (MN MX12_shelf).cls (MB MX12_shelf) 9 [(.iload_n 1, 0, 0, 0), (.aload_n 0, 0, 0, 0), (.getfield 182, 11, 18, 0)] 14 = true := by decide +kernel
theorem dX12_shelf_14 : decode (MB MX12_shelf) 14 = .ok (.if_icmp .le 9, 3) := by decide +kernel
theorem sX12_shelf_17 : dsOk (MN MX12_shelf).cls (MB MX12_shelf) 17 [(.aload_n 0, 0, 0, 0), (.iconst 1, 0, 0, 0)] 19 = true := by decide +kernel
theorem dX12_shelf_19 : decode (MB MX12_shelf) 19 = .ok (.invokevirtual 324, 3) := by decide +kernel
theorem dX12_shelf_22 : decode (MB MX12_shelf) 22 = .ok (.ireturn, 1) := by decide +kernel
theorem sX12_shelf_23 : dsOk (MN MX12_shelf).cls (MB MX12_shelf) 23 [(.aload_n 0, 0, 0, 0), (.iconst 0, 0, 0, 0), (.putfield 182, 11, 18, 0), (.aload_n 0, 0, 0, 0), (.iload_n 1, 0, 0, 0), (.putfield 185, 11, 20, 0), (.aload_n 0, 0, 0, 0), (.iconst 0, 0, 0, 0), (.putfield 188, 11, 19, 0), (.aload_n 0, 0, 0, 0), (.iconst 0, 0, 0, 0), (.putfield 224, 11, 26, 0), (.aload_n 0, 0, 0, 0), (.iconst (-1), 0, 0, 0), (.putfield 84, 11, 28, 0), (.aload_n 0, 0, 0, 0), (.getfield 40, 11, 3, 0), (.iconst 2, 0, 0, 0), (.iconst 0, 0, 0, 0), (.iastore, 0, 0, 0), (.aload_n 0, 0, 0, 0), (.getfield 40, 11, 3, 0), (.iconst 3, 0, 0, 0), (.iconst 0, 0, 0, 0), (.iastore, 0, 0, 0), (.aload_n 0, 0, 0, 0), (.iconst 0, 0, 0, 0), (.putfield 255, 11, 23, 0), (.iconst 0, 0, 0, 0), (.istore_n 2, 0, 0, 0)] 69 = true := by decide +kernel
theorem sX12_shelf_69 : dsOk (MN MX12_shelf).cls (MB MX12_shelf) 69 [(.iload_n 2, 0, 0, 0), (.bipush 10, 0, 0, 10)] 72 = true := by decide +kernel
theorem dX12_shelf_72 : decode (MB MX12_shelf) 72 = .ok (.if_icmp .ge 20, 3) := by decide +kernel
theorem sX12_shelf_75 : dsOk (MN MX12_shelf).cls (MB MX12_shelf) 75 [(.aload_n 0, 0, 0, 0), (.getfield 66, 11, 12, 0), (.bipush 10, 0, 0, 10), (.iload_n 2, 0, 0, 0), (.iadd, 0, 0, 0), (.bipush 100, 0, 0, 100), (.iastore, 0, 0, 0), (.iinc 2 1, 0, 0, 0)] 89 = true := by decide +kernel
theorem dX12_shelf_89 : decode (MB MX12_shelf) 89 = .ok (.goto (-20), 3) := by decide +kernel
theorem sX12_shelf_92 : dsOk (MN MX12_shelf).cls (MB MX12_shelf) 92 [(.aload_n 0, 0, 0, 0)] 93 = true := by decide +kernel
theorem dX12_shelf_93 : decode (MB MX12_shelf) 93 = .ok (.invokevirtual 249, 3) := by decide +kernel
theorem sX12_shelf_96 : dsOk (MN MX12_shelf).cls (MB MX12_shelf) 96 [(.iconst 0, 0, 0, 0), (.istore_n 2, 0, 0, 0)] 98 = true := by decide +kernel
theorem sX12_shelf_98 : dsOk (MN MX12_shelf).cls (MB MX12_shelf) 98 [(.aload_n 0, 0, 0, 0), (.getfield 224, 11, 26, 0)] 102 = true := by decide +kernel
theorem dX12_shelf_102 : decode (MB MX12_shelf) 102 = .ok (.ifCond .ne 19, 3) := by decide +kernel
theorem sX12_shelf_105 : dsOk (MN MX12_shelf).cls (MB MX12_shelf) 105 [(.aload_n 0, 0, 0, 0), (.getfield 198, 11, 21, 0)] 109 = true := by decide +kernel
theorem dX12_shelf_109 : decode (MB MX12_shelf) 109 = .ok (.ifCond .eq 12, 3) := by decide +kernel
theorem sX12_shelf_112 : dsOk (MN MX12_shelf).cls (MB MX12_shelf) 112 [(.aload_n 0, 0, 0, 0), (.iload_n 2, 0, 0, 0)] 114 = true := by decide +kernel
theorem dX12_shelf_114 : decode (MB MX12_shelf) 114 = .ok (.invokevirtual 327, 3) := by decide +kernel
theorem sX12_shelf_117 : dsOk (MN MX12_shelf).cls (MB MX12_shelf) 117 [(.istore_n 2, 0, 0, 0)] 118 = true := by decide +kernel
theorem dX12_shelf_118 : decode (MB MX12_shelf) 118 = .ok (.goto (-20), 3) := by decide +kernel
theorem sX12_shelf_121 : dsOk (MN MX12_shelf).cls (MB MX12_shelf) 121 [(.aload_n 0, 0, 0, 0), (.getfield 224, 11, 26, 0)] 125 = true := by decide +kernel
theorem dX12_shelf_125 : decode (MB MX12_shelf) 125 = .ok (.ifCond .eq 26, 3) := by decide +kernel
theorem sX12_shelf_128 : dsOk (MN MX12_shelf).cls (MB MX12_shelf) 128 [(.aload_n 0, 0, 0, 0), (.aload_n 0, 0, 0, 0), (.getfield 227, 11, 27, 0), (.putfield 84, 11, 28, 0), (.aload_n 0, 0, 0, 0), (.getfield 78, 11, 16, 0), (.iconst 0, 0, 0, 0), (.dup2, 0, 0, 0), (.iaload, 0, 0, 0), (.iconst 1, 0, 0, 0), (.iadd, 0, 0, 0), (.iastore, 0, 0, 0), (.aload_n 0, 0, 0, 0), (.getfield 224, 11, 26, 0)] 150 = true := by decide +kernel
theorem dX12_shelf_150 : decode (MB MX12_shelf) 150 = .ok (.ireturn, 1) := by decide +kernel
theorem sX12_shelf_151 : dsOk (MN MX12_shelf).cls (MB MX12_shelf) 151 [(.aload_n 0, 0, 0, 0)] 152 = true := by decide +kernel
theorem dX12_shelf_152 : decode (MB MX12_shelf) 152 = .ok (.invokevirtual 331, 3) := by decide +kernel
theorem sX12_shelf_155 : dsOk (MN MX12_shelf).cls (MB MX12_shelf) 155 [(.iconst 0, 0, 0, 0)] 156 = true := by decide +kernel
theorem dX12_shelf_156 : decode (MB MX12_shelf) 156 = .ok (.ireturn, 1) := by decide +kernel
def MX12_takeHalf : Ms := (yX12_takeHalf, cX12_takeHalf, 2, none, [])
set_option maxRecDepth 100000 in
theorem kX12_takeHalf : mkS MX12_takeHalf 1 := ⟨⟨List.mem_of_getElem? (i := 1792) (by rfl), by decide +kernel⟩, by decide +kernel⟩
theorem sX12_takeHalf_0 : dsOk (MN MX12_takeHalf).cls (MB MX12_takeHalf) 0 [(.iconst 0, 0, 0, 0), (.istore_n 1, 0, 0, 0)] 2 = true := by decide +kernel
theorem sX12_takeHalf_2 : dsOk (MN MX12_takeHalf).cls (MB MX12_takeHalf) 2 [(.iload_n 1, 0, 0, 0), (.aload_n 0, 0, 0, 0), (.arraylength, 0, 0, 0), (.iconst 2, 0, 0, 0), (.idiv, 0, 0, 0)] 7 = true := by decide +kernel
theorem dX12_takeHalf_7 : decode (MB MX12_takeHalf) 7 = .ok (.if_icmp .ge 20, 3) := by decide +kernel
theorem sX12_takeHalf_10 : dsOk (MN MX12_takeHalf).cls (MB MX12_takeHalf) 10 [(.aload_n 0, 0, 0, 0), (.iload_n 1, 0, 0, 0), (.aload_n 0, 0, 0, 0), (.aload_n 0, 0, 0, 0), (.arraylength, 0, 0, 0), (.iconst 2, 0, 0, 0), (.idiv, 0, 0, 0), (.iload_n 1, 0, 0, 0), (.iadd, 0, 0, 0), (.iaload, 0, 0, 0), (.iastore, 0, 0, 0), (.iinc 1 1, 0, 0, 0)] 24 = true := by decide +kernel
theorem dX12_takeHalf_24 : decode (MB MX12_takeHalf) 24 = .ok (.goto (-22), 3) := by decide +kernel
theorem dX12_takeHalf_27 : decode (MB MX12_takeHalf) 27 = .ok (.return_, 1) := by decide +kernel
def MX12_take : Ms := (yX12_take, cX12_take, 1, none, [])
set_option maxRecDepth 100000 in
theorem kX12_take : mkV MX12_take 0 := ⟨⟨List.mem_of_getElem? (i := 1789) (by rfl), by decide +kernel⟩, by decide +kernel⟩
theorem sX12_take_0 : dsOk (MN MX12_take).cls (MB MX12_take) 0 [(.aload_n 0, 0, 0, 0), (.getfield 40, 11, 3, 0)] 4 = true := by decide +kernel
theorem dX12_take_4 : decode (MB MX12_take) 4 = .ok (.invokestatic 334, 3) := by decide +kernel
theorem sX12_take_7 : dsOk (MN MX12_take).cls (MB MX12_take) 7 [(.aload_n 0, 0, 0, 0), (.getfield 43, 11, 4, 0)] 11 = true := by decide +kernel
theorem dX12_take_11 : decode (MB MX12_take) 11 = .ok (.invokestatic 334, 3) := by decide +kernel
theorem sX12_take_14 : dsOk (MN MX12_take).cls (MB MX12_take) 14 [(.aload_n 0, 0, 0, 0), (.getfield 46, 11, 5, 0)] 18 = true := by decide +kernel
theorem dX12_take_18 : decode (MB MX12_take) 18 = .ok (.invokestatic 334, 3) := by decide +kernel
theorem sX12_take_21 : dsOk (MN MX12_take).cls (MB MX12_take) 21 [(.aload_n 0, 0, 0, 0), (.getfield 49, 11, 6, 0)] 25 = true := by decide +kernel
theorem dX12_take_25 : decode (MB MX12_take) 25 = .ok (.invokestatic 334, 3) := by decide +kernel
theorem sX12_take_28 : dsOk (MN MX12_take).cls (MB MX12_take) 28 [(.aload_n 0, 0, 0, 0), (.getfield 51, 11, 7, 0)] 32 = true := by decide +kernel
theorem dX12_take_32 : decode (MB MX12_take) 32 = .ok (.invokestatic 334, 3) := by decide +kernel
theorem sX12_take_35 : dsOk (MN MX12_take).cls (MB MX12_take) 35 [(.aload_n 0, 0, 0, 0), (.getfield 54, 11, 8, 0)] 39 = true := by decide +kernel
theorem dX12_take_39 : decode (MB MX12_take) 39 = .ok (.invokestatic 334, 3) := by decide +kernel
theorem sX12_take_42 : dsOk (MN MX12_take).cls (MB MX12_take) 42 [(.aload_n 0, 0, 0, 0), (.getfield 57, 11, 9, 0)] 46 = true := by decide +kernel
theorem dX12_take_46 : decode (MB MX12_take) 46 = .ok (.invokestatic 334, 3) := by decide +kernel
theorem sX12_take_49 : dsOk (MN MX12_take).cls (MB MX12_take) 49 [(.aload_n 0, 0, 0, 0), (.getfield 60, 11, 10, 0)] 53 = true := by decide +kernel
theorem dX12_take_53 : decode (MB MX12_take) 53 = .ok (.invokestatic 334, 3) := by decide +kernel
theorem sX12_take_56 : dsOk (MN MX12_take).cls (MB MX12_take) 56 [(.aload_n 0, 0, 0, 0), (.getfield 63, 11, 11, 0)] 60 = true := by decide +kernel
theorem dX12_take_60 : decode (MB MX12_take) 60 = .ok (.invokestatic 334, 3) := by decide +kernel
theorem sX12_take_63 : dsOk (MN MX12_take).cls (MB MX12_take) 63 [(.aload_n 0, 0, 0, 0), (.getfield 66, 11, 12, 0)] 67 = true := by decide +kernel
theorem dX12_take_67 : decode (MB MX12_take) 67 = .ok (.invokestatic 334, 3) := by decide +kernel
theorem sX12_take_70 : dsOk (MN MX12_take).cls (MB MX12_take) 70 [(.aload_n 0, 0, 0, 0), (.getfield 69, 11, 13, 0)] 74 = true := by decide +kernel
theorem dX12_take_74 : decode (MB MX12_take) 74 = .ok (.invokestatic 334, 3) := by decide +kernel
theorem sX12_take_77 : dsOk (MN MX12_take).cls (MB MX12_take) 77 [(.aload_n 0, 0, 0, 0), (.getfield 72, 11, 14, 0)] 81 = true := by decide +kernel
theorem dX12_take_81 : decode (MB MX12_take) 81 = .ok (.invokestatic 334, 3) := by decide +kernel
theorem sX12_take_84 : dsOk (MN MX12_take).cls (MB MX12_take) 84 [(.aload_n 0, 0, 0, 0), (.getfield 75, 11, 15, 0)] 88 = true := by decide +kernel
theorem dX12_take_88 : decode (MB MX12_take) 88 = .ok (.invokestatic 334, 3) := by decide +kernel
theorem sX12_take_91 : dsOk (MN MX12_take).cls (MB MX12_take) 91 [(.aload_n 0, 0, 0, 0), (.iconst 0, 0, 0, 0), (.putfield 338, 11, 48, 0), (.aload_n 0, 0, 0, 0), (.iconst (-1), 0, 0, 0), (.putfield 145, 11, 57, 0), (.aload_n 0, 0, 0, 0), (.iconst (-1), 0, 0, 0), (.putfield 148, 11, 58, 0), (.aload_n 0, 0, 0, 0), (.iconst 0, 0, 0, 0), (.putfield 341, 11, 34, 0), (.aload_n 0, 0, 0, 0), (.iconst 0, 0, 0, 0), (.putfield 344, 11, 35, 0), (.aload_n 0, 0, 0, 0), (.iconst 0, 0, 0, 0), (.putfield 347, 11, 36, 0), (.aload_n 0, 0, 0, 0), (.iconst 0, 0, 0, 0), (.putfield 350, 11, 60, 0)] 126 = true := by decide +kernel
theorem dX12_take_126 : decode (MB MX12_take) 126 = .ok (.return_, 1) := by decide +kernel
def MX12_fault : Ms := (yX12_fault, cX12_fault, 1, (some .int), [])
set_option maxRecDepth 100000 in
theorem kX12_fault : mkV MX12_fault 0 := ⟨⟨List.mem_of_getElem? (i := 1796) (by rfl), by decide +kernel⟩, by decide +kernel⟩
theorem sX12_fault_0 : dsOk (MN MX12_fault).cls (MB MX12_fault) 0 [(.aload_n 0, 0, 0, 0), (.iconst 0, 0, 0, 0), (.putfield 175, 11, 2, 0), (.aload_n 0, 0, 0, 0), (.getfield 84, 11, 28, 0)] 9 = true := by decide +kernel
theorem dX12_fault_9 : decode (MB MX12_fault) 9 = .ok (.ireturn, 1) := by decide +kernel
def MX12_withoutFigure : Ms := (yX12_withoutFigure, cX12_withoutFigure, 11, (some .long), [])
set_option maxRecDepth 100000 in
theorem kX12_withoutFigure : mkS MX12_withoutFigure 2 := ⟨⟨List.mem_of_getElem? (i := 1833) (by rfl), by decide +kernel⟩, by decide +kernel⟩
theorem sX12_withoutFigure_0 : dsOk (MN MX12_withoutFigure).cls (MB MX12_withoutFigure) 0 [(.lconst 0, 0, 0, 0), (.lstore_n 3, 0, 0, 0), (.lconst 1, 0, 0, 1), (.lstore 5, 0, 0, 0), (.lload_n 1, 0, 0, 0), (.lstore 7, 0, 0, 0)] 8 = true := by decide +kernel
theorem sX12_withoutFigure_8 : dsOk (MN MX12_withoutFigure).cls (MB MX12_withoutFigure) 8 [(.lload 7, 0, 0, 0), (.lconst 0, 0, 0, 0), (.lcmp, 0, 0, 0)] 12 = true := by decide +kernel
theorem dX12_withoutFigure_12 : decode (MB MX12_withoutFigure) 12 = .ok (.ifCond .le 53, 3) := by decide +kernel
theorem sX12_withoutFigure_15 : dsOk (MN MX12_withoutFigure).cls (MB MX12_withoutFigure) 15 [(.lload 7, 0, 0, 0), (.ldc2_w 354, 0, 0, 9), (.lrem, 0, 0, 0), (.lstore 9, 0, 0, 0), (.lload_n 3, 0, 0, 0), (.lload 9, 0, 0, 0), (.iload_n 0, 0, 0, 0), (.i2l, 0, 0, 0), (.lcmp, 0, 0, 0)] 29 = true := by decide +kernel
theorem dX12_withoutFigure_29 : decode (MB MX12_withoutFigure) 29 = .ok (.ifCond .ge 8, 3) := by decide +kernel
theorem sX12_withoutFigure_32 : dsOk (MN MX12_withoutFigure).cls (MB MX12_withoutFigure) 32 [(.lload 9, 0, 0, 0)] 34 = true := by decide +kernel
theorem dX12_withoutFigure_34 : decode (MB MX12_withoutFigure) 34 = .ok (.goto 7, 3) := by decide +kernel
theorem sX12_withoutFigure_37 : dsOk (MN MX12_withoutFigure).cls (MB MX12_withoutFigure) 37 [(.lload 9, 0, 0, 0), (.lconst 1, 0, 0, 1), (.ladd, 0, 0, 0)] 41 = true := by decide +kernel
theorem sX12_withoutFigure_41 : dsOk (MN MX12_withoutFigure).cls (MB MX12_withoutFigure) 41 [(.lload 5, 0, 0, 0), (.lmul, 0, 0, 0), (.ladd, 0, 0, 0), (.lstore_n 3, 0, 0, 0), (.lload 5, 0, 0, 0), (.ldc2_w 356, 0, 0, 10), (.lmul, 0, 0, 0), (.lstore 5, 0, 0, 0), (.lload 7, 0, 0, 0), (.ldc2_w 354, 0, 0, 9), (.ldiv, 0, 0, 0), (.lstore 7, 0, 0, 0)] 62 = true := by decide +kernel
theorem dX12_withoutFigure_62 : decode (MB MX12_withoutFigure) 62 = .ok (.goto (-54), 3) := by decide +kernel
theorem sX12_withoutFigure_65 : dsOk (MN MX12_withoutFigure).cls (MB MX12_withoutFigure) 65 [(.lload_n 3, 0, 0, 0)] 66 = true := by decide +kernel
theorem dX12_withoutFigure_66 : decode (MB MX12_withoutFigure) 66 = .ok (.lreturn, 1) := by decide +kernel
def MX12_rankWithout : Ms := (yX12_rankWithout, cX12_rankWithout, 11, (some .long), [])
set_option maxRecDepth 100000 in
theorem kX12_rankWithout : mkS MX12_rankWithout 2 := ⟨⟨List.mem_of_getElem? (i := 1855) (by rfl), by decide +kernel⟩, by decide +kernel⟩
theorem sX12_rankWithout_0 : dsOk (MN MX12_rankWithout).cls (MB MX12_rankWithout) 0 [(.lconst 0, 0, 0, 0), (.lstore_n 3, 0, 0, 0), (.lconst 1, 0, 0, 1), (.lstore 5, 0, 0, 0), (.lload_n 1, 0, 0, 0), (.lstore 7, 0, 0, 0)] 8 = true := by decide +kernel
theorem sX12_rankWithout_8 : dsOk (MN MX12_rankWithout).cls (MB MX12_rankWithout) 8 [(.lload 7, 0, 0, 0), (.lconst 0, 0, 0, 0), (.lcmp, 0, 0, 0)] 12 = true := by decide +kernel
theorem dX12_rankWithout_12 : decode (MB MX12_rankWithout) 12 = .ok (.ifCond .le 65, 3) := by decide +kernel
theorem sX12_rankWithout_15 : dsOk (MN MX12_rankWithout).cls (MB MX12_rankWithout) 15 [(.lload 7, 0, 0, 0), (.ldc2_w 356, 0, 0, 10), (.lrem, 0, 0, 0), (.lstore 9, 0, 0, 0), (.lload 9, 0, 0, 0), (.iload_n 0, 0, 0, 0), (.i2l, 0, 0, 0), (.lcmp, 0, 0, 0)] 28 = true := by decide +kernel
theorem dX12_rankWithout_28 : decode (MB MX12_rankWithout) 28 = .ok (.ifCond .ne 7, 3) := by decide +kernel
theorem sX12_rankWithout_31 : dsOk (MN MX12_rankWithout).cls (MB MX12_rankWithout) 31 [(.ldc2_w 358, 0, 0, -1)] 34 = true := by decide +kernel
theorem dX12_rankWithout_34 : decode (MB MX12_rankWithout) 34 = .ok (.lreturn, 1) := by decide +kernel
theorem sX12_rankWithout_35 : dsOk (MN MX12_rankWithout).cls (MB MX12_rankWithout) 35 [(.lload_n 3, 0, 0, 0), (.lload 9, 0, 0, 0), (.iload_n 0, 0, 0, 0), (.i2l, 0, 0, 0), (.lcmp, 0, 0, 0)] 41 = true := by decide +kernel
theorem dX12_rankWithout_41 : decode (MB MX12_rankWithout) 41 = .ok (.ifCond .ge 8, 3) := by decide +kernel
theorem sX12_rankWithout_44 : dsOk (MN MX12_rankWithout).cls (MB MX12_rankWithout) 44 [(.lload 9, 0, 0, 0)] 46 = true := by decide +kernel
theorem dX12_rankWithout_46 : decode (MB MX12_rankWithout) 46 = .ok (.goto 7, 3) := by decide +kernel
theorem sX12_rankWithout_49 : dsOk (MN MX12_rankWithout).cls (MB MX12_rankWithout) 49 [(.lload 9, 0, 0, 0), (.lconst 1, 0, 0, 1), (.lsub, 0, 0, 0)] 53 = true := by decide +kernel
theorem sX12_rankWithout_53 : dsOk (MN MX12_rankWithout).cls (MB MX12_rankWithout) 53 [(.lload 5, 0, 0, 0), (.lmul, 0, 0, 0), (.ladd, 0, 0, 0), (.lstore_n 3, 0, 0, 0), (.lload 5, 0, 0, 0), (.ldc2_w 354, 0, 0, 9), (.lmul, 0, 0, 0), (.lstore 5, 0, 0, 0), (.lload 7, 0, 0, 0), (.ldc2_w 356, 0, 0, 10), (.ldiv, 0, 0, 0), (.lstore 7, 0, 0, 0)] 74 = true := by decide +kernel
theorem dX12_rankWithout_74 : decode (MB MX12_rankWithout) 74 = .ok (.goto (-66), 3) := by decide +kernel
theorem sX12_rankWithout_77 : dsOk (MN MX12_rankWithout).cls (MB MX12_rankWithout) 77 [(.lload_n 3, 0, 0, 0)] 78 = true := by decide +kernel
theorem dX12_rankWithout_78 : decode (MB MX12_rankWithout) 78 = .ok (.lreturn, 1) := by decide +kernel
def MX12_reckon : Ms := (yX12_reckon, cX12_reckon, 3, (some .int), [])
set_option maxRecDepth 100000 in
theorem kX12_reckon : mkS MX12_reckon 3 := ⟨⟨List.mem_of_getElem? (i := 1841) (by rfl), by decide +kernel⟩, by decide +kernel⟩
theorem sX12_reckon_0 : dsOk (MN MX12_reckon).cls (MB MX12_reckon) 0 [(.iload_n 0, 0, 0, 0)] 1 = true := by decide +kernel
theorem dX12_reckon_1 : decode (MB MX12_reckon) 1 = .ok (.tableswitch 103 (-26) (-20) #[89, 78, 67, 55, 51, 47, 43], 43) := by decide +kernel
theorem sX12_reckon_44 : dsOk (MN MX12_reckon).cls (MB MX12_reckon) 44 [(.iload_n 1, 0, 0, 0), (.iload_n 2, 0, 0, 0), (.iadd, 0, 0, 0)] 47 = true := by decide +kernel
theorem dX12_reckon_47 : decode (MB MX12_reckon) 47 = .ok (.ireturn, 1) := by decide +kernel
theorem sX12_reckon_48 : dsOk (MN MX12_reckon).cls (MB MX12_reckon) 48 [(.iload_n 1, 0, 0, 0), (.iload_n 2, 0, 0, 0), (.isub, 0, 0, 0)] 51 = true := by decide +kernel
theorem dX12_reckon_51 : decode (MB MX12_reckon) 51 = .ok (.ireturn, 1) := by decide +kernel
theorem sX12_reckon_52 : dsOk (MN MX12_reckon).cls (MB MX12_reckon) 52 [(.iload_n 1, 0, 0, 0), (.iload_n 2, 0, 0, 0), (.imul, 0, 0, 0)] 55 = true := by decide +kernel
theorem dX12_reckon_55 : decode (MB MX12_reckon) 55 = .ok (.ireturn, 1) := by decide +kernel
theorem sX12_reckon_56 : dsOk (MN MX12_reckon).cls (MB MX12_reckon) 56 [(.iload_n 2, 0, 0, 0)] 57 = true := by decide +kernel
theorem dX12_reckon_57 : decode (MB MX12_reckon) 57 = .ok (.ifCond .ne 7, 3) := by decide +kernel
theorem sX12_reckon_60 : dsOk (MN MX12_reckon).cls (MB MX12_reckon) 60 [(.iconst 0, 0, 0, 0)] 61 = true := by decide +kernel
theorem dX12_reckon_61 : decode (MB MX12_reckon) 61 = .ok (.goto 6, 3) := by decide +kernel
theorem sX12_reckon_64 : dsOk (MN MX12_reckon).cls (MB MX12_reckon) 64 [(.iload_n 1, 0, 0, 0), (.iload_n 2, 0, 0, 0), (.idiv, 0, 0, 0)] 67 = true := by decide +kernel
theorem dX12_reckon_67 : decode (MB MX12_reckon) 67 = .ok (.ireturn, 1) := by decide +kernel
theorem sX12_reckon_68 : dsOk (MN MX12_reckon).cls (MB MX12_reckon) 68 [(.iload_n 1, 0, 0, 0), (.iload_n 2, 0, 0, 0)] 70 = true := by decide +kernel
theorem dX12_reckon_70 : decode (MB MX12_reckon) 70 = .ok (.if_icmp .ge 7, 3) := by decide +kernel
theorem sX12_reckon_73 : dsOk (MN MX12_reckon).cls (MB MX12_reckon) 73 [(.iconst 1, 0, 0, 0)] 74 = true := by decide +kernel
theorem dX12_reckon_74 : decode (MB MX12_reckon) 74 = .ok (.goto 4, 3) := by decide +kernel
theorem sX12_reckon_77 : dsOk (MN MX12_reckon).cls (MB MX12_reckon) 77 [(.iconst 0, 0, 0, 0)] 78 = true := by decide +kernel
theorem dX12_reckon_78 : decode (MB MX12_reckon) 78 = .ok (.ireturn, 1) := by decide +kernel
theorem sX12_reckon_79 : dsOk (MN MX12_reckon).cls (MB MX12_reckon) 79 [(.iload_n 1, 0, 0, 0), (.iload_n 2, 0, 0, 0)] 81 = true := by decide +kernel
theorem dX12_reckon_81 : decode (MB MX12_reckon) 81 = .ok (.if_icmp .ne 7, 3) := by decide +kernel
theorem sX12_reckon_84 : dsOk (MN MX12_reckon).cls (MB MX12_reckon) 84 [(.iconst 1, 0, 0, 0)] 85 = true := by decide +kernel
theorem dX12_reckon_85 : decode (MB MX12_reckon) 85 = .ok (.goto 4, 3) := by decide +kernel
theorem sX12_reckon_88 : dsOk (MN MX12_reckon).cls (MB MX12_reckon) 88 [(.iconst 0, 0, 0, 0)] 89 = true := by decide +kernel
theorem dX12_reckon_89 : decode (MB MX12_reckon) 89 = .ok (.ireturn, 1) := by decide +kernel
theorem sX12_reckon_90 : dsOk (MN MX12_reckon).cls (MB MX12_reckon) 90 [(.iload_n 1, 0, 0, 0)] 91 = true := by decide +kernel
theorem dX12_reckon_91 : decode (MB MX12_reckon) 91 = .ok (.ifCond .eq 11, 3) := by decide +kernel
theorem sX12_reckon_94 : dsOk (MN MX12_reckon).cls (MB MX12_reckon) 94 [(.iload_n 2, 0, 0, 0)] 95 = true := by decide +kernel
theorem dX12_reckon_95 : decode (MB MX12_reckon) 95 = .ok (.ifCond .eq 7, 3) := by decide +kernel
theorem sX12_reckon_98 : dsOk (MN MX12_reckon).cls (MB MX12_reckon) 98 [(.iconst 1, 0, 0, 0)] 99 = true := by decide +kernel
theorem dX12_reckon_99 : decode (MB MX12_reckon) 99 = .ok (.goto 4, 3) := by decide +kernel
theorem sX12_reckon_102 : dsOk (MN MX12_reckon).cls (MB MX12_reckon) 102 [(.iconst 0, 0, 0, 0)] 103 = true := by decide +kernel
theorem dX12_reckon_103 : decode (MB MX12_reckon) 103 = .ok (.ireturn, 1) := by decide +kernel
theorem sX12_reckon_104 : dsOk (MN MX12_reckon).cls (MB MX12_reckon) 104 [(.iload_n 1, 0, 0, 0)] 105 = true := by decide +kernel
theorem dX12_reckon_105 : decode (MB MX12_reckon) 105 = .ok (.ifCond .ne 7, 3) := by decide +kernel
theorem sX12_reckon_108 : dsOk (MN MX12_reckon).cls (MB MX12_reckon) 108 [(.iload_n 2, 0, 0, 0)] 109 = true := by decide +kernel
theorem dX12_reckon_109 : decode (MB MX12_reckon) 109 = .ok (.ifCond .eq 7, 3) := by decide +kernel
theorem sX12_reckon_112 : dsOk (MN MX12_reckon).cls (MB MX12_reckon) 112 [(.iconst 1, 0, 0, 0)] 113 = true := by decide +kernel
theorem dX12_reckon_113 : decode (MB MX12_reckon) 113 = .ok (.goto 4, 3) := by decide +kernel
theorem sX12_reckon_116 : dsOk (MN MX12_reckon).cls (MB MX12_reckon) 116 [(.iconst 0, 0, 0, 0)] 117 = true := by decide +kernel
theorem dX12_reckon_117 : decode (MB MX12_reckon) 117 = .ok (.ireturn, 1) := by decide +kernel
def MX12_ruleOf : Ms := (yX12_ruleOf, cX12_ruleOf, 6, (some .int), [])
set_option maxRecDepth 100000 in
theorem kX12_ruleOf : mkV MX12_ruleOf 2 := ⟨⟨List.mem_of_getElem? (i := 1838) (by rfl), by decide +kernel⟩, by decide +kernel⟩
theorem sX12_ruleOf_0 : dsOk (MN MX12_ruleOf).cls (MB MX12_ruleOf) 0 [(.aload_n 0, 0, 0, 0), (.getfield 88, 11, 29, 0), (.iconst 0, 0, 0, 0), (.iload_n 2, 0, 0, 0), (.iastore, 0, 0, 0), (.aload_n 0, 0, 0, 0), (.getfield 88, 11, 29, 0), (.iconst 1, 0, 0, 0), (.iload_n 2, 0, 0, 0), (.iconst 1, 0, 0, 0), (.isub, 0, 0, 0), (.iconst 2, 0, 0, 0), (.idiv, 0, 0, 0), (.iastore, 0, 0, 0), (.aload_n 0, 0, 0, 0), (.getfield 88, 11, 29, 0), (.iconst 2, 0, 0, 0), (.iload_n 2, 0, 0, 0), (.iconst 2, 0, 0, 0), (.irem, 0, 0, 0), (.iconst 1, 0, 0, 0)] 27 = true := by decide +kernel
theorem dX12_ruleOf_27 : decode (MB MX12_ruleOf) 27 = .ok (.if_icmp .ne 7, 3) := by decide +kernel
theorem sX12_ruleOf_30 : dsOk (MN MX12_ruleOf).cls (MB MX12_ruleOf) 30 [(.iconst 0, 0, 0, 0)] 31 = true := by decide +kernel
theorem dX12_ruleOf_31 : decode (MB MX12_ruleOf) 31 = .ok (.goto 4, 3) := by decide +kernel
theorem sX12_ruleOf_34 : dsOk (MN MX12_ruleOf).cls (MB MX12_ruleOf) 34 [(.iconst 1, 0, 0, 0)] 35 = true := by decide +kernel
theorem sX12_ruleOf_35 : dsOk (MN MX12_ruleOf).cls (MB MX12_ruleOf) 35 [(.iastore, 0, 0, 0), (.aload_n 0, 0, 0, 0), (.getfield 88, 11, 29, 0), (.iconst 3, 0, 0, 0), (.aload_n 0, 0, 0, 0), (.getfield 49, 11, 6, 0), (.iload_n 1, 0, 0, 0), (.iaload, 0, 0, 0), (.iastore, 0, 0, 0), (.iconst 0, 0, 0, 0), (.istore_n 3, 0, 0, 0), (.aload_n 0, 0, 0, 0), (.getfield 69, 11, 13, 0), (.iload_n 1, 0, 0, 0), (.iaload, 0, 0, 0), (.istore 4, 0, 0, 0)] 58 = true := by decide +kernel
theorem sX12_ruleOf_58 : dsOk (MN MX12_ruleOf).cls (MB MX12_ruleOf) 58 [(.iload 4, 0, 0, 0), (.aload_n 0, 0, 0, 0), (.getfield 72, 11, 14, 0), (.iload_n 1, 0, 0, 0), (.iaload, 0, 0, 0)] 66 = true := by decide +kernel
theorem dX12_ruleOf_66 : decode (MB MX12_ruleOf) 66 = .ok (.if_icmp .ge 120, 3) := by decide +kernel
theorem sX12_ruleOf_69 : dsOk (MN MX12_ruleOf).cls (MB MX12_ruleOf) 69 [(.aload_n 0, 0, 0, 0), (.getfield 75, 11, 15, 0), (.iload 4, 0, 0, 0), (.iaload, 0, 0, 0), (.istore 5, 0, 0, 0), (.iload 5, 0, 0, 0), (.bipush (-20), 0, 0, -20)] 82 = true := by decide +kernel
theorem dX12_ruleOf_82 : decode (MB MX12_ruleOf) 82 = .ok (.if_icmp .le 34, 3) := by decide +kernel
theorem sX12_ruleOf_85 : dsOk (MN MX12_ruleOf).cls (MB MX12_ruleOf) 85 [(.aload_n 0, 0, 0, 0), (.getfield 91, 11, 30, 0), (.iload_n 3, 0, 0, 0), (.iload 5, 0, 0, 0)] 92 = true := by decide +kernel
theorem dX12_ruleOf_92 : decode (MB MX12_ruleOf) 92 = .ok (.ifCond .lt 8, 3) := by decide +kernel
theorem sX12_ruleOf_95 : dsOk (MN MX12_ruleOf).cls (MB MX12_ruleOf) 95 [(.iload 5, 0, 0, 0)] 97 = true := by decide +kernel
theorem dX12_ruleOf_97 : decode (MB MX12_ruleOf) 97 = .ok (.goto 12, 3) := by decide +kernel
theorem sX12_ruleOf_100 : dsOk (MN MX12_ruleOf).cls (MB MX12_ruleOf) 100 [(.aload_n 0, 0, 0, 0), (.getfield 88, 11, 29, 0), (.iconst (-1), 0, 0, 0), (.iload 5, 0, 0, 0), (.isub, 0, 0, 0), (.iaload, 0, 0, 0)] 109 = true := by decide +kernel
theorem sX12_ruleOf_109 : dsOk (MN MX12_ruleOf).cls (MB MX12_ruleOf) 109 [(.iastore, 0, 0, 0), (.iinc 3 1, 0, 0, 0)] 113 = true := by decide +kernel
theorem dX12_ruleOf_113 : decode (MB MX12_ruleOf) 113 = .ok (.goto 67, 3) := by decide +kernel
theorem sX12_ruleOf_116 : dsOk (MN MX12_ruleOf).cls (MB MX12_ruleOf) 116 [(.iload 5, 0, 0, 0), (.bipush (-28), 0, 0, -28)] 120 = true := by decide +kernel
theorem dX12_ruleOf_120 : decode (MB MX12_ruleOf) 120 = .ok (.if_icmp .ne 30, 3) := by decide +kernel
theorem sX12_ruleOf_123 : dsOk (MN MX12_ruleOf).cls (MB MX12_ruleOf) 123 [(.aload_n 0, 0, 0, 0), (.getfield 91, 11, 30, 0), (.iload_n 3, 0, 0, 0), (.iconst 1, 0, 0, 0), (.isub, 0, 0, 0), (.aload_n 0, 0, 0, 0), (.getfield 91, 11, 30, 0), (.iload_n 3, 0, 0, 0), (.iconst 1, 0, 0, 0), (.isub, 0, 0, 0), (.iaload, 0, 0, 0)] 138 = true := by decide +kernel
theorem dX12_ruleOf_138 : decode (MB MX12_ruleOf) 138 = .ok (.ifCond .eq 7, 3) := by decide +kernel
theorem sX12_ruleOf_141 : dsOk (MN MX12_ruleOf).cls (MB MX12_ruleOf) 141 [(.iconst 0, 0, 0, 0)] 142 = true := by decide +kernel
theorem dX12_ruleOf_142 : decode (MB MX12_ruleOf) 142 = .ok (.goto 4, 3) := by decide +kernel
theorem sX12_ruleOf_145 : dsOk (MN MX12_ruleOf).cls (MB MX12_ruleOf) 145 [(.iconst 1, 0, 0, 0)] 146 = true := by decide +kernel
theorem sX12_ruleOf_146 : dsOk (MN MX12_ruleOf).cls (MB MX12_ruleOf) 146 [(.iastore, 0, 0, 0)] 147 = true := by decide +kernel
theorem dX12_ruleOf_147 : decode (MB MX12_ruleOf) 147 = .ok (.goto 33, 3) := by decide +kernel
theorem sX12_ruleOf_150 : dsOk (MN MX12_ruleOf).cls (MB MX12_ruleOf) 150 [(.iinc 3 (-1), 0, 0, 0), (.aload_n 0, 0, 0, 0), (.getfield 91, 11, 30, 0), (.iload_n 3, 0, 0, 0), (.iconst 1, 0, 0, 0), (.isub, 0, 0, 0), (.iload 5, 0, 0, 0), (.aload_n 0, 0, 0, 0), (.getfield 91, 11, 30, 0), (.iload_n 3, 0, 0, 0), (.iconst 1, 0, 0, 0), (.isub, 0, 0, 0), (.iaload, 0, 0, 0), (.aload_n 0, 0, 0, 0), (.getfield 91, 11, 30, 0), (.iload_n 3, 0, 0, 0), (.iaload, 0, 0, 0)] 176 = true := by decide +kernel
theorem dX12_ruleOf_176 : decode (MB MX12_ruleOf) 176 = .ok (.invokestatic 360, 3) := by decide +kernel
theorem sX12_ruleOf_179 : dsOk (MN MX12_ruleOf).cls (MB MX12_ruleOf) 179 [(.iastore, 0, 0, 0)] 180 = true := by decide +kernel
theorem sX12_ruleOf_180 : dsOk (MN MX12_ruleOf).cls (MB MX12_ruleOf) 180 [(.iinc 4 1, 0, 0, 0)] 183 = true := by decide +kernel
theorem dX12_ruleOf_183 : decode (MB MX12_ruleOf) 183 = .ok (.goto (-125), 3) := by decide +kernel
theorem sX12_ruleOf_186 : dsOk (MN MX12_ruleOf).cls (MB MX12_ruleOf) 186 [(.aload_n 0, 0, 0, 0), (.getfield 91, 11, 30, 0), (.iconst 0, 0, 0, 0), (.iaload, 0, 0, 0), (.i2l, 0, 0, 0), (.lconst 1, 0, 0, 1), (.ldc2_w 364, 0, 0, 99999)] 197 = true := by decide +kernel
theorem dX12_ruleOf_197 : decode (MB MX12_ruleOf) 197 = .ok (.invokestatic 178, 3) := by decide +kernel
theorem dX12_ruleOf_200 : decode (MB MX12_ruleOf) 200 = .ok (.ifCond .eq 12, 3) := by decide +kernel
theorem sX12_ruleOf_203 : dsOk (MN MX12_ruleOf).cls (MB MX12_ruleOf) 203 [(.aload_n 0, 0, 0, 0), (.getfield 91, 11, 30, 0), (.iconst 0, 0, 0, 0), (.iaload, 0, 0, 0)] 209 = true := by decide +kernel
theorem dX12_ruleOf_209 : decode (MB MX12_ruleOf) 209 = .ok (.goto 4, 3) := by decide +kernel
theorem sX12_ruleOf_212 : dsOk (MN MX12_ruleOf).cls (MB MX12_ruleOf) 212 [(.iconst 0, 0, 0, 0)] 213 = true := by decide +kernel
theorem dX12_ruleOf_213 : decode (MB MX12_ruleOf) 213 = .ok (.ireturn, 1) := by decide +kernel
def MX12_numberOn : Ms := (yX12_numberOn, cX12_numberOn, 3, (some .int), [])
set_option maxRecDepth 100000 in
theorem kX12_numberOn : mkV MX12_numberOn 2 := ⟨⟨List.mem_of_getElem? (i := 1829) (by rfl), by decide +kernel⟩, by decide +kernel⟩
theorem sX12_numberOn_0 : dsOk (MN MX12_numberOn).cls (MB MX12_numberOn) 0 [(.aload_n 0, 0, 0, 0), (.getfield 43, 11, 4, 0), (.iload_n 1, 0, 0, 0), (.iaload, 0, 0, 0)] 6 = true := by decide +kernel
theorem dX12_numberOn_6 : decode (MB MX12_numberOn) 6 = .ok (.tableswitch 77 2 6 #[34, 47, 53, 57, 70], 34) := by decide +kernel
theorem sX12_numberOn_40 : dsOk (MN MX12_numberOn).cls (MB MX12_numberOn) 40 [(.iconst 0, 0, 0, 0), (.iload_n 2, 0, 0, 0), (.aload_n 0, 0, 0, 0), (.getfield 46, 11, 5, 0), (.iload_n 1, 0, 0, 0), (.iaload, 0, 0, 0), (.isub, 0, 0, 0)] 49 = true := by decide +kernel
theorem dX12_numberOn_49 : decode (MB MX12_numberOn) 49 = .ok (.invokestatic 366, 3) := by decide +kernel
theorem dX12_numberOn_52 : decode (MB MX12_numberOn) 52 = .ok (.ireturn, 1) := by decide +kernel
theorem sX12_numberOn_53 : dsOk (MN MX12_numberOn).cls (MB MX12_numberOn) 53 [(.iconst 2, 0, 0, 0), (.iload_n 2, 0, 0, 0), (.imul, 0, 0, 0), (.iconst 1, 0, 0, 0), (.isub, 0, 0, 0)] 58 = true := by decide +kernel
theorem dX12_numberOn_58 : decode (MB MX12_numberOn) 58 = .ok (.ireturn, 1) := by decide +kernel
theorem sX12_numberOn_59 : dsOk (MN MX12_numberOn).cls (MB MX12_numberOn) 59 [(.iconst 2, 0, 0, 0), (.iload_n 2, 0, 0, 0), (.imul, 0, 0, 0)] 62 = true := by decide +kernel
theorem dX12_numberOn_62 : decode (MB MX12_numberOn) 62 = .ok (.ireturn, 1) := by decide +kernel
theorem sX12_numberOn_63 : dsOk (MN MX12_numberOn).cls (MB MX12_numberOn) 63 [(.aload_n 0, 0, 0, 0), (.getfield 46, 11, 5, 0), (.iload_n 1, 0, 0, 0), (.iaload, 0, 0, 0), (.iload_n 2, 0, 0, 0), (.i2l, 0, 0, 0)] 71 = true := by decide +kernel
theorem dX12_numberOn_71 : decode (MB MX12_numberOn) 71 = .ok (.invokestatic 369, 3) := by decide +kernel
theorem sX12_numberOn_74 : dsOk (MN MX12_numberOn).cls (MB MX12_numberOn) 74 [(.l2i, 0, 0, 0)] 75 = true := by decide +kernel
theorem dX12_numberOn_75 : decode (MB MX12_numberOn) 75 = .ok (.ireturn, 1) := by decide +kernel
theorem sX12_numberOn_76 : dsOk (MN MX12_numberOn).cls (MB MX12_numberOn) 76 [(.aload_n 0, 0, 0, 0), (.iload_n 1, 0, 0, 0), (.iload_n 2, 0, 0, 0)] 79 = true := by decide +kernel
theorem dX12_numberOn_79 : decode (MB MX12_numberOn) 79 = .ok (.invokevirtual 373, 3) := by decide +kernel
theorem dX12_numberOn_82 : decode (MB MX12_numberOn) 82 = .ok (.ireturn, 1) := by decide +kernel
theorem sX12_numberOn_83 : dsOk (MN MX12_numberOn).cls (MB MX12_numberOn) 83 [(.iload_n 2, 0, 0, 0)] 84 = true := by decide +kernel
theorem dX12_numberOn_84 : decode (MB MX12_numberOn) 84 = .ok (.ireturn, 1) := by decide +kernel
def MX12_pageByRule : Ms := (yX12_pageByRule, cX12_pageByRule, 4, (some .int), [])
set_option maxRecDepth 100000 in
theorem kX12_pageByRule : mkV MX12_pageByRule 2 := ⟨⟨List.mem_of_getElem? (i := 1859) (by rfl), by decide +kernel⟩, by decide +kernel⟩
theorem sX12_pageByRule_0 : dsOk (MN MX12_pageByRule).cls (MB MX12_pageByRule) 0 [(.iconst 1, 0, 0, 0), (.istore_n 3, 0, 0, 0)] 2 = true := by decide +kernel
theorem sX12_pageByRule_2 : dsOk (MN MX12_pageByRule).cls (MB MX12_pageByRule) 2 [(.iload_n 3, 0, 0, 0), (.iconst 2, 0, 0, 0), (.aload_n 0, 0, 0, 0), (.getfield 49, 11, 6, 0), (.iload_n 1, 0, 0, 0), (.iaload, 0, 0, 0), (.imul, 0, 0, 0)] 11 = true := by decide +kernel
theorem dX12_pageByRule_11 : decode (MB MX12_pageByRule) 11 = .ok (.if_icmp .gt 21, 3) := by decide +kernel
theorem sX12_pageByRule_14 : dsOk (MN MX12_pageByRule).cls (MB MX12_pageByRule) 14 [(.aload_n 0, 0, 0, 0), (.iload_n 1, 0, 0, 0), (.iload_n 3, 0, 0, 0)] 17 = true := by decide +kernel
theorem dX12_pageByRule_17 : decode (MB MX12_pageByRule) 17 = .ok (.invokevirtual 373, 3) := by decide +kernel
theorem sX12_pageByRule_20 : dsOk (MN MX12_pageByRule).cls (MB MX12_pageByRule) 20 [(.iload_n 2, 0, 0, 0)] 21 = true := by decide +kernel
theorem dX12_pageByRule_21 : decode (MB MX12_pageByRule) 21 = .ok (.if_icmp .ne 5, 3) := by decide +kernel
theorem sX12_pageByRule_24 : dsOk (MN MX12_pageByRule).cls (MB MX12_pageByRule) 24 [(.iload_n 3, 0, 0, 0)] 25 = true := by decide +kernel
theorem dX12_pageByRule_25 : decode (MB MX12_pageByRule) 25 = .ok (.ireturn, 1) := by decide +kernel
theorem sX12_pageByRule_26 : dsOk (MN MX12_pageByRule).cls (MB MX12_pageByRule) 26 [(.iinc 3 1, 0, 0, 0)] 29 = true := by decide +kernel
theorem dX12_pageByRule_29 : decode (MB MX12_pageByRule) 29 = .ok (.goto (-27), 3) := by decide +kernel
theorem sX12_pageByRule_32 : dsOk (MN MX12_pageByRule).cls (MB MX12_pageByRule) 32 [(.iconst (-1), 0, 0, 0)] 33 = true := by decide +kernel
theorem dX12_pageByRule_33 : decode (MB MX12_pageByRule) 33 = .ok (.ireturn, 1) := by decide +kernel
def MX12_pageOf : Ms := (yX12_pageOf, cX12_pageOf, 3, (some .long), [])
set_option maxRecDepth 100000 in
theorem kX12_pageOf : mkV MX12_pageOf 2 := ⟨⟨List.mem_of_getElem? (i := 1850) (by rfl), by decide +kernel⟩, by decide +kernel⟩
theorem sX12_pageOf_0 : dsOk (MN MX12_pageOf).cls (MB MX12_pageOf) 0 [(.iload_n 2, 0, 0, 0), (.iconst 1, 0, 0, 0)] 2 = true := by decide +kernel
theorem dX12_pageOf_2 : decode (MB MX12_pageOf) 2 = .ok (.if_icmp .ge 7, 3) := by decide +kernel
theorem sX12_pageOf_5 : dsOk (MN MX12_pageOf).cls (MB MX12_pageOf) 5 [(.ldc2_w 358, 0, 0, -1)] 8 = true := by decide +kernel
theorem dX12_pageOf_8 : decode (MB MX12_pageOf) 8 = .ok (.lreturn, 1) := by decide +kernel
theorem sX12_pageOf_9 : dsOk (MN MX12_pageOf).cls (MB MX12_pageOf) 9 [(.aload_n 0, 0, 0, 0), (.getfield 43, 11, 4, 0), (.iload_n 1, 0, 0, 0), (.iaload, 0, 0, 0)] 15 = true := by decide +kernel
theorem dX12_pageOf_15 : decode (MB MX12_pageOf) 15 = .ok (.tableswitch 103 2 6 #[33, 44, 66, 83, 95], 33) := by decide +kernel
theorem sX12_pageOf_48 : dsOk (MN MX12_pageOf).cls (MB MX12_pageOf) 48 [(.iload_n 2, 0, 0, 0), (.i2l, 0, 0, 0), (.aload_n 0, 0, 0, 0), (.getfield 46, 11, 5, 0), (.iload_n 1, 0, 0, 0), (.iaload, 0, 0, 0), (.i2l, 0, 0, 0), (.ladd, 0, 0, 0)] 58 = true := by decide +kernel
theorem dX12_pageOf_58 : decode (MB MX12_pageOf) 58 = .ok (.lreturn, 1) := by decide +kernel
theorem sX12_pageOf_59 : dsOk (MN MX12_pageOf).cls (MB MX12_pageOf) 59 [(.iload_n 2, 0, 0, 0), (.iconst 2, 0, 0, 0), (.irem, 0, 0, 0), (.iconst 1, 0, 0, 0)] 63 = true := by decide +kernel
theorem dX12_pageOf_63 : decode (MB MX12_pageOf) 63 = .ok (.if_icmp .ne 14, 3) := by decide +kernel
theorem sX12_pageOf_66 : dsOk (MN MX12_pageOf).cls (MB MX12_pageOf) 66 [(.iload_n 2, 0, 0, 0), (.i2l, 0, 0, 0), (.lconst 1, 0, 0, 1), (.ladd, 0, 0, 0), (.ldc2_w 376, 0, 0, 2), (.ldiv, 0, 0, 0)] 74 = true := by decide +kernel
theorem dX12_pageOf_74 : decode (MB MX12_pageOf) 74 = .ok (.goto 6, 3) := by decide +kernel
theorem sX12_pageOf_77 : dsOk (MN MX12_pageOf).cls (MB MX12_pageOf) 77 [(.ldc2_w 358, 0, 0, -1)] 80 = true := by decide +kernel
theorem dX12_pageOf_80 : decode (MB MX12_pageOf) 80 = .ok (.lreturn, 1) := by decide +kernel
theorem sX12_pageOf_81 : dsOk (MN MX12_pageOf).cls (MB MX12_pageOf) 81 [(.iload_n 2, 0, 0, 0), (.iconst 2, 0, 0, 0), (.irem, 0, 0, 0)] 84 = true := by decide +kernel
theorem dX12_pageOf_84 : decode (MB MX12_pageOf) 84 = .ok (.ifCond .ne 10, 3) := by decide +kernel
theorem sX12_pageOf_87 : dsOk (MN MX12_pageOf).cls (MB MX12_pageOf) 87 [(.iload_n 2, 0, 0, 0), (.iconst 2, 0, 0, 0), (.idiv, 0, 0, 0), (.i2l, 0, 0, 0)] 91 = true := by decide +kernel
theorem dX12_pageOf_91 : decode (MB MX12_pageOf) 91 = .ok (.goto 6, 3) := by decide +kernel
theorem sX12_pageOf_94 : dsOk (MN MX12_pageOf).cls (MB MX12_pageOf) 94 [(.ldc2_w 358, 0, 0, -1)] 97 = true := by decide +kernel
theorem dX12_pageOf_97 : decode (MB MX12_pageOf) 97 = .ok (.lreturn, 1) := by decide +kernel
theorem sX12_pageOf_98 : dsOk (MN MX12_pageOf).cls (MB MX12_pageOf) 98 [(.aload_n 0, 0, 0, 0), (.getfield 46, 11, 5, 0), (.iload_n 1, 0, 0, 0), (.iaload, 0, 0, 0), (.iload_n 2, 0, 0, 0), (.i2l, 0, 0, 0)] 106 = true := by decide +kernel
theorem dX12_pageOf_106 : decode (MB MX12_pageOf) 106 = .ok (.invokestatic 378, 3) := by decide +kernel
theorem dX12_pageOf_109 : decode (MB MX12_pageOf) 109 = .ok (.lreturn, 1) := by decide +kernel
theorem sX12_pageOf_110 : dsOk (MN MX12_pageOf).cls (MB MX12_pageOf) 110 [(.aload_n 0, 0, 0, 0), (.iload_n 1, 0, 0, 0), (.iload_n 2, 0, 0, 0)] 113 = true := by decide +kernel
theorem dX12_pageOf_113 : decode (MB MX12_pageOf) 113 = .ok (.invokevirtual 381, 3) := by decide +kernel
theorem sX12_pageOf_116 : dsOk (MN MX12_pageOf).cls (MB MX12_pageOf) 116 [(.i2l, 0, 0, 0)] 117 = true := by decide +kernel
theorem dX12_pageOf_117 : decode (MB MX12_pageOf) 117 = .ok (.lreturn, 1) := by decide +kernel
theorem sX12_pageOf_118 : dsOk (MN MX12_pageOf).cls (MB MX12_pageOf) 118 [(.iload_n 2, 0, 0, 0), (.i2l, 0, 0, 0)] 120 = true := by decide +kernel
theorem dX12_pageOf_120 : decode (MB MX12_pageOf) 120 = .ok (.lreturn, 1) := by decide +kernel
def MX12_isOut : Ms := (yX12_isOut, cX12_isOut, 3, (some .boolean), [])
set_option maxRecDepth 100000 in
theorem kX12_isOut : mkV MX12_isOut 2 := ⟨⟨List.mem_of_getElem? (i := 1821) (by rfl), by decide +kernel⟩, by decide +kernel⟩
theorem sX12_isOut_0 : dsOk (MN MX12_isOut).cls (MB MX12_isOut) 0 [(.aload_n 0, 0, 0, 0), (.getfield 54, 11, 8, 0), (.bipush 60, 0, 0, 60), (.iload_n 1, 0, 0, 0), (.imul, 0, 0, 0), (.aload_n 0, 0, 0, 0), (.getfield 51, 11, 7, 0), (.iload_n 1, 0, 0, 0), (.iaload, 0, 0, 0), (.iload_n 2, 0, 0, 0)] 15 = true := by decide +kernel
theorem dX12_isOut_15 : decode (MB MX12_isOut) 15 = .ok (.invokestatic 295, 3) := by decide +kernel
theorem dX12_isOut_18 : decode (MB MX12_isOut) 18 = .ok (.ireturn, 1) := by decide +kernel
def MX12_count : Ms := (yX12_count, cX12_count, 2, (some .int), [])
set_option maxRecDepth 100000 in
theorem kX12_count : mkV MX12_count 1 := ⟨⟨List.mem_of_getElem? (i := 1800) (by rfl), by decide +kernel⟩, by decide +kernel⟩
theorem sX12_count_0 : dsOk (MN MX12_count).cls (MB MX12_count) 0 [(.aload_n 0, 0, 0, 0), (.iconst 0, 0, 0, 0), (.putfield 175, 11, 2, 0), (.iload_n 1, 0, 0, 0), (.i2l, 0, 0, 0), (.ldc2_w 356, 0, 0, 10), (.ldc2_w 384, 0, 0, 19)] 13 = true := by decide +kernel
theorem dX12_count_13 : decode (MB MX12_count) 13 = .ok (.invokestatic 178, 3) := by decide +kernel
theorem dX12_count_16 : decode (MB MX12_count) 16 = .ok (.ifCond .eq 13, 3) := by decide +kernel
theorem sX12_count_19 : dsOk (MN MX12_count).cls (MB MX12_count) 19 [(.aload_n 0, 0, 0, 0), (.getfield 66, 11, 12, 0), (.iload_n 1, 0, 0, 0), (.bipush 10, 0, 0, 10), (.isub, 0, 0, 0), (.iaload, 0, 0, 0)] 28 = true := by decide +kernel
theorem dX12_count_28 : decode (MB MX12_count) 28 = .ok (.ireturn, 1) := by decide +kernel
theorem sX12_count_29 : dsOk (MN MX12_count).cls (MB MX12_count) 29 [(.iload_n 1, 0, 0, 0)] 30 = true := by decide +kernel
theorem dX12_count_30 : decode (MB MX12_count) 30 = .ok (.tableswitch 90 0 9 #[54, 54, 61, 66, 71, 76, 76, 76, 76, 85], 54) := by decide +kernel
theorem sX12_count_84 : dsOk (MN MX12_count).cls (MB MX12_count) 84 [(.aload_n 0, 0, 0, 0), (.getfield 40, 11, 3, 0), (.iload_n 1, 0, 0, 0), (.iaload, 0, 0, 0)] 90 = true := by decide +kernel
theorem dX12_count_90 : decode (MB MX12_count) 90 = .ok (.ireturn, 1) := by decide +kernel
theorem sX12_count_91 : dsOk (MN MX12_count).cls (MB MX12_count) 91 [(.aload_n 0, 0, 0, 0), (.getfield 344, 11, 35, 0)] 95 = true := by decide +kernel
theorem dX12_count_95 : decode (MB MX12_count) 95 = .ok (.ireturn, 1) := by decide +kernel
theorem sX12_count_96 : dsOk (MN MX12_count).cls (MB MX12_count) 96 [(.aload_n 0, 0, 0, 0), (.getfield 347, 11, 36, 0)] 100 = true := by decide +kernel
theorem dX12_count_100 : decode (MB MX12_count) 100 = .ok (.ireturn, 1) := by decide +kernel
theorem sX12_count_101 : dsOk (MN MX12_count).cls (MB MX12_count) 101 [(.aload_n 0, 0, 0, 0), (.getfield 182, 11, 18, 0)] 105 = true := by decide +kernel
theorem dX12_count_105 : decode (MB MX12_count) 105 = .ok (.ireturn, 1) := by decide +kernel
theorem sX12_count_106 : dsOk (MN MX12_count).cls (MB MX12_count) 106 [(.aload_n 0, 0, 0, 0), (.getfield 78, 11, 16, 0), (.iload_n 1, 0, 0, 0), (.iconst 5, 0, 0, 0), (.isub, 0, 0, 0), (.iaload, 0, 0, 0)] 114 = true := by decide +kernel
theorem dX12_count_114 : decode (MB MX12_count) 114 = .ok (.ireturn, 1) := by decide +kernel
theorem sX12_count_115 : dsOk (MN MX12_count).cls (MB MX12_count) 115 [(.aload_n 0, 0, 0, 0), (.getfield 338, 11, 48, 0)] 119 = true := by decide +kernel
theorem dX12_count_119 : decode (MB MX12_count) 119 = .ok (.ireturn, 1) := by decide +kernel
theorem sX12_count_120 : dsOk (MN MX12_count).cls (MB MX12_count) 120 [(.aload_n 0, 0, 0, 0), (.iconst 1, 0, 0, 0)] 122 = true := by decide +kernel
theorem dX12_count_122 : decode (MB MX12_count) 122 = .ok (.invokevirtual 324, 3) := by decide +kernel
theorem dX12_count_125 : decode (MB MX12_count) 125 = .ok (.ireturn, 1) := by decide +kernel
def MX12_book : Ms := (yX12_book, cX12_book, 3, (some .int), [])
set_option maxRecDepth 100000 in
theorem kX12_book : mkV MX12_book 2 := ⟨⟨List.mem_of_getElem? (i := 1809) (by rfl), by decide +kernel⟩, by decide +kernel⟩
theorem sX12_book_0 : dsOk (MN MX12_book).cls (MB MX12_book) 0 [(.aload_n 0, 0, 0, 0), (.iconst 0, 0, 0, 0), (.putfield 175, 11, 2, 0), (.aload_n 0, 0, 0, 0), (.iload_n 1, 0, 0, 0)] 7 = true := by decide +kernel
theorem dX12_book_7 : decode (MB MX12_book) 7 = .ok (.invokevirtual 386, 3) := by decide +kernel
theorem dX12_book_10 : decode (MB MX12_book) 10 = .ok (.ifCond .ne 9, 3) := by decide +kernel
theorem sX12_book_13 : dsOk (MN MX12_book).cls (MB MX12_book) 13 [(.aload_n 0, 0, 0, 0), (.iconst 1, 0, 0, 0)] 15 = true := by decide +kernel
theorem dX12_book_15 : decode (MB MX12_book) 15 = .ok (.invokevirtual 324, 3) := by decide +kernel
theorem dX12_book_18 : decode (MB MX12_book) 18 = .ok (.ireturn, 1) := by decide +kernel
theorem sX12_book_19 : dsOk (MN MX12_book).cls (MB MX12_book) 19 [(.iload_n 2, 0, 0, 0)] 20 = true := by decide +kernel
theorem dX12_book_20 : decode (MB MX12_book) 20 = .ok (.ifCond .ne 12, 3) := by decide +kernel
theorem sX12_book_23 : dsOk (MN MX12_book).cls (MB MX12_book) 23 [(.aload_n 0, 0, 0, 0), (.getfield 43, 11, 4, 0), (.iload_n 1, 0, 0, 0), (.iaload, 0, 0, 0)] 29 = true := by decide +kernel
theorem dX12_book_29 : decode (MB MX12_book) 29 = .ok (.goto 50, 3) := by decide +kernel
theorem sX12_book_32 : dsOk (MN MX12_book).cls (MB MX12_book) 32 [(.iload_n 2, 0, 0, 0), (.iconst 1, 0, 0, 0)] 34 = true := by decide +kernel
theorem dX12_book_34 : decode (MB MX12_book) 34 = .ok (.if_icmp .ne 12, 3) := by decide +kernel
theorem sX12_book_37 : dsOk (MN MX12_book).cls (MB MX12_book) 37 [(.aload_n 0, 0, 0, 0), (.getfield 49, 11, 6, 0), (.iload_n 1, 0, 0, 0), (.iaload, 0, 0, 0)] 43 = true := by decide +kernel
theorem dX12_book_43 : decode (MB MX12_book) 43 = .ok (.goto 36, 3) := by decide +kernel
theorem sX12_book_46 : dsOk (MN MX12_book).cls (MB MX12_book) 46 [(.iload_n 2, 0, 0, 0), (.iconst 2, 0, 0, 0)] 48 = true := by decide +kernel
theorem dX12_book_48 : decode (MB MX12_book) 48 = .ok (.if_icmp .ne 12, 3) := by decide +kernel
theorem sX12_book_51 : dsOk (MN MX12_book).cls (MB MX12_book) 51 [(.aload_n 0, 0, 0, 0), (.getfield 51, 11, 7, 0), (.iload_n 1, 0, 0, 0), (.iaload, 0, 0, 0)] 57 = true := by decide +kernel
theorem dX12_book_57 : decode (MB MX12_book) 57 = .ok (.goto 22, 3) := by decide +kernel
theorem sX12_book_60 : dsOk (MN MX12_book).cls (MB MX12_book) 60 [(.iload_n 2, 0, 0, 0), (.iconst 3, 0, 0, 0)] 62 = true := by decide +kernel
theorem dX12_book_62 : decode (MB MX12_book) 62 = .ok (.if_icmp .ne 12, 3) := by decide +kernel
theorem sX12_book_65 : dsOk (MN MX12_book).cls (MB MX12_book) 65 [(.aload_n 0, 0, 0, 0), (.getfield 46, 11, 5, 0), (.iload_n 1, 0, 0, 0), (.iaload, 0, 0, 0)] 71 = true := by decide +kernel
theorem dX12_book_71 : decode (MB MX12_book) 71 = .ok (.goto 8, 3) := by decide +kernel
theorem sX12_book_74 : dsOk (MN MX12_book).cls (MB MX12_book) 74 [(.aload_n 0, 0, 0, 0), (.iconst 1, 0, 0, 0)] 76 = true := by decide +kernel
theorem dX12_book_76 : decode (MB MX12_book) 76 = .ok (.invokevirtual 324, 3) := by decide +kernel
theorem dX12_book_79 : decode (MB MX12_book) 79 = .ok (.ireturn, 1) := by decide +kernel
def MX12_isThere : Ms := (yX12_isThere, cX12_isThere, 3, (some .boolean), [])
set_option maxRecDepth 100000 in
theorem kX12_isThere : mkV MX12_isThere 2 := ⟨⟨List.mem_of_getElem? (i := 1817) (by rfl), by decide +kernel⟩, by decide +kernel⟩
theorem sX12_isThere_0 : dsOk (MN MX12_isThere).cls (MB MX12_isThere) 0 [(.aload_n 0, 0, 0, 0), (.iconst 0, 0, 0, 0), (.putfield 175, 11, 2, 0), (.aload_n 0, 0, 0, 0), (.iload_n 1, 0, 0, 0)] 7 = true := by decide +kernel
theorem dX12_isThere_7 : decode (MB MX12_isThere) 7 = .ok (.invokevirtual 386, 3) := by decide +kernel
theorem dX12_isThere_10 : decode (MB MX12_isThere) 10 = .ok (.ifCond .eq 21, 3) := by decide +kernel
theorem sX12_isThere_13 : dsOk (MN MX12_isThere).cls (MB MX12_isThere) 13 [(.iload_n 2, 0, 0, 0), (.i2l, 0, 0, 0), (.lconst 0, 0, 0, 0), (.aload_n 0, 0, 0, 0), (.getfield 49, 11, 6, 0), (.iload_n 1, 0, 0, 0), (.iaload, 0, 0, 0), (.iconst 1, 0, 0, 0), (.isub, 0, 0, 0), (.i2l, 0, 0, 0)] 25 = true := by decide +kernel
theorem dX12_isThere_25 : decode (MB MX12_isThere) 25 = .ok (.invokestatic 178, 3) := by decide +kernel
theorem dX12_isThere_28 : decode (MB MX12_isThere) 28 = .ok (.ifCond .ne 10, 3) := by decide +kernel
theorem sX12_isThere_31 : dsOk (MN MX12_isThere).cls (MB MX12_isThere) 31 [(.aload_n 0, 0, 0, 0), (.iconst 1, 0, 0, 0), (.putfield 175, 11, 2, 0), (.iconst 0, 0, 0, 0)] 37 = true := by decide +kernel
theorem dX12_isThere_37 : decode (MB MX12_isThere) 37 = .ok (.ireturn, 1) := by decide +kernel
theorem sX12_isThere_38 : dsOk (MN MX12_isThere).cls (MB MX12_isThere) 38 [(.aload_n 0, 0, 0, 0), (.iload_n 1, 0, 0, 0), (.iload_n 2, 0, 0, 0)] 41 = true := by decide +kernel
theorem dX12_isThere_41 : decode (MB MX12_isThere) 41 = .ok (.invokevirtual 389, 3) := by decide +kernel
theorem dX12_isThere_44 : decode (MB MX12_isThere) 44 = .ok (.ifCond .ne 7, 3) := by decide +kernel
theorem sX12_isThere_47 : dsOk (MN MX12_isThere).cls (MB MX12_isThere) 47 [(.iconst 1, 0, 0, 0)] 48 = true := by decide +kernel
theorem dX12_isThere_48 : decode (MB MX12_isThere) 48 = .ok (.goto 4, 3) := by decide +kernel
theorem sX12_isThere_51 : dsOk (MN MX12_isThere).cls (MB MX12_isThere) 51 [(.iconst 0, 0, 0, 0)] 52 = true := by decide +kernel
theorem dX12_isThere_52 : decode (MB MX12_isThere) 52 = .ok (.ireturn, 1) := by decide +kernel
def MX12_number : Ms := (yX12_number, cX12_number, 3, (some .int), [])
set_option maxRecDepth 100000 in
theorem kX12_number : mkV MX12_number 2 := ⟨⟨List.mem_of_getElem? (i := 1825) (by rfl), by decide +kernel⟩, by decide +kernel⟩
theorem sX12_number_0 : dsOk (MN MX12_number).cls (MB MX12_number) 0 [(.aload_n 0, 0, 0, 0), (.iconst 0, 0, 0, 0), (.putfield 175, 11, 2, 0), (.aload_n 0, 0, 0, 0), (.iload_n 1, 0, 0, 0)] 7 = true := by decide +kernel
theorem dX12_number_7 : decode (MB MX12_number) 7 = .ok (.invokevirtual 386, 3) := by decide +kernel
theorem dX12_number_10 : decode (MB MX12_number) 10 = .ok (.ifCond .eq 30, 3) := by decide +kernel
theorem sX12_number_13 : dsOk (MN MX12_number).cls (MB MX12_number) 13 [(.iload_n 2, 0, 0, 0), (.i2l, 0, 0, 0), (.lconst 1, 0, 0, 1), (.iconst 2, 0, 0, 0), (.aload_n 0, 0, 0, 0), (.getfield 49, 11, 6, 0), (.iload_n 1, 0, 0, 0), (.iaload, 0, 0, 0), (.imul, 0, 0, 0), (.i2l, 0, 0, 0)] 25 = true := by decide +kernel
theorem dX12_number_25 : decode (MB MX12_number) 25 = .ok (.invokestatic 178, 3) := by decide +kernel
theorem dX12_number_28 : decode (MB MX12_number) 28 = .ok (.ifCond .eq 12, 3) := by decide +kernel
theorem sX12_number_31 : dsOk (MN MX12_number).cls (MB MX12_number) 31 [(.aload_n 0, 0, 0, 0), (.iload_n 1, 0, 0, 0), (.iload_n 2, 0, 0, 0)] 34 = true := by decide +kernel
theorem dX12_number_34 : decode (MB MX12_number) 34 = .ok (.invokevirtual 393, 3) := by decide +kernel
theorem dX12_number_37 : decode (MB MX12_number) 37 = .ok (.goto 8, 3) := by decide +kernel
theorem sX12_number_40 : dsOk (MN MX12_number).cls (MB MX12_number) 40 [(.aload_n 0, 0, 0, 0), (.iconst 1, 0, 0, 0)] 42 = true := by decide +kernel
theorem dX12_number_42 : decode (MB MX12_number) 42 = .ok (.invokevirtual 324, 3) := by decide +kernel
theorem dX12_number_45 : decode (MB MX12_number) 45 = .ok (.ireturn, 1) := by decide +kernel
def MX12_page : Ms := (yX12_page, cX12_page, 5, (some .int), [])
set_option maxRecDepth 100000 in
theorem kX12_page : mkV MX12_page 2 := ⟨⟨List.mem_of_getElem? (i := 1846) (by rfl), by decide +kernel⟩, by decide +kernel⟩
theorem sX12_page_0 : dsOk (MN MX12_page).cls (MB MX12_page) 0 [(.aload_n 0, 0, 0, 0), (.iconst 0, 0, 0, 0), (.putfield 175, 11, 2, 0), (.aload_n 0, 0, 0, 0), (.iload_n 1, 0, 0, 0)] 7 = true := by decide +kernel
theorem dX12_page_7 : decode (MB MX12_page) 7 = .ok (.invokevirtual 386, 3) := by decide +kernel
theorem dX12_page_10 : decode (MB MX12_page) 10 = .ok (.ifCond .ne 9, 3) := by decide +kernel
theorem sX12_page_13 : dsOk (MN MX12_page).cls (MB MX12_page) 13 [(.aload_n 0, 0, 0, 0), (.iconst 1, 0, 0, 0)] 15 = true := by decide +kernel
theorem dX12_page_15 : decode (MB MX12_page) 15 = .ok (.invokevirtual 324, 3) := by decide +kernel
theorem dX12_page_18 : decode (MB MX12_page) 18 = .ok (.ireturn, 1) := by decide +kernel
theorem sX12_page_19 : dsOk (MN MX12_page).cls (MB MX12_page) 19 [(.aload_n 0, 0, 0, 0), (.iload_n 1, 0, 0, 0), (.iload_n 2, 0, 0, 0)] 22 = true := by decide +kernel
theorem dX12_page_22 : decode (MB MX12_page) 22 = .ok (.invokevirtual 396, 3) := by decide +kernel
theorem sX12_page_25 : dsOk (MN MX12_page).cls (MB MX12_page) 25 [(.lstore_n 3, 0, 0, 0), (.lload_n 3, 0, 0, 0), (.lconst 1, 0, 0, 1), (.iconst 2, 0, 0, 0), (.aload_n 0, 0, 0, 0), (.getfield 49, 11, 6, 0), (.iload_n 1, 0, 0, 0), (.iaload, 0, 0, 0), (.imul, 0, 0, 0), (.i2l, 0, 0, 0)] 37 = true := by decide +kernel
theorem dX12_page_37 : decode (MB MX12_page) 37 = .ok (.invokestatic 178, 3) := by decide +kernel
theorem dX12_page_40 : decode (MB MX12_page) 40 = .ok (.ifCond .eq 8, 3) := by decide +kernel
theorem sX12_page_43 : dsOk (MN MX12_page).cls (MB MX12_page) 43 [(.lload_n 3, 0, 0, 0), (.l2i, 0, 0, 0)] 45 = true := by decide +kernel
theorem dX12_page_45 : decode (MB MX12_page) 45 = .ok (.goto 4, 3) := by decide +kernel
theorem sX12_page_48 : dsOk (MN MX12_page).cls (MB MX12_page) 48 [(.iconst (-1), 0, 0, 0)] 49 = true := by decide +kernel
theorem dX12_page_49 : decode (MB MX12_page) 49 = .ok (.ireturn, 1) := by decide +kernel
def MX12_sum : Ms := (yX12_sum, cX12_sum, 5, (some .long), [])
set_option maxRecDepth 100000 in
theorem kX12_sum : mkV MX12_sum 1 := ⟨⟨List.mem_of_getElem? (i := 1863) (by rfl), by decide +kernel⟩, by decide +kernel⟩
theorem sX12_sum_0 : dsOk (MN MX12_sum).cls (MB MX12_sum) 0 [(.aload_n 0, 0, 0, 0), (.iconst 0, 0, 0, 0), (.putfield 175, 11, 2, 0), (.aload_n 0, 0, 0, 0), (.iload_n 1, 0, 0, 0)] 7 = true := by decide +kernel
theorem dX12_sum_7 : decode (MB MX12_sum) 7 = .ok (.invokevirtual 386, 3) := by decide +kernel
theorem dX12_sum_10 : decode (MB MX12_sum) 10 = .ok (.ifCond .ne 10, 3) := by decide +kernel
theorem sX12_sum_13 : dsOk (MN MX12_sum).cls (MB MX12_sum) 13 [(.aload_n 0, 0, 0, 0), (.iconst 1, 0, 0, 0)] 15 = true := by decide +kernel
theorem dX12_sum_15 : decode (MB MX12_sum) 15 = .ok (.invokevirtual 324, 3) := by decide +kernel
theorem sX12_sum_18 : dsOk (MN MX12_sum).cls (MB MX12_sum) 18 [(.i2l, 0, 0, 0)] 19 = true := by decide +kernel
theorem dX12_sum_19 : decode (MB MX12_sum) 19 = .ok (.lreturn, 1) := by decide +kernel
theorem sX12_sum_20 : dsOk (MN MX12_sum).cls (MB MX12_sum) 20 [(.lconst 0, 0, 0, 0), (.lstore_n 2, 0, 0, 0), (.iconst 0, 0, 0, 0), (.istore 4, 0, 0, 0)] 25 = true := by decide +kernel
theorem sX12_sum_25 : dsOk (MN MX12_sum).cls (MB MX12_sum) 25 [(.iload 4, 0, 0, 0), (.aload_n 0, 0, 0, 0), (.getfield 49, 11, 6, 0), (.iload_n 1, 0, 0, 0), (.iaload, 0, 0, 0)] 33 = true := by decide +kernel
theorem dX12_sum_33 : decode (MB MX12_sum) 33 = .ok (.if_icmp .ge 46, 3) := by decide +kernel
theorem sX12_sum_36 : dsOk (MN MX12_sum).cls (MB MX12_sum) 36 [(.aload_n 0, 0, 0, 0), (.iload_n 1, 0, 0, 0), (.iload 4, 0, 0, 0)] 40 = true := by decide +kernel
theorem dX12_sum_40 : decode (MB MX12_sum) 40 = .ok (.invokevirtual 389, 3) := by decide +kernel
theorem dX12_sum_43 : decode (MB MX12_sum) 43 = .ok (.ifCond .ne 30, 3) := by decide +kernel
theorem sX12_sum_46 : dsOk (MN MX12_sum).cls (MB MX12_sum) 46 [(.lload_n 2, 0, 0, 0), (.aload_n 0, 0, 0, 0), (.iload_n 1, 0, 0, 0), (.iconst 2, 0, 0, 0), (.iload 4, 0, 0, 0), (.imul, 0, 0, 0), (.iconst 1, 0, 0, 0), (.iadd, 0, 0, 0)] 55 = true := by decide +kernel
theorem dX12_sum_55 : decode (MB MX12_sum) 55 = .ok (.invokevirtual 393, 3) := by decide +kernel
theorem sX12_sum_58 : dsOk (MN MX12_sum).cls (MB MX12_sum) 58 [(.aload_n 0, 0, 0, 0), (.iload_n 1, 0, 0, 0), (.iconst 2, 0, 0, 0), (.iload 4, 0, 0, 0), (.imul, 0, 0, 0), (.iconst 2, 0, 0, 0), (.iadd, 0, 0, 0)] 66 = true := by decide +kernel
theorem dX12_sum_66 : decode (MB MX12_sum) 66 = .ok (.invokevirtual 393, 3) := by decide +kernel
theorem sX12_sum_69 : dsOk (MN MX12_sum).cls (MB MX12_sum) 69 [(.iadd, 0, 0, 0), (.i2l, 0, 0, 0), (.ladd, 0, 0, 0), (.lstore_n 2, 0, 0, 0)] 73 = true := by decide +kernel
theorem sX12_sum_73 : dsOk (MN MX12_sum).cls (MB MX12_sum) 73 [(.iinc 4 1, 0, 0, 0)] 76 = true := by decide +kernel
theorem dX12_sum_76 : decode (MB MX12_sum) 76 = .ok (.goto (-51), 3) := by decide +kernel
theorem sX12_sum_79 : dsOk (MN MX12_sum).cls (MB MX12_sum) 79 [(.lload_n 2, 0, 0, 0)] 80 = true := by decide +kernel
theorem dX12_sum_80 : decode (MB MX12_sum) 80 = .ok (.lreturn, 1) := by decide +kernel
def MX12_figuresIn : Ms := (yX12_figuresIn, cX12_figuresIn, 6, (some .int), [])
set_option maxRecDepth 100000 in
theorem kX12_figuresIn : mkS MX12_figuresIn 2 := ⟨⟨List.mem_of_getElem? (i := 1870) (by rfl), by decide +kernel⟩, by decide +kernel⟩
theorem sX12_figuresIn_0 : dsOk (MN MX12_figuresIn).cls (MB MX12_figuresIn) 0 [(.iconst 0, 0, 0, 0), (.istore_n 3, 0, 0, 0), (.lload_n 0, 0, 0, 0), (.lstore 4, 0, 0, 0)] 5 = true := by decide +kernel
theorem sX12_figuresIn_5 : dsOk (MN MX12_figuresIn).cls (MB MX12_figuresIn) 5 [(.lload 4, 0, 0, 0), (.lconst 0, 0, 0, 0), (.lcmp, 0, 0, 0)] 9 = true := by decide +kernel
theorem dX12_figuresIn_9 : decode (MB MX12_figuresIn) 9 = .ok (.ifCond .le 40, 3) := by decide +kernel
theorem sX12_figuresIn_12 : dsOk (MN MX12_figuresIn).cls (MB MX12_figuresIn) 12 [(.iload_n 3, 0, 0, 0), (.iload_n 2, 0, 0, 0), (.bipush 10, 0, 0, 10)] 16 = true := by decide +kernel
theorem dX12_figuresIn_16 : decode (MB MX12_figuresIn) 16 = .ok (.if_icmp .eq 15, 3) := by decide +kernel
theorem sX12_figuresIn_19 : dsOk (MN MX12_figuresIn).cls (MB MX12_figuresIn) 19 [(.lload 4, 0, 0, 0), (.ldc2_w 356, 0, 0, 10), (.lrem, 0, 0, 0), (.iload_n 2, 0, 0, 0), (.i2l, 0, 0, 0), (.lcmp, 0, 0, 0)] 28 = true := by decide +kernel
theorem dX12_figuresIn_28 : decode (MB MX12_figuresIn) 28 = .ok (.ifCond .ne 7, 3) := by decide +kernel
theorem sX12_figuresIn_31 : dsOk (MN MX12_figuresIn).cls (MB MX12_figuresIn) 31 [(.iconst 1, 0, 0, 0)] 32 = true := by decide +kernel
theorem dX12_figuresIn_32 : decode (MB MX12_figuresIn) 32 = .ok (.goto 4, 3) := by decide +kernel
theorem sX12_figuresIn_35 : dsOk (MN MX12_figuresIn).cls (MB MX12_figuresIn) 35 [(.iconst 0, 0, 0, 0)] 36 = true := by decide +kernel
theorem sX12_figuresIn_36 : dsOk (MN MX12_figuresIn).cls (MB MX12_figuresIn) 36 [(.iadd, 0, 0, 0), (.istore_n 3, 0, 0, 0), (.lload 4, 0, 0, 0), (.ldc2_w 356, 0, 0, 10), (.ldiv, 0, 0, 0), (.lstore 4, 0, 0, 0)] 46 = true := by decide +kernel
theorem dX12_figuresIn_46 : decode (MB MX12_figuresIn) 46 = .ok (.goto (-41), 3) := by decide +kernel
theorem sX12_figuresIn_49 : dsOk (MN MX12_figuresIn).cls (MB MX12_figuresIn) 49 [(.iload_n 3, 0, 0, 0)] 50 = true := by decide +kernel
theorem dX12_figuresIn_50 : decode (MB MX12_figuresIn) 50 = .ok (.ireturn, 1) := by decide +kernel
def MX12_figures : Ms := (yX12_figures, cX12_figures, 5, (some .int), [])
set_option maxRecDepth 100000 in
theorem kX12_figures : mkV MX12_figures 2 := ⟨⟨List.mem_of_getElem? (i := 1867) (by rfl), by decide +kernel⟩, by decide +kernel⟩
theorem sX12_figures_0 : dsOk (MN MX12_figures).cls (MB MX12_figures) 0 [(.aload_n 0, 0, 0, 0), (.iconst 0, 0, 0, 0), (.putfield 175, 11, 2, 0), (.aload_n 0, 0, 0, 0), (.iload_n 1, 0, 0, 0)] 7 = true := by decide +kernel
theorem dX12_figures_7 : decode (MB MX12_figures) 7 = .ok (.invokevirtual 386, 3) := by decide +kernel
theorem dX12_figures_10 : decode (MB MX12_figures) 10 = .ok (.ifCond .eq 15, 3) := by decide +kernel
theorem sX12_figures_13 : dsOk (MN MX12_figures).cls (MB MX12_figures) 13 [(.iload_n 2, 0, 0, 0), (.i2l, 0, 0, 0), (.lconst 0, 0, 0, 0), (.ldc2_w 356, 0, 0, 10)] 19 = true := by decide +kernel
theorem dX12_figures_19 : decode (MB MX12_figures) 19 = .ok (.invokestatic 178, 3) := by decide +kernel
theorem dX12_figures_22 : decode (MB MX12_figures) 22 = .ok (.ifCond .ne 9, 3) := by decide +kernel
theorem sX12_figures_25 : dsOk (MN MX12_figures).cls (MB MX12_figures) 25 [(.aload_n 0, 0, 0, 0), (.iconst 1, 0, 0, 0)] 27 = true := by decide +kernel
theorem dX12_figures_27 : decode (MB MX12_figures) 27 = .ok (.invokevirtual 324, 3) := by decide +kernel
theorem dX12_figures_30 : decode (MB MX12_figures) 30 = .ok (.ireturn, 1) := by decide +kernel
theorem sX12_figures_31 : dsOk (MN MX12_figures).cls (MB MX12_figures) 31 [(.iconst 0, 0, 0, 0), (.istore_n 3, 0, 0, 0), (.iconst 0, 0, 0, 0), (.istore 4, 0, 0, 0)] 36 = true := by decide +kernel
theorem sX12_figures_36 : dsOk (MN MX12_figures).cls (MB MX12_figures) 36 [(.iload 4, 0, 0, 0), (.aload_n 0, 0, 0, 0), (.getfield 49, 11, 6, 0), (.iload_n 1, 0, 0, 0), (.iaload, 0, 0, 0)] 44 = true := by decide +kernel
theorem dX12_figures_44 : decode (MB MX12_figures) 44 = .ok (.if_icmp .ge 55, 3) := by decide +kernel
theorem sX12_figures_47 : dsOk (MN MX12_figures).cls (MB MX12_figures) 47 [(.aload_n 0, 0, 0, 0), (.iload_n 1, 0, 0, 0), (.iload 4, 0, 0, 0)] 51 = true := by decide +kernel
theorem dX12_figures_51 : decode (MB MX12_figures) 51 = .ok (.invokevirtual 389, 3) := by decide +kernel
theorem dX12_figures_54 : decode (MB MX12_figures) 54 = .ok (.ifCond .ne 39, 3) := by decide +kernel
theorem sX12_figures_57 : dsOk (MN MX12_figures).cls (MB MX12_figures) 57 [(.iload_n 3, 0, 0, 0), (.aload_n 0, 0, 0, 0), (.iload_n 1, 0, 0, 0), (.iconst 2, 0, 0, 0), (.iload 4, 0, 0, 0), (.imul, 0, 0, 0), (.iconst 1, 0, 0, 0), (.iadd, 0, 0, 0)] 66 = true := by decide +kernel
theorem dX12_figures_66 : decode (MB MX12_figures) 66 = .ok (.invokevirtual 393, 3) := by decide +kernel
theorem sX12_figures_69 : dsOk (MN MX12_figures).cls (MB MX12_figures) 69 [(.i2l, 0, 0, 0), (.iload_n 2, 0, 0, 0)] 71 = true := by decide +kernel
theorem dX12_figures_71 : decode (MB MX12_figures) 71 = .ok (.invokestatic 400, 3) := by decide +kernel
theorem sX12_figures_74 : dsOk (MN MX12_figures).cls (MB MX12_figures) 74 [(.aload_n 0, 0, 0, 0), (.iload_n 1, 0, 0, 0), (.iconst 2, 0, 0, 0), (.iload 4, 0, 0, 0), (.imul, 0, 0, 0), (.iconst 2, 0, 0, 0), (.iadd, 0, 0, 0)] 82 = true := by decide +kernel
theorem dX12_figures_82 : decode (MB MX12_figures) 82 = .ok (.invokevirtual 393, 3) := by decide +kernel
theorem sX12_figures_85 : dsOk (MN MX12_figures).cls (MB MX12_figures) 85 [(.i2l, 0, 0, 0), (.iload_n 2, 0, 0, 0)] 87 = true := by decide +kernel
theorem dX12_figures_87 : decode (MB MX12_figures) 87 = .ok (.invokestatic 400, 3) := by decide +kernel
theorem sX12_figures_90 : dsOk (MN MX12_figures).cls (MB MX12_figures) 90 [(.iadd, 0, 0, 0), (.iadd, 0, 0, 0), (.istore_n 3, 0, 0, 0)] 93 = true := by decide +kernel
theorem sX12_figures_93 : dsOk (MN MX12_figures).cls (MB MX12_figures) 93 [(.iinc 4 1, 0, 0, 0)] 96 = true := by decide +kernel
theorem dX12_figures_96 : decode (MB MX12_figures) 96 = .ok (.goto (-60), 3) := by decide +kernel
theorem sX12_figures_99 : dsOk (MN MX12_figures).cls (MB MX12_figures) 99 [(.iload_n 3, 0, 0, 0)] 100 = true := by decide +kernel
theorem dX12_figures_100 : decode (MB MX12_figures) 100 = .ok (.ireturn, 1) := by decide +kernel
def MX12_tearOut : Ms := (yX12_tearOut, cX12_tearOut, 4, none, [])
set_option maxRecDepth 100000 in
theorem kX12_tearOut : mkV MX12_tearOut 3 := ⟨⟨List.mem_of_getElem? (i := 1882) (by rfl), by decide +kernel⟩, by decide +kernel⟩
theorem sX12_tearOut_0 : dsOk (MN MX12_tearOut).cls (MB MX12_tearOut) 0 [(.aload_n 0, 0, 0, 0), (.getfield 54, 11, 8, 0), (.bipush 60, 0, 0, 60), (.iload_n 1, 0, 0, 0), (.imul, 0, 0, 0), (.aload_n 0, 0, 0, 0), (.getfield 51, 11, 7, 0), (.iload_n 1, 0, 0, 0), (.iaload, 0, 0, 0), (.iadd, 0, 0, 0), (.iload_n 2, 0, 0, 0), (.iastore, 0, 0, 0), (.aload_n 0, 0, 0, 0), (.getfield 51, 11, 7, 0), (.iload_n 1, 0, 0, 0), (.dup2, 0, 0, 0), (.iaload, 0, 0, 0), (.iconst 1, 0, 0, 0), (.iadd, 0, 0, 0), (.iastore, 0, 0, 0), (.aload_n 0, 0, 0, 0), (.getfield 94, 11, 31, 0), (.aload_n 0, 0, 0, 0), (.getfield 341, 11, 34, 0), (.iload_n 1, 0, 0, 0), (.iastore, 0, 0, 0), (.aload_n 0, 0, 0, 0), (.getfield 97, 11, 32, 0), (.aload_n 0, 0, 0, 0), (.getfield 341, 11, 34, 0), (.iload_n 2, 0, 0, 0), (.iastore, 0, 0, 0), (.aload_n 0, 0, 0, 0), (.getfield 100, 11, 33, 0), (.aload_n 0, 0, 0, 0), (.getfield 341, 11, 34, 0), (.iload_n 3, 0, 0, 0), (.bastore, 0, 0, 0), (.aload_n 0, 0, 0, 0), (.dup, 0, 0, 0), (.getfield 341, 11, 34, 0), (.iconst 1, 0, 0, 0), (.iadd, 0, 0, 0), (.putfield 341, 11, 34, 0), (.aload_n 0, 0, 0, 0), (.dup, 0, 0, 0), (.getfield 344, 11, 35, 0), (.iload_n 3, 0, 0, 0)] 73 = true := by decide +kernel
theorem dX12_tearOut_73 : decode (MB MX12_tearOut) 73 = .ok (.ifCond .eq 7, 3) := by decide +kernel
theorem sX12_tearOut_76 : dsOk (MN MX12_tearOut).cls (MB MX12_tearOut) 76 [(.iconst 0, 0, 0, 0)] 77 = true := by decide +kernel
theorem dX12_tearOut_77 : decode (MB MX12_tearOut) 77 = .ok (.goto 4, 3) := by decide +kernel
theorem sX12_tearOut_80 : dsOk (MN MX12_tearOut).cls (MB MX12_tearOut) 80 [(.iconst 1, 0, 0, 0)] 81 = true := by decide +kernel
theorem sX12_tearOut_81 : dsOk (MN MX12_tearOut).cls (MB MX12_tearOut) 81 [(.iadd, 0, 0, 0), (.putfield 344, 11, 35, 0)] 85 = true := by decide +kernel
theorem dX12_tearOut_85 : decode (MB MX12_tearOut) 85 = .ok (.return_, 1) := by decide +kernel
def MX12_refuse : Ms := (yX12_refuse, cX12_refuse, 2, (some .int), [])
set_option maxRecDepth 100000 in
theorem kX12_refuse : mkV MX12_refuse 1 := ⟨⟨List.mem_of_getElem? (i := 1878) (by rfl), by decide +kernel⟩, by decide +kernel⟩
theorem sX12_refuse_0 : dsOk (MN MX12_refuse).cls (MB MX12_refuse) 0 [(.aload_n 0, 0, 0, 0), (.getfield 78, 11, 16, 0), (.iload_n 1, 0, 0, 0), (.dup2, 0, 0, 0), (.iaload, 0, 0, 0), (.iconst 1, 0, 0, 0), (.iadd, 0, 0, 0), (.iastore, 0, 0, 0), (.iconst (-1), 0, 0, 0)] 11 = true := by decide +kernel
theorem dX12_refuse_11 : decode (MB MX12_refuse) 11 = .ok (.ireturn, 1) := by decide +kernel
def MX12_tear : Ms := (yX12_tear, cX12_tear, 3, (some .int), [])
set_option maxRecDepth 100000 in
theorem kX12_tear : mkV MX12_tear 2 := ⟨⟨List.mem_of_getElem? (i := 1874) (by rfl), by decide +kernel⟩, by decide +kernel⟩
theorem sX12_tear_0 : dsOk (MN MX12_tear).cls (MB MX12_tear) 0 [(.aload_n 0, 0, 0, 0), (.iconst 0, 0, 0, 0), (.putfield 175, 11, 2, 0), (.aload_n 0, 0, 0, 0), (.iload_n 1, 0, 0, 0)] 7 = true := by decide +kernel
theorem dX12_tear_7 : decode (MB MX12_tear) 7 = .ok (.invokevirtual 386, 3) := by decide +kernel
theorem dX12_tear_10 : decode (MB MX12_tear) 10 = .ok (.ifCond .eq 21, 3) := by decide +kernel
theorem sX12_tear_13 : dsOk (MN MX12_tear).cls (MB MX12_tear) 13 [(.iload_n 2, 0, 0, 0), (.i2l, 0, 0, 0), (.lconst 0, 0, 0, 0), (.aload_n 0, 0, 0, 0), (.getfield 49, 11, 6, 0), (.iload_n 1, 0, 0, 0), (.iaload, 0, 0, 0), (.iconst 1, 0, 0, 0), (.isub, 0, 0, 0), (.i2l, 0, 0, 0)] 25 = true := by decide +kernel
theorem dX12_tear_25 : decode (MB MX12_tear) 25 = .ok (.invokestatic 178, 3) := by decide +kernel
theorem dX12_tear_28 : decode (MB MX12_tear) 28 = .ok (.ifCond .ne 9, 3) := by decide +kernel
theorem sX12_tear_31 : dsOk (MN MX12_tear).cls (MB MX12_tear) 31 [(.aload_n 0, 0, 0, 0), (.iconst 1, 0, 0, 0)] 33 = true := by decide +kernel
theorem dX12_tear_33 : decode (MB MX12_tear) 33 = .ok (.invokevirtual 324, 3) := by decide +kernel
theorem dX12_tear_36 : decode (MB MX12_tear) 36 = .ok (.ireturn, 1) := by decide +kernel
theorem sX12_tear_37 : dsOk (MN MX12_tear).cls (MB MX12_tear) 37 [(.aload_n 0, 0, 0, 0), (.iload_n 1, 0, 0, 0), (.iload_n 2, 0, 0, 0)] 40 = true := by decide +kernel
theorem dX12_tear_40 : decode (MB MX12_tear) 40 = .ok (.invokevirtual 389, 3) := by decide +kernel
theorem dX12_tear_43 : decode (MB MX12_tear) 43 = .ok (.ifCond .ne 14, 3) := by decide +kernel
theorem sX12_tear_46 : dsOk (MN MX12_tear).cls (MB MX12_tear) 46 [(.aload_n 0, 0, 0, 0), (.getfield 51, 11, 7, 0), (.iload_n 1, 0, 0, 0), (.iaload, 0, 0, 0), (.bipush 60, 0, 0, 60)] 54 = true := by decide +kernel
theorem dX12_tear_54 : decode (MB MX12_tear) 54 = .ok (.if_icmp .ne 9, 3) := by decide +kernel
theorem sX12_tear_57 : dsOk (MN MX12_tear).cls (MB MX12_tear) 57 [(.aload_n 0, 0, 0, 0), (.iconst 1, 0, 0, 0)] 59 = true := by decide +kernel
theorem dX12_tear_59 : decode (MB MX12_tear) 59 = .ok (.invokevirtual 404, 3) := by decide +kernel
theorem dX12_tear_62 : decode (MB MX12_tear) 62 = .ok (.ireturn, 1) := by decide +kernel
theorem sX12_tear_63 : dsOk (MN MX12_tear).cls (MB MX12_tear) 63 [(.aload_n 0, 0, 0, 0), (.iload_n 1, 0, 0, 0), (.iload_n 2, 0, 0, 0), (.iconst 0, 0, 0, 0)] 67 = true := by decide +kernel
theorem dX12_tear_67 : decode (MB MX12_tear) 67 = .ok (.invokevirtual 407, 3) := by decide +kernel
theorem sX12_tear_70 : dsOk (MN MX12_tear).cls (MB MX12_tear) 70 [(.aload_n 0, 0, 0, 0), (.getfield 51, 11, 7, 0), (.iload_n 1, 0, 0, 0), (.iaload, 0, 0, 0)] 76 = true := by decide +kernel
theorem dX12_tear_76 : decode (MB MX12_tear) 76 = .ok (.ireturn, 1) := by decide +kernel
def MX12_sheet : Ms := (yX12_sheet, cX12_sheet, 4, (some .int), [])
set_option maxRecDepth 100000 in
theorem kX12_sheet : mkV MX12_sheet 2 := ⟨⟨List.mem_of_getElem? (i := 1886) (by rfl), by decide +kernel⟩, by decide +kernel⟩
theorem sX12_sheet_0 : dsOk (MN MX12_sheet).cls (MB MX12_sheet) 0 [(.aload_n 0, 0, 0, 0), (.iconst 0, 0, 0, 0), (.putfield 175, 11, 2, 0), (.aload_n 0, 0, 0, 0), (.iload_n 1, 0, 0, 0)] 7 = true := by decide +kernel
theorem dX12_sheet_7 : decode (MB MX12_sheet) 7 = .ok (.invokevirtual 386, 3) := by decide +kernel
theorem dX12_sheet_10 : decode (MB MX12_sheet) 10 = .ok (.ifCond .eq 23, 3) := by decide +kernel
theorem sX12_sheet_13 : dsOk (MN MX12_sheet).cls (MB MX12_sheet) 13 [(.iload_n 2, 0, 0, 0), (.i2l, 0, 0, 0), (.lconst 0, 0, 0, 0), (.aload_n 0, 0, 0, 0), (.getfield 49, 11, 6, 0), (.iload_n 1, 0, 0, 0), (.iaload, 0, 0, 0), (.iconst 2, 0, 0, 0), (.idiv, 0, 0, 0), (.iconst 1, 0, 0, 0), (.isub, 0, 0, 0), (.i2l, 0, 0, 0)] 27 = true := by decide +kernel
theorem dX12_sheet_27 : decode (MB MX12_sheet) 27 = .ok (.invokestatic 178, 3) := by decide +kernel
theorem dX12_sheet_30 : decode (MB MX12_sheet) 30 = .ok (.ifCond .ne 9, 3) := by decide +kernel
theorem sX12_sheet_33 : dsOk (MN MX12_sheet).cls (MB MX12_sheet) 33 [(.aload_n 0, 0, 0, 0), (.iconst 1, 0, 0, 0)] 35 = true := by decide +kernel
theorem dX12_sheet_35 : decode (MB MX12_sheet) 35 = .ok (.invokevirtual 324, 3) := by decide +kernel
theorem dX12_sheet_38 : decode (MB MX12_sheet) 38 = .ok (.ireturn, 1) := by decide +kernel
theorem sX12_sheet_39 : dsOk (MN MX12_sheet).cls (MB MX12_sheet) 39 [(.aload_n 0, 0, 0, 0), (.getfield 49, 11, 6, 0), (.iload_n 1, 0, 0, 0), (.iaload, 0, 0, 0), (.iconst 1, 0, 0, 0), (.isub, 0, 0, 0), (.iload_n 2, 0, 0, 0), (.isub, 0, 0, 0), (.istore_n 3, 0, 0, 0), (.aload_n 0, 0, 0, 0), (.getfield 49, 11, 6, 0), (.iload_n 1, 0, 0, 0), (.iaload, 0, 0, 0), (.iconst 2, 0, 0, 0), (.irem, 0, 0, 0), (.iconst 1, 0, 0, 0)] 59 = true := by decide +kernel
theorem dX12_sheet_59 : decode (MB MX12_sheet) 59 = .ok (.if_icmp .eq 32, 3) := by decide +kernel
theorem sX12_sheet_62 : dsOk (MN MX12_sheet).cls (MB MX12_sheet) 62 [(.aload_n 0, 0, 0, 0), (.iload_n 1, 0, 0, 0), (.iload_n 2, 0, 0, 0)] 65 = true := by decide +kernel
theorem dX12_sheet_65 : decode (MB MX12_sheet) 65 = .ok (.invokevirtual 389, 3) := by decide +kernel
theorem dX12_sheet_68 : decode (MB MX12_sheet) 68 = .ok (.ifCond .ne 23, 3) := by decide +kernel
theorem sX12_sheet_71 : dsOk (MN MX12_sheet).cls (MB MX12_sheet) 71 [(.aload_n 0, 0, 0, 0), (.iload_n 1, 0, 0, 0), (.iload_n 3, 0, 0, 0)] 74 = true := by decide +kernel
theorem dX12_sheet_74 : decode (MB MX12_sheet) 74 = .ok (.invokevirtual 389, 3) := by decide +kernel
theorem dX12_sheet_77 : decode (MB MX12_sheet) 77 = .ok (.ifCond .ne 14, 3) := by decide +kernel
theorem sX12_sheet_80 : dsOk (MN MX12_sheet).cls (MB MX12_sheet) 80 [(.aload_n 0, 0, 0, 0), (.getfield 51, 11, 7, 0), (.iload_n 1, 0, 0, 0), (.iaload, 0, 0, 0), (.bipush 58, 0, 0, 58)] 88 = true := by decide +kernel
theorem dX12_sheet_88 : decode (MB MX12_sheet) 88 = .ok (.if_icmp .le 9, 3) := by decide +kernel
theorem sX12_sheet_91 : dsOk (MN MX12_sheet).cls (MB MX12_sheet) 91 [(.aload_n 0, 0, 0, 0), (.iconst 1, 0, 0, 0)] 93 = true := by decide +kernel
theorem dX12_sheet_93 : decode (MB MX12_sheet) 93 = .ok (.invokevirtual 404, 3) := by decide +kernel
theorem dX12_sheet_96 : decode (MB MX12_sheet) 96 = .ok (.ireturn, 1) := by decide +kernel
theorem sX12_sheet_97 : dsOk (MN MX12_sheet).cls (MB MX12_sheet) 97 [(.aload_n 0, 0, 0, 0), (.iload_n 1, 0, 0, 0), (.iload_n 2, 0, 0, 0), (.iconst 0, 0, 0, 0)] 101 = true := by decide +kernel
theorem dX12_sheet_101 : decode (MB MX12_sheet) 101 = .ok (.invokevirtual 407, 3) := by decide +kernel
theorem sX12_sheet_104 : dsOk (MN MX12_sheet).cls (MB MX12_sheet) 104 [(.aload_n 0, 0, 0, 0), (.iload_n 1, 0, 0, 0), (.iload_n 3, 0, 0, 0), (.iconst 1, 0, 0, 0)] 108 = true := by decide +kernel
theorem dX12_sheet_108 : decode (MB MX12_sheet) 108 = .ok (.invokevirtual 407, 3) := by decide +kernel
theorem sX12_sheet_111 : dsOk (MN MX12_sheet).cls (MB MX12_sheet) 111 [(.aload_n 0, 0, 0, 0), (.getfield 51, 11, 7, 0), (.iload_n 1, 0, 0, 0), (.iaload, 0, 0, 0)] 117 = true := by decide +kernel
theorem dX12_sheet_117 : decode (MB MX12_sheet) 117 = .ok (.ireturn, 1) := by decide +kernel
def MX12_putBack : Ms := (yX12_putBack, cX12_putBack, 3, none, [])
set_option maxRecDepth 100000 in
theorem kX12_putBack : mkV MX12_putBack 0 := ⟨⟨List.mem_of_getElem? (i := 1894) (by rfl), by decide +kernel⟩, by decide +kernel⟩
theorem sX12_putBack_0 : dsOk (MN MX12_putBack).cls (MB MX12_putBack) 0 [(.aload_n 0, 0, 0, 0), (.dup, 0, 0, 0), (.getfield 341, 11, 34, 0), (.iconst 1, 0, 0, 0), (.isub, 0, 0, 0), (.putfield 341, 11, 34, 0), (.aload_n 0, 0, 0, 0), (.getfield 94, 11, 31, 0), (.aload_n 0, 0, 0, 0), (.getfield 341, 11, 34, 0), (.iaload, 0, 0, 0), (.istore_n 1, 0, 0, 0), (.iconst 0, 0, 0, 0), (.istore_n 2, 0, 0, 0)] 22 = true := by decide +kernel
theorem sX12_putBack_22 : dsOk (MN MX12_putBack).cls (MB MX12_putBack) 22 [(.aload_n 0, 0, 0, 0), (.getfield 54, 11, 8, 0), (.bipush 60, 0, 0, 60), (.iload_n 1, 0, 0, 0), (.imul, 0, 0, 0), (.iload_n 2, 0, 0, 0), (.iadd, 0, 0, 0), (.iaload, 0, 0, 0), (.aload_n 0, 0, 0, 0), (.getfield 97, 11, 32, 0), (.aload_n 0, 0, 0, 0), (.getfield 341, 11, 34, 0), (.iaload, 0, 0, 0)] 42 = true := by decide +kernel
theorem dX12_putBack_42 : decode (MB MX12_putBack) 42 = .ok (.if_icmp .eq 9, 3) := by decide +kernel
theorem sX12_putBack_45 : dsOk (MN MX12_putBack).cls (MB MX12_putBack) 45 [(.iinc 2 1, 0, 0, 0)] 48 = true := by decide +kernel
theorem dX12_putBack_48 : decode (MB MX12_putBack) 48 = .ok (.goto (-26), 3) := by decide +kernel
theorem sX12_putBack_51 : dsOk (MN MX12_putBack).cls (MB MX12_putBack) 51 [(.aload_n 0, 0, 0, 0), (.getfield 51, 11, 7, 0), (.iload_n 1, 0, 0, 0), (.dup2, 0, 0, 0), (.iaload, 0, 0, 0), (.iconst 1, 0, 0, 0), (.isub, 0, 0, 0), (.iastore, 0, 0, 0), (.aload_n 0, 0, 0, 0), (.getfield 54, 11, 8, 0), (.bipush 60, 0, 0, 60), (.iload_n 1, 0, 0, 0), (.imul, 0, 0, 0), (.iload_n 2, 0, 0, 0), (.iadd, 0, 0, 0), (.aload_n 0, 0, 0, 0), (.getfield 54, 11, 8, 0), (.bipush 60, 0, 0, 60), (.iload_n 1, 0, 0, 0), (.imul, 0, 0, 0), (.aload_n 0, 0, 0, 0), (.getfield 51, 11, 7, 0), (.iload_n 1, 0, 0, 0), (.iaload, 0, 0, 0), (.iadd, 0, 0, 0), (.iaload, 0, 0, 0), (.iastore, 0, 0, 0)] 88 = true := by decide +kernel
theorem dX12_putBack_88 : decode (MB MX12_putBack) 88 = .ok (.return_, 1) := by decide +kernel
def MX12_put : Ms := (yX12_put, cX12_put, 3, (some .int), [])
set_option maxRecDepth 100000 in
theorem kX12_put : mkV MX12_put 0 := ⟨⟨List.mem_of_getElem? (i := 1890) (by rfl), by decide +kernel⟩, by decide +kernel⟩
theorem sX12_put_0 : dsOk (MN MX12_put).cls (MB MX12_put) 0 [(.aload_n 0, 0, 0, 0), (.iconst 0, 0, 0, 0), (.putfield 175, 11, 2, 0), (.aload_n 0, 0, 0, 0), (.getfield 341, 11, 34, 0)] 9 = true := by decide +kernel
theorem dX12_put_9 : decode (MB MX12_put) 9 = .ok (.ifCond .ne 5, 3) := by decide +kernel
theorem sX12_put_12 : dsOk (MN MX12_put).cls (MB MX12_put) 12 [(.iconst (-1), 0, 0, 0)] 13 = true := by decide +kernel
theorem dX12_put_13 : decode (MB MX12_put) 13 = .ok (.ireturn, 1) := by decide +kernel
theorem sX12_put_14 : dsOk (MN MX12_put).cls (MB MX12_put) 14 [(.aload_n 0, 0, 0, 0), (.getfield 100, 11, 33, 0), (.aload_n 0, 0, 0, 0), (.getfield 341, 11, 34, 0), (.iconst 1, 0, 0, 0), (.isub, 0, 0, 0), (.baload, 0, 0, 0)] 25 = true := by decide +kernel
theorem dX12_put_25 : decode (MB MX12_put) 25 = .ok (.ifCond .eq 7, 3) := by decide +kernel
theorem sX12_put_28 : dsOk (MN MX12_put).cls (MB MX12_put) 28 [(.iconst 2, 0, 0, 0)] 29 = true := by decide +kernel
theorem dX12_put_29 : decode (MB MX12_put) 29 = .ok (.goto 4, 3) := by decide +kernel
theorem sX12_put_32 : dsOk (MN MX12_put).cls (MB MX12_put) 32 [(.iconst 1, 0, 0, 0)] 33 = true := by decide +kernel
theorem sX12_put_33 : dsOk (MN MX12_put).cls (MB MX12_put) 33 [(.istore_n 1, 0, 0, 0), (.iconst 0, 0, 0, 0), (.istore_n 2, 0, 0, 0)] 36 = true := by decide +kernel
theorem sX12_put_36 : dsOk (MN MX12_put).cls (MB MX12_put) 36 [(.iload_n 2, 0, 0, 0), (.iload_n 1, 0, 0, 0)] 38 = true := by decide +kernel
theorem dX12_put_38 : decode (MB MX12_put) 38 = .ok (.if_icmp .ge 13, 3) := by decide +kernel
theorem sX12_put_41 : dsOk (MN MX12_put).cls (MB MX12_put) 41 [(.aload_n 0, 0, 0, 0)] 42 = true := by decide +kernel
theorem dX12_put_42 : decode (MB MX12_put) 42 = .ok (.invokevirtual 411, 3) := by decide +kernel
theorem sX12_put_45 : dsOk (MN MX12_put).cls (MB MX12_put) 45 [(.iinc 2 1, 0, 0, 0)] 48 = true := by decide +kernel
theorem dX12_put_48 : decode (MB MX12_put) 48 = .ok (.goto (-12), 3) := by decide +kernel
theorem sX12_put_51 : dsOk (MN MX12_put).cls (MB MX12_put) 51 [(.aload_n 0, 0, 0, 0), (.dup, 0, 0, 0), (.getfield 344, 11, 35, 0), (.iconst 1, 0, 0, 0), (.isub, 0, 0, 0), (.putfield 344, 11, 35, 0), (.iload_n 1, 0, 0, 0)] 62 = true := by decide +kernel
theorem dX12_put_62 : decode (MB MX12_put) 62 = .ok (.ireturn, 1) := by decide +kernel
def MX12_add : Ms := (yX12_add, cX12_add, 5, (some .boolean), [])
set_option maxRecDepth 100000 in
theorem kX12_add : mkV MX12_add 2 := ⟨⟨List.mem_of_getElem? (i := 1898) (by rfl), by decide +kernel⟩, by decide +kernel⟩
theorem sX12_add_0 : dsOk (MN MX12_add).cls (MB MX12_add) 0 [(.aload_n 0, 0, 0, 0), (.iconst 0, 0, 0, 0), (.putfield 175, 11, 2, 0), (.aload_n 0, 0, 0, 0), (.iload_n 1, 0, 0, 0)] 7 = true := by decide +kernel
theorem dX12_add_7 : decode (MB MX12_add) 7 = .ok (.invokevirtual 386, 3) := by decide +kernel
theorem dX12_add_10 : decode (MB MX12_add) 10 = .ok (.ifCond .ne 10, 3) := by decide +kernel
theorem sX12_add_13 : dsOk (MN MX12_add).cls (MB MX12_add) 13 [(.aload_n 0, 0, 0, 0), (.iconst 1, 0, 0, 0), (.putfield 175, 11, 2, 0), (.iconst 0, 0, 0, 0)] 19 = true := by decide +kernel
theorem dX12_add_19 : decode (MB MX12_add) 19 = .ok (.ireturn, 1) := by decide +kernel
theorem sX12_add_20 : dsOk (MN MX12_add).cls (MB MX12_add) 20 [(.aload_n 0, 0, 0, 0), (.getfield 347, 11, 36, 0), (.bipush 60, 0, 0, 60)] 26 = true := by decide +kernel
theorem dX12_add_26 : decode (MB MX12_add) 26 = .ok (.if_icmp .eq 33, 3) := by decide +kernel
theorem sX12_add_29 : dsOk (MN MX12_add).cls (MB MX12_add) 29 [(.aload_n 0, 0, 0, 0), (.getfield 347, 11, 36, 0)] 33 = true := by decide +kernel
theorem dX12_add_33 : decode (MB MX12_add) 33 = .ok (.ifCond .le 38, 3) := by decide +kernel
theorem sX12_add_36 : dsOk (MN MX12_add).cls (MB MX12_add) 36 [(.iload_n 1, 0, 0, 0), (.aload_n 0, 0, 0, 0), (.getfield 414, 11, 37, 0)] 41 = true := by decide +kernel
theorem dX12_add_41 : decode (MB MX12_add) 41 = .ok (.if_icmp .ne 18, 3) := by decide +kernel
theorem sX12_add_44 : dsOk (MN MX12_add).cls (MB MX12_add) 44 [(.aload_n 0, 0, 0, 0), (.getfield 347, 11, 36, 0), (.iconst 2, 0, 0, 0), (.aload_n 0, 0, 0, 0), (.getfield 49, 11, 6, 0), (.iload_n 1, 0, 0, 0), (.iaload, 0, 0, 0), (.imul, 0, 0, 0)] 56 = true := by decide +kernel
theorem dX12_add_56 : decode (MB MX12_add) 56 = .ok (.if_icmp .ne 15, 3) := by decide +kernel
theorem sX12_add_59 : dsOk (MN MX12_add).cls (MB MX12_add) 59 [(.aload_n 0, 0, 0, 0), (.getfield 78, 11, 16, 0), (.iconst 2, 0, 0, 0), (.dup2, 0, 0, 0), (.iaload, 0, 0, 0), (.iconst 1, 0, 0, 0), (.iadd, 0, 0, 0), (.iastore, 0, 0, 0), (.iconst 0, 0, 0, 0)] 70 = true := by decide +kernel
theorem dX12_add_70 : decode (MB MX12_add) 70 = .ok (.ireturn, 1) := by decide +kernel
theorem sX12_add_71 : dsOk (MN MX12_add).cls (MB MX12_add) 71 [(.aload_n 0, 0, 0, 0), (.getfield 347, 11, 36, 0)] 75 = true := by decide +kernel
theorem dX12_add_75 : decode (MB MX12_add) 75 = .ok (.ifCond .ne 18, 3) := by decide +kernel
theorem sX12_add_78 : dsOk (MN MX12_add).cls (MB MX12_add) 78 [(.aload_n 0, 0, 0, 0), (.iload_n 1, 0, 0, 0), (.putfield 414, 11, 37, 0), (.aload_n 0, 0, 0, 0), (.lconst 0, 0, 0, 0), (.putfield 417, 11, 39, 0), (.aload_n 0, 0, 0, 0), (.iconst (-1), 0, 0, 0), (.putfield 421, 11, 38, 0)] 93 = true := by decide +kernel
theorem sX12_add_93 : dsOk (MN MX12_add).cls (MB MX12_add) 93 [(.aload_n 0, 0, 0, 0), (.dup, 0, 0, 0), (.getfield 347, 11, 36, 0), (.iconst 1, 0, 0, 0), (.iadd, 0, 0, 0), (.putfield 347, 11, 36, 0), (.aload_n 0, 0, 0, 0), (.dup, 0, 0, 0), (.getfield 417, 11, 39, 0), (.aload_n 0, 0, 0, 0), (.iload_n 1, 0, 0, 0), (.aload_n 0, 0, 0, 0), (.getfield 347, 11, 36, 0)] 114 = true := by decide +kernel
theorem dX12_add_114 : decode (MB MX12_add) 114 = .ok (.invokevirtual 393, 3) := by decide +kernel
theorem sX12_add_117 : dsOk (MN MX12_add).cls (MB MX12_add) 117 [(.i2l, 0, 0, 0), (.ladd, 0, 0, 0), (.putfield 417, 11, 39, 0), (.lload_n 2, 0, 0, 0), (.aload_n 0, 0, 0, 0), (.getfield 417, 11, 39, 0), (.lcmp, 0, 0, 0)] 128 = true := by decide +kernel
theorem dX12_add_128 : decode (MB MX12_add) 128 = .ok (.ifCond .ne 7, 3) := by decide +kernel
theorem sX12_add_131 : dsOk (MN MX12_add).cls (MB MX12_add) 131 [(.iconst 1, 0, 0, 0)] 132 = true := by decide +kernel
theorem dX12_add_132 : decode (MB MX12_add) 132 = .ok (.goto 4, 3) := by decide +kernel
theorem sX12_add_135 : dsOk (MN MX12_add).cls (MB MX12_add) 135 [(.iconst 0, 0, 0, 0)] 136 = true := by decide +kernel
theorem sX12_add_136 : dsOk (MN MX12_add).cls (MB MX12_add) 136 [(.istore 4, 0, 0, 0), (.iload 4, 0, 0, 0)] 140 = true := by decide +kernel
theorem dX12_add_140 : decode (MB MX12_add) 140 = .ok (.ifCond .ne 21, 3) := by decide +kernel
theorem sX12_add_143 : dsOk (MN MX12_add).cls (MB MX12_add) 143 [(.aload_n 0, 0, 0, 0), (.getfield 421, 11, 38, 0), (.iconst (-1), 0, 0, 0)] 148 = true := by decide +kernel
theorem dX12_add_148 : decode (MB MX12_add) 148 = .ok (.if_icmp .ne 13, 3) := by decide +kernel
theorem sX12_add_151 : dsOk (MN MX12_add).cls (MB MX12_add) 151 [(.aload_n 0, 0, 0, 0), (.aload_n 0, 0, 0, 0), (.getfield 347, 11, 36, 0), (.iconst 1, 0, 0, 0), (.isub, 0, 0, 0), (.putfield 421, 11, 38, 0)] 161 = true := by decide +kernel
theorem sX12_add_161 : dsOk (MN MX12_add).cls (MB MX12_add) 161 [(.iload 4, 0, 0, 0)] 163 = true := by decide +kernel
theorem dX12_add_163 : decode (MB MX12_add) 163 = .ok (.ireturn, 1) := by decide +kernel
def MX12_wrong : Ms := (yX12_wrong, cX12_wrong, 2, (some .int), [])
set_option maxRecDepth 100000 in
theorem kX12_wrong : mkV MX12_wrong 0 := ⟨⟨List.mem_of_getElem? (i := 1902) (by rfl), by decide +kernel⟩, by decide +kernel⟩
theorem sX12_wrong_0 : dsOk (MN MX12_wrong).cls (MB MX12_wrong) 0 [(.aload_n 0, 0, 0, 0), (.iconst 0, 0, 0, 0), (.putfield 175, 11, 2, 0), (.aload_n 0, 0, 0, 0), (.getfield 347, 11, 36, 0)] 9 = true := by decide +kernel
theorem dX12_wrong_9 : decode (MB MX12_wrong) 9 = .ok (.ifCond .ne 7, 3) := by decide +kernel
theorem sX12_wrong_12 : dsOk (MN MX12_wrong).cls (MB MX12_wrong) 12 [(.iconst (-1), 0, 0, 0)] 13 = true := by decide +kernel
theorem dX12_wrong_13 : decode (MB MX12_wrong) 13 = .ok (.goto 7, 3) := by decide +kernel
theorem sX12_wrong_16 : dsOk (MN MX12_wrong).cls (MB MX12_wrong) 16 [(.aload_n 0, 0, 0, 0), (.getfield 421, 11, 38, 0)] 20 = true := by decide +kernel
theorem sX12_wrong_20 : dsOk (MN MX12_wrong).cls (MB MX12_wrong) 20 [(.istore_n 1, 0, 0, 0), (.aload_n 0, 0, 0, 0), (.iconst 0, 0, 0, 0), (.putfield 347, 11, 36, 0), (.iload_n 1, 0, 0, 0)] 27 = true := by decide +kernel
theorem dX12_wrong_27 : decode (MB MX12_wrong) 27 = .ok (.ireturn, 1) := by decide +kernel
def MX12_isSum : Ms := (yX12_isSum, cX12_isSum, 2, (some .boolean), [])
set_option maxRecDepth 100000 in
theorem kX12_isSum : mkS MX12_isSum 1 := ⟨⟨List.mem_of_getElem? (i := 1909) (by rfl), by decide +kernel⟩, by decide +kernel⟩
theorem sX12_isSum_0 : dsOk (MN MX12_isSum).cls (MB MX12_isSum) 0 [(.lload_n 0, 0, 0, 0), (.lconst 1, 0, 0, 1), (.ldc2_w 424, 0, 0, 1000000000000000000)] 5 = true := by decide +kernel
theorem dX12_isSum_5 : decode (MB MX12_isSum) 5 = .ok (.invokestatic 178, 3) := by decide +kernel
theorem dX12_isSum_8 : decode (MB MX12_isSum) 8 = .ok (.ireturn, 1) := by decide +kernel
def MX12_upTo : Ms := (yX12_upTo, cX12_upTo, 2, (some .long), [])
set_option maxRecDepth 100000 in
theorem kX12_upTo : mkS MX12_upTo 1 := ⟨⟨List.mem_of_getElem? (i := 1924) (by rfl), by decide +kernel⟩, by decide +kernel⟩
theorem sX12_upTo_0 : dsOk (MN MX12_upTo).cls (MB MX12_upTo) 0 [(.lload_n 0, 0, 0, 0), (.ldc2_w 376, 0, 0, 2), (.lrem, 0, 0, 0), (.lconst 0, 0, 0, 0), (.lcmp, 0, 0, 0)] 7 = true := by decide +kernel
theorem dX12_upTo_7 : decode (MB MX12_upTo) 7 = .ok (.ifCond .ne 15, 3) := by decide +kernel
theorem sX12_upTo_10 : dsOk (MN MX12_upTo).cls (MB MX12_upTo) 10 [(.lload_n 0, 0, 0, 0), (.ldc2_w 376, 0, 0, 2), (.ldiv, 0, 0, 0), (.lload_n 0, 0, 0, 0), (.lconst 1, 0, 0, 1), (.ladd, 0, 0, 0), (.lmul, 0, 0, 0)] 19 = true := by decide +kernel
theorem dX12_upTo_19 : decode (MB MX12_upTo) 19 = .ok (.goto 12, 3) := by decide +kernel
theorem sX12_upTo_22 : dsOk (MN MX12_upTo).cls (MB MX12_upTo) 22 [(.lload_n 0, 0, 0, 0), (.lconst 1, 0, 0, 1), (.ladd, 0, 0, 0), (.ldc2_w 376, 0, 0, 2), (.ldiv, 0, 0, 0), (.lload_n 0, 0, 0, 0), (.lmul, 0, 0, 0)] 31 = true := by decide +kernel
theorem dX12_upTo_31 : decode (MB MX12_upTo) 31 = .ok (.lreturn, 1) := by decide +kernel
def MX12_root : Ms := (yX12_root, cX12_root, 8, (some .long), [])
set_option maxRecDepth 100000 in
theorem kX12_root : mkS MX12_root 1 := ⟨⟨List.mem_of_getElem? (i := 1917) (by rfl), by decide +kernel⟩, by decide +kernel⟩
theorem sX12_root_0 : dsOk (MN MX12_root).cls (MB MX12_root) 0 [(.lconst 0, 0, 0, 0), (.lstore_n 2, 0, 0, 0), (.ldc2_w 426, 0, 0, 3037000499), (.lstore 4, 0, 0, 0)] 7 = true := by decide +kernel
theorem sX12_root_7 : dsOk (MN MX12_root).cls (MB MX12_root) 7 [(.lload_n 2, 0, 0, 0), (.lload 4, 0, 0, 0), (.lcmp, 0, 0, 0)] 11 = true := by decide +kernel
theorem dX12_root_11 : decode (MB MX12_root) 11 = .ok (.ifCond .ge 40, 3) := by decide +kernel
theorem sX12_root_14 : dsOk (MN MX12_root).cls (MB MX12_root) 14 [(.lload_n 2, 0, 0, 0), (.lload 4, 0, 0, 0), (.ladd, 0, 0, 0), (.lconst 1, 0, 0, 1), (.ladd, 0, 0, 0), (.ldc2_w 376, 0, 0, 2), (.ldiv, 0, 0, 0), (.lstore 6, 0, 0, 0), (.lload 6, 0, 0, 0), (.lload 6, 0, 0, 0), (.lmul, 0, 0, 0), (.lload_n 0, 0, 0, 0), (.lcmp, 0, 0, 0)] 33 = true := by decide +kernel
theorem dX12_root_33 : decode (MB MX12_root) 33 = .ok (.ifCond .gt 9, 3) := by decide +kernel
theorem sX12_root_36 : dsOk (MN MX12_root).cls (MB MX12_root) 36 [(.lload 6, 0, 0, 0), (.lstore_n 2, 0, 0, 0)] 39 = true := by decide +kernel
theorem dX12_root_39 : decode (MB MX12_root) 39 = .ok (.goto 9, 3) := by decide +kernel
theorem sX12_root_42 : dsOk (MN MX12_root).cls (MB MX12_root) 42 [(.lload 6, 0, 0, 0), (.lconst 1, 0, 0, 1), (.lsub, 0, 0, 0), (.lstore 4, 0, 0, 0)] 48 = true := by decide +kernel
theorem dX12_root_48 : decode (MB MX12_root) 48 = .ok (.goto (-41), 3) := by decide +kernel
theorem sX12_root_51 : dsOk (MN MX12_root).cls (MB MX12_root) 51 [(.lload_n 2, 0, 0, 0)] 52 = true := by decide +kernel
theorem dX12_root_52 : decode (MB MX12_root) 52 = .ok (.lreturn, 1) := by decide +kernel
def MX12_fit : Ms := (yX12_fit, cX12_fit, 5, none, [])
set_option maxRecDepth 100000 in
theorem kX12_fit : mkV MX12_fit 2 := ⟨⟨List.mem_of_getElem? (i := 1934) (by rfl), by decide +kernel⟩, by decide +kernel⟩
theorem sX12_fit_0 : dsOk (MN MX12_fit).cls (MB MX12_fit) 0 [(.aload_n 0, 0, 0, 0), (.getfield 104, 11, 40, 0), (.aload_n 0, 0, 0, 0), (.getfield 428, 11, 42, 0), (.lload_n 1, 0, 0, 0), (.lastore, 0, 0, 0), (.aload_n 0, 0, 0, 0), (.getfield 108, 11, 41, 0), (.aload_n 0, 0, 0, 0), (.getfield 428, 11, 42, 0), (.lload_n 3, 0, 0, 0), (.lastore, 0, 0, 0), (.aload_n 0, 0, 0, 0), (.dup, 0, 0, 0), (.getfield 428, 11, 42, 0), (.iconst 1, 0, 0, 0), (.iadd, 0, 0, 0), (.putfield 428, 11, 42, 0)] 30 = true := by decide +kernel
theorem dX12_fit_30 : decode (MB MX12_fit) 30 = .ok (.return_, 1) := by decide +kernel
def MX12_fitsOf : Ms := (yX12_fitsOf, cX12_fitsOf, 7, none, [])
set_option maxRecDepth 100000 in
theorem kX12_fitsOf : mkV MX12_fitsOf 2 := ⟨⟨List.mem_of_getElem? (i := 1928) (by rfl), by decide +kernel⟩, by decide +kernel⟩
theorem sX12_fitsOf_0 : dsOk (MN MX12_fitsOf).cls (MB MX12_fitsOf) 0 [(.lload_n 3, 0, 0, 0)] 1 = true := by decide +kernel
theorem dX12_fitsOf_1 : decode (MB MX12_fitsOf) 1 = .ok (.invokestatic 431, 3) := by decide +kernel
theorem sX12_fitsOf_4 : dsOk (MN MX12_fitsOf).cls (MB MX12_fitsOf) 4 [(.lload_n 1, 0, 0, 0), (.lsub, 0, 0, 0), (.lstore 5, 0, 0, 0), (.lload 5, 0, 0, 0), (.lconst 0, 0, 0, 0), (.lcmp, 0, 0, 0)] 12 = true := by decide +kernel
theorem dX12_fitsOf_12 : decode (MB MX12_fitsOf) 12 = .ok (.ifCond .le 50, 3) := by decide +kernel
theorem sX12_fitsOf_15 : dsOk (MN MX12_fitsOf).cls (MB MX12_fitsOf) 15 [(.lload 5, 0, 0, 0), (.ldc2_w 435, 0, 0, 4), (.lrem, 0, 0, 0), (.ldc2_w 437, 0, 0, 3), (.lcmp, 0, 0, 0)] 25 = true := by decide +kernel
theorem dX12_fitsOf_25 : decode (MB MX12_fitsOf) 25 = .ok (.ifCond .ne 37, 3) := by decide +kernel
theorem sX12_fitsOf_28 : dsOk (MN MX12_fitsOf).cls (MB MX12_fitsOf) 28 [(.lload 5, 0, 0, 0), (.ldc2_w 437, 0, 0, 3), (.lsub, 0, 0, 0), (.ldc2_w 435, 0, 0, 4), (.ldiv, 0, 0, 0), (.lload_n 3, 0, 0, 0), (.ldc2_w 376, 0, 0, 2), (.ldiv, 0, 0, 0), (.lcmp, 0, 0, 0)] 44 = true := by decide +kernel
theorem dX12_fitsOf_44 : decode (MB MX12_fitsOf) 44 = .ok (.ifCond .ge 18, 3) := by decide +kernel
theorem sX12_fitsOf_47 : dsOk (MN MX12_fitsOf).cls (MB MX12_fitsOf) 47 [(.aload_n 0, 0, 0, 0), (.lload_n 3, 0, 0, 0), (.lload 5, 0, 0, 0), (.ldc2_w 437, 0, 0, 3), (.lsub, 0, 0, 0), (.ldc2_w 435, 0, 0, 4), (.ldiv, 0, 0, 0)] 59 = true := by decide +kernel
theorem dX12_fitsOf_59 : decode (MB MX12_fitsOf) 59 = .ok (.invokevirtual 439, 3) := by decide +kernel
theorem sX12_fitsOf_62 : dsOk (MN MX12_fitsOf).cls (MB MX12_fitsOf) 62 [(.lload_n 3, 0, 0, 0), (.ldc2_w 376, 0, 0, 2), (.lrem, 0, 0, 0), (.lconst 1, 0, 0, 1), (.lcmp, 0, 0, 0)] 69 = true := by decide +kernel
theorem dX12_fitsOf_69 : decode (MB MX12_fitsOf) 69 = .ok (.ifCond .ne 20, 3) := by decide +kernel
theorem sX12_fitsOf_72 : dsOk (MN MX12_fitsOf).cls (MB MX12_fitsOf) 72 [(.lload 5, 0, 0, 0), (.lload_n 3, 0, 0, 0), (.lcmp, 0, 0, 0)] 76 = true := by decide +kernel
theorem dX12_fitsOf_76 : decode (MB MX12_fitsOf) 76 = .ok (.ifCond .ne 13, 3) := by decide +kernel
theorem sX12_fitsOf_79 : dsOk (MN MX12_fitsOf).cls (MB MX12_fitsOf) 79 [(.aload_n 0, 0, 0, 0), (.lload_n 3, 0, 0, 0), (.lload_n 3, 0, 0, 0), (.ldc2_w 376, 0, 0, 2), (.ldiv, 0, 0, 0)] 86 = true := by decide +kernel
theorem dX12_fitsOf_86 : decode (MB MX12_fitsOf) 86 = .ok (.invokevirtual 439, 3) := by decide +kernel
theorem dX12_fitsOf_89 : decode (MB MX12_fitsOf) 89 = .ok (.return_, 1) := by decide +kernel
def MX12_tellFits : Ms := (yX12_tellFits, cX12_tellFits, 6, none, [])
set_option maxRecDepth 100000 in
theorem kX12_tellFits : mkV MX12_tellFits 1 := ⟨⟨List.mem_of_getElem? (i := 1914) (by rfl), by decide +kernel⟩, by decide +kernel⟩
theorem sX12_tellFits_0 : dsOk (MN MX12_tellFits).cls (MB MX12_tellFits) 0 [(.aload_n 0, 0, 0, 0), (.iconst 0, 0, 0, 0), (.putfield 428, 11, 42, 0), (.lconst 1, 0, 0, 1), (.ldc2_w 376, 0, 0, 2), (.lload_n 1, 0, 0, 0), (.lmul, 0, 0, 0)] 11 = true := by decide +kernel
theorem dX12_tellFits_11 : decode (MB MX12_tellFits) 11 = .ok (.invokestatic 443, 3) := by decide +kernel
theorem sX12_tellFits_14 : dsOk (MN MX12_tellFits).cls (MB MX12_tellFits) 14 [(.ldc2_w 376, 0, 0, 2), (.lsub, 0, 0, 0)] 18 = true := by decide +kernel
theorem dX12_tellFits_18 : decode (MB MX12_tellFits) 18 = .ok (.invokestatic 446, 3) := by decide +kernel
theorem sX12_tellFits_21 : dsOk (MN MX12_tellFits).cls (MB MX12_tellFits) 21 [(.lstore_n 3, 0, 0, 0)] 22 = true := by decide +kernel
theorem sX12_tellFits_22 : dsOk (MN MX12_tellFits).cls (MB MX12_tellFits) 22 [(.lload_n 3, 0, 0, 0)] 23 = true := by decide +kernel
theorem dX12_tellFits_23 : decode (MB MX12_tellFits) 23 = .ok (.invokestatic 431, 3) := by decide +kernel
theorem sX12_tellFits_26 : dsOk (MN MX12_tellFits).cls (MB MX12_tellFits) 26 [(.lload_n 1, 0, 0, 0), (.lcmp, 0, 0, 0)] 28 = true := by decide +kernel
theorem dX12_tellFits_28 : decode (MB MX12_tellFits) 28 = .ok (.ifCond .gt 10, 3) := by decide +kernel
theorem sX12_tellFits_31 : dsOk (MN MX12_tellFits).cls (MB MX12_tellFits) 31 [(.lload_n 3, 0, 0, 0), (.lconst 1, 0, 0, 1), (.ladd, 0, 0, 0), (.lstore_n 3, 0, 0, 0)] 35 = true := by decide +kernel
theorem dX12_tellFits_35 : decode (MB MX12_tellFits) 35 = .ok (.goto (-13), 3) := by decide +kernel
theorem sX12_tellFits_38 : dsOk (MN MX12_tellFits).cls (MB MX12_tellFits) 38 [(.iconst 0, 0, 0, 0), (.istore 5, 0, 0, 0)] 41 = true := by decide +kernel
theorem sX12_tellFits_41 : dsOk (MN MX12_tellFits).cls (MB MX12_tellFits) 41 [(.iload 5, 0, 0, 0), (.iconst 3, 0, 0, 0)] 44 = true := by decide +kernel
theorem dX12_tellFits_44 : decode (MB MX12_tellFits) 44 = .ok (.if_icmp .ge 19, 3) := by decide +kernel
theorem sX12_tellFits_47 : dsOk (MN MX12_tellFits).cls (MB MX12_tellFits) 47 [(.aload_n 0, 0, 0, 0), (.lload_n 1, 0, 0, 0), (.lload_n 3, 0, 0, 0), (.iload 5, 0, 0, 0), (.i2l, 0, 0, 0), (.ladd, 0, 0, 0)] 54 = true := by decide +kernel
theorem dX12_tellFits_54 : decode (MB MX12_tellFits) 54 = .ok (.invokevirtual 449, 3) := by decide +kernel
theorem sX12_tellFits_57 : dsOk (MN MX12_tellFits).cls (MB MX12_tellFits) 57 [(.iinc 5 1, 0, 0, 0)] 60 = true := by decide +kernel
theorem dX12_tellFits_60 : decode (MB MX12_tellFits) 60 = .ok (.goto (-19), 3) := by decide +kernel
theorem dX12_tellFits_63 : decode (MB MX12_tellFits) 63 = .ok (.return_, 1) := by decide +kernel
def MX12_fits : Ms := (yX12_fits, cX12_fits, 4, (some .long), [])
set_option maxRecDepth 100000 in
theorem kX12_fits : mkV MX12_fits 2 := ⟨⟨List.mem_of_getElem? (i := 1906) (by rfl), by decide +kernel⟩, by decide +kernel⟩
theorem sX12_fits_0 : dsOk (MN MX12_fits).cls (MB MX12_fits) 0 [(.aload_n 0, 0, 0, 0), (.iconst 0, 0, 0, 0), (.putfield 175, 11, 2, 0), (.lload_n 1, 0, 0, 0)] 6 = true := by decide +kernel
theorem dX12_fits_6 : decode (MB MX12_fits) 6 = .ok (.invokestatic 452, 3) := by decide +kernel
theorem dX12_fits_9 : decode (MB MX12_fits) 9 = .ok (.ifCond .ne 10, 3) := by decide +kernel
theorem sX12_fits_12 : dsOk (MN MX12_fits).cls (MB MX12_fits) 12 [(.aload_n 0, 0, 0, 0), (.iconst 2, 0, 0, 0)] 14 = true := by decide +kernel
theorem dX12_fits_14 : decode (MB MX12_fits) 14 = .ok (.invokevirtual 324, 3) := by decide +kernel
theorem sX12_fits_17 : dsOk (MN MX12_fits).cls (MB MX12_fits) 17 [(.i2l, 0, 0, 0)] 18 = true := by decide +kernel
theorem dX12_fits_18 : decode (MB MX12_fits) 18 = .ok (.lreturn, 1) := by decide +kernel
theorem sX12_fits_19 : dsOk (MN MX12_fits).cls (MB MX12_fits) 19 [(.aload_n 0, 0, 0, 0), (.lload_n 1, 0, 0, 0)] 21 = true := by decide +kernel
theorem dX12_fits_21 : decode (MB MX12_fits) 21 = .ok (.invokevirtual 456, 3) := by decide +kernel
theorem sX12_fits_24 : dsOk (MN MX12_fits).cls (MB MX12_fits) 24 [(.iload_n 3, 0, 0, 0), (.iconst (-1), 0, 0, 0)] 26 = true := by decide +kernel
theorem dX12_fits_26 : decode (MB MX12_fits) 26 = .ok (.if_icmp .ne 11, 3) := by decide +kernel
theorem sX12_fits_29 : dsOk (MN MX12_fits).cls (MB MX12_fits) 29 [(.aload_n 0, 0, 0, 0), (.getfield 428, 11, 42, 0), (.i2l, 0, 0, 0)] 34 = true := by decide +kernel
theorem dX12_fits_34 : decode (MB MX12_fits) 34 = .ok (.goto 34, 3) := by decide +kernel
theorem sX12_fits_37 : dsOk (MN MX12_fits).cls (MB MX12_fits) 37 [(.iload_n 3, 0, 0, 0), (.i2l, 0, 0, 0), (.lconst 0, 0, 0, 0), (.aload_n 0, 0, 0, 0), (.getfield 428, 11, 42, 0), (.iconst 1, 0, 0, 0), (.isub, 0, 0, 0), (.i2l, 0, 0, 0)] 47 = true := by decide +kernel
theorem dX12_fits_47 : decode (MB MX12_fits) 47 = .ok (.invokestatic 178, 3) := by decide +kernel
theorem dX12_fits_50 : decode (MB MX12_fits) 50 = .ok (.ifCond .eq 12, 3) := by decide +kernel
theorem sX12_fits_53 : dsOk (MN MX12_fits).cls (MB MX12_fits) 53 [(.aload_n 0, 0, 0, 0), (.getfield 104, 11, 40, 0), (.iload_n 3, 0, 0, 0), (.laload, 0, 0, 0)] 59 = true := by decide +kernel
theorem dX12_fits_59 : decode (MB MX12_fits) 59 = .ok (.goto 9, 3) := by decide +kernel
theorem sX12_fits_62 : dsOk (MN MX12_fits).cls (MB MX12_fits) 62 [(.aload_n 0, 0, 0, 0), (.iconst 1, 0, 0, 0)] 64 = true := by decide +kernel
theorem dX12_fits_64 : decode (MB MX12_fits) 64 = .ok (.invokevirtual 324, 3) := by decide +kernel
theorem sX12_fits_67 : dsOk (MN MX12_fits).cls (MB MX12_fits) 67 [(.i2l, 0, 0, 0)] 68 = true := by decide +kernel
theorem dX12_fits_68 : decode (MB MX12_fits) 68 = .ok (.lreturn, 1) := by decide +kernel
def MX12_leaf : Ms := (yX12_leaf, cX12_leaf, 4, (some .long), [])
set_option maxRecDepth 100000 in
theorem kX12_leaf : mkV MX12_leaf 2 := ⟨⟨List.mem_of_getElem? (i := 1938) (by rfl), by decide +kernel⟩, by decide +kernel⟩
theorem sX12_leaf_0 : dsOk (MN MX12_leaf).cls (MB MX12_leaf) 0 [(.aload_n 0, 0, 0, 0), (.iconst 0, 0, 0, 0), (.putfield 175, 11, 2, 0), (.lload_n 1, 0, 0, 0)] 6 = true := by decide +kernel
theorem dX12_leaf_6 : decode (MB MX12_leaf) 6 = .ok (.invokestatic 452, 3) := by decide +kernel
theorem dX12_leaf_9 : decode (MB MX12_leaf) 9 = .ok (.ifCond .ne 10, 3) := by decide +kernel
theorem sX12_leaf_12 : dsOk (MN MX12_leaf).cls (MB MX12_leaf) 12 [(.aload_n 0, 0, 0, 0), (.iconst 2, 0, 0, 0)] 14 = true := by decide +kernel
theorem dX12_leaf_14 : decode (MB MX12_leaf) 14 = .ok (.invokevirtual 324, 3) := by decide +kernel
theorem sX12_leaf_17 : dsOk (MN MX12_leaf).cls (MB MX12_leaf) 17 [(.i2l, 0, 0, 0)] 18 = true := by decide +kernel
theorem dX12_leaf_18 : decode (MB MX12_leaf) 18 = .ok (.lreturn, 1) := by decide +kernel
theorem sX12_leaf_19 : dsOk (MN MX12_leaf).cls (MB MX12_leaf) 19 [(.aload_n 0, 0, 0, 0), (.lload_n 1, 0, 0, 0)] 21 = true := by decide +kernel
theorem dX12_leaf_21 : decode (MB MX12_leaf) 21 = .ok (.invokevirtual 456, 3) := by decide +kernel
theorem sX12_leaf_24 : dsOk (MN MX12_leaf).cls (MB MX12_leaf) 24 [(.iload_n 3, 0, 0, 0), (.i2l, 0, 0, 0), (.lconst 0, 0, 0, 0), (.aload_n 0, 0, 0, 0), (.getfield 428, 11, 42, 0), (.iconst 1, 0, 0, 0), (.isub, 0, 0, 0), (.i2l, 0, 0, 0)] 34 = true := by decide +kernel
theorem dX12_leaf_34 : decode (MB MX12_leaf) 34 = .ok (.invokestatic 178, 3) := by decide +kernel
theorem dX12_leaf_37 : decode (MB MX12_leaf) 37 = .ok (.ifCond .eq 12, 3) := by decide +kernel
theorem sX12_leaf_40 : dsOk (MN MX12_leaf).cls (MB MX12_leaf) 40 [(.aload_n 0, 0, 0, 0), (.getfield 108, 11, 41, 0), (.iload_n 3, 0, 0, 0), (.laload, 0, 0, 0)] 46 = true := by decide +kernel
theorem dX12_leaf_46 : decode (MB MX12_leaf) 46 = .ok (.goto 9, 3) := by decide +kernel
theorem sX12_leaf_49 : dsOk (MN MX12_leaf).cls (MB MX12_leaf) 49 [(.aload_n 0, 0, 0, 0), (.iconst 1, 0, 0, 0)] 51 = true := by decide +kernel
theorem dX12_leaf_51 : decode (MB MX12_leaf) 51 = .ok (.invokevirtual 324, 3) := by decide +kernel
theorem sX12_leaf_54 : dsOk (MN MX12_leaf).cls (MB MX12_leaf) 54 [(.i2l, 0, 0, 0)] 55 = true := by decide +kernel
theorem dX12_leaf_55 : decode (MB MX12_leaf) 55 = .ok (.lreturn, 1) := by decide +kernel
def MX12_figuresUpTo : Ms := (yX12_figuresUpTo, cX12_figuresUpTo, 13, (some .long), [])
set_option maxRecDepth 100000 in
theorem kX12_figuresUpTo : mkS MX12_figuresUpTo 2 := ⟨⟨List.mem_of_getElem? (i := 1949) (by rfl), by decide +kernel⟩, by decide +kernel⟩
theorem sX12_figuresUpTo_0 : dsOk (MN MX12_figuresUpTo).cls (MB MX12_figuresUpTo) 0 [(.iload_n 2, 0, 0, 0), (.bipush 10, 0, 0, 10)] 3 = true := by decide +kernel
theorem dX12_figuresUpTo_3 : decode (MB MX12_figuresUpTo) 3 = .ok (.if_icmp .ne 37, 3) := by decide +kernel
theorem sX12_figuresUpTo_6 : dsOk (MN MX12_figuresUpTo).cls (MB MX12_figuresUpTo) 6 [(.lconst 0, 0, 0, 0), (.lstore_n 3, 0, 0, 0), (.lconst 1, 0, 0, 1), (.lstore 5, 0, 0, 0)] 11 = true := by decide +kernel
theorem sX12_figuresUpTo_11 : dsOk (MN MX12_figuresUpTo).cls (MB MX12_figuresUpTo) 11 [(.lload 5, 0, 0, 0), (.lload_n 0, 0, 0, 0), (.lcmp, 0, 0, 0)] 15 = true := by decide +kernel
theorem dX12_figuresUpTo_15 : decode (MB MX12_figuresUpTo) 15 = .ok (.ifCond .gt 23, 3) := by decide +kernel
theorem sX12_figuresUpTo_18 : dsOk (MN MX12_figuresUpTo).cls (MB MX12_figuresUpTo) 18 [(.lload_n 3, 0, 0, 0), (.lload_n 0, 0, 0, 0), (.lload 5, 0, 0, 0), (.lsub, 0, 0, 0), (.lconst 1, 0, 0, 1), (.ladd, 0, 0, 0), (.ladd, 0, 0, 0), (.lstore_n 3, 0, 0, 0), (.lload 5, 0, 0, 0), (.ldc2_w 356, 0, 0, 10), (.lmul, 0, 0, 0), (.lstore 5, 0, 0, 0)] 35 = true := by decide +kernel
theorem dX12_figuresUpTo_35 : decode (MB MX12_figuresUpTo) 35 = .ok (.goto (-24), 3) := by decide +kernel
theorem sX12_figuresUpTo_38 : dsOk (MN MX12_figuresUpTo).cls (MB MX12_figuresUpTo) 38 [(.lload_n 3, 0, 0, 0)] 39 = true := by decide +kernel
theorem dX12_figuresUpTo_39 : decode (MB MX12_figuresUpTo) 39 = .ok (.lreturn, 1) := by decide +kernel
theorem sX12_figuresUpTo_40 : dsOk (MN MX12_figuresUpTo).cls (MB MX12_figuresUpTo) 40 [(.lconst 0, 0, 0, 0), (.lstore_n 3, 0, 0, 0), (.lconst 1, 0, 0, 1), (.lstore 5, 0, 0, 0)] 45 = true := by decide +kernel
theorem sX12_figuresUpTo_45 : dsOk (MN MX12_figuresUpTo).cls (MB MX12_figuresUpTo) 45 [(.lload 5, 0, 0, 0), (.lload_n 0, 0, 0, 0), (.lcmp, 0, 0, 0)] 49 = true := by decide +kernel
theorem dX12_figuresUpTo_49 : decode (MB MX12_figuresUpTo) 49 = .ok (.ifCond .gt 88, 3) := by decide +kernel
theorem sX12_figuresUpTo_52 : dsOk (MN MX12_figuresUpTo).cls (MB MX12_figuresUpTo) 52 [(.lload_n 0, 0, 0, 0), (.ldc2_w 356, 0, 0, 10), (.lload 5, 0, 0, 0), (.lmul, 0, 0, 0), (.ldiv, 0, 0, 0), (.lstore 7, 0, 0, 0), (.lload_n 0, 0, 0, 0), (.lload 5, 0, 0, 0), (.ldiv, 0, 0, 0), (.ldc2_w 356, 0, 0, 10), (.lrem, 0, 0, 0), (.lstore 9, 0, 0, 0), (.lload_n 0, 0, 0, 0), (.lload 5, 0, 0, 0), (.lrem, 0, 0, 0), (.lstore 11, 0, 0, 0), (.iload_n 2, 0, 0, 0)] 79 = true := by decide +kernel
theorem dX12_figuresUpTo_79 : decode (MB MX12_figuresUpTo) 79 = .ok (.ifCond .ne 9, 3) := by decide +kernel
theorem sX12_figuresUpTo_82 : dsOk (MN MX12_figuresUpTo).cls (MB MX12_figuresUpTo) 82 [(.lload 7, 0, 0, 0), (.lconst 1, 0, 0, 1), (.lsub, 0, 0, 0), (.lstore 7, 0, 0, 0)] 88 = true := by decide +kernel
theorem sX12_figuresUpTo_88 : dsOk (MN MX12_figuresUpTo).cls (MB MX12_figuresUpTo) 88 [(.lload_n 3, 0, 0, 0), (.lload 7, 0, 0, 0), (.lload 5, 0, 0, 0), (.lmul, 0, 0, 0), (.lload 9, 0, 0, 0), (.iload_n 2, 0, 0, 0), (.i2l, 0, 0, 0), (.lcmp, 0, 0, 0)] 99 = true := by decide +kernel
theorem dX12_figuresUpTo_99 : decode (MB MX12_figuresUpTo) 99 = .ok (.ifCond .le 8, 3) := by decide +kernel
theorem sX12_figuresUpTo_102 : dsOk (MN MX12_figuresUpTo).cls (MB MX12_figuresUpTo) 102 [(.lload 5, 0, 0, 0)] 104 = true := by decide +kernel
theorem dX12_figuresUpTo_104 : decode (MB MX12_figuresUpTo) 104 = .ok (.goto 19, 3) := by decide +kernel
theorem sX12_figuresUpTo_107 : dsOk (MN MX12_figuresUpTo).cls (MB MX12_figuresUpTo) 107 [(.lload 9, 0, 0, 0), (.iload_n 2, 0, 0, 0), (.i2l, 0, 0, 0), (.lcmp, 0, 0, 0)] 112 = true := by decide +kernel
theorem dX12_figuresUpTo_112 : decode (MB MX12_figuresUpTo) 112 = .ok (.ifCond .ne 10, 3) := by decide +kernel
theorem sX12_figuresUpTo_115 : dsOk (MN MX12_figuresUpTo).cls (MB MX12_figuresUpTo) 115 [(.lload 11, 0, 0, 0), (.lconst 1, 0, 0, 1), (.ladd, 0, 0, 0)] 119 = true := by decide +kernel
theorem dX12_figuresUpTo_119 : decode (MB MX12_figuresUpTo) 119 = .ok (.goto 4, 3) := by decide +kernel
theorem sX12_figuresUpTo_122 : dsOk (MN MX12_figuresUpTo).cls (MB MX12_figuresUpTo) 122 [(.lconst 0, 0, 0, 0)] 123 = true := by decide +kernel
theorem sX12_figuresUpTo_123 : dsOk (MN MX12_figuresUpTo).cls (MB MX12_figuresUpTo) 123 [(.ladd, 0, 0, 0), (.ladd, 0, 0, 0), (.lstore_n 3, 0, 0, 0), (.lload 5, 0, 0, 0), (.ldc2_w 356, 0, 0, 10), (.lmul, 0, 0, 0), (.lstore 5, 0, 0, 0)] 134 = true := by decide +kernel
theorem dX12_figuresUpTo_134 : decode (MB MX12_figuresUpTo) 134 = .ok (.goto (-89), 3) := by decide +kernel
theorem sX12_figuresUpTo_137 : dsOk (MN MX12_figuresUpTo).cls (MB MX12_figuresUpTo) 137 [(.lload_n 3, 0, 0, 0)] 138 = true := by decide +kernel
theorem dX12_figuresUpTo_138 : decode (MB MX12_figuresUpTo) 138 = .ok (.lreturn, 1) := by decide +kernel
def MX12_figuresLeft : Ms := (yX12_figuresLeft, cX12_figuresLeft, 7, (some .long), [])
set_option maxRecDepth 100000 in
theorem kX12_figuresLeft : mkV MX12_figuresLeft 2 := ⟨⟨List.mem_of_getElem? (i := 1946) (by rfl), by decide +kernel⟩, by decide +kernel⟩
theorem sX12_figuresLeft_0 : dsOk (MN MX12_figuresLeft).cls (MB MX12_figuresLeft) 0 [(.ldc2_w 376, 0, 0, 2), (.aload_n 0, 0, 0, 0), (.getfield 108, 11, 41, 0), (.iload_n 1, 0, 0, 0), (.laload, 0, 0, 0), (.lmul, 0, 0, 0), (.lconst 1, 0, 0, 1), (.ladd, 0, 0, 0), (.lstore_n 3, 0, 0, 0), (.lload_n 3, 0, 0, 0), (.aload_n 0, 0, 0, 0), (.getfield 104, 11, 40, 0), (.iload_n 1, 0, 0, 0), (.laload, 0, 0, 0), (.lcmp, 0, 0, 0)] 21 = true := by decide +kernel
theorem dX12_figuresLeft_21 : decode (MB MX12_figuresLeft) 21 = .ok (.ifCond .ge 14, 3) := by decide +kernel
theorem sX12_figuresLeft_24 : dsOk (MN MX12_figuresLeft).cls (MB MX12_figuresLeft) 24 [(.lload_n 3, 0, 0, 0), (.lconst 1, 0, 0, 1), (.ladd, 0, 0, 0), (.iload_n 2, 0, 0, 0)] 28 = true := by decide +kernel
theorem dX12_figuresLeft_28 : decode (MB MX12_figuresLeft) 28 = .ok (.invokestatic 400, 3) := by decide +kernel
theorem sX12_figuresLeft_31 : dsOk (MN MX12_figuresLeft).cls (MB MX12_figuresLeft) 31 [(.i2l, 0, 0, 0)] 32 = true := by decide +kernel
theorem dX12_figuresLeft_32 : decode (MB MX12_figuresLeft) 32 = .ok (.goto 4, 3) := by decide +kernel
theorem sX12_figuresLeft_35 : dsOk (MN MX12_figuresLeft).cls (MB MX12_figuresLeft) 35 [(.lconst 0, 0, 0, 0)] 36 = true := by decide +kernel
theorem sX12_figuresLeft_36 : dsOk (MN MX12_figuresLeft).cls (MB MX12_figuresLeft) 36 [(.lstore 5, 0, 0, 0), (.aload_n 0, 0, 0, 0), (.getfield 104, 11, 40, 0), (.iload_n 1, 0, 0, 0), (.laload, 0, 0, 0), (.iload_n 2, 0, 0, 0)] 45 = true := by decide +kernel
theorem dX12_figuresLeft_45 : decode (MB MX12_figuresLeft) 45 = .ok (.invokestatic 460, 3) := by decide +kernel
theorem sX12_figuresLeft_48 : dsOk (MN MX12_figuresLeft).cls (MB MX12_figuresLeft) 48 [(.lload_n 3, 0, 0, 0), (.iload_n 2, 0, 0, 0)] 50 = true := by decide +kernel
theorem dX12_figuresLeft_50 : decode (MB MX12_figuresLeft) 50 = .ok (.invokestatic 400, 3) := by decide +kernel
theorem sX12_figuresLeft_53 : dsOk (MN MX12_figuresLeft).cls (MB MX12_figuresLeft) 53 [(.i2l, 0, 0, 0), (.lsub, 0, 0, 0), (.lload 5, 0, 0, 0), (.lsub, 0, 0, 0)] 58 = true := by decide +kernel
theorem dX12_figuresLeft_58 : decode (MB MX12_figuresLeft) 58 = .ok (.lreturn, 1) := by decide +kernel
def MX12_saying : Ms := (yX12_saying, cX12_saying, 3, (some .long), [])
set_option maxRecDepth 100000 in
theorem kX12_saying : mkV MX12_saying 2 := ⟨⟨List.mem_of_getElem? (i := 1957) (by rfl), by decide +kernel⟩, by decide +kernel⟩
theorem sX12_saying_0 : dsOk (MN MX12_saying).cls (MB MX12_saying) 0 [(.iload_n 2, 0, 0, 0), (.bipush 10, 0, 0, 10)] 3 = true := by decide +kernel
theorem dX12_saying_3 : decode (MB MX12_saying) 3 = .ok (.if_icmp .le 18, 3) := by decide +kernel
theorem sX12_saying_6 : dsOk (MN MX12_saying).cls (MB MX12_saying) 6 [(.aload_n 0, 0, 0, 0), (.getfield 104, 11, 40, 0), (.iload_n 1, 0, 0, 0), (.laload, 0, 0, 0), (.lconst 1, 0, 0, 1), (.ladd, 0, 0, 0), (.ldc2_w 376, 0, 0, 2), (.ldiv, 0, 0, 0)] 18 = true := by decide +kernel
theorem dX12_saying_18 : decode (MB MX12_saying) 18 = .ok (.goto 9, 3) := by decide +kernel
theorem sX12_saying_21 : dsOk (MN MX12_saying).cls (MB MX12_saying) 21 [(.aload_n 0, 0, 0, 0), (.iload_n 1, 0, 0, 0), (.iload_n 2, 0, 0, 0)] 24 = true := by decide +kernel
theorem dX12_saying_24 : decode (MB MX12_saying) 24 = .ok (.invokevirtual 464, 3) := by decide +kernel
theorem dX12_saying_27 : decode (MB MX12_saying) 27 = .ok (.lreturn, 1) := by decide +kernel
def MX12_said : Ms := (yX12_said, cX12_said, 8, (some .int), [])
set_option maxRecDepth 100000 in
theorem kX12_said : mkV MX12_said 3 := ⟨⟨List.mem_of_getElem? (i := 1942) (by rfl), by decide +kernel⟩, by decide +kernel⟩
theorem sX12_said_0 : dsOk (MN MX12_said).cls (MB MX12_said) 0 [(.aload_n 0, 0, 0, 0), (.iconst 0, 0, 0, 0), (.putfield 175, 11, 2, 0), (.lload_n 1, 0, 0, 0)] 6 = true := by decide +kernel
theorem dX12_said_6 : decode (MB MX12_said) 6 = .ok (.invokestatic 452, 3) := by decide +kernel
theorem dX12_said_9 : decode (MB MX12_said) 9 = .ok (.ifCond .ne 9, 3) := by decide +kernel
theorem sX12_said_12 : dsOk (MN MX12_said).cls (MB MX12_said) 12 [(.aload_n 0, 0, 0, 0), (.iconst 2, 0, 0, 0)] 14 = true := by decide +kernel
theorem dX12_said_14 : decode (MB MX12_said) 14 = .ok (.invokevirtual 324, 3) := by decide +kernel
theorem dX12_said_17 : decode (MB MX12_said) 17 = .ok (.ireturn, 1) := by decide +kernel
theorem sX12_said_18 : dsOk (MN MX12_said).cls (MB MX12_said) 18 [(.iload_n 3, 0, 0, 0), (.i2l, 0, 0, 0), (.lconst 0, 0, 0, 0), (.ldc2_w 356, 0, 0, 10)] 24 = true := by decide +kernel
theorem dX12_said_24 : decode (MB MX12_said) 24 = .ok (.invokestatic 178, 3) := by decide +kernel
theorem dX12_said_27 : decode (MB MX12_said) 27 = .ok (.ifCond .ne 9, 3) := by decide +kernel
theorem sX12_said_30 : dsOk (MN MX12_said).cls (MB MX12_said) 30 [(.aload_n 0, 0, 0, 0), (.iconst 1, 0, 0, 0)] 32 = true := by decide +kernel
theorem dX12_said_32 : decode (MB MX12_said) 32 = .ok (.invokevirtual 324, 3) := by decide +kernel
theorem dX12_said_35 : decode (MB MX12_said) 35 = .ok (.ireturn, 1) := by decide +kernel
theorem sX12_said_36 : dsOk (MN MX12_said).cls (MB MX12_said) 36 [(.aload_n 0, 0, 0, 0), (.lload_n 1, 0, 0, 0)] 38 = true := by decide +kernel
theorem dX12_said_38 : decode (MB MX12_said) 38 = .ok (.invokevirtual 456, 3) := by decide +kernel
theorem sX12_said_41 : dsOk (MN MX12_said).cls (MB MX12_said) 41 [(.iconst 0, 0, 0, 0), (.istore 6, 0, 0, 0), (.iconst 0, 0, 0, 0), (.istore 7, 0, 0, 0)] 47 = true := by decide +kernel
theorem sX12_said_47 : dsOk (MN MX12_said).cls (MB MX12_said) 47 [(.iload 7, 0, 0, 0), (.aload_n 0, 0, 0, 0), (.getfield 428, 11, 42, 0)] 53 = true := by decide +kernel
theorem dX12_said_53 : decode (MB MX12_said) 53 = .ok (.if_icmp .ge 32, 3) := by decide +kernel
theorem sX12_said_56 : dsOk (MN MX12_said).cls (MB MX12_said) 56 [(.iload 6, 0, 0, 0), (.aload_n 0, 0, 0, 0), (.iload 7, 0, 0, 0), (.iload_n 3, 0, 0, 0)] 62 = true := by decide +kernel
theorem dX12_said_62 : decode (MB MX12_said) 62 = .ok (.invokevirtual 464, 3) := by decide +kernel
theorem sX12_said_65 : dsOk (MN MX12_said).cls (MB MX12_said) 65 [(.lload 4, 0, 0, 0), (.lcmp, 0, 0, 0)] 68 = true := by decide +kernel
theorem dX12_said_68 : decode (MB MX12_said) 68 = .ok (.ifCond .ne 7, 3) := by decide +kernel
theorem sX12_said_71 : dsOk (MN MX12_said).cls (MB MX12_said) 71 [(.iconst 1, 0, 0, 0)] 72 = true := by decide +kernel
theorem dX12_said_72 : decode (MB MX12_said) 72 = .ok (.goto 4, 3) := by decide +kernel
theorem sX12_said_75 : dsOk (MN MX12_said).cls (MB MX12_said) 75 [(.iconst 0, 0, 0, 0)] 76 = true := by decide +kernel
theorem sX12_said_76 : dsOk (MN MX12_said).cls (MB MX12_said) 76 [(.iadd, 0, 0, 0), (.istore 6, 0, 0, 0), (.iinc 7 1, 0, 0, 0)] 82 = true := by decide +kernel
theorem dX12_said_82 : decode (MB MX12_said) 82 = .ok (.goto (-35), 3) := by decide +kernel
theorem sX12_said_85 : dsOk (MN MX12_said).cls (MB MX12_said) 85 [(.iload 6, 0, 0, 0)] 87 = true := by decide +kernel
theorem dX12_said_87 : decode (MB MX12_said) 87 = .ok (.ireturn, 1) := by decide +kernel
def MX12_tells : Ms := (yX12_tells, cX12_tells, 7, (some .int), [])
set_option maxRecDepth 100000 in
theorem kX12_tells : mkV MX12_tells 1 := ⟨⟨List.mem_of_getElem? (i := 1953) (by rfl), by decide +kernel⟩, by decide +kernel⟩
theorem sX12_tells_0 : dsOk (MN MX12_tells).cls (MB MX12_tells) 0 [(.aload_n 0, 0, 0, 0), (.iconst 0, 0, 0, 0), (.putfield 175, 11, 2, 0), (.lload_n 1, 0, 0, 0)] 6 = true := by decide +kernel
theorem dX12_tells_6 : decode (MB MX12_tells) 6 = .ok (.invokestatic 452, 3) := by decide +kernel
theorem dX12_tells_9 : decode (MB MX12_tells) 9 = .ok (.ifCond .ne 9, 3) := by decide +kernel
theorem sX12_tells_12 : dsOk (MN MX12_tells).cls (MB MX12_tells) 12 [(.aload_n 0, 0, 0, 0), (.iconst 1, 0, 0, 0)] 14 = true := by decide +kernel
theorem dX12_tells_14 : decode (MB MX12_tells) 14 = .ok (.invokevirtual 324, 3) := by decide +kernel
theorem dX12_tells_17 : decode (MB MX12_tells) 17 = .ok (.ireturn, 1) := by decide +kernel
theorem sX12_tells_18 : dsOk (MN MX12_tells).cls (MB MX12_tells) 18 [(.aload_n 0, 0, 0, 0), (.lload_n 1, 0, 0, 0)] 20 = true := by decide +kernel
theorem dX12_tells_20 : decode (MB MX12_tells) 20 = .ok (.invokevirtual 456, 3) := by decide +kernel
theorem sX12_tells_23 : dsOk (MN MX12_tells).cls (MB MX12_tells) 23 [(.iconst 0, 0, 0, 0), (.istore_n 3, 0, 0, 0)] 25 = true := by decide +kernel
theorem sX12_tells_25 : dsOk (MN MX12_tells).cls (MB MX12_tells) 25 [(.iload_n 3, 0, 0, 0), (.bipush 12, 0, 0, 12)] 28 = true := by decide +kernel
theorem dX12_tells_28 : decode (MB MX12_tells) 28 = .ok (.if_icmp .ge 83, 3) := by decide +kernel
theorem sX12_tells_31 : dsOk (MN MX12_tells).cls (MB MX12_tells) 31 [(.iconst 1, 0, 0, 0), (.istore 4, 0, 0, 0), (.iconst 0, 0, 0, 0), (.istore 5, 0, 0, 0)] 37 = true := by decide +kernel
theorem sX12_tells_37 : dsOk (MN MX12_tells).cls (MB MX12_tells) 37 [(.iload 5, 0, 0, 0), (.aload_n 0, 0, 0, 0), (.getfield 428, 11, 42, 0)] 43 = true := by decide +kernel
theorem dX12_tells_43 : decode (MB MX12_tells) 43 = .ok (.if_icmp .ge 55, 3) := by decide +kernel
theorem sX12_tells_46 : dsOk (MN MX12_tells).cls (MB MX12_tells) 46 [(.iconst 0, 0, 0, 0), (.istore 6, 0, 0, 0)] 49 = true := by decide +kernel
theorem sX12_tells_49 : dsOk (MN MX12_tells).cls (MB MX12_tells) 49 [(.iload 6, 0, 0, 0), (.iload 5, 0, 0, 0)] 53 = true := by decide +kernel
theorem dX12_tells_53 : decode (MB MX12_tells) 53 = .ok (.if_icmp .ge 39, 3) := by decide +kernel
theorem sX12_tells_56 : dsOk (MN MX12_tells).cls (MB MX12_tells) 56 [(.iload 4, 0, 0, 0)] 58 = true := by decide +kernel
theorem dX12_tells_58 : decode (MB MX12_tells) 58 = .ok (.ifCond .eq 25, 3) := by decide +kernel
theorem sX12_tells_61 : dsOk (MN MX12_tells).cls (MB MX12_tells) 61 [(.aload_n 0, 0, 0, 0), (.iload 5, 0, 0, 0), (.iload_n 3, 0, 0, 0)] 65 = true := by decide +kernel
theorem dX12_tells_65 : decode (MB MX12_tells) 65 = .ok (.invokevirtual 467, 3) := by decide +kernel
theorem sX12_tells_68 : dsOk (MN MX12_tells).cls (MB MX12_tells) 68 [(.aload_n 0, 0, 0, 0), (.iload 6, 0, 0, 0), (.iload_n 3, 0, 0, 0)] 72 = true := by decide +kernel
theorem dX12_tells_72 : decode (MB MX12_tells) 72 = .ok (.invokevirtual 467, 3) := by decide +kernel
theorem sX12_tells_75 : dsOk (MN MX12_tells).cls (MB MX12_tells) 75 [(.lcmp, 0, 0, 0)] 76 = true := by decide +kernel
theorem dX12_tells_76 : decode (MB MX12_tells) 76 = .ok (.ifCond .eq 7, 3) := by decide +kernel
theorem sX12_tells_79 : dsOk (MN MX12_tells).cls (MB MX12_tells) 79 [(.iconst 1, 0, 0, 0)] 80 = true := by decide +kernel
theorem dX12_tells_80 : decode (MB MX12_tells) 80 = .ok (.goto 4, 3) := by decide +kernel
theorem sX12_tells_83 : dsOk (MN MX12_tells).cls (MB MX12_tells) 83 [(.iconst 0, 0, 0, 0)] 84 = true := by decide +kernel
theorem sX12_tells_84 : dsOk (MN MX12_tells).cls (MB MX12_tells) 84 [(.istore 4, 0, 0, 0), (.iinc 6 1, 0, 0, 0)] 89 = true := by decide +kernel
theorem dX12_tells_89 : decode (MB MX12_tells) 89 = .ok (.goto (-40), 3) := by decide +kernel
theorem sX12_tells_92 : dsOk (MN MX12_tells).cls (MB MX12_tells) 92 [(.iinc 5 1, 0, 0, 0)] 95 = true := by decide +kernel
theorem dX12_tells_95 : decode (MB MX12_tells) 95 = .ok (.goto (-58), 3) := by decide +kernel
theorem sX12_tells_98 : dsOk (MN MX12_tells).cls (MB MX12_tells) 98 [(.iload 4, 0, 0, 0)] 100 = true := by decide +kernel
theorem dX12_tells_100 : decode (MB MX12_tells) 100 = .ok (.ifCond .eq 5, 3) := by decide +kernel
theorem sX12_tells_103 : dsOk (MN MX12_tells).cls (MB MX12_tells) 103 [(.iload_n 3, 0, 0, 0)] 104 = true := by decide +kernel
theorem dX12_tells_104 : decode (MB MX12_tells) 104 = .ok (.ireturn, 1) := by decide +kernel
theorem sX12_tells_105 : dsOk (MN MX12_tells).cls (MB MX12_tells) 105 [(.iinc 3 1, 0, 0, 0)] 108 = true := by decide +kernel
theorem dX12_tells_108 : decode (MB MX12_tells) 108 = .ok (.goto (-83), 3) := by decide +kernel
theorem sX12_tells_111 : dsOk (MN MX12_tells).cls (MB MX12_tells) 111 [(.iconst (-1), 0, 0, 0)] 112 = true := by decide +kernel
theorem dX12_tells_112 : decode (MB MX12_tells) 112 = .ok (.ireturn, 1) := by decide +kernel
def MX12_outBy : Ms := (yX12_outBy, cX12_outBy, 8, (some .long), [])
set_option maxRecDepth 100000 in
theorem kX12_outBy : mkS MX12_outBy 3 := ⟨⟨List.mem_of_getElem? (i := 1968) (by rfl), by decide +kernel⟩, by decide +kernel⟩
theorem sX12_outBy_0 : dsOk (MN MX12_outBy).cls (MB MX12_outBy) 0 [(.lload 4, 0, 0, 0), (.ldc2_w 376, 0, 0, 2), (.lload 4, 0, 0, 0), (.lmul, 0, 0, 0), (.lconst 1, 0, 0, 1), (.ladd, 0, 0, 0), (.lmul, 0, 0, 0), (.lload_n 0, 0, 0, 0), (.lsub, 0, 0, 0), (.ldc2_w 437, 0, 0, 3), (.lload_n 2, 0, 0, 0), (.lmul, 0, 0, 0), (.lsub, 0, 0, 0), (.lstore 6, 0, 0, 0), (.lload 6, 0, 0, 0), (.lconst 0, 0, 0, 0), (.lcmp, 0, 0, 0)] 25 = true := by decide +kernel
theorem dX12_outBy_25 : decode (MB MX12_outBy) 25 = .ok (.ifCond .lt 14, 3) := by decide +kernel
theorem sX12_outBy_28 : dsOk (MN MX12_outBy).cls (MB MX12_outBy) 28 [(.lload 6, 0, 0, 0), (.ldc2_w 435, 0, 0, 4), (.lrem, 0, 0, 0), (.lconst 0, 0, 0, 0), (.lcmp, 0, 0, 0)] 36 = true := by decide +kernel
theorem dX12_outBy_36 : decode (MB MX12_outBy) 36 = .ok (.ifCond .eq 9, 3) := by decide +kernel
theorem sX12_outBy_39 : dsOk (MN MX12_outBy).cls (MB MX12_outBy) 39 [(.ldc2_w 358, 0, 0, -1)] 42 = true := by decide +kernel
theorem dX12_outBy_42 : decode (MB MX12_outBy) 42 = .ok (.goto 9, 3) := by decide +kernel
theorem sX12_outBy_45 : dsOk (MN MX12_outBy).cls (MB MX12_outBy) 45 [(.lload 6, 0, 0, 0), (.ldc2_w 435, 0, 0, 4), (.ldiv, 0, 0, 0)] 51 = true := by decide +kernel
theorem dX12_outBy_51 : decode (MB MX12_outBy) 51 = .ok (.lreturn, 1) := by decide +kernel
def MX12_leastOf : Ms := (yX12_leastOf, cX12_leastOf, 2, (some .long), [])
set_option maxRecDepth 100000 in
theorem kX12_leastOf : mkS MX12_leastOf 1 := ⟨⟨List.mem_of_getElem? (i := 1971) (by rfl), by decide +kernel⟩, by decide +kernel⟩
theorem sX12_leastOf_0 : dsOk (MN MX12_leastOf).cls (MB MX12_leastOf) 0 [(.lload_n 0, 0, 0, 0), (.lload_n 0, 0, 0, 0), (.lconst 1, 0, 0, 1), (.lsub, 0, 0, 0), (.lmul, 0, 0, 0), (.ldc2_w 376, 0, 0, 2), (.ldiv, 0, 0, 0)] 9 = true := by decide +kernel
theorem dX12_leastOf_9 : decode (MB MX12_leastOf) 9 = .ok (.lreturn, 1) := by decide +kernel
def MX12_greatestOf : Ms := (yX12_greatestOf, cX12_greatestOf, 4, (some .long), [])
set_option maxRecDepth 100000 in
theorem kX12_greatestOf : mkS MX12_greatestOf 2 := ⟨⟨List.mem_of_getElem? (i := 1965) (by rfl), by decide +kernel⟩, by decide +kernel⟩
theorem sX12_greatestOf_0 : dsOk (MN MX12_greatestOf).cls (MB MX12_greatestOf) 0 [(.lload_n 0, 0, 0, 0), (.lload_n 2, 0, 0, 0), (.lmul, 0, 0, 0), (.lload_n 0, 0, 0, 0), (.lload_n 0, 0, 0, 0), (.lconst 1, 0, 0, 1), (.ladd, 0, 0, 0), (.lmul, 0, 0, 0), (.ldc2_w 376, 0, 0, 2), (.ldiv, 0, 0, 0), (.lsub, 0, 0, 0)] 13 = true := by decide +kernel
theorem dX12_greatestOf_13 : decode (MB MX12_greatestOf) 13 = .ok (.lreturn, 1) := by decide +kernel
def MX12_several : Ms := (yX12_several, cX12_several, 10, (some .long), [])
set_option maxRecDepth 100000 in
theorem kX12_several : mkV MX12_several 3 := ⟨⟨List.mem_of_getElem? (i := 1961) (by rfl), by decide +kernel⟩, by decide +kernel⟩
theorem sX12_several_0 : dsOk (MN MX12_several).cls (MB MX12_several) 0 [(.aload_n 0, 0, 0, 0), (.iconst 0, 0, 0, 0), (.putfield 175, 11, 2, 0), (.lload_n 1, 0, 0, 0)] 6 = true := by decide +kernel
theorem dX12_several_6 : decode (MB MX12_several) 6 = .ok (.invokestatic 452, 3) := by decide +kernel
theorem dX12_several_9 : decode (MB MX12_several) 9 = .ok (.ifCond .eq 15, 3) := by decide +kernel
theorem sX12_several_12 : dsOk (MN MX12_several).cls (MB MX12_several) 12 [(.iload_n 3, 0, 0, 0), (.i2l, 0, 0, 0), (.lconst 1, 0, 0, 1), (.ldc2_w 470, 0, 0, 60)] 18 = true := by decide +kernel
theorem dX12_several_18 : decode (MB MX12_several) 18 = .ok (.invokestatic 178, 3) := by decide +kernel
theorem dX12_several_21 : decode (MB MX12_several) 21 = .ok (.ifCond .ne 10, 3) := by decide +kernel
theorem sX12_several_24 : dsOk (MN MX12_several).cls (MB MX12_several) 24 [(.aload_n 0, 0, 0, 0), (.iconst 2, 0, 0, 0)] 26 = true := by decide +kernel
theorem dX12_several_26 : decode (MB MX12_several) 26 = .ok (.invokevirtual 324, 3) := by decide +kernel
theorem sX12_several_29 : dsOk (MN MX12_several).cls (MB MX12_several) 29 [(.i2l, 0, 0, 0)] 30 = true := by decide +kernel
theorem dX12_several_30 : decode (MB MX12_several) 30 = .ok (.lreturn, 1) := by decide +kernel
theorem sX12_several_31 : dsOk (MN MX12_several).cls (MB MX12_several) 31 [(.iload_n 3, 0, 0, 0), (.i2l, 0, 0, 0), (.lload_n 1, 0, 0, 0), (.ldc2_w 376, 0, 0, 2), (.ldiv, 0, 0, 0)] 38 = true := by decide +kernel
theorem dX12_several_38 : decode (MB MX12_several) 38 = .ok (.invokestatic 443, 3) := by decide +kernel
theorem sX12_several_41 : dsOk (MN MX12_several).cls (MB MX12_several) 41 [(.ldc2_w 376, 0, 0, 2), (.lsub, 0, 0, 0)] 45 = true := by decide +kernel
theorem dX12_several_45 : decode (MB MX12_several) 45 = .ok (.invokestatic 446, 3) := by decide +kernel
theorem sX12_several_48 : dsOk (MN MX12_several).cls (MB MX12_several) 48 [(.lstore 5, 0, 0, 0), (.iconst 0, 0, 0, 0), (.istore 7, 0, 0, 0)] 53 = true := by decide +kernel
theorem sX12_several_53 : dsOk (MN MX12_several).cls (MB MX12_several) 53 [(.lload 5, 0, 0, 0), (.ldc2_w 376, 0, 0, 2), (.lload 5, 0, 0, 0), (.lmul, 0, 0, 0), (.lconst 1, 0, 0, 1), (.ladd, 0, 0, 0), (.lmul, 0, 0, 0), (.ldc2_w 437, 0, 0, 3), (.iload_n 3, 0, 0, 0), (.i2l, 0, 0, 0), (.lmul, 0, 0, 0), (.lsub, 0, 0, 0), (.ldc2_w 435, 0, 0, 4), (.iload_n 3, 0, 0, 0), (.i2l, 0, 0, 0), (.lload 5, 0, 0, 0)] 78 = true := by decide +kernel
theorem dX12_several_78 : decode (MB MX12_several) 78 = .ok (.invokestatic 472, 3) := by decide +kernel
theorem sX12_several_81 : dsOk (MN MX12_several).cls (MB MX12_several) 81 [(.lmul, 0, 0, 0), (.lsub, 0, 0, 0), (.lload_n 1, 0, 0, 0), (.lcmp, 0, 0, 0)] 85 = true := by decide +kernel
theorem dX12_several_85 : decode (MB MX12_several) 85 = .ok (.ifCond .gt 64, 3) := by decide +kernel
theorem sX12_several_88 : dsOk (MN MX12_several).cls (MB MX12_several) 88 [(.lload_n 1, 0, 0, 0), (.iload_n 3, 0, 0, 0), (.i2l, 0, 0, 0), (.lload 5, 0, 0, 0)] 93 = true := by decide +kernel
theorem dX12_several_93 : decode (MB MX12_several) 93 = .ok (.invokestatic 475, 3) := by decide +kernel
theorem sX12_several_96 : dsOk (MN MX12_several).cls (MB MX12_several) 96 [(.lstore 8, 0, 0, 0), (.lload 8, 0, 0, 0), (.ldc2_w 358, 0, 0, -1), (.lcmp, 0, 0, 0)] 104 = true := by decide +kernel
theorem dX12_several_104 : decode (MB MX12_several) 104 = .ok (.ifCond .eq 36, 3) := by decide +kernel
theorem sX12_several_107 : dsOk (MN MX12_several).cls (MB MX12_several) 107 [(.lload 8, 0, 0, 0), (.iload_n 3, 0, 0, 0), (.i2l, 0, 0, 0)] 111 = true := by decide +kernel
theorem dX12_several_111 : decode (MB MX12_several) 111 = .ok (.invokestatic 479, 3) := by decide +kernel
theorem sX12_several_114 : dsOk (MN MX12_several).cls (MB MX12_several) 114 [(.iload_n 3, 0, 0, 0), (.i2l, 0, 0, 0), (.lload 5, 0, 0, 0)] 118 = true := by decide +kernel
theorem dX12_several_118 : decode (MB MX12_several) 118 = .ok (.invokestatic 472, 3) := by decide +kernel
theorem dX12_several_121 : decode (MB MX12_several) 121 = .ok (.invokestatic 178, 3) := by decide +kernel
theorem dX12_several_124 : decode (MB MX12_several) 124 = .ok (.ifCond .eq 16, 3) := by decide +kernel
theorem sX12_several_127 : dsOk (MN MX12_several).cls (MB MX12_several) 127 [(.iload 7, 0, 0, 0), (.iload 4, 0, 0, 0)] 131 = true := by decide +kernel
theorem dX12_several_131 : decode (MB MX12_several) 131 = .ok (.if_icmp .ne 6, 3) := by decide +kernel
theorem sX12_several_134 : dsOk (MN MX12_several).cls (MB MX12_several) 134 [(.lload 5, 0, 0, 0)] 136 = true := by decide +kernel
theorem dX12_several_136 : decode (MB MX12_several) 136 = .ok (.lreturn, 1) := by decide +kernel
theorem sX12_several_137 : dsOk (MN MX12_several).cls (MB MX12_several) 137 [(.iinc 7 1, 0, 0, 0)] 140 = true := by decide +kernel
theorem sX12_several_140 : dsOk (MN MX12_several).cls (MB MX12_several) 140 [(.lload 5, 0, 0, 0), (.lconst 1, 0, 0, 1), (.ladd, 0, 0, 0), (.lstore 5, 0, 0, 0)] 146 = true := by decide +kernel
theorem dX12_several_146 : decode (MB MX12_several) 146 = .ok (.goto (-93), 3) := by decide +kernel
theorem sX12_several_149 : dsOk (MN MX12_several).cls (MB MX12_several) 149 [(.iload 4, 0, 0, 0), (.iconst (-1), 0, 0, 0)] 152 = true := by decide +kernel
theorem dX12_several_152 : decode (MB MX12_several) 152 = .ok (.if_icmp .ne 9, 3) := by decide +kernel
theorem sX12_several_155 : dsOk (MN MX12_several).cls (MB MX12_several) 155 [(.iload 7, 0, 0, 0), (.i2l, 0, 0, 0)] 158 = true := by decide +kernel
theorem dX12_several_158 : decode (MB MX12_several) 158 = .ok (.goto 9, 3) := by decide +kernel
theorem sX12_several_161 : dsOk (MN MX12_several).cls (MB MX12_several) 161 [(.aload_n 0, 0, 0, 0), (.iconst 1, 0, 0, 0)] 163 = true := by decide +kernel
theorem dX12_several_163 : decode (MB MX12_several) 163 = .ok (.invokevirtual 324, 3) := by decide +kernel
theorem sX12_several_166 : dsOk (MN MX12_several).cls (MB MX12_several) 166 [(.i2l, 0, 0, 0)] 167 = true := by decide +kernel
theorem dX12_several_167 : decode (MB MX12_several) 167 = .ok (.lreturn, 1) := by decide +kernel
def MX12_waysBy : Ms := (yX12_waysBy, cX12_waysBy, 10, (some .long), [])
set_option maxRecDepth 100000 in
theorem kX12_waysBy : mkV MX12_waysBy 4 := ⟨⟨List.mem_of_getElem? (i := 1979) (by rfl), by decide +kernel⟩, by decide +kernel⟩
theorem sX12_waysBy_0 : dsOk (MN MX12_waysBy).cls (MB MX12_waysBy) 0 [(.iload_n 3, 0, 0, 0)] 1 = true := by decide +kernel
theorem dX12_waysBy_1 : decode (MB MX12_waysBy) 1 = .ok (.ifCond .lt 19, 3) := by decide +kernel
theorem sX12_waysBy_4 : dsOk (MN MX12_waysBy).cls (MB MX12_waysBy) 4 [(.lload 4, 0, 0, 0), (.lconst 0, 0, 0, 0), (.lcmp, 0, 0, 0)] 8 = true := by decide +kernel
theorem dX12_waysBy_8 : decode (MB MX12_waysBy) 8 = .ok (.ifCond .lt 12, 3) := by decide +kernel
theorem sX12_waysBy_11 : dsOk (MN MX12_waysBy).cls (MB MX12_waysBy) 11 [(.lload 4, 0, 0, 0), (.ldc2_w 482, 0, 0, 1799), (.lcmp, 0, 0, 0)] 17 = true := by decide +kernel
theorem dX12_waysBy_17 : decode (MB MX12_waysBy) 17 = .ok (.ifCond .le 5, 3) := by decide +kernel
theorem sX12_waysBy_20 : dsOk (MN MX12_waysBy).cls (MB MX12_waysBy) 20 [(.lconst 0, 0, 0, 0)] 21 = true := by decide +kernel
theorem dX12_waysBy_21 : decode (MB MX12_waysBy) 21 = .ok (.lreturn, 1) := by decide +kernel
theorem sX12_waysBy_22 : dsOk (MN MX12_waysBy).cls (MB MX12_waysBy) 22 [(.lload 4, 0, 0, 0), (.l2i, 0, 0, 0), (.istore 6, 0, 0, 0), (.iconst 0, 0, 0, 0), (.istore 7, 0, 0, 0)] 30 = true := by decide +kernel
theorem sX12_waysBy_30 : dsOk (MN MX12_waysBy).cls (MB MX12_waysBy) 30 [(.iload 7, 0, 0, 0), (.iload_n 3, 0, 0, 0)] 33 = true := by decide +kernel
theorem dX12_waysBy_33 : decode (MB MX12_waysBy) 33 = .ok (.if_icmp .gt 54, 3) := by decide +kernel
theorem sX12_waysBy_36 : dsOk (MN MX12_waysBy).cls (MB MX12_waysBy) 36 [(.iconst 0, 0, 0, 0), (.istore 8, 0, 0, 0)] 39 = true := by decide +kernel
theorem sX12_waysBy_39 : dsOk (MN MX12_waysBy).cls (MB MX12_waysBy) 39 [(.iload 8, 0, 0, 0), (.iload 6, 0, 0, 0)] 43 = true := by decide +kernel
theorem dX12_waysBy_43 : decode (MB MX12_waysBy) 43 = .ok (.if_icmp .gt 38, 3) := by decide +kernel
theorem sX12_waysBy_46 : dsOk (MN MX12_waysBy).cls (MB MX12_waysBy) 46 [(.aload_n 0, 0, 0, 0), (.getfield 112, 11, 43, 0), (.sipush 1800, 0, 0, 1800), (.iload 7, 0, 0, 0), (.imul, 0, 0, 0), (.iload 8, 0, 0, 0), (.iadd, 0, 0, 0), (.iload 7, 0, 0, 0)] 61 = true := by decide +kernel
theorem dX12_waysBy_61 : decode (MB MX12_waysBy) 61 = .ok (.ifCond .ne 12, 3) := by decide +kernel
theorem sX12_waysBy_64 : dsOk (MN MX12_waysBy).cls (MB MX12_waysBy) 64 [(.iload 8, 0, 0, 0)] 66 = true := by decide +kernel
theorem dX12_waysBy_66 : decode (MB MX12_waysBy) 66 = .ok (.ifCond .ne 7, 3) := by decide +kernel
theorem sX12_waysBy_69 : dsOk (MN MX12_waysBy).cls (MB MX12_waysBy) 69 [(.lconst 1, 0, 0, 1)] 70 = true := by decide +kernel
theorem dX12_waysBy_70 : decode (MB MX12_waysBy) 70 = .ok (.goto 4, 3) := by decide +kernel
theorem sX12_waysBy_73 : dsOk (MN MX12_waysBy).cls (MB MX12_waysBy) 73 [(.lconst 0, 0, 0, 0)] 74 = true := by decide +kernel
theorem sX12_waysBy_74 : dsOk (MN MX12_waysBy).cls (MB MX12_waysBy) 74 [(.lastore, 0, 0, 0), (.iinc 8 1, 0, 0, 0)] 78 = true := by decide +kernel
theorem dX12_waysBy_78 : decode (MB MX12_waysBy) 78 = .ok (.goto (-39), 3) := by decide +kernel
theorem sX12_waysBy_81 : dsOk (MN MX12_waysBy).cls (MB MX12_waysBy) 81 [(.iinc 7 1, 0, 0, 0)] 84 = true := by decide +kernel
theorem dX12_waysBy_84 : decode (MB MX12_waysBy) 84 = .ok (.goto (-54), 3) := by decide +kernel
theorem sX12_waysBy_87 : dsOk (MN MX12_waysBy).cls (MB MX12_waysBy) 87 [(.iload_n 1, 0, 0, 0), (.istore 7, 0, 0, 0)] 90 = true := by decide +kernel
theorem sX12_waysBy_90 : dsOk (MN MX12_waysBy).cls (MB MX12_waysBy) 90 [(.iload 7, 0, 0, 0), (.iload_n 2, 0, 0, 0)] 93 = true := by decide +kernel
theorem dX12_waysBy_93 : decode (MB MX12_waysBy) 93 = .ok (.if_icmp .ge 76, 3) := by decide +kernel
theorem sX12_waysBy_96 : dsOk (MN MX12_waysBy).cls (MB MX12_waysBy) 96 [(.iload_n 3, 0, 0, 0), (.istore 8, 0, 0, 0)] 99 = true := by decide +kernel
theorem sX12_waysBy_99 : dsOk (MN MX12_waysBy).cls (MB MX12_waysBy) 99 [(.iload 8, 0, 0, 0)] 101 = true := by decide +kernel
theorem dX12_waysBy_101 : decode (MB MX12_waysBy) 101 = .ok (.ifCond .le 62, 3) := by decide +kernel
theorem sX12_waysBy_104 : dsOk (MN MX12_waysBy).cls (MB MX12_waysBy) 104 [(.iload 6, 0, 0, 0), (.istore 9, 0, 0, 0)] 108 = true := by decide +kernel
theorem sX12_waysBy_108 : dsOk (MN MX12_waysBy).cls (MB MX12_waysBy) 108 [(.iload 9, 0, 0, 0), (.iload 7, 0, 0, 0)] 112 = true := by decide +kernel
theorem dX12_waysBy_112 : decode (MB MX12_waysBy) 112 = .ok (.if_icmp .lt 45, 3) := by decide +kernel
theorem sX12_waysBy_115 : dsOk (MN MX12_waysBy).cls (MB MX12_waysBy) 115 [(.aload_n 0, 0, 0, 0), (.getfield 112, 11, 43, 0), (.sipush 1800, 0, 0, 1800), (.iload 8, 0, 0, 0), (.imul, 0, 0, 0), (.iload 9, 0, 0, 0), (.iadd, 0, 0, 0), (.dup2, 0, 0, 0), (.laload, 0, 0, 0), (.aload_n 0, 0, 0, 0), (.getfield 112, 11, 43, 0), (.sipush 1800, 0, 0, 1800), (.iload 8, 0, 0, 0), (.iconst 1, 0, 0, 0), (.isub, 0, 0, 0), (.imul, 0, 0, 0), (.iload 9, 0, 0, 0), (.iadd, 0, 0, 0), (.iload 7, 0, 0, 0), (.isub, 0, 0, 0), (.laload, 0, 0, 0), (.ladd, 0, 0, 0), (.lastore, 0, 0, 0), (.iinc 9 (-1), 0, 0, 0)] 154 = true := by decide +kernel
theorem dX12_waysBy_154 : decode (MB MX12_waysBy) 154 = .ok (.goto (-46), 3) := by decide +kernel
theorem sX12_waysBy_157 : dsOk (MN MX12_waysBy).cls (MB MX12_waysBy) 157 [(.iinc 8 (-1), 0, 0, 0)] 160 = true := by decide +kernel
theorem dX12_waysBy_160 : decode (MB MX12_waysBy) 160 = .ok (.goto (-61), 3) := by decide +kernel
theorem sX12_waysBy_163 : dsOk (MN MX12_waysBy).cls (MB MX12_waysBy) 163 [(.iinc 7 1, 0, 0, 0)] 166 = true := by decide +kernel
theorem dX12_waysBy_166 : decode (MB MX12_waysBy) 166 = .ok (.goto (-76), 3) := by decide +kernel
theorem sX12_waysBy_169 : dsOk (MN MX12_waysBy).cls (MB MX12_waysBy) 169 [(.aload_n 0, 0, 0, 0), (.getfield 112, 11, 43, 0), (.sipush 1800, 0, 0, 1800), (.iload_n 3, 0, 0, 0), (.imul, 0, 0, 0), (.iload 6, 0, 0, 0), (.iadd, 0, 0, 0), (.laload, 0, 0, 0)] 182 = true := by decide +kernel
theorem dX12_waysBy_182 : decode (MB MX12_waysBy) 182 = .ok (.lreturn, 1) := by decide +kernel
def MX12_ways : Ms := (yX12_ways, cX12_ways, 7, (some .long), [])
set_option maxRecDepth 100000 in
theorem kX12_ways : mkV MX12_ways 3 := ⟨⟨List.mem_of_getElem? (i := 1975) (by rfl), by decide +kernel⟩, by decide +kernel⟩
theorem sX12_ways_0 : dsOk (MN MX12_ways).cls (MB MX12_ways) 0 [(.aload_n 0, 0, 0, 0), (.iconst 0, 0, 0, 0), (.putfield 175, 11, 2, 0), (.lload_n 1, 0, 0, 0)] 6 = true := by decide +kernel
theorem dX12_ways_6 : decode (MB MX12_ways) 6 = .ok (.invokestatic 452, 3) := by decide +kernel
theorem dX12_ways_9 : decode (MB MX12_ways) 9 = .ok (.ifCond .eq 28, 3) := by decide +kernel
theorem sX12_ways_12 : dsOk (MN MX12_ways).cls (MB MX12_ways) 12 [(.iload_n 3, 0, 0, 0), (.i2l, 0, 0, 0), (.lconst 1, 0, 0, 1), (.ldc2_w 470, 0, 0, 60)] 18 = true := by decide +kernel
theorem dX12_ways_18 : decode (MB MX12_ways) 18 = .ok (.invokestatic 178, 3) := by decide +kernel
theorem dX12_ways_21 : decode (MB MX12_ways) 21 = .ok (.ifCond .eq 16, 3) := by decide +kernel
theorem sX12_ways_24 : dsOk (MN MX12_ways).cls (MB MX12_ways) 24 [(.iload 4, 0, 0, 0), (.i2l, 0, 0, 0), (.lconst 1, 0, 0, 1), (.ldc2_w 470, 0, 0, 60)] 31 = true := by decide +kernel
theorem dX12_ways_31 : decode (MB MX12_ways) 31 = .ok (.invokestatic 178, 3) := by decide +kernel
theorem dX12_ways_34 : decode (MB MX12_ways) 34 = .ok (.ifCond .ne 10, 3) := by decide +kernel
theorem sX12_ways_37 : dsOk (MN MX12_ways).cls (MB MX12_ways) 37 [(.aload_n 0, 0, 0, 0), (.iconst 1, 0, 0, 0)] 39 = true := by decide +kernel
theorem dX12_ways_39 : decode (MB MX12_ways) 39 = .ok (.invokevirtual 324, 3) := by decide +kernel
theorem sX12_ways_42 : dsOk (MN MX12_ways).cls (MB MX12_ways) 42 [(.i2l, 0, 0, 0)] 43 = true := by decide +kernel
theorem dX12_ways_43 : decode (MB MX12_ways) 43 = .ok (.lreturn, 1) := by decide +kernel
theorem sX12_ways_44 : dsOk (MN MX12_ways).cls (MB MX12_ways) 44 [(.lload_n 1, 0, 0, 0), (.iload_n 3, 0, 0, 0), (.i2l, 0, 0, 0), (.iload 4, 0, 0, 0), (.i2l, 0, 0, 0)] 50 = true := by decide +kernel
theorem dX12_ways_50 : decode (MB MX12_ways) 50 = .ok (.invokestatic 475, 3) := by decide +kernel
theorem sX12_ways_53 : dsOk (MN MX12_ways).cls (MB MX12_ways) 53 [(.lstore 5, 0, 0, 0), (.iload_n 3, 0, 0, 0), (.iload 4, 0, 0, 0)] 58 = true := by decide +kernel
theorem dX12_ways_58 : decode (MB MX12_ways) 58 = .ok (.if_icmp .gt 12, 3) := by decide +kernel
theorem sX12_ways_61 : dsOk (MN MX12_ways).cls (MB MX12_ways) 61 [(.lload 5, 0, 0, 0), (.ldc2_w 358, 0, 0, -1), (.lcmp, 0, 0, 0)] 67 = true := by decide +kernel
theorem dX12_ways_67 : decode (MB MX12_ways) 67 = .ok (.ifCond .ne 5, 3) := by decide +kernel
theorem sX12_ways_70 : dsOk (MN MX12_ways).cls (MB MX12_ways) 70 [(.lconst 0, 0, 0, 0)] 71 = true := by decide +kernel
theorem dX12_ways_71 : decode (MB MX12_ways) 71 = .ok (.lreturn, 1) := by decide +kernel
theorem sX12_ways_72 : dsOk (MN MX12_ways).cls (MB MX12_ways) 72 [(.iconst 2, 0, 0, 0), (.iload_n 3, 0, 0, 0), (.imul, 0, 0, 0), (.iload 4, 0, 0, 0)] 77 = true := by decide +kernel
theorem dX12_ways_77 : decode (MB MX12_ways) 77 = .ok (.if_icmp .le 33, 3) := by decide +kernel
theorem sX12_ways_80 : dsOk (MN MX12_ways).cls (MB MX12_ways) 80 [(.aload_n 0, 0, 0, 0), (.iconst 0, 0, 0, 0), (.iload 4, 0, 0, 0), (.iload 4, 0, 0, 0), (.iload_n 3, 0, 0, 0), (.isub, 0, 0, 0), (.iload 4, 0, 0, 0), (.i2l, 0, 0, 0), (.iload 4, 0, 0, 0), (.i2l, 0, 0, 0), (.lconst 1, 0, 0, 1), (.lsub, 0, 0, 0), (.lmul, 0, 0, 0), (.ldc2_w 376, 0, 0, 2), (.ldiv, 0, 0, 0), (.lload 5, 0, 0, 0), (.lsub, 0, 0, 0)] 104 = true := by decide +kernel
theorem dX12_ways_104 : decode (MB MX12_ways) 104 = .ok (.invokevirtual 484, 3) := by decide +kernel
theorem dX12_ways_107 : decode (MB MX12_ways) 107 = .ok (.goto 13, 3) := by decide +kernel
theorem sX12_ways_110 : dsOk (MN MX12_ways).cls (MB MX12_ways) 110 [(.aload_n 0, 0, 0, 0), (.iconst 0, 0, 0, 0), (.iload 4, 0, 0, 0), (.iload_n 3, 0, 0, 0), (.lload 5, 0, 0, 0)] 117 = true := by decide +kernel
theorem dX12_ways_117 : decode (MB MX12_ways) 117 = .ok (.invokevirtual 484, 3) := by decide +kernel
theorem dX12_ways_120 : decode (MB MX12_ways) 120 = .ok (.lreturn, 1) := by decide +kernel
def MX12_way : Ms := (yX12_way, cX12_way, 17, (some .long), [])
set_option maxRecDepth 100000 in
theorem kX12_way : mkV MX12_way 4 := ⟨⟨List.mem_of_getElem? (i := 1984) (by rfl), by decide +kernel⟩, by decide +kernel⟩
theorem sX12_way_0 : dsOk (MN MX12_way).cls (MB MX12_way) 0 [(.aload_n 0, 0, 0, 0), (.iconst 0, 0, 0, 0), (.putfield 175, 11, 2, 0), (.lload_n 1, 0, 0, 0)] 6 = true := by decide +kernel
theorem dX12_way_6 : decode (MB MX12_way) 6 = .ok (.invokestatic 452, 3) := by decide +kernel
theorem dX12_way_9 : decode (MB MX12_way) 9 = .ok (.ifCond .eq 28, 3) := by decide +kernel
theorem sX12_way_12 : dsOk (MN MX12_way).cls (MB MX12_way) 12 [(.iload_n 3, 0, 0, 0), (.i2l, 0, 0, 0), (.lconst 1, 0, 0, 1), (.ldc2_w 470, 0, 0, 60)] 18 = true := by decide +kernel
theorem dX12_way_18 : decode (MB MX12_way) 18 = .ok (.invokestatic 178, 3) := by decide +kernel
theorem dX12_way_21 : decode (MB MX12_way) 21 = .ok (.ifCond .eq 16, 3) := by decide +kernel
theorem sX12_way_24 : dsOk (MN MX12_way).cls (MB MX12_way) 24 [(.iload 4, 0, 0, 0), (.i2l, 0, 0, 0), (.lconst 1, 0, 0, 1), (.ldc2_w 488, 0, 0, 30)] 31 = true := by decide +kernel
theorem dX12_way_31 : decode (MB MX12_way) 31 = .ok (.invokestatic 178, 3) := by decide +kernel
theorem dX12_way_34 : decode (MB MX12_way) 34 = .ok (.ifCond .ne 10, 3) := by decide +kernel
theorem sX12_way_37 : dsOk (MN MX12_way).cls (MB MX12_way) 37 [(.aload_n 0, 0, 0, 0), (.iconst 2, 0, 0, 0)] 39 = true := by decide +kernel
theorem dX12_way_39 : decode (MB MX12_way) 39 = .ok (.invokevirtual 324, 3) := by decide +kernel
theorem sX12_way_42 : dsOk (MN MX12_way).cls (MB MX12_way) 42 [(.i2l, 0, 0, 0)] 43 = true := by decide +kernel
theorem dX12_way_43 : decode (MB MX12_way) 43 = .ok (.lreturn, 1) := by decide +kernel
theorem sX12_way_44 : dsOk (MN MX12_way).cls (MB MX12_way) 44 [(.lload_n 1, 0, 0, 0), (.iload_n 3, 0, 0, 0), (.i2l, 0, 0, 0), (.iload 4, 0, 0, 0), (.i2l, 0, 0, 0)] 50 = true := by decide +kernel
theorem dX12_way_50 : decode (MB MX12_way) 50 = .ok (.invokestatic 475, 3) := by decide +kernel
theorem sX12_way_53 : dsOk (MN MX12_way).cls (MB MX12_way) 53 [(.lstore 7, 0, 0, 0), (.iload_n 3, 0, 0, 0), (.iload 4, 0, 0, 0)] 58 = true := by decide +kernel
theorem dX12_way_58 : decode (MB MX12_way) 58 = .ok (.if_icmp .gt 35, 3) := by decide +kernel
theorem sX12_way_61 : dsOk (MN MX12_way).cls (MB MX12_way) 61 [(.lload 7, 0, 0, 0), (.ldc2_w 358, 0, 0, -1), (.lcmp, 0, 0, 0)] 67 = true := by decide +kernel
theorem dX12_way_67 : decode (MB MX12_way) 67 = .ok (.ifCond .eq 26, 3) := by decide +kernel
theorem sX12_way_70 : dsOk (MN MX12_way).cls (MB MX12_way) 70 [(.lload 5, 0, 0, 0), (.lconst 0, 0, 0, 0), (.lcmp, 0, 0, 0)] 74 = true := by decide +kernel
theorem dX12_way_74 : decode (MB MX12_way) 74 = .ok (.ifCond .lt 19, 3) := by decide +kernel
theorem sX12_way_77 : dsOk (MN MX12_way).cls (MB MX12_way) 77 [(.lload 5, 0, 0, 0), (.aload_n 0, 0, 0, 0), (.iconst 0, 0, 0, 0), (.iload 4, 0, 0, 0), (.iload_n 3, 0, 0, 0), (.lload 7, 0, 0, 0)] 86 = true := by decide +kernel
theorem dX12_way_86 : decode (MB MX12_way) 86 = .ok (.invokevirtual 484, 3) := by decide +kernel
theorem sX12_way_89 : dsOk (MN MX12_way).cls (MB MX12_way) 89 [(.lcmp, 0, 0, 0)] 90 = true := by decide +kernel
theorem dX12_way_90 : decode (MB MX12_way) 90 = .ok (.ifCond .lt 10, 3) := by decide +kernel
theorem sX12_way_93 : dsOk (MN MX12_way).cls (MB MX12_way) 93 [(.aload_n 0, 0, 0, 0), (.iconst 1, 0, 0, 0)] 95 = true := by decide +kernel
theorem dX12_way_95 : decode (MB MX12_way) 95 = .ok (.invokevirtual 324, 3) := by decide +kernel
theorem sX12_way_98 : dsOk (MN MX12_way).cls (MB MX12_way) 98 [(.i2l, 0, 0, 0)] 99 = true := by decide +kernel
theorem dX12_way_99 : decode (MB MX12_way) 99 = .ok (.lreturn, 1) := by decide +kernel
theorem sX12_way_100 : dsOk (MN MX12_way).cls (MB MX12_way) 100 [(.lconst 0, 0, 0, 0), (.lstore 9, 0, 0, 0), (.lload 5, 0, 0, 0), (.lstore 11, 0, 0, 0), (.iload_n 3, 0, 0, 0), (.istore 13, 0, 0, 0), (.iconst 0, 0, 0, 0), (.istore 14, 0, 0, 0)] 113 = true := by decide +kernel
theorem sX12_way_113 : dsOk (MN MX12_way).cls (MB MX12_way) 113 [(.iload 13, 0, 0, 0)] 115 = true := by decide +kernel
theorem dX12_way_115 : decode (MB MX12_way) 115 = .ok (.ifCond .le 69, 3) := by decide +kernel
theorem sX12_way_118 : dsOk (MN MX12_way).cls (MB MX12_way) 118 [(.aload_n 0, 0, 0, 0), (.iload 14, 0, 0, 0), (.iconst 1, 0, 0, 0), (.iadd, 0, 0, 0), (.iload 4, 0, 0, 0), (.iload 13, 0, 0, 0), (.iconst 1, 0, 0, 0), (.isub, 0, 0, 0), (.lload 7, 0, 0, 0), (.iload 14, 0, 0, 0), (.i2l, 0, 0, 0), (.lsub, 0, 0, 0)] 135 = true := by decide +kernel
theorem dX12_way_135 : decode (MB MX12_way) 135 = .ok (.invokevirtual 484, 3) := by decide +kernel
theorem sX12_way_138 : dsOk (MN MX12_way).cls (MB MX12_way) 138 [(.lstore 15, 0, 0, 0), (.lload 11, 0, 0, 0), (.lload 15, 0, 0, 0), (.lcmp, 0, 0, 0)] 145 = true := by decide +kernel
theorem dX12_way_145 : decode (MB MX12_way) 145 = .ok (.ifCond .lt 13, 3) := by decide +kernel
theorem sX12_way_148 : dsOk (MN MX12_way).cls (MB MX12_way) 148 [(.lload 11, 0, 0, 0), (.lload 15, 0, 0, 0), (.lsub, 0, 0, 0), (.lstore 11, 0, 0, 0)] 155 = true := by decide +kernel
theorem dX12_way_155 : decode (MB MX12_way) 155 = .ok (.goto 23, 3) := by decide +kernel
theorem sX12_way_158 : dsOk (MN MX12_way).cls (MB MX12_way) 158 [(.lload 9, 0, 0, 0), (.lconst 1, 0, 0, 1), (.iload 14, 0, 0, 0), (.lshl, 0, 0, 0), (.lor, 0, 0, 0), (.lstore 9, 0, 0, 0), (.lload 7, 0, 0, 0), (.iload 14, 0, 0, 0), (.i2l, 0, 0, 0), (.lsub, 0, 0, 0), (.lstore 7, 0, 0, 0), (.iinc 13 (-1), 0, 0, 0)] 178 = true := by decide +kernel
theorem sX12_way_178 : dsOk (MN MX12_way).cls (MB MX12_way) 178 [(.iinc 14 1, 0, 0, 0)] 181 = true := by decide +kernel
theorem dX12_way_181 : decode (MB MX12_way) 181 = .ok (.goto (-68), 3) := by decide +kernel
theorem sX12_way_184 : dsOk (MN MX12_way).cls (MB MX12_way) 184 [(.lload 9, 0, 0, 0)] 186 = true := by decide +kernel
theorem dX12_way_186 : decode (MB MX12_way) 186 = .ok (.lreturn, 1) := by decide +kernel
def MX12_between : Ms := (yX12_between, cX12_between, 6, (some .long), [])
set_option maxRecDepth 100000 in
theorem kX12_between : mkV MX12_between 3 := ⟨⟨List.mem_of_getElem? (i := 1989) (by rfl), by decide +kernel⟩, by decide +kernel⟩
theorem sX12_between_0 : dsOk (MN MX12_between).cls (MB MX12_between) 0 [(.aload_n 0, 0, 0, 0), (.iconst 0, 0, 0, 0), (.putfield 175, 11, 2, 0), (.iload 5, 0, 0, 0), (.i2l, 0, 0, 0), (.lconst 0, 0, 0, 0), (.ldc2_w 356, 0, 0, 10)] 12 = true := by decide +kernel
theorem dX12_between_12 : decode (MB MX12_between) 12 = .ok (.invokestatic 178, 3) := by decide +kernel
theorem dX12_between_15 : decode (MB MX12_between) 15 = .ok (.ifCond .ne 10, 3) := by decide +kernel
theorem sX12_between_18 : dsOk (MN MX12_between).cls (MB MX12_between) 18 [(.aload_n 0, 0, 0, 0), (.iconst 1, 0, 0, 0)] 20 = true := by decide +kernel
theorem dX12_between_20 : decode (MB MX12_between) 20 = .ok (.invokevirtual 324, 3) := by decide +kernel
theorem sX12_between_23 : dsOk (MN MX12_between).cls (MB MX12_between) 23 [(.i2l, 0, 0, 0)] 24 = true := by decide +kernel
theorem dX12_between_24 : decode (MB MX12_between) 24 = .ok (.lreturn, 1) := by decide +kernel
theorem sX12_between_25 : dsOk (MN MX12_between).cls (MB MX12_between) 25 [(.lload_n 1, 0, 0, 0), (.lconst 1, 0, 0, 1), (.lload_n 3, 0, 0, 0)] 28 = true := by decide +kernel
theorem dX12_between_28 : decode (MB MX12_between) 28 = .ok (.invokestatic 178, 3) := by decide +kernel
theorem dX12_between_31 : decode (MB MX12_between) 31 = .ok (.ifCond .eq 29, 3) := by decide +kernel
theorem sX12_between_34 : dsOk (MN MX12_between).cls (MB MX12_between) 34 [(.lload_n 3, 0, 0, 0), (.ldc2_w 490, 0, 0, 1000000000000000), (.lcmp, 0, 0, 0)] 39 = true := by decide +kernel
theorem dX12_between_39 : decode (MB MX12_between) 39 = .ok (.ifCond .gt 21, 3) := by decide +kernel
theorem sX12_between_42 : dsOk (MN MX12_between).cls (MB MX12_between) 42 [(.lload_n 3, 0, 0, 0), (.iload 5, 0, 0, 0)] 45 = true := by decide +kernel
theorem dX12_between_45 : decode (MB MX12_between) 45 = .ok (.invokestatic 460, 3) := by decide +kernel
theorem sX12_between_48 : dsOk (MN MX12_between).cls (MB MX12_between) 48 [(.lload_n 1, 0, 0, 0), (.lconst 1, 0, 0, 1), (.lsub, 0, 0, 0), (.iload 5, 0, 0, 0)] 53 = true := by decide +kernel
theorem dX12_between_53 : decode (MB MX12_between) 53 = .ok (.invokestatic 460, 3) := by decide +kernel
theorem sX12_between_56 : dsOk (MN MX12_between).cls (MB MX12_between) 56 [(.lsub, 0, 0, 0)] 57 = true := by decide +kernel
theorem dX12_between_57 : decode (MB MX12_between) 57 = .ok (.goto 9, 3) := by decide +kernel
theorem sX12_between_60 : dsOk (MN MX12_between).cls (MB MX12_between) 60 [(.aload_n 0, 0, 0, 0), (.iconst 2, 0, 0, 0)] 62 = true := by decide +kernel
theorem dX12_between_62 : decode (MB MX12_between) 62 = .ok (.invokevirtual 324, 3) := by decide +kernel
theorem sX12_between_65 : dsOk (MN MX12_between).cls (MB MX12_between) 65 [(.i2l, 0, 0, 0)] 66 = true := by decide +kernel
theorem dX12_between_66 : decode (MB MX12_between) 66 = .ok (.lreturn, 1) := by decide +kernel
def MX12_sewn : Ms := (yX12_sewn, cX12_sewn, 5, (some .long), [])
set_option maxRecDepth 100000 in
theorem kX12_sewn : mkV MX12_sewn 1 := ⟨⟨List.mem_of_getElem? (i := 1994) (by rfl), by decide +kernel⟩, by decide +kernel⟩
theorem sX12_sewn_0 : dsOk (MN MX12_sewn).cls (MB MX12_sewn) 0 [(.aload_n 0, 0, 0, 0), (.iconst 0, 0, 0, 0), (.putfield 175, 11, 2, 0), (.lload_n 1, 0, 0, 0)] 6 = true := by decide +kernel
theorem dX12_sewn_6 : decode (MB MX12_sewn) 6 = .ok (.invokestatic 452, 3) := by decide +kernel
theorem dX12_sewn_9 : decode (MB MX12_sewn) 9 = .ok (.ifCond .ne 10, 3) := by decide +kernel
theorem sX12_sewn_12 : dsOk (MN MX12_sewn).cls (MB MX12_sewn) 12 [(.aload_n 0, 0, 0, 0), (.iconst 1, 0, 0, 0)] 14 = true := by decide +kernel
theorem dX12_sewn_14 : decode (MB MX12_sewn) 14 = .ok (.invokevirtual 324, 3) := by decide +kernel
theorem sX12_sewn_17 : dsOk (MN MX12_sewn).cls (MB MX12_sewn) 17 [(.i2l, 0, 0, 0)] 18 = true := by decide +kernel
theorem dX12_sewn_18 : decode (MB MX12_sewn) 18 = .ok (.lreturn, 1) := by decide +kernel
theorem sX12_sewn_19 : dsOk (MN MX12_sewn).cls (MB MX12_sewn) 19 [(.ldc2_w 376, 0, 0, 2), (.lload_n 1, 0, 0, 0), (.ldc2_w 376, 0, 0, 2), (.ldiv, 0, 0, 0)] 27 = true := by decide +kernel
theorem dX12_sewn_27 : decode (MB MX12_sewn) 27 = .ok (.invokestatic 443, 3) := by decide +kernel
theorem sX12_sewn_30 : dsOk (MN MX12_sewn).cls (MB MX12_sewn) 30 [(.ldc2_w 376, 0, 0, 2), (.lsub, 0, 0, 0)] 34 = true := by decide +kernel
theorem dX12_sewn_34 : decode (MB MX12_sewn) 34 = .ok (.invokestatic 446, 3) := by decide +kernel
theorem sX12_sewn_37 : dsOk (MN MX12_sewn).cls (MB MX12_sewn) 37 [(.lstore_n 3, 0, 0, 0)] 38 = true := by decide +kernel
theorem sX12_sewn_38 : dsOk (MN MX12_sewn).cls (MB MX12_sewn) 38 [(.ldc2_w 376, 0, 0, 2), (.lload_n 3, 0, 0, 0), (.lmul, 0, 0, 0), (.lload_n 3, 0, 0, 0), (.lmul, 0, 0, 0), (.ldc2_w 437, 0, 0, 3), (.lload_n 3, 0, 0, 0), (.lmul, 0, 0, 0), (.lsub, 0, 0, 0), (.ldc2_w 376, 0, 0, 2), (.lsub, 0, 0, 0), (.lload_n 1, 0, 0, 0), (.lcmp, 0, 0, 0)] 57 = true := by decide +kernel
theorem dX12_sewn_57 : decode (MB MX12_sewn) 57 = .ok (.ifCond .ge 10, 3) := by decide +kernel
theorem sX12_sewn_60 : dsOk (MN MX12_sewn).cls (MB MX12_sewn) 60 [(.lload_n 3, 0, 0, 0), (.lconst 1, 0, 0, 1), (.ladd, 0, 0, 0), (.lstore_n 3, 0, 0, 0)] 64 = true := by decide +kernel
theorem dX12_sewn_64 : decode (MB MX12_sewn) 64 = .ok (.goto (-26), 3) := by decide +kernel
theorem sX12_sewn_67 : dsOk (MN MX12_sewn).cls (MB MX12_sewn) 67 [(.lload_n 3, 0, 0, 0), (.ldc2_w 376, 0, 0, 2), (.lrem, 0, 0, 0), (.lconst 0, 0, 0, 0), (.lcmp, 0, 0, 0)] 74 = true := by decide +kernel
theorem dX12_sewn_74 : decode (MB MX12_sewn) 74 = .ok (.ifCond .ne 29, 3) := by decide +kernel
theorem sX12_sewn_77 : dsOk (MN MX12_sewn).cls (MB MX12_sewn) 77 [(.ldc2_w 376, 0, 0, 2), (.lload_n 3, 0, 0, 0), (.lmul, 0, 0, 0), (.lload_n 3, 0, 0, 0), (.lmul, 0, 0, 0), (.ldc2_w 437, 0, 0, 3), (.lload_n 3, 0, 0, 0), (.lmul, 0, 0, 0), (.lsub, 0, 0, 0), (.ldc2_w 376, 0, 0, 2), (.lsub, 0, 0, 0), (.lload_n 1, 0, 0, 0), (.lcmp, 0, 0, 0)] 96 = true := by decide +kernel
theorem dX12_sewn_96 : decode (MB MX12_sewn) 96 = .ok (.ifCond .ne 7, 3) := by decide +kernel
theorem sX12_sewn_99 : dsOk (MN MX12_sewn).cls (MB MX12_sewn) 99 [(.lload_n 3, 0, 0, 0)] 100 = true := by decide +kernel
theorem dX12_sewn_100 : decode (MB MX12_sewn) 100 = .ok (.goto 6, 3) := by decide +kernel
theorem sX12_sewn_103 : dsOk (MN MX12_sewn).cls (MB MX12_sewn) 103 [(.ldc2_w 358, 0, 0, -1)] 106 = true := by decide +kernel
theorem dX12_sewn_106 : decode (MB MX12_sewn) 106 = .ok (.lreturn, 1) := by decide +kernel
def MX12_street : Ms := (yX12_street, cX12_street, 11, (some .long), [])
set_option maxRecDepth 100000 in
theorem kX12_street : mkV MX12_street 3 := ⟨⟨List.mem_of_getElem? (i := 1998) (by rfl), by decide +kernel⟩, by decide +kernel⟩
theorem sX12_street_0 : dsOk (MN MX12_street).cls (MB MX12_street) 0 [(.aload_n 0, 0, 0, 0), (.iconst 0, 0, 0, 0), (.putfield 175, 11, 2, 0), (.iload_n 3, 0, 0, 0), (.i2l, 0, 0, 0), (.lconst 0, 0, 0, 0), (.lconst 1, 0, 0, 1)] 9 = true := by decide +kernel
theorem dX12_street_9 : decode (MB MX12_street) 9 = .ok (.invokestatic 178, 3) := by decide +kernel
theorem dX12_street_12 : decode (MB MX12_street) 12 = .ok (.ifCond .ne 10, 3) := by decide +kernel
theorem sX12_street_15 : dsOk (MN MX12_street).cls (MB MX12_street) 15 [(.aload_n 0, 0, 0, 0), (.iconst 1, 0, 0, 0)] 17 = true := by decide +kernel
theorem dX12_street_17 : decode (MB MX12_street) 17 = .ok (.invokevirtual 324, 3) := by decide +kernel
theorem sX12_street_20 : dsOk (MN MX12_street).cls (MB MX12_street) 20 [(.i2l, 0, 0, 0)] 21 = true := by decide +kernel
theorem dX12_street_21 : decode (MB MX12_street) 21 = .ok (.lreturn, 1) := by decide +kernel
theorem sX12_street_22 : dsOk (MN MX12_street).cls (MB MX12_street) 22 [(.lload_n 1, 0, 0, 0)] 23 = true := by decide +kernel
theorem dX12_street_23 : decode (MB MX12_street) 23 = .ok (.invokestatic 452, 3) := by decide +kernel
theorem dX12_street_26 : decode (MB MX12_street) 26 = .ok (.ifCond .ne 10, 3) := by decide +kernel
theorem sX12_street_29 : dsOk (MN MX12_street).cls (MB MX12_street) 29 [(.aload_n 0, 0, 0, 0), (.iconst 2, 0, 0, 0)] 31 = true := by decide +kernel
theorem dX12_street_31 : decode (MB MX12_street) 31 = .ok (.invokevirtual 324, 3) := by decide +kernel
theorem sX12_street_34 : dsOk (MN MX12_street).cls (MB MX12_street) 34 [(.i2l, 0, 0, 0)] 35 = true := by decide +kernel
theorem dX12_street_35 : decode (MB MX12_street) 35 = .ok (.lreturn, 1) := by decide +kernel
theorem sX12_street_36 : dsOk (MN MX12_street).cls (MB MX12_street) 36 [(.lconst 1, 0, 0, 1), (.lload_n 1, 0, 0, 0)] 38 = true := by decide +kernel
theorem dX12_street_38 : decode (MB MX12_street) 38 = .ok (.invokestatic 443, 3) := by decide +kernel
theorem sX12_street_41 : dsOk (MN MX12_street).cls (MB MX12_street) 41 [(.ldc2_w 376, 0, 0, 2), (.lsub, 0, 0, 0)] 45 = true := by decide +kernel
theorem dX12_street_45 : decode (MB MX12_street) 45 = .ok (.invokestatic 446, 3) := by decide +kernel
theorem sX12_street_48 : dsOk (MN MX12_street).cls (MB MX12_street) 48 [(.lstore 5, 0, 0, 0)] 50 = true := by decide +kernel
theorem sX12_street_50 : dsOk (MN MX12_street).cls (MB MX12_street) 50 [(.lload 5, 0, 0, 0), (.lload 5, 0, 0, 0), (.iload_n 3, 0, 0, 0), (.i2l, 0, 0, 0), (.ladd, 0, 0, 0), (.lmul, 0, 0, 0), (.lload_n 1, 0, 0, 0), (.lcmp, 0, 0, 0)] 60 = true := by decide +kernel
theorem dX12_street_60 : decode (MB MX12_street) 60 = .ok (.ifCond .gt 12, 3) := by decide +kernel
theorem sX12_street_63 : dsOk (MN MX12_street).cls (MB MX12_street) 63 [(.lload 5, 0, 0, 0), (.lconst 1, 0, 0, 1), (.ladd, 0, 0, 0), (.lstore 5, 0, 0, 0)] 69 = true := by decide +kernel
theorem dX12_street_69 : decode (MB MX12_street) 69 = .ok (.goto (-19), 3) := by decide +kernel
theorem sX12_street_72 : dsOk (MN MX12_street).cls (MB MX12_street) 72 [(.lload 5, 0, 0, 0), (.lload 5, 0, 0, 0), (.iload_n 3, 0, 0, 0), (.i2l, 0, 0, 0), (.ladd, 0, 0, 0), (.lmul, 0, 0, 0), (.lload_n 1, 0, 0, 0), (.lsub, 0, 0, 0), (.lstore 7, 0, 0, 0), (.ldc2_w 376, 0, 0, 2), (.lload 5, 0, 0, 0), (.lmul, 0, 0, 0), (.lconst 1, 0, 0, 1), (.lsub, 0, 0, 0), (.iload_n 3, 0, 0, 0), (.i2l, 0, 0, 0), (.ladd, 0, 0, 0), (.lstore 9, 0, 0, 0), (.lload 7, 0, 0, 0), (.lload 9, 0, 0, 0), (.lcmp, 0, 0, 0)] 102 = true := by decide +kernel
theorem dX12_street_102 : decode (MB MX12_street) 102 = .ok (.ifCond .gt 17, 3) := by decide +kernel
theorem sX12_street_105 : dsOk (MN MX12_street).cls (MB MX12_street) 105 [(.lload 7, 0, 0, 0), (.ldc2_w 376, 0, 0, 2), (.lrem, 0, 0, 0), (.lconst 1, 0, 0, 1), (.iload_n 3, 0, 0, 0), (.i2l, 0, 0, 0), (.lsub, 0, 0, 0), (.lcmp, 0, 0, 0)] 116 = true := by decide +kernel
theorem dX12_street_116 : decode (MB MX12_street) 116 = .ok (.ifCond .eq 7, 3) := by decide +kernel
theorem sX12_street_119 : dsOk (MN MX12_street).cls (MB MX12_street) 119 [(.ldc2_w 358, 0, 0, -1)] 122 = true := by decide +kernel
theorem dX12_street_122 : decode (MB MX12_street) 122 = .ok (.lreturn, 1) := by decide +kernel
theorem sX12_street_123 : dsOk (MN MX12_street).cls (MB MX12_street) 123 [(.iload 4, 0, 0, 0)] 125 = true := by decide +kernel
theorem dX12_street_125 : decode (MB MX12_street) 125 = .ok (.ifCond .eq 8, 3) := by decide +kernel
theorem sX12_street_128 : dsOk (MN MX12_street).cls (MB MX12_street) 128 [(.lload 7, 0, 0, 0)] 130 = true := by decide +kernel
theorem dX12_street_130 : decode (MB MX12_street) 130 = .ok (.goto 5, 3) := by decide +kernel
theorem sX12_street_133 : dsOk (MN MX12_street).cls (MB MX12_street) 133 [(.lload 5, 0, 0, 0)] 135 = true := by decide +kernel
theorem dX12_street_135 : decode (MB MX12_street) 135 = .ok (.lreturn, 1) := by decide +kernel
def MX12_prints : Ms := (yX12_prints, cX12_prints, 3, (some .boolean), [])
set_option maxRecDepth 100000 in
theorem kX12_prints : mkV MX12_prints 1 := ⟨⟨List.mem_of_getElem? (i := 2014) (by rfl), by decide +kernel⟩, by decide +kernel⟩
theorem sX12_prints_0 : dsOk (MN MX12_prints).cls (MB MX12_prints) 0 [(.iconst 0, 0, 0, 0), (.istore_n 2, 0, 0, 0)] 2 = true := by decide +kernel
theorem sX12_prints_2 : dsOk (MN MX12_prints).cls (MB MX12_prints) 2 [(.iload_n 2, 0, 0, 0), (.bipush 10, 0, 0, 10)] 5 = true := by decide +kernel
theorem dX12_prints_5 : decode (MB MX12_prints) 5 = .ok (.if_icmp .ge 26, 3) := by decide +kernel
theorem sX12_prints_8 : dsOk (MN MX12_prints).cls (MB MX12_prints) 8 [(.iload_n 1, 0, 0, 0), (.i2l, 0, 0, 0), (.iload_n 2, 0, 0, 0)] 11 = true := by decide +kernel
theorem dX12_prints_11 : decode (MB MX12_prints) 11 = .ok (.invokestatic 400, 3) := by decide +kernel
theorem sX12_prints_14 : dsOk (MN MX12_prints).cls (MB MX12_prints) 14 [(.aload_n 0, 0, 0, 0), (.getfield 115, 11, 44, 0), (.iload_n 2, 0, 0, 0), (.iaload, 0, 0, 0)] 20 = true := by decide +kernel
theorem dX12_prints_20 : decode (MB MX12_prints) 20 = .ok (.if_icmp .le 5, 3) := by decide +kernel
theorem sX12_prints_23 : dsOk (MN MX12_prints).cls (MB MX12_prints) 23 [(.iconst 0, 0, 0, 0)] 24 = true := by decide +kernel
theorem dX12_prints_24 : decode (MB MX12_prints) 24 = .ok (.ireturn, 1) := by decide +kernel
theorem sX12_prints_25 : dsOk (MN MX12_prints).cls (MB MX12_prints) 25 [(.iinc 2 1, 0, 0, 0)] 28 = true := by decide +kernel
theorem dX12_prints_28 : decode (MB MX12_prints) 28 = .ok (.goto (-26), 3) := by decide +kernel
theorem sX12_prints_31 : dsOk (MN MX12_prints).cls (MB MX12_prints) 31 [(.iconst 0, 0, 0, 0), (.istore_n 2, 0, 0, 0)] 33 = true := by decide +kernel
theorem sX12_prints_33 : dsOk (MN MX12_prints).cls (MB MX12_prints) 33 [(.iload_n 2, 0, 0, 0), (.bipush 10, 0, 0, 10)] 36 = true := by decide +kernel
theorem dX12_prints_36 : decode (MB MX12_prints) 36 = .ok (.if_icmp .ge 24, 3) := by decide +kernel
theorem sX12_prints_39 : dsOk (MN MX12_prints).cls (MB MX12_prints) 39 [(.aload_n 0, 0, 0, 0), (.getfield 115, 11, 44, 0), (.iload_n 2, 0, 0, 0), (.dup2, 0, 0, 0), (.iaload, 0, 0, 0), (.iload_n 1, 0, 0, 0), (.i2l, 0, 0, 0), (.iload_n 2, 0, 0, 0)] 49 = true := by decide +kernel
theorem dX12_prints_49 : decode (MB MX12_prints) 49 = .ok (.invokestatic 400, 3) := by decide +kernel
theorem sX12_prints_52 : dsOk (MN MX12_prints).cls (MB MX12_prints) 52 [(.isub, 0, 0, 0), (.iastore, 0, 0, 0), (.iinc 2 1, 0, 0, 0)] 57 = true := by decide +kernel
theorem dX12_prints_57 : decode (MB MX12_prints) 57 = .ok (.goto (-24), 3) := by decide +kernel
theorem sX12_prints_60 : dsOk (MN MX12_prints).cls (MB MX12_prints) 60 [(.iconst 1, 0, 0, 0)] 61 = true := by decide +kernel
theorem dX12_prints_61 : decode (MB MX12_prints) 61 = .ok (.ireturn, 1) := by decide +kernel
def MX12_goFar : Ms := (yX12_goFar, cX12_goFar, 3, none, [])
set_option maxRecDepth 100000 in
theorem kX12_goFar : mkV MX12_goFar 1 := ⟨⟨List.mem_of_getElem? (i := 2010) (by rfl), by decide +kernel⟩, by decide +kernel⟩
theorem sX12_goFar_0 : dsOk (MN MX12_goFar).cls (MB MX12_goFar) 0 [(.iconst 0, 0, 0, 0), (.istore_n 2, 0, 0, 0)] 2 = true := by decide +kernel
theorem sX12_goFar_2 : dsOk (MN MX12_goFar).cls (MB MX12_goFar) 2 [(.iload_n 2, 0, 0, 0), (.bipush 10, 0, 0, 10)] 5 = true := by decide +kernel
theorem dX12_goFar_5 : decode (MB MX12_goFar) 5 = .ok (.if_icmp .ge 21, 3) := by decide +kernel
theorem sX12_goFar_8 : dsOk (MN MX12_goFar).cls (MB MX12_goFar) 8 [(.aload_n 0, 0, 0, 0), (.getfield 115, 11, 44, 0), (.iload_n 2, 0, 0, 0), (.aload_n 0, 0, 0, 0), (.getfield 66, 11, 12, 0), (.iload_n 2, 0, 0, 0), (.iaload, 0, 0, 0), (.iastore, 0, 0, 0), (.iinc 2 1, 0, 0, 0)] 23 = true := by decide +kernel
theorem dX12_goFar_23 : decode (MB MX12_goFar) 23 = .ok (.goto (-21), 3) := by decide +kernel
theorem sX12_goFar_26 : dsOk (MN MX12_goFar).cls (MB MX12_goFar) 26 [(.aload_n 0, 0, 0, 0), (.iload_n 1, 0, 0, 0)] 28 = true := by decide +kernel
theorem dX12_goFar_28 : decode (MB MX12_goFar) 28 = .ok (.ifCond .ne 7, 3) := by decide +kernel
theorem sX12_goFar_31 : dsOk (MN MX12_goFar).cls (MB MX12_goFar) 31 [(.iconst 0, 0, 0, 0)] 32 = true := by decide +kernel
theorem dX12_goFar_32 : decode (MB MX12_goFar) 32 = .ok (.goto 6, 3) := by decide +kernel
theorem sX12_goFar_35 : dsOk (MN MX12_goFar).cls (MB MX12_goFar) 35 [(.iload_n 1, 0, 0, 0), (.iconst 1, 0, 0, 0), (.iadd, 0, 0, 0)] 38 = true := by decide +kernel
theorem sX12_goFar_38 : dsOk (MN MX12_goFar).cls (MB MX12_goFar) 38 [(.putfield 492, 11, 45, 0), (.iload_n 1, 0, 0, 0)] 42 = true := by decide +kernel
theorem dX12_goFar_42 : decode (MB MX12_goFar) 42 = .ok (.ifCond .ne 7, 3) := by decide +kernel
theorem sX12_goFar_45 : dsOk (MN MX12_goFar).cls (MB MX12_goFar) 45 [(.iconst 1, 0, 0, 0)] 46 = true := by decide +kernel
theorem dX12_goFar_46 : decode (MB MX12_goFar) 46 = .ok (.goto 4, 3) := by decide +kernel
theorem sX12_goFar_49 : dsOk (MN MX12_goFar).cls (MB MX12_goFar) 49 [(.iconst (-1), 0, 0, 0)] 50 = true := by decide +kernel
theorem sX12_goFar_50 : dsOk (MN MX12_goFar).cls (MB MX12_goFar) 50 [(.istore_n 2, 0, 0, 0)] 51 = true := by decide +kernel
theorem sX12_goFar_51 : dsOk (MN MX12_goFar).cls (MB MX12_goFar) 51 [(.aload_n 0, 0, 0, 0), (.getfield 492, 11, 45, 0), (.iload_n 2, 0, 0, 0), (.iadd, 0, 0, 0)] 57 = true := by decide +kernel
theorem dX12_goFar_57 : decode (MB MX12_goFar) 57 = .ok (.ifCond .le 29, 3) := by decide +kernel
theorem sX12_goFar_60 : dsOk (MN MX12_goFar).cls (MB MX12_goFar) 60 [(.aload_n 0, 0, 0, 0), (.aload_n 0, 0, 0, 0), (.getfield 492, 11, 45, 0), (.iload_n 2, 0, 0, 0), (.iadd, 0, 0, 0)] 67 = true := by decide +kernel
theorem dX12_goFar_67 : decode (MB MX12_goFar) 67 = .ok (.invokevirtual 495, 3) := by decide +kernel
theorem dX12_goFar_70 : decode (MB MX12_goFar) 70 = .ok (.ifCond .eq 16, 3) := by decide +kernel
theorem sX12_goFar_73 : dsOk (MN MX12_goFar).cls (MB MX12_goFar) 73 [(.aload_n 0, 0, 0, 0), (.dup, 0, 0, 0), (.getfield 492, 11, 45, 0), (.iload_n 2, 0, 0, 0), (.iadd, 0, 0, 0), (.putfield 492, 11, 45, 0)] 83 = true := by decide +kernel
theorem dX12_goFar_83 : decode (MB MX12_goFar) 83 = .ok (.goto (-32), 3) := by decide +kernel
theorem dX12_goFar_86 : decode (MB MX12_goFar) 86 = .ok (.return_, 1) := by decide +kernel
def MX12_isFrom : Ms := (yX12_isFrom, cX12_isFrom, 1, (some .boolean), [])
set_option maxRecDepth 100000 in
theorem kX12_isFrom : mkS MX12_isFrom 1 := ⟨⟨List.mem_of_getElem? (i := 2005) (by rfl), by decide +kernel⟩, by decide +kernel⟩
theorem sX12_isFrom_0 : dsOk (MN MX12_isFrom).cls (MB MX12_isFrom) 0 [(.iload_n 0, 0, 0, 0), (.i2l, 0, 0, 0), (.lconst 0, 0, 0, 0), (.ldc2_w 498, 0, 0, 99999999)] 6 = true := by decide +kernel
theorem dX12_isFrom_6 : decode (MB MX12_isFrom) 6 = .ok (.invokestatic 178, 3) := by decide +kernel
theorem dX12_isFrom_9 : decode (MB MX12_isFrom) 9 = .ok (.ireturn, 1) := by decide +kernel
def MX12_far : Ms := (yX12_far, cX12_far, 2, (some .int), [])
set_option maxRecDepth 100000 in
theorem kX12_far : mkV MX12_far 1 := ⟨⟨List.mem_of_getElem? (i := 2002) (by rfl), by decide +kernel⟩, by decide +kernel⟩
theorem sX12_far_0 : dsOk (MN MX12_far).cls (MB MX12_far) 0 [(.aload_n 0, 0, 0, 0), (.iconst 0, 0, 0, 0), (.putfield 175, 11, 2, 0), (.iload_n 1, 0, 0, 0)] 6 = true := by decide +kernel
theorem dX12_far_6 : decode (MB MX12_far) 6 = .ok (.invokestatic 500, 3) := by decide +kernel
theorem dX12_far_9 : decode (MB MX12_far) 9 = .ok (.ifCond .ne 9, 3) := by decide +kernel
theorem sX12_far_12 : dsOk (MN MX12_far).cls (MB MX12_far) 12 [(.aload_n 0, 0, 0, 0), (.iconst 1, 0, 0, 0)] 14 = true := by decide +kernel
theorem dX12_far_14 : decode (MB MX12_far) 14 = .ok (.invokevirtual 324, 3) := by decide +kernel
theorem dX12_far_17 : decode (MB MX12_far) 17 = .ok (.ireturn, 1) := by decide +kernel
theorem sX12_far_18 : dsOk (MN MX12_far).cls (MB MX12_far) 18 [(.aload_n 0, 0, 0, 0), (.iload_n 1, 0, 0, 0)] 20 = true := by decide +kernel
theorem dX12_far_20 : decode (MB MX12_far) 20 = .ok (.invokevirtual 503, 3) := by decide +kernel
theorem sX12_far_23 : dsOk (MN MX12_far).cls (MB MX12_far) 23 [(.aload_n 0, 0, 0, 0), (.getfield 492, 11, 45, 0)] 27 = true := by decide +kernel
theorem dX12_far_27 : decode (MB MX12_far) 27 = .ok (.ireturn, 1) := by decide +kernel
def MX12_lacks : Ms := (yX12_lacks, cX12_lacks, 4, (some .int), [])
set_option maxRecDepth 100000 in
theorem kX12_lacks : mkV MX12_lacks 1 := ⟨⟨List.mem_of_getElem? (i := 2018) (by rfl), by decide +kernel⟩, by decide +kernel⟩
theorem sX12_lacks_0 : dsOk (MN MX12_lacks).cls (MB MX12_lacks) 0 [(.aload_n 0, 0, 0, 0), (.iconst 0, 0, 0, 0), (.putfield 175, 11, 2, 0), (.iload_n 1, 0, 0, 0)] 6 = true := by decide +kernel
theorem dX12_lacks_6 : decode (MB MX12_lacks) 6 = .ok (.invokestatic 500, 3) := by decide +kernel
theorem dX12_lacks_9 : decode (MB MX12_lacks) 9 = .ok (.ifCond .ne 9, 3) := by decide +kernel
theorem sX12_lacks_12 : dsOk (MN MX12_lacks).cls (MB MX12_lacks) 12 [(.aload_n 0, 0, 0, 0), (.iconst 1, 0, 0, 0)] 14 = true := by decide +kernel
theorem dX12_lacks_14 : decode (MB MX12_lacks) 14 = .ok (.invokevirtual 324, 3) := by decide +kernel
theorem dX12_lacks_17 : decode (MB MX12_lacks) 17 = .ok (.ireturn, 1) := by decide +kernel
theorem sX12_lacks_18 : dsOk (MN MX12_lacks).cls (MB MX12_lacks) 18 [(.aload_n 0, 0, 0, 0), (.iload_n 1, 0, 0, 0)] 20 = true := by decide +kernel
theorem dX12_lacks_20 : decode (MB MX12_lacks) 20 = .ok (.invokevirtual 503, 3) := by decide +kernel
theorem sX12_lacks_23 : dsOk (MN MX12_lacks).cls (MB MX12_lacks) 23 [(.aload_n 0, 0, 0, 0), (.getfield 492, 11, 45, 0), (.iload_n 1, 0, 0, 0)] 28 = true := by decide +kernel
theorem dX12_lacks_28 : decode (MB MX12_lacks) 28 = .ok (.ifCond .ne 7, 3) := by decide +kernel
theorem sX12_lacks_31 : dsOk (MN MX12_lacks).cls (MB MX12_lacks) 31 [(.iconst 1, 0, 0, 0)] 32 = true := by decide +kernel
theorem dX12_lacks_32 : decode (MB MX12_lacks) 32 = .ok (.goto 4, 3) := by decide +kernel
theorem sX12_lacks_35 : dsOk (MN MX12_lacks).cls (MB MX12_lacks) 35 [(.iconst (-1), 0, 0, 0)] 36 = true := by decide +kernel
theorem sX12_lacks_36 : dsOk (MN MX12_lacks).cls (MB MX12_lacks) 36 [(.iadd, 0, 0, 0), (.istore_n 2, 0, 0, 0), (.iload_n 2, 0, 0, 0)] 39 = true := by decide +kernel
theorem dX12_lacks_39 : decode (MB MX12_lacks) 39 = .ok (.ifCond .ne 5, 3) := by decide +kernel
theorem sX12_lacks_42 : dsOk (MN MX12_lacks).cls (MB MX12_lacks) 42 [(.iconst (-1), 0, 0, 0)] 43 = true := by decide +kernel
theorem dX12_lacks_43 : decode (MB MX12_lacks) 43 = .ok (.ireturn, 1) := by decide +kernel
theorem sX12_lacks_44 : dsOk (MN MX12_lacks).cls (MB MX12_lacks) 44 [(.iconst 0, 0, 0, 0), (.istore_n 3, 0, 0, 0)] 46 = true := by decide +kernel
theorem sX12_lacks_46 : dsOk (MN MX12_lacks).cls (MB MX12_lacks) 46 [(.iload_n 2, 0, 0, 0), (.i2l, 0, 0, 0), (.iload_n 3, 0, 0, 0)] 49 = true := by decide +kernel
theorem dX12_lacks_49 : decode (MB MX12_lacks) 49 = .ok (.invokestatic 400, 3) := by decide +kernel
theorem sX12_lacks_52 : dsOk (MN MX12_lacks).cls (MB MX12_lacks) 52 [(.aload_n 0, 0, 0, 0), (.getfield 115, 11, 44, 0), (.iload_n 3, 0, 0, 0), (.iaload, 0, 0, 0)] 58 = true := by decide +kernel
theorem dX12_lacks_58 : decode (MB MX12_lacks) 58 = .ok (.if_icmp .gt 9, 3) := by decide +kernel
theorem sX12_lacks_61 : dsOk (MN MX12_lacks).cls (MB MX12_lacks) 61 [(.iinc 3 1, 0, 0, 0)] 64 = true := by decide +kernel
theorem dX12_lacks_64 : decode (MB MX12_lacks) 64 = .ok (.goto (-18), 3) := by decide +kernel
theorem sX12_lacks_67 : dsOk (MN MX12_lacks).cls (MB MX12_lacks) 67 [(.iload_n 3, 0, 0, 0)] 68 = true := by decide +kernel
theorem dX12_lacks_68 : decode (MB MX12_lacks) 68 = .ok (.ireturn, 1) := by decide +kernel
def MX12_skip : Ms := (yX12_skip, cX12_skip, 5, (some .long), [])
set_option maxRecDepth 100000 in
theorem kX12_skip : mkV MX12_skip 3 := ⟨⟨List.mem_of_getElem? (i := 2022) (by rfl), by decide +kernel⟩, by decide +kernel⟩
theorem sX12_skip_0 : dsOk (MN MX12_skip).cls (MB MX12_skip) 0 [(.aload_n 0, 0, 0, 0), (.iconst 0, 0, 0, 0), (.putfield 175, 11, 2, 0), (.iload_n 1, 0, 0, 0), (.i2l, 0, 0, 0), (.lconst 1, 0, 0, 1), (.ldc2_w 354, 0, 0, 9)] 11 = true := by decide +kernel
theorem dX12_skip_11 : decode (MB MX12_skip) 11 = .ok (.invokestatic 178, 3) := by decide +kernel
theorem dX12_skip_14 : decode (MB MX12_skip) 14 = .ok (.ifCond .eq 14, 3) := by decide +kernel
theorem sX12_skip_17 : dsOk (MN MX12_skip).cls (MB MX12_skip) 17 [(.lload_n 2, 0, 0, 0), (.lconst 1, 0, 0, 1), (.ldc2_w 490, 0, 0, 1000000000000000)] 22 = true := by decide +kernel
theorem dX12_skip_22 : decode (MB MX12_skip) 22 = .ok (.invokestatic 178, 3) := by decide +kernel
theorem dX12_skip_25 : decode (MB MX12_skip) 25 = .ok (.ifCond .ne 10, 3) := by decide +kernel
theorem sX12_skip_28 : dsOk (MN MX12_skip).cls (MB MX12_skip) 28 [(.aload_n 0, 0, 0, 0), (.iconst 1, 0, 0, 0)] 30 = true := by decide +kernel
theorem dX12_skip_30 : decode (MB MX12_skip) 30 = .ok (.invokevirtual 324, 3) := by decide +kernel
theorem sX12_skip_33 : dsOk (MN MX12_skip).cls (MB MX12_skip) 33 [(.i2l, 0, 0, 0)] 34 = true := by decide +kernel
theorem dX12_skip_34 : decode (MB MX12_skip) 34 = .ok (.lreturn, 1) := by decide +kernel
theorem sX12_skip_35 : dsOk (MN MX12_skip).cls (MB MX12_skip) 35 [(.iload 4, 0, 0, 0)] 37 = true := by decide +kernel
theorem dX12_skip_37 : decode (MB MX12_skip) 37 = .ok (.ifCond .eq 11, 3) := by decide +kernel
theorem sX12_skip_40 : dsOk (MN MX12_skip).cls (MB MX12_skip) 40 [(.iload_n 1, 0, 0, 0), (.lload_n 2, 0, 0, 0)] 42 = true := by decide +kernel
theorem dX12_skip_42 : decode (MB MX12_skip) 42 = .ok (.invokestatic 378, 3) := by decide +kernel
theorem dX12_skip_45 : decode (MB MX12_skip) 45 = .ok (.goto 8, 3) := by decide +kernel
theorem sX12_skip_48 : dsOk (MN MX12_skip).cls (MB MX12_skip) 48 [(.iload_n 1, 0, 0, 0), (.lload_n 2, 0, 0, 0)] 50 = true := by decide +kernel
theorem dX12_skip_50 : decode (MB MX12_skip) 50 = .ok (.invokestatic 369, 3) := by decide +kernel
theorem dX12_skip_53 : decode (MB MX12_skip) 53 = .ok (.lreturn, 1) := by decide +kernel
def MX12_hasLeaf : Ms := (yX12_hasLeaf, cX12_hasLeaf, 4, (some .boolean), [])
set_option maxRecDepth 100000 in
theorem kX12_hasLeaf : mkV MX12_hasLeaf 3 := ⟨⟨List.mem_of_getElem? (i := 2037) (by rfl), by decide +kernel⟩, by decide +kernel⟩
theorem sX12_hasLeaf_0 : dsOk (MN MX12_hasLeaf).cls (MB MX12_hasLeaf) 0 [(.aload_n 0, 0, 0, 0), (.getfield 57, 11, 9, 0), (.iload_n 2, 0, 0, 0), (.iaload, 0, 0, 0), (.iload_n 1, 0, 0, 0)] 7 = true := by decide +kernel
theorem dX12_hasLeaf_7 : decode (MB MX12_hasLeaf) 7 = .ok (.if_icmp .ne 28, 3) := by decide +kernel
theorem sX12_hasLeaf_10 : dsOk (MN MX12_hasLeaf).cls (MB MX12_hasLeaf) 10 [(.aload_n 0, 0, 0, 0), (.getfield 63, 11, 11, 0), (.bipush 30, 0, 0, 30), (.iload_n 2, 0, 0, 0), (.imul, 0, 0, 0), (.aload_n 0, 0, 0, 0), (.getfield 60, 11, 10, 0), (.iload_n 2, 0, 0, 0), (.iaload, 0, 0, 0), (.iload_n 3, 0, 0, 0)] 25 = true := by decide +kernel
theorem dX12_hasLeaf_25 : decode (MB MX12_hasLeaf) 25 = .ok (.invokestatic 295, 3) := by decide +kernel
theorem dX12_hasLeaf_28 : decode (MB MX12_hasLeaf) 28 = .ok (.ifCond .ne 7, 3) := by decide +kernel
theorem sX12_hasLeaf_31 : dsOk (MN MX12_hasLeaf).cls (MB MX12_hasLeaf) 31 [(.iconst 1, 0, 0, 0)] 32 = true := by decide +kernel
theorem dX12_hasLeaf_32 : decode (MB MX12_hasLeaf) 32 = .ok (.goto 4, 3) := by decide +kernel
theorem sX12_hasLeaf_35 : dsOk (MN MX12_hasLeaf).cls (MB MX12_hasLeaf) 35 [(.iconst 0, 0, 0, 0)] 36 = true := by decide +kernel
theorem dX12_hasLeaf_36 : decode (MB MX12_hasLeaf) 36 = .ok (.ireturn, 1) := by decide +kernel
def MX12_lacking : Ms := (yX12_lacking, cX12_lacking, 7, (some .int), [])
set_option maxRecDepth 100000 in
theorem kX12_lacking : mkV MX12_lacking 2 := ⟨⟨List.mem_of_getElem? (i := 2033) (by rfl), by decide +kernel⟩, by decide +kernel⟩
theorem sX12_lacking_0 : dsOk (MN MX12_lacking).cls (MB MX12_lacking) 0 [(.iconst 0, 0, 0, 0), (.istore_n 3, 0, 0, 0), (.iconst 0, 0, 0, 0), (.istore 4, 0, 0, 0)] 5 = true := by decide +kernel
theorem sX12_lacking_5 : dsOk (MN MX12_lacking).cls (MB MX12_lacking) 5 [(.iload 4, 0, 0, 0), (.aload_n 0, 0, 0, 0), (.getfield 51, 11, 7, 0), (.iload_n 1, 0, 0, 0), (.iaload, 0, 0, 0)] 13 = true := by decide +kernel
theorem dX12_lacking_13 : decode (MB MX12_lacking) 13 = .ok (.if_icmp .ge 89, 3) := by decide +kernel
theorem sX12_lacking_16 : dsOk (MN MX12_lacking).cls (MB MX12_lacking) 16 [(.iconst 0, 0, 0, 0), (.istore 5, 0, 0, 0), (.iconst 0, 0, 0, 0), (.istore 6, 0, 0, 0)] 22 = true := by decide +kernel
theorem sX12_lacking_22 : dsOk (MN MX12_lacking).cls (MB MX12_lacking) 22 [(.iload 6, 0, 0, 0), (.aload_n 0, 0, 0, 0), (.getfield 40, 11, 3, 0), (.iconst 1, 0, 0, 0), (.iaload, 0, 0, 0)] 30 = true := by decide +kernel
theorem dX12_lacking_30 : decode (MB MX12_lacking) 30 = .ok (.if_icmp .ge 53, 3) := by decide +kernel
theorem sX12_lacking_33 : dsOk (MN MX12_lacking).cls (MB MX12_lacking) 33 [(.iload 5, 0, 0, 0)] 35 = true := by decide +kernel
theorem dX12_lacking_35 : decode (MB MX12_lacking) 35 = .ok (.ifCond .ne 35, 3) := by decide +kernel
theorem sX12_lacking_38 : dsOk (MN MX12_lacking).cls (MB MX12_lacking) 38 [(.iload_n 2, 0, 0, 0), (.iload 6, 0, 0, 0), (.ishr, 0, 0, 0), (.iconst 1, 0, 0, 0), (.iand, 0, 0, 0), (.iconst 1, 0, 0, 0)] 45 = true := by decide +kernel
theorem dX12_lacking_45 : decode (MB MX12_lacking) 45 = .ok (.if_icmp .ne 29, 3) := by decide +kernel
theorem sX12_lacking_48 : dsOk (MN MX12_lacking).cls (MB MX12_lacking) 48 [(.aload_n 0, 0, 0, 0), (.iload_n 1, 0, 0, 0), (.iload 6, 0, 0, 0), (.aload_n 0, 0, 0, 0), (.getfield 54, 11, 8, 0), (.bipush 60, 0, 0, 60), (.iload_n 1, 0, 0, 0), (.imul, 0, 0, 0), (.iload 4, 0, 0, 0), (.iadd, 0, 0, 0), (.iaload, 0, 0, 0)] 64 = true := by decide +kernel
theorem dX12_lacking_64 : decode (MB MX12_lacking) 64 = .ok (.invokevirtual 506, 3) := by decide +kernel
theorem dX12_lacking_67 : decode (MB MX12_lacking) 67 = .ok (.ifCond .eq 7, 3) := by decide +kernel
theorem sX12_lacking_70 : dsOk (MN MX12_lacking).cls (MB MX12_lacking) 70 [(.iconst 1, 0, 0, 0)] 71 = true := by decide +kernel
theorem dX12_lacking_71 : decode (MB MX12_lacking) 71 = .ok (.goto 4, 3) := by decide +kernel
theorem sX12_lacking_74 : dsOk (MN MX12_lacking).cls (MB MX12_lacking) 74 [(.iconst 0, 0, 0, 0)] 75 = true := by decide +kernel
theorem sX12_lacking_75 : dsOk (MN MX12_lacking).cls (MB MX12_lacking) 75 [(.istore 5, 0, 0, 0), (.iinc 6 1, 0, 0, 0)] 80 = true := by decide +kernel
theorem dX12_lacking_80 : decode (MB MX12_lacking) 80 = .ok (.goto (-58), 3) := by decide +kernel
theorem sX12_lacking_83 : dsOk (MN MX12_lacking).cls (MB MX12_lacking) 83 [(.iload_n 3, 0, 0, 0), (.iload 5, 0, 0, 0)] 86 = true := by decide +kernel
theorem dX12_lacking_86 : decode (MB MX12_lacking) 86 = .ok (.ifCond .eq 7, 3) := by decide +kernel
theorem sX12_lacking_89 : dsOk (MN MX12_lacking).cls (MB MX12_lacking) 89 [(.iconst 0, 0, 0, 0)] 90 = true := by decide +kernel
theorem dX12_lacking_90 : decode (MB MX12_lacking) 90 = .ok (.goto 4, 3) := by decide +kernel
theorem sX12_lacking_93 : dsOk (MN MX12_lacking).cls (MB MX12_lacking) 93 [(.iconst 1, 0, 0, 0)] 94 = true := by decide +kernel
theorem sX12_lacking_94 : dsOk (MN MX12_lacking).cls (MB MX12_lacking) 94 [(.iadd, 0, 0, 0), (.istore_n 3, 0, 0, 0), (.iinc 4 1, 0, 0, 0)] 99 = true := by decide +kernel
theorem dX12_lacking_99 : decode (MB MX12_lacking) 99 = .ok (.goto (-94), 3) := by decide +kernel
theorem sX12_lacking_102 : dsOk (MN MX12_lacking).cls (MB MX12_lacking) 102 [(.iload_n 3, 0, 0, 0)] 103 = true := by decide +kernel
theorem dX12_lacking_103 : decode (MB MX12_lacking) 103 = .ok (.ireturn, 1) := by decide +kernel
def MX12_bitsOf : Ms := (yX12_bitsOf, cX12_bitsOf, 3, (some .int), [])
set_option maxRecDepth 100000 in
theorem kX12_bitsOf : mkS MX12_bitsOf 1 := ⟨⟨List.mem_of_getElem? (i := 2029) (by rfl), by decide +kernel⟩, by decide +kernel⟩
theorem sX12_bitsOf_0 : dsOk (MN MX12_bitsOf).cls (MB MX12_bitsOf) 0 [(.iconst 0, 0, 0, 0), (.istore_n 1, 0, 0, 0), (.iload_n 0, 0, 0, 0), (.istore_n 2, 0, 0, 0)] 4 = true := by decide +kernel
theorem sX12_bitsOf_4 : dsOk (MN MX12_bitsOf).cls (MB MX12_bitsOf) 4 [(.iload_n 2, 0, 0, 0)] 5 = true := by decide +kernel
theorem dX12_bitsOf_5 : decode (MB MX12_bitsOf) 5 = .ok (.ifCond .eq 15, 3) := by decide +kernel
theorem sX12_bitsOf_8 : dsOk (MN MX12_bitsOf).cls (MB MX12_bitsOf) 8 [(.iinc 1 1, 0, 0, 0), (.iload_n 2, 0, 0, 0), (.iload_n 2, 0, 0, 0), (.iconst 1, 0, 0, 0), (.isub, 0, 0, 0), (.iand, 0, 0, 0), (.istore_n 2, 0, 0, 0)] 17 = true := by decide +kernel
theorem dX12_bitsOf_17 : decode (MB MX12_bitsOf) 17 = .ok (.goto (-13), 3) := by decide +kernel
theorem sX12_bitsOf_20 : dsOk (MN MX12_bitsOf).cls (MB MX12_bitsOf) 20 [(.iload_n 1, 0, 0, 0)] 21 = true := by decide +kernel
theorem dX12_bitsOf_21 : decode (MB MX12_bitsOf) 21 = .ok (.ireturn, 1) := by decide +kernel
def MX12_whole : Ms := (yX12_whole, cX12_whole, 4, (some .int), [])
set_option maxRecDepth 100000 in
theorem kX12_whole : mkV MX12_whole 1 := ⟨⟨List.mem_of_getElem? (i := 2026) (by rfl), by decide +kernel⟩, by decide +kernel⟩
theorem sX12_whole_0 : dsOk (MN MX12_whole).cls (MB MX12_whole) 0 [(.aload_n 0, 0, 0, 0), (.iconst 0, 0, 0, 0), (.putfield 175, 11, 2, 0), (.aload_n 0, 0, 0, 0), (.iload_n 1, 0, 0, 0)] 7 = true := by decide +kernel
theorem dX12_whole_7 : decode (MB MX12_whole) 7 = .ok (.invokevirtual 386, 3) := by decide +kernel
theorem dX12_whole_10 : decode (MB MX12_whole) 10 = .ok (.ifCond .ne 9, 3) := by decide +kernel
theorem sX12_whole_13 : dsOk (MN MX12_whole).cls (MB MX12_whole) 13 [(.aload_n 0, 0, 0, 0), (.iconst 1, 0, 0, 0)] 15 = true := by decide +kernel
theorem dX12_whole_15 : decode (MB MX12_whole) 15 = .ok (.invokevirtual 324, 3) := by decide +kernel
theorem dX12_whole_18 : decode (MB MX12_whole) 18 = .ok (.ireturn, 1) := by decide +kernel
theorem sX12_whole_19 : dsOk (MN MX12_whole).cls (MB MX12_whole) 19 [(.iconst (-1), 0, 0, 0), (.istore_n 2, 0, 0, 0), (.iconst 0, 0, 0, 0), (.istore_n 3, 0, 0, 0)] 23 = true := by decide +kernel
theorem sX12_whole_23 : dsOk (MN MX12_whole).cls (MB MX12_whole) 23 [(.iload_n 3, 0, 0, 0), (.iconst 1, 0, 0, 0), (.aload_n 0, 0, 0, 0), (.getfield 40, 11, 3, 0), (.iconst 1, 0, 0, 0), (.iaload, 0, 0, 0), (.ishl, 0, 0, 0)] 32 = true := by decide +kernel
theorem dX12_whole_32 : decode (MB MX12_whole) 32 = .ok (.if_icmp .ge 36, 3) := by decide +kernel
theorem sX12_whole_35 : dsOk (MN MX12_whole).cls (MB MX12_whole) 35 [(.iload_n 2, 0, 0, 0), (.iconst (-1), 0, 0, 0)] 37 = true := by decide +kernel
theorem dX12_whole_37 : decode (MB MX12_whole) 37 = .ok (.if_icmp .eq 14, 3) := by decide +kernel
theorem sX12_whole_40 : dsOk (MN MX12_whole).cls (MB MX12_whole) 40 [(.iload_n 3, 0, 0, 0)] 41 = true := by decide +kernel
theorem dX12_whole_41 : decode (MB MX12_whole) 41 = .ok (.invokestatic 510, 3) := by decide +kernel
theorem sX12_whole_44 : dsOk (MN MX12_whole).cls (MB MX12_whole) 44 [(.iload_n 2, 0, 0, 0)] 45 = true := by decide +kernel
theorem dX12_whole_45 : decode (MB MX12_whole) 45 = .ok (.invokestatic 510, 3) := by decide +kernel
theorem dX12_whole_48 : decode (MB MX12_whole) 48 = .ok (.if_icmp .ge 14, 3) := by decide +kernel
theorem sX12_whole_51 : dsOk (MN MX12_whole).cls (MB MX12_whole) 51 [(.aload_n 0, 0, 0, 0), (.iload_n 1, 0, 0, 0), (.iload_n 3, 0, 0, 0)] 54 = true := by decide +kernel
theorem dX12_whole_54 : decode (MB MX12_whole) 54 = .ok (.invokevirtual 513, 3) := by decide +kernel
theorem dX12_whole_57 : decode (MB MX12_whole) 57 = .ok (.ifCond .ne 5, 3) := by decide +kernel
theorem sX12_whole_60 : dsOk (MN MX12_whole).cls (MB MX12_whole) 60 [(.iload_n 3, 0, 0, 0), (.istore_n 2, 0, 0, 0)] 62 = true := by decide +kernel
theorem sX12_whole_62 : dsOk (MN MX12_whole).cls (MB MX12_whole) 62 [(.iinc 3 1, 0, 0, 0)] 65 = true := by decide +kernel
theorem dX12_whole_65 : decode (MB MX12_whole) 65 = .ok (.goto (-42), 3) := by decide +kernel
theorem sX12_whole_68 : dsOk (MN MX12_whole).cls (MB MX12_whole) 68 [(.iload_n 2, 0, 0, 0)] 69 = true := by decide +kernel
theorem dX12_whole_69 : decode (MB MX12_whole) 69 = .ok (.ireturn, 1) := by decide +kernel
def MX12_bought : Ms := (yX12_bought, cX12_bought, 2, (some .int), [])
set_option maxRecDepth 100000 in
theorem kX12_bought : mkV MX12_bought 1 := ⟨⟨List.mem_of_getElem? (i := 2041) (by rfl), by decide +kernel⟩, by decide +kernel⟩
theorem sX12_bought_0 : dsOk (MN MX12_bought).cls (MB MX12_bought) 0 [(.aload_n 0, 0, 0, 0), (.iconst 0, 0, 0, 0), (.putfield 175, 11, 2, 0), (.aload_n 0, 0, 0, 0), (.iload_n 1, 0, 0, 0)] 7 = true := by decide +kernel
theorem dX12_bought_7 : decode (MB MX12_bought) 7 = .ok (.invokevirtual 386, 3) := by decide +kernel
theorem dX12_bought_10 : decode (MB MX12_bought) 10 = .ok (.ifCond .eq 21, 3) := by decide +kernel
theorem sX12_bought_13 : dsOk (MN MX12_bought).cls (MB MX12_bought) 13 [(.aload_n 0, 0, 0, 0), (.iload_n 1, 0, 0, 0), (.iconst 1, 0, 0, 0), (.aload_n 0, 0, 0, 0), (.getfield 40, 11, 3, 0), (.iconst 1, 0, 0, 0), (.iaload, 0, 0, 0), (.ishl, 0, 0, 0), (.iconst 1, 0, 0, 0), (.isub, 0, 0, 0)] 25 = true := by decide +kernel
theorem dX12_bought_25 : decode (MB MX12_bought) 25 = .ok (.invokevirtual 513, 3) := by decide +kernel
theorem dX12_bought_28 : decode (MB MX12_bought) 28 = .ok (.goto 8, 3) := by decide +kernel
theorem sX12_bought_31 : dsOk (MN MX12_bought).cls (MB MX12_bought) 31 [(.aload_n 0, 0, 0, 0), (.iconst 1, 0, 0, 0)] 33 = true := by decide +kernel
theorem dX12_bought_33 : decode (MB MX12_bought) 33 = .ok (.invokevirtual 324, 3) := by decide +kernel
theorem dX12_bought_36 : decode (MB MX12_bought) 36 = .ok (.ireturn, 1) := by decide +kernel
def MX12_index : Ms := (yX12_index, cX12_index, 7, (some .int), [])
set_option maxRecDepth 100000 in
theorem kX12_index : mkV MX12_index 2 := ⟨⟨List.mem_of_getElem? (i := 2045) (by rfl), by decide +kernel⟩, by decide +kernel⟩
theorem sX12_index_0 : dsOk (MN MX12_index).cls (MB MX12_index) 0 [(.aload_n 0, 0, 0, 0), (.iconst 0, 0, 0, 0), (.putfield 175, 11, 2, 0), (.aload_n 0, 0, 0, 0), (.iload_n 1, 0, 0, 0)] 7 = true := by decide +kernel
theorem dX12_index_7 : decode (MB MX12_index) 7 = .ok (.invokevirtual 386, 3) := by decide +kernel
theorem dX12_index_10 : decode (MB MX12_index) 10 = .ok (.ifCond .ne 9, 3) := by decide +kernel
theorem sX12_index_13 : dsOk (MN MX12_index).cls (MB MX12_index) 13 [(.aload_n 0, 0, 0, 0), (.iconst 1, 0, 0, 0)] 15 = true := by decide +kernel
theorem dX12_index_15 : decode (MB MX12_index) 15 = .ok (.invokevirtual 324, 3) := by decide +kernel
theorem dX12_index_18 : decode (MB MX12_index) 18 = .ok (.ireturn, 1) := by decide +kernel
theorem sX12_index_19 : dsOk (MN MX12_index).cls (MB MX12_index) 19 [(.aload_n 0, 0, 0, 0), (.iload_n 1, 0, 0, 0), (.iload_n 2, 0, 0, 0)] 22 = true := by decide +kernel
theorem dX12_index_22 : decode (MB MX12_index) 22 = .ok (.invokevirtual 396, 3) := by decide +kernel
theorem sX12_index_25 : dsOk (MN MX12_index).cls (MB MX12_index) 25 [(.lstore_n 3, 0, 0, 0), (.lload_n 3, 0, 0, 0), (.ldc2_w 358, 0, 0, -1), (.lcmp, 0, 0, 0)] 31 = true := by decide +kernel
theorem dX12_index_31 : decode (MB MX12_index) 31 = .ok (.ifCond .ne 5, 3) := by decide +kernel
theorem sX12_index_34 : dsOk (MN MX12_index).cls (MB MX12_index) 34 [(.iconst (-1), 0, 0, 0)] 35 = true := by decide +kernel
theorem dX12_index_35 : decode (MB MX12_index) 35 = .ok (.ireturn, 1) := by decide +kernel
theorem sX12_index_36 : dsOk (MN MX12_index).cls (MB MX12_index) 36 [(.lload_n 3, 0, 0, 0), (.lconst 1, 0, 0, 1), (.ladd, 0, 0, 0), (.ldc2_w 376, 0, 0, 2), (.ldiv, 0, 0, 0), (.lstore 5, 0, 0, 0), (.aload_n 0, 0, 0, 0), (.getfield 43, 11, 4, 0), (.iload_n 1, 0, 0, 0), (.iaload, 0, 0, 0), (.iconst 1, 0, 0, 0)] 52 = true := by decide +kernel
theorem dX12_index_52 : decode (MB MX12_index) 52 = .ok (.if_icmp .ne 20, 3) := by decide +kernel
theorem sX12_index_55 : dsOk (MN MX12_index).cls (MB MX12_index) 55 [(.lload 5, 0, 0, 0), (.ldc2_w 376, 0, 0, 2), (.lrem, 0, 0, 0), (.lconst 1, 0, 0, 1), (.lcmp, 0, 0, 0)] 63 = true := by decide +kernel
theorem dX12_index_63 : decode (MB MX12_index) 63 = .ok (.ifCond .ne 9, 3) := by decide +kernel
theorem sX12_index_66 : dsOk (MN MX12_index).cls (MB MX12_index) 66 [(.lload 5, 0, 0, 0), (.lconst 1, 0, 0, 1), (.ladd, 0, 0, 0), (.lstore 5, 0, 0, 0)] 72 = true := by decide +kernel
theorem sX12_index_72 : dsOk (MN MX12_index).cls (MB MX12_index) 72 [(.lconst 0, 0, 0, 0), (.lload 5, 0, 0, 0), (.aload_n 0, 0, 0, 0), (.getfield 49, 11, 6, 0), (.iload_n 1, 0, 0, 0), (.iaload, 0, 0, 0), (.i2l, 0, 0, 0), (.lsub, 0, 0, 0)] 83 = true := by decide +kernel
theorem dX12_index_83 : decode (MB MX12_index) 83 = .ok (.invokestatic 446, 3) := by decide +kernel
theorem sX12_index_86 : dsOk (MN MX12_index).cls (MB MX12_index) 86 [(.l2i, 0, 0, 0)] 87 = true := by decide +kernel
theorem dX12_index_87 : decode (MB MX12_index) 87 = .ok (.ireturn, 1) := by decide +kernel
def MX12_seed : Ms := (yX12_seed, cX12_seed, 8, (some .int), [])
set_option maxRecDepth 100000 in
theorem kX12_seed : mkV MX12_seed 3 := ⟨⟨List.mem_of_getElem? (i := 2049) (by rfl), by decide +kernel⟩, by decide +kernel⟩
theorem sX12_seed_0 : dsOk (MN MX12_seed).cls (MB MX12_seed) 0 [(.aload_n 0, 0, 0, 0), (.iconst 0, 0, 0, 0), (.putfield 175, 11, 2, 0), (.aload_n 0, 0, 0, 0), (.iload_n 1, 0, 0, 0)] 7 = true := by decide +kernel
theorem dX12_seed_7 : decode (MB MX12_seed) 7 = .ok (.invokevirtual 386, 3) := by decide +kernel
theorem dX12_seed_10 : decode (MB MX12_seed) 10 = .ok (.ifCond .ne 9, 3) := by decide +kernel
theorem sX12_seed_13 : dsOk (MN MX12_seed).cls (MB MX12_seed) 13 [(.aload_n 0, 0, 0, 0), (.iconst 1, 0, 0, 0)] 15 = true := by decide +kernel
theorem dX12_seed_15 : decode (MB MX12_seed) 15 = .ok (.invokevirtual 324, 3) := by decide +kernel
theorem dX12_seed_18 : decode (MB MX12_seed) 18 = .ok (.ireturn, 1) := by decide +kernel
theorem sX12_seed_19 : dsOk (MN MX12_seed).cls (MB MX12_seed) 19 [(.iload_n 3, 0, 0, 0), (.i2l, 0, 0, 0), (.lconst 0, 0, 0, 0), (.ldc2_w 470, 0, 0, 60)] 25 = true := by decide +kernel
theorem dX12_seed_25 : decode (MB MX12_seed) 25 = .ok (.invokestatic 178, 3) := by decide +kernel
theorem dX12_seed_28 : decode (MB MX12_seed) 28 = .ok (.ifCond .ne 9, 3) := by decide +kernel
theorem sX12_seed_31 : dsOk (MN MX12_seed).cls (MB MX12_seed) 31 [(.aload_n 0, 0, 0, 0), (.iconst 2, 0, 0, 0)] 33 = true := by decide +kernel
theorem dX12_seed_33 : decode (MB MX12_seed) 33 = .ok (.invokevirtual 324, 3) := by decide +kernel
theorem dX12_seed_36 : decode (MB MX12_seed) 36 = .ok (.ireturn, 1) := by decide +kernel
theorem sX12_seed_37 : dsOk (MN MX12_seed).cls (MB MX12_seed) 37 [(.aload_n 0, 0, 0, 0), (.getfield 51, 11, 7, 0), (.iload_n 1, 0, 0, 0), (.iaload, 0, 0, 0), (.iload_n 3, 0, 0, 0), (.iadd, 0, 0, 0), (.bipush 60, 0, 0, 60)] 47 = true := by decide +kernel
theorem dX12_seed_47 : decode (MB MX12_seed) 47 = .ok (.if_icmp .gt 20, 3) := by decide +kernel
theorem sX12_seed_50 : dsOk (MN MX12_seed).cls (MB MX12_seed) 50 [(.aload_n 0, 0, 0, 0), (.getfield 49, 11, 6, 0), (.iload_n 1, 0, 0, 0), (.iaload, 0, 0, 0), (.aload_n 0, 0, 0, 0), (.getfield 51, 11, 7, 0), (.iload_n 1, 0, 0, 0), (.iaload, 0, 0, 0), (.isub, 0, 0, 0), (.iload_n 3, 0, 0, 0)] 64 = true := by decide +kernel
theorem dX12_seed_64 : decode (MB MX12_seed) 64 = .ok (.if_icmp .ge 9, 3) := by decide +kernel
theorem sX12_seed_67 : dsOk (MN MX12_seed).cls (MB MX12_seed) 67 [(.aload_n 0, 0, 0, 0), (.iconst 1, 0, 0, 0)] 69 = true := by decide +kernel
theorem dX12_seed_69 : decode (MB MX12_seed) 69 = .ok (.invokevirtual 404, 3) := by decide +kernel
theorem dX12_seed_72 : decode (MB MX12_seed) 72 = .ok (.ireturn, 1) := by decide +kernel
theorem sX12_seed_73 : dsOk (MN MX12_seed).cls (MB MX12_seed) 73 [(.iload_n 2, 0, 0, 0), (.istore 4, 0, 0, 0), (.iconst 0, 0, 0, 0), (.istore 5, 0, 0, 0)] 79 = true := by decide +kernel
theorem sX12_seed_79 : dsOk (MN MX12_seed).cls (MB MX12_seed) 79 [(.iload 5, 0, 0, 0), (.iload_n 3, 0, 0, 0)] 82 = true := by decide +kernel
theorem dX12_seed_82 : decode (MB MX12_seed) 82 = .ok (.if_icmp .ge 98, 3) := by decide +kernel
theorem sX12_seed_85 : dsOk (MN MX12_seed).cls (MB MX12_seed) 85 [(.iload 4, 0, 0, 0), (.ldc_w 516, 0, 0, 1103515245), (.imul, 0, 0, 0), (.sipush 12345, 0, 0, 12345), (.iadd, 0, 0, 0), (.istore 4, 0, 0, 0), (.iload 4, 0, 0, 0), (.bipush 16, 0, 0, 16), (.ishr, 0, 0, 0), (.sipush 32767, 0, 0, 32767), (.iand, 0, 0, 0), (.aload_n 0, 0, 0, 0), (.getfield 49, 11, 6, 0), (.iload_n 1, 0, 0, 0), (.iaload, 0, 0, 0), (.aload_n 0, 0, 0, 0), (.getfield 51, 11, 7, 0), (.iload_n 1, 0, 0, 0), (.iaload, 0, 0, 0), (.isub, 0, 0, 0), (.irem, 0, 0, 0), (.istore 6, 0, 0, 0), (.iconst 0, 0, 0, 0), (.istore 7, 0, 0, 0)] 125 = true := by decide +kernel
theorem sX12_seed_125 : dsOk (MN MX12_seed).cls (MB MX12_seed) 125 [(.aload_n 0, 0, 0, 0), (.iload_n 1, 0, 0, 0), (.iload 7, 0, 0, 0)] 129 = true := by decide +kernel
theorem dX12_seed_129 : decode (MB MX12_seed) 129 = .ok (.invokevirtual 389, 3) := by decide +kernel
theorem dX12_seed_132 : decode (MB MX12_seed) 132 = .ok (.ifCond .ne 8, 3) := by decide +kernel
theorem sX12_seed_135 : dsOk (MN MX12_seed).cls (MB MX12_seed) 135 [(.iload 6, 0, 0, 0)] 137 = true := by decide +kernel
theorem dX12_seed_137 : decode (MB MX12_seed) 137 = .ok (.ifCond .le 29, 3) := by decide +kernel
theorem sX12_seed_140 : dsOk (MN MX12_seed).cls (MB MX12_seed) 140 [(.iload 6, 0, 0, 0), (.aload_n 0, 0, 0, 0), (.iload_n 1, 0, 0, 0), (.iload 7, 0, 0, 0)] 146 = true := by decide +kernel
theorem dX12_seed_146 : decode (MB MX12_seed) 146 = .ok (.invokevirtual 389, 3) := by decide +kernel
theorem dX12_seed_149 : decode (MB MX12_seed) 149 = .ok (.ifCond .eq 7, 3) := by decide +kernel
theorem sX12_seed_152 : dsOk (MN MX12_seed).cls (MB MX12_seed) 152 [(.iconst 0, 0, 0, 0)] 153 = true := by decide +kernel
theorem dX12_seed_153 : decode (MB MX12_seed) 153 = .ok (.goto 4, 3) := by decide +kernel
theorem sX12_seed_156 : dsOk (MN MX12_seed).cls (MB MX12_seed) 156 [(.iconst 1, 0, 0, 0)] 157 = true := by decide +kernel
theorem sX12_seed_157 : dsOk (MN MX12_seed).cls (MB MX12_seed) 157 [(.isub, 0, 0, 0), (.istore 6, 0, 0, 0), (.iinc 7 1, 0, 0, 0)] 163 = true := by decide +kernel
theorem dX12_seed_163 : decode (MB MX12_seed) 163 = .ok (.goto (-38), 3) := by decide +kernel
theorem sX12_seed_166 : dsOk (MN MX12_seed).cls (MB MX12_seed) 166 [(.aload_n 0, 0, 0, 0), (.iload_n 1, 0, 0, 0), (.iload 7, 0, 0, 0), (.iconst 0, 0, 0, 0)] 171 = true := by decide +kernel
theorem dX12_seed_171 : decode (MB MX12_seed) 171 = .ok (.invokevirtual 407, 3) := by decide +kernel
theorem sX12_seed_174 : dsOk (MN MX12_seed).cls (MB MX12_seed) 174 [(.iinc 5 1, 0, 0, 0)] 177 = true := by decide +kernel
theorem dX12_seed_177 : decode (MB MX12_seed) 177 = .ok (.goto (-98), 3) := by decide +kernel
theorem sX12_seed_180 : dsOk (MN MX12_seed).cls (MB MX12_seed) 180 [(.aload_n 0, 0, 0, 0), (.getfield 51, 11, 7, 0), (.iload_n 1, 0, 0, 0), (.iaload, 0, 0, 0)] 186 = true := by decide +kernel
theorem dX12_seed_186 : decode (MB MX12_seed) 186 = .ok (.ireturn, 1) := by decide +kernel
def MX12_sticks : Ms := (yX12_sticks, cX12_sticks, 4, (some .boolean), [])
set_option maxRecDepth 100000 in
theorem kX12_sticks : mkV MX12_sticks 2 := ⟨⟨List.mem_of_getElem? (i := 2058) (by rfl), by decide +kernel⟩, by decide +kernel⟩
theorem sX12_sticks_0 : dsOk (MN MX12_sticks).cls (MB MX12_sticks) 0 [(.iconst 0, 0, 0, 0), (.istore_n 3, 0, 0, 0)] 2 = true := by decide +kernel
theorem sX12_sticks_2 : dsOk (MN MX12_sticks).cls (MB MX12_sticks) 2 [(.iload_n 3, 0, 0, 0), (.aload_n 0, 0, 0, 0), (.getfield 338, 11, 48, 0)] 7 = true := by decide +kernel
theorem dX12_sticks_7 : decode (MB MX12_sticks) 7 = .ok (.if_icmp .ge 31, 3) := by decide +kernel
theorem sX12_sticks_10 : dsOk (MN MX12_sticks).cls (MB MX12_sticks) 10 [(.aload_n 0, 0, 0, 0), (.getfield 118, 11, 46, 0), (.iload_n 3, 0, 0, 0), (.iaload, 0, 0, 0), (.iload_n 1, 0, 0, 0)] 17 = true := by decide +kernel
theorem dX12_sticks_17 : decode (MB MX12_sticks) 17 = .ok (.if_icmp .ne 15, 3) := by decide +kernel
theorem sX12_sticks_20 : dsOk (MN MX12_sticks).cls (MB MX12_sticks) 20 [(.aload_n 0, 0, 0, 0), (.getfield 121, 11, 47, 0), (.iload_n 3, 0, 0, 0), (.iaload, 0, 0, 0), (.iload_n 2, 0, 0, 0)] 27 = true := by decide +kernel
theorem dX12_sticks_27 : decode (MB MX12_sticks) 27 = .ok (.if_icmp .ne 5, 3) := by decide +kernel
theorem sX12_sticks_30 : dsOk (MN MX12_sticks).cls (MB MX12_sticks) 30 [(.iconst 1, 0, 0, 0)] 31 = true := by decide +kernel
theorem dX12_sticks_31 : decode (MB MX12_sticks) 31 = .ok (.ireturn, 1) := by decide +kernel
theorem sX12_sticks_32 : dsOk (MN MX12_sticks).cls (MB MX12_sticks) 32 [(.iinc 3 1, 0, 0, 0)] 35 = true := by decide +kernel
theorem dX12_sticks_35 : decode (MB MX12_sticks) 35 = .ok (.goto (-33), 3) := by decide +kernel
theorem sX12_sticks_38 : dsOk (MN MX12_sticks).cls (MB MX12_sticks) 38 [(.iconst 0, 0, 0, 0)] 39 = true := by decide +kernel
theorem dX12_sticks_39 : decode (MB MX12_sticks) 39 = .ok (.ireturn, 1) := by decide +kernel
def MX12_stick : Ms := (yX12_stick, cX12_stick, 3, (some .int), [])
set_option maxRecDepth 100000 in
theorem kX12_stick : mkV MX12_stick 2 := ⟨⟨List.mem_of_getElem? (i := 2054) (by rfl), by decide +kernel⟩, by decide +kernel⟩
theorem sX12_stick_0 : dsOk (MN MX12_stick).cls (MB MX12_stick) 0 [(.aload_n 0, 0, 0, 0), (.iconst 0, 0, 0, 0), (.putfield 175, 11, 2, 0), (.aload_n 0, 0, 0, 0), (.iload_n 1, 0, 0, 0)] 7 = true := by decide +kernel
theorem dX12_stick_7 : decode (MB MX12_stick) 7 = .ok (.invokevirtual 386, 3) := by decide +kernel
theorem dX12_stick_10 : decode (MB MX12_stick) 10 = .ok (.ifCond .eq 21, 3) := by decide +kernel
theorem sX12_stick_13 : dsOk (MN MX12_stick).cls (MB MX12_stick) 13 [(.iload_n 2, 0, 0, 0), (.i2l, 0, 0, 0), (.lconst 0, 0, 0, 0), (.aload_n 0, 0, 0, 0), (.getfield 49, 11, 6, 0), (.iload_n 1, 0, 0, 0), (.iaload, 0, 0, 0), (.iconst 1, 0, 0, 0), (.isub, 0, 0, 0), (.i2l, 0, 0, 0)] 25 = true := by decide +kernel
theorem dX12_stick_25 : decode (MB MX12_stick) 25 = .ok (.invokestatic 178, 3) := by decide +kernel
theorem dX12_stick_28 : decode (MB MX12_stick) 28 = .ok (.ifCond .ne 9, 3) := by decide +kernel
theorem sX12_stick_31 : dsOk (MN MX12_stick).cls (MB MX12_stick) 31 [(.aload_n 0, 0, 0, 0), (.iconst 1, 0, 0, 0)] 33 = true := by decide +kernel
theorem dX12_stick_33 : decode (MB MX12_stick) 33 = .ok (.invokevirtual 324, 3) := by decide +kernel
theorem dX12_stick_36 : decode (MB MX12_stick) 36 = .ok (.ireturn, 1) := by decide +kernel
theorem sX12_stick_37 : dsOk (MN MX12_stick).cls (MB MX12_stick) 37 [(.aload_n 0, 0, 0, 0), (.getfield 338, 11, 48, 0), (.bipush 20, 0, 0, 20)] 43 = true := by decide +kernel
theorem dX12_stick_43 : decode (MB MX12_stick) 43 = .ok (.if_icmp .eq 44, 3) := by decide +kernel
theorem sX12_stick_46 : dsOk (MN MX12_stick).cls (MB MX12_stick) 46 [(.iload_n 2, 0, 0, 0), (.aload_n 0, 0, 0, 0), (.getfield 49, 11, 6, 0), (.iload_n 1, 0, 0, 0), (.iaload, 0, 0, 0), (.iconst 1, 0, 0, 0), (.isub, 0, 0, 0)] 55 = true := by decide +kernel
theorem dX12_stick_55 : decode (MB MX12_stick) 55 = .ok (.if_icmp .eq 32, 3) := by decide +kernel
theorem sX12_stick_58 : dsOk (MN MX12_stick).cls (MB MX12_stick) 58 [(.aload_n 0, 0, 0, 0), (.iload_n 1, 0, 0, 0), (.iload_n 2, 0, 0, 0)] 61 = true := by decide +kernel
theorem dX12_stick_61 : decode (MB MX12_stick) 61 = .ok (.invokevirtual 389, 3) := by decide +kernel
theorem dX12_stick_64 : decode (MB MX12_stick) 64 = .ok (.ifCond .ne 23, 3) := by decide +kernel
theorem sX12_stick_67 : dsOk (MN MX12_stick).cls (MB MX12_stick) 67 [(.aload_n 0, 0, 0, 0), (.iload_n 1, 0, 0, 0), (.iload_n 2, 0, 0, 0), (.iconst 1, 0, 0, 0), (.iadd, 0, 0, 0)] 72 = true := by decide +kernel
theorem dX12_stick_72 : decode (MB MX12_stick) 72 = .ok (.invokevirtual 389, 3) := by decide +kernel
theorem dX12_stick_75 : decode (MB MX12_stick) 75 = .ok (.ifCond .ne 12, 3) := by decide +kernel
theorem sX12_stick_78 : dsOk (MN MX12_stick).cls (MB MX12_stick) 78 [(.aload_n 0, 0, 0, 0), (.iload_n 1, 0, 0, 0), (.iload_n 2, 0, 0, 0)] 81 = true := by decide +kernel
theorem dX12_stick_81 : decode (MB MX12_stick) 81 = .ok (.invokevirtual 517, 3) := by decide +kernel
theorem dX12_stick_84 : decode (MB MX12_stick) 84 = .ok (.ifCond .eq 9, 3) := by decide +kernel
theorem sX12_stick_87 : dsOk (MN MX12_stick).cls (MB MX12_stick) 87 [(.aload_n 0, 0, 0, 0), (.iconst 3, 0, 0, 0)] 89 = true := by decide +kernel
theorem dX12_stick_89 : decode (MB MX12_stick) 89 = .ok (.invokevirtual 404, 3) := by decide +kernel
theorem dX12_stick_92 : decode (MB MX12_stick) 92 = .ok (.ireturn, 1) := by decide +kernel
theorem sX12_stick_93 : dsOk (MN MX12_stick).cls (MB MX12_stick) 93 [(.aload_n 0, 0, 0, 0), (.getfield 118, 11, 46, 0), (.aload_n 0, 0, 0, 0), (.getfield 338, 11, 48, 0), (.iload_n 1, 0, 0, 0), (.iastore, 0, 0, 0), (.aload_n 0, 0, 0, 0), (.getfield 121, 11, 47, 0), (.aload_n 0, 0, 0, 0), (.getfield 338, 11, 48, 0), (.iload_n 2, 0, 0, 0), (.iastore, 0, 0, 0), (.aload_n 0, 0, 0, 0), (.dup, 0, 0, 0), (.getfield 338, 11, 48, 0), (.iconst 1, 0, 0, 0), (.iadd, 0, 0, 0), (.putfield 338, 11, 48, 0), (.aload_n 0, 0, 0, 0), (.getfield 338, 11, 48, 0)] 127 = true := by decide +kernel
theorem dX12_stick_127 : decode (MB MX12_stick) 127 = .ok (.ireturn, 1) := by decide +kernel
def MX12_loosen : Ms := (yX12_loosen, cX12_loosen, 1, (some .int), [])
set_option maxRecDepth 100000 in
theorem kX12_loosen : mkV MX12_loosen 0 := ⟨⟨List.mem_of_getElem? (i := 2062) (by rfl), by decide +kernel⟩, by decide +kernel⟩
theorem sX12_loosen_0 : dsOk (MN MX12_loosen).cls (MB MX12_loosen) 0 [(.aload_n 0, 0, 0, 0), (.iconst 0, 0, 0, 0), (.putfield 175, 11, 2, 0), (.aload_n 0, 0, 0, 0), (.getfield 338, 11, 48, 0)] 9 = true := by decide +kernel
theorem dX12_loosen_9 : decode (MB MX12_loosen) 9 = .ok (.ifCond .ne 5, 3) := by decide +kernel
theorem sX12_loosen_12 : dsOk (MN MX12_loosen).cls (MB MX12_loosen) 12 [(.iconst (-1), 0, 0, 0)] 13 = true := by decide +kernel
theorem dX12_loosen_13 : decode (MB MX12_loosen) 13 = .ok (.ireturn, 1) := by decide +kernel
theorem sX12_loosen_14 : dsOk (MN MX12_loosen).cls (MB MX12_loosen) 14 [(.aload_n 0, 0, 0, 0), (.dup, 0, 0, 0), (.getfield 338, 11, 48, 0), (.iconst 1, 0, 0, 0), (.isub, 0, 0, 0), (.putfield 338, 11, 48, 0), (.aload_n 0, 0, 0, 0), (.getfield 338, 11, 48, 0)] 28 = true := by decide +kernel
theorem dX12_loosen_28 : decode (MB MX12_loosen) 28 = .ok (.ireturn, 1) := by decide +kernel
def MX12_isHidden : Ms := (yX12_isHidden, cX12_isHidden, 3, (some .boolean), [])
set_option maxRecDepth 100000 in
theorem kX12_isHidden : mkV MX12_isHidden 2 := ⟨⟨List.mem_of_getElem? (i := 2075) (by rfl), by decide +kernel⟩, by decide +kernel⟩
theorem sX12_isHidden_0 : dsOk (MN MX12_isHidden).cls (MB MX12_isHidden) 0 [(.aload_n 0, 0, 0, 0), (.iload_n 1, 0, 0, 0), (.iload_n 2, 0, 0, 0), (.iconst 2, 0, 0, 0), (.idiv, 0, 0, 0), (.iconst 1, 0, 0, 0), (.isub, 0, 0, 0)] 7 = true := by decide +kernel
theorem dX12_isHidden_7 : decode (MB MX12_isHidden) 7 = .ok (.invokevirtual 517, 3) := by decide +kernel
theorem dX12_isHidden_10 : decode (MB MX12_isHidden) 10 = .ok (.ireturn, 1) := by decide +kernel
def MX12_isRead : Ms := (yX12_isRead, cX12_isRead, 5, (some .boolean), [])
set_option maxRecDepth 100000 in
theorem kX12_isRead : mkV MX12_isRead 3 := ⟨⟨List.mem_of_getElem? (i := 2071) (by rfl), by decide +kernel⟩, by decide +kernel⟩
theorem sX12_isRead_0 : dsOk (MN MX12_isRead).cls (MB MX12_isRead) 0 [(.aload_n 0, 0, 0, 0), (.iload_n 1, 0, 0, 0), (.iload_n 2, 0, 0, 0)] 3 = true := by decide +kernel
theorem dX12_isRead_3 : decode (MB MX12_isRead) 3 = .ok (.invokevirtual 393, 3) := by decide +kernel
theorem sX12_isRead_6 : dsOk (MN MX12_isRead).cls (MB MX12_isRead) 6 [(.istore 4, 0, 0, 0), (.iload 4, 0, 0, 0)] 10 = true := by decide +kernel
theorem dX12_isRead_10 : decode (MB MX12_isRead) 10 = .ok (.ifCond .eq 25, 3) := by decide +kernel
theorem sX12_isRead_13 : dsOk (MN MX12_isRead).cls (MB MX12_isRead) 13 [(.aload_n 0, 0, 0, 0), (.iload_n 1, 0, 0, 0), (.iload_n 2, 0, 0, 0), (.iconst 1, 0, 0, 0), (.isub, 0, 0, 0), (.iconst 2, 0, 0, 0), (.idiv, 0, 0, 0)] 20 = true := by decide +kernel
theorem dX12_isRead_20 : decode (MB MX12_isRead) 20 = .ok (.invokevirtual 389, 3) := by decide +kernel
theorem dX12_isRead_23 : decode (MB MX12_isRead) 23 = .ok (.ifCond .ne 12, 3) := by decide +kernel
theorem sX12_isRead_26 : dsOk (MN MX12_isRead).cls (MB MX12_isRead) 26 [(.aload_n 0, 0, 0, 0), (.iload_n 1, 0, 0, 0), (.iload_n 2, 0, 0, 0)] 29 = true := by decide +kernel
theorem dX12_isRead_29 : decode (MB MX12_isRead) 29 = .ok (.invokevirtual 520, 3) := by decide +kernel
theorem dX12_isRead_32 : decode (MB MX12_isRead) 32 = .ok (.ifCond .eq 5, 3) := by decide +kernel
theorem sX12_isRead_35 : dsOk (MN MX12_isRead).cls (MB MX12_isRead) 35 [(.iconst 0, 0, 0, 0)] 36 = true := by decide +kernel
theorem dX12_isRead_36 : decode (MB MX12_isRead) 36 = .ok (.ireturn, 1) := by decide +kernel
theorem sX12_isRead_37 : dsOk (MN MX12_isRead).cls (MB MX12_isRead) 37 [(.iload_n 3, 0, 0, 0)] 38 = true := by decide +kernel
theorem dX12_isRead_38 : decode (MB MX12_isRead) 38 = .ok (.ifCond .eq 20, 3) := by decide +kernel
theorem sX12_isRead_41 : dsOk (MN MX12_isRead).cls (MB MX12_isRead) 41 [(.iload 4, 0, 0, 0), (.iload_n 3, 0, 0, 0), (.irem, 0, 0, 0)] 45 = true := by decide +kernel
theorem dX12_isRead_45 : decode (MB MX12_isRead) 45 = .ok (.ifCond .eq 17, 3) := by decide +kernel
theorem sX12_isRead_48 : dsOk (MN MX12_isRead).cls (MB MX12_isRead) 48 [(.iload 4, 0, 0, 0), (.i2l, 0, 0, 0), (.iload_n 3, 0, 0, 0)] 52 = true := by decide +kernel
theorem dX12_isRead_52 : decode (MB MX12_isRead) 52 = .ok (.invokestatic 400, 3) := by decide +kernel
theorem dX12_isRead_55 : decode (MB MX12_isRead) 55 = .ok (.ifCond .ne 7, 3) := by decide +kernel
theorem sX12_isRead_58 : dsOk (MN MX12_isRead).cls (MB MX12_isRead) 58 [(.iconst 1, 0, 0, 0)] 59 = true := by decide +kernel
theorem dX12_isRead_59 : decode (MB MX12_isRead) 59 = .ok (.goto 4, 3) := by decide +kernel
theorem sX12_isRead_62 : dsOk (MN MX12_isRead).cls (MB MX12_isRead) 62 [(.iconst 0, 0, 0, 0)] 63 = true := by decide +kernel
theorem dX12_isRead_63 : decode (MB MX12_isRead) 63 = .ok (.ireturn, 1) := by decide +kernel
def MX12_read : Ms := (yX12_read, cX12_read, 10, (some .long), [])
set_option maxRecDepth 100000 in
theorem kX12_read : mkV MX12_read 6 := ⟨⟨List.mem_of_getElem? (i := 2066) (by rfl), by decide +kernel⟩, by decide +kernel⟩
theorem sX12_read_0 : dsOk (MN MX12_read).cls (MB MX12_read) 0 [(.aload_n 0, 0, 0, 0), (.iconst 0, 0, 0, 0), (.putfield 175, 11, 2, 0), (.aload_n 0, 0, 0, 0), (.iload_n 1, 0, 0, 0)] 7 = true := by decide +kernel
theorem dX12_read_7 : decode (MB MX12_read) 7 = .ok (.invokevirtual 386, 3) := by decide +kernel
theorem dX12_read_10 : decode (MB MX12_read) 10 = .ok (.ifCond .eq 39, 3) := by decide +kernel
theorem sX12_read_13 : dsOk (MN MX12_read).cls (MB MX12_read) 13 [(.iload_n 2, 0, 0, 0), (.i2l, 0, 0, 0), (.lconst 1, 0, 0, 1), (.iconst 2, 0, 0, 0), (.aload_n 0, 0, 0, 0), (.getfield 49, 11, 6, 0), (.iload_n 1, 0, 0, 0), (.iaload, 0, 0, 0), (.imul, 0, 0, 0), (.i2l, 0, 0, 0)] 25 = true := by decide +kernel
theorem dX12_read_25 : decode (MB MX12_read) 25 = .ok (.invokestatic 178, 3) := by decide +kernel
theorem dX12_read_28 : decode (MB MX12_read) 28 = .ok (.ifCond .eq 21, 3) := by decide +kernel
theorem sX12_read_31 : dsOk (MN MX12_read).cls (MB MX12_read) 31 [(.iload_n 3, 0, 0, 0), (.i2l, 0, 0, 0), (.lconst 1, 0, 0, 1), (.iconst 2, 0, 0, 0), (.aload_n 0, 0, 0, 0), (.getfield 49, 11, 6, 0), (.iload_n 1, 0, 0, 0), (.iaload, 0, 0, 0), (.imul, 0, 0, 0), (.i2l, 0, 0, 0)] 43 = true := by decide +kernel
theorem dX12_read_43 : decode (MB MX12_read) 43 = .ok (.invokestatic 178, 3) := by decide +kernel
theorem dX12_read_46 : decode (MB MX12_read) 46 = .ok (.ifCond .ne 10, 3) := by decide +kernel
theorem sX12_read_49 : dsOk (MN MX12_read).cls (MB MX12_read) 49 [(.aload_n 0, 0, 0, 0), (.iconst 1, 0, 0, 0)] 51 = true := by decide +kernel
theorem dX12_read_51 : decode (MB MX12_read) 51 = .ok (.invokevirtual 324, 3) := by decide +kernel
theorem sX12_read_54 : dsOk (MN MX12_read).cls (MB MX12_read) 54 [(.i2l, 0, 0, 0)] 55 = true := by decide +kernel
theorem dX12_read_55 : decode (MB MX12_read) 55 = .ok (.lreturn, 1) := by decide +kernel
theorem sX12_read_56 : dsOk (MN MX12_read).cls (MB MX12_read) 56 [(.iload_n 3, 0, 0, 0), (.iload_n 2, 0, 0, 0)] 58 = true := by decide +kernel
theorem dX12_read_58 : decode (MB MX12_read) 58 = .ok (.if_icmp .lt 35, 3) := by decide +kernel
theorem sX12_read_61 : dsOk (MN MX12_read).cls (MB MX12_read) 61 [(.iload 4, 0, 0, 0), (.i2l, 0, 0, 0), (.lconst 1, 0, 0, 1), (.ldc2_w 523, 0, 0, 100)] 68 = true := by decide +kernel
theorem dX12_read_68 : decode (MB MX12_read) 68 = .ok (.invokestatic 178, 3) := by decide +kernel
theorem dX12_read_71 : decode (MB MX12_read) 71 = .ok (.ifCond .eq 22, 3) := by decide +kernel
theorem sX12_read_74 : dsOk (MN MX12_read).cls (MB MX12_read) 74 [(.iload 5, 0, 0, 0), (.i2l, 0, 0, 0), (.lconst 0, 0, 0, 0), (.ldc2_w 354, 0, 0, 9)] 81 = true := by decide +kernel
theorem dX12_read_81 : decode (MB MX12_read) 81 = .ok (.invokestatic 178, 3) := by decide +kernel
theorem dX12_read_84 : decode (MB MX12_read) 84 = .ok (.ifCond .eq 9, 3) := by decide +kernel
theorem sX12_read_87 : dsOk (MN MX12_read).cls (MB MX12_read) 87 [(.iload 5, 0, 0, 0), (.iconst 1, 0, 0, 0)] 90 = true := by decide +kernel
theorem dX12_read_90 : decode (MB MX12_read) 90 = .ok (.if_icmp .ne 10, 3) := by decide +kernel
theorem sX12_read_93 : dsOk (MN MX12_read).cls (MB MX12_read) 93 [(.aload_n 0, 0, 0, 0), (.iconst 2, 0, 0, 0)] 95 = true := by decide +kernel
theorem dX12_read_95 : decode (MB MX12_read) 95 = .ok (.invokevirtual 324, 3) := by decide +kernel
theorem sX12_read_98 : dsOk (MN MX12_read).cls (MB MX12_read) 98 [(.i2l, 0, 0, 0)] 99 = true := by decide +kernel
theorem dX12_read_99 : decode (MB MX12_read) 99 = .ok (.lreturn, 1) := by decide +kernel
theorem sX12_read_100 : dsOk (MN MX12_read).cls (MB MX12_read) 100 [(.lconst 0, 0, 0, 0), (.lstore 7, 0, 0, 0), (.iload_n 2, 0, 0, 0), (.istore 9, 0, 0, 0)] 106 = true := by decide +kernel
theorem sX12_read_106 : dsOk (MN MX12_read).cls (MB MX12_read) 106 [(.iload 9, 0, 0, 0), (.iload_n 3, 0, 0, 0)] 109 = true := by decide +kernel
theorem dX12_read_109 : decode (MB MX12_read) 109 = .ok (.if_icmp .gt 47, 3) := by decide +kernel
theorem sX12_read_112 : dsOk (MN MX12_read).cls (MB MX12_read) 112 [(.aload_n 0, 0, 0, 0), (.iload_n 1, 0, 0, 0), (.iload 9, 0, 0, 0), (.iload 5, 0, 0, 0)] 118 = true := by decide +kernel
theorem dX12_read_118 : decode (MB MX12_read) 118 = .ok (.invokevirtual 525, 3) := by decide +kernel
theorem dX12_read_121 : decode (MB MX12_read) 121 = .ok (.ifCond .eq 25, 3) := by decide +kernel
theorem sX12_read_124 : dsOk (MN MX12_read).cls (MB MX12_read) 124 [(.lload 7, 0, 0, 0), (.iload 6, 0, 0, 0)] 128 = true := by decide +kernel
theorem dX12_read_128 : decode (MB MX12_read) 128 = .ok (.ifCond .eq 7, 3) := by decide +kernel
theorem sX12_read_131 : dsOk (MN MX12_read).cls (MB MX12_read) 131 [(.lconst 1, 0, 0, 1)] 132 = true := by decide +kernel
theorem dX12_read_132 : decode (MB MX12_read) 132 = .ok (.goto 11, 3) := by decide +kernel
theorem sX12_read_135 : dsOk (MN MX12_read).cls (MB MX12_read) 135 [(.aload_n 0, 0, 0, 0), (.iload_n 1, 0, 0, 0), (.iload 9, 0, 0, 0)] 139 = true := by decide +kernel
theorem dX12_read_139 : decode (MB MX12_read) 139 = .ok (.invokevirtual 393, 3) := by decide +kernel
theorem sX12_read_142 : dsOk (MN MX12_read).cls (MB MX12_read) 142 [(.i2l, 0, 0, 0)] 143 = true := by decide +kernel
theorem sX12_read_143 : dsOk (MN MX12_read).cls (MB MX12_read) 143 [(.ladd, 0, 0, 0), (.lstore 7, 0, 0, 0)] 146 = true := by decide +kernel
theorem sX12_read_146 : dsOk (MN MX12_read).cls (MB MX12_read) 146 [(.iload 9, 0, 0, 0), (.iload 4, 0, 0, 0), (.iadd, 0, 0, 0), (.istore 9, 0, 0, 0)] 153 = true := by decide +kernel
theorem dX12_read_153 : decode (MB MX12_read) 153 = .ok (.goto (-47), 3) := by decide +kernel
theorem sX12_read_156 : dsOk (MN MX12_read).cls (MB MX12_read) 156 [(.lload 7, 0, 0, 0)] 158 = true := by decide +kernel
theorem dX12_read_158 : decode (MB MX12_read) 158 = .ok (.lreturn, 1) := by decide +kernel
def MX12_tellThere : Ms := (yX12_tellThere, cX12_tellThere, 4, (some .boolean), [])
set_option maxRecDepth 100000 in
theorem kX12_tellThere : mkV MX12_tellThere 2 := ⟨⟨List.mem_of_getElem? (i := 2083) (by rfl), by decide +kernel⟩, by decide +kernel⟩
theorem sX12_tellThere_0 : dsOk (MN MX12_tellThere).cls (MB MX12_tellThere) 0 [(.aload_n 0, 0, 0, 0), (.iconst 0, 0, 0, 0), (.putfield 528, 11, 56, 0), (.aload_n 0, 0, 0, 0), (.getfield 49, 11, 6, 0), (.iload_n 1, 0, 0, 0), (.iaload, 0, 0, 0), (.aload_n 0, 0, 0, 0), (.getfield 51, 11, 7, 0), (.iload_n 1, 0, 0, 0), (.iaload, 0, 0, 0), (.isub, 0, 0, 0), (.iload_n 2, 0, 0, 0)] 19 = true := by decide +kernel
theorem dX12_tellThere_19 : decode (MB MX12_tellThere) 19 = .ok (.if_icmp .le 5, 3) := by decide +kernel
theorem sX12_tellThere_22 : dsOk (MN MX12_tellThere).cls (MB MX12_tellThere) 22 [(.iconst 0, 0, 0, 0)] 23 = true := by decide +kernel
theorem dX12_tellThere_23 : decode (MB MX12_tellThere) 23 = .ok (.ireturn, 1) := by decide +kernel
theorem sX12_tellThere_24 : dsOk (MN MX12_tellThere).cls (MB MX12_tellThere) 24 [(.iconst 0, 0, 0, 0), (.istore_n 3, 0, 0, 0)] 26 = true := by decide +kernel
theorem sX12_tellThere_26 : dsOk (MN MX12_tellThere).cls (MB MX12_tellThere) 26 [(.iload_n 3, 0, 0, 0), (.aload_n 0, 0, 0, 0), (.getfield 49, 11, 6, 0), (.iload_n 1, 0, 0, 0), (.iaload, 0, 0, 0)] 33 = true := by decide +kernel
theorem dX12_tellThere_33 : decode (MB MX12_tellThere) 33 = .ok (.if_icmp .ge 73, 3) := by decide +kernel
theorem sX12_tellThere_36 : dsOk (MN MX12_tellThere).cls (MB MX12_tellThere) 36 [(.aload_n 0, 0, 0, 0), (.iload_n 1, 0, 0, 0), (.iload_n 3, 0, 0, 0)] 39 = true := by decide +kernel
theorem dX12_tellThere_39 : decode (MB MX12_tellThere) 39 = .ok (.invokevirtual 389, 3) := by decide +kernel
theorem dX12_tellThere_42 : decode (MB MX12_tellThere) 42 = .ok (.ifCond .eq 6, 3) := by decide +kernel
theorem dX12_tellThere_45 : decode (MB MX12_tellThere) 45 = .ok (.goto 55, 3) := by decide +kernel
theorem sX12_tellThere_48 : dsOk (MN MX12_tellThere).cls (MB MX12_tellThere) 48 [(.aload_n 0, 0, 0, 0), (.getfield 124, 11, 49, 0), (.aload_n 0, 0, 0, 0), (.getfield 528, 11, 56, 0), (.iload_n 3, 0, 0, 0), (.iastore, 0, 0, 0), (.aload_n 0, 0, 0, 0), (.getfield 139, 11, 54, 0), (.aload_n 0, 0, 0, 0), (.getfield 528, 11, 56, 0), (.aload_n 0, 0, 0, 0), (.iload_n 1, 0, 0, 0), (.iconst 2, 0, 0, 0), (.iload_n 3, 0, 0, 0), (.imul, 0, 0, 0), (.iconst 1, 0, 0, 0), (.iadd, 0, 0, 0)] 73 = true := by decide +kernel
theorem dX12_tellThere_73 : decode (MB MX12_tellThere) 73 = .ok (.invokevirtual 393, 3) := by decide +kernel
theorem sX12_tellThere_76 : dsOk (MN MX12_tellThere).cls (MB MX12_tellThere) 76 [(.i2l, 0, 0, 0), (.aload_n 0, 0, 0, 0), (.iload_n 1, 0, 0, 0), (.iconst 2, 0, 0, 0), (.iload_n 3, 0, 0, 0), (.imul, 0, 0, 0), (.iconst 2, 0, 0, 0), (.iadd, 0, 0, 0)] 84 = true := by decide +kernel
theorem dX12_tellThere_84 : decode (MB MX12_tellThere) 84 = .ok (.invokevirtual 393, 3) := by decide +kernel
theorem sX12_tellThere_87 : dsOk (MN MX12_tellThere).cls (MB MX12_tellThere) 87 [(.i2l, 0, 0, 0), (.ladd, 0, 0, 0), (.lastore, 0, 0, 0), (.aload_n 0, 0, 0, 0), (.dup, 0, 0, 0), (.getfield 528, 11, 56, 0), (.iconst 1, 0, 0, 0), (.iadd, 0, 0, 0), (.putfield 528, 11, 56, 0)] 100 = true := by decide +kernel
theorem sX12_tellThere_100 : dsOk (MN MX12_tellThere).cls (MB MX12_tellThere) 100 [(.iinc 3 1, 0, 0, 0)] 103 = true := by decide +kernel
theorem dX12_tellThere_103 : decode (MB MX12_tellThere) 103 = .ok (.goto (-77), 3) := by decide +kernel
theorem sX12_tellThere_106 : dsOk (MN MX12_tellThere).cls (MB MX12_tellThere) 106 [(.iconst 1, 0, 0, 0)] 107 = true := by decide +kernel
theorem dX12_tellThere_107 : decode (MB MX12_tellThere) 107 = .ok (.ireturn, 1) := by decide +kernel
def MX12_shareOn : Ms := (yX12_shareOn, cX12_shareOn, 8, none, [])
set_option maxRecDepth 100000 in
theorem kX12_shareOn : mkV MX12_shareOn 2 := ⟨⟨List.mem_of_getElem? (i := 2088) (by rfl), by decide +kernel⟩, by decide +kernel⟩
theorem sX12_shareOn_0 : dsOk (MN MX12_shareOn).cls (MB MX12_shareOn) 0 [(.iload_n 1, 0, 0, 0), (.aload_n 0, 0, 0, 0), (.getfield 528, 11, 56, 0)] 5 = true := by decide +kernel
theorem dX12_shareOn_5 : decode (MB MX12_shareOn) 5 = .ok (.if_icmp .ne 103, 3) := by decide +kernel
theorem sX12_shareOn_8 : dsOk (MN MX12_shareOn).cls (MB MX12_shareOn) 8 [(.aload_n 0, 0, 0, 0), (.getfield 142, 11, 55, 0), (.iconst 0, 0, 0, 0), (.laload, 0, 0, 0), (.lstore_n 3, 0, 0, 0), (.aload_n 0, 0, 0, 0), (.getfield 142, 11, 55, 0), (.iconst 0, 0, 0, 0), (.laload, 0, 0, 0), (.lstore 5, 0, 0, 0), (.iconst 1, 0, 0, 0), (.istore 7, 0, 0, 0)] 26 = true := by decide +kernel
theorem sX12_shareOn_26 : dsOk (MN MX12_shareOn).cls (MB MX12_shareOn) 26 [(.iload 7, 0, 0, 0), (.iload_n 2, 0, 0, 0)] 29 = true := by decide +kernel
theorem dX12_shareOn_29 : decode (MB MX12_shareOn) 29 = .ok (.if_icmp .ge 35, 3) := by decide +kernel
theorem sX12_shareOn_32 : dsOk (MN MX12_shareOn).cls (MB MX12_shareOn) 32 [(.lload_n 3, 0, 0, 0), (.aload_n 0, 0, 0, 0), (.getfield 142, 11, 55, 0), (.iload 7, 0, 0, 0), (.laload, 0, 0, 0)] 40 = true := by decide +kernel
theorem dX12_shareOn_40 : decode (MB MX12_shareOn) 40 = .ok (.invokestatic 531, 3) := by decide +kernel
theorem sX12_shareOn_43 : dsOk (MN MX12_shareOn).cls (MB MX12_shareOn) 43 [(.lstore_n 3, 0, 0, 0), (.lload 5, 0, 0, 0), (.aload_n 0, 0, 0, 0), (.getfield 142, 11, 55, 0), (.iload 7, 0, 0, 0), (.laload, 0, 0, 0)] 53 = true := by decide +kernel
theorem dX12_shareOn_53 : decode (MB MX12_shareOn) 53 = .ok (.invokestatic 446, 3) := by decide +kernel
theorem sX12_shareOn_56 : dsOk (MN MX12_shareOn).cls (MB MX12_shareOn) 56 [(.lstore 5, 0, 0, 0), (.iinc 7 1, 0, 0, 0)] 61 = true := by decide +kernel
theorem dX12_shareOn_61 : decode (MB MX12_shareOn) 61 = .ok (.goto (-35), 3) := by decide +kernel
theorem sX12_shareOn_64 : dsOk (MN MX12_shareOn).cls (MB MX12_shareOn) 64 [(.aload_n 0, 0, 0, 0), (.getfield 533, 11, 59, 0), (.ldc2_w 358, 0, 0, -1), (.lcmp, 0, 0, 0)] 72 = true := by decide +kernel
theorem dX12_shareOn_72 : decode (MB MX12_shareOn) 72 = .ok (.ifCond .eq 16, 3) := by decide +kernel
theorem sX12_shareOn_75 : dsOk (MN MX12_shareOn).cls (MB MX12_shareOn) 75 [(.lload 5, 0, 0, 0), (.lload_n 3, 0, 0, 0), (.lsub, 0, 0, 0), (.aload_n 0, 0, 0, 0), (.getfield 533, 11, 59, 0), (.lcmp, 0, 0, 0)] 84 = true := by decide +kernel
theorem dX12_shareOn_84 : decode (MB MX12_shareOn) 84 = .ok (.ifCond .lt 4, 3) := by decide +kernel
theorem dX12_shareOn_87 : decode (MB MX12_shareOn) 87 = .ok (.return_, 1) := by decide +kernel
theorem sX12_shareOn_88 : dsOk (MN MX12_shareOn).cls (MB MX12_shareOn) 88 [(.aload_n 0, 0, 0, 0), (.lload 5, 0, 0, 0), (.lload_n 3, 0, 0, 0), (.lsub, 0, 0, 0), (.putfield 533, 11, 59, 0), (.aload_n 0, 0, 0, 0), (.getfield 130, 11, 51, 0), (.aload_n 0, 0, 0, 0), (.getfield 127, 11, 50, 0)] 104 = true := by decide +kernel
theorem dX12_shareOn_104 : decode (MB MX12_shareOn) 104 = .ok (.invokestatic 536, 3) := by decide +kernel
theorem dX12_shareOn_107 : decode (MB MX12_shareOn) 107 = .ok (.return_, 1) := by decide +kernel
theorem sX12_shareOn_108 : dsOk (MN MX12_shareOn).cls (MB MX12_shareOn) 108 [(.iconst 0, 0, 0, 0), (.istore_n 3, 0, 0, 0)] 110 = true := by decide +kernel
theorem sX12_shareOn_110 : dsOk (MN MX12_shareOn).cls (MB MX12_shareOn) 110 [(.iload_n 3, 0, 0, 0), (.iload_n 2, 0, 0, 0)] 112 = true := by decide +kernel
theorem dX12_shareOn_112 : decode (MB MX12_shareOn) 112 = .ok (.if_icmp .ge 54, 3) := by decide +kernel
theorem sX12_shareOn_115 : dsOk (MN MX12_shareOn).cls (MB MX12_shareOn) 115 [(.aload_n 0, 0, 0, 0), (.getfield 127, 11, 50, 0), (.iload_n 1, 0, 0, 0), (.iload_n 3, 0, 0, 0), (.iastore, 0, 0, 0), (.aload_n 0, 0, 0, 0), (.getfield 142, 11, 55, 0), (.iload_n 3, 0, 0, 0), (.dup2, 0, 0, 0), (.laload, 0, 0, 0), (.aload_n 0, 0, 0, 0), (.getfield 139, 11, 54, 0), (.iload_n 1, 0, 0, 0), (.laload, 0, 0, 0), (.ladd, 0, 0, 0), (.lastore, 0, 0, 0), (.aload_n 0, 0, 0, 0), (.iload_n 1, 0, 0, 0), (.iconst 1, 0, 0, 0), (.iadd, 0, 0, 0), (.iload_n 2, 0, 0, 0)] 142 = true := by decide +kernel
theorem dX12_shareOn_142 : decode (MB MX12_shareOn) 142 = .ok (.invokevirtual 540, 3) := by decide +kernel
theorem sX12_shareOn_145 : dsOk (MN MX12_shareOn).cls (MB MX12_shareOn) 145 [(.aload_n 0, 0, 0, 0), (.getfield 142, 11, 55, 0), (.iload_n 3, 0, 0, 0), (.dup2, 0, 0, 0), (.laload, 0, 0, 0), (.aload_n 0, 0, 0, 0), (.getfield 139, 11, 54, 0), (.iload_n 1, 0, 0, 0), (.laload, 0, 0, 0), (.lsub, 0, 0, 0), (.lastore, 0, 0, 0), (.iinc 3 1, 0, 0, 0)] 163 = true := by decide +kernel
theorem dX12_shareOn_163 : decode (MB MX12_shareOn) 163 = .ok (.goto (-53), 3) := by decide +kernel
theorem dX12_shareOn_166 : decode (MB MX12_shareOn) 166 = .ok (.return_, 1) := by decide +kernel
def MX12_shares : Ms := (yX12_shares, cX12_shares, 4, (some .long), [])
set_option maxRecDepth 100000 in
theorem kX12_shares : mkV MX12_shares 2 := ⟨⟨List.mem_of_getElem? (i := 2079) (by rfl), by decide +kernel⟩, by decide +kernel⟩
theorem sX12_shares_0 : dsOk (MN MX12_shares).cls (MB MX12_shares) 0 [(.aload_n 0, 0, 0, 0), (.iconst 0, 0, 0, 0), (.putfield 175, 11, 2, 0), (.aload_n 0, 0, 0, 0), (.iload_n 1, 0, 0, 0)] 7 = true := by decide +kernel
theorem dX12_shares_7 : decode (MB MX12_shares) 7 = .ok (.invokevirtual 386, 3) := by decide +kernel
theorem dX12_shares_10 : decode (MB MX12_shares) 10 = .ok (.ifCond .ne 10, 3) := by decide +kernel
theorem sX12_shares_13 : dsOk (MN MX12_shares).cls (MB MX12_shares) 13 [(.aload_n 0, 0, 0, 0), (.iconst 1, 0, 0, 0)] 15 = true := by decide +kernel
theorem dX12_shares_15 : decode (MB MX12_shares) 15 = .ok (.invokevirtual 324, 3) := by decide +kernel
theorem sX12_shares_18 : dsOk (MN MX12_shares).cls (MB MX12_shares) 18 [(.i2l, 0, 0, 0)] 19 = true := by decide +kernel
theorem dX12_shares_19 : decode (MB MX12_shares) 19 = .ok (.lreturn, 1) := by decide +kernel
theorem sX12_shares_20 : dsOk (MN MX12_shares).cls (MB MX12_shares) 20 [(.iload_n 2, 0, 0, 0), (.i2l, 0, 0, 0), (.ldc2_w 376, 0, 0, 2), (.ldc2_w 435, 0, 0, 4)] 28 = true := by decide +kernel
theorem dX12_shares_28 : decode (MB MX12_shares) 28 = .ok (.invokestatic 178, 3) := by decide +kernel
theorem dX12_shares_31 : decode (MB MX12_shares) 31 = .ok (.ifCond .ne 10, 3) := by decide +kernel
theorem sX12_shares_34 : dsOk (MN MX12_shares).cls (MB MX12_shares) 34 [(.aload_n 0, 0, 0, 0), (.iconst 2, 0, 0, 0)] 36 = true := by decide +kernel
theorem dX12_shares_36 : decode (MB MX12_shares) 36 = .ok (.invokevirtual 324, 3) := by decide +kernel
theorem sX12_shares_39 : dsOk (MN MX12_shares).cls (MB MX12_shares) 39 [(.i2l, 0, 0, 0)] 40 = true := by decide +kernel
theorem dX12_shares_40 : decode (MB MX12_shares) 40 = .ok (.lreturn, 1) := by decide +kernel
theorem sX12_shares_41 : dsOk (MN MX12_shares).cls (MB MX12_shares) 41 [(.aload_n 0, 0, 0, 0), (.iload_n 1, 0, 0, 0), (.bipush 10, 0, 0, 10)] 45 = true := by decide +kernel
theorem dX12_shares_45 : decode (MB MX12_shares) 45 = .ok (.invokevirtual 544, 3) := by decide +kernel
theorem dX12_shares_48 : decode (MB MX12_shares) 48 = .ok (.ifCond .ne 7, 3) := by decide +kernel
theorem sX12_shares_51 : dsOk (MN MX12_shares).cls (MB MX12_shares) 51 [(.ldc2_w 547, 0, 0, -2)] 54 = true := by decide +kernel
theorem dX12_shares_54 : decode (MB MX12_shares) 54 = .ok (.lreturn, 1) := by decide +kernel
theorem sX12_shares_55 : dsOk (MN MX12_shares).cls (MB MX12_shares) 55 [(.iconst 0, 0, 0, 0), (.istore_n 3, 0, 0, 0)] 57 = true := by decide +kernel
theorem sX12_shares_57 : dsOk (MN MX12_shares).cls (MB MX12_shares) 57 [(.iload_n 3, 0, 0, 0), (.iconst 4, 0, 0, 0)] 59 = true := by decide +kernel
theorem dX12_shares_59 : decode (MB MX12_shares) 59 = .ok (.if_icmp .ge 16, 3) := by decide +kernel
theorem sX12_shares_62 : dsOk (MN MX12_shares).cls (MB MX12_shares) 62 [(.aload_n 0, 0, 0, 0), (.getfield 142, 11, 55, 0), (.iload_n 3, 0, 0, 0), (.lconst 0, 0, 0, 0), (.lastore, 0, 0, 0), (.iinc 3 1, 0, 0, 0)] 72 = true := by decide +kernel
theorem dX12_shares_72 : decode (MB MX12_shares) 72 = .ok (.goto (-15), 3) := by decide +kernel
theorem sX12_shares_75 : dsOk (MN MX12_shares).cls (MB MX12_shares) 75 [(.aload_n 0, 0, 0, 0), (.ldc2_w 358, 0, 0, -1), (.putfield 533, 11, 59, 0), (.aload_n 0, 0, 0, 0), (.iconst 0, 0, 0, 0), (.iload_n 2, 0, 0, 0)] 85 = true := by decide +kernel
theorem dX12_shares_85 : decode (MB MX12_shares) 85 = .ok (.invokevirtual 540, 3) := by decide +kernel
theorem sX12_shares_88 : dsOk (MN MX12_shares).cls (MB MX12_shares) 88 [(.aload_n 0, 0, 0, 0), (.aload_n 0, 0, 0, 0), (.getfield 528, 11, 56, 0), (.putfield 145, 11, 57, 0), (.aload_n 0, 0, 0, 0), (.getfield 533, 11, 59, 0)] 100 = true := by decide +kernel
theorem dX12_shares_100 : decode (MB MX12_shares) 100 = .ok (.lreturn, 1) := by decide +kernel
def MX12_child : Ms := (yX12_child, cX12_child, 2, (some .int), [])
set_option maxRecDepth 100000 in
theorem kX12_child : mkV MX12_child 1 := ⟨⟨List.mem_of_getElem? (i := 2096) (by rfl), by decide +kernel⟩, by decide +kernel⟩
theorem sX12_child_0 : dsOk (MN MX12_child).cls (MB MX12_child) 0 [(.aload_n 0, 0, 0, 0), (.iconst 0, 0, 0, 0), (.putfield 175, 11, 2, 0), (.aload_n 0, 0, 0, 0), (.getfield 145, 11, 57, 0), (.iconst (-1), 0, 0, 0)] 10 = true := by decide +kernel
theorem dX12_child_10 : decode (MB MX12_child) 10 = .ok (.if_icmp .eq 28, 3) := by decide +kernel
theorem sX12_child_13 : dsOk (MN MX12_child).cls (MB MX12_child) 13 [(.iload_n 1, 0, 0, 0), (.i2l, 0, 0, 0), (.lconst 0, 0, 0, 0), (.aload_n 0, 0, 0, 0), (.getfield 145, 11, 57, 0), (.iconst 1, 0, 0, 0), (.isub, 0, 0, 0), (.i2l, 0, 0, 0)] 23 = true := by decide +kernel
theorem dX12_child_23 : decode (MB MX12_child) 23 = .ok (.invokestatic 178, 3) := by decide +kernel
theorem dX12_child_26 : decode (MB MX12_child) 26 = .ok (.ifCond .eq 12, 3) := by decide +kernel
theorem sX12_child_29 : dsOk (MN MX12_child).cls (MB MX12_child) 29 [(.aload_n 0, 0, 0, 0), (.getfield 130, 11, 51, 0), (.iload_n 1, 0, 0, 0), (.iaload, 0, 0, 0)] 35 = true := by decide +kernel
theorem dX12_child_35 : decode (MB MX12_child) 35 = .ok (.goto 8, 3) := by decide +kernel
theorem sX12_child_38 : dsOk (MN MX12_child).cls (MB MX12_child) 38 [(.aload_n 0, 0, 0, 0), (.iconst 1, 0, 0, 0)] 40 = true := by decide +kernel
theorem dX12_child_40 : decode (MB MX12_child) 40 = .ok (.invokevirtual 324, 3) := by decide +kernel
theorem dX12_child_43 : decode (MB MX12_child) 43 = .ok (.ireturn, 1) := by decide +kernel
def MX12_tearOn : Ms := (yX12_tearOn, cX12_tearOn, 7, (some .boolean), [])
set_option maxRecDepth 100000 in
theorem kX12_tearOn : mkV MX12_tearOn 4 := ⟨⟨List.mem_of_getElem? (i := 2104) (by rfl), by decide +kernel⟩, by decide +kernel⟩
theorem sX12_tearOn_0 : dsOk (MN MX12_tearOn).cls (MB MX12_tearOn) 0 [(.iload_n 1, 0, 0, 0), (.iload_n 2, 0, 0, 0)] 2 = true := by decide +kernel
theorem dX12_tearOn_2 : decode (MB MX12_tearOn) 2 = .ok (.if_icmp .ne 16, 3) := by decide +kernel
theorem sX12_tearOn_5 : dsOk (MN MX12_tearOn).cls (MB MX12_tearOn) 5 [(.lload 4, 0, 0, 0), (.lconst 0, 0, 0, 0), (.lcmp, 0, 0, 0)] 9 = true := by decide +kernel
theorem dX12_tearOn_9 : decode (MB MX12_tearOn) 9 = .ok (.ifCond .ne 7, 3) := by decide +kernel
theorem sX12_tearOn_12 : dsOk (MN MX12_tearOn).cls (MB MX12_tearOn) 12 [(.iconst 1, 0, 0, 0)] 13 = true := by decide +kernel
theorem dX12_tearOn_13 : decode (MB MX12_tearOn) 13 = .ok (.goto 4, 3) := by decide +kernel
theorem sX12_tearOn_16 : dsOk (MN MX12_tearOn).cls (MB MX12_tearOn) 16 [(.iconst 0, 0, 0, 0)] 17 = true := by decide +kernel
theorem dX12_tearOn_17 : decode (MB MX12_tearOn) 17 = .ok (.ireturn, 1) := by decide +kernel
theorem sX12_tearOn_18 : dsOk (MN MX12_tearOn).cls (MB MX12_tearOn) 18 [(.iload_n 3, 0, 0, 0), (.istore 6, 0, 0, 0)] 21 = true := by decide +kernel
theorem sX12_tearOn_21 : dsOk (MN MX12_tearOn).cls (MB MX12_tearOn) 21 [(.iload 6, 0, 0, 0), (.aload_n 0, 0, 0, 0), (.getfield 528, 11, 56, 0)] 27 = true := by decide +kernel
theorem dX12_tearOn_27 : decode (MB MX12_tearOn) 27 = .ok (.if_icmp .ge 49, 3) := by decide +kernel
theorem sX12_tearOn_30 : dsOk (MN MX12_tearOn).cls (MB MX12_tearOn) 30 [(.aload_n 0, 0, 0, 0), (.getfield 133, 11, 52, 0), (.iload_n 1, 0, 0, 0), (.aload_n 0, 0, 0, 0), (.getfield 124, 11, 49, 0), (.iload 6, 0, 0, 0), (.iaload, 0, 0, 0), (.iastore, 0, 0, 0), (.aload_n 0, 0, 0, 0), (.iload_n 1, 0, 0, 0), (.iconst 1, 0, 0, 0), (.iadd, 0, 0, 0), (.iload_n 2, 0, 0, 0), (.iload 6, 0, 0, 0), (.iconst 1, 0, 0, 0), (.iadd, 0, 0, 0), (.lload 4, 0, 0, 0), (.aload_n 0, 0, 0, 0), (.getfield 139, 11, 54, 0), (.iload 6, 0, 0, 0), (.laload, 0, 0, 0), (.lsub, 0, 0, 0)] 62 = true := by decide +kernel
theorem dX12_tearOn_62 : decode (MB MX12_tearOn) 62 = .ok (.invokevirtual 549, 3) := by decide +kernel
theorem dX12_tearOn_65 : decode (MB MX12_tearOn) 65 = .ok (.ifCond .eq 5, 3) := by decide +kernel
theorem sX12_tearOn_68 : dsOk (MN MX12_tearOn).cls (MB MX12_tearOn) 68 [(.iconst 1, 0, 0, 0)] 69 = true := by decide +kernel
theorem dX12_tearOn_69 : decode (MB MX12_tearOn) 69 = .ok (.ireturn, 1) := by decide +kernel
theorem sX12_tearOn_70 : dsOk (MN MX12_tearOn).cls (MB MX12_tearOn) 70 [(.iinc 6 1, 0, 0, 0)] 73 = true := by decide +kernel
theorem dX12_tearOn_73 : decode (MB MX12_tearOn) 73 = .ok (.goto (-52), 3) := by decide +kernel
theorem sX12_tearOn_76 : dsOk (MN MX12_tearOn).cls (MB MX12_tearOn) 76 [(.iconst 0, 0, 0, 0)] 77 = true := by decide +kernel
theorem dX12_tearOn_77 : decode (MB MX12_tearOn) 77 = .ok (.ireturn, 1) := by decide +kernel
def MX12_least : Ms := (yX12_least, cX12_least, 7, (some .int), [])
set_option maxRecDepth 100000 in
theorem kX12_least : mkV MX12_least 2 := ⟨⟨List.mem_of_getElem? (i := 2100) (by rfl), by decide +kernel⟩, by decide +kernel⟩
theorem sX12_least_0 : dsOk (MN MX12_least).cls (MB MX12_least) 0 [(.aload_n 0, 0, 0, 0), (.iconst 0, 0, 0, 0), (.putfield 175, 11, 2, 0), (.aload_n 0, 0, 0, 0), (.iload_n 1, 0, 0, 0)] 7 = true := by decide +kernel
theorem dX12_least_7 : decode (MB MX12_least) 7 = .ok (.invokevirtual 386, 3) := by decide +kernel
theorem dX12_least_10 : decode (MB MX12_least) 10 = .ok (.ifCond .ne 9, 3) := by decide +kernel
theorem sX12_least_13 : dsOk (MN MX12_least).cls (MB MX12_least) 13 [(.aload_n 0, 0, 0, 0), (.iconst 1, 0, 0, 0)] 15 = true := by decide +kernel
theorem dX12_least_15 : decode (MB MX12_least) 15 = .ok (.invokevirtual 324, 3) := by decide +kernel
theorem dX12_least_18 : decode (MB MX12_least) 18 = .ok (.ireturn, 1) := by decide +kernel
theorem sX12_least_19 : dsOk (MN MX12_least).cls (MB MX12_least) 19 [(.lload_n 2, 0, 0, 0), (.lconst 0, 0, 0, 0), (.ldc2_w 424, 0, 0, 1000000000000000000)] 24 = true := by decide +kernel
theorem dX12_least_24 : decode (MB MX12_least) 24 = .ok (.invokestatic 178, 3) := by decide +kernel
theorem dX12_least_27 : decode (MB MX12_least) 27 = .ok (.ifCond .ne 9, 3) := by decide +kernel
theorem sX12_least_30 : dsOk (MN MX12_least).cls (MB MX12_least) 30 [(.aload_n 0, 0, 0, 0), (.iconst 2, 0, 0, 0)] 32 = true := by decide +kernel
theorem dX12_least_32 : decode (MB MX12_least) 32 = .ok (.invokevirtual 324, 3) := by decide +kernel
theorem dX12_least_35 : decode (MB MX12_least) 35 = .ok (.ireturn, 1) := by decide +kernel
theorem sX12_least_36 : dsOk (MN MX12_least).cls (MB MX12_least) 36 [(.aload_n 0, 0, 0, 0), (.iload_n 1, 0, 0, 0), (.bipush 30, 0, 0, 30)] 40 = true := by decide +kernel
theorem dX12_least_40 : decode (MB MX12_least) 40 = .ok (.invokevirtual 544, 3) := by decide +kernel
theorem dX12_least_43 : decode (MB MX12_least) 43 = .ok (.ifCond .ne 6, 3) := by decide +kernel
theorem sX12_least_46 : dsOk (MN MX12_least).cls (MB MX12_least) 46 [(.bipush (-2), 0, 0, -2)] 48 = true := by decide +kernel
theorem dX12_least_48 : decode (MB MX12_least) 48 = .ok (.ireturn, 1) := by decide +kernel
theorem sX12_least_49 : dsOk (MN MX12_least).cls (MB MX12_least) 49 [(.lconst 0, 0, 0, 0), (.lstore 4, 0, 0, 0), (.iconst 0, 0, 0, 0), (.istore 6, 0, 0, 0)] 55 = true := by decide +kernel
theorem sX12_least_55 : dsOk (MN MX12_least).cls (MB MX12_least) 55 [(.iload 6, 0, 0, 0), (.aload_n 0, 0, 0, 0), (.getfield 528, 11, 56, 0)] 61 = true := by decide +kernel
theorem dX12_least_61 : decode (MB MX12_least) 61 = .ok (.if_icmp .ge 21, 3) := by decide +kernel
theorem sX12_least_64 : dsOk (MN MX12_least).cls (MB MX12_least) 64 [(.lload 4, 0, 0, 0), (.aload_n 0, 0, 0, 0), (.getfield 139, 11, 54, 0), (.iload 6, 0, 0, 0), (.laload, 0, 0, 0), (.ladd, 0, 0, 0), (.lstore 4, 0, 0, 0), (.iinc 6 1, 0, 0, 0)] 79 = true := by decide +kernel
theorem dX12_least_79 : decode (MB MX12_least) 79 = .ok (.goto (-24), 3) := by decide +kernel
theorem sX12_least_82 : dsOk (MN MX12_least).cls (MB MX12_least) 82 [(.iconst 0, 0, 0, 0), (.istore 6, 0, 0, 0)] 85 = true := by decide +kernel
theorem sX12_least_85 : dsOk (MN MX12_least).cls (MB MX12_least) 85 [(.iload 6, 0, 0, 0), (.iconst 4, 0, 0, 0)] 88 = true := by decide +kernel
theorem dX12_least_88 : decode (MB MX12_least) 88 = .ok (.if_icmp .gt 47, 3) := by decide +kernel
theorem sX12_least_91 : dsOk (MN MX12_least).cls (MB MX12_least) 91 [(.aload_n 0, 0, 0, 0), (.iconst 0, 0, 0, 0), (.iload 6, 0, 0, 0), (.iconst 0, 0, 0, 0), (.lload 4, 0, 0, 0), (.lload_n 2, 0, 0, 0), (.lsub, 0, 0, 0)] 100 = true := by decide +kernel
theorem dX12_least_100 : decode (MB MX12_least) 100 = .ok (.invokevirtual 549, 3) := by decide +kernel
theorem dX12_least_103 : decode (MB MX12_least) 103 = .ok (.ifCond .ne 6, 3) := by decide +kernel
theorem dX12_least_106 : decode (MB MX12_least) 106 = .ok (.goto 23, 3) := by decide +kernel
theorem sX12_least_109 : dsOk (MN MX12_least).cls (MB MX12_least) 109 [(.aload_n 0, 0, 0, 0), (.iload 6, 0, 0, 0), (.putfield 148, 11, 58, 0), (.aload_n 0, 0, 0, 0), (.getfield 136, 11, 53, 0), (.aload_n 0, 0, 0, 0), (.getfield 133, 11, 52, 0)] 123 = true := by decide +kernel
theorem dX12_least_123 : decode (MB MX12_least) 123 = .ok (.invokestatic 536, 3) := by decide +kernel
theorem sX12_least_126 : dsOk (MN MX12_least).cls (MB MX12_least) 126 [(.iload 6, 0, 0, 0)] 128 = true := by decide +kernel
theorem dX12_least_128 : decode (MB MX12_least) 128 = .ok (.ireturn, 1) := by decide +kernel
theorem sX12_least_129 : dsOk (MN MX12_least).cls (MB MX12_least) 129 [(.iinc 6 1, 0, 0, 0)] 132 = true := by decide +kernel
theorem dX12_least_132 : decode (MB MX12_least) 132 = .ok (.goto (-47), 3) := by decide +kernel
theorem sX12_least_135 : dsOk (MN MX12_least).cls (MB MX12_least) 135 [(.iconst (-1), 0, 0, 0)] 136 = true := by decide +kernel
theorem dX12_least_136 : decode (MB MX12_least) 136 = .ok (.ireturn, 1) := by decide +kernel
def MX12_torn : Ms := (yX12_torn, cX12_torn, 2, (some .int), [])
set_option maxRecDepth 100000 in
theorem kX12_torn : mkV MX12_torn 1 := ⟨⟨List.mem_of_getElem? (i := 2108) (by rfl), by decide +kernel⟩, by decide +kernel⟩
theorem sX12_torn_0 : dsOk (MN MX12_torn).cls (MB MX12_torn) 0 [(.aload_n 0, 0, 0, 0), (.iconst 0, 0, 0, 0), (.putfield 175, 11, 2, 0), (.aload_n 0, 0, 0, 0), (.getfield 148, 11, 58, 0), (.iconst (-1), 0, 0, 0)] 10 = true := by decide +kernel
theorem dX12_torn_10 : decode (MB MX12_torn) 10 = .ok (.if_icmp .eq 28, 3) := by decide +kernel
theorem sX12_torn_13 : dsOk (MN MX12_torn).cls (MB MX12_torn) 13 [(.iload_n 1, 0, 0, 0), (.i2l, 0, 0, 0), (.lconst 0, 0, 0, 0), (.aload_n 0, 0, 0, 0), (.getfield 148, 11, 58, 0), (.iconst 1, 0, 0, 0), (.isub, 0, 0, 0), (.i2l, 0, 0, 0)] 23 = true := by decide +kernel
theorem dX12_torn_23 : decode (MB MX12_torn) 23 = .ok (.invokestatic 178, 3) := by decide +kernel
theorem dX12_torn_26 : decode (MB MX12_torn) 26 = .ok (.ifCond .eq 12, 3) := by decide +kernel
theorem sX12_torn_29 : dsOk (MN MX12_torn).cls (MB MX12_torn) 29 [(.aload_n 0, 0, 0, 0), (.getfield 136, 11, 53, 0), (.iload_n 1, 0, 0, 0), (.iaload, 0, 0, 0)] 35 = true := by decide +kernel
theorem dX12_torn_35 : decode (MB MX12_torn) 35 = .ok (.goto 8, 3) := by decide +kernel
theorem sX12_torn_38 : dsOk (MN MX12_torn).cls (MB MX12_torn) 38 [(.aload_n 0, 0, 0, 0), (.iconst 1, 0, 0, 0)] 40 = true := by decide +kernel
theorem dX12_torn_40 : decode (MB MX12_torn) 40 = .ok (.invokevirtual 324, 3) := by decide +kernel
theorem dX12_torn_43 : decode (MB MX12_torn) 43 = .ok (.ireturn, 1) := by decide +kernel
def MX12_be : Ms := (yX12_be, cX12_be, 3, none, [])
set_option maxRecDepth 100000 in
theorem kX12_be : mkS MX12_be 2 := ⟨⟨List.mem_of_getElem? (i := 2092) (by rfl), by decide +kernel⟩, by decide +kernel⟩
theorem sX12_be_0 : dsOk (MN MX12_be).cls (MB MX12_be) 0 [(.iconst 0, 0, 0, 0), (.istore_n 2, 0, 0, 0)] 2 = true := by decide +kernel
theorem sX12_be_2 : dsOk (MN MX12_be).cls (MB MX12_be) 2 [(.iload_n 2, 0, 0, 0), (.aload_n 0, 0, 0, 0), (.arraylength, 0, 0, 0)] 5 = true := by decide +kernel
theorem dX12_be_5 : decode (MB MX12_be) 5 = .ok (.if_icmp .ge 15, 3) := by decide +kernel
theorem sX12_be_8 : dsOk (MN MX12_be).cls (MB MX12_be) 8 [(.aload_n 0, 0, 0, 0), (.iload_n 2, 0, 0, 0), (.aload_n 1, 0, 0, 0), (.iload_n 2, 0, 0, 0), (.iaload, 0, 0, 0), (.iastore, 0, 0, 0), (.iinc 2 1, 0, 0, 0)] 17 = true := by decide +kernel
theorem dX12_be_17 : decode (MB MX12_be) 17 = .ok (.goto (-15), 3) := by decide +kernel
theorem dX12_be_20 : decode (MB MX12_be) 20 = .ok (.return_, 1) := by decide +kernel
def MX12_beAs : Ms := (yX12_beAs, cX12_beAs, 3, none, [])
set_option maxRecDepth 100000 in
theorem kX12_beAs : mkS MX12_beAs 2 := ⟨⟨List.mem_of_getElem? (i := 2115) (by rfl), by decide +kernel⟩, by decide +kernel⟩
theorem sX12_beAs_0 : dsOk (MN MX12_beAs).cls (MB MX12_beAs) 0 [(.iconst 0, 0, 0, 0), (.istore_n 2, 0, 0, 0)] 2 = true := by decide +kernel
theorem sX12_beAs_2 : dsOk (MN MX12_beAs).cls (MB MX12_beAs) 2 [(.iload_n 2, 0, 0, 0), (.aload_n 0, 0, 0, 0), (.arraylength, 0, 0, 0)] 5 = true := by decide +kernel
theorem dX12_beAs_5 : decode (MB MX12_beAs) 5 = .ok (.if_icmp .ge 15, 3) := by decide +kernel
theorem sX12_beAs_8 : dsOk (MN MX12_beAs).cls (MB MX12_beAs) 8 [(.aload_n 0, 0, 0, 0), (.iload_n 2, 0, 0, 0), (.aload_n 1, 0, 0, 0), (.iload_n 2, 0, 0, 0), (.baload, 0, 0, 0), (.bastore, 0, 0, 0), (.iinc 2 1, 0, 0, 0)] 17 = true := by decide +kernel
theorem dX12_beAs_17 : decode (MB MX12_beAs) 17 = .ok (.goto (-15), 3) := by decide +kernel
theorem dX12_beAs_20 : decode (MB MX12_beAs) 20 = .ok (.return_, 1) := by decide +kernel
def MX12_image : Ms := (yX12_image, cX12_image, 1, none, [])
set_option maxRecDepth 100000 in
theorem kX12_image : mkV MX12_image 0 := ⟨⟨List.mem_of_getElem? (i := 2112) (by rfl), by decide +kernel⟩, by decide +kernel⟩
theorem sX12_image_0 : dsOk (MN MX12_image).cls (MB MX12_image) 0 [(.aload_n 0, 0, 0, 0), (.iconst 0, 0, 0, 0), (.putfield 175, 11, 2, 0), (.aload_n 0, 0, 0, 0), (.iconst 1, 0, 0, 0), (.putfield 350, 11, 60, 0), (.aload_n 0, 0, 0, 0), (.aload_n 0, 0, 0, 0), (.getfield 341, 11, 34, 0), (.putfield 553, 11, 62, 0), (.aload_n 0, 0, 0, 0), (.aload_n 0, 0, 0, 0), (.getfield 338, 11, 48, 0), (.putfield 556, 11, 61, 0), (.aload_n 0, 0, 0, 0), (.getfield 163, 11, 72, 0), (.aload_n 0, 0, 0, 0), (.getfield 118, 11, 46, 0)] 34 = true := by decide +kernel
theorem dX12_image_34 : decode (MB MX12_image) 34 = .ok (.invokestatic 536, 3) := by decide +kernel
theorem sX12_image_37 : dsOk (MN MX12_image).cls (MB MX12_image) 37 [(.aload_n 0, 0, 0, 0), (.getfield 166, 11, 73, 0), (.aload_n 0, 0, 0, 0), (.getfield 121, 11, 47, 0)] 45 = true := by decide +kernel
theorem dX12_image_45 : decode (MB MX12_image) 45 = .ok (.invokestatic 536, 3) := by decide +kernel
theorem sX12_image_48 : dsOk (MN MX12_image).cls (MB MX12_image) 48 [(.aload_n 0, 0, 0, 0), (.aload_n 0, 0, 0, 0), (.getfield 344, 11, 35, 0), (.putfield 559, 11, 63, 0), (.aload_n 0, 0, 0, 0), (.aload_n 0, 0, 0, 0), (.getfield 347, 11, 36, 0), (.putfield 562, 11, 64, 0), (.aload_n 0, 0, 0, 0), (.aload_n 0, 0, 0, 0), (.getfield 414, 11, 37, 0), (.putfield 565, 11, 65, 0), (.aload_n 0, 0, 0, 0), (.aload_n 0, 0, 0, 0), (.getfield 421, 11, 38, 0), (.putfield 568, 11, 66, 0), (.aload_n 0, 0, 0, 0), (.aload_n 0, 0, 0, 0), (.getfield 417, 11, 39, 0), (.putfield 571, 11, 67, 0), (.aload_n 0, 0, 0, 0), (.getfield 151, 11, 68, 0), (.aload_n 0, 0, 0, 0), (.getfield 54, 11, 8, 0)] 96 = true := by decide +kernel
theorem dX12_image_96 : decode (MB MX12_image) 96 = .ok (.invokestatic 536, 3) := by decide +kernel
theorem sX12_image_99 : dsOk (MN MX12_image).cls (MB MX12_image) 99 [(.aload_n 0, 0, 0, 0), (.getfield 154, 11, 69, 0), (.aload_n 0, 0, 0, 0), (.getfield 51, 11, 7, 0)] 107 = true := by decide +kernel
theorem dX12_image_107 : decode (MB MX12_image) 107 = .ok (.invokestatic 536, 3) := by decide +kernel
theorem sX12_image_110 : dsOk (MN MX12_image).cls (MB MX12_image) 110 [(.aload_n 0, 0, 0, 0), (.getfield 157, 11, 70, 0), (.aload_n 0, 0, 0, 0), (.getfield 94, 11, 31, 0)] 118 = true := by decide +kernel
theorem dX12_image_118 : decode (MB MX12_image) 118 = .ok (.invokestatic 536, 3) := by decide +kernel
theorem sX12_image_121 : dsOk (MN MX12_image).cls (MB MX12_image) 121 [(.aload_n 0, 0, 0, 0), (.getfield 160, 11, 71, 0), (.aload_n 0, 0, 0, 0), (.getfield 97, 11, 32, 0)] 129 = true := by decide +kernel
theorem dX12_image_129 : decode (MB MX12_image) 129 = .ok (.invokestatic 536, 3) := by decide +kernel
theorem sX12_image_132 : dsOk (MN MX12_image).cls (MB MX12_image) 132 [(.aload_n 0, 0, 0, 0), (.getfield 172, 11, 75, 0), (.aload_n 0, 0, 0, 0), (.getfield 100, 11, 33, 0)] 140 = true := by decide +kernel
theorem dX12_image_140 : decode (MB MX12_image) 140 = .ok (.invokestatic 574, 3) := by decide +kernel
theorem sX12_image_143 : dsOk (MN MX12_image).cls (MB MX12_image) 143 [(.aload_n 0, 0, 0, 0), (.getfield 169, 11, 74, 0), (.aload_n 0, 0, 0, 0), (.getfield 78, 11, 16, 0)] 151 = true := by decide +kernel
theorem dX12_image_151 : decode (MB MX12_image) 151 = .ok (.invokestatic 536, 3) := by decide +kernel
theorem dX12_image_154 : decode (MB MX12_image) 154 = .ok (.return_, 1) := by decide +kernel
def MX12_restore : Ms := (yX12_restore, cX12_restore, 1, (some .boolean), [])
set_option maxRecDepth 100000 in
theorem kX12_restore : mkV MX12_restore 0 := ⟨⟨List.mem_of_getElem? (i := 2119) (by rfl), by decide +kernel⟩, by decide +kernel⟩
theorem sX12_restore_0 : dsOk (MN MX12_restore).cls (MB MX12_restore) 0 [(.aload_n 0, 0, 0, 0), (.iconst 0, 0, 0, 0), (.putfield 175, 11, 2, 0), (.aload_n 0, 0, 0, 0), (.getfield 350, 11, 60, 0)] 9 = true := by decide +kernel
theorem dX12_restore_9 : decode (MB MX12_restore) 9 = .ok (.ifCond .ne 5, 3) := by decide +kernel
theorem sX12_restore_12 : dsOk (MN MX12_restore).cls (MB MX12_restore) 12 [(.iconst 0, 0, 0, 0)] 13 = true := by decide +kernel
theorem dX12_restore_13 : decode (MB MX12_restore) 13 = .ok (.ireturn, 1) := by decide +kernel
theorem sX12_restore_14 : dsOk (MN MX12_restore).cls (MB MX12_restore) 14 [(.aload_n 0, 0, 0, 0), (.aload_n 0, 0, 0, 0), (.getfield 553, 11, 62, 0), (.putfield 341, 11, 34, 0), (.aload_n 0, 0, 0, 0), (.aload_n 0, 0, 0, 0), (.getfield 556, 11, 61, 0), (.putfield 338, 11, 48, 0), (.aload_n 0, 0, 0, 0), (.getfield 118, 11, 46, 0), (.aload_n 0, 0, 0, 0), (.getfield 163, 11, 72, 0)] 38 = true := by decide +kernel
theorem dX12_restore_38 : decode (MB MX12_restore) 38 = .ok (.invokestatic 536, 3) := by decide +kernel
theorem sX12_restore_41 : dsOk (MN MX12_restore).cls (MB MX12_restore) 41 [(.aload_n 0, 0, 0, 0), (.getfield 121, 11, 47, 0), (.aload_n 0, 0, 0, 0), (.getfield 166, 11, 73, 0)] 49 = true := by decide +kernel
theorem dX12_restore_49 : decode (MB MX12_restore) 49 = .ok (.invokestatic 536, 3) := by decide +kernel
theorem sX12_restore_52 : dsOk (MN MX12_restore).cls (MB MX12_restore) 52 [(.aload_n 0, 0, 0, 0), (.aload_n 0, 0, 0, 0), (.getfield 559, 11, 63, 0), (.putfield 344, 11, 35, 0), (.aload_n 0, 0, 0, 0), (.aload_n 0, 0, 0, 0), (.getfield 562, 11, 64, 0), (.putfield 347, 11, 36, 0), (.aload_n 0, 0, 0, 0), (.aload_n 0, 0, 0, 0), (.getfield 565, 11, 65, 0), (.putfield 414, 11, 37, 0), (.aload_n 0, 0, 0, 0), (.aload_n 0, 0, 0, 0), (.getfield 568, 11, 66, 0), (.putfield 421, 11, 38, 0), (.aload_n 0, 0, 0, 0), (.aload_n 0, 0, 0, 0), (.getfield 571, 11, 67, 0), (.putfield 417, 11, 39, 0), (.aload_n 0, 0, 0, 0), (.getfield 54, 11, 8, 0), (.aload_n 0, 0, 0, 0), (.getfield 151, 11, 68, 0)] 100 = true := by decide +kernel
theorem dX12_restore_100 : decode (MB MX12_restore) 100 = .ok (.invokestatic 536, 3) := by decide +kernel
theorem sX12_restore_103 : dsOk (MN MX12_restore).cls (MB MX12_restore) 103 [(.aload_n 0, 0, 0, 0), (.getfield 51, 11, 7, 0), (.aload_n 0, 0, 0, 0), (.getfield 154, 11, 69, 0)] 111 = true := by decide +kernel
theorem dX12_restore_111 : decode (MB MX12_restore) 111 = .ok (.invokestatic 536, 3) := by decide +kernel
theorem sX12_restore_114 : dsOk (MN MX12_restore).cls (MB MX12_restore) 114 [(.aload_n 0, 0, 0, 0), (.getfield 94, 11, 31, 0), (.aload_n 0, 0, 0, 0), (.getfield 157, 11, 70, 0)] 122 = true := by decide +kernel
theorem dX12_restore_122 : decode (MB MX12_restore) 122 = .ok (.invokestatic 536, 3) := by decide +kernel
theorem sX12_restore_125 : dsOk (MN MX12_restore).cls (MB MX12_restore) 125 [(.aload_n 0, 0, 0, 0), (.getfield 97, 11, 32, 0), (.aload_n 0, 0, 0, 0), (.getfield 160, 11, 71, 0)] 133 = true := by decide +kernel
theorem dX12_restore_133 : decode (MB MX12_restore) 133 = .ok (.invokestatic 536, 3) := by decide +kernel
theorem sX12_restore_136 : dsOk (MN MX12_restore).cls (MB MX12_restore) 136 [(.aload_n 0, 0, 0, 0), (.getfield 100, 11, 33, 0), (.aload_n 0, 0, 0, 0), (.getfield 172, 11, 75, 0)] 144 = true := by decide +kernel
theorem dX12_restore_144 : decode (MB MX12_restore) 144 = .ok (.invokestatic 574, 3) := by decide +kernel
theorem sX12_restore_147 : dsOk (MN MX12_restore).cls (MB MX12_restore) 147 [(.aload_n 0, 0, 0, 0), (.getfield 78, 11, 16, 0), (.aload_n 0, 0, 0, 0), (.getfield 169, 11, 74, 0)] 155 = true := by decide +kernel
theorem dX12_restore_155 : decode (MB MX12_restore) 155 = .ok (.invokestatic 536, 3) := by decide +kernel
theorem sX12_restore_158 : dsOk (MN MX12_restore).cls (MB MX12_restore) 158 [(.iconst 1, 0, 0, 0)] 159 = true := by decide +kernel
theorem dX12_restore_159 : decode (MB MX12_restore) 159 = .ok (.ireturn, 1) := by decide +kernel
-- foreign ('M', 'java/lang/Object', '<init>', '()V')
theorem lRX12_178 : wM.any (isML RX12 178 yX12_isIn) = true := by decide +kernel
theorem lRX12_191 : wM.any (isML RX12 191 yX12_byteAt) = true := by decide +kernel
theorem lRX12_201 : wM.any (isML RX12 201 yX12_isLetter) = true := by decide +kernel
theorem lRX12_205 : wM.any (isML RX12 205 yX12_isDigit) = true := by decide +kernel
theorem lRX12_212 : wM.any (isML RX12 212 yJ9_min_7cf53) = true := by decide +kernel
theorem lRX12_218 : wM.any (isML RX12 218 yX12_isMark) = true := by decide +kernel
theorem lRX12_230 : wM.any (isML RX12 230 yJ0_length_8abf5) = true := by decide +kernel
theorem lRX12_234 : wM.any (isML RX12 234 yJ0_charAt_5068e) = true := by decide +kernel
theorem lRX12_238 : wM.any (isML RX12 238 yX12_is) = true := by decide +kernel
theorem lRX12_242 : wM.any (isML RX12 242 yX12_isMarked) = true := by decide +kernel
theorem lRX12_245 : wM.any (isML RX12 245 yX12_cant) = true := by decide +kernel
theorem lRX12_249 : wM.any (isML RX12 249 yX12_stepOn) = true := by decide +kernel
theorem lRX12_252 : wM.any (isML RX12 252 yX12_numberNow) = true := by decide +kernel
theorem lRX12_258 : wM.any (isML RX12 258 yX12_readNumber) = true := by decide +kernel
theorem lRX12_261 : wM.any (isML RX12 261 yX12_lay) = true := by decide +kernel
theorem lRX12_264 : wM.any (isML RX12 264 yX12_which) = true := by decide +kernel
theorem lRX12_268 : wM.any (isML RX12 268 yX12_mark) = true := by decide +kernel
theorem lRX12_271 : wM.any (isML RX12 271 yX12_readExpression) = true := by decide +kernel
theorem lRX12_274 : wM.any (isML RX12 274 yX12_readPart) = true := by decide +kernel
theorem lRX12_277 : wM.any (isML RX12 277 yX12_readProduct) = true := by decide +kernel
theorem lRX12_282 : wM.any (isML RX12 282 yX12_readSum) = true := by decide +kernel
theorem lRX12_285 : wM.any (isML RX12 285 yX12_readNot) = true := by decide +kernel
theorem lRX12_290 : wM.any (isML RX12 290 yX12_readAnd) = true := by decide +kernel
theorem lRX12_295 : wM.any (isML RX12 295 yX12_isAmong) = true := by decide +kernel
theorem lRX12_299 : wM.any (isML RX12 299 yX12_readRule) = true := by decide +kernel
theorem lRX12_304 : wM.any (isML RX12 304 yX12_readOneOf) = true := by decide +kernel
theorem lRX12_307 : wM.any (isML RX12 307 yX12_readLeaves) = true := by decide +kernel
theorem lRX12_312 : wM.any (isML RX12 312 yX12_readBook) = true := by decide +kernel
theorem lRX12_316 : wM.any (isML RX12 316 yX12_readGone) = true := by decide +kernel
theorem lRX12_321 : wM.any (isML RX12 321 yX12_readCopy) = true := by decide +kernel
theorem lRX12_324 : wM.any (isML RX12 324 yX12_fail) = true := by decide +kernel
theorem lRX12_327 : wM.any (isML RX12 327 yX12_readLine) = true := by decide +kernel
theorem lRX12_331 : wM.any (isML RX12 331 yX12_take) = true := by decide +kernel
theorem lRX12_334 : wM.any (isML RX12 334 yX12_takeHalf) = true := by decide +kernel
theorem lRX12_360 : wM.any (isML RX12 360 yX12_reckon) = true := by decide +kernel
theorem lRX12_366 : wM.any (isML RX12 366 yJ9_max_7cf53) = true := by decide +kernel
theorem lRX12_369 : wM.any (isML RX12 369 yX12_withoutFigure) = true := by decide +kernel
theorem lRX12_373 : wM.any (isML RX12 373 yX12_ruleOf) = true := by decide +kernel
theorem lRX12_378 : wM.any (isML RX12 378 yX12_rankWithout) = true := by decide +kernel
theorem lRX12_381 : wM.any (isML RX12 381 yX12_pageByRule) = true := by decide +kernel
theorem lRX12_386 : wM.any (isML RX12 386 yX12_isBook) = true := by decide +kernel
theorem lRX12_389 : wM.any (isML RX12 389 yX12_isOut) = true := by decide +kernel
theorem lRX12_393 : wM.any (isML RX12 393 yX12_numberOn) = true := by decide +kernel
theorem lRX12_396 : wM.any (isML RX12 396 yX12_pageOf) = true := by decide +kernel
theorem lRX12_400 : wM.any (isML RX12 400 yX12_figuresIn) = true := by decide +kernel
theorem lRX12_404 : wM.any (isML RX12 404 yX12_refuse) = true := by decide +kernel
theorem lRX12_407 : wM.any (isML RX12 407 yX12_tearOut) = true := by decide +kernel
theorem lRX12_411 : wM.any (isML RX12 411 yX12_putBack) = true := by decide +kernel
theorem lRX12_431 : wM.any (isML RX12 431 yX12_upTo) = true := by decide +kernel
theorem lRX12_439 : wM.any (isML RX12 439 yX12_fit) = true := by decide +kernel
theorem lRX12_443 : wM.any (isML RX12 443 yX12_root) = true := by decide +kernel
theorem lRX12_446 : wM.any (isML RX12 446 yJ9_max_f86c9) = true := by decide +kernel
theorem lRX12_449 : wM.any (isML RX12 449 yX12_fitsOf) = true := by decide +kernel
theorem lRX12_452 : wM.any (isML RX12 452 yX12_isSum) = true := by decide +kernel
theorem lRX12_456 : wM.any (isML RX12 456 yX12_tellFits) = true := by decide +kernel
theorem lRX12_460 : wM.any (isML RX12 460 yX12_figuresUpTo) = true := by decide +kernel
theorem lRX12_464 : wM.any (isML RX12 464 yX12_figuresLeft) = true := by decide +kernel
theorem lRX12_467 : wM.any (isML RX12 467 yX12_saying) = true := by decide +kernel
theorem lRX12_472 : wM.any (isML RX12 472 yX12_greatestOf) = true := by decide +kernel
theorem lRX12_475 : wM.any (isML RX12 475 yX12_outBy) = true := by decide +kernel
theorem lRX12_479 : wM.any (isML RX12 479 yX12_leastOf) = true := by decide +kernel
theorem lRX12_484 : wM.any (isML RX12 484 yX12_waysBy) = true := by decide +kernel
theorem lRX12_495 : wM.any (isML RX12 495 yX12_prints) = true := by decide +kernel
theorem lRX12_500 : wM.any (isML RX12 500 yX12_isFrom) = true := by decide +kernel
theorem lRX12_503 : wM.any (isML RX12 503 yX12_goFar) = true := by decide +kernel
theorem lRX12_506 : wM.any (isML RX12 506 yX12_hasLeaf) = true := by decide +kernel
theorem lRX12_510 : wM.any (isML RX12 510 yX12_bitsOf) = true := by decide +kernel
theorem lRX12_513 : wM.any (isML RX12 513 yX12_lacking) = true := by decide +kernel
theorem lRX12_517 : wM.any (isML RX12 517 yX12_sticks) = true := by decide +kernel
theorem lRX12_520 : wM.any (isML RX12 520 yX12_isHidden) = true := by decide +kernel
theorem lRX12_525 : wM.any (isML RX12 525 yX12_isRead) = true := by decide +kernel
theorem lRX12_531 : wM.any (isML RX12 531 yJ9_min_f86c9) = true := by decide +kernel
theorem lRX12_536 : wM.any (isML RX12 536 yX12_be) = true := by decide +kernel
theorem lRX12_540 : wM.any (isML RX12 540 yX12_shareOn) = true := by decide +kernel
theorem lRX12_544 : wM.any (isML RX12 544 yX12_tellThere) = true := by decide +kernel
theorem lRX12_549 : wM.any (isML RX12 549 yX12_tearOn) = true := by decide +kernel
theorem lRX12_574 : wM.any (isML RX12 574 yX12_beAs) = true := by decide +kernel
