theorem dX12_init_0 : decode cX12_init 0 = .ok (.aload_n 0, 1) := by decide +kernel
theorem dX12_init_1 : decode cX12_init 1 = .ok (.invokespecial 1, 3) := by decide +kernel
theorem dX12_init_4 : decode cX12_init 4 = .ok (.aload_n 0, 1) := by decide +kernel
theorem dX12_init_5 : decode cX12_init 5 = .ok (.bipush 8, 2) := by decide +kernel
theorem dX12_init_7 : decode cX12_init 7 = .ok (.newarray .int, 2) := by decide +kernel
theorem dX12_init_9 : decode cX12_init 9 = .ok (.putfield 7, 3) := by decide +kernel
theorem dX12_init_12 : decode cX12_init 12 = .ok (.aload_n 0, 1) := by decide +kernel
theorem dX12_init_13 : decode cX12_init 13 = .ok (.bipush 8, 2) := by decide +kernel
theorem dX12_init_15 : decode cX12_init 15 = .ok (.newarray .int, 2) := by decide +kernel
theorem dX12_init_17 : decode cX12_init 17 = .ok (.putfield 13, 3) := by decide +kernel
theorem dX12_init_20 : decode cX12_init 20 = .ok (.aload_n 0, 1) := by decide +kernel
theorem dX12_init_21 : decode cX12_init 21 = .ok (.bipush 12, 2) := by decide +kernel
theorem dX12_init_23 : decode cX12_init 23 = .ok (.newarray .int, 2) := by decide +kernel
theorem dX12_init_25 : decode cX12_init 25 = .ok (.putfield 16, 3) := by decide +kernel
theorem dX12_init_28 : decode cX12_init 28 = .ok (.aload_n 0, 1) := by decide +kernel
theorem dX12_init_29 : decode cX12_init 29 = .ok (.bipush 12, 2) := by decide +kernel
theorem dX12_init_31 : decode cX12_init 31 = .ok (.newarray .int, 2) := by decide +kernel
theorem dX12_init_33 : decode cX12_init 33 = .ok (.putfield 19, 3) := by decide +kernel
theorem dX12_init_36 : decode cX12_init 36 = .ok (.aload_n 0, 1) := by decide +kernel
theorem dX12_init_37 : decode cX12_init 37 = .ok (.bipush 12, 2) := by decide +kernel
theorem dX12_init_39 : decode cX12_init 39 = .ok (.newarray .int, 2) := by decide +kernel
theorem dX12_init_41 : decode cX12_init 41 = .ok (.putfield 22, 3) := by decide +kernel
theorem dX12_init_44 : decode cX12_init 44 = .ok (.aload_n 0, 1) := by decide +kernel
theorem dX12_init_45 : decode cX12_init 45 = .ok (.bipush 12, 2) := by decide +kernel
theorem dX12_init_47 : decode cX12_init 47 = .ok (.newarray .boolean, 2) := by decide +kernel
theorem dX12_init_49 : decode cX12_init 49 = .ok (.putfield 25, 3) := by decide +kernel
theorem dX12_init_52 : decode cX12_init 52 = .ok (.aload_n 0, 1) := by decide +kernel
theorem dX12_init_53 : decode cX12_init 53 = .ok (.bipush 36, 2) := by decide +kernel
theorem dX12_init_55 : decode cX12_init 55 = .ok (.newarray .int, 2) := by decide +kernel
theorem dX12_init_57 : decode cX12_init 57 = .ok (.putfield 29, 3) := by decide +kernel
theorem dX12_init_60 : decode cX12_init 60 = .ok (.aload_n 0, 1) := by decide +kernel
theorem dX12_init_61 : decode cX12_init 61 = .ok (.bipush 18, 2) := by decide +kernel
theorem dX12_init_63 : decode cX12_init 63 = .ok (.newarray .int, 2) := by decide +kernel
theorem dX12_init_65 : decode cX12_init 65 = .ok (.putfield 32, 3) := by decide +kernel
theorem dX12_init_68 : decode cX12_init 68 = .ok (.aload_n 0, 1) := by decide +kernel
theorem dX12_init_69 : decode cX12_init 69 = .ok (.bipush (-9), 2) := by decide +kernel
theorem dX12_init_71 : decode cX12_init 71 = .ok (.putfield 35, 3) := by decide +kernel
theorem dX12_init_74 : decode cX12_init 74 = .ok (.aload_n 0, 1) := by decide +kernel
theorem dX12_init_75 : decode cX12_init 75 = .ok (.sipush 144, 3) := by decide +kernel
theorem dX12_init_78 : decode cX12_init 78 = .ok (.newarray .int, 2) := by decide +kernel
theorem dX12_init_80 : decode cX12_init 80 = .ok (.putfield 39, 3) := by decide +kernel
theorem dX12_init_83 : decode cX12_init 83 = .ok (.aload_n 0, 1) := by decide +kernel
theorem dX12_init_84 : decode cX12_init 84 = .ok (.sipush 144, 3) := by decide +kernel
theorem dX12_init_87 : decode cX12_init 87 = .ok (.newarray .int, 2) := by decide +kernel
theorem dX12_init_89 : decode cX12_init 89 = .ok (.putfield 42, 3) := by decide +kernel
theorem dX12_init_92 : decode cX12_init 92 = .ok (.aload_n 0, 1) := by decide +kernel
theorem dX12_init_93 : decode cX12_init 93 = .ok (.sipush 144, 3) := by decide +kernel
theorem dX12_init_96 : decode cX12_init 96 = .ok (.newarray .int, 2) := by decide +kernel
theorem dX12_init_98 : decode cX12_init 98 = .ok (.putfield 45, 3) := by decide +kernel
theorem dX12_init_101 : decode cX12_init 101 = .ok (.aload_n 0, 1) := by decide +kernel
theorem dX12_init_102 : decode cX12_init 102 = .ok (.bipush 8, 2) := by decide +kernel
theorem dX12_init_104 : decode cX12_init 104 = .ok (.newarray .int, 2) := by decide +kernel
theorem dX12_init_106 : decode cX12_init 106 = .ok (.putfield 48, 3) := by decide +kernel
theorem dX12_init_109 : decode cX12_init 109 = .ok (.aload_n 0, 1) := by decide +kernel
theorem dX12_init_110 : decode cX12_init 110 = .ok (.sipush 160, 3) := by decide +kernel
theorem dX12_init_113 : decode cX12_init 113 = .ok (.newarray .int, 2) := by decide +kernel
theorem dX12_init_115 : decode cX12_init 115 = .ok (.putfield 51, 3) := by decide +kernel
theorem dX12_init_118 : decode cX12_init 118 = .ok (.aload_n 0, 1) := by decide +kernel
theorem dX12_init_119 : decode cX12_init 119 = .ok (.iconst 5, 1) := by decide +kernel
theorem dX12_init_120 : decode cX12_init 120 = .ok (.putfield 54, 3) := by decide +kernel
theorem dX12_init_123 : decode cX12_init 123 = .ok (.aload_n 0, 1) := by decide +kernel
theorem dX12_init_124 : decode cX12_init 124 = .ok (.bipush 30, 2) := by decide +kernel
theorem dX12_init_126 : decode cX12_init 126 = .ok (.newarray .int, 2) := by decide +kernel
theorem dX12_init_128 : decode cX12_init 128 = .ok (.putfield 57, 3) := by decide +kernel
theorem dX12_init_131 : decode cX12_init 131 = .ok (.aload_n 0, 1) := by decide +kernel
theorem dX12_init_132 : decode cX12_init 132 = .ok (.bipush 6, 2) := by decide +kernel
theorem dX12_init_134 : decode cX12_init 134 = .ok (.newarray .int, 2) := by decide +kernel
theorem dX12_init_136 : decode cX12_init 136 = .ok (.putfield 60, 3) := by decide +kernel
theorem dX12_init_139 : decode cX12_init 139 = .ok (.aload_n 0, 1) := by decide +kernel
theorem dX12_init_140 : decode cX12_init 140 = .ok (.sipush 180, 3) := by decide +kernel
theorem dX12_init_143 : decode cX12_init 143 = .ok (.newarray .int, 2) := by decide +kernel
theorem dX12_init_145 : decode cX12_init 145 = .ok (.putfield 63, 3) := by decide +kernel
theorem dX12_init_148 : decode cX12_init 148 = .ok (.aload_n 0, 1) := by decide +kernel
theorem dX12_init_149 : decode cX12_init 149 = .ok (.bipush 48, 2) := by decide +kernel
theorem dX12_init_151 : decode cX12_init 151 = .ok (.newarray .int, 2) := by decide +kernel
theorem dX12_init_153 : decode cX12_init 153 = .ok (.putfield 66, 3) := by decide +kernel
theorem dX12_init_156 : decode cX12_init 156 = .ok (.aload_n 0, 1) := by decide +kernel
theorem dX12_init_157 : decode cX12_init 157 = .ok (.bipush 16, 2) := by decide +kernel
theorem dX12_init_159 : decode cX12_init 159 = .ok (.newarray .int, 2) := by decide +kernel
theorem dX12_init_161 : decode cX12_init 161 = .ok (.putfield 69, 3) := by decide +kernel
theorem dX12_init_164 : decode cX12_init 164 = .ok (.aload_n 0, 1) := by decide +kernel
theorem dX12_init_165 : decode cX12_init 165 = .ok (.sipush 128, 3) := by decide +kernel
theorem dX12_init_168 : decode cX12_init 168 = .ok (.newarray .int, 2) := by decide +kernel
theorem dX12_init_170 : decode cX12_init 170 = .ok (.putfield 72, 3) := by decide +kernel
theorem dX12_init_173 : decode cX12_init 173 = .ok (.aload_n 0, 1) := by decide +kernel
theorem dX12_init_174 : decode cX12_init 174 = .ok (.bipush 8, 2) := by decide +kernel
theorem dX12_init_176 : decode cX12_init 176 = .ok (.newarray .int, 2) := by decide +kernel
theorem dX12_init_178 : decode cX12_init 178 = .ok (.putfield 75, 3) := by decide +kernel
theorem dX12_init_181 : decode cX12_init 181 = .ok (.aload_n 0, 1) := by decide +kernel
theorem dX12_init_182 : decode cX12_init 182 = .ok (.bipush 40, 2) := by decide +kernel
theorem dX12_init_184 : decode cX12_init 184 = .ok (.newarray .int, 2) := by decide +kernel
theorem dX12_init_186 : decode cX12_init 186 = .ok (.putfield 78, 3) := by decide +kernel
theorem dX12_init_189 : decode cX12_init 189 = .ok (.aload_n 0, 1) := by decide +kernel
theorem dX12_init_190 : decode cX12_init 190 = .ok (.bipush 40, 2) := by decide +kernel
theorem dX12_init_192 : decode cX12_init 192 = .ok (.newarray .int, 2) := by decide +kernel
theorem dX12_init_194 : decode cX12_init 194 = .ok (.putfield 81, 3) := by decide +kernel
theorem dX12_init_197 : decode cX12_init 197 = .ok (.aload_n 0, 1) := by decide +kernel
theorem dX12_init_198 : decode cX12_init 198 = .ok (.bipush 41, 2) := by decide +kernel
theorem dX12_init_200 : decode cX12_init 200 = .ok (.newarray .int, 2) := by decide +kernel
theorem dX12_init_202 : decode cX12_init 202 = .ok (.putfield 84, 3) := by decide +kernel
theorem dX12_init_205 : decode cX12_init 205 = .ok (.aload_n 0, 1) := by decide +kernel
theorem dX12_init_206 : decode cX12_init 206 = .ok (.bipush 41, 2) := by decide +kernel
theorem dX12_init_208 : decode cX12_init 208 = .ok (.newarray .int, 2) := by decide +kernel
theorem dX12_init_210 : decode cX12_init 210 = .ok (.putfield 87, 3) := by decide +kernel
theorem dX12_init_213 : decode cX12_init 213 = .ok (.aload_n 0, 1) := by decide +kernel
theorem dX12_init_214 : decode cX12_init 214 = .ok (.bipush 26, 2) := by decide +kernel
theorem dX12_init_216 : decode cX12_init 216 = .ok (.newarray .int, 2) := by decide +kernel
theorem dX12_init_218 : decode cX12_init 218 = .ok (.dup, 1) := by decide +kernel
theorem dX12_init_219 : decode cX12_init 219 = .ok (.iconst 0, 1) := by decide +kernel
theorem dX12_init_220 : decode cX12_init 220 = .ok (.iconst 5, 1) := by decide +kernel
theorem dX12_init_221 : decode cX12_init 221 = .ok (.iastore, 1) := by decide +kernel
theorem dX12_init_222 : decode cX12_init 222 = .ok (.dup, 1) := by decide +kernel
theorem dX12_init_223 : decode cX12_init 223 = .ok (.iconst 1, 1) := by decide +kernel
theorem dX12_init_224 : decode cX12_init 224 = .ok (.bipush 24, 2) := by decide +kernel
theorem dX12_init_226 : decode cX12_init 226 = .ok (.iastore, 1) := by decide +kernel
theorem dX12_init_227 : decode cX12_init 227 = .ok (.dup, 1) := by decide +kernel
theorem dX12_init_228 : decode cX12_init 228 = .ok (.iconst 2, 1) := by decide +kernel
theorem dX12_init_229 : decode cX12_init 229 = .ok (.bipush 26, 2) := by decide +kernel
theorem dX12_init_231 : decode cX12_init 231 = .ok (.iastore, 1) := by decide +kernel
theorem dX12_init_232 : decode cX12_init 232 = .ok (.dup, 1) := by decide +kernel
theorem dX12_init_233 : decode cX12_init 233 = .ok (.iconst 3, 1) := by decide +kernel
theorem dX12_init_234 : decode cX12_init 234 = .ok (.bipush 12, 2) := by decide +kernel
theorem dX12_init_236 : decode cX12_init 236 = .ok (.iastore, 1) := by decide +kernel
theorem dX12_init_237 : decode cX12_init 237 = .ok (.dup, 1) := by decide +kernel
theorem dX12_init_238 : decode cX12_init 238 = .ok (.iconst 4, 1) := by decide +kernel
theorem dX12_init_239 : decode cX12_init 239 = .ok (.iconst 2, 1) := by decide +kernel
theorem dX12_init_240 : decode cX12_init 240 = .ok (.iastore, 1) := by decide +kernel
theorem dX12_init_241 : decode cX12_init 241 = .ok (.dup, 1) := by decide +kernel
theorem dX12_init_242 : decode cX12_init 242 = .ok (.iconst 5, 1) := by decide +kernel
theorem dX12_init_243 : decode cX12_init 243 = .ok (.bipush 18, 2) := by decide +kernel
theorem dX12_init_245 : decode cX12_init 245 = .ok (.iastore, 1) := by decide +kernel
theorem dX12_init_246 : decode cX12_init 246 = .ok (.dup, 1) := by decide +kernel
theorem dX12_init_247 : decode cX12_init 247 = .ok (.bipush 6, 2) := by decide +kernel
theorem dX12_init_249 : decode cX12_init 249 = .ok (.bipush 14, 2) := by decide +kernel
theorem dX12_init_251 : decode cX12_init 251 = .ok (.iastore, 1) := by decide +kernel
theorem dX12_init_252 : decode cX12_init 252 = .ok (.dup, 1) := by decide +kernel
theorem dX12_init_253 : decode cX12_init 253 = .ok (.bipush 7, 2) := by decide +kernel
theorem dX12_init_255 : decode cX12_init 255 = .ok (.bipush 16, 2) := by decide +kernel
theorem dX12_init_257 : decode cX12_init 257 = .ok (.iastore, 1) := by decide +kernel
theorem dX12_init_258 : decode cX12_init 258 = .ok (.dup, 1) := by decide +kernel
theorem dX12_init_259 : decode cX12_init 259 = .ok (.bipush 8, 2) := by decide +kernel
theorem dX12_init_261 : decode cX12_init 261 = .ok (.iconst 4, 1) := by decide +kernel
theorem dX12_init_262 : decode cX12_init 262 = .ok (.iastore, 1) := by decide +kernel
theorem dX12_init_263 : decode cX12_init 263 = .ok (.dup, 1) := by decide +kernel
theorem dX12_init_264 : decode cX12_init 264 = .ok (.bipush 9, 2) := by decide +kernel
theorem dX12_init_266 : decode cX12_init 266 = .ok (.bipush 23, 2) := by decide +kernel
theorem dX12_init_268 : decode cX12_init 268 = .ok (.iastore, 1) := by decide +kernel
theorem dX12_init_269 : decode cX12_init 269 = .ok (.dup, 1) := by decide +kernel
theorem dX12_init_270 : decode cX12_init 270 = .ok (.bipush 10, 2) := by decide +kernel
theorem dX12_init_272 : decode cX12_init 272 = .ok (.bipush 13, 2) := by decide +kernel
theorem dX12_init_274 : decode cX12_init 274 = .ok (.iastore, 1) := by decide +kernel
theorem dX12_init_275 : decode cX12_init 275 = .ok (.dup, 1) := by decide +kernel
theorem dX12_init_276 : decode cX12_init 276 = .ok (.bipush 11, 2) := by decide +kernel
theorem dX12_init_278 : decode cX12_init 278 = .ok (.bipush 20, 2) := by decide +kernel
theorem dX12_init_280 : decode cX12_init 280 = .ok (.iastore, 1) := by decide +kernel
theorem dX12_init_281 : decode cX12_init 281 = .ok (.dup, 1) := by decide +kernel
theorem dX12_init_282 : decode cX12_init 282 = .ok (.bipush 12, 2) := by decide +kernel
theorem dX12_init_284 : decode cX12_init 284 = .ok (.bipush 7, 2) := by decide +kernel
theorem dX12_init_286 : decode cX12_init 286 = .ok (.iastore, 1) := by decide +kernel
theorem dX12_init_287 : decode cX12_init 287 = .ok (.dup, 1) := by decide +kernel
theorem dX12_init_288 : decode cX12_init 288 = .ok (.bipush 13, 2) := by decide +kernel
theorem dX12_init_290 : decode cX12_init 290 = .ok (.bipush 6, 2) := by decide +kernel
theorem dX12_init_292 : decode cX12_init 292 = .ok (.iastore, 1) := by decide +kernel
theorem dX12_init_293 : decode cX12_init 293 = .ok (.dup, 1) := by decide +kernel
theorem dX12_init_294 : decode cX12_init 294 = .ok (.bipush 14, 2) := by decide +kernel
theorem dX12_init_296 : decode cX12_init 296 = .ok (.bipush 15, 2) := by decide +kernel
theorem dX12_init_298 : decode cX12_init 298 = .ok (.iastore, 1) := by decide +kernel
theorem dX12_init_299 : decode cX12_init 299 = .ok (.dup, 1) := by decide +kernel
theorem dX12_init_300 : decode cX12_init 300 = .ok (.bipush 15, 2) := by decide +kernel
theorem dX12_init_302 : decode cX12_init 302 = .ok (.bipush 22, 2) := by decide +kernel
theorem dX12_init_304 : decode cX12_init 304 = .ok (.iastore, 1) := by decide +kernel
theorem dX12_init_305 : decode cX12_init 305 = .ok (.dup, 1) := by decide +kernel
theorem dX12_init_306 : decode cX12_init 306 = .ok (.bipush 16, 2) := by decide +kernel
theorem dX12_init_308 : decode cX12_init 308 = .ok (.bipush 29, 2) := by decide +kernel
theorem dX12_init_310 : decode cX12_init 310 = .ok (.iastore, 1) := by decide +kernel
theorem dX12_init_311 : decode cX12_init 311 = .ok (.dup, 1) := by decide +kernel
theorem dX12_init_312 : decode cX12_init 312 = .ok (.bipush 17, 2) := by decide +kernel
theorem dX12_init_314 : decode cX12_init 314 = .ok (.bipush 10, 2) := by decide +kernel
theorem dX12_init_316 : decode cX12_init 316 = .ok (.iastore, 1) := by decide +kernel
theorem dX12_init_317 : decode cX12_init 317 = .ok (.dup, 1) := by decide +kernel
theorem dX12_init_318 : decode cX12_init 318 = .ok (.bipush 18, 2) := by decide +kernel
theorem dX12_init_320 : decode cX12_init 320 = .ok (.bipush 8, 2) := by decide +kernel
theorem dX12_init_322 : decode cX12_init 322 = .ok (.iastore, 1) := by decide +kernel
theorem dX12_init_323 : decode cX12_init 323 = .ok (.dup, 1) := by decide +kernel
theorem dX12_init_324 : decode cX12_init 324 = .ok (.bipush 19, 2) := by decide +kernel
theorem dX12_init_326 : decode cX12_init 326 = .ok (.iconst 3, 1) := by decide +kernel
theorem dX12_init_327 : decode cX12_init 327 = .ok (.iastore, 1) := by decide +kernel
theorem dX12_init_328 : decode cX12_init 328 = .ok (.dup, 1) := by decide +kernel
theorem dX12_init_329 : decode cX12_init 329 = .ok (.bipush 20, 2) := by decide +kernel
theorem dX12_init_331 : decode cX12_init 331 = .ok (.bipush 9, 2) := by decide +kernel
theorem dX12_init_333 : decode cX12_init 333 = .ok (.iastore, 1) := by decide +kernel
theorem dX12_init_334 : decode cX12_init 334 = .ok (.dup, 1) := by decide +kernel
theorem dX12_init_335 : decode cX12_init 335 = .ok (.bipush 21, 2) := by decide +kernel
theorem dX12_init_337 : decode cX12_init 337 = .ok (.bipush 17, 2) := by decide +kernel
theorem dX12_init_339 : decode cX12_init 339 = .ok (.iastore, 1) := by decide +kernel
theorem dX12_init_340 : decode cX12_init 340 = .ok (.dup, 1) := by decide +kernel
theorem dX12_init_341 : decode cX12_init 341 = .ok (.bipush 22, 2) := by decide +kernel
theorem dX12_init_343 : decode cX12_init 343 = .ok (.bipush 11, 2) := by decide +kernel
theorem dX12_init_345 : decode cX12_init 345 = .ok (.iastore, 1) := by decide +kernel
theorem dX12_init_346 : decode cX12_init 346 = .ok (.dup, 1) := by decide +kernel
theorem dX12_init_347 : decode cX12_init 347 = .ok (.bipush 23, 2) := by decide +kernel
theorem dX12_init_349 : decode cX12_init 349 = .ok (.bipush 25, 2) := by decide +kernel
theorem dX12_init_351 : decode cX12_init 351 = .ok (.iastore, 1) := by decide +kernel
theorem dX12_init_352 : decode cX12_init 352 = .ok (.dup, 1) := by decide +kernel
theorem dX12_init_353 : decode cX12_init 353 = .ok (.bipush 24, 2) := by decide +kernel
theorem dX12_init_355 : decode cX12_init 355 = .ok (.bipush 27, 2) := by decide +kernel
theorem dX12_init_357 : decode cX12_init 357 = .ok (.iastore, 1) := by decide +kernel
theorem dX12_init_358 : decode cX12_init 358 = .ok (.dup, 1) := by decide +kernel
theorem dX12_init_359 : decode cX12_init 359 = .ok (.bipush 25, 2) := by decide +kernel
theorem dX12_init_361 : decode cX12_init 361 = .ok (.bipush 28, 2) := by decide +kernel
theorem dX12_init_363 : decode cX12_init 363 = .ok (.iastore, 1) := by decide +kernel
theorem dX12_init_364 : decode cX12_init 364 = .ok (.putfield 90, 3) := by decide +kernel
theorem dX12_init_367 : decode cX12_init 367 = .ok (.aload_n 0, 1) := by decide +kernel
theorem dX12_init_368 : decode cX12_init 368 = .ok (.bipush 8, 2) := by decide +kernel
theorem dX12_init_370 : decode cX12_init 370 = .ok (.newarray .int, 2) := by decide +kernel
theorem dX12_init_372 : decode cX12_init 372 = .ok (.putfield 93, 3) := by decide +kernel
theorem dX12_init_375 : decode cX12_init 375 = .ok (.aload_n 0, 1) := by decide +kernel
theorem dX12_init_376 : decode cX12_init 376 = .ok (.bipush 56, 2) := by decide +kernel
theorem dX12_init_378 : decode cX12_init 378 = .ok (.newarray .int, 2) := by decide +kernel
theorem dX12_init_380 : decode cX12_init 380 = .ok (.putfield 96, 3) := by decide +kernel
theorem dX12_init_383 : decode cX12_init 383 = .ok (.aload_n 0, 1) := by decide +kernel
theorem dX12_init_384 : decode cX12_init 384 = .ok (.bipush 56, 2) := by decide +kernel
theorem dX12_init_386 : decode cX12_init 386 = .ok (.newarray .int, 2) := by decide +kernel
theorem dX12_init_388 : decode cX12_init 388 = .ok (.putfield 99, 3) := by decide +kernel
theorem dX12_init_391 : decode cX12_init 391 = .ok (.aload_n 0, 1) := by decide +kernel
theorem dX12_init_392 : decode cX12_init 392 = .ok (.bipush 72, 2) := by decide +kernel
theorem dX12_init_394 : decode cX12_init 394 = .ok (.newarray .int, 2) := by decide +kernel
theorem dX12_init_396 : decode cX12_init 396 = .ok (.putfield 102, 3) := by decide +kernel
theorem dX12_init_399 : decode cX12_init 399 = .ok (.aload_n 0, 1) := by decide +kernel
theorem dX12_init_400 : decode cX12_init 400 = .ok (.bipush 10, 2) := by decide +kernel
theorem dX12_init_402 : decode cX12_init 402 = .ok (.putfield 105, 3) := by decide +kernel
theorem dX12_init_405 : decode cX12_init 405 = .ok (.aload_n 0, 1) := by decide +kernel
theorem dX12_init_406 : decode cX12_init 406 = .ok (.bipush 6, 2) := by decide +kernel
theorem dX12_init_408 : decode cX12_init 408 = .ok (.newarray .int, 2) := by decide +kernel
theorem dX12_init_410 : decode cX12_init 410 = .ok (.putfield 108, 3) := by decide +kernel
theorem dX12_init_413 : decode cX12_init 413 = .ok (.aload_n 0, 1) := by decide +kernel
theorem dX12_init_414 : decode cX12_init 414 = .ok (.bipush 6, 2) := by decide +kernel
theorem dX12_init_416 : decode cX12_init 416 = .ok (.newarray .int, 2) := by decide +kernel
theorem dX12_init_418 : decode cX12_init 418 = .ok (.putfield 111, 3) := by decide +kernel
theorem dX12_init_421 : decode cX12_init 421 = .ok (.aload_n 0, 1) := by decide +kernel
theorem dX12_init_422 : decode cX12_init 422 = .ok (.bipush 6, 2) := by decide +kernel
theorem dX12_init_424 : decode cX12_init 424 = .ok (.newarray .int, 2) := by decide +kernel
theorem dX12_init_426 : decode cX12_init 426 = .ok (.putfield 114, 3) := by decide +kernel
theorem dX12_init_429 : decode cX12_init 429 = .ok (.aload_n 0, 1) := by decide +kernel
theorem dX12_init_430 : decode cX12_init 430 = .ok (.bipush 6, 2) := by decide +kernel
theorem dX12_init_432 : decode cX12_init 432 = .ok (.newarray .int, 2) := by decide +kernel
theorem dX12_init_434 : decode cX12_init 434 = .ok (.putfield 117, 3) := by decide +kernel
theorem dX12_init_437 : decode cX12_init 437 = .ok (.aload_n 0, 1) := by decide +kernel
theorem dX12_init_438 : decode cX12_init 438 = .ok (.bipush 6, 2) := by decide +kernel
theorem dX12_init_440 : decode cX12_init 440 = .ok (.newarray .int, 2) := by decide +kernel
theorem dX12_init_442 : decode cX12_init 442 = .ok (.putfield 120, 3) := by decide +kernel
theorem dX12_init_445 : decode cX12_init 445 = .ok (.iconst 0, 1) := by decide +kernel
theorem dX12_init_446 : decode cX12_init 446 = .ok (.istore_n 1, 1) := by decide +kernel
theorem dX12_init_447 : decode cX12_init 447 = .ok (.iload_n 1, 1) := by decide +kernel
theorem dX12_init_448 : decode cX12_init 448 = .ok (.bipush 8, 2) := by decide +kernel
theorem dX12_init_450 : decode cX12_init 450 = .ok (.if_icmp .ge 18, 3) := by decide +kernel
theorem dX12_init_453 : decode cX12_init 453 = .ok (.aload_n 0, 1) := by decide +kernel
theorem dX12_init_454 : decode cX12_init 454 = .ok (.getfield 13, 3) := by decide +kernel
theorem dX12_init_457 : decode cX12_init 457 = .ok (.iload_n 1, 1) := by decide +kernel
theorem dX12_init_458 : decode cX12_init 458 = .ok (.sipush 1439, 3) := by decide +kernel
theorem dX12_init_461 : decode cX12_init 461 = .ok (.iastore, 1) := by decide +kernel
theorem dX12_init_462 : decode cX12_init 462 = .ok (.iinc 1 1, 3) := by decide +kernel
theorem dX12_init_465 : decode cX12_init 465 = .ok (.goto (-18), 3) := by decide +kernel
theorem dX12_init_468 : decode cX12_init 468 = .ok (.return_, 1) := by decide +kernel
theorem dX12_in_0 : decode cX12_in 0 = .ok (.iload_n 0, 1) := by decide +kernel
theorem dX12_in_1 : decode cX12_in 1 = .ok (.iload_n 1, 1) := by decide +kernel
theorem dX12_in_2 : decode cX12_in 2 = .ok (.if_icmp .lt 12, 3) := by decide +kernel
theorem dX12_in_5 : decode cX12_in 5 = .ok (.iload_n 0, 1) := by decide +kernel
theorem dX12_in_6 : decode cX12_in 6 = .ok (.iload_n 2, 1) := by decide +kernel
theorem dX12_in_7 : decode cX12_in 7 = .ok (.if_icmp .gt 7, 3) := by decide +kernel
theorem dX12_in_10 : decode cX12_in 10 = .ok (.iconst 1, 1) := by decide +kernel
theorem dX12_in_11 : decode cX12_in 11 = .ok (.goto 4, 3) := by decide +kernel
theorem dX12_in_14 : decode cX12_in 14 = .ok (.iconst 0, 1) := by decide +kernel
theorem dX12_in_15 : decode cX12_in 15 = .ok (.ireturn, 1) := by decide +kernel
theorem dX12_isOffice_0 : decode cX12_isOffice 0 = .ok (.iload_n 0, 1) := by decide +kernel
theorem dX12_isOffice_1 : decode cX12_isOffice 1 = .ok (.iconst 0, 1) := by decide +kernel
theorem dX12_isOffice_2 : decode cX12_isOffice 2 = .ok (.bipush 7, 2) := by decide +kernel
theorem dX12_isOffice_4 : decode cX12_isOffice 4 = .ok (.invokestatic 123, 3) := by decide +kernel
theorem dX12_isOffice_7 : decode cX12_isOffice 7 = .ok (.ireturn, 1) := by decide +kernel
theorem dX12_isWire_0 : decode cX12_isWire 0 = .ok (.iload_n 1, 1) := by decide +kernel
theorem dX12_isWire_1 : decode cX12_isWire 1 = .ok (.iconst 0, 1) := by decide +kernel
theorem dX12_isWire_2 : decode cX12_isWire 2 = .ok (.aload_n 0, 1) := by decide +kernel
theorem dX12_isWire_3 : decode cX12_isWire 3 = .ok (.getfield 127, 3) := by decide +kernel
theorem dX12_isWire_6 : decode cX12_isWire 6 = .ok (.iconst 1, 1) := by decide +kernel
theorem dX12_isWire_7 : decode cX12_isWire 7 = .ok (.isub, 1) := by decide +kernel
theorem dX12_isWire_8 : decode cX12_isWire 8 = .ok (.invokestatic 123, 3) := by decide +kernel
theorem dX12_isWire_11 : decode cX12_isWire 11 = .ok (.ireturn, 1) := by decide +kernel
theorem dX12_isMessage_0 : decode cX12_isMessage 0 = .ok (.iload_n 1, 1) := by decide +kernel
theorem dX12_isMessage_1 : decode cX12_isMessage 1 = .ok (.iconst 0, 1) := by decide +kernel
theorem dX12_isMessage_2 : decode cX12_isMessage 2 = .ok (.aload_n 0, 1) := by decide +kernel
theorem dX12_isMessage_3 : decode cX12_isMessage 3 = .ok (.getfield 130, 3) := by decide +kernel
theorem dX12_isMessage_6 : decode cX12_isMessage 6 = .ok (.iconst 1, 1) := by decide +kernel
theorem dX12_isMessage_7 : decode cX12_isMessage 7 = .ok (.isub, 1) := by decide +kernel
theorem dX12_isMessage_8 : decode cX12_isMessage 8 = .ok (.invokestatic 123, 3) := by decide +kernel
theorem dX12_isMessage_11 : decode cX12_isMessage 11 = .ok (.ireturn, 1) := by decide +kernel
theorem dX12_open_0 : decode cX12_open 0 = .ok (.iload_n 1, 1) := by decide +kernel
theorem dX12_open_1 : decode cX12_open 1 = .ok (.invokestatic 133, 3) := by decide +kernel
theorem dX12_open_4 : decode cX12_open 4 = .ok (.ifCond .ne 6, 3) := by decide +kernel
theorem dX12_open_7 : decode cX12_open 7 = .ok (.bipush (-2), 2) := by decide +kernel
theorem dX12_open_9 : decode cX12_open 9 = .ok (.ireturn, 1) := by decide +kernel
theorem dX12_open_10 : decode cX12_open 10 = .ok (.iload_n 2, 1) := by decide +kernel
theorem dX12_open_11 : decode cX12_open 11 = .ok (.iconst 0, 1) := by decide +kernel
theorem dX12_open_12 : decode cX12_open 12 = .ok (.sipush 1439, 3) := by decide +kernel
theorem dX12_open_15 : decode cX12_open 15 = .ok (.invokestatic 123, 3) := by decide +kernel
theorem dX12_open_18 : decode cX12_open 18 = .ok (.ifCond .eq 14, 3) := by decide +kernel
theorem dX12_open_21 : decode cX12_open 21 = .ok (.iload_n 3, 1) := by decide +kernel
theorem dX12_open_22 : decode cX12_open 22 = .ok (.iload_n 2, 1) := by decide +kernel
theorem dX12_open_23 : decode cX12_open 23 = .ok (.sipush 1439, 3) := by decide +kernel
theorem dX12_open_26 : decode cX12_open 26 = .ok (.invokestatic 123, 3) := by decide +kernel
theorem dX12_open_29 : decode cX12_open 29 = .ok (.ifCond .ne 6, 3) := by decide +kernel
theorem dX12_open_32 : decode cX12_open 32 = .ok (.bipush (-3), 2) := by decide +kernel
theorem dX12_open_34 : decode cX12_open 34 = .ok (.ireturn, 1) := by decide +kernel
theorem dX12_open_35 : decode cX12_open 35 = .ok (.aload_n 0, 1) := by decide +kernel
theorem dX12_open_36 : decode cX12_open 36 = .ok (.getfield 7, 3) := by decide +kernel
theorem dX12_open_39 : decode cX12_open 39 = .ok (.iload_n 1, 1) := by decide +kernel
theorem dX12_open_40 : decode cX12_open 40 = .ok (.iload_n 2, 1) := by decide +kernel
theorem dX12_open_41 : decode cX12_open 41 = .ok (.iastore, 1) := by decide +kernel
theorem dX12_open_42 : decode cX12_open 42 = .ok (.aload_n 0, 1) := by decide +kernel
theorem dX12_open_43 : decode cX12_open 43 = .ok (.getfield 13, 3) := by decide +kernel
theorem dX12_open_46 : decode cX12_open 46 = .ok (.iload_n 1, 1) := by decide +kernel
theorem dX12_open_47 : decode cX12_open 47 = .ok (.iload_n 3, 1) := by decide +kernel
theorem dX12_open_48 : decode cX12_open 48 = .ok (.iastore, 1) := by decide +kernel
theorem dX12_open_49 : decode cX12_open 49 = .ok (.iconst 1, 1) := by decide +kernel
theorem dX12_open_50 : decode cX12_open 50 = .ok (.ireturn, 1) := by decide +kernel
theorem dX12_isOpen_0 : decode cX12_isOpen 0 = .ok (.iload_n 2, 1) := by decide +kernel
theorem dX12_isOpen_1 : decode cX12_isOpen 1 = .ok (.sipush 1440, 3) := by decide +kernel
theorem dX12_isOpen_4 : decode cX12_isOpen 4 = .ok (.irem, 1) := by decide +kernel
theorem dX12_isOpen_5 : decode cX12_isOpen 5 = .ok (.aload_n 0, 1) := by decide +kernel
theorem dX12_isOpen_6 : decode cX12_isOpen 6 = .ok (.getfield 7, 3) := by decide +kernel
theorem dX12_isOpen_9 : decode cX12_isOpen 9 = .ok (.iload_n 1, 1) := by decide +kernel
theorem dX12_isOpen_10 : decode cX12_isOpen 10 = .ok (.iaload, 1) := by decide +kernel
theorem dX12_isOpen_11 : decode cX12_isOpen 11 = .ok (.aload_n 0, 1) := by decide +kernel
theorem dX12_isOpen_12 : decode cX12_isOpen 12 = .ok (.getfield 13, 3) := by decide +kernel
theorem dX12_isOpen_15 : decode cX12_isOpen 15 = .ok (.iload_n 1, 1) := by decide +kernel
theorem dX12_isOpen_16 : decode cX12_isOpen 16 = .ok (.iaload, 1) := by decide +kernel
theorem dX12_isOpen_17 : decode cX12_isOpen 17 = .ok (.invokestatic 123, 3) := by decide +kernel
theorem dX12_isOpen_20 : decode cX12_isOpen 20 = .ok (.ireturn, 1) := by decide +kernel
theorem dX12_joins_0 : decode cX12_joins 0 = .ok (.iconst 0, 1) := by decide +kernel
theorem dX12_joins_1 : decode cX12_joins 1 = .ok (.istore_n 3, 1) := by decide +kernel
theorem dX12_joins_2 : decode cX12_joins 2 = .ok (.iload_n 3, 1) := by decide +kernel
theorem dX12_joins_3 : decode cX12_joins 3 = .ok (.aload_n 0, 1) := by decide +kernel
theorem dX12_joins_4 : decode cX12_joins 4 = .ok (.getfield 127, 3) := by decide +kernel
theorem dX12_joins_7 : decode cX12_joins 7 = .ok (.if_icmp .ge 51, 3) := by decide +kernel
theorem dX12_joins_10 : decode cX12_joins 10 = .ok (.aload_n 0, 1) := by decide +kernel
theorem dX12_joins_11 : decode cX12_joins 11 = .ok (.getfield 16, 3) := by decide +kernel
theorem dX12_joins_14 : decode cX12_joins 14 = .ok (.iload_n 3, 1) := by decide +kernel
theorem dX12_joins_15 : decode cX12_joins 15 = .ok (.iaload, 1) := by decide +kernel
theorem dX12_joins_16 : decode cX12_joins 16 = .ok (.iload_n 1, 1) := by decide +kernel
theorem dX12_joins_17 : decode cX12_joins 17 = .ok (.if_icmp .ne 13, 3) := by decide +kernel
theorem dX12_joins_20 : decode cX12_joins 20 = .ok (.aload_n 0, 1) := by decide +kernel
theorem dX12_joins_21 : decode cX12_joins 21 = .ok (.getfield 19, 3) := by decide +kernel
theorem dX12_joins_24 : decode cX12_joins 24 = .ok (.iload_n 3, 1) := by decide +kernel
theorem dX12_joins_25 : decode cX12_joins 25 = .ok (.iaload, 1) := by decide +kernel
theorem dX12_joins_26 : decode cX12_joins 26 = .ok (.iload_n 2, 1) := by decide +kernel
theorem dX12_joins_27 : decode cX12_joins 27 = .ok (.if_icmp .eq 23, 3) := by decide +kernel
theorem dX12_joins_30 : decode cX12_joins 30 = .ok (.aload_n 0, 1) := by decide +kernel
theorem dX12_joins_31 : decode cX12_joins 31 = .ok (.getfield 16, 3) := by decide +kernel
theorem dX12_joins_34 : decode cX12_joins 34 = .ok (.iload_n 3, 1) := by decide +kernel
theorem dX12_joins_35 : decode cX12_joins 35 = .ok (.iaload, 1) := by decide +kernel
theorem dX12_joins_36 : decode cX12_joins 36 = .ok (.iload_n 2, 1) := by decide +kernel
theorem dX12_joins_37 : decode cX12_joins 37 = .ok (.if_icmp .ne 15, 3) := by decide +kernel
theorem dX12_joins_40 : decode cX12_joins 40 = .ok (.aload_n 0, 1) := by decide +kernel
theorem dX12_joins_41 : decode cX12_joins 41 = .ok (.getfield 19, 3) := by decide +kernel
theorem dX12_joins_44 : decode cX12_joins 44 = .ok (.iload_n 3, 1) := by decide +kernel
theorem dX12_joins_45 : decode cX12_joins 45 = .ok (.iaload, 1) := by decide +kernel
theorem dX12_joins_46 : decode cX12_joins 46 = .ok (.iload_n 1, 1) := by decide +kernel
theorem dX12_joins_47 : decode cX12_joins 47 = .ok (.if_icmp .ne 5, 3) := by decide +kernel
theorem dX12_joins_50 : decode cX12_joins 50 = .ok (.iload_n 3, 1) := by decide +kernel
theorem dX12_joins_51 : decode cX12_joins 51 = .ok (.ireturn, 1) := by decide +kernel
theorem dX12_joins_52 : decode cX12_joins 52 = .ok (.iinc 3 1, 3) := by decide +kernel
theorem dX12_joins_55 : decode cX12_joins 55 = .ok (.goto (-53), 3) := by decide +kernel
theorem dX12_joins_58 : decode cX12_joins 58 = .ok (.iconst (-1), 1) := by decide +kernel
theorem dX12_joins_59 : decode cX12_joins 59 = .ok (.ireturn, 1) := by decide +kernel
theorem dX12_wire_0 : decode cX12_wire 0 = .ok (.iload_n 1, 1) := by decide +kernel
theorem dX12_wire_1 : decode cX12_wire 1 = .ok (.invokestatic 133, 3) := by decide +kernel
theorem dX12_wire_4 : decode cX12_wire 4 = .ok (.ifCond .eq 10, 3) := by decide +kernel
theorem dX12_wire_7 : decode cX12_wire 7 = .ok (.iload_n 2, 1) := by decide +kernel
theorem dX12_wire_8 : decode cX12_wire 8 = .ok (.invokestatic 133, 3) := by decide +kernel
theorem dX12_wire_11 : decode cX12_wire 11 = .ok (.ifCond .ne 6, 3) := by decide +kernel
theorem dX12_wire_14 : decode cX12_wire 14 = .ok (.bipush (-2), 2) := by decide +kernel
theorem dX12_wire_16 : decode cX12_wire 16 = .ok (.ireturn, 1) := by decide +kernel
theorem dX12_wire_17 : decode cX12_wire 17 = .ok (.iload_n 1, 1) := by decide +kernel
theorem dX12_wire_18 : decode cX12_wire 18 = .ok (.iload_n 2, 1) := by decide +kernel
theorem dX12_wire_19 : decode cX12_wire 19 = .ok (.if_icmp .eq 13, 3) := by decide +kernel
theorem dX12_wire_22 : decode cX12_wire 22 = .ok (.iload_n 3, 1) := by decide +kernel
theorem dX12_wire_23 : decode cX12_wire 23 = .ok (.iconst 1, 1) := by decide +kernel
theorem dX12_wire_24 : decode cX12_wire 24 = .ok (.bipush 40, 2) := by decide +kernel
theorem dX12_wire_26 : decode cX12_wire 26 = .ok (.invokestatic 123, 3) := by decide +kernel
theorem dX12_wire_29 : decode cX12_wire 29 = .ok (.ifCond .ne 6, 3) := by decide +kernel
theorem dX12_wire_32 : decode cX12_wire 32 = .ok (.bipush (-3), 2) := by decide +kernel
theorem dX12_wire_34 : decode cX12_wire 34 = .ok (.ireturn, 1) := by decide +kernel
theorem dX12_wire_35 : decode cX12_wire 35 = .ok (.aload_n 0, 1) := by decide +kernel
theorem dX12_wire_36 : decode cX12_wire 36 = .ok (.iload_n 1, 1) := by decide +kernel
theorem dX12_wire_37 : decode cX12_wire 37 = .ok (.iload_n 2, 1) := by decide +kernel
theorem dX12_wire_38 : decode cX12_wire 38 = .ok (.invokevirtual 137, 3) := by decide +kernel
theorem dX12_wire_41 : decode cX12_wire 41 = .ok (.iconst (-1), 1) := by decide +kernel
theorem dX12_wire_42 : decode cX12_wire 42 = .ok (.if_icmp .eq 6, 3) := by decide +kernel
theorem dX12_wire_45 : decode cX12_wire 45 = .ok (.bipush (-4), 2) := by decide +kernel
theorem dX12_wire_47 : decode cX12_wire 47 = .ok (.ireturn, 1) := by decide +kernel
theorem dX12_wire_48 : decode cX12_wire 48 = .ok (.aload_n 0, 1) := by decide +kernel
theorem dX12_wire_49 : decode cX12_wire 49 = .ok (.getfield 127, 3) := by decide +kernel
theorem dX12_wire_52 : decode cX12_wire 52 = .ok (.bipush 12, 2) := by decide +kernel
theorem dX12_wire_54 : decode cX12_wire 54 = .ok (.if_icmp .ne 6, 3) := by decide +kernel
theorem dX12_wire_57 : decode cX12_wire 57 = .ok (.bipush (-5), 2) := by decide +kernel
theorem dX12_wire_59 : decode cX12_wire 59 = .ok (.ireturn, 1) := by decide +kernel
theorem dX12_wire_60 : decode cX12_wire 60 = .ok (.aload_n 0, 1) := by decide +kernel
theorem dX12_wire_61 : decode cX12_wire 61 = .ok (.getfield 16, 3) := by decide +kernel
theorem dX12_wire_64 : decode cX12_wire 64 = .ok (.aload_n 0, 1) := by decide +kernel
theorem dX12_wire_65 : decode cX12_wire 65 = .ok (.getfield 127, 3) := by decide +kernel
theorem dX12_wire_68 : decode cX12_wire 68 = .ok (.iload_n 1, 1) := by decide +kernel
theorem dX12_wire_69 : decode cX12_wire 69 = .ok (.iastore, 1) := by decide +kernel
theorem dX12_wire_70 : decode cX12_wire 70 = .ok (.aload_n 0, 1) := by decide +kernel
theorem dX12_wire_71 : decode cX12_wire 71 = .ok (.getfield 19, 3) := by decide +kernel
theorem dX12_wire_74 : decode cX12_wire 74 = .ok (.aload_n 0, 1) := by decide +kernel
theorem dX12_wire_75 : decode cX12_wire 75 = .ok (.getfield 127, 3) := by decide +kernel
theorem dX12_wire_78 : decode cX12_wire 78 = .ok (.iload_n 2, 1) := by decide +kernel
theorem dX12_wire_79 : decode cX12_wire 79 = .ok (.iastore, 1) := by decide +kernel
theorem dX12_wire_80 : decode cX12_wire 80 = .ok (.aload_n 0, 1) := by decide +kernel
theorem dX12_wire_81 : decode cX12_wire 81 = .ok (.getfield 22, 3) := by decide +kernel
theorem dX12_wire_84 : decode cX12_wire 84 = .ok (.aload_n 0, 1) := by decide +kernel
theorem dX12_wire_85 : decode cX12_wire 85 = .ok (.getfield 127, 3) := by decide +kernel
theorem dX12_wire_88 : decode cX12_wire 88 = .ok (.iload_n 3, 1) := by decide +kernel
theorem dX12_wire_89 : decode cX12_wire 89 = .ok (.iastore, 1) := by decide +kernel
theorem dX12_wire_90 : decode cX12_wire 90 = .ok (.aload_n 0, 1) := by decide +kernel
theorem dX12_wire_91 : decode cX12_wire 91 = .ok (.getfield 25, 3) := by decide +kernel
theorem dX12_wire_94 : decode cX12_wire 94 = .ok (.aload_n 0, 1) := by decide +kernel
theorem dX12_wire_95 : decode cX12_wire 95 = .ok (.getfield 127, 3) := by decide +kernel
theorem dX12_wire_98 : decode cX12_wire 98 = .ok (.iload 4, 2) := by decide +kernel
theorem dX12_wire_100 : decode cX12_wire 100 = .ok (.bastore, 1) := by decide +kernel
theorem dX12_wire_101 : decode cX12_wire 101 = .ok (.aload_n 0, 1) := by decide +kernel
theorem dX12_wire_102 : decode cX12_wire 102 = .ok (.dup, 1) := by decide +kernel
theorem dX12_wire_103 : decode cX12_wire 103 = .ok (.getfield 127, 3) := by decide +kernel
theorem dX12_wire_106 : decode cX12_wire 106 = .ok (.iconst 1, 1) := by decide +kernel
theorem dX12_wire_107 : decode cX12_wire 107 = .ok (.iadd, 1) := by decide +kernel
theorem dX12_wire_108 : decode cX12_wire 108 = .ok (.putfield 127, 3) := by decide +kernel
theorem dX12_wire_111 : decode cX12_wire 111 = .ok (.aload_n 0, 1) := by decide +kernel
theorem dX12_wire_112 : decode cX12_wire 112 = .ok (.getfield 127, 3) := by decide +kernel
theorem dX12_wire_115 : decode cX12_wire 115 = .ok (.iconst 1, 1) := by decide +kernel
theorem dX12_wire_116 : decode cX12_wire 116 = .ok (.isub, 1) := by decide +kernel
theorem dX12_wire_117 : decode cX12_wire 117 = .ok (.ireturn, 1) := by decide +kernel
theorem dX12_storm_0 : decode cX12_storm 0 = .ok (.aload_n 0, 1) := by decide +kernel
theorem dX12_storm_1 : decode cX12_storm 1 = .ok (.iload_n 1, 1) := by decide +kernel
theorem dX12_storm_2 : decode cX12_storm 2 = .ok (.invokevirtual 141, 3) := by decide +kernel
theorem dX12_storm_5 : decode cX12_storm 5 = .ok (.ifCond .ne 6, 3) := by decide +kernel
theorem dX12_storm_8 : decode cX12_storm 8 = .ok (.bipush (-2), 2) := by decide +kernel
theorem dX12_storm_10 : decode cX12_storm 10 = .ok (.ireturn, 1) := by decide +kernel
theorem dX12_storm_11 : decode cX12_storm 11 = .ok (.iload_n 2, 1) := by decide +kernel
theorem dX12_storm_12 : decode cX12_storm 12 = .ok (.aload_n 0, 1) := by decide +kernel
theorem dX12_storm_13 : decode cX12_storm 13 = .ok (.getfield 144, 3) := by decide +kernel
theorem dX12_storm_16 : decode cX12_storm 16 = .ok (.sipush 9000, 3) := by decide +kernel
theorem dX12_storm_19 : decode cX12_storm 19 = .ok (.invokestatic 123, 3) := by decide +kernel
theorem dX12_storm_22 : decode cX12_storm 22 = .ok (.ifCond .eq 14, 3) := by decide +kernel
theorem dX12_storm_25 : decode cX12_storm 25 = .ok (.iload_n 3, 1) := by decide +kernel
theorem dX12_storm_26 : decode cX12_storm 26 = .ok (.iload_n 2, 1) := by decide +kernel
theorem dX12_storm_27 : decode cX12_storm 27 = .ok (.sipush 9000, 3) := by decide +kernel
theorem dX12_storm_30 : decode cX12_storm 30 = .ok (.invokestatic 123, 3) := by decide +kernel
theorem dX12_storm_33 : decode cX12_storm 33 = .ok (.ifCond .ne 6, 3) := by decide +kernel
theorem dX12_storm_36 : decode cX12_storm 36 = .ok (.bipush (-3), 2) := by decide +kernel
theorem dX12_storm_38 : decode cX12_storm 38 = .ok (.ireturn, 1) := by decide +kernel
theorem dX12_storm_39 : decode cX12_storm 39 = .ok (.aload_n 0, 1) := by decide +kernel
theorem dX12_storm_40 : decode cX12_storm 40 = .ok (.getfield 147, 3) := by decide +kernel
theorem dX12_storm_43 : decode cX12_storm 43 = .ok (.bipush 12, 2) := by decide +kernel
theorem dX12_storm_45 : decode cX12_storm 45 = .ok (.if_icmp .ne 6, 3) := by decide +kernel
theorem dX12_storm_48 : decode cX12_storm 48 = .ok (.bipush (-5), 2) := by decide +kernel
theorem dX12_storm_50 : decode cX12_storm 50 = .ok (.ireturn, 1) := by decide +kernel
theorem dX12_storm_51 : decode cX12_storm 51 = .ok (.aload_n 0, 1) := by decide +kernel
theorem dX12_storm_52 : decode cX12_storm 52 = .ok (.getfield 29, 3) := by decide +kernel
theorem dX12_storm_55 : decode cX12_storm 55 = .ok (.iconst 3, 1) := by decide +kernel
theorem dX12_storm_56 : decode cX12_storm 56 = .ok (.aload_n 0, 1) := by decide +kernel
theorem dX12_storm_57 : decode cX12_storm 57 = .ok (.getfield 147, 3) := by decide +kernel
theorem dX12_storm_60 : decode cX12_storm 60 = .ok (.imul, 1) := by decide +kernel
theorem dX12_storm_61 : decode cX12_storm 61 = .ok (.iload_n 1, 1) := by decide +kernel
theorem dX12_storm_62 : decode cX12_storm 62 = .ok (.iastore, 1) := by decide +kernel
theorem dX12_storm_63 : decode cX12_storm 63 = .ok (.aload_n 0, 1) := by decide +kernel
theorem dX12_storm_64 : decode cX12_storm 64 = .ok (.getfield 29, 3) := by decide +kernel
theorem dX12_storm_67 : decode cX12_storm 67 = .ok (.iconst 3, 1) := by decide +kernel
theorem dX12_storm_68 : decode cX12_storm 68 = .ok (.aload_n 0, 1) := by decide +kernel
theorem dX12_storm_69 : decode cX12_storm 69 = .ok (.getfield 147, 3) := by decide +kernel
theorem dX12_storm_72 : decode cX12_storm 72 = .ok (.imul, 1) := by decide +kernel
theorem dX12_storm_73 : decode cX12_storm 73 = .ok (.iconst 1, 1) := by decide +kernel
theorem dX12_storm_74 : decode cX12_storm 74 = .ok (.iadd, 1) := by decide +kernel
theorem dX12_storm_75 : decode cX12_storm 75 = .ok (.iload_n 2, 1) := by decide +kernel
theorem dX12_storm_76 : decode cX12_storm 76 = .ok (.iastore, 1) := by decide +kernel
theorem dX12_storm_77 : decode cX12_storm 77 = .ok (.aload_n 0, 1) := by decide +kernel
theorem dX12_storm_78 : decode cX12_storm 78 = .ok (.getfield 29, 3) := by decide +kernel
theorem dX12_storm_81 : decode cX12_storm 81 = .ok (.iconst 3, 1) := by decide +kernel
theorem dX12_storm_82 : decode cX12_storm 82 = .ok (.aload_n 0, 1) := by decide +kernel
theorem dX12_storm_83 : decode cX12_storm 83 = .ok (.getfield 147, 3) := by decide +kernel
theorem dX12_storm_86 : decode cX12_storm 86 = .ok (.imul, 1) := by decide +kernel
theorem dX12_storm_87 : decode cX12_storm 87 = .ok (.iconst 2, 1) := by decide +kernel
theorem dX12_storm_88 : decode cX12_storm 88 = .ok (.iadd, 1) := by decide +kernel
theorem dX12_storm_89 : decode cX12_storm 89 = .ok (.iload_n 3, 1) := by decide +kernel
theorem dX12_storm_90 : decode cX12_storm 90 = .ok (.iastore, 1) := by decide +kernel
theorem dX12_storm_91 : decode cX12_storm 91 = .ok (.aload_n 0, 1) := by decide +kernel
theorem dX12_storm_92 : decode cX12_storm 92 = .ok (.dup, 1) := by decide +kernel
theorem dX12_storm_93 : decode cX12_storm 93 = .ok (.getfield 147, 3) := by decide +kernel
theorem dX12_storm_96 : decode cX12_storm 96 = .ok (.iconst 1, 1) := by decide +kernel
theorem dX12_storm_97 : decode cX12_storm 97 = .ok (.iadd, 1) := by decide +kernel
theorem dX12_storm_98 : decode cX12_storm 98 = .ok (.putfield 147, 3) := by decide +kernel
theorem dX12_storm_101 : decode cX12_storm 101 = .ok (.aload_n 0, 1) := by decide +kernel
theorem dX12_storm_102 : decode cX12_storm 102 = .ok (.getfield 147, 3) := by decide +kernel
theorem dX12_storm_105 : decode cX12_storm 105 = .ok (.ireturn, 1) := by decide +kernel
theorem dX12_let_0 : decode cX12_let 0 = .ok (.aload_n 0, 1) := by decide +kernel
theorem dX12_let_1 : decode cX12_let 1 = .ok (.iload_n 1, 1) := by decide +kernel
theorem dX12_let_2 : decode cX12_let 2 = .ok (.invokevirtual 141, 3) := by decide +kernel
theorem dX12_let_5 : decode cX12_let 5 = .ok (.ifCond .ne 6, 3) := by decide +kernel
theorem dX12_let_8 : decode cX12_let 8 = .ok (.bipush (-2), 2) := by decide +kernel
theorem dX12_let_10 : decode cX12_let 10 = .ok (.ireturn, 1) := by decide +kernel
theorem dX12_let_11 : decode cX12_let 11 = .ok (.iload_n 2, 1) := by decide +kernel
theorem dX12_let_12 : decode cX12_let 12 = .ok (.aload_n 0, 1) := by decide +kernel
theorem dX12_let_13 : decode cX12_let 13 = .ok (.getfield 144, 3) := by decide +kernel
theorem dX12_let_16 : decode cX12_let 16 = .ok (.sipush 9000, 3) := by decide +kernel
theorem dX12_let_19 : decode cX12_let 19 = .ok (.invokestatic 123, 3) := by decide +kernel
theorem dX12_let_22 : decode cX12_let 22 = .ok (.ifCond .eq 14, 3) := by decide +kernel
theorem dX12_let_25 : decode cX12_let 25 = .ok (.iload_n 3, 1) := by decide +kernel
theorem dX12_let_26 : decode cX12_let 26 = .ok (.iload_n 2, 1) := by decide +kernel
theorem dX12_let_27 : decode cX12_let 27 = .ok (.sipush 9000, 3) := by decide +kernel
theorem dX12_let_30 : decode cX12_let 30 = .ok (.invokestatic 123, 3) := by decide +kernel
theorem dX12_let_33 : decode cX12_let 33 = .ok (.ifCond .ne 6, 3) := by decide +kernel
theorem dX12_let_36 : decode cX12_let 36 = .ok (.bipush (-3), 2) := by decide +kernel
theorem dX12_let_38 : decode cX12_let 38 = .ok (.ireturn, 1) := by decide +kernel
theorem dX12_let_39 : decode cX12_let 39 = .ok (.aload_n 0, 1) := by decide +kernel
theorem dX12_let_40 : decode cX12_let 40 = .ok (.getfield 150, 3) := by decide +kernel
theorem dX12_let_43 : decode cX12_let 43 = .ok (.bipush 6, 2) := by decide +kernel
theorem dX12_let_45 : decode cX12_let 45 = .ok (.if_icmp .ne 6, 3) := by decide +kernel
theorem dX12_let_48 : decode cX12_let 48 = .ok (.bipush (-5), 2) := by decide +kernel
theorem dX12_let_50 : decode cX12_let 50 = .ok (.ireturn, 1) := by decide +kernel
theorem dX12_let_51 : decode cX12_let 51 = .ok (.aload_n 0, 1) := by decide +kernel
theorem dX12_let_52 : decode cX12_let 52 = .ok (.getfield 32, 3) := by decide +kernel
theorem dX12_let_55 : decode cX12_let 55 = .ok (.iconst 3, 1) := by decide +kernel
theorem dX12_let_56 : decode cX12_let 56 = .ok (.aload_n 0, 1) := by decide +kernel
theorem dX12_let_57 : decode cX12_let 57 = .ok (.getfield 150, 3) := by decide +kernel
theorem dX12_let_60 : decode cX12_let 60 = .ok (.imul, 1) := by decide +kernel
theorem dX12_let_61 : decode cX12_let 61 = .ok (.iload_n 1, 1) := by decide +kernel
theorem dX12_let_62 : decode cX12_let 62 = .ok (.iastore, 1) := by decide +kernel
theorem dX12_let_63 : decode cX12_let 63 = .ok (.aload_n 0, 1) := by decide +kernel
theorem dX12_let_64 : decode cX12_let 64 = .ok (.getfield 32, 3) := by decide +kernel
theorem dX12_let_67 : decode cX12_let 67 = .ok (.iconst 3, 1) := by decide +kernel
theorem dX12_let_68 : decode cX12_let 68 = .ok (.aload_n 0, 1) := by decide +kernel
theorem dX12_let_69 : decode cX12_let 69 = .ok (.getfield 150, 3) := by decide +kernel
theorem dX12_let_72 : decode cX12_let 72 = .ok (.imul, 1) := by decide +kernel
theorem dX12_let_73 : decode cX12_let 73 = .ok (.iconst 1, 1) := by decide +kernel
theorem dX12_let_74 : decode cX12_let 74 = .ok (.iadd, 1) := by decide +kernel
theorem dX12_let_75 : decode cX12_let 75 = .ok (.iload_n 2, 1) := by decide +kernel
theorem dX12_let_76 : decode cX12_let 76 = .ok (.iastore, 1) := by decide +kernel
theorem dX12_let_77 : decode cX12_let 77 = .ok (.aload_n 0, 1) := by decide +kernel
theorem dX12_let_78 : decode cX12_let 78 = .ok (.getfield 32, 3) := by decide +kernel
theorem dX12_let_81 : decode cX12_let 81 = .ok (.iconst 3, 1) := by decide +kernel
theorem dX12_let_82 : decode cX12_let 82 = .ok (.aload_n 0, 1) := by decide +kernel
theorem dX12_let_83 : decode cX12_let 83 = .ok (.getfield 150, 3) := by decide +kernel
theorem dX12_let_86 : decode cX12_let 86 = .ok (.imul, 1) := by decide +kernel
theorem dX12_let_87 : decode cX12_let 87 = .ok (.iconst 2, 1) := by decide +kernel
theorem dX12_let_88 : decode cX12_let 88 = .ok (.iadd, 1) := by decide +kernel
theorem dX12_let_89 : decode cX12_let 89 = .ok (.iload_n 3, 1) := by decide +kernel
theorem dX12_let_90 : decode cX12_let 90 = .ok (.iastore, 1) := by decide +kernel
theorem dX12_let_91 : decode cX12_let 91 = .ok (.aload_n 0, 1) := by decide +kernel
theorem dX12_let_92 : decode cX12_let 92 = .ok (.dup, 1) := by decide +kernel
theorem dX12_let_93 : decode cX12_let 93 = .ok (.getfield 150, 3) := by decide +kernel
theorem dX12_let_96 : decode cX12_let 96 = .ok (.iconst 1, 1) := by decide +kernel
theorem dX12_let_97 : decode cX12_let 97 = .ok (.iadd, 1) := by decide +kernel
theorem dX12_let_98 : decode cX12_let 98 = .ok (.putfield 150, 3) := by decide +kernel
theorem dX12_let_101 : decode cX12_let 101 = .ok (.aload_n 0, 1) := by decide +kernel
theorem dX12_let_102 : decode cX12_let 102 = .ok (.getfield 150, 3) := by decide +kernel
theorem dX12_let_105 : decode cX12_let 105 = .ok (.ireturn, 1) := by decide +kernel
theorem dX12_isUp_0 : decode cX12_isUp 0 = .ok (.iload_n 1, 1) := by decide +kernel
theorem dX12_isUp_1 : decode cX12_isUp 1 = .ok (.aload_n 0, 1) := by decide +kernel
theorem dX12_isUp_2 : decode cX12_isUp 2 = .ok (.getfield 35, 3) := by decide +kernel
theorem dX12_isUp_5 : decode cX12_isUp 5 = .ok (.if_icmp .eq 7, 3) := by decide +kernel
theorem dX12_isUp_8 : decode cX12_isUp 8 = .ok (.iconst 1, 1) := by decide +kernel
theorem dX12_isUp_9 : decode cX12_isUp 9 = .ok (.goto 4, 3) := by decide +kernel
theorem dX12_isUp_12 : decode cX12_isUp 12 = .ok (.iconst 0, 1) := by decide +kernel
theorem dX12_isUp_13 : decode cX12_isUp 13 = .ok (.istore_n 3, 1) := by decide +kernel
theorem dX12_isUp_14 : decode cX12_isUp 14 = .ok (.iconst 0, 1) := by decide +kernel
theorem dX12_isUp_15 : decode cX12_isUp 15 = .ok (.istore 4, 2) := by decide +kernel
theorem dX12_isUp_17 : decode cX12_isUp 17 = .ok (.iload 4, 2) := by decide +kernel
theorem dX12_isUp_19 : decode cX12_isUp 19 = .ok (.aload_n 0, 1) := by decide +kernel
theorem dX12_isUp_20 : decode cX12_isUp 20 = .ok (.getfield 147, 3) := by decide +kernel
theorem dX12_isUp_23 : decode cX12_isUp 23 = .ok (.if_icmp .ge 61, 3) := by decide +kernel
theorem dX12_isUp_26 : decode cX12_isUp 26 = .ok (.iload_n 3, 1) := by decide +kernel
theorem dX12_isUp_27 : decode cX12_isUp 27 = .ok (.ifCond .eq 49, 3) := by decide +kernel
theorem dX12_isUp_30 : decode cX12_isUp 30 = .ok (.aload_n 0, 1) := by decide +kernel
theorem dX12_isUp_31 : decode cX12_isUp 31 = .ok (.getfield 29, 3) := by decide +kernel
theorem dX12_isUp_34 : decode cX12_isUp 34 = .ok (.iconst 3, 1) := by decide +kernel
theorem dX12_isUp_35 : decode cX12_isUp 35 = .ok (.iload 4, 2) := by decide +kernel
theorem dX12_isUp_37 : decode cX12_isUp 37 = .ok (.imul, 1) := by decide +kernel
theorem dX12_isUp_38 : decode cX12_isUp 38 = .ok (.iaload, 1) := by decide +kernel
theorem dX12_isUp_39 : decode cX12_isUp 39 = .ok (.iload_n 1, 1) := by decide +kernel
theorem dX12_isUp_40 : decode cX12_isUp 40 = .ok (.if_icmp .ne 32, 3) := by decide +kernel
theorem dX12_isUp_43 : decode cX12_isUp 43 = .ok (.iload_n 2, 1) := by decide +kernel
theorem dX12_isUp_44 : decode cX12_isUp 44 = .ok (.aload_n 0, 1) := by decide +kernel
theorem dX12_isUp_45 : decode cX12_isUp 45 = .ok (.getfield 29, 3) := by decide +kernel
theorem dX12_isUp_48 : decode cX12_isUp 48 = .ok (.iconst 3, 1) := by decide +kernel
theorem dX12_isUp_49 : decode cX12_isUp 49 = .ok (.iload 4, 2) := by decide +kernel
theorem dX12_isUp_51 : decode cX12_isUp 51 = .ok (.imul, 1) := by decide +kernel
theorem dX12_isUp_52 : decode cX12_isUp 52 = .ok (.iconst 1, 1) := by decide +kernel
theorem dX12_isUp_53 : decode cX12_isUp 53 = .ok (.iadd, 1) := by decide +kernel
theorem dX12_isUp_54 : decode cX12_isUp 54 = .ok (.iaload, 1) := by decide +kernel
theorem dX12_isUp_55 : decode cX12_isUp 55 = .ok (.aload_n 0, 1) := by decide +kernel
theorem dX12_isUp_56 : decode cX12_isUp 56 = .ok (.getfield 29, 3) := by decide +kernel
theorem dX12_isUp_59 : decode cX12_isUp 59 = .ok (.iconst 3, 1) := by decide +kernel
theorem dX12_isUp_60 : decode cX12_isUp 60 = .ok (.iload 4, 2) := by decide +kernel
theorem dX12_isUp_62 : decode cX12_isUp 62 = .ok (.imul, 1) := by decide +kernel
theorem dX12_isUp_63 : decode cX12_isUp 63 = .ok (.iconst 2, 1) := by decide +kernel
theorem dX12_isUp_64 : decode cX12_isUp 64 = .ok (.iadd, 1) := by decide +kernel
theorem dX12_isUp_65 : decode cX12_isUp 65 = .ok (.iaload, 1) := by decide +kernel
theorem dX12_isUp_66 : decode cX12_isUp 66 = .ok (.invokestatic 123, 3) := by decide +kernel
theorem dX12_isUp_69 : decode cX12_isUp 69 = .ok (.ifCond .ne 7, 3) := by decide +kernel
theorem dX12_isUp_72 : decode cX12_isUp 72 = .ok (.iconst 1, 1) := by decide +kernel
theorem dX12_isUp_73 : decode cX12_isUp 73 = .ok (.goto 4, 3) := by decide +kernel
theorem dX12_isUp_76 : decode cX12_isUp 76 = .ok (.iconst 0, 1) := by decide +kernel
theorem dX12_isUp_77 : decode cX12_isUp 77 = .ok (.istore_n 3, 1) := by decide +kernel
theorem dX12_isUp_78 : decode cX12_isUp 78 = .ok (.iinc 4 1, 3) := by decide +kernel
theorem dX12_isUp_81 : decode cX12_isUp 81 = .ok (.goto (-64), 3) := by decide +kernel
theorem dX12_isUp_84 : decode cX12_isUp 84 = .ok (.iconst 0, 1) := by decide +kernel
theorem dX12_isUp_85 : decode cX12_isUp 85 = .ok (.istore 4, 2) := by decide +kernel
theorem dX12_isUp_87 : decode cX12_isUp 87 = .ok (.iload 4, 2) := by decide +kernel
theorem dX12_isUp_89 : decode cX12_isUp 89 = .ok (.aload_n 0, 1) := by decide +kernel
theorem dX12_isUp_90 : decode cX12_isUp 90 = .ok (.getfield 150, 3) := by decide +kernel
theorem dX12_isUp_93 : decode cX12_isUp 93 = .ok (.if_icmp .ge 61, 3) := by decide +kernel
theorem dX12_isUp_96 : decode cX12_isUp 96 = .ok (.iload_n 3, 1) := by decide +kernel
theorem dX12_isUp_97 : decode cX12_isUp 97 = .ok (.ifCond .eq 49, 3) := by decide +kernel
theorem dX12_isUp_100 : decode cX12_isUp 100 = .ok (.aload_n 0, 1) := by decide +kernel
theorem dX12_isUp_101 : decode cX12_isUp 101 = .ok (.getfield 32, 3) := by decide +kernel
theorem dX12_isUp_104 : decode cX12_isUp 104 = .ok (.iconst 3, 1) := by decide +kernel
theorem dX12_isUp_105 : decode cX12_isUp 105 = .ok (.iload 4, 2) := by decide +kernel
theorem dX12_isUp_107 : decode cX12_isUp 107 = .ok (.imul, 1) := by decide +kernel
theorem dX12_isUp_108 : decode cX12_isUp 108 = .ok (.iaload, 1) := by decide +kernel
theorem dX12_isUp_109 : decode cX12_isUp 109 = .ok (.iload_n 1, 1) := by decide +kernel
theorem dX12_isUp_110 : decode cX12_isUp 110 = .ok (.if_icmp .ne 32, 3) := by decide +kernel
theorem dX12_isUp_113 : decode cX12_isUp 113 = .ok (.iload_n 2, 1) := by decide +kernel
theorem dX12_isUp_114 : decode cX12_isUp 114 = .ok (.aload_n 0, 1) := by decide +kernel
theorem dX12_isUp_115 : decode cX12_isUp 115 = .ok (.getfield 32, 3) := by decide +kernel
theorem dX12_isUp_118 : decode cX12_isUp 118 = .ok (.iconst 3, 1) := by decide +kernel
theorem dX12_isUp_119 : decode cX12_isUp 119 = .ok (.iload 4, 2) := by decide +kernel
theorem dX12_isUp_121 : decode cX12_isUp 121 = .ok (.imul, 1) := by decide +kernel
theorem dX12_isUp_122 : decode cX12_isUp 122 = .ok (.iconst 1, 1) := by decide +kernel
theorem dX12_isUp_123 : decode cX12_isUp 123 = .ok (.iadd, 1) := by decide +kernel
theorem dX12_isUp_124 : decode cX12_isUp 124 = .ok (.iaload, 1) := by decide +kernel
theorem dX12_isUp_125 : decode cX12_isUp 125 = .ok (.aload_n 0, 1) := by decide +kernel
theorem dX12_isUp_126 : decode cX12_isUp 126 = .ok (.getfield 32, 3) := by decide +kernel
theorem dX12_isUp_129 : decode cX12_isUp 129 = .ok (.iconst 3, 1) := by decide +kernel
theorem dX12_isUp_130 : decode cX12_isUp 130 = .ok (.iload 4, 2) := by decide +kernel
theorem dX12_isUp_132 : decode cX12_isUp 132 = .ok (.imul, 1) := by decide +kernel
theorem dX12_isUp_133 : decode cX12_isUp 133 = .ok (.iconst 2, 1) := by decide +kernel
theorem dX12_isUp_134 : decode cX12_isUp 134 = .ok (.iadd, 1) := by decide +kernel
theorem dX12_isUp_135 : decode cX12_isUp 135 = .ok (.iaload, 1) := by decide +kernel
theorem dX12_isUp_136 : decode cX12_isUp 136 = .ok (.invokestatic 123, 3) := by decide +kernel
theorem dX12_isUp_139 : decode cX12_isUp 139 = .ok (.ifCond .ne 7, 3) := by decide +kernel
theorem dX12_isUp_142 : decode cX12_isUp 142 = .ok (.iconst 1, 1) := by decide +kernel
theorem dX12_isUp_143 : decode cX12_isUp 143 = .ok (.goto 4, 3) := by decide +kernel
theorem dX12_isUp_146 : decode cX12_isUp 146 = .ok (.iconst 0, 1) := by decide +kernel
theorem dX12_isUp_147 : decode cX12_isUp 147 = .ok (.istore_n 3, 1) := by decide +kernel
theorem dX12_isUp_148 : decode cX12_isUp 148 = .ok (.iinc 4 1, 3) := by decide +kernel
theorem dX12_isUp_151 : decode cX12_isUp 151 = .ok (.goto (-64), 3) := by decide +kernel
theorem dX12_isUp_154 : decode cX12_isUp 154 = .ok (.iload_n 3, 1) := by decide +kernel
theorem dX12_isUp_155 : decode cX12_isUp 155 = .ok (.ireturn, 1) := by decide +kernel
theorem dX12_message_0 : decode cX12_message 0 = .ok (.iload_n 1, 1) := by decide +kernel
theorem dX12_message_1 : decode cX12_message 1 = .ok (.invokestatic 133, 3) := by decide +kernel
theorem dX12_message_4 : decode cX12_message 4 = .ok (.ifCond .eq 15, 3) := by decide +kernel
theorem dX12_message_7 : decode cX12_message 7 = .ok (.iload_n 2, 1) := by decide +kernel
theorem dX12_message_8 : decode cX12_message 8 = .ok (.invokestatic 133, 3) := by decide +kernel
theorem dX12_message_11 : decode cX12_message 11 = .ok (.ifCond .eq 8, 3) := by decide +kernel
theorem dX12_message_14 : decode cX12_message 14 = .ok (.iload_n 1, 1) := by decide +kernel
theorem dX12_message_15 : decode cX12_message 15 = .ok (.iload_n 2, 1) := by decide +kernel
theorem dX12_message_16 : decode cX12_message 16 = .ok (.if_icmp .ne 6, 3) := by decide +kernel
theorem dX12_message_19 : decode cX12_message 19 = .ok (.bipush (-2), 2) := by decide +kernel
theorem dX12_message_21 : decode cX12_message 21 = .ok (.ireturn, 1) := by decide +kernel
theorem dX12_message_22 : decode cX12_message 22 = .ok (.iload_n 3, 1) := by decide +kernel
theorem dX12_message_23 : decode cX12_message 23 = .ok (.iconst 1, 1) := by decide +kernel
theorem dX12_message_24 : decode cX12_message 24 = .ok (.bipush 99, 2) := by decide +kernel
theorem dX12_message_26 : decode cX12_message 26 = .ok (.invokestatic 123, 3) := by decide +kernel
theorem dX12_message_29 : decode cX12_message 29 = .ok (.ifCond .eq 13, 3) := by decide +kernel
theorem dX12_message_32 : decode cX12_message 32 = .ok (.iload 4, 2) := by decide +kernel
theorem dX12_message_34 : decode cX12_message 34 = .ok (.iconst 0, 1) := by decide +kernel
theorem dX12_message_35 : decode cX12_message 35 = .ok (.iconst 4, 1) := by decide +kernel
theorem dX12_message_36 : decode cX12_message 36 = .ok (.invokestatic 123, 3) := by decide +kernel
theorem dX12_message_39 : decode cX12_message 39 = .ok (.ifCond .ne 6, 3) := by decide +kernel
theorem dX12_message_42 : decode cX12_message 42 = .ok (.bipush (-3), 2) := by decide +kernel
theorem dX12_message_44 : decode cX12_message 44 = .ok (.ireturn, 1) := by decide +kernel
theorem dX12_message_45 : decode cX12_message 45 = .ok (.aload_n 0, 1) := by decide +kernel
theorem dX12_message_46 : decode cX12_message 46 = .ok (.iload_n 1, 1) := by decide +kernel
theorem dX12_message_47 : decode cX12_message 47 = .ok (.aload_n 0, 1) := by decide +kernel
theorem dX12_message_48 : decode cX12_message 48 = .ok (.getfield 144, 3) := by decide +kernel
theorem dX12_message_51 : decode cX12_message 51 = .ok (.invokevirtual 153, 3) := by decide +kernel
theorem dX12_message_54 : decode cX12_message 54 = .ok (.ifCond .ne 6, 3) := by decide +kernel
theorem dX12_message_57 : decode cX12_message 57 = .ok (.bipush (-4), 2) := by decide +kernel
theorem dX12_message_59 : decode cX12_message 59 = .ok (.ireturn, 1) := by decide +kernel
theorem dX12_message_60 : decode cX12_message 60 = .ok (.aload_n 0, 1) := by decide +kernel
theorem dX12_message_61 : decode cX12_message 61 = .ok (.getfield 130, 3) := by decide +kernel
theorem dX12_message_64 : decode cX12_message 64 = .ok (.bipush 24, 2) := by decide +kernel
theorem dX12_message_66 : decode cX12_message 66 = .ok (.if_icmp .ne 6, 3) := by decide +kernel
theorem dX12_message_69 : decode cX12_message 69 = .ok (.bipush (-5), 2) := by decide +kernel
theorem dX12_message_71 : decode cX12_message 71 = .ok (.ireturn, 1) := by decide +kernel
theorem dX12_message_72 : decode cX12_message 72 = .ok (.bipush 6, 2) := by decide +kernel
theorem dX12_message_74 : decode cX12_message 74 = .ok (.aload_n 0, 1) := by decide +kernel
theorem dX12_message_75 : decode cX12_message 75 = .ok (.getfield 130, 3) := by decide +kernel
theorem dX12_message_78 : decode cX12_message 78 = .ok (.imul, 1) := by decide +kernel
theorem dX12_message_79 : decode cX12_message 79 = .ok (.istore 5, 2) := by decide +kernel
theorem dX12_message_81 : decode cX12_message 81 = .ok (.aload_n 0, 1) := by decide +kernel
theorem dX12_message_82 : decode cX12_message 82 = .ok (.iload_n 1, 1) := by decide +kernel
theorem dX12_message_83 : decode cX12_message 83 = .ok (.aload_n 0, 1) := by decide +kernel
theorem dX12_message_84 : decode cX12_message 84 = .ok (.getfield 144, 3) := by decide +kernel
theorem dX12_message_87 : decode cX12_message 87 = .ok (.invokevirtual 157, 3) := by decide +kernel
theorem dX12_message_90 : decode cX12_message 90 = .ok (.istore 6, 2) := by decide +kernel
theorem dX12_message_92 : decode cX12_message 92 = .ok (.iload_n 3, 1) := by decide +kernel
theorem dX12_message_93 : decode cX12_message 93 = .ok (.aload_n 0, 1) := by decide +kernel
theorem dX12_message_94 : decode cX12_message 94 = .ok (.iload 6, 2) := by decide +kernel
theorem dX12_message_96 : decode cX12_message 96 = .ok (.iconst 1, 1) := by decide +kernel
theorem dX12_message_97 : decode cX12_message 97 = .ok (.iload 4, 2) := by decide +kernel
theorem dX12_message_99 : decode cX12_message 99 = .ok (.iconst 1, 1) := by decide +kernel
theorem dX12_message_100 : decode cX12_message 100 = .ok (.invokevirtual 160, 3) := by decide +kernel
theorem dX12_message_103 : decode cX12_message 103 = .ok (.imul, 1) := by decide +kernel
theorem dX12_message_104 : decode cX12_message 104 = .ok (.istore 7, 2) := by decide +kernel
theorem dX12_message_106 : decode cX12_message 106 = .ok (.aload_n 0, 1) := by decide +kernel
theorem dX12_message_107 : decode cX12_message 107 = .ok (.iload 6, 2) := by decide +kernel
theorem dX12_message_109 : decode cX12_message 109 = .ok (.iconst 2, 1) := by decide +kernel
theorem dX12_message_110 : decode cX12_message 110 = .ok (.iconst 0, 1) := by decide +kernel
theorem dX12_message_111 : decode cX12_message 111 = .ok (.iconst 0, 1) := by decide +kernel
theorem dX12_message_112 : decode cX12_message 112 = .ok (.invokevirtual 160, 3) := by decide +kernel
theorem dX12_message_115 : decode cX12_message 115 = .ok (.istore 8, 2) := by decide +kernel
theorem dX12_message_117 : decode cX12_message 117 = .ok (.aload_n 0, 1) := by decide +kernel
theorem dX12_message_118 : decode cX12_message 118 = .ok (.getfield 39, 3) := by decide +kernel
theorem dX12_message_121 : decode cX12_message 121 = .ok (.iload 5, 2) := by decide +kernel
theorem dX12_message_123 : decode cX12_message 123 = .ok (.iload_n 1, 1) := by decide +kernel
theorem dX12_message_124 : decode cX12_message 124 = .ok (.iastore, 1) := by decide +kernel
theorem dX12_message_125 : decode cX12_message 125 = .ok (.aload_n 0, 1) := by decide +kernel
theorem dX12_message_126 : decode cX12_message 126 = .ok (.getfield 39, 3) := by decide +kernel
theorem dX12_message_129 : decode cX12_message 129 = .ok (.iload 5, 2) := by decide +kernel
theorem dX12_message_131 : decode cX12_message 131 = .ok (.iconst 1, 1) := by decide +kernel
theorem dX12_message_132 : decode cX12_message 132 = .ok (.iadd, 1) := by decide +kernel
theorem dX12_message_133 : decode cX12_message 133 = .ok (.iload_n 2, 1) := by decide +kernel
theorem dX12_message_134 : decode cX12_message 134 = .ok (.iastore, 1) := by decide +kernel
theorem dX12_message_135 : decode cX12_message 135 = .ok (.aload_n 0, 1) := by decide +kernel
theorem dX12_message_136 : decode cX12_message 136 = .ok (.getfield 39, 3) := by decide +kernel
theorem dX12_message_139 : decode cX12_message 139 = .ok (.iload 5, 2) := by decide +kernel
theorem dX12_message_141 : decode cX12_message 141 = .ok (.iconst 2, 1) := by decide +kernel
theorem dX12_message_142 : decode cX12_message 142 = .ok (.iadd, 1) := by decide +kernel
theorem dX12_message_143 : decode cX12_message 143 = .ok (.iload_n 3, 1) := by decide +kernel
theorem dX12_message_144 : decode cX12_message 144 = .ok (.iastore, 1) := by decide +kernel
theorem dX12_message_145 : decode cX12_message 145 = .ok (.aload_n 0, 1) := by decide +kernel
theorem dX12_message_146 : decode cX12_message 146 = .ok (.getfield 39, 3) := by decide +kernel
theorem dX12_message_149 : decode cX12_message 149 = .ok (.iload 5, 2) := by decide +kernel
theorem dX12_message_151 : decode cX12_message 151 = .ok (.iconst 3, 1) := by decide +kernel
theorem dX12_message_152 : decode cX12_message 152 = .ok (.iadd, 1) := by decide +kernel
theorem dX12_message_153 : decode cX12_message 153 = .ok (.iload 4, 2) := by decide +kernel
theorem dX12_message_155 : decode cX12_message 155 = .ok (.iastore, 1) := by decide +kernel
theorem dX12_message_156 : decode cX12_message 156 = .ok (.aload_n 0, 1) := by decide +kernel
theorem dX12_message_157 : decode cX12_message 157 = .ok (.getfield 39, 3) := by decide +kernel
theorem dX12_message_160 : decode cX12_message 160 = .ok (.iload 5, 2) := by decide +kernel
theorem dX12_message_162 : decode cX12_message 162 = .ok (.iconst 4, 1) := by decide +kernel
theorem dX12_message_163 : decode cX12_message 163 = .ok (.iadd, 1) := by decide +kernel
theorem dX12_message_164 : decode cX12_message 164 = .ok (.aload_n 0, 1) := by decide +kernel
theorem dX12_message_165 : decode cX12_message 165 = .ok (.getfield 144, 3) := by decide +kernel
theorem dX12_message_168 : decode cX12_message 168 = .ok (.iastore, 1) := by decide +kernel
theorem dX12_message_169 : decode cX12_message 169 = .ok (.aload_n 0, 1) := by decide +kernel
theorem dX12_message_170 : decode cX12_message 170 = .ok (.getfield 39, 3) := by decide +kernel
theorem dX12_message_173 : decode cX12_message 173 = .ok (.iload 5, 2) := by decide +kernel
theorem dX12_message_175 : decode cX12_message 175 = .ok (.iconst 5, 1) := by decide +kernel
theorem dX12_message_176 : decode cX12_message 176 = .ok (.iadd, 1) := by decide +kernel
theorem dX12_message_177 : decode cX12_message 177 = .ok (.iload 7, 2) := by decide +kernel
theorem dX12_message_179 : decode cX12_message 179 = .ok (.iload 8, 2) := by decide +kernel
theorem dX12_message_181 : decode cX12_message 181 = .ok (.if_icmp .ge 8, 3) := by decide +kernel
theorem dX12_message_184 : decode cX12_message 184 = .ok (.iload 8, 2) := by decide +kernel
theorem dX12_message_186 : decode cX12_message 186 = .ok (.goto 5, 3) := by decide +kernel
theorem dX12_message_189 : decode cX12_message 189 = .ok (.iload 7, 2) := by decide +kernel
theorem dX12_message_191 : decode cX12_message 191 = .ok (.iastore, 1) := by decide +kernel
theorem dX12_message_192 : decode cX12_message 192 = .ok (.aload_n 0, 1) := by decide +kernel
theorem dX12_message_193 : decode cX12_message 193 = .ok (.getfield 42, 3) := by decide +kernel
theorem dX12_message_196 : decode cX12_message 196 = .ok (.iload 5, 2) := by decide +kernel
theorem dX12_message_198 : decode cX12_message 198 = .ok (.iconst 0, 1) := by decide +kernel
theorem dX12_message_199 : decode cX12_message 199 = .ok (.iastore, 1) := by decide +kernel
theorem dX12_message_200 : decode cX12_message 200 = .ok (.aload_n 0, 1) := by decide +kernel
theorem dX12_message_201 : decode cX12_message 201 = .ok (.getfield 42, 3) := by decide +kernel
theorem dX12_message_204 : decode cX12_message 204 = .ok (.iload 5, 2) := by decide +kernel
theorem dX12_message_206 : decode cX12_message 206 = .ok (.iconst 1, 1) := by decide +kernel
theorem dX12_message_207 : decode cX12_message 207 = .ok (.iadd, 1) := by decide +kernel
theorem dX12_message_208 : decode cX12_message 208 = .ok (.iload_n 1, 1) := by decide +kernel
theorem dX12_message_209 : decode cX12_message 209 = .ok (.iastore, 1) := by decide +kernel
theorem dX12_message_210 : decode cX12_message 210 = .ok (.aload_n 0, 1) := by decide +kernel
theorem dX12_message_211 : decode cX12_message 211 = .ok (.getfield 42, 3) := by decide +kernel
theorem dX12_message_214 : decode cX12_message 214 = .ok (.iload 5, 2) := by decide +kernel
theorem dX12_message_216 : decode cX12_message 216 = .ok (.iconst 2, 1) := by decide +kernel
theorem dX12_message_217 : decode cX12_message 217 = .ok (.iadd, 1) := by decide +kernel
theorem dX12_message_218 : decode cX12_message 218 = .ok (.iconst (-1), 1) := by decide +kernel
theorem dX12_message_219 : decode cX12_message 219 = .ok (.iastore, 1) := by decide +kernel
theorem dX12_message_220 : decode cX12_message 220 = .ok (.aload_n 0, 1) := by decide +kernel
theorem dX12_message_221 : decode cX12_message 221 = .ok (.getfield 42, 3) := by decide +kernel
theorem dX12_message_224 : decode cX12_message 224 = .ok (.iload 5, 2) := by decide +kernel
theorem dX12_message_226 : decode cX12_message 226 = .ok (.iconst 3, 1) := by decide +kernel
theorem dX12_message_227 : decode cX12_message 227 = .ok (.iadd, 1) := by decide +kernel
theorem dX12_message_228 : decode cX12_message 228 = .ok (.iconst 0, 1) := by decide +kernel
theorem dX12_message_229 : decode cX12_message 229 = .ok (.iastore, 1) := by decide +kernel
theorem dX12_message_230 : decode cX12_message 230 = .ok (.aload_n 0, 1) := by decide +kernel
theorem dX12_message_231 : decode cX12_message 231 = .ok (.getfield 42, 3) := by decide +kernel
theorem dX12_message_234 : decode cX12_message 234 = .ok (.iload 5, 2) := by decide +kernel
theorem dX12_message_236 : decode cX12_message 236 = .ok (.iconst 4, 1) := by decide +kernel
theorem dX12_message_237 : decode cX12_message 237 = .ok (.iadd, 1) := by decide +kernel
theorem dX12_message_238 : decode cX12_message 238 = .ok (.iconst (-1), 1) := by decide +kernel
theorem dX12_message_239 : decode cX12_message 239 = .ok (.iastore, 1) := by decide +kernel
theorem dX12_message_240 : decode cX12_message 240 = .ok (.aload_n 0, 1) := by decide +kernel
theorem dX12_message_241 : decode cX12_message 241 = .ok (.getfield 42, 3) := by decide +kernel
theorem dX12_message_244 : decode cX12_message 244 = .ok (.iload 5, 2) := by decide +kernel
theorem dX12_message_246 : decode cX12_message 246 = .ok (.iconst 5, 1) := by decide +kernel
theorem dX12_message_247 : decode cX12_message 247 = .ok (.iadd, 1) := by decide +kernel
theorem dX12_message_248 : decode cX12_message 248 = .ok (.iconst 0, 1) := by decide +kernel
theorem dX12_message_249 : decode cX12_message 249 = .ok (.iastore, 1) := by decide +kernel
theorem dX12_message_250 : decode cX12_message 250 = .ok (.aload_n 0, 1) := by decide +kernel
theorem dX12_message_251 : decode cX12_message 251 = .ok (.dup, 1) := by decide +kernel
theorem dX12_message_252 : decode cX12_message 252 = .ok (.getfield 130, 3) := by decide +kernel
theorem dX12_message_255 : decode cX12_message 255 = .ok (.iconst 1, 1) := by decide +kernel
theorem dX12_message_256 : decode cX12_message 256 = .ok (.iadd, 1) := by decide +kernel
theorem dX12_message_257 : decode cX12_message 257 = .ok (.putfield 130, 3) := by decide +kernel
theorem dX12_message_260 : decode cX12_message 260 = .ok (.aload_n 0, 1) := by decide +kernel
theorem dX12_message_261 : decode cX12_message 261 = .ok (.getfield 130, 3) := by decide +kernel
theorem dX12_message_264 : decode cX12_message 264 = .ok (.iconst 1, 1) := by decide +kernel
theorem dX12_message_265 : decode cX12_message 265 = .ok (.isub, 1) := by decide +kernel
theorem dX12_message_266 : decode cX12_message 266 = .ok (.ireturn, 1) := by decide +kernel
theorem dX12_otherEnd_0 : decode cX12_otherEnd 0 = .ok (.aload_n 0, 1) := by decide +kernel
theorem dX12_otherEnd_1 : decode cX12_otherEnd 1 = .ok (.getfield 16, 3) := by decide +kernel
theorem dX12_otherEnd_4 : decode cX12_otherEnd 4 = .ok (.iload_n 1, 1) := by decide +kernel
theorem dX12_otherEnd_5 : decode cX12_otherEnd 5 = .ok (.iaload, 1) := by decide +kernel
theorem dX12_otherEnd_6 : decode cX12_otherEnd 6 = .ok (.iload_n 2, 1) := by decide +kernel
theorem dX12_otherEnd_7 : decode cX12_otherEnd 7 = .ok (.if_icmp .ne 12, 3) := by decide +kernel
theorem dX12_otherEnd_10 : decode cX12_otherEnd 10 = .ok (.aload_n 0, 1) := by decide +kernel
theorem dX12_otherEnd_11 : decode cX12_otherEnd 11 = .ok (.getfield 19, 3) := by decide +kernel
theorem dX12_otherEnd_14 : decode cX12_otherEnd 14 = .ok (.iload_n 1, 1) := by decide +kernel
theorem dX12_otherEnd_15 : decode cX12_otherEnd 15 = .ok (.iaload, 1) := by decide +kernel
theorem dX12_otherEnd_16 : decode cX12_otherEnd 16 = .ok (.goto 9, 3) := by decide +kernel
theorem dX12_otherEnd_19 : decode cX12_otherEnd 19 = .ok (.aload_n 0, 1) := by decide +kernel
theorem dX12_otherEnd_20 : decode cX12_otherEnd 20 = .ok (.getfield 16, 3) := by decide +kernel
theorem dX12_otherEnd_23 : decode cX12_otherEnd 23 = .ok (.iload_n 1, 1) := by decide +kernel
theorem dX12_otherEnd_24 : decode cX12_otherEnd 24 = .ok (.iaload, 1) := by decide +kernel
theorem dX12_otherEnd_25 : decode cX12_otherEnd 25 = .ok (.ireturn, 1) := by decide +kernel
theorem dX12_isAt_0 : decode cX12_isAt 0 = .ok (.aload_n 0, 1) := by decide +kernel
theorem dX12_isAt_1 : decode cX12_isAt 1 = .ok (.getfield 16, 3) := by decide +kernel
theorem dX12_isAt_4 : decode cX12_isAt 4 = .ok (.iload_n 1, 1) := by decide +kernel
theorem dX12_isAt_5 : decode cX12_isAt 5 = .ok (.iaload, 1) := by decide +kernel
theorem dX12_isAt_6 : decode cX12_isAt 6 = .ok (.iload_n 2, 1) := by decide +kernel
theorem dX12_isAt_7 : decode cX12_isAt 7 = .ok (.if_icmp .eq 13, 3) := by decide +kernel
theorem dX12_isAt_10 : decode cX12_isAt 10 = .ok (.aload_n 0, 1) := by decide +kernel
theorem dX12_isAt_11 : decode cX12_isAt 11 = .ok (.getfield 19, 3) := by decide +kernel
theorem dX12_isAt_14 : decode cX12_isAt 14 = .ok (.iload_n 1, 1) := by decide +kernel
theorem dX12_isAt_15 : decode cX12_isAt 15 = .ok (.iaload, 1) := by decide +kernel
theorem dX12_isAt_16 : decode cX12_isAt 16 = .ok (.iload_n 2, 1) := by decide +kernel
theorem dX12_isAt_17 : decode cX12_isAt 17 = .ok (.if_icmp .ne 7, 3) := by decide +kernel
theorem dX12_isAt_20 : decode cX12_isAt 20 = .ok (.iconst 1, 1) := by decide +kernel
theorem dX12_isAt_21 : decode cX12_isAt 21 = .ok (.goto 4, 3) := by decide +kernel
theorem dX12_isAt_24 : decode cX12_isAt 24 = .ok (.iconst 0, 1) := by decide +kernel
theorem dX12_isAt_25 : decode cX12_isAt 25 = .ok (.ireturn, 1) := by decide +kernel
theorem dX12_wordsOf_0 : decode cX12_wordsOf 0 = .ok (.aload_n 0, 1) := by decide +kernel
theorem dX12_wordsOf_1 : decode cX12_wordsOf 1 = .ok (.iload_n 3, 1) := by decide +kernel
theorem dX12_wordsOf_2 : decode cX12_wordsOf 2 = .ok (.iload_n 2, 1) := by decide +kernel
theorem dX12_wordsOf_3 : decode cX12_wordsOf 3 = .ok (.invokevirtual 164, 3) := by decide +kernel
theorem dX12_wordsOf_6 : decode cX12_wordsOf 6 = .ok (.ifCond .eq 9, 3) := by decide +kernel
theorem dX12_wordsOf_9 : decode cX12_wordsOf 9 = .ok (.iconst 2, 1) := by decide +kernel
theorem dX12_wordsOf_10 : decode cX12_wordsOf 10 = .ok (.iload_n 1, 1) := by decide +kernel
theorem dX12_wordsOf_11 : decode cX12_wordsOf 11 = .ok (.imul, 1) := by decide +kernel
theorem dX12_wordsOf_12 : decode cX12_wordsOf 12 = .ok (.goto 4, 3) := by decide +kernel
theorem dX12_wordsOf_15 : decode cX12_wordsOf 15 = .ok (.iload_n 1, 1) := by decide +kernel
theorem dX12_wordsOf_16 : decode cX12_wordsOf 16 = .ok (.ireturn, 1) := by decide +kernel
theorem dX12_takes_0 : decode cX12_takes 0 = .ok (.iload_n 2, 1) := by decide +kernel
theorem dX12_takes_1 : decode cX12_takes 1 = .ok (.aload_n 0, 1) := by decide +kernel
theorem dX12_takes_2 : decode cX12_takes 2 = .ok (.getfield 22, 3) := by decide +kernel
theorem dX12_takes_5 : decode cX12_takes 5 = .ok (.iload_n 1, 1) := by decide +kernel
theorem dX12_takes_6 : decode cX12_takes 6 = .ok (.iaload, 1) := by decide +kernel
theorem dX12_takes_7 : decode cX12_takes 7 = .ok (.iadd, 1) := by decide +kernel
theorem dX12_takes_8 : decode cX12_takes 8 = .ok (.iconst 1, 1) := by decide +kernel
theorem dX12_takes_9 : decode cX12_takes 9 = .ok (.isub, 1) := by decide +kernel
theorem dX12_takes_10 : decode cX12_takes 10 = .ok (.aload_n 0, 1) := by decide +kernel
theorem dX12_takes_11 : decode cX12_takes 11 = .ok (.getfield 22, 3) := by decide +kernel
theorem dX12_takes_14 : decode cX12_takes 14 = .ok (.iload_n 1, 1) := by decide +kernel
theorem dX12_takes_15 : decode cX12_takes 15 = .ok (.iaload, 1) := by decide +kernel
theorem dX12_takes_16 : decode cX12_takes 16 = .ok (.idiv, 1) := by decide +kernel
theorem dX12_takes_17 : decode cX12_takes 17 = .ok (.ireturn, 1) := by decide +kernel
theorem dX12_nextOf_0 : decode cX12_nextOf 0 = .ok (.iconst 0, 1) := by decide +kernel
theorem dX12_nextOf_1 : decode cX12_nextOf 1 = .ok (.istore 5, 2) := by decide +kernel
theorem dX12_nextOf_3 : decode cX12_nextOf 3 = .ok (.iload 5, 2) := by decide +kernel
theorem dX12_nextOf_5 : decode cX12_nextOf 5 = .ok (.bipush 8, 2) := by decide +kernel
theorem dX12_nextOf_7 : decode cX12_nextOf 7 = .ok (.if_icmp .ge 28, 3) := by decide +kernel
theorem dX12_nextOf_10 : decode cX12_nextOf 10 = .ok (.aload_n 0, 1) := by decide +kernel
theorem dX12_nextOf_11 : decode cX12_nextOf 11 = .ok (.getfield 48, 3) := by decide +kernel
theorem dX12_nextOf_14 : decode cX12_nextOf 14 = .ok (.iload 5, 2) := by decide +kernel
theorem dX12_nextOf_16 : decode cX12_nextOf 16 = .ok (.iload 5, 2) := by decide +kernel
theorem dX12_nextOf_18 : decode cX12_nextOf 18 = .ok (.iload_n 2, 1) := by decide +kernel
theorem dX12_nextOf_19 : decode cX12_nextOf 19 = .ok (.if_icmp .ne 7, 3) := by decide +kernel
theorem dX12_nextOf_22 : decode cX12_nextOf 22 = .ok (.iconst 0, 1) := by decide +kernel
theorem dX12_nextOf_23 : decode cX12_nextOf 23 = .ok (.goto 5, 3) := by decide +kernel
theorem dX12_nextOf_26 : decode cX12_nextOf 26 = .ok (.ldc 167, 2) := by decide +kernel
theorem dX12_nextOf_28 : decode cX12_nextOf 28 = .ok (.iastore, 1) := by decide +kernel
theorem dX12_nextOf_29 : decode cX12_nextOf 29 = .ok (.iinc 5 1, 3) := by decide +kernel
theorem dX12_nextOf_32 : decode cX12_nextOf 32 = .ok (.goto (-29), 3) := by decide +kernel
theorem dX12_nextOf_35 : decode cX12_nextOf 35 = .ok (.iconst 1, 1) := by decide +kernel
theorem dX12_nextOf_36 : decode cX12_nextOf 36 = .ok (.istore 5, 2) := by decide +kernel
theorem dX12_nextOf_38 : decode cX12_nextOf 38 = .ok (.iload 5, 2) := by decide +kernel
theorem dX12_nextOf_40 : decode cX12_nextOf 40 = .ok (.ifCond .eq 119, 3) := by decide +kernel
theorem dX12_nextOf_43 : decode cX12_nextOf 43 = .ok (.iconst 0, 1) := by decide +kernel
theorem dX12_nextOf_44 : decode cX12_nextOf 44 = .ok (.istore 5, 2) := by decide +kernel
theorem dX12_nextOf_46 : decode cX12_nextOf 46 = .ok (.iconst 0, 1) := by decide +kernel
theorem dX12_nextOf_47 : decode cX12_nextOf 47 = .ok (.istore 6, 2) := by decide +kernel
theorem dX12_nextOf_49 : decode cX12_nextOf 49 = .ok (.iload 6, 2) := by decide +kernel
theorem dX12_nextOf_51 : decode cX12_nextOf 51 = .ok (.iconst 2, 1) := by decide +kernel
theorem dX12_nextOf_52 : decode cX12_nextOf 52 = .ok (.aload_n 0, 1) := by decide +kernel
theorem dX12_nextOf_53 : decode cX12_nextOf 53 = .ok (.getfield 127, 3) := by decide +kernel
theorem dX12_nextOf_56 : decode cX12_nextOf 56 = .ok (.imul, 1) := by decide +kernel
theorem dX12_nextOf_57 : decode cX12_nextOf 57 = .ok (.if_icmp .ge 99, 3) := by decide +kernel
theorem dX12_nextOf_60 : decode cX12_nextOf 60 = .ok (.iload 6, 2) := by decide +kernel
theorem dX12_nextOf_62 : decode cX12_nextOf 62 = .ok (.iconst 2, 1) := by decide +kernel
theorem dX12_nextOf_63 : decode cX12_nextOf 63 = .ok (.idiv, 1) := by decide +kernel
theorem dX12_nextOf_64 : decode cX12_nextOf 64 = .ok (.istore 7, 2) := by decide +kernel
theorem dX12_nextOf_66 : decode cX12_nextOf 66 = .ok (.iload 6, 2) := by decide +kernel
theorem dX12_nextOf_68 : decode cX12_nextOf 68 = .ok (.iconst 2, 1) := by decide +kernel
theorem dX12_nextOf_69 : decode cX12_nextOf 69 = .ok (.irem, 1) := by decide +kernel
theorem dX12_nextOf_70 : decode cX12_nextOf 70 = .ok (.ifCond .ne 13, 3) := by decide +kernel
theorem dX12_nextOf_73 : decode cX12_nextOf 73 = .ok (.aload_n 0, 1) := by decide +kernel
theorem dX12_nextOf_74 : decode cX12_nextOf 74 = .ok (.getfield 16, 3) := by decide +kernel
theorem dX12_nextOf_77 : decode cX12_nextOf 77 = .ok (.iload 7, 2) := by decide +kernel
theorem dX12_nextOf_79 : decode cX12_nextOf 79 = .ok (.iaload, 1) := by decide +kernel
theorem dX12_nextOf_80 : decode cX12_nextOf 80 = .ok (.goto 10, 3) := by decide +kernel
theorem dX12_nextOf_83 : decode cX12_nextOf 83 = .ok (.aload_n 0, 1) := by decide +kernel
theorem dX12_nextOf_84 : decode cX12_nextOf 84 = .ok (.getfield 19, 3) := by decide +kernel
theorem dX12_nextOf_87 : decode cX12_nextOf 87 = .ok (.iload 7, 2) := by decide +kernel
theorem dX12_nextOf_89 : decode cX12_nextOf 89 = .ok (.iaload, 1) := by decide +kernel
theorem dX12_nextOf_90 : decode cX12_nextOf 90 = .ok (.istore 8, 2) := by decide +kernel
theorem dX12_nextOf_92 : decode cX12_nextOf 92 = .ok (.aload_n 0, 1) := by decide +kernel
theorem dX12_nextOf_93 : decode cX12_nextOf 93 = .ok (.getfield 48, 3) := by decide +kernel
theorem dX12_nextOf_96 : decode cX12_nextOf 96 = .ok (.aload_n 0, 1) := by decide +kernel
theorem dX12_nextOf_97 : decode cX12_nextOf 97 = .ok (.iload 7, 2) := by decide +kernel
theorem dX12_nextOf_99 : decode cX12_nextOf 99 = .ok (.iload 8, 2) := by decide +kernel
theorem dX12_nextOf_101 : decode cX12_nextOf 101 = .ok (.invokevirtual 168, 3) := by decide +kernel
theorem dX12_nextOf_104 : decode cX12_nextOf 104 = .ok (.iaload, 1) := by decide +kernel
theorem dX12_nextOf_105 : decode cX12_nextOf 105 = .ok (.aload_n 0, 1) := by decide +kernel
theorem dX12_nextOf_106 : decode cX12_nextOf 106 = .ok (.iload 7, 2) := by decide +kernel
theorem dX12_nextOf_108 : decode cX12_nextOf 108 = .ok (.iload_n 3, 1) := by decide +kernel
theorem dX12_nextOf_109 : decode cX12_nextOf 109 = .ok (.invokevirtual 171, 3) := by decide +kernel
theorem dX12_nextOf_112 : decode cX12_nextOf 112 = .ok (.iadd, 1) := by decide +kernel
theorem dX12_nextOf_113 : decode cX12_nextOf 113 = .ok (.istore 9, 2) := by decide +kernel
theorem dX12_nextOf_115 : decode cX12_nextOf 115 = .ok (.iload 9, 2) := by decide +kernel
theorem dX12_nextOf_117 : decode cX12_nextOf 117 = .ok (.aload_n 0, 1) := by decide +kernel
theorem dX12_nextOf_118 : decode cX12_nextOf 118 = .ok (.getfield 48, 3) := by decide +kernel
theorem dX12_nextOf_121 : decode cX12_nextOf 121 = .ok (.iload 8, 2) := by decide +kernel
theorem dX12_nextOf_123 : decode cX12_nextOf 123 = .ok (.iaload, 1) := by decide +kernel
theorem dX12_nextOf_124 : decode cX12_nextOf 124 = .ok (.if_icmp .ge 26, 3) := by decide +kernel
theorem dX12_nextOf_127 : decode cX12_nextOf 127 = .ok (.aload_n 0, 1) := by decide +kernel
theorem dX12_nextOf_128 : decode cX12_nextOf 128 = .ok (.iload 7, 2) := by decide +kernel
theorem dX12_nextOf_130 : decode cX12_nextOf 130 = .ok (.iload 4, 2) := by decide +kernel
theorem dX12_nextOf_132 : decode cX12_nextOf 132 = .ok (.invokevirtual 174, 3) := by decide +kernel
theorem dX12_nextOf_135 : decode cX12_nextOf 135 = .ok (.ifCond .eq 15, 3) := by decide +kernel
theorem dX12_nextOf_138 : decode cX12_nextOf 138 = .ok (.aload_n 0, 1) := by decide +kernel
theorem dX12_nextOf_139 : decode cX12_nextOf 139 = .ok (.getfield 48, 3) := by decide +kernel
theorem dX12_nextOf_142 : decode cX12_nextOf 142 = .ok (.iload 8, 2) := by decide +kernel
theorem dX12_nextOf_144 : decode cX12_nextOf 144 = .ok (.iload 9, 2) := by decide +kernel
theorem dX12_nextOf_146 : decode cX12_nextOf 146 = .ok (.iastore, 1) := by decide +kernel
theorem dX12_nextOf_147 : decode cX12_nextOf 147 = .ok (.iconst 1, 1) := by decide +kernel
theorem dX12_nextOf_148 : decode cX12_nextOf 148 = .ok (.istore 5, 2) := by decide +kernel
theorem dX12_nextOf_150 : decode cX12_nextOf 150 = .ok (.iinc 6 1, 3) := by decide +kernel
theorem dX12_nextOf_153 : decode cX12_nextOf 153 = .ok (.goto (-104), 3) := by decide +kernel
theorem dX12_nextOf_156 : decode cX12_nextOf 156 = .ok (.goto (-118), 3) := by decide +kernel
theorem dX12_nextOf_159 : decode cX12_nextOf 159 = .ok (.iconst 0, 1) := by decide +kernel
theorem dX12_nextOf_160 : decode cX12_nextOf 160 = .ok (.istore 6, 2) := by decide +kernel
theorem dX12_nextOf_162 : decode cX12_nextOf 162 = .ok (.iload 6, 2) := by decide +kernel
theorem dX12_nextOf_164 : decode cX12_nextOf 164 = .ok (.aload_n 0, 1) := by decide +kernel
theorem dX12_nextOf_165 : decode cX12_nextOf 165 = .ok (.getfield 127, 3) := by decide +kernel
theorem dX12_nextOf_168 : decode cX12_nextOf 168 = .ok (.if_icmp .ge 73, 3) := by decide +kernel
theorem dX12_nextOf_171 : decode cX12_nextOf 171 = .ok (.aload_n 0, 1) := by decide +kernel
theorem dX12_nextOf_172 : decode cX12_nextOf 172 = .ok (.getfield 48, 3) := by decide +kernel
theorem dX12_nextOf_175 : decode cX12_nextOf 175 = .ok (.iload_n 1, 1) := by decide +kernel
theorem dX12_nextOf_176 : decode cX12_nextOf 176 = .ok (.iaload, 1) := by decide +kernel
theorem dX12_nextOf_177 : decode cX12_nextOf 177 = .ok (.ldc 167, 2) := by decide +kernel
theorem dX12_nextOf_179 : decode cX12_nextOf 179 = .ok (.if_icmp .ge 62, 3) := by decide +kernel
theorem dX12_nextOf_182 : decode cX12_nextOf 182 = .ok (.aload_n 0, 1) := by decide +kernel
theorem dX12_nextOf_183 : decode cX12_nextOf 183 = .ok (.iload 6, 2) := by decide +kernel
theorem dX12_nextOf_185 : decode cX12_nextOf 185 = .ok (.iload_n 1, 1) := by decide +kernel
theorem dX12_nextOf_186 : decode cX12_nextOf 186 = .ok (.invokevirtual 177, 3) := by decide +kernel
theorem dX12_nextOf_189 : decode cX12_nextOf 189 = .ok (.ifCond .eq 46, 3) := by decide +kernel
theorem dX12_nextOf_192 : decode cX12_nextOf 192 = .ok (.aload_n 0, 1) := by decide +kernel
theorem dX12_nextOf_193 : decode cX12_nextOf 193 = .ok (.iload 6, 2) := by decide +kernel
theorem dX12_nextOf_195 : decode cX12_nextOf 195 = .ok (.iload 4, 2) := by decide +kernel
theorem dX12_nextOf_197 : decode cX12_nextOf 197 = .ok (.invokevirtual 174, 3) := by decide +kernel
theorem dX12_nextOf_200 : decode cX12_nextOf 200 = .ok (.ifCond .eq 35, 3) := by decide +kernel
theorem dX12_nextOf_203 : decode cX12_nextOf 203 = .ok (.aload_n 0, 1) := by decide +kernel
theorem dX12_nextOf_204 : decode cX12_nextOf 204 = .ok (.getfield 48, 3) := by decide +kernel
theorem dX12_nextOf_207 : decode cX12_nextOf 207 = .ok (.aload_n 0, 1) := by decide +kernel
theorem dX12_nextOf_208 : decode cX12_nextOf 208 = .ok (.iload 6, 2) := by decide +kernel
theorem dX12_nextOf_210 : decode cX12_nextOf 210 = .ok (.iload_n 1, 1) := by decide +kernel
theorem dX12_nextOf_211 : decode cX12_nextOf 211 = .ok (.invokevirtual 168, 3) := by decide +kernel
theorem dX12_nextOf_214 : decode cX12_nextOf 214 = .ok (.iaload, 1) := by decide +kernel
theorem dX12_nextOf_215 : decode cX12_nextOf 215 = .ok (.aload_n 0, 1) := by decide +kernel
theorem dX12_nextOf_216 : decode cX12_nextOf 216 = .ok (.iload 6, 2) := by decide +kernel
theorem dX12_nextOf_218 : decode cX12_nextOf 218 = .ok (.iload_n 3, 1) := by decide +kernel
theorem dX12_nextOf_219 : decode cX12_nextOf 219 = .ok (.invokevirtual 171, 3) := by decide +kernel
theorem dX12_nextOf_222 : decode cX12_nextOf 222 = .ok (.iadd, 1) := by decide +kernel
theorem dX12_nextOf_223 : decode cX12_nextOf 223 = .ok (.aload_n 0, 1) := by decide +kernel
theorem dX12_nextOf_224 : decode cX12_nextOf 224 = .ok (.getfield 48, 3) := by decide +kernel
theorem dX12_nextOf_227 : decode cX12_nextOf 227 = .ok (.iload_n 1, 1) := by decide +kernel
theorem dX12_nextOf_228 : decode cX12_nextOf 228 = .ok (.iaload, 1) := by decide +kernel
theorem dX12_nextOf_229 : decode cX12_nextOf 229 = .ok (.if_icmp .ne 6, 3) := by decide +kernel
theorem dX12_nextOf_232 : decode cX12_nextOf 232 = .ok (.iload 6, 2) := by decide +kernel
theorem dX12_nextOf_234 : decode cX12_nextOf 234 = .ok (.ireturn, 1) := by decide +kernel
theorem dX12_nextOf_235 : decode cX12_nextOf 235 = .ok (.iinc 6 1, 3) := by decide +kernel
theorem dX12_nextOf_238 : decode cX12_nextOf 238 = .ok (.goto (-76), 3) := by decide +kernel
theorem dX12_nextOf_241 : decode cX12_nextOf 241 = .ok (.iconst (-1), 1) := by decide +kernel
theorem dX12_nextOf_242 : decode cX12_nextOf 242 = .ok (.ireturn, 1) := by decide +kernel
theorem dX12_nextFor_0 : decode cX12_nextFor 0 = .ok (.bipush 6, 2) := by decide +kernel
theorem dX12_nextFor_2 : decode cX12_nextFor 2 = .ok (.iload_n 1, 1) := by decide +kernel
theorem dX12_nextFor_3 : decode cX12_nextFor 3 = .ok (.imul, 1) := by decide +kernel
theorem dX12_nextFor_4 : decode cX12_nextFor 4 = .ok (.istore_n 3, 1) := by decide +kernel
theorem dX12_nextFor_5 : decode cX12_nextFor 5 = .ok (.aload_n 0, 1) := by decide +kernel
theorem dX12_nextFor_6 : decode cX12_nextFor 6 = .ok (.getfield 42, 3) := by decide +kernel
theorem dX12_nextFor_9 : decode cX12_nextFor 9 = .ok (.iload_n 3, 1) := by decide +kernel
theorem dX12_nextFor_10 : decode cX12_nextFor 10 = .ok (.iaload, 1) := by decide +kernel
theorem dX12_nextFor_11 : decode cX12_nextFor 11 = .ok (.ifCond .ne 22, 3) := by decide +kernel
theorem dX12_nextFor_14 : decode cX12_nextFor 14 = .ok (.aload_n 0, 1) := by decide +kernel
theorem dX12_nextFor_15 : decode cX12_nextFor 15 = .ok (.getfield 42, 3) := by decide +kernel
theorem dX12_nextFor_18 : decode cX12_nextFor 18 = .ok (.iload_n 3, 1) := by decide +kernel
theorem dX12_nextFor_19 : decode cX12_nextFor 19 = .ok (.iconst 1, 1) := by decide +kernel
theorem dX12_nextFor_20 : decode cX12_nextFor 20 = .ok (.iadd, 1) := by decide +kernel
theorem dX12_nextFor_21 : decode cX12_nextFor 21 = .ok (.iaload, 1) := by decide +kernel
theorem dX12_nextFor_22 : decode cX12_nextFor 22 = .ok (.aload_n 0, 1) := by decide +kernel
theorem dX12_nextFor_23 : decode cX12_nextFor 23 = .ok (.getfield 39, 3) := by decide +kernel
theorem dX12_nextFor_26 : decode cX12_nextFor 26 = .ok (.iload_n 3, 1) := by decide +kernel
theorem dX12_nextFor_27 : decode cX12_nextFor 27 = .ok (.iconst 1, 1) := by decide +kernel
theorem dX12_nextFor_28 : decode cX12_nextFor 28 = .ok (.iadd, 1) := by decide +kernel
theorem dX12_nextFor_29 : decode cX12_nextFor 29 = .ok (.iaload, 1) := by decide +kernel
theorem dX12_nextFor_30 : decode cX12_nextFor 30 = .ok (.if_icmp .ne 5, 3) := by decide +kernel
theorem dX12_nextFor_33 : decode cX12_nextFor 33 = .ok (.iconst (-1), 1) := by decide +kernel
theorem dX12_nextFor_34 : decode cX12_nextFor 34 = .ok (.ireturn, 1) := by decide +kernel
theorem dX12_nextFor_35 : decode cX12_nextFor 35 = .ok (.aload_n 0, 1) := by decide +kernel
theorem dX12_nextFor_36 : decode cX12_nextFor 36 = .ok (.getfield 42, 3) := by decide +kernel
theorem dX12_nextFor_39 : decode cX12_nextFor 39 = .ok (.iload_n 3, 1) := by decide +kernel
theorem dX12_nextFor_40 : decode cX12_nextFor 40 = .ok (.iconst 1, 1) := by decide +kernel
theorem dX12_nextFor_41 : decode cX12_nextFor 41 = .ok (.iadd, 1) := by decide +kernel
theorem dX12_nextFor_42 : decode cX12_nextFor 42 = .ok (.iaload, 1) := by decide +kernel
theorem dX12_nextFor_43 : decode cX12_nextFor 43 = .ok (.istore 4, 2) := by decide +kernel
theorem dX12_nextFor_45 : decode cX12_nextFor 45 = .ok (.aload_n 0, 1) := by decide +kernel
theorem dX12_nextFor_46 : decode cX12_nextFor 46 = .ok (.iload 4, 2) := by decide +kernel
theorem dX12_nextFor_48 : decode cX12_nextFor 48 = .ok (.aload_n 0, 1) := by decide +kernel
theorem dX12_nextFor_49 : decode cX12_nextFor 49 = .ok (.getfield 39, 3) := by decide +kernel
theorem dX12_nextFor_52 : decode cX12_nextFor 52 = .ok (.iload_n 3, 1) := by decide +kernel
theorem dX12_nextFor_53 : decode cX12_nextFor 53 = .ok (.iconst 1, 1) := by decide +kernel
theorem dX12_nextFor_54 : decode cX12_nextFor 54 = .ok (.iadd, 1) := by decide +kernel
theorem dX12_nextFor_55 : decode cX12_nextFor 55 = .ok (.iaload, 1) := by decide +kernel
theorem dX12_nextFor_56 : decode cX12_nextFor 56 = .ok (.aload_n 0, 1) := by decide +kernel
theorem dX12_nextFor_57 : decode cX12_nextFor 57 = .ok (.aload_n 0, 1) := by decide +kernel
theorem dX12_nextFor_58 : decode cX12_nextFor 58 = .ok (.getfield 39, 3) := by decide +kernel
theorem dX12_nextFor_61 : decode cX12_nextFor 61 = .ok (.iload_n 3, 1) := by decide +kernel
theorem dX12_nextFor_62 : decode cX12_nextFor 62 = .ok (.iconst 2, 1) := by decide +kernel
theorem dX12_nextFor_63 : decode cX12_nextFor 63 = .ok (.iadd, 1) := by decide +kernel
theorem dX12_nextFor_64 : decode cX12_nextFor 64 = .ok (.iaload, 1) := by decide +kernel
theorem dX12_nextFor_65 : decode cX12_nextFor 65 = .ok (.aload_n 0, 1) := by decide +kernel
theorem dX12_nextFor_66 : decode cX12_nextFor 66 = .ok (.getfield 39, 3) := by decide +kernel
theorem dX12_nextFor_69 : decode cX12_nextFor 69 = .ok (.iload_n 3, 1) := by decide +kernel
theorem dX12_nextFor_70 : decode cX12_nextFor 70 = .ok (.iconst 3, 1) := by decide +kernel
theorem dX12_nextFor_71 : decode cX12_nextFor 71 = .ok (.iadd, 1) := by decide +kernel
theorem dX12_nextFor_72 : decode cX12_nextFor 72 = .ok (.iaload, 1) := by decide +kernel
theorem dX12_nextFor_73 : decode cX12_nextFor 73 = .ok (.aload_n 0, 1) := by decide +kernel
theorem dX12_nextFor_74 : decode cX12_nextFor 74 = .ok (.iload 4, 2) := by decide +kernel
theorem dX12_nextFor_76 : decode cX12_nextFor 76 = .ok (.iload_n 2, 1) := by decide +kernel
theorem dX12_nextFor_77 : decode cX12_nextFor 77 = .ok (.invokevirtual 157, 3) := by decide +kernel
theorem dX12_nextFor_80 : decode cX12_nextFor 80 = .ok (.invokevirtual 180, 3) := by decide +kernel
theorem dX12_nextFor_83 : decode cX12_nextFor 83 = .ok (.iload_n 2, 1) := by decide +kernel
theorem dX12_nextFor_84 : decode cX12_nextFor 84 = .ok (.invokevirtual 184, 3) := by decide +kernel
theorem dX12_nextFor_87 : decode cX12_nextFor 87 = .ok (.ireturn, 1) := by decide +kernel
theorem dX12_isNight_0 : decode cX12_isNight 0 = .ok (.aload_n 0, 1) := by decide +kernel
theorem dX12_isNight_1 : decode cX12_isNight 1 = .ok (.iload_n 1, 1) := by decide +kernel
theorem dX12_isNight_2 : decode cX12_isNight 2 = .ok (.iload_n 2, 1) := by decide +kernel
theorem dX12_isNight_3 : decode cX12_isNight 3 = .ok (.sipush 1440, 3) := by decide +kernel
theorem dX12_isNight_6 : decode cX12_isNight 6 = .ok (.irem, 1) := by decide +kernel
theorem dX12_isNight_7 : decode cX12_isNight 7 = .ok (.bipush 60, 2) := by decide +kernel
theorem dX12_isNight_9 : decode cX12_isNight 9 = .ok (.idiv, 1) := by decide +kernel
theorem dX12_isNight_10 : decode cX12_isNight 10 = .ok (.invokevirtual 187, 3) := by decide +kernel
theorem dX12_isNight_13 : decode cX12_isNight 13 = .ok (.ireturn, 1) := by decide +kernel
theorem dX12_firstOf_0 : decode cX12_firstOf 0 = .ok (.aload_n 0, 1) := by decide +kernel
theorem dX12_firstOf_1 : decode cX12_firstOf 1 = .ok (.iload_n 1, 1) := by decide +kernel
theorem dX12_firstOf_2 : decode cX12_firstOf 2 = .ok (.iload_n 3, 1) := by decide +kernel
theorem dX12_firstOf_3 : decode cX12_firstOf 3 = .ok (.invokevirtual 157, 3) := by decide +kernel
theorem dX12_firstOf_6 : decode cX12_firstOf 6 = .ok (.istore 4, 2) := by decide +kernel
theorem dX12_firstOf_8 : decode cX12_firstOf 8 = .ok (.iconst (-1), 1) := by decide +kernel
theorem dX12_firstOf_9 : decode cX12_firstOf 9 = .ok (.istore 5, 2) := by decide +kernel
theorem dX12_firstOf_11 : decode cX12_firstOf 11 = .ok (.iconst 0, 1) := by decide +kernel
theorem dX12_firstOf_12 : decode cX12_firstOf 12 = .ok (.istore 6, 2) := by decide +kernel
theorem dX12_firstOf_14 : decode cX12_firstOf 14 = .ok (.iload 6, 2) := by decide +kernel
theorem dX12_firstOf_16 : decode cX12_firstOf 16 = .ok (.aload_n 0, 1) := by decide +kernel
theorem dX12_firstOf_17 : decode cX12_firstOf 17 = .ok (.getfield 130, 3) := by decide +kernel
theorem dX12_firstOf_20 : decode cX12_firstOf 20 = .ok (.if_icmp .ge 187, 3) := by decide +kernel
theorem dX12_firstOf_23 : decode cX12_firstOf 23 = .ok (.bipush 6, 2) := by decide +kernel
theorem dX12_firstOf_25 : decode cX12_firstOf 25 = .ok (.iload 6, 2) := by decide +kernel
theorem dX12_firstOf_27 : decode cX12_firstOf 27 = .ok (.imul, 1) := by decide +kernel
theorem dX12_firstOf_28 : decode cX12_firstOf 28 = .ok (.istore 7, 2) := by decide +kernel
theorem dX12_firstOf_30 : decode cX12_firstOf 30 = .ok (.aload_n 0, 1) := by decide +kernel
theorem dX12_firstOf_31 : decode cX12_firstOf 31 = .ok (.getfield 42, 3) := by decide +kernel
theorem dX12_firstOf_34 : decode cX12_firstOf 34 = .ok (.iload 7, 2) := by decide +kernel
theorem dX12_firstOf_36 : decode cX12_firstOf 36 = .ok (.iaload, 1) := by decide +kernel
theorem dX12_firstOf_37 : decode cX12_firstOf 37 = .ok (.ifCond .ne 54, 3) := by decide +kernel
theorem dX12_firstOf_40 : decode cX12_firstOf 40 = .ok (.aload_n 0, 1) := by decide +kernel
theorem dX12_firstOf_41 : decode cX12_firstOf 41 = .ok (.getfield 42, 3) := by decide +kernel
theorem dX12_firstOf_44 : decode cX12_firstOf 44 = .ok (.iload 7, 2) := by decide +kernel
theorem dX12_firstOf_46 : decode cX12_firstOf 46 = .ok (.iconst 1, 1) := by decide +kernel
theorem dX12_firstOf_47 : decode cX12_firstOf 47 = .ok (.iadd, 1) := by decide +kernel
theorem dX12_firstOf_48 : decode cX12_firstOf 48 = .ok (.iaload, 1) := by decide +kernel
theorem dX12_firstOf_49 : decode cX12_firstOf 49 = .ok (.iload_n 1, 1) := by decide +kernel
theorem dX12_firstOf_50 : decode cX12_firstOf 50 = .ok (.if_icmp .ne 41, 3) := by decide +kernel
theorem dX12_firstOf_53 : decode cX12_firstOf 53 = .ok (.aload_n 0, 1) := by decide +kernel
theorem dX12_firstOf_54 : decode cX12_firstOf 54 = .ok (.iload 6, 2) := by decide +kernel
theorem dX12_firstOf_56 : decode cX12_firstOf 56 = .ok (.iload_n 3, 1) := by decide +kernel
theorem dX12_firstOf_57 : decode cX12_firstOf 57 = .ok (.invokevirtual 190, 3) := by decide +kernel
theorem dX12_firstOf_60 : decode cX12_firstOf 60 = .ok (.iload_n 2, 1) := by decide +kernel
theorem dX12_firstOf_61 : decode cX12_firstOf 61 = .ok (.if_icmp .ne 30, 3) := by decide +kernel
theorem dX12_firstOf_64 : decode cX12_firstOf 64 = .ok (.aload_n 0, 1) := by decide +kernel
theorem dX12_firstOf_65 : decode cX12_firstOf 65 = .ok (.getfield 39, 3) := by decide +kernel
theorem dX12_firstOf_68 : decode cX12_firstOf 68 = .ok (.iload 7, 2) := by decide +kernel
theorem dX12_firstOf_70 : decode cX12_firstOf 70 = .ok (.iconst 3, 1) := by decide +kernel
theorem dX12_firstOf_71 : decode cX12_firstOf 71 = .ok (.iadd, 1) := by decide +kernel
theorem dX12_firstOf_72 : decode cX12_firstOf 72 = .ok (.iaload, 1) := by decide +kernel
theorem dX12_firstOf_73 : decode cX12_firstOf 73 = .ok (.iconst 2, 1) := by decide +kernel
theorem dX12_firstOf_74 : decode cX12_firstOf 74 = .ok (.if_icmp .ne 13, 3) := by decide +kernel
theorem dX12_firstOf_77 : decode cX12_firstOf 77 = .ok (.aload_n 0, 1) := by decide +kernel
theorem dX12_firstOf_78 : decode cX12_firstOf 78 = .ok (.iload 4, 2) := by decide +kernel
theorem dX12_firstOf_80 : decode cX12_firstOf 80 = .ok (.iload_n 3, 1) := by decide +kernel
theorem dX12_firstOf_81 : decode cX12_firstOf 81 = .ok (.invokevirtual 193, 3) := by decide +kernel
theorem dX12_firstOf_84 : decode cX12_firstOf 84 = .ok (.ifCond .eq 7, 3) := by decide +kernel
theorem dX12_firstOf_87 : decode cX12_firstOf 87 = .ok (.iconst 1, 1) := by decide +kernel
theorem dX12_firstOf_88 : decode cX12_firstOf 88 = .ok (.goto 4, 3) := by decide +kernel
theorem dX12_firstOf_91 : decode cX12_firstOf 91 = .ok (.iconst 0, 1) := by decide +kernel
theorem dX12_firstOf_92 : decode cX12_firstOf 92 = .ok (.istore 8, 2) := by decide +kernel
theorem dX12_firstOf_94 : decode cX12_firstOf 94 = .ok (.iload 8, 2) := by decide +kernel
theorem dX12_firstOf_96 : decode cX12_firstOf 96 = .ok (.ifCond .eq 91, 3) := by decide +kernel
theorem dX12_firstOf_99 : decode cX12_firstOf 99 = .ok (.iload 5, 2) := by decide +kernel
theorem dX12_firstOf_101 : decode cX12_firstOf 101 = .ok (.iconst (-1), 1) := by decide +kernel
theorem dX12_firstOf_102 : decode cX12_firstOf 102 = .ok (.if_icmp .eq 85, 3) := by decide +kernel
theorem dX12_firstOf_105 : decode cX12_firstOf 105 = .ok (.aload_n 0, 1) := by decide +kernel
theorem dX12_firstOf_106 : decode cX12_firstOf 106 = .ok (.iload 4, 2) := by decide +kernel
theorem dX12_firstOf_108 : decode cX12_firstOf 108 = .ok (.aload_n 0, 1) := by decide +kernel
theorem dX12_firstOf_109 : decode cX12_firstOf 109 = .ok (.getfield 39, 3) := by decide +kernel
theorem dX12_firstOf_112 : decode cX12_firstOf 112 = .ok (.iload 7, 2) := by decide +kernel
theorem dX12_firstOf_114 : decode cX12_firstOf 114 = .ok (.iconst 3, 1) := by decide +kernel
theorem dX12_firstOf_115 : decode cX12_firstOf 115 = .ok (.iadd, 1) := by decide +kernel
theorem dX12_firstOf_116 : decode cX12_firstOf 116 = .ok (.iaload, 1) := by decide +kernel
theorem dX12_firstOf_117 : decode cX12_firstOf 117 = .ok (.invokevirtual 196, 3) := by decide +kernel
theorem dX12_firstOf_120 : decode cX12_firstOf 120 = .ok (.istore 9, 2) := by decide +kernel
theorem dX12_firstOf_122 : decode cX12_firstOf 122 = .ok (.aload_n 0, 1) := by decide +kernel
theorem dX12_firstOf_123 : decode cX12_firstOf 123 = .ok (.iload 4, 2) := by decide +kernel
theorem dX12_firstOf_125 : decode cX12_firstOf 125 = .ok (.aload_n 0, 1) := by decide +kernel
theorem dX12_firstOf_126 : decode cX12_firstOf 126 = .ok (.getfield 39, 3) := by decide +kernel
theorem dX12_firstOf_129 : decode cX12_firstOf 129 = .ok (.bipush 6, 2) := by decide +kernel
theorem dX12_firstOf_131 : decode cX12_firstOf 131 = .ok (.iload 5, 2) := by decide +kernel
theorem dX12_firstOf_133 : decode cX12_firstOf 133 = .ok (.imul, 1) := by decide +kernel
theorem dX12_firstOf_134 : decode cX12_firstOf 134 = .ok (.iconst 3, 1) := by decide +kernel
theorem dX12_firstOf_135 : decode cX12_firstOf 135 = .ok (.iadd, 1) := by decide +kernel
theorem dX12_firstOf_136 : decode cX12_firstOf 136 = .ok (.iaload, 1) := by decide +kernel
theorem dX12_firstOf_137 : decode cX12_firstOf 137 = .ok (.invokevirtual 196, 3) := by decide +kernel
theorem dX12_firstOf_140 : decode cX12_firstOf 140 = .ok (.istore 10, 2) := by decide +kernel
theorem dX12_firstOf_142 : decode cX12_firstOf 142 = .ok (.iload 9, 2) := by decide +kernel
theorem dX12_firstOf_144 : decode cX12_firstOf 144 = .ok (.iload 10, 2) := by decide +kernel
theorem dX12_firstOf_146 : decode cX12_firstOf 146 = .ok (.if_icmp .lt 34, 3) := by decide +kernel
theorem dX12_firstOf_149 : decode cX12_firstOf 149 = .ok (.iload 9, 2) := by decide +kernel
theorem dX12_firstOf_151 : decode cX12_firstOf 151 = .ok (.iload 10, 2) := by decide +kernel
theorem dX12_firstOf_153 : decode cX12_firstOf 153 = .ok (.if_icmp .ne 31, 3) := by decide +kernel
theorem dX12_firstOf_156 : decode cX12_firstOf 156 = .ok (.aload_n 0, 1) := by decide +kernel
theorem dX12_firstOf_157 : decode cX12_firstOf 157 = .ok (.getfield 39, 3) := by decide +kernel
theorem dX12_firstOf_160 : decode cX12_firstOf 160 = .ok (.iload 7, 2) := by decide +kernel
theorem dX12_firstOf_162 : decode cX12_firstOf 162 = .ok (.iconst 4, 1) := by decide +kernel
theorem dX12_firstOf_163 : decode cX12_firstOf 163 = .ok (.iadd, 1) := by decide +kernel
theorem dX12_firstOf_164 : decode cX12_firstOf 164 = .ok (.iaload, 1) := by decide +kernel
theorem dX12_firstOf_165 : decode cX12_firstOf 165 = .ok (.aload_n 0, 1) := by decide +kernel
theorem dX12_firstOf_166 : decode cX12_firstOf 166 = .ok (.getfield 39, 3) := by decide +kernel
theorem dX12_firstOf_169 : decode cX12_firstOf 169 = .ok (.bipush 6, 2) := by decide +kernel
theorem dX12_firstOf_171 : decode cX12_firstOf 171 = .ok (.iload 5, 2) := by decide +kernel
theorem dX12_firstOf_173 : decode cX12_firstOf 173 = .ok (.imul, 1) := by decide +kernel
theorem dX12_firstOf_174 : decode cX12_firstOf 174 = .ok (.iconst 4, 1) := by decide +kernel
theorem dX12_firstOf_175 : decode cX12_firstOf 175 = .ok (.iadd, 1) := by decide +kernel
theorem dX12_firstOf_176 : decode cX12_firstOf 176 = .ok (.iaload, 1) := by decide +kernel
theorem dX12_firstOf_177 : decode cX12_firstOf 177 = .ok (.if_icmp .ge 7, 3) := by decide +kernel
theorem dX12_firstOf_180 : decode cX12_firstOf 180 = .ok (.iconst 1, 1) := by decide +kernel
theorem dX12_firstOf_181 : decode cX12_firstOf 181 = .ok (.goto 4, 3) := by decide +kernel
theorem dX12_firstOf_184 : decode cX12_firstOf 184 = .ok (.iconst 0, 1) := by decide +kernel
theorem dX12_firstOf_185 : decode cX12_firstOf 185 = .ok (.istore 8, 2) := by decide +kernel
theorem dX12_firstOf_187 : decode cX12_firstOf 187 = .ok (.iload 8, 2) := by decide +kernel
theorem dX12_firstOf_189 : decode cX12_firstOf 189 = .ok (.ifCond .eq 8, 3) := by decide +kernel
theorem dX12_firstOf_192 : decode cX12_firstOf 192 = .ok (.iload 6, 2) := by decide +kernel
theorem dX12_firstOf_194 : decode cX12_firstOf 194 = .ok (.goto 5, 3) := by decide +kernel
theorem dX12_firstOf_197 : decode cX12_firstOf 197 = .ok (.iload 5, 2) := by decide +kernel
theorem dX12_firstOf_199 : decode cX12_firstOf 199 = .ok (.istore 5, 2) := by decide +kernel
theorem dX12_firstOf_201 : decode cX12_firstOf 201 = .ok (.iinc 6 1, 3) := by decide +kernel
theorem dX12_firstOf_204 : decode cX12_firstOf 204 = .ok (.goto (-190), 3) := by decide +kernel
theorem dX12_firstOf_207 : decode cX12_firstOf 207 = .ok (.iload 5, 2) := by decide +kernel
theorem dX12_firstOf_209 : decode cX12_firstOf 209 = .ok (.ireturn, 1) := by decide +kernel
theorem dX12_isBusy_0 : decode cX12_isBusy 0 = .ok (.iconst 0, 1) := by decide +kernel
theorem dX12_isBusy_1 : decode cX12_isBusy 1 = .ok (.istore_n 3, 1) := by decide +kernel
theorem dX12_isBusy_2 : decode cX12_isBusy 2 = .ok (.iconst 0, 1) := by decide +kernel
theorem dX12_isBusy_3 : decode cX12_isBusy 3 = .ok (.istore 4, 2) := by decide +kernel
theorem dX12_isBusy_5 : decode cX12_isBusy 5 = .ok (.iload 4, 2) := by decide +kernel
theorem dX12_isBusy_7 : decode cX12_isBusy 7 = .ok (.aload_n 0, 1) := by decide +kernel
theorem dX12_isBusy_8 : decode cX12_isBusy 8 = .ok (.getfield 130, 3) := by decide +kernel
theorem dX12_isBusy_11 : decode cX12_isBusy 11 = .ok (.if_icmp .ge 65, 3) := by decide +kernel
theorem dX12_isBusy_14 : decode cX12_isBusy 14 = .ok (.iload_n 3, 1) := by decide +kernel
theorem dX12_isBusy_15 : decode cX12_isBusy 15 = .ok (.ifCond .ne 49, 3) := by decide +kernel
theorem dX12_isBusy_18 : decode cX12_isBusy 18 = .ok (.aload_n 0, 1) := by decide +kernel
theorem dX12_isBusy_19 : decode cX12_isBusy 19 = .ok (.getfield 42, 3) := by decide +kernel
theorem dX12_isBusy_22 : decode cX12_isBusy 22 = .ok (.bipush 6, 2) := by decide +kernel
theorem dX12_isBusy_24 : decode cX12_isBusy 24 = .ok (.iload 4, 2) := by decide +kernel
theorem dX12_isBusy_26 : decode cX12_isBusy 26 = .ok (.imul, 1) := by decide +kernel
theorem dX12_isBusy_27 : decode cX12_isBusy 27 = .ok (.iaload, 1) := by decide +kernel
theorem dX12_isBusy_28 : decode cX12_isBusy 28 = .ok (.iconst 1, 1) := by decide +kernel
theorem dX12_isBusy_29 : decode cX12_isBusy 29 = .ok (.if_icmp .ne 39, 3) := by decide +kernel
theorem dX12_isBusy_32 : decode cX12_isBusy 32 = .ok (.aload_n 0, 1) := by decide +kernel
theorem dX12_isBusy_33 : decode cX12_isBusy 33 = .ok (.getfield 42, 3) := by decide +kernel
theorem dX12_isBusy_36 : decode cX12_isBusy 36 = .ok (.bipush 6, 2) := by decide +kernel
theorem dX12_isBusy_38 : decode cX12_isBusy 38 = .ok (.iload 4, 2) := by decide +kernel
theorem dX12_isBusy_40 : decode cX12_isBusy 40 = .ok (.imul, 1) := by decide +kernel
theorem dX12_isBusy_41 : decode cX12_isBusy 41 = .ok (.iconst 2, 1) := by decide +kernel
theorem dX12_isBusy_42 : decode cX12_isBusy 42 = .ok (.iadd, 1) := by decide +kernel
theorem dX12_isBusy_43 : decode cX12_isBusy 43 = .ok (.iaload, 1) := by decide +kernel
theorem dX12_isBusy_44 : decode cX12_isBusy 44 = .ok (.iload_n 1, 1) := by decide +kernel
theorem dX12_isBusy_45 : decode cX12_isBusy 45 = .ok (.if_icmp .ne 23, 3) := by decide +kernel
theorem dX12_isBusy_48 : decode cX12_isBusy 48 = .ok (.aload_n 0, 1) := by decide +kernel
theorem dX12_isBusy_49 : decode cX12_isBusy 49 = .ok (.getfield 42, 3) := by decide +kernel
theorem dX12_isBusy_52 : decode cX12_isBusy 52 = .ok (.bipush 6, 2) := by decide +kernel
theorem dX12_isBusy_54 : decode cX12_isBusy 54 = .ok (.iload 4, 2) := by decide +kernel
theorem dX12_isBusy_56 : decode cX12_isBusy 56 = .ok (.imul, 1) := by decide +kernel
theorem dX12_isBusy_57 : decode cX12_isBusy 57 = .ok (.iconst 1, 1) := by decide +kernel
theorem dX12_isBusy_58 : decode cX12_isBusy 58 = .ok (.iadd, 1) := by decide +kernel
theorem dX12_isBusy_59 : decode cX12_isBusy 59 = .ok (.iaload, 1) := by decide +kernel
theorem dX12_isBusy_60 : decode cX12_isBusy 60 = .ok (.iload_n 2, 1) := by decide +kernel
theorem dX12_isBusy_61 : decode cX12_isBusy 61 = .ok (.if_icmp .ne 7, 3) := by decide +kernel
theorem dX12_isBusy_64 : decode cX12_isBusy 64 = .ok (.iconst 1, 1) := by decide +kernel
theorem dX12_isBusy_65 : decode cX12_isBusy 65 = .ok (.goto 4, 3) := by decide +kernel
theorem dX12_isBusy_68 : decode cX12_isBusy 68 = .ok (.iconst 0, 1) := by decide +kernel
theorem dX12_isBusy_69 : decode cX12_isBusy 69 = .ok (.istore_n 3, 1) := by decide +kernel
theorem dX12_isBusy_70 : decode cX12_isBusy 70 = .ok (.iinc 4 1, 3) := by decide +kernel
theorem dX12_isBusy_73 : decode cX12_isBusy 73 = .ok (.goto (-68), 3) := by decide +kernel
theorem dX12_isBusy_76 : decode cX12_isBusy 76 = .ok (.iload_n 3, 1) := by decide +kernel
theorem dX12_isBusy_77 : decode cX12_isBusy 77 = .ok (.ireturn, 1) := by decide +kernel
theorem dX12_sendFrom_0 : decode cX12_sendFrom 0 = .ok (.aload_n 0, 1) := by decide +kernel
theorem dX12_sendFrom_1 : decode cX12_sendFrom 1 = .ok (.iload_n 1, 1) := by decide +kernel
theorem dX12_sendFrom_2 : decode cX12_sendFrom 2 = .ok (.iload_n 2, 1) := by decide +kernel
theorem dX12_sendFrom_3 : decode cX12_sendFrom 3 = .ok (.invokevirtual 199, 3) := by decide +kernel
theorem dX12_sendFrom_6 : decode cX12_sendFrom 6 = .ok (.ifCond .ne 26, 3) := by decide +kernel
theorem dX12_sendFrom_9 : decode cX12_sendFrom 9 = .ok (.aload_n 0, 1) := by decide +kernel
theorem dX12_sendFrom_10 : decode cX12_sendFrom 10 = .ok (.getfield 25, 3) := by decide +kernel
theorem dX12_sendFrom_13 : decode cX12_sendFrom 13 = .ok (.iload_n 1, 1) := by decide +kernel
theorem dX12_sendFrom_14 : decode cX12_sendFrom 14 = .ok (.baload, 1) := by decide +kernel
theorem dX12_sendFrom_15 : decode cX12_sendFrom 15 = .ok (.ifCond .ne 18, 3) := by decide +kernel
theorem dX12_sendFrom_18 : decode cX12_sendFrom 18 = .ok (.aload_n 0, 1) := by decide +kernel
theorem dX12_sendFrom_19 : decode cX12_sendFrom 19 = .ok (.iload_n 1, 1) := by decide +kernel
theorem dX12_sendFrom_20 : decode cX12_sendFrom 20 = .ok (.aload_n 0, 1) := by decide +kernel
theorem dX12_sendFrom_21 : decode cX12_sendFrom 21 = .ok (.iload_n 1, 1) := by decide +kernel
theorem dX12_sendFrom_22 : decode cX12_sendFrom 22 = .ok (.iload_n 2, 1) := by decide +kernel
theorem dX12_sendFrom_23 : decode cX12_sendFrom 23 = .ok (.invokevirtual 168, 3) := by decide +kernel
theorem dX12_sendFrom_26 : decode cX12_sendFrom 26 = .ok (.invokevirtual 199, 3) := by decide +kernel
theorem dX12_sendFrom_29 : decode cX12_sendFrom 29 = .ok (.ifCond .eq 4, 3) := by decide +kernel
theorem dX12_sendFrom_32 : decode cX12_sendFrom 32 = .ok (.return_, 1) := by decide +kernel
theorem dX12_sendFrom_33 : decode cX12_sendFrom 33 = .ok (.aload_n 0, 1) := by decide +kernel
theorem dX12_sendFrom_34 : decode cX12_sendFrom 34 = .ok (.iload_n 2, 1) := by decide +kernel
theorem dX12_sendFrom_35 : decode cX12_sendFrom 35 = .ok (.iload_n 1, 1) := by decide +kernel
theorem dX12_sendFrom_36 : decode cX12_sendFrom 36 = .ok (.iload_n 3, 1) := by decide +kernel
theorem dX12_sendFrom_37 : decode cX12_sendFrom 37 = .ok (.invokevirtual 202, 3) := by decide +kernel
theorem dX12_sendFrom_40 : decode cX12_sendFrom 40 = .ok (.istore 4, 2) := by decide +kernel
theorem dX12_sendFrom_42 : decode cX12_sendFrom 42 = .ok (.iload 4, 2) := by decide +kernel
theorem dX12_sendFrom_44 : decode cX12_sendFrom 44 = .ok (.iconst (-1), 1) := by decide +kernel
theorem dX12_sendFrom_45 : decode cX12_sendFrom 45 = .ok (.if_icmp .eq 72, 3) := by decide +kernel
theorem dX12_sendFrom_48 : decode cX12_sendFrom 48 = .ok (.bipush 6, 2) := by decide +kernel
theorem dX12_sendFrom_50 : decode cX12_sendFrom 50 = .ok (.iload 4, 2) := by decide +kernel
theorem dX12_sendFrom_52 : decode cX12_sendFrom 52 = .ok (.imul, 1) := by decide +kernel
theorem dX12_sendFrom_53 : decode cX12_sendFrom 53 = .ok (.istore 5, 2) := by decide +kernel
theorem dX12_sendFrom_55 : decode cX12_sendFrom 55 = .ok (.aload_n 0, 1) := by decide +kernel
theorem dX12_sendFrom_56 : decode cX12_sendFrom 56 = .ok (.getfield 42, 3) := by decide +kernel
theorem dX12_sendFrom_59 : decode cX12_sendFrom 59 = .ok (.iload 5, 2) := by decide +kernel
theorem dX12_sendFrom_61 : decode cX12_sendFrom 61 = .ok (.iconst 1, 1) := by decide +kernel
theorem dX12_sendFrom_62 : decode cX12_sendFrom 62 = .ok (.iastore, 1) := by decide +kernel
theorem dX12_sendFrom_63 : decode cX12_sendFrom 63 = .ok (.aload_n 0, 1) := by decide +kernel
theorem dX12_sendFrom_64 : decode cX12_sendFrom 64 = .ok (.getfield 42, 3) := by decide +kernel
theorem dX12_sendFrom_67 : decode cX12_sendFrom 67 = .ok (.iload 5, 2) := by decide +kernel
theorem dX12_sendFrom_69 : decode cX12_sendFrom 69 = .ok (.iconst 2, 1) := by decide +kernel
theorem dX12_sendFrom_70 : decode cX12_sendFrom 70 = .ok (.iadd, 1) := by decide +kernel
theorem dX12_sendFrom_71 : decode cX12_sendFrom 71 = .ok (.iload_n 1, 1) := by decide +kernel
theorem dX12_sendFrom_72 : decode cX12_sendFrom 72 = .ok (.iastore, 1) := by decide +kernel
theorem dX12_sendFrom_73 : decode cX12_sendFrom 73 = .ok (.aload_n 0, 1) := by decide +kernel
theorem dX12_sendFrom_74 : decode cX12_sendFrom 74 = .ok (.getfield 42, 3) := by decide +kernel
theorem dX12_sendFrom_77 : decode cX12_sendFrom 77 = .ok (.iload 5, 2) := by decide +kernel
theorem dX12_sendFrom_79 : decode cX12_sendFrom 79 = .ok (.iconst 3, 1) := by decide +kernel
theorem dX12_sendFrom_80 : decode cX12_sendFrom 80 = .ok (.iadd, 1) := by decide +kernel
theorem dX12_sendFrom_81 : decode cX12_sendFrom 81 = .ok (.iload_n 3, 1) := by decide +kernel
theorem dX12_sendFrom_82 : decode cX12_sendFrom 82 = .ok (.aload_n 0, 1) := by decide +kernel
theorem dX12_sendFrom_83 : decode cX12_sendFrom 83 = .ok (.iload_n 1, 1) := by decide +kernel
theorem dX12_sendFrom_84 : decode cX12_sendFrom 84 = .ok (.aload_n 0, 1) := by decide +kernel
theorem dX12_sendFrom_85 : decode cX12_sendFrom 85 = .ok (.aload_n 0, 1) := by decide +kernel
theorem dX12_sendFrom_86 : decode cX12_sendFrom 86 = .ok (.getfield 39, 3) := by decide +kernel
theorem dX12_sendFrom_89 : decode cX12_sendFrom 89 = .ok (.iload 5, 2) := by decide +kernel
theorem dX12_sendFrom_91 : decode cX12_sendFrom 91 = .ok (.iconst 2, 1) := by decide +kernel
theorem dX12_sendFrom_92 : decode cX12_sendFrom 92 = .ok (.iadd, 1) := by decide +kernel
theorem dX12_sendFrom_93 : decode cX12_sendFrom 93 = .ok (.iaload, 1) := by decide +kernel
theorem dX12_sendFrom_94 : decode cX12_sendFrom 94 = .ok (.aload_n 0, 1) := by decide +kernel
theorem dX12_sendFrom_95 : decode cX12_sendFrom 95 = .ok (.getfield 39, 3) := by decide +kernel
theorem dX12_sendFrom_98 : decode cX12_sendFrom 98 = .ok (.iload 5, 2) := by decide +kernel
theorem dX12_sendFrom_100 : decode cX12_sendFrom 100 = .ok (.iconst 3, 1) := by decide +kernel
theorem dX12_sendFrom_101 : decode cX12_sendFrom 101 = .ok (.iadd, 1) := by decide +kernel
theorem dX12_sendFrom_102 : decode cX12_sendFrom 102 = .ok (.iaload, 1) := by decide +kernel
theorem dX12_sendFrom_103 : decode cX12_sendFrom 103 = .ok (.aload_n 0, 1) := by decide +kernel
theorem dX12_sendFrom_104 : decode cX12_sendFrom 104 = .ok (.iload_n 2, 1) := by decide +kernel
theorem dX12_sendFrom_105 : decode cX12_sendFrom 105 = .ok (.iload_n 3, 1) := by decide +kernel
theorem dX12_sendFrom_106 : decode cX12_sendFrom 106 = .ok (.invokevirtual 157, 3) := by decide +kernel
theorem dX12_sendFrom_109 : decode cX12_sendFrom 109 = .ok (.invokevirtual 180, 3) := by decide +kernel
theorem dX12_sendFrom_112 : decode cX12_sendFrom 112 = .ok (.invokevirtual 171, 3) := by decide +kernel
theorem dX12_sendFrom_115 : decode cX12_sendFrom 115 = .ok (.iadd, 1) := by decide +kernel
theorem dX12_sendFrom_116 : decode cX12_sendFrom 116 = .ok (.iastore, 1) := by decide +kernel
theorem dX12_sendFrom_117 : decode cX12_sendFrom 117 = .ok (.return_, 1) := by decide +kernel
theorem dX12_goMinute_0 : decode cX12_goMinute 0 = .ok (.iconst 0, 1) := by decide +kernel
theorem dX12_goMinute_1 : decode cX12_goMinute 1 = .ok (.istore_n 2, 1) := by decide +kernel
theorem dX12_goMinute_2 : decode cX12_goMinute 2 = .ok (.iload_n 2, 1) := by decide +kernel
theorem dX12_goMinute_3 : decode cX12_goMinute 3 = .ok (.aload_n 0, 1) := by decide +kernel
theorem dX12_goMinute_4 : decode cX12_goMinute 4 = .ok (.getfield 130, 3) := by decide +kernel
theorem dX12_goMinute_7 : decode cX12_goMinute 7 = .ok (.if_icmp .ge 125, 3) := by decide +kernel
theorem dX12_goMinute_10 : decode cX12_goMinute 10 = .ok (.bipush 6, 2) := by decide +kernel
theorem dX12_goMinute_12 : decode cX12_goMinute 12 = .ok (.iload_n 2, 1) := by decide +kernel
theorem dX12_goMinute_13 : decode cX12_goMinute 13 = .ok (.imul, 1) := by decide +kernel
theorem dX12_goMinute_14 : decode cX12_goMinute 14 = .ok (.istore_n 3, 1) := by decide +kernel
theorem dX12_goMinute_15 : decode cX12_goMinute 15 = .ok (.aload_n 0, 1) := by decide +kernel
theorem dX12_goMinute_16 : decode cX12_goMinute 16 = .ok (.getfield 42, 3) := by decide +kernel
theorem dX12_goMinute_19 : decode cX12_goMinute 19 = .ok (.iload_n 3, 1) := by decide +kernel
theorem dX12_goMinute_20 : decode cX12_goMinute 20 = .ok (.iaload, 1) := by decide +kernel
theorem dX12_goMinute_21 : decode cX12_goMinute 21 = .ok (.iconst 1, 1) := by decide +kernel
theorem dX12_goMinute_22 : decode cX12_goMinute 22 = .ok (.if_icmp .ne 104, 3) := by decide +kernel
theorem dX12_goMinute_25 : decode cX12_goMinute 25 = .ok (.aload_n 0, 1) := by decide +kernel
theorem dX12_goMinute_26 : decode cX12_goMinute 26 = .ok (.getfield 42, 3) := by decide +kernel
theorem dX12_goMinute_29 : decode cX12_goMinute 29 = .ok (.iload_n 3, 1) := by decide +kernel
theorem dX12_goMinute_30 : decode cX12_goMinute 30 = .ok (.iconst 2, 1) := by decide +kernel
theorem dX12_goMinute_31 : decode cX12_goMinute 31 = .ok (.iadd, 1) := by decide +kernel
theorem dX12_goMinute_32 : decode cX12_goMinute 32 = .ok (.iaload, 1) := by decide +kernel
theorem dX12_goMinute_33 : decode cX12_goMinute 33 = .ok (.istore 4, 2) := by decide +kernel
theorem dX12_goMinute_35 : decode cX12_goMinute 35 = .ok (.aload_n 0, 1) := by decide +kernel
theorem dX12_goMinute_36 : decode cX12_goMinute 36 = .ok (.iload 4, 2) := by decide +kernel
theorem dX12_goMinute_38 : decode cX12_goMinute 38 = .ok (.iload_n 1, 1) := by decide +kernel
theorem dX12_goMinute_39 : decode cX12_goMinute 39 = .ok (.invokevirtual 174, 3) := by decide +kernel
theorem dX12_goMinute_42 : decode cX12_goMinute 42 = .ok (.ifCond .ne 34, 3) := by decide +kernel
theorem dX12_goMinute_45 : decode cX12_goMinute 45 = .ok (.aload_n 0, 1) := by decide +kernel
theorem dX12_goMinute_46 : decode cX12_goMinute 46 = .ok (.getfield 42, 3) := by decide +kernel
theorem dX12_goMinute_49 : decode cX12_goMinute 49 = .ok (.iload_n 3, 1) := by decide +kernel
theorem dX12_goMinute_50 : decode cX12_goMinute 50 = .ok (.iconst 0, 1) := by decide +kernel
theorem dX12_goMinute_51 : decode cX12_goMinute 51 = .ok (.iastore, 1) := by decide +kernel
theorem dX12_goMinute_52 : decode cX12_goMinute 52 = .ok (.aload_n 0, 1) := by decide +kernel
theorem dX12_goMinute_53 : decode cX12_goMinute 53 = .ok (.getfield 42, 3) := by decide +kernel
theorem dX12_goMinute_56 : decode cX12_goMinute 56 = .ok (.iload_n 3, 1) := by decide +kernel
theorem dX12_goMinute_57 : decode cX12_goMinute 57 = .ok (.iconst 2, 1) := by decide +kernel
theorem dX12_goMinute_58 : decode cX12_goMinute 58 = .ok (.iadd, 1) := by decide +kernel
theorem dX12_goMinute_59 : decode cX12_goMinute 59 = .ok (.iconst (-1), 1) := by decide +kernel
theorem dX12_goMinute_60 : decode cX12_goMinute 60 = .ok (.iastore, 1) := by decide +kernel
theorem dX12_goMinute_61 : decode cX12_goMinute 61 = .ok (.aload_n 0, 1) := by decide +kernel
theorem dX12_goMinute_62 : decode cX12_goMinute 62 = .ok (.getfield 42, 3) := by decide +kernel
theorem dX12_goMinute_65 : decode cX12_goMinute 65 = .ok (.iload_n 3, 1) := by decide +kernel
theorem dX12_goMinute_66 : decode cX12_goMinute 66 = .ok (.iconst 5, 1) := by decide +kernel
theorem dX12_goMinute_67 : decode cX12_goMinute 67 = .ok (.iadd, 1) := by decide +kernel
theorem dX12_goMinute_68 : decode cX12_goMinute 68 = .ok (.dup2, 1) := by decide +kernel
theorem dX12_goMinute_69 : decode cX12_goMinute 69 = .ok (.iaload, 1) := by decide +kernel
theorem dX12_goMinute_70 : decode cX12_goMinute 70 = .ok (.iconst 1, 1) := by decide +kernel
theorem dX12_goMinute_71 : decode cX12_goMinute 71 = .ok (.iadd, 1) := by decide +kernel
theorem dX12_goMinute_72 : decode cX12_goMinute 72 = .ok (.iastore, 1) := by decide +kernel
theorem dX12_goMinute_73 : decode cX12_goMinute 73 = .ok (.goto 53, 3) := by decide +kernel
theorem dX12_goMinute_76 : decode cX12_goMinute 76 = .ok (.aload_n 0, 1) := by decide +kernel
theorem dX12_goMinute_77 : decode cX12_goMinute 77 = .ok (.getfield 42, 3) := by decide +kernel
theorem dX12_goMinute_80 : decode cX12_goMinute 80 = .ok (.iload_n 3, 1) := by decide +kernel
theorem dX12_goMinute_81 : decode cX12_goMinute 81 = .ok (.iconst 3, 1) := by decide +kernel
theorem dX12_goMinute_82 : decode cX12_goMinute 82 = .ok (.iadd, 1) := by decide +kernel
theorem dX12_goMinute_83 : decode cX12_goMinute 83 = .ok (.iaload, 1) := by decide +kernel
theorem dX12_goMinute_84 : decode cX12_goMinute 84 = .ok (.iload_n 1, 1) := by decide +kernel
theorem dX12_goMinute_85 : decode cX12_goMinute 85 = .ok (.if_icmp .ne 41, 3) := by decide +kernel
theorem dX12_goMinute_88 : decode cX12_goMinute 88 = .ok (.aload_n 0, 1) := by decide +kernel
theorem dX12_goMinute_89 : decode cX12_goMinute 89 = .ok (.getfield 42, 3) := by decide +kernel
theorem dX12_goMinute_92 : decode cX12_goMinute 92 = .ok (.iload_n 3, 1) := by decide +kernel
theorem dX12_goMinute_93 : decode cX12_goMinute 93 = .ok (.iconst 0, 1) := by decide +kernel
theorem dX12_goMinute_94 : decode cX12_goMinute 94 = .ok (.iastore, 1) := by decide +kernel
theorem dX12_goMinute_95 : decode cX12_goMinute 95 = .ok (.aload_n 0, 1) := by decide +kernel
theorem dX12_goMinute_96 : decode cX12_goMinute 96 = .ok (.getfield 42, 3) := by decide +kernel
theorem dX12_goMinute_99 : decode cX12_goMinute 99 = .ok (.iload_n 3, 1) := by decide +kernel
theorem dX12_goMinute_100 : decode cX12_goMinute 100 = .ok (.iconst 1, 1) := by decide +kernel
theorem dX12_goMinute_101 : decode cX12_goMinute 101 = .ok (.iadd, 1) := by decide +kernel
theorem dX12_goMinute_102 : decode cX12_goMinute 102 = .ok (.aload_n 0, 1) := by decide +kernel
theorem dX12_goMinute_103 : decode cX12_goMinute 103 = .ok (.iload 4, 2) := by decide +kernel
theorem dX12_goMinute_105 : decode cX12_goMinute 105 = .ok (.aload_n 0, 1) := by decide +kernel
theorem dX12_goMinute_106 : decode cX12_goMinute 106 = .ok (.getfield 42, 3) := by decide +kernel
theorem dX12_goMinute_109 : decode cX12_goMinute 109 = .ok (.iload_n 3, 1) := by decide +kernel
theorem dX12_goMinute_110 : decode cX12_goMinute 110 = .ok (.iconst 1, 1) := by decide +kernel
theorem dX12_goMinute_111 : decode cX12_goMinute 111 = .ok (.iadd, 1) := by decide +kernel
theorem dX12_goMinute_112 : decode cX12_goMinute 112 = .ok (.iaload, 1) := by decide +kernel
theorem dX12_goMinute_113 : decode cX12_goMinute 113 = .ok (.invokevirtual 168, 3) := by decide +kernel
theorem dX12_goMinute_116 : decode cX12_goMinute 116 = .ok (.iastore, 1) := by decide +kernel
theorem dX12_goMinute_117 : decode cX12_goMinute 117 = .ok (.aload_n 0, 1) := by decide +kernel
theorem dX12_goMinute_118 : decode cX12_goMinute 118 = .ok (.getfield 42, 3) := by decide +kernel
theorem dX12_goMinute_121 : decode cX12_goMinute 121 = .ok (.iload_n 3, 1) := by decide +kernel
theorem dX12_goMinute_122 : decode cX12_goMinute 122 = .ok (.iconst 2, 1) := by decide +kernel
theorem dX12_goMinute_123 : decode cX12_goMinute 123 = .ok (.iadd, 1) := by decide +kernel
theorem dX12_goMinute_124 : decode cX12_goMinute 124 = .ok (.iconst (-1), 1) := by decide +kernel
theorem dX12_goMinute_125 : decode cX12_goMinute 125 = .ok (.iastore, 1) := by decide +kernel
theorem dX12_goMinute_126 : decode cX12_goMinute 126 = .ok (.iinc 2 1, 3) := by decide +kernel
theorem dX12_goMinute_129 : decode cX12_goMinute 129 = .ok (.goto (-127), 3) := by decide +kernel
theorem dX12_goMinute_132 : decode cX12_goMinute 132 = .ok (.iconst 0, 1) := by decide +kernel
theorem dX12_goMinute_133 : decode cX12_goMinute 133 = .ok (.istore_n 2, 1) := by decide +kernel
theorem dX12_goMinute_134 : decode cX12_goMinute 134 = .ok (.iload_n 2, 1) := by decide +kernel
theorem dX12_goMinute_135 : decode cX12_goMinute 135 = .ok (.aload_n 0, 1) := by decide +kernel
theorem dX12_goMinute_136 : decode cX12_goMinute 136 = .ok (.getfield 130, 3) := by decide +kernel
theorem dX12_goMinute_139 : decode cX12_goMinute 139 = .ok (.if_icmp .ge 74, 3) := by decide +kernel
theorem dX12_goMinute_142 : decode cX12_goMinute 142 = .ok (.bipush 6, 2) := by decide +kernel
theorem dX12_goMinute_144 : decode cX12_goMinute 144 = .ok (.iload_n 2, 1) := by decide +kernel
theorem dX12_goMinute_145 : decode cX12_goMinute 145 = .ok (.imul, 1) := by decide +kernel
theorem dX12_goMinute_146 : decode cX12_goMinute 146 = .ok (.istore_n 3, 1) := by decide +kernel
theorem dX12_goMinute_147 : decode cX12_goMinute 147 = .ok (.aload_n 0, 1) := by decide +kernel
theorem dX12_goMinute_148 : decode cX12_goMinute 148 = .ok (.getfield 42, 3) := by decide +kernel
theorem dX12_goMinute_151 : decode cX12_goMinute 151 = .ok (.iload_n 3, 1) := by decide +kernel
theorem dX12_goMinute_152 : decode cX12_goMinute 152 = .ok (.iaload, 1) := by decide +kernel
theorem dX12_goMinute_153 : decode cX12_goMinute 153 = .ok (.ifCond .ne 54, 3) := by decide +kernel
theorem dX12_goMinute_156 : decode cX12_goMinute 156 = .ok (.aload_n 0, 1) := by decide +kernel
theorem dX12_goMinute_157 : decode cX12_goMinute 157 = .ok (.getfield 42, 3) := by decide +kernel
theorem dX12_goMinute_160 : decode cX12_goMinute 160 = .ok (.iload_n 3, 1) := by decide +kernel
theorem dX12_goMinute_161 : decode cX12_goMinute 161 = .ok (.iconst 1, 1) := by decide +kernel
theorem dX12_goMinute_162 : decode cX12_goMinute 162 = .ok (.iadd, 1) := by decide +kernel
theorem dX12_goMinute_163 : decode cX12_goMinute 163 = .ok (.iaload, 1) := by decide +kernel
theorem dX12_goMinute_164 : decode cX12_goMinute 164 = .ok (.aload_n 0, 1) := by decide +kernel
theorem dX12_goMinute_165 : decode cX12_goMinute 165 = .ok (.getfield 39, 3) := by decide +kernel
theorem dX12_goMinute_168 : decode cX12_goMinute 168 = .ok (.iload_n 3, 1) := by decide +kernel
theorem dX12_goMinute_169 : decode cX12_goMinute 169 = .ok (.iconst 1, 1) := by decide +kernel
theorem dX12_goMinute_170 : decode cX12_goMinute 170 = .ok (.iadd, 1) := by decide +kernel
theorem dX12_goMinute_171 : decode cX12_goMinute 171 = .ok (.iaload, 1) := by decide +kernel
theorem dX12_goMinute_172 : decode cX12_goMinute 172 = .ok (.if_icmp .ne 35, 3) := by decide +kernel
theorem dX12_goMinute_175 : decode cX12_goMinute 175 = .ok (.aload_n 0, 1) := by decide +kernel
theorem dX12_goMinute_176 : decode cX12_goMinute 176 = .ok (.aload_n 0, 1) := by decide +kernel
theorem dX12_goMinute_177 : decode cX12_goMinute 177 = .ok (.getfield 39, 3) := by decide +kernel
theorem dX12_goMinute_180 : decode cX12_goMinute 180 = .ok (.iload_n 3, 1) := by decide +kernel
theorem dX12_goMinute_181 : decode cX12_goMinute 181 = .ok (.iconst 1, 1) := by decide +kernel
theorem dX12_goMinute_182 : decode cX12_goMinute 182 = .ok (.iadd, 1) := by decide +kernel
theorem dX12_goMinute_183 : decode cX12_goMinute 183 = .ok (.iaload, 1) := by decide +kernel
theorem dX12_goMinute_184 : decode cX12_goMinute 184 = .ok (.iload_n 1, 1) := by decide +kernel
theorem dX12_goMinute_185 : decode cX12_goMinute 185 = .ok (.invokevirtual 153, 3) := by decide +kernel
theorem dX12_goMinute_188 : decode cX12_goMinute 188 = .ok (.ifCond .eq 19, 3) := by decide +kernel
theorem dX12_goMinute_191 : decode cX12_goMinute 191 = .ok (.aload_n 0, 1) := by decide +kernel
theorem dX12_goMinute_192 : decode cX12_goMinute 192 = .ok (.getfield 42, 3) := by decide +kernel
theorem dX12_goMinute_195 : decode cX12_goMinute 195 = .ok (.iload_n 3, 1) := by decide +kernel
theorem dX12_goMinute_196 : decode cX12_goMinute 196 = .ok (.iconst 2, 1) := by decide +kernel
theorem dX12_goMinute_197 : decode cX12_goMinute 197 = .ok (.iastore, 1) := by decide +kernel
theorem dX12_goMinute_198 : decode cX12_goMinute 198 = .ok (.aload_n 0, 1) := by decide +kernel
theorem dX12_goMinute_199 : decode cX12_goMinute 199 = .ok (.getfield 42, 3) := by decide +kernel
theorem dX12_goMinute_202 : decode cX12_goMinute 202 = .ok (.iload_n 3, 1) := by decide +kernel
theorem dX12_goMinute_203 : decode cX12_goMinute 203 = .ok (.iconst 4, 1) := by decide +kernel
theorem dX12_goMinute_204 : decode cX12_goMinute 204 = .ok (.iadd, 1) := by decide +kernel
theorem dX12_goMinute_205 : decode cX12_goMinute 205 = .ok (.iload_n 1, 1) := by decide +kernel
theorem dX12_goMinute_206 : decode cX12_goMinute 206 = .ok (.iastore, 1) := by decide +kernel
theorem dX12_goMinute_207 : decode cX12_goMinute 207 = .ok (.iinc 2 1, 3) := by decide +kernel
theorem dX12_goMinute_210 : decode cX12_goMinute 210 = .ok (.goto (-76), 3) := by decide +kernel
theorem dX12_goMinute_213 : decode cX12_goMinute 213 = .ok (.iconst 0, 1) := by decide +kernel
theorem dX12_goMinute_214 : decode cX12_goMinute 214 = .ok (.istore_n 2, 1) := by decide +kernel
theorem dX12_goMinute_215 : decode cX12_goMinute 215 = .ok (.iload_n 2, 1) := by decide +kernel
theorem dX12_goMinute_216 : decode cX12_goMinute 216 = .ok (.aload_n 0, 1) := by decide +kernel
theorem dX12_goMinute_217 : decode cX12_goMinute 217 = .ok (.getfield 127, 3) := by decide +kernel
theorem dX12_goMinute_220 : decode cX12_goMinute 220 = .ok (.if_icmp .ge 70, 3) := by decide +kernel
theorem dX12_goMinute_223 : decode cX12_goMinute 223 = .ok (.aload_n 0, 1) := by decide +kernel
theorem dX12_goMinute_224 : decode cX12_goMinute 224 = .ok (.iload_n 2, 1) := by decide +kernel
theorem dX12_goMinute_225 : decode cX12_goMinute 225 = .ok (.iload_n 1, 1) := by decide +kernel
theorem dX12_goMinute_226 : decode cX12_goMinute 226 = .ok (.invokevirtual 174, 3) := by decide +kernel
theorem dX12_goMinute_229 : decode cX12_goMinute 229 = .ok (.ifCond .eq 55, 3) := by decide +kernel
theorem dX12_goMinute_232 : decode cX12_goMinute 232 = .ok (.aload_n 0, 1) := by decide +kernel
theorem dX12_goMinute_233 : decode cX12_goMinute 233 = .ok (.aload_n 0, 1) := by decide +kernel
theorem dX12_goMinute_234 : decode cX12_goMinute 234 = .ok (.getfield 16, 3) := by decide +kernel
theorem dX12_goMinute_237 : decode cX12_goMinute 237 = .ok (.iload_n 2, 1) := by decide +kernel
theorem dX12_goMinute_238 : decode cX12_goMinute 238 = .ok (.iaload, 1) := by decide +kernel
theorem dX12_goMinute_239 : decode cX12_goMinute 239 = .ok (.iload_n 1, 1) := by decide +kernel
theorem dX12_goMinute_240 : decode cX12_goMinute 240 = .ok (.invokevirtual 153, 3) := by decide +kernel
theorem dX12_goMinute_243 : decode cX12_goMinute 243 = .ok (.ifCond .eq 41, 3) := by decide +kernel
theorem dX12_goMinute_246 : decode cX12_goMinute 246 = .ok (.aload_n 0, 1) := by decide +kernel
theorem dX12_goMinute_247 : decode cX12_goMinute 247 = .ok (.aload_n 0, 1) := by decide +kernel
theorem dX12_goMinute_248 : decode cX12_goMinute 248 = .ok (.getfield 19, 3) := by decide +kernel
theorem dX12_goMinute_251 : decode cX12_goMinute 251 = .ok (.iload_n 2, 1) := by decide +kernel
theorem dX12_goMinute_252 : decode cX12_goMinute 252 = .ok (.iaload, 1) := by decide +kernel
theorem dX12_goMinute_253 : decode cX12_goMinute 253 = .ok (.iload_n 1, 1) := by decide +kernel
theorem dX12_goMinute_254 : decode cX12_goMinute 254 = .ok (.invokevirtual 153, 3) := by decide +kernel
theorem dX12_goMinute_257 : decode cX12_goMinute 257 = .ok (.ifCond .eq 27, 3) := by decide +kernel
theorem dX12_goMinute_260 : decode cX12_goMinute 260 = .ok (.aload_n 0, 1) := by decide +kernel
theorem dX12_goMinute_261 : decode cX12_goMinute 261 = .ok (.iload_n 2, 1) := by decide +kernel
theorem dX12_goMinute_262 : decode cX12_goMinute 262 = .ok (.aload_n 0, 1) := by decide +kernel
theorem dX12_goMinute_263 : decode cX12_goMinute 263 = .ok (.getfield 16, 3) := by decide +kernel
theorem dX12_goMinute_266 : decode cX12_goMinute 266 = .ok (.iload_n 2, 1) := by decide +kernel
theorem dX12_goMinute_267 : decode cX12_goMinute 267 = .ok (.iaload, 1) := by decide +kernel
theorem dX12_goMinute_268 : decode cX12_goMinute 268 = .ok (.iload_n 1, 1) := by decide +kernel
theorem dX12_goMinute_269 : decode cX12_goMinute 269 = .ok (.invokevirtual 205, 3) := by decide +kernel
theorem dX12_goMinute_272 : decode cX12_goMinute 272 = .ok (.aload_n 0, 1) := by decide +kernel
theorem dX12_goMinute_273 : decode cX12_goMinute 273 = .ok (.iload_n 2, 1) := by decide +kernel
theorem dX12_goMinute_274 : decode cX12_goMinute 274 = .ok (.aload_n 0, 1) := by decide +kernel
theorem dX12_goMinute_275 : decode cX12_goMinute 275 = .ok (.getfield 19, 3) := by decide +kernel
theorem dX12_goMinute_278 : decode cX12_goMinute 278 = .ok (.iload_n 2, 1) := by decide +kernel
theorem dX12_goMinute_279 : decode cX12_goMinute 279 = .ok (.iaload, 1) := by decide +kernel
theorem dX12_goMinute_280 : decode cX12_goMinute 280 = .ok (.iload_n 1, 1) := by decide +kernel
theorem dX12_goMinute_281 : decode cX12_goMinute 281 = .ok (.invokevirtual 205, 3) := by decide +kernel
theorem dX12_goMinute_284 : decode cX12_goMinute 284 = .ok (.iinc 2 1, 3) := by decide +kernel
theorem dX12_goMinute_287 : decode cX12_goMinute 287 = .ok (.goto (-72), 3) := by decide +kernel
theorem dX12_goMinute_290 : decode cX12_goMinute 290 = .ok (.return_, 1) := by decide +kernel
theorem dX12_minutes_0 : decode cX12_minutes 0 = .ok (.iload_n 1, 1) := by decide +kernel
theorem dX12_minutes_1 : decode cX12_minutes 1 = .ok (.iconst 1, 1) := by decide +kernel
theorem dX12_minutes_2 : decode cX12_minutes 2 = .ok (.bipush 120, 2) := by decide +kernel
theorem dX12_minutes_4 : decode cX12_minutes 4 = .ok (.invokestatic 123, 3) := by decide +kernel
theorem dX12_minutes_7 : decode cX12_minutes 7 = .ok (.ifCond .eq 15, 3) := by decide +kernel
theorem dX12_minutes_10 : decode cX12_minutes 10 = .ok (.aload_n 0, 1) := by decide +kernel
theorem dX12_minutes_11 : decode cX12_minutes 11 = .ok (.getfield 144, 3) := by decide +kernel
theorem dX12_minutes_14 : decode cX12_minutes 14 = .ok (.iload_n 1, 1) := by decide +kernel
theorem dX12_minutes_15 : decode cX12_minutes 15 = .ok (.iadd, 1) := by decide +kernel
theorem dX12_minutes_16 : decode cX12_minutes 16 = .ok (.sipush 9000, 3) := by decide +kernel
theorem dX12_minutes_19 : decode cX12_minutes 19 = .ok (.if_icmp .le 6, 3) := by decide +kernel
theorem dX12_minutes_22 : decode cX12_minutes 22 = .ok (.bipush (-3), 2) := by decide +kernel
theorem dX12_minutes_24 : decode cX12_minutes 24 = .ok (.ireturn, 1) := by decide +kernel
theorem dX12_minutes_25 : decode cX12_minutes 25 = .ok (.iconst 0, 1) := by decide +kernel
theorem dX12_minutes_26 : decode cX12_minutes 26 = .ok (.istore_n 2, 1) := by decide +kernel
theorem dX12_minutes_27 : decode cX12_minutes 27 = .ok (.iload_n 2, 1) := by decide +kernel
theorem dX12_minutes_28 : decode cX12_minutes 28 = .ok (.iload_n 1, 1) := by decide +kernel
theorem dX12_minutes_29 : decode cX12_minutes 29 = .ok (.if_icmp .ge 27, 3) := by decide +kernel
theorem dX12_minutes_32 : decode cX12_minutes 32 = .ok (.aload_n 0, 1) := by decide +kernel
theorem dX12_minutes_33 : decode cX12_minutes 33 = .ok (.aload_n 0, 1) := by decide +kernel
theorem dX12_minutes_34 : decode cX12_minutes 34 = .ok (.getfield 144, 3) := by decide +kernel
theorem dX12_minutes_37 : decode cX12_minutes 37 = .ok (.invokevirtual 209, 3) := by decide +kernel
theorem dX12_minutes_40 : decode cX12_minutes 40 = .ok (.aload_n 0, 1) := by decide +kernel
theorem dX12_minutes_41 : decode cX12_minutes 41 = .ok (.dup, 1) := by decide +kernel
theorem dX12_minutes_42 : decode cX12_minutes 42 = .ok (.getfield 144, 3) := by decide +kernel
theorem dX12_minutes_45 : decode cX12_minutes 45 = .ok (.iconst 1, 1) := by decide +kernel
theorem dX12_minutes_46 : decode cX12_minutes 46 = .ok (.iadd, 1) := by decide +kernel
theorem dX12_minutes_47 : decode cX12_minutes 47 = .ok (.putfield 144, 3) := by decide +kernel
theorem dX12_minutes_50 : decode cX12_minutes 50 = .ok (.iinc 2 1, 3) := by decide +kernel
theorem dX12_minutes_53 : decode cX12_minutes 53 = .ok (.goto (-26), 3) := by decide +kernel
theorem dX12_minutes_56 : decode cX12_minutes 56 = .ok (.aload_n 0, 1) := by decide +kernel
theorem dX12_minutes_57 : decode cX12_minutes 57 = .ok (.getfield 144, 3) := by decide +kernel
theorem dX12_minutes_60 : decode cX12_minutes 60 = .ok (.ireturn, 1) := by decide +kernel
theorem dX12_at_0 : decode cX12_at 0 = .ok (.aload_n 0, 1) := by decide +kernel
theorem dX12_at_1 : decode cX12_at 1 = .ok (.iload_n 1, 1) := by decide +kernel
theorem dX12_at_2 : decode cX12_at 2 = .ok (.invokevirtual 213, 3) := by decide +kernel
theorem dX12_at_5 : decode cX12_at 5 = .ok (.ifCond .ne 6, 3) := by decide +kernel
theorem dX12_at_8 : decode cX12_at 8 = .ok (.bipush (-2), 2) := by decide +kernel
theorem dX12_at_10 : decode cX12_at 10 = .ok (.ireturn, 1) := by decide +kernel
theorem dX12_at_11 : decode cX12_at 11 = .ok (.bipush 6, 2) := by decide +kernel
theorem dX12_at_13 : decode cX12_at 13 = .ok (.iload_n 1, 1) := by decide +kernel
theorem dX12_at_14 : decode cX12_at 14 = .ok (.imul, 1) := by decide +kernel
theorem dX12_at_15 : decode cX12_at 15 = .ok (.istore_n 3, 1) := by decide +kernel
theorem dX12_at_16 : decode cX12_at 16 = .ok (.iload_n 2, 1) := by decide +kernel
theorem dX12_at_17 : decode cX12_at 17 = .ok (.tableswitch 104 0 6 #[43, 50, 59, 68, 77, 86, 95], 43) := by decide +kernel
theorem dX12_at_60 : decode cX12_at 60 = .ok (.aload_n 0, 1) := by decide +kernel
theorem dX12_at_61 : decode cX12_at 61 = .ok (.getfield 42, 3) := by decide +kernel
theorem dX12_at_64 : decode cX12_at 64 = .ok (.iload_n 3, 1) := by decide +kernel
theorem dX12_at_65 : decode cX12_at 65 = .ok (.iaload, 1) := by decide +kernel
theorem dX12_at_66 : decode cX12_at 66 = .ok (.ireturn, 1) := by decide +kernel
theorem dX12_at_67 : decode cX12_at 67 = .ok (.aload_n 0, 1) := by decide +kernel
theorem dX12_at_68 : decode cX12_at 68 = .ok (.getfield 42, 3) := by decide +kernel
theorem dX12_at_71 : decode cX12_at 71 = .ok (.iload_n 3, 1) := by decide +kernel
theorem dX12_at_72 : decode cX12_at 72 = .ok (.iconst 1, 1) := by decide +kernel
theorem dX12_at_73 : decode cX12_at 73 = .ok (.iadd, 1) := by decide +kernel
theorem dX12_at_74 : decode cX12_at 74 = .ok (.iaload, 1) := by decide +kernel
theorem dX12_at_75 : decode cX12_at 75 = .ok (.ireturn, 1) := by decide +kernel
theorem dX12_at_76 : decode cX12_at 76 = .ok (.aload_n 0, 1) := by decide +kernel
theorem dX12_at_77 : decode cX12_at 77 = .ok (.getfield 42, 3) := by decide +kernel
theorem dX12_at_80 : decode cX12_at 80 = .ok (.iload_n 3, 1) := by decide +kernel
theorem dX12_at_81 : decode cX12_at 81 = .ok (.iconst 2, 1) := by decide +kernel
theorem dX12_at_82 : decode cX12_at 82 = .ok (.iadd, 1) := by decide +kernel
theorem dX12_at_83 : decode cX12_at 83 = .ok (.iaload, 1) := by decide +kernel
theorem dX12_at_84 : decode cX12_at 84 = .ok (.ireturn, 1) := by decide +kernel
theorem dX12_at_85 : decode cX12_at 85 = .ok (.aload_n 0, 1) := by decide +kernel
theorem dX12_at_86 : decode cX12_at 86 = .ok (.getfield 42, 3) := by decide +kernel
theorem dX12_at_89 : decode cX12_at 89 = .ok (.iload_n 3, 1) := by decide +kernel
theorem dX12_at_90 : decode cX12_at 90 = .ok (.iconst 4, 1) := by decide +kernel
theorem dX12_at_91 : decode cX12_at 91 = .ok (.iadd, 1) := by decide +kernel
theorem dX12_at_92 : decode cX12_at 92 = .ok (.iaload, 1) := by decide +kernel
theorem dX12_at_93 : decode cX12_at 93 = .ok (.ireturn, 1) := by decide +kernel
theorem dX12_at_94 : decode cX12_at 94 = .ok (.aload_n 0, 1) := by decide +kernel
theorem dX12_at_95 : decode cX12_at 95 = .ok (.getfield 42, 3) := by decide +kernel
theorem dX12_at_98 : decode cX12_at 98 = .ok (.iload_n 3, 1) := by decide +kernel
theorem dX12_at_99 : decode cX12_at 99 = .ok (.iconst 5, 1) := by decide +kernel
theorem dX12_at_100 : decode cX12_at 100 = .ok (.iadd, 1) := by decide +kernel
theorem dX12_at_101 : decode cX12_at 101 = .ok (.iaload, 1) := by decide +kernel
theorem dX12_at_102 : decode cX12_at 102 = .ok (.ireturn, 1) := by decide +kernel
theorem dX12_at_103 : decode cX12_at 103 = .ok (.aload_n 0, 1) := by decide +kernel
theorem dX12_at_104 : decode cX12_at 104 = .ok (.getfield 39, 3) := by decide +kernel
theorem dX12_at_107 : decode cX12_at 107 = .ok (.iload_n 3, 1) := by decide +kernel
theorem dX12_at_108 : decode cX12_at 108 = .ok (.iconst 5, 1) := by decide +kernel
theorem dX12_at_109 : decode cX12_at 109 = .ok (.iadd, 1) := by decide +kernel
theorem dX12_at_110 : decode cX12_at 110 = .ok (.iaload, 1) := by decide +kernel
theorem dX12_at_111 : decode cX12_at 111 = .ok (.ireturn, 1) := by decide +kernel
theorem dX12_at_112 : decode cX12_at 112 = .ok (.aload_n 0, 1) := by decide +kernel
theorem dX12_at_113 : decode cX12_at 113 = .ok (.getfield 39, 3) := by decide +kernel
theorem dX12_at_116 : decode cX12_at 116 = .ok (.iload_n 3, 1) := by decide +kernel
theorem dX12_at_117 : decode cX12_at 117 = .ok (.iconst 4, 1) := by decide +kernel
theorem dX12_at_118 : decode cX12_at 118 = .ok (.iadd, 1) := by decide +kernel
theorem dX12_at_119 : decode cX12_at 119 = .ok (.iaload, 1) := by decide +kernel
theorem dX12_at_120 : decode cX12_at 120 = .ok (.ireturn, 1) := by decide +kernel
theorem dX12_at_121 : decode cX12_at 121 = .ok (.bipush (-3), 2) := by decide +kernel
theorem dX12_at_123 : decode cX12_at 123 = .ok (.ireturn, 1) := by decide +kernel
theorem dX12_next_0 : decode cX12_next 0 = .ok (.aload_n 0, 1) := by decide +kernel
theorem dX12_next_1 : decode cX12_next 1 = .ok (.iload_n 1, 1) := by decide +kernel
theorem dX12_next_2 : decode cX12_next 2 = .ok (.invokevirtual 213, 3) := by decide +kernel
theorem dX12_next_5 : decode cX12_next 5 = .ok (.ifCond .eq 15, 3) := by decide +kernel
theorem dX12_next_8 : decode cX12_next 8 = .ok (.aload_n 0, 1) := by decide +kernel
theorem dX12_next_9 : decode cX12_next 9 = .ok (.iload_n 1, 1) := by decide +kernel
theorem dX12_next_10 : decode cX12_next 10 = .ok (.aload_n 0, 1) := by decide +kernel
theorem dX12_next_11 : decode cX12_next 11 = .ok (.getfield 144, 3) := by decide +kernel
theorem dX12_next_14 : decode cX12_next 14 = .ok (.invokevirtual 190, 3) := by decide +kernel
theorem dX12_next_17 : decode cX12_next 17 = .ok (.goto 5, 3) := by decide +kernel
theorem dX12_next_20 : decode cX12_next 20 = .ok (.bipush (-2), 2) := by decide +kernel
theorem dX12_next_22 : decode cX12_next 22 = .ok (.ireturn, 1) := by decide +kernel
theorem dX12_first_0 : decode cX12_first 0 = .ok (.iload_n 1, 1) := by decide +kernel
theorem dX12_first_1 : decode cX12_first 1 = .ok (.invokestatic 133, 3) := by decide +kernel
theorem dX12_first_4 : decode cX12_first 4 = .ok (.ifCond .eq 20, 3) := by decide +kernel
theorem dX12_first_7 : decode cX12_first 7 = .ok (.aload_n 0, 1) := by decide +kernel
theorem dX12_first_8 : decode cX12_first 8 = .ok (.iload_n 2, 1) := by decide +kernel
theorem dX12_first_9 : decode cX12_first 9 = .ok (.invokevirtual 141, 3) := by decide +kernel
theorem dX12_first_12 : decode cX12_first 12 = .ok (.ifCond .eq 12, 3) := by decide +kernel
theorem dX12_first_15 : decode cX12_first 15 = .ok (.aload_n 0, 1) := by decide +kernel
theorem dX12_first_16 : decode cX12_first 16 = .ok (.iload_n 2, 1) := by decide +kernel
theorem dX12_first_17 : decode cX12_first 17 = .ok (.iload_n 1, 1) := by decide +kernel
theorem dX12_first_18 : decode cX12_first 18 = .ok (.invokevirtual 177, 3) := by decide +kernel
theorem dX12_first_21 : decode cX12_first 21 = .ok (.ifCond .ne 6, 3) := by decide +kernel
theorem dX12_first_24 : decode cX12_first 24 = .ok (.bipush (-2), 2) := by decide +kernel
theorem dX12_first_26 : decode cX12_first 26 = .ok (.ireturn, 1) := by decide +kernel
theorem dX12_first_27 : decode cX12_first 27 = .ok (.aload_n 0, 1) := by decide +kernel
theorem dX12_first_28 : decode cX12_first 28 = .ok (.iload_n 1, 1) := by decide +kernel
theorem dX12_first_29 : decode cX12_first 29 = .ok (.iload_n 2, 1) := by decide +kernel
theorem dX12_first_30 : decode cX12_first 30 = .ok (.aload_n 0, 1) := by decide +kernel
theorem dX12_first_31 : decode cX12_first 31 = .ok (.getfield 144, 3) := by decide +kernel
theorem dX12_first_34 : decode cX12_first 34 = .ok (.invokevirtual 202, 3) := by decide +kernel
theorem dX12_first_37 : decode cX12_first 37 = .ok (.ireturn, 1) := by decide +kernel
theorem dX12_setsOut_0 : decode cX12_setsOut 0 = .ok (.aload_n 0, 1) := by decide +kernel
theorem dX12_setsOut_1 : decode cX12_setsOut 1 = .ok (.iload_n 1, 1) := by decide +kernel
theorem dX12_setsOut_2 : decode cX12_setsOut 2 = .ok (.iload 4, 2) := by decide +kernel
theorem dX12_setsOut_4 : decode cX12_setsOut 4 = .ok (.invokevirtual 171, 3) := by decide +kernel
theorem dX12_setsOut_7 : decode cX12_setsOut 7 = .ok (.istore 7, 2) := by decide +kernel
theorem dX12_setsOut_9 : decode cX12_setsOut 9 = .ok (.iload 5, 2) := by decide +kernel
theorem dX12_setsOut_11 : decode cX12_setsOut 11 = .ok (.istore 8, 2) := by decide +kernel
theorem dX12_setsOut_13 : decode cX12_setsOut 13 = .ok (.iload 8, 2) := by decide +kernel
theorem dX12_setsOut_15 : decode cX12_setsOut 15 = .ok (.iload 7, 2) := by decide +kernel
theorem dX12_setsOut_17 : decode cX12_setsOut 17 = .ok (.iadd, 1) := by decide +kernel
theorem dX12_setsOut_18 : decode cX12_setsOut 18 = .ok (.iload 6, 2) := by decide +kernel
theorem dX12_setsOut_20 : decode cX12_setsOut 20 = .ok (.if_icmp .gt 103, 3) := by decide +kernel
theorem dX12_setsOut_23 : decode cX12_setsOut 23 = .ok (.aload_n 0, 1) := by decide +kernel
theorem dX12_setsOut_24 : decode cX12_setsOut 24 = .ok (.aload_n 0, 1) := by decide +kernel
theorem dX12_setsOut_25 : decode cX12_setsOut 25 = .ok (.getfield 16, 3) := by decide +kernel
theorem dX12_setsOut_28 : decode cX12_setsOut 28 = .ok (.iload_n 1, 1) := by decide +kernel
theorem dX12_setsOut_29 : decode cX12_setsOut 29 = .ok (.iaload, 1) := by decide +kernel
theorem dX12_setsOut_30 : decode cX12_setsOut 30 = .ok (.iload 8, 2) := by decide +kernel
theorem dX12_setsOut_32 : decode cX12_setsOut 32 = .ok (.invokevirtual 153, 3) := by decide +kernel
theorem dX12_setsOut_35 : decode cX12_setsOut 35 = .ok (.ifCond .eq 37, 3) := by decide +kernel
theorem dX12_setsOut_38 : decode cX12_setsOut 38 = .ok (.aload_n 0, 1) := by decide +kernel
theorem dX12_setsOut_39 : decode cX12_setsOut 39 = .ok (.aload_n 0, 1) := by decide +kernel
theorem dX12_setsOut_40 : decode cX12_setsOut 40 = .ok (.getfield 19, 3) := by decide +kernel
theorem dX12_setsOut_43 : decode cX12_setsOut 43 = .ok (.iload_n 1, 1) := by decide +kernel
theorem dX12_setsOut_44 : decode cX12_setsOut 44 = .ok (.iaload, 1) := by decide +kernel
theorem dX12_setsOut_45 : decode cX12_setsOut 45 = .ok (.iload 8, 2) := by decide +kernel
theorem dX12_setsOut_47 : decode cX12_setsOut 47 = .ok (.invokevirtual 153, 3) := by decide +kernel
theorem dX12_setsOut_50 : decode cX12_setsOut 50 = .ok (.ifCond .eq 22, 3) := by decide +kernel
theorem dX12_setsOut_53 : decode cX12_setsOut 53 = .ok (.iload_n 2, 1) := by decide +kernel
theorem dX12_setsOut_54 : decode cX12_setsOut 54 = .ok (.iconst 2, 1) := by decide +kernel
theorem dX12_setsOut_55 : decode cX12_setsOut 55 = .ok (.if_icmp .ne 13, 3) := by decide +kernel
theorem dX12_setsOut_58 : decode cX12_setsOut 58 = .ok (.aload_n 0, 1) := by decide +kernel
theorem dX12_setsOut_59 : decode cX12_setsOut 59 = .ok (.iload_n 3, 1) := by decide +kernel
theorem dX12_setsOut_60 : decode cX12_setsOut 60 = .ok (.iload 8, 2) := by decide +kernel
theorem dX12_setsOut_62 : decode cX12_setsOut 62 = .ok (.invokevirtual 193, 3) := by decide +kernel
theorem dX12_setsOut_65 : decode cX12_setsOut 65 = .ok (.ifCond .eq 7, 3) := by decide +kernel
theorem dX12_setsOut_68 : decode cX12_setsOut 68 = .ok (.iconst 1, 1) := by decide +kernel
theorem dX12_setsOut_69 : decode cX12_setsOut 69 = .ok (.goto 4, 3) := by decide +kernel
theorem dX12_setsOut_72 : decode cX12_setsOut 72 = .ok (.iconst 0, 1) := by decide +kernel
theorem dX12_setsOut_73 : decode cX12_setsOut 73 = .ok (.istore 9, 2) := by decide +kernel
theorem dX12_setsOut_75 : decode cX12_setsOut 75 = .ok (.iload 8, 2) := by decide +kernel
theorem dX12_setsOut_77 : decode cX12_setsOut 77 = .ok (.istore 10, 2) := by decide +kernel
theorem dX12_setsOut_79 : decode cX12_setsOut 79 = .ok (.iload 10, 2) := by decide +kernel
theorem dX12_setsOut_81 : decode cX12_setsOut 81 = .ok (.iload 8, 2) := by decide +kernel
theorem dX12_setsOut_83 : decode cX12_setsOut 83 = .ok (.iload 7, 2) := by decide +kernel
theorem dX12_setsOut_85 : decode cX12_setsOut 85 = .ok (.iadd, 1) := by decide +kernel
theorem dX12_setsOut_86 : decode cX12_setsOut 86 = .ok (.if_icmp .gt 23, 3) := by decide +kernel
theorem dX12_setsOut_89 : decode cX12_setsOut 89 = .ok (.iload 9, 2) := by decide +kernel
theorem dX12_setsOut_91 : decode cX12_setsOut 91 = .ok (.ifCond .eq 18, 3) := by decide +kernel
theorem dX12_setsOut_94 : decode cX12_setsOut 94 = .ok (.aload_n 0, 1) := by decide +kernel
theorem dX12_setsOut_95 : decode cX12_setsOut 95 = .ok (.iload_n 1, 1) := by decide +kernel
theorem dX12_setsOut_96 : decode cX12_setsOut 96 = .ok (.iload 10, 2) := by decide +kernel
theorem dX12_setsOut_98 : decode cX12_setsOut 98 = .ok (.invokevirtual 174, 3) := by decide +kernel
theorem dX12_setsOut_101 : decode cX12_setsOut 101 = .ok (.istore 9, 2) := by decide +kernel
theorem dX12_setsOut_103 : decode cX12_setsOut 103 = .ok (.iinc 10 1, 3) := by decide +kernel
theorem dX12_setsOut_106 : decode cX12_setsOut 106 = .ok (.goto (-27), 3) := by decide +kernel
theorem dX12_setsOut_109 : decode cX12_setsOut 109 = .ok (.iload 9, 2) := by decide +kernel
theorem dX12_setsOut_111 : decode cX12_setsOut 111 = .ok (.ifCond .eq 6, 3) := by decide +kernel
theorem dX12_setsOut_114 : decode cX12_setsOut 114 = .ok (.iload 8, 2) := by decide +kernel
theorem dX12_setsOut_116 : decode cX12_setsOut 116 = .ok (.ireturn, 1) := by decide +kernel
theorem dX12_setsOut_117 : decode cX12_setsOut 117 = .ok (.iinc 8 1, 3) := by decide +kernel
theorem dX12_setsOut_120 : decode cX12_setsOut 120 = .ok (.goto (-107), 3) := by decide +kernel
theorem dX12_setsOut_123 : decode cX12_setsOut 123 = .ok (.ldc 167, 2) := by decide +kernel
theorem dX12_setsOut_125 : decode cX12_setsOut 125 = .ok (.ireturn, 1) := by decide +kernel
theorem dX12_soonest_0 : decode cX12_soonest 0 = .ok (.iload_n 1, 1) := by decide +kernel
theorem dX12_soonest_1 : decode cX12_soonest 1 = .ok (.invokestatic 133, 3) := by decide +kernel
theorem dX12_soonest_4 : decode cX12_soonest 4 = .ok (.ifCond .eq 15, 3) := by decide +kernel
theorem dX12_soonest_7 : decode cX12_soonest 7 = .ok (.iload_n 2, 1) := by decide +kernel
theorem dX12_soonest_8 : decode cX12_soonest 8 = .ok (.invokestatic 133, 3) := by decide +kernel
theorem dX12_soonest_11 : decode cX12_soonest 11 = .ok (.ifCond .eq 8, 3) := by decide +kernel
theorem dX12_soonest_14 : decode cX12_soonest 14 = .ok (.iload_n 1, 1) := by decide +kernel
theorem dX12_soonest_15 : decode cX12_soonest 15 = .ok (.iload_n 2, 1) := by decide +kernel
theorem dX12_soonest_16 : decode cX12_soonest 16 = .ok (.if_icmp .ne 6, 3) := by decide +kernel
theorem dX12_soonest_19 : decode cX12_soonest 19 = .ok (.bipush (-2), 2) := by decide +kernel
theorem dX12_soonest_21 : decode cX12_soonest 21 = .ok (.ireturn, 1) := by decide +kernel
theorem dX12_soonest_22 : decode cX12_soonest 22 = .ok (.iload_n 3, 1) := by decide +kernel
theorem dX12_soonest_23 : decode cX12_soonest 23 = .ok (.iconst 1, 1) := by decide +kernel
theorem dX12_soonest_24 : decode cX12_soonest 24 = .ok (.bipush 99, 2) := by decide +kernel
theorem dX12_soonest_26 : decode cX12_soonest 26 = .ok (.invokestatic 123, 3) := by decide +kernel
theorem dX12_soonest_29 : decode cX12_soonest 29 = .ok (.ifCond .eq 28, 3) := by decide +kernel
theorem dX12_soonest_32 : decode cX12_soonest 32 = .ok (.iload 4, 2) := by decide +kernel
theorem dX12_soonest_34 : decode cX12_soonest 34 = .ok (.iconst 0, 1) := by decide +kernel
theorem dX12_soonest_35 : decode cX12_soonest 35 = .ok (.iconst 4, 1) := by decide +kernel
theorem dX12_soonest_36 : decode cX12_soonest 36 = .ok (.invokestatic 123, 3) := by decide +kernel
theorem dX12_soonest_39 : decode cX12_soonest 39 = .ok (.ifCond .eq 18, 3) := by decide +kernel
theorem dX12_soonest_42 : decode cX12_soonest 42 = .ok (.iload 5, 2) := by decide +kernel
theorem dX12_soonest_44 : decode cX12_soonest 44 = .ok (.aload_n 0, 1) := by decide +kernel
theorem dX12_soonest_45 : decode cX12_soonest 45 = .ok (.getfield 144, 3) := by decide +kernel
theorem dX12_soonest_48 : decode cX12_soonest 48 = .ok (.sipush 9000, 3) := by decide +kernel
theorem dX12_soonest_51 : decode cX12_soonest 51 = .ok (.invokestatic 123, 3) := by decide +kernel
theorem dX12_soonest_54 : decode cX12_soonest 54 = .ok (.ifCond .ne 6, 3) := by decide +kernel
theorem dX12_soonest_57 : decode cX12_soonest 57 = .ok (.bipush (-3), 2) := by decide +kernel
theorem dX12_soonest_59 : decode cX12_soonest 59 = .ok (.ireturn, 1) := by decide +kernel
theorem dX12_soonest_60 : decode cX12_soonest 60 = .ok (.aload_n 0, 1) := by decide +kernel
theorem dX12_soonest_61 : decode cX12_soonest 61 = .ok (.iload_n 1, 1) := by decide +kernel
theorem dX12_soonest_62 : decode cX12_soonest 62 = .ok (.iload 5, 2) := by decide +kernel
theorem dX12_soonest_64 : decode cX12_soonest 64 = .ok (.invokevirtual 157, 3) := by decide +kernel
theorem dX12_soonest_67 : decode cX12_soonest 67 = .ok (.istore 6, 2) := by decide +kernel
theorem dX12_soonest_69 : decode cX12_soonest 69 = .ok (.aload_n 0, 1) := by decide +kernel
theorem dX12_soonest_70 : decode cX12_soonest 70 = .ok (.iload_n 3, 1) := by decide +kernel
theorem dX12_soonest_71 : decode cX12_soonest 71 = .ok (.iload 4, 2) := by decide +kernel
theorem dX12_soonest_73 : decode cX12_soonest 73 = .ok (.iload 6, 2) := by decide +kernel
theorem dX12_soonest_75 : decode cX12_soonest 75 = .ok (.invokevirtual 180, 3) := by decide +kernel
theorem dX12_soonest_78 : decode cX12_soonest 78 = .ok (.istore 7, 2) := by decide +kernel
theorem dX12_soonest_80 : decode cX12_soonest 80 = .ok (.iconst 0, 1) := by decide +kernel
theorem dX12_soonest_81 : decode cX12_soonest 81 = .ok (.istore 8, 2) := by decide +kernel
theorem dX12_soonest_83 : decode cX12_soonest 83 = .ok (.iconst 0, 1) := by decide +kernel
theorem dX12_soonest_84 : decode cX12_soonest 84 = .ok (.istore 9, 2) := by decide +kernel
theorem dX12_soonest_86 : decode cX12_soonest 86 = .ok (.iload 9, 2) := by decide +kernel
theorem dX12_soonest_88 : decode cX12_soonest 88 = .ok (.bipush 8, 2) := by decide +kernel
theorem dX12_soonest_90 : decode cX12_soonest 90 = .ok (.if_icmp .ge 29, 3) := by decide +kernel
theorem dX12_soonest_93 : decode cX12_soonest 93 = .ok (.aload_n 0, 1) := by decide +kernel
theorem dX12_soonest_94 : decode cX12_soonest 94 = .ok (.getfield 48, 3) := by decide +kernel
theorem dX12_soonest_97 : decode cX12_soonest 97 = .ok (.iload 9, 2) := by decide +kernel
theorem dX12_soonest_99 : decode cX12_soonest 99 = .ok (.iload 9, 2) := by decide +kernel
theorem dX12_soonest_101 : decode cX12_soonest 101 = .ok (.iload_n 1, 1) := by decide +kernel
theorem dX12_soonest_102 : decode cX12_soonest 102 = .ok (.if_icmp .ne 8, 3) := by decide +kernel
theorem dX12_soonest_105 : decode cX12_soonest 105 = .ok (.iload 5, 2) := by decide +kernel
theorem dX12_soonest_107 : decode cX12_soonest 107 = .ok (.goto 5, 3) := by decide +kernel
theorem dX12_soonest_110 : decode cX12_soonest 110 = .ok (.ldc 167, 2) := by decide +kernel
theorem dX12_soonest_112 : decode cX12_soonest 112 = .ok (.iastore, 1) := by decide +kernel
theorem dX12_soonest_113 : decode cX12_soonest 113 = .ok (.iinc 9 1, 3) := by decide +kernel
theorem dX12_soonest_116 : decode cX12_soonest 116 = .ok (.goto (-30), 3) := by decide +kernel
theorem dX12_soonest_119 : decode cX12_soonest 119 = .ok (.iconst 0, 1) := by decide +kernel
theorem dX12_soonest_120 : decode cX12_soonest 120 = .ok (.istore 9, 2) := by decide +kernel
theorem dX12_soonest_122 : decode cX12_soonest 122 = .ok (.iload 9, 2) := by decide +kernel
theorem dX12_soonest_124 : decode cX12_soonest 124 = .ok (.bipush 8, 2) := by decide +kernel
theorem dX12_soonest_126 : decode cX12_soonest 126 = .ok (.if_icmp .ge 229, 3) := by decide +kernel
theorem dX12_soonest_129 : decode cX12_soonest 129 = .ok (.iconst (-1), 1) := by decide +kernel
theorem dX12_soonest_130 : decode cX12_soonest 130 = .ok (.istore 10, 2) := by decide +kernel
theorem dX12_soonest_132 : decode cX12_soonest 132 = .ok (.iconst 0, 1) := by decide +kernel
theorem dX12_soonest_133 : decode cX12_soonest 133 = .ok (.istore 11, 2) := by decide +kernel
theorem dX12_soonest_135 : decode cX12_soonest 135 = .ok (.iload 11, 2) := by decide +kernel
theorem dX12_soonest_137 : decode cX12_soonest 137 = .ok (.bipush 8, 2) := by decide +kernel
theorem dX12_soonest_139 : decode cX12_soonest 139 = .ok (.if_icmp .ge 51, 3) := by decide +kernel
theorem dX12_soonest_142 : decode cX12_soonest 142 = .ok (.iload 8, 2) := by decide +kernel
theorem dX12_soonest_144 : decode cX12_soonest 144 = .ok (.iload 11, 2) := by decide +kernel
theorem dX12_soonest_146 : decode cX12_soonest 146 = .ok (.ishr, 1) := by decide +kernel
theorem dX12_soonest_147 : decode cX12_soonest 147 = .ok (.iconst 1, 1) := by decide +kernel
theorem dX12_soonest_148 : decode cX12_soonest 148 = .ok (.iand, 1) := by decide +kernel
theorem dX12_soonest_149 : decode cX12_soonest 149 = .ok (.ifCond .ne 31, 3) := by decide +kernel
theorem dX12_soonest_152 : decode cX12_soonest 152 = .ok (.iload 10, 2) := by decide +kernel
theorem dX12_soonest_154 : decode cX12_soonest 154 = .ok (.iconst (-1), 1) := by decide +kernel
theorem dX12_soonest_155 : decode cX12_soonest 155 = .ok (.if_icmp .eq 20, 3) := by decide +kernel
theorem dX12_soonest_158 : decode cX12_soonest 158 = .ok (.aload_n 0, 1) := by decide +kernel
theorem dX12_soonest_159 : decode cX12_soonest 159 = .ok (.getfield 48, 3) := by decide +kernel
theorem dX12_soonest_162 : decode cX12_soonest 162 = .ok (.iload 11, 2) := by decide +kernel
theorem dX12_soonest_164 : decode cX12_soonest 164 = .ok (.iaload, 1) := by decide +kernel
theorem dX12_soonest_165 : decode cX12_soonest 165 = .ok (.aload_n 0, 1) := by decide +kernel
theorem dX12_soonest_166 : decode cX12_soonest 166 = .ok (.getfield 48, 3) := by decide +kernel
theorem dX12_soonest_169 : decode cX12_soonest 169 = .ok (.iload 10, 2) := by decide +kernel
theorem dX12_soonest_171 : decode cX12_soonest 171 = .ok (.iaload, 1) := by decide +kernel
theorem dX12_soonest_172 : decode cX12_soonest 172 = .ok (.if_icmp .ge 8, 3) := by decide +kernel
theorem dX12_soonest_175 : decode cX12_soonest 175 = .ok (.iload 11, 2) := by decide +kernel
theorem dX12_soonest_177 : decode cX12_soonest 177 = .ok (.goto 5, 3) := by decide +kernel
theorem dX12_soonest_180 : decode cX12_soonest 180 = .ok (.iload 10, 2) := by decide +kernel
theorem dX12_soonest_182 : decode cX12_soonest 182 = .ok (.istore 10, 2) := by decide +kernel
theorem dX12_soonest_184 : decode cX12_soonest 184 = .ok (.iinc 11 1, 3) := by decide +kernel
theorem dX12_soonest_187 : decode cX12_soonest 187 = .ok (.goto (-52), 3) := by decide +kernel
theorem dX12_soonest_190 : decode cX12_soonest 190 = .ok (.iload 8, 2) := by decide +kernel
theorem dX12_soonest_192 : decode cX12_soonest 192 = .ok (.iconst 1, 1) := by decide +kernel
theorem dX12_soonest_193 : decode cX12_soonest 193 = .ok (.iload 10, 2) := by decide +kernel
theorem dX12_soonest_195 : decode cX12_soonest 195 = .ok (.ishl, 1) := by decide +kernel
theorem dX12_soonest_196 : decode cX12_soonest 196 = .ok (.ior, 1) := by decide +kernel
theorem dX12_soonest_197 : decode cX12_soonest 197 = .ok (.istore 8, 2) := by decide +kernel
theorem dX12_soonest_199 : decode cX12_soonest 199 = .ok (.iconst 0, 1) := by decide +kernel
theorem dX12_soonest_200 : decode cX12_soonest 200 = .ok (.istore 11, 2) := by decide +kernel
theorem dX12_soonest_202 : decode cX12_soonest 202 = .ok (.iload 11, 2) := by decide +kernel
theorem dX12_soonest_204 : decode cX12_soonest 204 = .ok (.aload_n 0, 1) := by decide +kernel
theorem dX12_soonest_205 : decode cX12_soonest 205 = .ok (.getfield 127, 3) := by decide +kernel
theorem dX12_soonest_208 : decode cX12_soonest 208 = .ok (.if_icmp .ge 141, 3) := by decide +kernel
theorem dX12_soonest_211 : decode cX12_soonest 211 = .ok (.aload_n 0, 1) := by decide +kernel
theorem dX12_soonest_212 : decode cX12_soonest 212 = .ok (.getfield 48, 3) := by decide +kernel
theorem dX12_soonest_215 : decode cX12_soonest 215 = .ok (.iload 10, 2) := by decide +kernel
theorem dX12_soonest_217 : decode cX12_soonest 217 = .ok (.iaload, 1) := by decide +kernel
theorem dX12_soonest_218 : decode cX12_soonest 218 = .ok (.ldc 167, 2) := by decide +kernel
theorem dX12_soonest_220 : decode cX12_soonest 220 = .ok (.if_icmp .ge 129, 3) := by decide +kernel
theorem dX12_soonest_223 : decode cX12_soonest 223 = .ok (.aload_n 0, 1) := by decide +kernel
theorem dX12_soonest_224 : decode cX12_soonest 224 = .ok (.iload 11, 2) := by decide +kernel
theorem dX12_soonest_226 : decode cX12_soonest 226 = .ok (.iload 10, 2) := by decide +kernel
theorem dX12_soonest_228 : decode cX12_soonest 228 = .ok (.invokevirtual 177, 3) := by decide +kernel
theorem dX12_soonest_231 : decode cX12_soonest 231 = .ok (.ifCond .eq 112, 3) := by decide +kernel
theorem dX12_soonest_234 : decode cX12_soonest 234 = .ok (.aload_n 0, 1) := by decide +kernel
theorem dX12_soonest_235 : decode cX12_soonest 235 = .ok (.iload 11, 2) := by decide +kernel
theorem dX12_soonest_237 : decode cX12_soonest 237 = .ok (.iload 10, 2) := by decide +kernel
theorem dX12_soonest_239 : decode cX12_soonest 239 = .ok (.invokevirtual 168, 3) := by decide +kernel
theorem dX12_soonest_242 : decode cX12_soonest 242 = .ok (.istore 12, 2) := by decide +kernel
theorem dX12_soonest_244 : decode cX12_soonest 244 = .ok (.iload 8, 2) := by decide +kernel
theorem dX12_soonest_246 : decode cX12_soonest 246 = .ok (.iload 12, 2) := by decide +kernel
theorem dX12_soonest_248 : decode cX12_soonest 248 = .ok (.ishr, 1) := by decide +kernel
theorem dX12_soonest_249 : decode cX12_soonest 249 = .ok (.iconst 1, 1) := by decide +kernel
theorem dX12_soonest_250 : decode cX12_soonest 250 = .ok (.iand, 1) := by decide +kernel
theorem dX12_soonest_251 : decode cX12_soonest 251 = .ok (.iconst 1, 1) := by decide +kernel
theorem dX12_soonest_252 : decode cX12_soonest 252 = .ok (.if_icmp .ne 8, 3) := by decide +kernel
theorem dX12_soonest_255 : decode cX12_soonest 255 = .ok (.ldc 167, 2) := by decide +kernel
theorem dX12_soonest_257 : decode cX12_soonest 257 = .ok (.goto 28, 3) := by decide +kernel
theorem dX12_soonest_260 : decode cX12_soonest 260 = .ok (.aload_n 0, 1) := by decide +kernel
theorem dX12_soonest_261 : decode cX12_soonest 261 = .ok (.iload 11, 2) := by decide +kernel
theorem dX12_soonest_263 : decode cX12_soonest 263 = .ok (.iload 4, 2) := by decide +kernel
theorem dX12_soonest_265 : decode cX12_soonest 265 = .ok (.iload 6, 2) := by decide +kernel
theorem dX12_soonest_267 : decode cX12_soonest 267 = .ok (.iload 7, 2) := by decide +kernel
theorem dX12_soonest_269 : decode cX12_soonest 269 = .ok (.aload_n 0, 1) := by decide +kernel
theorem dX12_soonest_270 : decode cX12_soonest 270 = .ok (.getfield 48, 3) := by decide +kernel
theorem dX12_soonest_273 : decode cX12_soonest 273 = .ok (.iload 10, 2) := by decide +kernel
theorem dX12_soonest_275 : decode cX12_soonest 275 = .ok (.iaload, 1) := by decide +kernel
theorem dX12_soonest_276 : decode cX12_soonest 276 = .ok (.iload 5, 2) := by decide +kernel
theorem dX12_soonest_278 : decode cX12_soonest 278 = .ok (.sipush 3000, 3) := by decide +kernel
theorem dX12_soonest_281 : decode cX12_soonest 281 = .ok (.iadd, 1) := by decide +kernel
theorem dX12_soonest_282 : decode cX12_soonest 282 = .ok (.invokevirtual 216, 3) := by decide +kernel
theorem dX12_soonest_285 : decode cX12_soonest 285 = .ok (.istore 13, 2) := by decide +kernel
theorem dX12_soonest_287 : decode cX12_soonest 287 = .ok (.iload 13, 2) := by decide +kernel
theorem dX12_soonest_289 : decode cX12_soonest 289 = .ok (.ldc 167, 2) := by decide +kernel
theorem dX12_soonest_291 : decode cX12_soonest 291 = .ok (.if_icmp .ne 8, 3) := by decide +kernel
theorem dX12_soonest_294 : decode cX12_soonest 294 = .ok (.ldc 167, 2) := by decide +kernel
theorem dX12_soonest_296 : decode cX12_soonest 296 = .ok (.goto 14, 3) := by decide +kernel
theorem dX12_soonest_299 : decode cX12_soonest 299 = .ok (.iload 13, 2) := by decide +kernel
theorem dX12_soonest_301 : decode cX12_soonest 301 = .ok (.aload_n 0, 1) := by decide +kernel
theorem dX12_soonest_302 : decode cX12_soonest 302 = .ok (.iload 11, 2) := by decide +kernel
theorem dX12_soonest_304 : decode cX12_soonest 304 = .ok (.iload 7, 2) := by decide +kernel
theorem dX12_soonest_306 : decode cX12_soonest 306 = .ok (.invokevirtual 171, 3) := by decide +kernel
theorem dX12_soonest_309 : decode cX12_soonest 309 = .ok (.iadd, 1) := by decide +kernel
theorem dX12_soonest_310 : decode cX12_soonest 310 = .ok (.istore 14, 2) := by decide +kernel
theorem dX12_soonest_312 : decode cX12_soonest 312 = .ok (.aload_n 0, 1) := by decide +kernel
theorem dX12_soonest_313 : decode cX12_soonest 313 = .ok (.getfield 48, 3) := by decide +kernel
theorem dX12_soonest_316 : decode cX12_soonest 316 = .ok (.iload 12, 2) := by decide +kernel
theorem dX12_soonest_318 : decode cX12_soonest 318 = .ok (.iload 14, 2) := by decide +kernel
theorem dX12_soonest_320 : decode cX12_soonest 320 = .ok (.aload_n 0, 1) := by decide +kernel
theorem dX12_soonest_321 : decode cX12_soonest 321 = .ok (.getfield 48, 3) := by decide +kernel
theorem dX12_soonest_324 : decode cX12_soonest 324 = .ok (.iload 12, 2) := by decide +kernel
theorem dX12_soonest_326 : decode cX12_soonest 326 = .ok (.iaload, 1) := by decide +kernel
theorem dX12_soonest_327 : decode cX12_soonest 327 = .ok (.if_icmp .ge 8, 3) := by decide +kernel
theorem dX12_soonest_330 : decode cX12_soonest 330 = .ok (.iload 14, 2) := by decide +kernel
theorem dX12_soonest_332 : decode cX12_soonest 332 = .ok (.goto 10, 3) := by decide +kernel
theorem dX12_soonest_335 : decode cX12_soonest 335 = .ok (.aload_n 0, 1) := by decide +kernel
theorem dX12_soonest_336 : decode cX12_soonest 336 = .ok (.getfield 48, 3) := by decide +kernel
theorem dX12_soonest_339 : decode cX12_soonest 339 = .ok (.iload 12, 2) := by decide +kernel
theorem dX12_soonest_341 : decode cX12_soonest 341 = .ok (.iaload, 1) := by decide +kernel
theorem dX12_soonest_342 : decode cX12_soonest 342 = .ok (.iastore, 1) := by decide +kernel
theorem dX12_soonest_343 : decode cX12_soonest 343 = .ok (.iinc 11 1, 3) := by decide +kernel
theorem dX12_soonest_346 : decode cX12_soonest 346 = .ok (.goto (-144), 3) := by decide +kernel
theorem dX12_soonest_349 : decode cX12_soonest 349 = .ok (.iinc 9 1, 3) := by decide +kernel
theorem dX12_soonest_352 : decode cX12_soonest 352 = .ok (.goto (-230), 3) := by decide +kernel
theorem dX12_soonest_355 : decode cX12_soonest 355 = .ok (.aload_n 0, 1) := by decide +kernel
theorem dX12_soonest_356 : decode cX12_soonest 356 = .ok (.getfield 48, 3) := by decide +kernel
theorem dX12_soonest_359 : decode cX12_soonest 359 = .ok (.iload_n 2, 1) := by decide +kernel
theorem dX12_soonest_360 : decode cX12_soonest 360 = .ok (.iaload, 1) := by decide +kernel
theorem dX12_soonest_361 : decode cX12_soonest 361 = .ok (.ldc 167, 2) := by decide +kernel
theorem dX12_soonest_363 : decode cX12_soonest 363 = .ok (.if_icmp .ne 7, 3) := by decide +kernel
theorem dX12_soonest_366 : decode cX12_soonest 366 = .ok (.iconst (-1), 1) := by decide +kernel
theorem dX12_soonest_367 : decode cX12_soonest 367 = .ok (.goto 9, 3) := by decide +kernel
theorem dX12_soonest_370 : decode cX12_soonest 370 = .ok (.aload_n 0, 1) := by decide +kernel
theorem dX12_soonest_371 : decode cX12_soonest 371 = .ok (.getfield 48, 3) := by decide +kernel
theorem dX12_soonest_374 : decode cX12_soonest 374 = .ok (.iload_n 2, 1) := by decide +kernel
theorem dX12_soonest_375 : decode cX12_soonest 375 = .ok (.iaload, 1) := by decide +kernel
theorem dX12_soonest_376 : decode cX12_soonest 376 = .ok (.ireturn, 1) := by decide +kernel
theorem dX12_given_0 : decode cX12_given 0 = .ok (.iconst 0, 1) := by decide +kernel
theorem dX12_given_1 : decode cX12_given 1 = .ok (.istore_n 1, 1) := by decide +kernel
theorem dX12_given_2 : decode cX12_given 2 = .ok (.iconst 0, 1) := by decide +kernel
theorem dX12_given_3 : decode cX12_given 3 = .ok (.istore_n 2, 1) := by decide +kernel
theorem dX12_given_4 : decode cX12_given 4 = .ok (.iload_n 2, 1) := by decide +kernel
theorem dX12_given_5 : decode cX12_given 5 = .ok (.aload_n 0, 1) := by decide +kernel
theorem dX12_given_6 : decode cX12_given 6 = .ok (.getfield 130, 3) := by decide +kernel
theorem dX12_given_9 : decode cX12_given 9 = .ok (.if_icmp .ge 30, 3) := by decide +kernel
theorem dX12_given_12 : decode cX12_given 12 = .ok (.iload_n 1, 1) := by decide +kernel
theorem dX12_given_13 : decode cX12_given 13 = .ok (.aload_n 0, 1) := by decide +kernel
theorem dX12_given_14 : decode cX12_given 14 = .ok (.getfield 42, 3) := by decide +kernel
theorem dX12_given_17 : decode cX12_given 17 = .ok (.bipush 6, 2) := by decide +kernel
theorem dX12_given_19 : decode cX12_given 19 = .ok (.iload_n 2, 1) := by decide +kernel
theorem dX12_given_20 : decode cX12_given 20 = .ok (.imul, 1) := by decide +kernel
theorem dX12_given_21 : decode cX12_given 21 = .ok (.iaload, 1) := by decide +kernel
theorem dX12_given_22 : decode cX12_given 22 = .ok (.iconst 2, 1) := by decide +kernel
theorem dX12_given_23 : decode cX12_given 23 = .ok (.if_icmp .ne 7, 3) := by decide +kernel
theorem dX12_given_26 : decode cX12_given 26 = .ok (.iconst 1, 1) := by decide +kernel
theorem dX12_given_27 : decode cX12_given 27 = .ok (.goto 4, 3) := by decide +kernel
theorem dX12_given_30 : decode cX12_given 30 = .ok (.iconst 0, 1) := by decide +kernel
theorem dX12_given_31 : decode cX12_given 31 = .ok (.iadd, 1) := by decide +kernel
theorem dX12_given_32 : decode cX12_given 32 = .ok (.istore_n 1, 1) := by decide +kernel
theorem dX12_given_33 : decode cX12_given 33 = .ok (.iinc 2 1, 3) := by decide +kernel
theorem dX12_given_36 : decode cX12_given 36 = .ok (.goto (-32), 3) := by decide +kernel
theorem dX12_given_39 : decode cX12_given 39 = .ok (.iload_n 1, 1) := by decide +kernel
theorem dX12_given_40 : decode cX12_given 40 = .ok (.ireturn, 1) := by decide +kernel
theorem dX12_beside_0 : decode cX12_beside 0 = .ok (.iload_n 1, 1) := by decide +kernel
theorem dX12_beside_1 : decode cX12_beside 1 = .ok (.iconst (-1), 1) := by decide +kernel
theorem dX12_beside_2 : decode cX12_beside 2 = .ok (.if_icmp .eq 14, 3) := by decide +kernel
theorem dX12_beside_5 : decode cX12_beside 5 = .ok (.aload_n 0, 1) := by decide +kernel
theorem dX12_beside_6 : decode cX12_beside 6 = .ok (.iload_n 1, 1) := by decide +kernel
theorem dX12_beside_7 : decode cX12_beside 7 = .ok (.invokevirtual 141, 3) := by decide +kernel
theorem dX12_beside_10 : decode cX12_beside 10 = .ok (.ifCond .ne 6, 3) := by decide +kernel
theorem dX12_beside_13 : decode cX12_beside 13 = .ok (.bipush (-2), 2) := by decide +kernel
theorem dX12_beside_15 : decode cX12_beside 15 = .ok (.ireturn, 1) := by decide +kernel
theorem dX12_beside_16 : decode cX12_beside 16 = .ok (.iload_n 2, 1) := by decide +kernel
theorem dX12_beside_17 : decode cX12_beside 17 = .ok (.iconst 1, 1) := by decide +kernel
theorem dX12_beside_18 : decode cX12_beside 18 = .ok (.sipush 300, 3) := by decide +kernel
theorem dX12_beside_21 : decode cX12_beside 21 = .ok (.invokestatic 123, 3) := by decide +kernel
theorem dX12_beside_24 : decode cX12_beside 24 = .ok (.ifCond .eq 15, 3) := by decide +kernel
theorem dX12_beside_27 : decode cX12_beside 27 = .ok (.aload_n 0, 1) := by decide +kernel
theorem dX12_beside_28 : decode cX12_beside 28 = .ok (.getfield 144, 3) := by decide +kernel
theorem dX12_beside_31 : decode cX12_beside 31 = .ok (.iload_n 2, 1) := by decide +kernel
theorem dX12_beside_32 : decode cX12_beside 32 = .ok (.iadd, 1) := by decide +kernel
theorem dX12_beside_33 : decode cX12_beside 33 = .ok (.sipush 9000, 3) := by decide +kernel
theorem dX12_beside_36 : decode cX12_beside 36 = .ok (.if_icmp .le 6, 3) := by decide +kernel
theorem dX12_beside_39 : decode cX12_beside 39 = .ok (.bipush (-3), 2) := by decide +kernel
theorem dX12_beside_41 : decode cX12_beside 41 = .ok (.ireturn, 1) := by decide +kernel
theorem dX12_beside_42 : decode cX12_beside 42 = .ok (.iconst 0, 1) := by decide +kernel
theorem dX12_beside_43 : decode cX12_beside 43 = .ok (.istore_n 3, 1) := by decide +kernel
theorem dX12_beside_44 : decode cX12_beside 44 = .ok (.iload_n 3, 1) := by decide +kernel
theorem dX12_beside_45 : decode cX12_beside 45 = .ok (.sipush 144, 3) := by decide +kernel
theorem dX12_beside_48 : decode cX12_beside 48 = .ok (.if_icmp .ge 21, 3) := by decide +kernel
theorem dX12_beside_51 : decode cX12_beside 51 = .ok (.aload_n 0, 1) := by decide +kernel
theorem dX12_beside_52 : decode cX12_beside 52 = .ok (.getfield 45, 3) := by decide +kernel
theorem dX12_beside_55 : decode cX12_beside 55 = .ok (.iload_n 3, 1) := by decide +kernel
theorem dX12_beside_56 : decode cX12_beside 56 = .ok (.aload_n 0, 1) := by decide +kernel
theorem dX12_beside_57 : decode cX12_beside 57 = .ok (.getfield 42, 3) := by decide +kernel
theorem dX12_beside_60 : decode cX12_beside 60 = .ok (.iload_n 3, 1) := by decide +kernel
theorem dX12_beside_61 : decode cX12_beside 61 = .ok (.iaload, 1) := by decide +kernel
theorem dX12_beside_62 : decode cX12_beside 62 = .ok (.iastore, 1) := by decide +kernel
theorem dX12_beside_63 : decode cX12_beside 63 = .ok (.iinc 3 1, 3) := by decide +kernel
theorem dX12_beside_66 : decode cX12_beside 66 = .ok (.goto (-22), 3) := by decide +kernel
theorem dX12_beside_69 : decode cX12_beside 69 = .ok (.aload_n 0, 1) := by decide +kernel
theorem dX12_beside_70 : decode cX12_beside 70 = .ok (.iload_n 1, 1) := by decide +kernel
theorem dX12_beside_71 : decode cX12_beside 71 = .ok (.iconst (-1), 1) := by decide +kernel
theorem dX12_beside_72 : decode cX12_beside 72 = .ok (.if_icmp .ne 8, 3) := by decide +kernel
theorem dX12_beside_75 : decode cX12_beside 75 = .ok (.bipush (-9), 2) := by decide +kernel
theorem dX12_beside_77 : decode cX12_beside 77 = .ok (.goto 4, 3) := by decide +kernel
theorem dX12_beside_80 : decode cX12_beside 80 = .ok (.iload_n 1, 1) := by decide +kernel
theorem dX12_beside_81 : decode cX12_beside 81 = .ok (.putfield 35, 3) := by decide +kernel
theorem dX12_beside_84 : decode cX12_beside 84 = .ok (.iconst 0, 1) := by decide +kernel
theorem dX12_beside_85 : decode cX12_beside 85 = .ok (.istore_n 3, 1) := by decide +kernel
theorem dX12_beside_86 : decode cX12_beside 86 = .ok (.iload_n 3, 1) := by decide +kernel
theorem dX12_beside_87 : decode cX12_beside 87 = .ok (.iload_n 2, 1) := by decide +kernel
theorem dX12_beside_88 : decode cX12_beside 88 = .ok (.if_icmp .ge 19, 3) := by decide +kernel
theorem dX12_beside_91 : decode cX12_beside 91 = .ok (.aload_n 0, 1) := by decide +kernel
theorem dX12_beside_92 : decode cX12_beside 92 = .ok (.aload_n 0, 1) := by decide +kernel
theorem dX12_beside_93 : decode cX12_beside 93 = .ok (.getfield 144, 3) := by decide +kernel
theorem dX12_beside_96 : decode cX12_beside 96 = .ok (.iload_n 3, 1) := by decide +kernel
theorem dX12_beside_97 : decode cX12_beside 97 = .ok (.iadd, 1) := by decide +kernel
theorem dX12_beside_98 : decode cX12_beside 98 = .ok (.invokevirtual 209, 3) := by decide +kernel
theorem dX12_beside_101 : decode cX12_beside 101 = .ok (.iinc 3 1, 3) := by decide +kernel
theorem dX12_beside_104 : decode cX12_beside 104 = .ok (.goto (-18), 3) := by decide +kernel
theorem dX12_beside_107 : decode cX12_beside 107 = .ok (.aload_n 0, 1) := by decide +kernel
theorem dX12_beside_108 : decode cX12_beside 108 = .ok (.invokevirtual 220, 3) := by decide +kernel
theorem dX12_beside_111 : decode cX12_beside 111 = .ok (.istore_n 3, 1) := by decide +kernel
theorem dX12_beside_112 : decode cX12_beside 112 = .ok (.aload_n 0, 1) := by decide +kernel
theorem dX12_beside_113 : decode cX12_beside 113 = .ok (.bipush (-9), 2) := by decide +kernel
theorem dX12_beside_115 : decode cX12_beside 115 = .ok (.putfield 35, 3) := by decide +kernel
theorem dX12_beside_118 : decode cX12_beside 118 = .ok (.iconst 0, 1) := by decide +kernel
theorem dX12_beside_119 : decode cX12_beside 119 = .ok (.istore 4, 2) := by decide +kernel
theorem dX12_beside_121 : decode cX12_beside 121 = .ok (.iload 4, 2) := by decide +kernel
theorem dX12_beside_123 : decode cX12_beside 123 = .ok (.sipush 144, 3) := by decide +kernel
theorem dX12_beside_126 : decode cX12_beside 126 = .ok (.if_icmp .ge 23, 3) := by decide +kernel
theorem dX12_beside_129 : decode cX12_beside 129 = .ok (.aload_n 0, 1) := by decide +kernel
theorem dX12_beside_130 : decode cX12_beside 130 = .ok (.getfield 42, 3) := by decide +kernel
theorem dX12_beside_133 : decode cX12_beside 133 = .ok (.iload 4, 2) := by decide +kernel
theorem dX12_beside_135 : decode cX12_beside 135 = .ok (.aload_n 0, 1) := by decide +kernel
theorem dX12_beside_136 : decode cX12_beside 136 = .ok (.getfield 45, 3) := by decide +kernel
theorem dX12_beside_139 : decode cX12_beside 139 = .ok (.iload 4, 2) := by decide +kernel
theorem dX12_beside_141 : decode cX12_beside 141 = .ok (.iaload, 1) := by decide +kernel
theorem dX12_beside_142 : decode cX12_beside 142 = .ok (.iastore, 1) := by decide +kernel
theorem dX12_beside_143 : decode cX12_beside 143 = .ok (.iinc 4 1, 3) := by decide +kernel
theorem dX12_beside_146 : decode cX12_beside 146 = .ok (.goto (-25), 3) := by decide +kernel
theorem dX12_beside_149 : decode cX12_beside 149 = .ok (.iload_n 3, 1) := by decide +kernel
theorem dX12_beside_150 : decode cX12_beside 150 = .ok (.ireturn, 1) := by decide +kernel
theorem dX12_write_0 : decode cX12_write 0 = .ok (.iload_n 3, 1) := by decide +kernel
theorem dX12_write_1 : decode cX12_write 1 = .ok (.iconst 1, 1) := by decide +kernel
theorem dX12_write_2 : decode cX12_write 2 = .ok (.bipush 8, 2) := by decide +kernel
theorem dX12_write_4 : decode cX12_write 4 = .ok (.invokestatic 123, 3) := by decide +kernel
theorem dX12_write_7 : decode cX12_write 7 = .ok (.ifCond .ne 6, 3) := by decide +kernel
theorem dX12_write_10 : decode cX12_write 10 = .ok (.bipush (-3), 2) := by decide +kernel
theorem dX12_write_12 : decode cX12_write 12 = .ok (.ireturn, 1) := by decide +kernel
theorem dX12_write_13 : decode cX12_write 13 = .ok (.aload_n 0, 1) := by decide +kernel
theorem dX12_write_14 : decode cX12_write 14 = .ok (.getfield 224, 3) := by decide +kernel
theorem dX12_write_17 : decode cX12_write 17 = .ok (.iload_n 3, 1) := by decide +kernel
theorem dX12_write_18 : decode cX12_write 18 = .ok (.iadd, 1) := by decide +kernel
theorem dX12_write_19 : decode cX12_write 19 = .ok (.sipush 160, 3) := by decide +kernel
theorem dX12_write_22 : decode cX12_write 22 = .ok (.if_icmp .le 6, 3) := by decide +kernel
theorem dX12_write_25 : decode cX12_write 25 = .ok (.bipush (-5), 2) := by decide +kernel
theorem dX12_write_27 : decode cX12_write 27 = .ok (.ireturn, 1) := by decide +kernel
theorem dX12_write_28 : decode cX12_write 28 = .ok (.iconst 0, 1) := by decide +kernel
theorem dX12_write_29 : decode cX12_write 29 = .ok (.istore 4, 2) := by decide +kernel
theorem dX12_write_31 : decode cX12_write 31 = .ok (.iload 4, 2) := by decide +kernel
theorem dX12_write_33 : decode cX12_write 33 = .ok (.iload_n 3, 1) := by decide +kernel
theorem dX12_write_34 : decode cX12_write 34 = .ok (.if_icmp .ge 33, 3) := by decide +kernel
theorem dX12_write_37 : decode cX12_write 37 = .ok (.aload_n 0, 1) := by decide +kernel
theorem dX12_write_38 : decode cX12_write 38 = .ok (.getfield 51, 3) := by decide +kernel
theorem dX12_write_41 : decode cX12_write 41 = .ok (.aload_n 0, 1) := by decide +kernel
theorem dX12_write_42 : decode cX12_write 42 = .ok (.getfield 224, 3) := by decide +kernel
theorem dX12_write_45 : decode cX12_write 45 = .ok (.iload 4, 2) := by decide +kernel
theorem dX12_write_47 : decode cX12_write 47 = .ok (.iadd, 1) := by decide +kernel
theorem dX12_write_48 : decode cX12_write 48 = .ok (.lload_n 1, 1) := by decide +kernel
theorem dX12_write_49 : decode cX12_write 49 = .ok (.bipush 8, 2) := by decide +kernel
theorem dX12_write_51 : decode cX12_write 51 = .ok (.iload 4, 2) := by decide +kernel
theorem dX12_write_53 : decode cX12_write 53 = .ok (.imul, 1) := by decide +kernel
theorem dX12_write_54 : decode cX12_write 54 = .ok (.lshr, 1) := by decide +kernel
theorem dX12_write_55 : decode cX12_write 55 = .ok (.ldc2_w 227, 3) := by decide +kernel
theorem dX12_write_58 : decode cX12_write 58 = .ok (.land, 1) := by decide +kernel
theorem dX12_write_59 : decode cX12_write 59 = .ok (.l2i, 1) := by decide +kernel
theorem dX12_write_60 : decode cX12_write 60 = .ok (.iastore, 1) := by decide +kernel
theorem dX12_write_61 : decode cX12_write 61 = .ok (.iinc 4 1, 3) := by decide +kernel
theorem dX12_write_64 : decode cX12_write 64 = .ok (.goto (-33), 3) := by decide +kernel
theorem dX12_write_67 : decode cX12_write 67 = .ok (.aload_n 0, 1) := by decide +kernel
theorem dX12_write_68 : decode cX12_write 68 = .ok (.dup, 1) := by decide +kernel
theorem dX12_write_69 : decode cX12_write 69 = .ok (.getfield 224, 3) := by decide +kernel
theorem dX12_write_72 : decode cX12_write 72 = .ok (.iload_n 3, 1) := by decide +kernel
theorem dX12_write_73 : decode cX12_write 73 = .ok (.iadd, 1) := by decide +kernel
theorem dX12_write_74 : decode cX12_write 74 = .ok (.putfield 224, 3) := by decide +kernel
theorem dX12_write_77 : decode cX12_write 77 = .ok (.aload_n 0, 1) := by decide +kernel
theorem dX12_write_78 : decode cX12_write 78 = .ok (.getfield 224, 3) := by decide +kernel
theorem dX12_write_81 : decode cX12_write 81 = .ok (.ireturn, 1) := by decide +kernel
theorem dX12_erase_0 : decode cX12_erase 0 = .ok (.aload_n 0, 1) := by decide +kernel
theorem dX12_erase_1 : decode cX12_erase 1 = .ok (.getfield 224, 3) := by decide +kernel
theorem dX12_erase_4 : decode cX12_erase 4 = .ok (.istore_n 1, 1) := by decide +kernel
theorem dX12_erase_5 : decode cX12_erase 5 = .ok (.aload_n 0, 1) := by decide +kernel
theorem dX12_erase_6 : decode cX12_erase 6 = .ok (.iconst 0, 1) := by decide +kernel
theorem dX12_erase_7 : decode cX12_erase 7 = .ok (.putfield 224, 3) := by decide +kernel
theorem dX12_erase_10 : decode cX12_erase 10 = .ok (.iload_n 1, 1) := by decide +kernel
theorem dX12_erase_11 : decode cX12_erase 11 = .ok (.ireturn, 1) := by decide +kernel
theorem dX12_nextToken_0 : decode cX12_nextToken 0 = .ok (.aload_n 0, 1) := by decide +kernel
theorem dX12_nextToken_1 : decode cX12_nextToken 1 = .ok (.getfield 229, 3) := by decide +kernel
theorem dX12_nextToken_4 : decode cX12_nextToken 4 = .ok (.aload_n 0, 1) := by decide +kernel
theorem dX12_nextToken_5 : decode cX12_nextToken 5 = .ok (.getfield 224, 3) := by decide +kernel
theorem dX12_nextToken_8 : decode cX12_nextToken 8 = .ok (.if_icmp .ge 30, 3) := by decide +kernel
theorem dX12_nextToken_11 : decode cX12_nextToken 11 = .ok (.aload_n 0, 1) := by decide +kernel
theorem dX12_nextToken_12 : decode cX12_nextToken 12 = .ok (.getfield 51, 3) := by decide +kernel
theorem dX12_nextToken_15 : decode cX12_nextToken 15 = .ok (.aload_n 0, 1) := by decide +kernel
theorem dX12_nextToken_16 : decode cX12_nextToken 16 = .ok (.getfield 229, 3) := by decide +kernel
theorem dX12_nextToken_19 : decode cX12_nextToken 19 = .ok (.iaload, 1) := by decide +kernel
theorem dX12_nextToken_20 : decode cX12_nextToken 20 = .ok (.bipush 32, 2) := by decide +kernel
theorem dX12_nextToken_22 : decode cX12_nextToken 22 = .ok (.if_icmp .ne 16, 3) := by decide +kernel
theorem dX12_nextToken_25 : decode cX12_nextToken 25 = .ok (.aload_n 0, 1) := by decide +kernel
theorem dX12_nextToken_26 : decode cX12_nextToken 26 = .ok (.dup, 1) := by decide +kernel
theorem dX12_nextToken_27 : decode cX12_nextToken 27 = .ok (.getfield 229, 3) := by decide +kernel
theorem dX12_nextToken_30 : decode cX12_nextToken 30 = .ok (.iconst 1, 1) := by decide +kernel
theorem dX12_nextToken_31 : decode cX12_nextToken 31 = .ok (.iadd, 1) := by decide +kernel
theorem dX12_nextToken_32 : decode cX12_nextToken 32 = .ok (.putfield 229, 3) := by decide +kernel
theorem dX12_nextToken_35 : decode cX12_nextToken 35 = .ok (.goto (-35), 3) := by decide +kernel
theorem dX12_nextToken_38 : decode cX12_nextToken 38 = .ok (.aload_n 0, 1) := by decide +kernel
theorem dX12_nextToken_39 : decode cX12_nextToken 39 = .ok (.aload_n 0, 1) := by decide +kernel
theorem dX12_nextToken_40 : decode cX12_nextToken 40 = .ok (.getfield 229, 3) := by decide +kernel
theorem dX12_nextToken_43 : decode cX12_nextToken 43 = .ok (.putfield 232, 3) := by decide +kernel
theorem dX12_nextToken_46 : decode cX12_nextToken 46 = .ok (.aload_n 0, 1) := by decide +kernel
theorem dX12_nextToken_47 : decode cX12_nextToken 47 = .ok (.iconst 0, 1) := by decide +kernel
theorem dX12_nextToken_48 : decode cX12_nextToken 48 = .ok (.putfield 235, 3) := by decide +kernel
theorem dX12_nextToken_51 : decode cX12_nextToken 51 = .ok (.aload_n 0, 1) := by decide +kernel
theorem dX12_nextToken_52 : decode cX12_nextToken 52 = .ok (.iconst 0, 1) := by decide +kernel
theorem dX12_nextToken_53 : decode cX12_nextToken 53 = .ok (.putfield 238, 3) := by decide +kernel
theorem dX12_nextToken_56 : decode cX12_nextToken 56 = .ok (.aload_n 0, 1) := by decide +kernel
theorem dX12_nextToken_57 : decode cX12_nextToken 57 = .ok (.getfield 229, 3) := by decide +kernel
theorem dX12_nextToken_60 : decode cX12_nextToken 60 = .ok (.aload_n 0, 1) := by decide +kernel
theorem dX12_nextToken_61 : decode cX12_nextToken 61 = .ok (.getfield 224, 3) := by decide +kernel
theorem dX12_nextToken_64 : decode cX12_nextToken 64 = .ok (.if_icmp .ne 13, 3) := by decide +kernel
theorem dX12_nextToken_67 : decode cX12_nextToken 67 = .ok (.aload_n 0, 1) := by decide +kernel
theorem dX12_nextToken_68 : decode cX12_nextToken 68 = .ok (.ldc2_w 241, 3) := by decide +kernel
theorem dX12_nextToken_71 : decode cX12_nextToken 71 = .ok (.putfield 243, 3) := by decide +kernel
theorem dX12_nextToken_74 : decode cX12_nextToken 74 = .ok (.goto 320, 3) := by decide +kernel
theorem dX12_nextToken_77 : decode cX12_nextToken 77 = .ok (.aload_n 0, 1) := by decide +kernel
theorem dX12_nextToken_78 : decode cX12_nextToken 78 = .ok (.getfield 51, 3) := by decide +kernel
theorem dX12_nextToken_81 : decode cX12_nextToken 81 = .ok (.aload_n 0, 1) := by decide +kernel
theorem dX12_nextToken_82 : decode cX12_nextToken 82 = .ok (.getfield 229, 3) := by decide +kernel
theorem dX12_nextToken_85 : decode cX12_nextToken 85 = .ok (.iaload, 1) := by decide +kernel
theorem dX12_nextToken_86 : decode cX12_nextToken 86 = .ok (.bipush 97, 2) := by decide +kernel
theorem dX12_nextToken_88 : decode cX12_nextToken 88 = .ok (.bipush 122, 2) := by decide +kernel
theorem dX12_nextToken_90 : decode cX12_nextToken 90 = .ok (.invokestatic 123, 3) := by decide +kernel
theorem dX12_nextToken_93 : decode cX12_nextToken 93 = .ok (.ifCond .eq 129, 3) := by decide +kernel
theorem dX12_nextToken_96 : decode cX12_nextToken 96 = .ok (.aload_n 0, 1) := by decide +kernel
theorem dX12_nextToken_97 : decode cX12_nextToken 97 = .ok (.lconst 0, 1) := by decide +kernel
theorem dX12_nextToken_98 : decode cX12_nextToken 98 = .ok (.putfield 243, 3) := by decide +kernel
theorem dX12_nextToken_101 : decode cX12_nextToken 101 = .ok (.aload_n 0, 1) := by decide +kernel
theorem dX12_nextToken_102 : decode cX12_nextToken 102 = .ok (.getfield 229, 3) := by decide +kernel
theorem dX12_nextToken_105 : decode cX12_nextToken 105 = .ok (.aload_n 0, 1) := by decide +kernel
theorem dX12_nextToken_106 : decode cX12_nextToken 106 = .ok (.getfield 224, 3) := by decide +kernel
theorem dX12_nextToken_109 : decode cX12_nextToken 109 = .ok (.if_icmp .ge 82, 3) := by decide +kernel
theorem dX12_nextToken_112 : decode cX12_nextToken 112 = .ok (.aload_n 0, 1) := by decide +kernel
theorem dX12_nextToken_113 : decode cX12_nextToken 113 = .ok (.getfield 51, 3) := by decide +kernel
theorem dX12_nextToken_116 : decode cX12_nextToken 116 = .ok (.aload_n 0, 1) := by decide +kernel
theorem dX12_nextToken_117 : decode cX12_nextToken 117 = .ok (.getfield 229, 3) := by decide +kernel
theorem dX12_nextToken_120 : decode cX12_nextToken 120 = .ok (.iaload, 1) := by decide +kernel
theorem dX12_nextToken_121 : decode cX12_nextToken 121 = .ok (.bipush 97, 2) := by decide +kernel
theorem dX12_nextToken_123 : decode cX12_nextToken 123 = .ok (.bipush 122, 2) := by decide +kernel
theorem dX12_nextToken_125 : decode cX12_nextToken 125 = .ok (.invokestatic 123, 3) := by decide +kernel
theorem dX12_nextToken_128 : decode cX12_nextToken 128 = .ok (.ifCond .eq 63, 3) := by decide +kernel
theorem dX12_nextToken_131 : decode cX12_nextToken 131 = .ok (.aload_n 0, 1) := by decide +kernel
theorem dX12_nextToken_132 : decode cX12_nextToken 132 = .ok (.aload_n 0, 1) := by decide +kernel
theorem dX12_nextToken_133 : decode cX12_nextToken 133 = .ok (.getfield 229, 3) := by decide +kernel
theorem dX12_nextToken_136 : decode cX12_nextToken 136 = .ok (.aload_n 0, 1) := by decide +kernel
theorem dX12_nextToken_137 : decode cX12_nextToken 137 = .ok (.getfield 232, 3) := by decide +kernel
theorem dX12_nextToken_140 : decode cX12_nextToken 140 = .ok (.isub, 1) := by decide +kernel
theorem dX12_nextToken_141 : decode cX12_nextToken 141 = .ok (.bipush 9, 2) := by decide +kernel
theorem dX12_nextToken_143 : decode cX12_nextToken 143 = .ok (.if_icmp .ge 29, 3) := by decide +kernel
theorem dX12_nextToken_146 : decode cX12_nextToken 146 = .ok (.ldc2_w 247, 3) := by decide +kernel
theorem dX12_nextToken_149 : decode cX12_nextToken 149 = .ok (.aload_n 0, 1) := by decide +kernel
theorem dX12_nextToken_150 : decode cX12_nextToken 150 = .ok (.getfield 243, 3) := by decide +kernel
theorem dX12_nextToken_153 : decode cX12_nextToken 153 = .ok (.lmul, 1) := by decide +kernel
theorem dX12_nextToken_154 : decode cX12_nextToken 154 = .ok (.aload_n 0, 1) := by decide +kernel
theorem dX12_nextToken_155 : decode cX12_nextToken 155 = .ok (.getfield 51, 3) := by decide +kernel
theorem dX12_nextToken_158 : decode cX12_nextToken 158 = .ok (.aload_n 0, 1) := by decide +kernel
theorem dX12_nextToken_159 : decode cX12_nextToken 159 = .ok (.getfield 229, 3) := by decide +kernel
theorem dX12_nextToken_162 : decode cX12_nextToken 162 = .ok (.iaload, 1) := by decide +kernel
theorem dX12_nextToken_163 : decode cX12_nextToken 163 = .ok (.i2l, 1) := by decide +kernel
theorem dX12_nextToken_164 : decode cX12_nextToken 164 = .ok (.ladd, 1) := by decide +kernel
theorem dX12_nextToken_165 : decode cX12_nextToken 165 = .ok (.ldc2_w 249, 3) := by decide +kernel
theorem dX12_nextToken_168 : decode cX12_nextToken 168 = .ok (.lsub, 1) := by decide +kernel
theorem dX12_nextToken_169 : decode cX12_nextToken 169 = .ok (.goto 6, 3) := by decide +kernel
theorem dX12_nextToken_172 : decode cX12_nextToken 172 = .ok (.ldc2_w 251, 3) := by decide +kernel
theorem dX12_nextToken_175 : decode cX12_nextToken 175 = .ok (.putfield 243, 3) := by decide +kernel
theorem dX12_nextToken_178 : decode cX12_nextToken 178 = .ok (.aload_n 0, 1) := by decide +kernel
theorem dX12_nextToken_179 : decode cX12_nextToken 179 = .ok (.dup, 1) := by decide +kernel
theorem dX12_nextToken_180 : decode cX12_nextToken 180 = .ok (.getfield 229, 3) := by decide +kernel
theorem dX12_nextToken_183 : decode cX12_nextToken 183 = .ok (.iconst 1, 1) := by decide +kernel
theorem dX12_nextToken_184 : decode cX12_nextToken 184 = .ok (.iadd, 1) := by decide +kernel
theorem dX12_nextToken_185 : decode cX12_nextToken 185 = .ok (.putfield 229, 3) := by decide +kernel
theorem dX12_nextToken_188 : decode cX12_nextToken 188 = .ok (.goto (-87), 3) := by decide +kernel
theorem dX12_nextToken_191 : decode cX12_nextToken 191 = .ok (.aload_n 0, 1) := by decide +kernel
theorem dX12_nextToken_192 : decode cX12_nextToken 192 = .ok (.aload_n 0, 1) := by decide +kernel
theorem dX12_nextToken_193 : decode cX12_nextToken 193 = .ok (.getfield 229, 3) := by decide +kernel
theorem dX12_nextToken_196 : decode cX12_nextToken 196 = .ok (.aload_n 0, 1) := by decide +kernel
theorem dX12_nextToken_197 : decode cX12_nextToken 197 = .ok (.getfield 232, 3) := by decide +kernel
theorem dX12_nextToken_200 : decode cX12_nextToken 200 = .ok (.isub, 1) := by decide +kernel
theorem dX12_nextToken_201 : decode cX12_nextToken 201 = .ok (.bipush 9, 2) := by decide +kernel
theorem dX12_nextToken_203 : decode cX12_nextToken 203 = .ok (.if_icmp .le 9, 3) := by decide +kernel
theorem dX12_nextToken_206 : decode cX12_nextToken 206 = .ok (.ldc2_w 251, 3) := by decide +kernel
theorem dX12_nextToken_209 : decode cX12_nextToken 209 = .ok (.goto 7, 3) := by decide +kernel
theorem dX12_nextToken_212 : decode cX12_nextToken 212 = .ok (.aload_n 0, 1) := by decide +kernel
theorem dX12_nextToken_213 : decode cX12_nextToken 213 = .ok (.getfield 243, 3) := by decide +kernel
theorem dX12_nextToken_216 : decode cX12_nextToken 216 = .ok (.putfield 243, 3) := by decide +kernel
theorem dX12_nextToken_219 : decode cX12_nextToken 219 = .ok (.goto 175, 3) := by decide +kernel
theorem dX12_nextToken_222 : decode cX12_nextToken 222 = .ok (.aload_n 0, 1) := by decide +kernel
theorem dX12_nextToken_223 : decode cX12_nextToken 223 = .ok (.getfield 51, 3) := by decide +kernel
theorem dX12_nextToken_226 : decode cX12_nextToken 226 = .ok (.aload_n 0, 1) := by decide +kernel
theorem dX12_nextToken_227 : decode cX12_nextToken 227 = .ok (.getfield 229, 3) := by decide +kernel
theorem dX12_nextToken_230 : decode cX12_nextToken 230 = .ok (.iaload, 1) := by decide +kernel
theorem dX12_nextToken_231 : decode cX12_nextToken 231 = .ok (.bipush 48, 2) := by decide +kernel
theorem dX12_nextToken_233 : decode cX12_nextToken 233 = .ok (.bipush 57, 2) := by decide +kernel
theorem dX12_nextToken_235 : decode cX12_nextToken 235 = .ok (.invokestatic 123, 3) := by decide +kernel
theorem dX12_nextToken_238 : decode cX12_nextToken 238 = .ok (.ifCond .eq 119, 3) := by decide +kernel
theorem dX12_nextToken_241 : decode cX12_nextToken 241 = .ok (.aload_n 0, 1) := by decide +kernel
theorem dX12_nextToken_242 : decode cX12_nextToken 242 = .ok (.getfield 229, 3) := by decide +kernel
theorem dX12_nextToken_245 : decode cX12_nextToken 245 = .ok (.aload_n 0, 1) := by decide +kernel
theorem dX12_nextToken_246 : decode cX12_nextToken 246 = .ok (.getfield 224, 3) := by decide +kernel
theorem dX12_nextToken_249 : decode cX12_nextToken 249 = .ok (.if_icmp .ge 84, 3) := by decide +kernel
theorem dX12_nextToken_252 : decode cX12_nextToken 252 = .ok (.aload_n 0, 1) := by decide +kernel
theorem dX12_nextToken_253 : decode cX12_nextToken 253 = .ok (.getfield 51, 3) := by decide +kernel
theorem dX12_nextToken_256 : decode cX12_nextToken 256 = .ok (.aload_n 0, 1) := by decide +kernel
theorem dX12_nextToken_257 : decode cX12_nextToken 257 = .ok (.getfield 229, 3) := by decide +kernel
theorem dX12_nextToken_260 : decode cX12_nextToken 260 = .ok (.iaload, 1) := by decide +kernel
theorem dX12_nextToken_261 : decode cX12_nextToken 261 = .ok (.bipush 48, 2) := by decide +kernel
theorem dX12_nextToken_263 : decode cX12_nextToken 263 = .ok (.bipush 57, 2) := by decide +kernel
theorem dX12_nextToken_265 : decode cX12_nextToken 265 = .ok (.invokestatic 123, 3) := by decide +kernel
theorem dX12_nextToken_268 : decode cX12_nextToken 268 = .ok (.ifCond .eq 65, 3) := by decide +kernel
theorem dX12_nextToken_271 : decode cX12_nextToken 271 = .ok (.aload_n 0, 1) := by decide +kernel
theorem dX12_nextToken_272 : decode cX12_nextToken 272 = .ok (.aload_n 0, 1) := by decide +kernel
theorem dX12_nextToken_273 : decode cX12_nextToken 273 = .ok (.getfield 235, 3) := by decide +kernel
theorem dX12_nextToken_276 : decode cX12_nextToken 276 = .ok (.iconst 2, 1) := by decide +kernel
theorem dX12_nextToken_277 : decode cX12_nextToken 277 = .ok (.if_icmp .ge 26, 3) := by decide +kernel
theorem dX12_nextToken_280 : decode cX12_nextToken 280 = .ok (.bipush 10, 2) := by decide +kernel
theorem dX12_nextToken_282 : decode cX12_nextToken 282 = .ok (.aload_n 0, 1) := by decide +kernel
theorem dX12_nextToken_283 : decode cX12_nextToken 283 = .ok (.getfield 238, 3) := by decide +kernel
theorem dX12_nextToken_286 : decode cX12_nextToken 286 = .ok (.imul, 1) := by decide +kernel
theorem dX12_nextToken_287 : decode cX12_nextToken 287 = .ok (.aload_n 0, 1) := by decide +kernel
theorem dX12_nextToken_288 : decode cX12_nextToken 288 = .ok (.getfield 51, 3) := by decide +kernel
theorem dX12_nextToken_291 : decode cX12_nextToken 291 = .ok (.aload_n 0, 1) := by decide +kernel
theorem dX12_nextToken_292 : decode cX12_nextToken 292 = .ok (.getfield 229, 3) := by decide +kernel
theorem dX12_nextToken_295 : decode cX12_nextToken 295 = .ok (.iaload, 1) := by decide +kernel
theorem dX12_nextToken_296 : decode cX12_nextToken 296 = .ok (.iadd, 1) := by decide +kernel
theorem dX12_nextToken_297 : decode cX12_nextToken 297 = .ok (.bipush 48, 2) := by decide +kernel
theorem dX12_nextToken_299 : decode cX12_nextToken 299 = .ok (.isub, 1) := by decide +kernel
theorem dX12_nextToken_300 : decode cX12_nextToken 300 = .ok (.goto 7, 3) := by decide +kernel
theorem dX12_nextToken_303 : decode cX12_nextToken 303 = .ok (.aload_n 0, 1) := by decide +kernel
theorem dX12_nextToken_304 : decode cX12_nextToken 304 = .ok (.getfield 238, 3) := by decide +kernel
theorem dX12_nextToken_307 : decode cX12_nextToken 307 = .ok (.putfield 238, 3) := by decide +kernel
theorem dX12_nextToken_310 : decode cX12_nextToken 310 = .ok (.aload_n 0, 1) := by decide +kernel
theorem dX12_nextToken_311 : decode cX12_nextToken 311 = .ok (.dup, 1) := by decide +kernel
theorem dX12_nextToken_312 : decode cX12_nextToken 312 = .ok (.getfield 235, 3) := by decide +kernel
theorem dX12_nextToken_315 : decode cX12_nextToken 315 = .ok (.iconst 1, 1) := by decide +kernel
theorem dX12_nextToken_316 : decode cX12_nextToken 316 = .ok (.iadd, 1) := by decide +kernel
theorem dX12_nextToken_317 : decode cX12_nextToken 317 = .ok (.putfield 235, 3) := by decide +kernel
theorem dX12_nextToken_320 : decode cX12_nextToken 320 = .ok (.aload_n 0, 1) := by decide +kernel
theorem dX12_nextToken_321 : decode cX12_nextToken 321 = .ok (.dup, 1) := by decide +kernel
theorem dX12_nextToken_322 : decode cX12_nextToken 322 = .ok (.getfield 229, 3) := by decide +kernel
theorem dX12_nextToken_325 : decode cX12_nextToken 325 = .ok (.iconst 1, 1) := by decide +kernel
theorem dX12_nextToken_326 : decode cX12_nextToken 326 = .ok (.iadd, 1) := by decide +kernel
theorem dX12_nextToken_327 : decode cX12_nextToken 327 = .ok (.putfield 229, 3) := by decide +kernel
theorem dX12_nextToken_330 : decode cX12_nextToken 330 = .ok (.goto (-89), 3) := by decide +kernel
theorem dX12_nextToken_333 : decode cX12_nextToken 333 = .ok (.aload_n 0, 1) := by decide +kernel
theorem dX12_nextToken_334 : decode cX12_nextToken 334 = .ok (.aload_n 0, 1) := by decide +kernel
theorem dX12_nextToken_335 : decode cX12_nextToken 335 = .ok (.getfield 235, 3) := by decide +kernel
theorem dX12_nextToken_338 : decode cX12_nextToken 338 = .ok (.iconst 2, 1) := by decide +kernel
theorem dX12_nextToken_339 : decode cX12_nextToken 339 = .ok (.if_icmp .le 9, 3) := by decide +kernel
theorem dX12_nextToken_342 : decode cX12_nextToken 342 = .ok (.ldc2_w 251, 3) := by decide +kernel
theorem dX12_nextToken_345 : decode cX12_nextToken 345 = .ok (.goto 6, 3) := by decide +kernel
theorem dX12_nextToken_348 : decode cX12_nextToken 348 = .ok (.ldc2_w 253, 3) := by decide +kernel
theorem dX12_nextToken_351 : decode cX12_nextToken 351 = .ok (.putfield 243, 3) := by decide +kernel
theorem dX12_nextToken_354 : decode cX12_nextToken 354 = .ok (.goto 40, 3) := by decide +kernel
theorem dX12_nextToken_357 : decode cX12_nextToken 357 = .ok (.aload_n 0, 1) := by decide +kernel
theorem dX12_nextToken_358 : decode cX12_nextToken 358 = .ok (.aload_n 0, 1) := by decide +kernel
theorem dX12_nextToken_359 : decode cX12_nextToken 359 = .ok (.getfield 51, 3) := by decide +kernel
theorem dX12_nextToken_362 : decode cX12_nextToken 362 = .ok (.aload_n 0, 1) := by decide +kernel
theorem dX12_nextToken_363 : decode cX12_nextToken 363 = .ok (.getfield 229, 3) := by decide +kernel
theorem dX12_nextToken_366 : decode cX12_nextToken 366 = .ok (.iaload, 1) := by decide +kernel
theorem dX12_nextToken_367 : decode cX12_nextToken 367 = .ok (.bipush 59, 2) := by decide +kernel
theorem dX12_nextToken_369 : decode cX12_nextToken 369 = .ok (.if_icmp .ne 9, 3) := by decide +kernel
theorem dX12_nextToken_372 : decode cX12_nextToken 372 = .ok (.ldc2_w 255, 3) := by decide +kernel
theorem dX12_nextToken_375 : decode cX12_nextToken 375 = .ok (.goto 6, 3) := by decide +kernel
theorem dX12_nextToken_378 : decode cX12_nextToken 378 = .ok (.ldc2_w 251, 3) := by decide +kernel
theorem dX12_nextToken_381 : decode cX12_nextToken 381 = .ok (.putfield 243, 3) := by decide +kernel
theorem dX12_nextToken_384 : decode cX12_nextToken 384 = .ok (.aload_n 0, 1) := by decide +kernel
theorem dX12_nextToken_385 : decode cX12_nextToken 385 = .ok (.dup, 1) := by decide +kernel
theorem dX12_nextToken_386 : decode cX12_nextToken 386 = .ok (.getfield 229, 3) := by decide +kernel
theorem dX12_nextToken_389 : decode cX12_nextToken 389 = .ok (.iconst 1, 1) := by decide +kernel
theorem dX12_nextToken_390 : decode cX12_nextToken 390 = .ok (.iadd, 1) := by decide +kernel
theorem dX12_nextToken_391 : decode cX12_nextToken 391 = .ok (.putfield 229, 3) := by decide +kernel
theorem dX12_nextToken_394 : decode cX12_nextToken 394 = .ok (.return_, 1) := by decide +kernel
theorem dX12_fails_0 : decode cX12_fails 0 = .ok (.aload_n 0, 1) := by decide +kernel
theorem dX12_fails_1 : decode cX12_fails 1 = .ok (.aload_n 0, 1) := by decide +kernel
theorem dX12_fails_2 : decode cX12_fails 2 = .ok (.getfield 232, 3) := by decide +kernel
theorem dX12_fails_5 : decode cX12_fails 5 = .ok (.putfield 257, 3) := by decide +kernel
theorem dX12_fails_8 : decode cX12_fails 8 = .ok (.iconst 0, 1) := by decide +kernel
theorem dX12_fails_9 : decode cX12_fails 9 = .ok (.ireturn, 1) := by decide +kernel
theorem dX12_isNumber_0 : decode cX12_isNumber 0 = .ok (.aload_n 0, 1) := by decide +kernel
theorem dX12_isNumber_1 : decode cX12_isNumber 1 = .ok (.invokevirtual 260, 3) := by decide +kernel
theorem dX12_isNumber_4 : decode cX12_isNumber 4 = .ok (.aload_n 0, 1) := by decide +kernel
theorem dX12_isNumber_5 : decode cX12_isNumber 5 = .ok (.getfield 243, 3) := by decide +kernel
theorem dX12_isNumber_8 : decode cX12_isNumber 8 = .ok (.ldc2_w 253, 3) := by decide +kernel
theorem dX12_isNumber_11 : decode cX12_isNumber 11 = .ok (.lcmp, 1) := by decide +kernel
theorem dX12_isNumber_12 : decode cX12_isNumber 12 = .ok (.ifCond .ne 15, 3) := by decide +kernel
theorem dX12_isNumber_15 : decode cX12_isNumber 15 = .ok (.aload_n 0, 1) := by decide +kernel
theorem dX12_isNumber_16 : decode cX12_isNumber 16 = .ok (.getfield 238, 3) := by decide +kernel
theorem dX12_isNumber_19 : decode cX12_isNumber 19 = .ok (.iconst 0, 1) := by decide +kernel
theorem dX12_isNumber_20 : decode cX12_isNumber 20 = .ok (.iload_n 2, 1) := by decide +kernel
theorem dX12_isNumber_21 : decode cX12_isNumber 21 = .ok (.invokestatic 123, 3) := by decide +kernel
theorem dX12_isNumber_24 : decode cX12_isNumber 24 = .ok (.ifCond .ne 8, 3) := by decide +kernel
theorem dX12_isNumber_27 : decode cX12_isNumber 27 = .ok (.aload_n 0, 1) := by decide +kernel
theorem dX12_isNumber_28 : decode cX12_isNumber 28 = .ok (.invokevirtual 263, 3) := by decide +kernel
theorem dX12_isNumber_31 : decode cX12_isNumber 31 = .ok (.ireturn, 1) := by decide +kernel
theorem dX12_isNumber_32 : decode cX12_isNumber 32 = .ok (.aload_n 0, 1) := by decide +kernel
theorem dX12_isNumber_33 : decode cX12_isNumber 33 = .ok (.getfield 57, 3) := by decide +kernel
theorem dX12_isNumber_36 : decode cX12_isNumber 36 = .ok (.iload_n 1, 1) := by decide +kernel
theorem dX12_isNumber_37 : decode cX12_isNumber 37 = .ok (.aload_n 0, 1) := by decide +kernel
theorem dX12_isNumber_38 : decode cX12_isNumber 38 = .ok (.getfield 238, 3) := by decide +kernel
theorem dX12_isNumber_41 : decode cX12_isNumber 41 = .ok (.iastore, 1) := by decide +kernel
theorem dX12_isNumber_42 : decode cX12_isNumber 42 = .ok (.iconst 1, 1) := by decide +kernel
theorem dX12_isNumber_43 : decode cX12_isNumber 43 = .ok (.ireturn, 1) := by decide +kernel
theorem dX12_isKind_0 : decode cX12_isKind 0 = .ok (.aload_n 0, 1) := by decide +kernel
theorem dX12_isKind_1 : decode cX12_isKind 1 = .ok (.invokevirtual 260, 3) := by decide +kernel
theorem dX12_isKind_4 : decode cX12_isKind 4 = .ok (.aload_n 0, 1) := by decide +kernel
theorem dX12_isKind_5 : decode cX12_isKind 5 = .ok (.getfield 243, 3) := by decide +kernel
theorem dX12_isKind_8 : decode cX12_isKind 8 = .ok (.ldc2_w 267, 3) := by decide +kernel
theorem dX12_isKind_11 : decode cX12_isKind 11 = .ok (.lcmp, 1) := by decide +kernel
theorem dX12_isKind_12 : decode cX12_isKind 12 = .ok (.ifCond .ne 7, 3) := by decide +kernel
theorem dX12_isKind_15 : decode cX12_isKind 15 = .ok (.iconst 0, 1) := by decide +kernel
theorem dX12_isKind_16 : decode cX12_isKind 16 = .ok (.goto 64, 3) := by decide +kernel
theorem dX12_isKind_19 : decode cX12_isKind 19 = .ok (.aload_n 0, 1) := by decide +kernel
theorem dX12_isKind_20 : decode cX12_isKind 20 = .ok (.getfield 243, 3) := by decide +kernel
theorem dX12_isKind_23 : decode cX12_isKind 23 = .ok (.ldc2_w 269, 3) := by decide +kernel
theorem dX12_isKind_26 : decode cX12_isKind 26 = .ok (.lcmp, 1) := by decide +kernel
theorem dX12_isKind_27 : decode cX12_isKind 27 = .ok (.ifCond .ne 7, 3) := by decide +kernel
theorem dX12_isKind_30 : decode cX12_isKind 30 = .ok (.iconst 1, 1) := by decide +kernel
theorem dX12_isKind_31 : decode cX12_isKind 31 = .ok (.goto 49, 3) := by decide +kernel
theorem dX12_isKind_34 : decode cX12_isKind 34 = .ok (.aload_n 0, 1) := by decide +kernel
theorem dX12_isKind_35 : decode cX12_isKind 35 = .ok (.getfield 243, 3) := by decide +kernel
theorem dX12_isKind_38 : decode cX12_isKind 38 = .ok (.ldc2_w 271, 3) := by decide +kernel
theorem dX12_isKind_41 : decode cX12_isKind 41 = .ok (.lcmp, 1) := by decide +kernel
theorem dX12_isKind_42 : decode cX12_isKind 42 = .ok (.ifCond .ne 7, 3) := by decide +kernel
theorem dX12_isKind_45 : decode cX12_isKind 45 = .ok (.iconst 2, 1) := by decide +kernel
theorem dX12_isKind_46 : decode cX12_isKind 46 = .ok (.goto 34, 3) := by decide +kernel
theorem dX12_isKind_49 : decode cX12_isKind 49 = .ok (.aload_n 0, 1) := by decide +kernel
theorem dX12_isKind_50 : decode cX12_isKind 50 = .ok (.getfield 243, 3) := by decide +kernel
theorem dX12_isKind_53 : decode cX12_isKind 53 = .ok (.ldc2_w 273, 3) := by decide +kernel
theorem dX12_isKind_56 : decode cX12_isKind 56 = .ok (.lcmp, 1) := by decide +kernel
theorem dX12_isKind_57 : decode cX12_isKind 57 = .ok (.ifCond .ne 7, 3) := by decide +kernel
theorem dX12_isKind_60 : decode cX12_isKind 60 = .ok (.iconst 3, 1) := by decide +kernel
theorem dX12_isKind_61 : decode cX12_isKind 61 = .ok (.goto 19, 3) := by decide +kernel
theorem dX12_isKind_64 : decode cX12_isKind 64 = .ok (.aload_n 0, 1) := by decide +kernel
theorem dX12_isKind_65 : decode cX12_isKind 65 = .ok (.getfield 243, 3) := by decide +kernel
theorem dX12_isKind_68 : decode cX12_isKind 68 = .ok (.ldc2_w 275, 3) := by decide +kernel
theorem dX12_isKind_71 : decode cX12_isKind 71 = .ok (.lcmp, 1) := by decide +kernel
theorem dX12_isKind_72 : decode cX12_isKind 72 = .ok (.ifCond .ne 7, 3) := by decide +kernel
theorem dX12_isKind_75 : decode cX12_isKind 75 = .ok (.iconst 4, 1) := by decide +kernel
theorem dX12_isKind_76 : decode cX12_isKind 76 = .ok (.goto 4, 3) := by decide +kernel
theorem dX12_isKind_79 : decode cX12_isKind 79 = .ok (.iconst (-1), 1) := by decide +kernel
theorem dX12_isKind_80 : decode cX12_isKind 80 = .ok (.istore_n 2, 1) := by decide +kernel
theorem dX12_isKind_81 : decode cX12_isKind 81 = .ok (.aload_n 0, 1) := by decide +kernel
theorem dX12_isKind_82 : decode cX12_isKind 82 = .ok (.getfield 57, 3) := by decide +kernel
theorem dX12_isKind_85 : decode cX12_isKind 85 = .ok (.iload_n 1, 1) := by decide +kernel
theorem dX12_isKind_86 : decode cX12_isKind 86 = .ok (.iload_n 2, 1) := by decide +kernel
theorem dX12_isKind_87 : decode cX12_isKind 87 = .ok (.iastore, 1) := by decide +kernel
theorem dX12_isKind_88 : decode cX12_isKind 88 = .ok (.iload_n 2, 1) := by decide +kernel
theorem dX12_isKind_89 : decode cX12_isKind 89 = .ok (.iconst (-1), 1) := by decide +kernel
theorem dX12_isKind_90 : decode cX12_isKind 90 = .ok (.if_icmp .ne 10, 3) := by decide +kernel
theorem dX12_isKind_93 : decode cX12_isKind 93 = .ok (.aload_n 0, 1) := by decide +kernel
theorem dX12_isKind_94 : decode cX12_isKind 94 = .ok (.invokevirtual 263, 3) := by decide +kernel
theorem dX12_isKind_97 : decode cX12_isKind 97 = .ok (.ifCond .eq 7, 3) := by decide +kernel
theorem dX12_isKind_100 : decode cX12_isKind 100 = .ok (.iconst 1, 1) := by decide +kernel
theorem dX12_isKind_101 : decode cX12_isKind 101 = .ok (.goto 4, 3) := by decide +kernel
theorem dX12_isKind_104 : decode cX12_isKind 104 = .ok (.iconst 0, 1) := by decide +kernel
theorem dX12_isKind_105 : decode cX12_isKind 105 = .ok (.ireturn, 1) := by decide +kernel
theorem dX12_isWord_0 : decode cX12_isWord 0 = .ok (.aload_n 0, 1) := by decide +kernel
theorem dX12_isWord_1 : decode cX12_isWord 1 = .ok (.invokevirtual 260, 3) := by decide +kernel
theorem dX12_isWord_4 : decode cX12_isWord 4 = .ok (.aload_n 0, 1) := by decide +kernel
theorem dX12_isWord_5 : decode cX12_isWord 5 = .ok (.getfield 243, 3) := by decide +kernel
theorem dX12_isWord_8 : decode cX12_isWord 8 = .ok (.lload_n 1, 1) := by decide +kernel
theorem dX12_isWord_9 : decode cX12_isWord 9 = .ok (.lcmp, 1) := by decide +kernel
theorem dX12_isWord_10 : decode cX12_isWord 10 = .ok (.ifCond .eq 10, 3) := by decide +kernel
theorem dX12_isWord_13 : decode cX12_isWord 13 = .ok (.aload_n 0, 1) := by decide +kernel
theorem dX12_isWord_14 : decode cX12_isWord 14 = .ok (.invokevirtual 263, 3) := by decide +kernel
theorem dX12_isWord_17 : decode cX12_isWord 17 = .ok (.ifCond .eq 7, 3) := by decide +kernel
theorem dX12_isWord_20 : decode cX12_isWord 20 = .ok (.iconst 1, 1) := by decide +kernel
theorem dX12_isWord_21 : decode cX12_isWord 21 = .ok (.goto 4, 3) := by decide +kernel
theorem dX12_isWord_24 : decode cX12_isWord 24 = .ok (.iconst 0, 1) := by decide +kernel
theorem dX12_isWord_25 : decode cX12_isWord 25 = .ok (.ireturn, 1) := by decide +kernel
theorem dX12_isLine_0 : decode cX12_isLine 0 = .ok (.aload_n 0, 1) := by decide +kernel
theorem dX12_isLine_1 : decode cX12_isLine 1 = .ok (.invokevirtual 260, 3) := by decide +kernel
theorem dX12_isLine_4 : decode cX12_isLine 4 = .ok (.aload_n 0, 1) := by decide +kernel
theorem dX12_isLine_5 : decode cX12_isLine 5 = .ok (.getfield 243, 3) := by decide +kernel
theorem dX12_isLine_8 : decode cX12_isLine 8 = .ok (.ldc2_w 277, 3) := by decide +kernel
theorem dX12_isLine_11 : decode cX12_isLine 11 = .ok (.lcmp, 1) := by decide +kernel
theorem dX12_isLine_12 : decode cX12_isLine 12 = .ok (.ifCond .ne 7, 3) := by decide +kernel
theorem dX12_isLine_15 : decode cX12_isLine 15 = .ok (.iconst 0, 1) := by decide +kernel
theorem dX12_isLine_16 : decode cX12_isLine 16 = .ok (.goto 79, 3) := by decide +kernel
theorem dX12_isLine_19 : decode cX12_isLine 19 = .ok (.aload_n 0, 1) := by decide +kernel
theorem dX12_isLine_20 : decode cX12_isLine 20 = .ok (.getfield 243, 3) := by decide +kernel
theorem dX12_isLine_23 : decode cX12_isLine 23 = .ok (.ldc2_w 279, 3) := by decide +kernel
theorem dX12_isLine_26 : decode cX12_isLine 26 = .ok (.lcmp, 1) := by decide +kernel
theorem dX12_isLine_27 : decode cX12_isLine 27 = .ok (.ifCond .ne 7, 3) := by decide +kernel
theorem dX12_isLine_30 : decode cX12_isLine 30 = .ok (.iconst 1, 1) := by decide +kernel
theorem dX12_isLine_31 : decode cX12_isLine 31 = .ok (.goto 64, 3) := by decide +kernel
theorem dX12_isLine_34 : decode cX12_isLine 34 = .ok (.aload_n 0, 1) := by decide +kernel
theorem dX12_isLine_35 : decode cX12_isLine 35 = .ok (.getfield 243, 3) := by decide +kernel
theorem dX12_isLine_38 : decode cX12_isLine 38 = .ok (.ldc2_w 281, 3) := by decide +kernel
theorem dX12_isLine_41 : decode cX12_isLine 41 = .ok (.lcmp, 1) := by decide +kernel
theorem dX12_isLine_42 : decode cX12_isLine 42 = .ok (.ifCond .ne 7, 3) := by decide +kernel
theorem dX12_isLine_45 : decode cX12_isLine 45 = .ok (.iconst 2, 1) := by decide +kernel
theorem dX12_isLine_46 : decode cX12_isLine 46 = .ok (.goto 49, 3) := by decide +kernel
theorem dX12_isLine_49 : decode cX12_isLine 49 = .ok (.aload_n 0, 1) := by decide +kernel
theorem dX12_isLine_50 : decode cX12_isLine 50 = .ok (.getfield 243, 3) := by decide +kernel
theorem dX12_isLine_53 : decode cX12_isLine 53 = .ok (.ldc2_w 283, 3) := by decide +kernel
theorem dX12_isLine_56 : decode cX12_isLine 56 = .ok (.lcmp, 1) := by decide +kernel
theorem dX12_isLine_57 : decode cX12_isLine 57 = .ok (.ifCond .ne 7, 3) := by decide +kernel
theorem dX12_isLine_60 : decode cX12_isLine 60 = .ok (.iconst 3, 1) := by decide +kernel
theorem dX12_isLine_61 : decode cX12_isLine 61 = .ok (.goto 34, 3) := by decide +kernel
theorem dX12_isLine_64 : decode cX12_isLine 64 = .ok (.aload_n 0, 1) := by decide +kernel
theorem dX12_isLine_65 : decode cX12_isLine 65 = .ok (.getfield 243, 3) := by decide +kernel
theorem dX12_isLine_68 : decode cX12_isLine 68 = .ok (.ldc2_w 285, 3) := by decide +kernel
theorem dX12_isLine_71 : decode cX12_isLine 71 = .ok (.lcmp, 1) := by decide +kernel
theorem dX12_isLine_72 : decode cX12_isLine 72 = .ok (.ifCond .ne 7, 3) := by decide +kernel
theorem dX12_isLine_75 : decode cX12_isLine 75 = .ok (.iconst 4, 1) := by decide +kernel
theorem dX12_isLine_76 : decode cX12_isLine 76 = .ok (.goto 19, 3) := by decide +kernel
theorem dX12_isLine_79 : decode cX12_isLine 79 = .ok (.aload_n 0, 1) := by decide +kernel
theorem dX12_isLine_80 : decode cX12_isLine 80 = .ok (.getfield 243, 3) := by decide +kernel
theorem dX12_isLine_83 : decode cX12_isLine 83 = .ok (.ldc2_w 287, 3) := by decide +kernel
theorem dX12_isLine_86 : decode cX12_isLine 86 = .ok (.lcmp, 1) := by decide +kernel
theorem dX12_isLine_87 : decode cX12_isLine 87 = .ok (.ifCond .ne 7, 3) := by decide +kernel
theorem dX12_isLine_90 : decode cX12_isLine 90 = .ok (.iconst 5, 1) := by decide +kernel
theorem dX12_isLine_91 : decode cX12_isLine 91 = .ok (.goto 4, 3) := by decide +kernel
theorem dX12_isLine_94 : decode cX12_isLine 94 = .ok (.iconst (-1), 1) := by decide +kernel
theorem dX12_isLine_95 : decode cX12_isLine 95 = .ok (.istore_n 2, 1) := by decide +kernel
theorem dX12_isLine_96 : decode cX12_isLine 96 = .ok (.aload_n 0, 1) := by decide +kernel
theorem dX12_isLine_97 : decode cX12_isLine 97 = .ok (.getfield 57, 3) := by decide +kernel
theorem dX12_isLine_100 : decode cX12_isLine 100 = .ok (.iload_n 1, 1) := by decide +kernel
theorem dX12_isLine_101 : decode cX12_isLine 101 = .ok (.iload_n 2, 1) := by decide +kernel
theorem dX12_isLine_102 : decode cX12_isLine 102 = .ok (.iastore, 1) := by decide +kernel
theorem dX12_isLine_103 : decode cX12_isLine 103 = .ok (.aload_n 0, 1) := by decide +kernel
theorem dX12_isLine_104 : decode cX12_isLine 104 = .ok (.getfield 57, 3) := by decide +kernel
theorem dX12_isLine_107 : decode cX12_isLine 107 = .ok (.iload_n 1, 1) := by decide +kernel
theorem dX12_isLine_108 : decode cX12_isLine 108 = .ok (.iconst 1, 1) := by decide +kernel
theorem dX12_isLine_109 : decode cX12_isLine 109 = .ok (.iadd, 1) := by decide +kernel
theorem dX12_isLine_110 : decode cX12_isLine 110 = .ok (.iconst 0, 1) := by decide +kernel
theorem dX12_isLine_111 : decode cX12_isLine 111 = .ok (.iastore, 1) := by decide +kernel
theorem dX12_isLine_112 : decode cX12_isLine 112 = .ok (.aload_n 0, 1) := by decide +kernel
theorem dX12_isLine_113 : decode cX12_isLine 113 = .ok (.getfield 57, 3) := by decide +kernel
theorem dX12_isLine_116 : decode cX12_isLine 116 = .ok (.iload_n 1, 1) := by decide +kernel
theorem dX12_isLine_117 : decode cX12_isLine 117 = .ok (.iconst 2, 1) := by decide +kernel
theorem dX12_isLine_118 : decode cX12_isLine 118 = .ok (.iadd, 1) := by decide +kernel
theorem dX12_isLine_119 : decode cX12_isLine 119 = .ok (.iconst 0, 1) := by decide +kernel
theorem dX12_isLine_120 : decode cX12_isLine 120 = .ok (.iastore, 1) := by decide +kernel
theorem dX12_isLine_121 : decode cX12_isLine 121 = .ok (.iload_n 2, 1) := by decide +kernel
theorem dX12_isLine_122 : decode cX12_isLine 122 = .ok (.tableswitch 152 0 5 #[38, 66, 142, 94, 134, 142], 38) := by decide +kernel
theorem dX12_isLine_160 : decode cX12_isLine 160 = .ok (.aload_n 0, 1) := by decide +kernel
theorem dX12_isLine_161 : decode cX12_isLine 161 = .ok (.iload_n 1, 1) := by decide +kernel
theorem dX12_isLine_162 : decode cX12_isLine 162 = .ok (.iconst 1, 1) := by decide +kernel
theorem dX12_isLine_163 : decode cX12_isLine 163 = .ok (.iadd, 1) := by decide +kernel
theorem dX12_isLine_164 : decode cX12_isLine 164 = .ok (.invokevirtual 289, 3) := by decide +kernel
theorem dX12_isLine_167 : decode cX12_isLine 167 = .ok (.ifCond .eq 19, 3) := by decide +kernel
theorem dX12_isLine_170 : decode cX12_isLine 170 = .ok (.aload_n 0, 1) := by decide +kernel
theorem dX12_isLine_171 : decode cX12_isLine 171 = .ok (.iload_n 1, 1) := by decide +kernel
theorem dX12_isLine_172 : decode cX12_isLine 172 = .ok (.iconst 2, 1) := by decide +kernel
theorem dX12_isLine_173 : decode cX12_isLine 173 = .ok (.iadd, 1) := by decide +kernel
theorem dX12_isLine_174 : decode cX12_isLine 174 = .ok (.bipush 9, 2) := by decide +kernel
theorem dX12_isLine_176 : decode cX12_isLine 176 = .ok (.invokevirtual 292, 3) := by decide +kernel
theorem dX12_isLine_179 : decode cX12_isLine 179 = .ok (.ifCond .eq 7, 3) := by decide +kernel
theorem dX12_isLine_182 : decode cX12_isLine 182 = .ok (.iconst 1, 1) := by decide +kernel
theorem dX12_isLine_183 : decode cX12_isLine 183 = .ok (.goto 4, 3) := by decide +kernel
theorem dX12_isLine_186 : decode cX12_isLine 186 = .ok (.iconst 0, 1) := by decide +kernel
theorem dX12_isLine_187 : decode cX12_isLine 187 = .ok (.ireturn, 1) := by decide +kernel
theorem dX12_isLine_188 : decode cX12_isLine 188 = .ok (.aload_n 0, 1) := by decide +kernel
theorem dX12_isLine_189 : decode cX12_isLine 189 = .ok (.iload_n 1, 1) := by decide +kernel
theorem dX12_isLine_190 : decode cX12_isLine 190 = .ok (.iconst 1, 1) := by decide +kernel
theorem dX12_isLine_191 : decode cX12_isLine 191 = .ok (.iadd, 1) := by decide +kernel
theorem dX12_isLine_192 : decode cX12_isLine 192 = .ok (.invokevirtual 289, 3) := by decide +kernel
theorem dX12_isLine_195 : decode cX12_isLine 195 = .ok (.ifCond .eq 19, 3) := by decide +kernel
theorem dX12_isLine_198 : decode cX12_isLine 198 = .ok (.aload_n 0, 1) := by decide +kernel
theorem dX12_isLine_199 : decode cX12_isLine 199 = .ok (.iload_n 1, 1) := by decide +kernel
theorem dX12_isLine_200 : decode cX12_isLine 200 = .ok (.iconst 2, 1) := by decide +kernel
theorem dX12_isLine_201 : decode cX12_isLine 201 = .ok (.iadd, 1) := by decide +kernel
theorem dX12_isLine_202 : decode cX12_isLine 202 = .ok (.bipush 99, 2) := by decide +kernel
theorem dX12_isLine_204 : decode cX12_isLine 204 = .ok (.invokevirtual 292, 3) := by decide +kernel
theorem dX12_isLine_207 : decode cX12_isLine 207 = .ok (.ifCond .eq 7, 3) := by decide +kernel
theorem dX12_isLine_210 : decode cX12_isLine 210 = .ok (.iconst 1, 1) := by decide +kernel
theorem dX12_isLine_211 : decode cX12_isLine 211 = .ok (.goto 4, 3) := by decide +kernel
theorem dX12_isLine_214 : decode cX12_isLine 214 = .ok (.iconst 0, 1) := by decide +kernel
theorem dX12_isLine_215 : decode cX12_isLine 215 = .ok (.ireturn, 1) := by decide +kernel
theorem dX12_isLine_216 : decode cX12_isLine 216 = .ok (.aload_n 0, 1) := by decide +kernel
theorem dX12_isLine_217 : decode cX12_isLine 217 = .ok (.iload_n 1, 1) := by decide +kernel
theorem dX12_isLine_218 : decode cX12_isLine 218 = .ok (.iconst 1, 1) := by decide +kernel
theorem dX12_isLine_219 : decode cX12_isLine 219 = .ok (.iadd, 1) := by decide +kernel
theorem dX12_isLine_220 : decode cX12_isLine 220 = .ok (.bipush 23, 2) := by decide +kernel
theorem dX12_isLine_222 : decode cX12_isLine 222 = .ok (.invokevirtual 292, 3) := by decide +kernel
theorem dX12_isLine_225 : decode cX12_isLine 225 = .ok (.ifCond .eq 29, 3) := by decide +kernel
theorem dX12_isLine_228 : decode cX12_isLine 228 = .ok (.aload_n 0, 1) := by decide +kernel
theorem dX12_isLine_229 : decode cX12_isLine 229 = .ok (.ldc2_w 295, 3) := by decide +kernel
theorem dX12_isLine_232 : decode cX12_isLine 232 = .ok (.invokevirtual 297, 3) := by decide +kernel
theorem dX12_isLine_235 : decode cX12_isLine 235 = .ok (.ifCond .eq 19, 3) := by decide +kernel
theorem dX12_isLine_238 : decode cX12_isLine 238 = .ok (.aload_n 0, 1) := by decide +kernel
theorem dX12_isLine_239 : decode cX12_isLine 239 = .ok (.iload_n 1, 1) := by decide +kernel
theorem dX12_isLine_240 : decode cX12_isLine 240 = .ok (.iconst 2, 1) := by decide +kernel
theorem dX12_isLine_241 : decode cX12_isLine 241 = .ok (.iadd, 1) := by decide +kernel
theorem dX12_isLine_242 : decode cX12_isLine 242 = .ok (.bipush 23, 2) := by decide +kernel
theorem dX12_isLine_244 : decode cX12_isLine 244 = .ok (.invokevirtual 292, 3) := by decide +kernel
theorem dX12_isLine_247 : decode cX12_isLine 247 = .ok (.ifCond .eq 7, 3) := by decide +kernel
theorem dX12_isLine_250 : decode cX12_isLine 250 = .ok (.iconst 1, 1) := by decide +kernel
theorem dX12_isLine_251 : decode cX12_isLine 251 = .ok (.goto 4, 3) := by decide +kernel
theorem dX12_isLine_254 : decode cX12_isLine 254 = .ok (.iconst 0, 1) := by decide +kernel
theorem dX12_isLine_255 : decode cX12_isLine 255 = .ok (.ireturn, 1) := by decide +kernel
theorem dX12_isLine_256 : decode cX12_isLine 256 = .ok (.aload_n 0, 1) := by decide +kernel
theorem dX12_isLine_257 : decode cX12_isLine 257 = .ok (.iload_n 1, 1) := by decide +kernel
theorem dX12_isLine_258 : decode cX12_isLine 258 = .ok (.iconst 1, 1) := by decide +kernel
theorem dX12_isLine_259 : decode cX12_isLine 259 = .ok (.iadd, 1) := by decide +kernel
theorem dX12_isLine_260 : decode cX12_isLine 260 = .ok (.invokevirtual 289, 3) := by decide +kernel
theorem dX12_isLine_263 : decode cX12_isLine 263 = .ok (.ireturn, 1) := by decide +kernel
theorem dX12_isLine_264 : decode cX12_isLine 264 = .ok (.aload_n 0, 1) := by decide +kernel
theorem dX12_isLine_265 : decode cX12_isLine 265 = .ok (.iload_n 1, 1) := by decide +kernel
theorem dX12_isLine_266 : decode cX12_isLine 266 = .ok (.iconst 2, 1) := by decide +kernel
theorem dX12_isLine_267 : decode cX12_isLine 267 = .ok (.iadd, 1) := by decide +kernel
theorem dX12_isLine_268 : decode cX12_isLine 268 = .ok (.bipush 99, 2) := by decide +kernel
theorem dX12_isLine_270 : decode cX12_isLine 270 = .ok (.invokevirtual 292, 3) := by decide +kernel
theorem dX12_isLine_273 : decode cX12_isLine 273 = .ok (.ireturn, 1) := by decide +kernel
theorem dX12_isLine_274 : decode cX12_isLine 274 = .ok (.aload_n 0, 1) := by decide +kernel
theorem dX12_isLine_275 : decode cX12_isLine 275 = .ok (.invokevirtual 263, 3) := by decide +kernel
theorem dX12_isLine_278 : decode cX12_isLine 278 = .ok (.ireturn, 1) := by decide +kernel
theorem dX12_isRead_0 : decode cX12_isRead 0 = .ok (.aload_n 0, 1) := by decide +kernel
theorem dX12_isRead_1 : decode cX12_isRead 1 = .ok (.iconst 0, 1) := by decide +kernel
theorem dX12_isRead_2 : decode cX12_isRead 2 = .ok (.putfield 229, 3) := by decide +kernel
theorem dX12_isRead_5 : decode cX12_isRead 5 = .ok (.aload_n 0, 1) := by decide +kernel
theorem dX12_isRead_6 : decode cX12_isRead 6 = .ok (.iconst 0, 1) := by decide +kernel
theorem dX12_isRead_7 : decode cX12_isRead 7 = .ok (.putfield 301, 3) := by decide +kernel
theorem dX12_isRead_10 : decode cX12_isRead 10 = .ok (.iconst 1, 1) := by decide +kernel
theorem dX12_isRead_11 : decode cX12_isRead 11 = .ok (.istore_n 1, 1) := by decide +kernel
theorem dX12_isRead_12 : decode cX12_isRead 12 = .ok (.iload_n 1, 1) := by decide +kernel
theorem dX12_isRead_13 : decode cX12_isRead 13 = .ok (.ifCond .eq 61, 3) := by decide +kernel
theorem dX12_isRead_16 : decode cX12_isRead 16 = .ok (.aload_n 0, 1) := by decide +kernel
theorem dX12_isRead_17 : decode cX12_isRead 17 = .ok (.iconst 3, 1) := by decide +kernel
theorem dX12_isRead_18 : decode cX12_isRead 18 = .ok (.aload_n 0, 1) := by decide +kernel
theorem dX12_isRead_19 : decode cX12_isRead 19 = .ok (.getfield 301, 3) := by decide +kernel
theorem dX12_isRead_22 : decode cX12_isRead 22 = .ok (.imul, 1) := by decide +kernel
theorem dX12_isRead_23 : decode cX12_isRead 23 = .ok (.invokevirtual 304, 3) := by decide +kernel
theorem dX12_isRead_26 : decode cX12_isRead 26 = .ok (.ifCond .ne 5, 3) := by decide +kernel
theorem dX12_isRead_29 : decode cX12_isRead 29 = .ok (.iconst 0, 1) := by decide +kernel
theorem dX12_isRead_30 : decode cX12_isRead 30 = .ok (.ireturn, 1) := by decide +kernel
theorem dX12_isRead_31 : decode cX12_isRead 31 = .ok (.aload_n 0, 1) := by decide +kernel
theorem dX12_isRead_32 : decode cX12_isRead 32 = .ok (.dup, 1) := by decide +kernel
theorem dX12_isRead_33 : decode cX12_isRead 33 = .ok (.getfield 301, 3) := by decide +kernel
theorem dX12_isRead_36 : decode cX12_isRead 36 = .ok (.iconst 1, 1) := by decide +kernel
theorem dX12_isRead_37 : decode cX12_isRead 37 = .ok (.iadd, 1) := by decide +kernel
theorem dX12_isRead_38 : decode cX12_isRead 38 = .ok (.putfield 301, 3) := by decide +kernel
theorem dX12_isRead_41 : decode cX12_isRead 41 = .ok (.aload_n 0, 1) := by decide +kernel
theorem dX12_isRead_42 : decode cX12_isRead 42 = .ok (.invokevirtual 260, 3) := by decide +kernel
theorem dX12_isRead_45 : decode cX12_isRead 45 = .ok (.aload_n 0, 1) := by decide +kernel
theorem dX12_isRead_46 : decode cX12_isRead 46 = .ok (.getfield 243, 3) := by decide +kernel
theorem dX12_isRead_49 : decode cX12_isRead 49 = .ok (.ldc2_w 255, 3) := by decide +kernel
theorem dX12_isRead_52 : decode cX12_isRead 52 = .ok (.lcmp, 1) := by decide +kernel
theorem dX12_isRead_53 : decode cX12_isRead 53 = .ok (.ifCond .ne 16, 3) := by decide +kernel
theorem dX12_isRead_56 : decode cX12_isRead 56 = .ok (.aload_n 0, 1) := by decide +kernel
theorem dX12_isRead_57 : decode cX12_isRead 57 = .ok (.getfield 301, 3) := by decide +kernel
theorem dX12_isRead_60 : decode cX12_isRead 60 = .ok (.bipush 10, 2) := by decide +kernel
theorem dX12_isRead_62 : decode cX12_isRead 62 = .ok (.if_icmp .ge 7, 3) := by decide +kernel
theorem dX12_isRead_65 : decode cX12_isRead 65 = .ok (.iconst 1, 1) := by decide +kernel
theorem dX12_isRead_66 : decode cX12_isRead 66 = .ok (.goto 4, 3) := by decide +kernel
theorem dX12_isRead_69 : decode cX12_isRead 69 = .ok (.iconst 0, 1) := by decide +kernel
theorem dX12_isRead_70 : decode cX12_isRead 70 = .ok (.istore_n 1, 1) := by decide +kernel
theorem dX12_isRead_71 : decode cX12_isRead 71 = .ok (.goto (-59), 3) := by decide +kernel
theorem dX12_isRead_74 : decode cX12_isRead 74 = .ok (.aload_n 0, 1) := by decide +kernel
theorem dX12_isRead_75 : decode cX12_isRead 75 = .ok (.getfield 243, 3) := by decide +kernel
theorem dX12_isRead_78 : decode cX12_isRead 78 = .ok (.ldc2_w 241, 3) := by decide +kernel
theorem dX12_isRead_81 : decode cX12_isRead 81 = .ok (.lcmp, 1) := by decide +kernel
theorem dX12_isRead_82 : decode cX12_isRead 82 = .ok (.ifCond .eq 10, 3) := by decide +kernel
theorem dX12_isRead_85 : decode cX12_isRead 85 = .ok (.aload_n 0, 1) := by decide +kernel
theorem dX12_isRead_86 : decode cX12_isRead 86 = .ok (.invokevirtual 263, 3) := by decide +kernel
theorem dX12_isRead_89 : decode cX12_isRead 89 = .ok (.ifCond .eq 7, 3) := by decide +kernel
theorem dX12_isRead_92 : decode cX12_isRead 92 = .ok (.iconst 1, 1) := by decide +kernel
theorem dX12_isRead_93 : decode cX12_isRead 93 = .ok (.goto 4, 3) := by decide +kernel
theorem dX12_isRead_96 : decode cX12_isRead 96 = .ok (.iconst 0, 1) := by decide +kernel
theorem dX12_isRead_97 : decode cX12_isRead 97 = .ok (.ireturn, 1) := by decide +kernel
theorem dX12_fault_0 : decode cX12_fault 0 = .ok (.aload_n 0, 1) := by decide +kernel
theorem dX12_fault_1 : decode cX12_fault 1 = .ok (.invokevirtual 307, 3) := by decide +kernel
theorem dX12_fault_4 : decode cX12_fault 4 = .ok (.ifCond .eq 7, 3) := by decide +kernel
theorem dX12_fault_7 : decode cX12_fault 7 = .ok (.iconst (-1), 1) := by decide +kernel
theorem dX12_fault_8 : decode cX12_fault 8 = .ok (.goto 7, 3) := by decide +kernel
theorem dX12_fault_11 : decode cX12_fault 11 = .ok (.aload_n 0, 1) := by decide +kernel
theorem dX12_fault_12 : decode cX12_fault 12 = .ok (.getfield 257, 3) := by decide +kernel
theorem dX12_fault_15 : decode cX12_fault 15 = .ok (.ireturn, 1) := by decide +kernel
theorem dX12_findSteps_0 : decode cX12_findSteps 0 = .ok (.iconst 0, 1) := by decide +kernel
theorem dX12_findSteps_1 : decode cX12_findSteps 1 = .ok (.istore_n 1, 1) := by decide +kernel
theorem dX12_findSteps_2 : decode cX12_findSteps 2 = .ok (.iload_n 1, 1) := by decide +kernel
theorem dX12_findSteps_3 : decode cX12_findSteps 3 = .ok (.bipush 8, 2) := by decide +kernel
theorem dX12_findSteps_5 : decode cX12_findSteps 5 = .ok (.if_icmp .ge 25, 3) := by decide +kernel
theorem dX12_findSteps_8 : decode cX12_findSteps 8 = .ok (.aload_n 0, 1) := by decide +kernel
theorem dX12_findSteps_9 : decode cX12_findSteps 9 = .ok (.getfield 48, 3) := by decide +kernel
theorem dX12_findSteps_12 : decode cX12_findSteps 12 = .ok (.iload_n 1, 1) := by decide +kernel
theorem dX12_findSteps_13 : decode cX12_findSteps 13 = .ok (.iload_n 1, 1) := by decide +kernel
theorem dX12_findSteps_14 : decode cX12_findSteps 14 = .ok (.ifCond .ne 7, 3) := by decide +kernel
theorem dX12_findSteps_17 : decode cX12_findSteps 17 = .ok (.iconst 0, 1) := by decide +kernel
theorem dX12_findSteps_18 : decode cX12_findSteps 18 = .ok (.goto 5, 3) := by decide +kernel
theorem dX12_findSteps_21 : decode cX12_findSteps 21 = .ok (.ldc 167, 2) := by decide +kernel
theorem dX12_findSteps_23 : decode cX12_findSteps 23 = .ok (.iastore, 1) := by decide +kernel
theorem dX12_findSteps_24 : decode cX12_findSteps 24 = .ok (.iinc 1 1, 3) := by decide +kernel
theorem dX12_findSteps_27 : decode cX12_findSteps 27 = .ok (.goto (-25), 3) := by decide +kernel
theorem dX12_findSteps_30 : decode cX12_findSteps 30 = .ok (.iconst 0, 1) := by decide +kernel
theorem dX12_findSteps_31 : decode cX12_findSteps 31 = .ok (.istore_n 1, 1) := by decide +kernel
theorem dX12_findSteps_32 : decode cX12_findSteps 32 = .ok (.iload_n 1, 1) := by decide +kernel
theorem dX12_findSteps_33 : decode cX12_findSteps 33 = .ok (.bipush 8, 2) := by decide +kernel
theorem dX12_findSteps_35 : decode cX12_findSteps 35 = .ok (.if_icmp .ge 155, 3) := by decide +kernel
theorem dX12_findSteps_38 : decode cX12_findSteps 38 = .ok (.iconst 0, 1) := by decide +kernel
theorem dX12_findSteps_39 : decode cX12_findSteps 39 = .ok (.istore_n 2, 1) := by decide +kernel
theorem dX12_findSteps_40 : decode cX12_findSteps 40 = .ok (.iload_n 2, 1) := by decide +kernel
theorem dX12_findSteps_41 : decode cX12_findSteps 41 = .ok (.aload_n 0, 1) := by decide +kernel
theorem dX12_findSteps_42 : decode cX12_findSteps 42 = .ok (.getfield 127, 3) := by decide +kernel
theorem dX12_findSteps_45 : decode cX12_findSteps 45 = .ok (.if_icmp .ge 139, 3) := by decide +kernel
theorem dX12_findSteps_48 : decode cX12_findSteps 48 = .ok (.aload_n 0, 1) := by decide +kernel
theorem dX12_findSteps_49 : decode cX12_findSteps 49 = .ok (.getfield 48, 3) := by decide +kernel
theorem dX12_findSteps_52 : decode cX12_findSteps 52 = .ok (.aload_n 0, 1) := by decide +kernel
theorem dX12_findSteps_53 : decode cX12_findSteps 53 = .ok (.getfield 16, 3) := by decide +kernel
theorem dX12_findSteps_56 : decode cX12_findSteps 56 = .ok (.iload_n 2, 1) := by decide +kernel
theorem dX12_findSteps_57 : decode cX12_findSteps 57 = .ok (.iaload, 1) := by decide +kernel
theorem dX12_findSteps_58 : decode cX12_findSteps 58 = .ok (.aload_n 0, 1) := by decide +kernel
theorem dX12_findSteps_59 : decode cX12_findSteps 59 = .ok (.getfield 48, 3) := by decide +kernel
theorem dX12_findSteps_62 : decode cX12_findSteps 62 = .ok (.aload_n 0, 1) := by decide +kernel
theorem dX12_findSteps_63 : decode cX12_findSteps 63 = .ok (.getfield 19, 3) := by decide +kernel
theorem dX12_findSteps_66 : decode cX12_findSteps 66 = .ok (.iload_n 2, 1) := by decide +kernel
theorem dX12_findSteps_67 : decode cX12_findSteps 67 = .ok (.iaload, 1) := by decide +kernel
theorem dX12_findSteps_68 : decode cX12_findSteps 68 = .ok (.iaload, 1) := by decide +kernel
theorem dX12_findSteps_69 : decode cX12_findSteps 69 = .ok (.iconst 1, 1) := by decide +kernel
theorem dX12_findSteps_70 : decode cX12_findSteps 70 = .ok (.iadd, 1) := by decide +kernel
theorem dX12_findSteps_71 : decode cX12_findSteps 71 = .ok (.aload_n 0, 1) := by decide +kernel
theorem dX12_findSteps_72 : decode cX12_findSteps 72 = .ok (.getfield 48, 3) := by decide +kernel
theorem dX12_findSteps_75 : decode cX12_findSteps 75 = .ok (.aload_n 0, 1) := by decide +kernel
theorem dX12_findSteps_76 : decode cX12_findSteps 76 = .ok (.getfield 16, 3) := by decide +kernel
theorem dX12_findSteps_79 : decode cX12_findSteps 79 = .ok (.iload_n 2, 1) := by decide +kernel
theorem dX12_findSteps_80 : decode cX12_findSteps 80 = .ok (.iaload, 1) := by decide +kernel
theorem dX12_findSteps_81 : decode cX12_findSteps 81 = .ok (.iaload, 1) := by decide +kernel
theorem dX12_findSteps_82 : decode cX12_findSteps 82 = .ok (.if_icmp .ge 19, 3) := by decide +kernel
theorem dX12_findSteps_85 : decode cX12_findSteps 85 = .ok (.aload_n 0, 1) := by decide +kernel
theorem dX12_findSteps_86 : decode cX12_findSteps 86 = .ok (.getfield 48, 3) := by decide +kernel
theorem dX12_findSteps_89 : decode cX12_findSteps 89 = .ok (.aload_n 0, 1) := by decide +kernel
theorem dX12_findSteps_90 : decode cX12_findSteps 90 = .ok (.getfield 19, 3) := by decide +kernel
theorem dX12_findSteps_93 : decode cX12_findSteps 93 = .ok (.iload_n 2, 1) := by decide +kernel
theorem dX12_findSteps_94 : decode cX12_findSteps 94 = .ok (.iaload, 1) := by decide +kernel
theorem dX12_findSteps_95 : decode cX12_findSteps 95 = .ok (.iaload, 1) := by decide +kernel
theorem dX12_findSteps_96 : decode cX12_findSteps 96 = .ok (.iconst 1, 1) := by decide +kernel
theorem dX12_findSteps_97 : decode cX12_findSteps 97 = .ok (.iadd, 1) := by decide +kernel
theorem dX12_findSteps_98 : decode cX12_findSteps 98 = .ok (.goto 14, 3) := by decide +kernel
theorem dX12_findSteps_101 : decode cX12_findSteps 101 = .ok (.aload_n 0, 1) := by decide +kernel
theorem dX12_findSteps_102 : decode cX12_findSteps 102 = .ok (.getfield 48, 3) := by decide +kernel
theorem dX12_findSteps_105 : decode cX12_findSteps 105 = .ok (.aload_n 0, 1) := by decide +kernel
theorem dX12_findSteps_106 : decode cX12_findSteps 106 = .ok (.getfield 16, 3) := by decide +kernel
theorem dX12_findSteps_109 : decode cX12_findSteps 109 = .ok (.iload_n 2, 1) := by decide +kernel
theorem dX12_findSteps_110 : decode cX12_findSteps 110 = .ok (.iaload, 1) := by decide +kernel
theorem dX12_findSteps_111 : decode cX12_findSteps 111 = .ok (.iaload, 1) := by decide +kernel
theorem dX12_findSteps_112 : decode cX12_findSteps 112 = .ok (.iastore, 1) := by decide +kernel
theorem dX12_findSteps_113 : decode cX12_findSteps 113 = .ok (.aload_n 0, 1) := by decide +kernel
theorem dX12_findSteps_114 : decode cX12_findSteps 114 = .ok (.getfield 48, 3) := by decide +kernel
theorem dX12_findSteps_117 : decode cX12_findSteps 117 = .ok (.aload_n 0, 1) := by decide +kernel
theorem dX12_findSteps_118 : decode cX12_findSteps 118 = .ok (.getfield 19, 3) := by decide +kernel
theorem dX12_findSteps_121 : decode cX12_findSteps 121 = .ok (.iload_n 2, 1) := by decide +kernel
theorem dX12_findSteps_122 : decode cX12_findSteps 122 = .ok (.iaload, 1) := by decide +kernel
theorem dX12_findSteps_123 : decode cX12_findSteps 123 = .ok (.aload_n 0, 1) := by decide +kernel
theorem dX12_findSteps_124 : decode cX12_findSteps 124 = .ok (.getfield 48, 3) := by decide +kernel
theorem dX12_findSteps_127 : decode cX12_findSteps 127 = .ok (.aload_n 0, 1) := by decide +kernel
theorem dX12_findSteps_128 : decode cX12_findSteps 128 = .ok (.getfield 16, 3) := by decide +kernel
theorem dX12_findSteps_131 : decode cX12_findSteps 131 = .ok (.iload_n 2, 1) := by decide +kernel
theorem dX12_findSteps_132 : decode cX12_findSteps 132 = .ok (.iaload, 1) := by decide +kernel
theorem dX12_findSteps_133 : decode cX12_findSteps 133 = .ok (.iaload, 1) := by decide +kernel
theorem dX12_findSteps_134 : decode cX12_findSteps 134 = .ok (.iconst 1, 1) := by decide +kernel
theorem dX12_findSteps_135 : decode cX12_findSteps 135 = .ok (.iadd, 1) := by decide +kernel
theorem dX12_findSteps_136 : decode cX12_findSteps 136 = .ok (.aload_n 0, 1) := by decide +kernel
theorem dX12_findSteps_137 : decode cX12_findSteps 137 = .ok (.getfield 48, 3) := by decide +kernel
theorem dX12_findSteps_140 : decode cX12_findSteps 140 = .ok (.aload_n 0, 1) := by decide +kernel
theorem dX12_findSteps_141 : decode cX12_findSteps 141 = .ok (.getfield 19, 3) := by decide +kernel
theorem dX12_findSteps_144 : decode cX12_findSteps 144 = .ok (.iload_n 2, 1) := by decide +kernel
theorem dX12_findSteps_145 : decode cX12_findSteps 145 = .ok (.iaload, 1) := by decide +kernel
theorem dX12_findSteps_146 : decode cX12_findSteps 146 = .ok (.iaload, 1) := by decide +kernel
theorem dX12_findSteps_147 : decode cX12_findSteps 147 = .ok (.if_icmp .ge 19, 3) := by decide +kernel
theorem dX12_findSteps_150 : decode cX12_findSteps 150 = .ok (.aload_n 0, 1) := by decide +kernel
theorem dX12_findSteps_151 : decode cX12_findSteps 151 = .ok (.getfield 48, 3) := by decide +kernel
theorem dX12_findSteps_154 : decode cX12_findSteps 154 = .ok (.aload_n 0, 1) := by decide +kernel
theorem dX12_findSteps_155 : decode cX12_findSteps 155 = .ok (.getfield 16, 3) := by decide +kernel
theorem dX12_findSteps_158 : decode cX12_findSteps 158 = .ok (.iload_n 2, 1) := by decide +kernel
theorem dX12_findSteps_159 : decode cX12_findSteps 159 = .ok (.iaload, 1) := by decide +kernel
theorem dX12_findSteps_160 : decode cX12_findSteps 160 = .ok (.iaload, 1) := by decide +kernel
theorem dX12_findSteps_161 : decode cX12_findSteps 161 = .ok (.iconst 1, 1) := by decide +kernel
theorem dX12_findSteps_162 : decode cX12_findSteps 162 = .ok (.iadd, 1) := by decide +kernel
theorem dX12_findSteps_163 : decode cX12_findSteps 163 = .ok (.goto 14, 3) := by decide +kernel
theorem dX12_findSteps_166 : decode cX12_findSteps 166 = .ok (.aload_n 0, 1) := by decide +kernel
theorem dX12_findSteps_167 : decode cX12_findSteps 167 = .ok (.getfield 48, 3) := by decide +kernel
theorem dX12_findSteps_170 : decode cX12_findSteps 170 = .ok (.aload_n 0, 1) := by decide +kernel
theorem dX12_findSteps_171 : decode cX12_findSteps 171 = .ok (.getfield 19, 3) := by decide +kernel
theorem dX12_findSteps_174 : decode cX12_findSteps 174 = .ok (.iload_n 2, 1) := by decide +kernel
theorem dX12_findSteps_175 : decode cX12_findSteps 175 = .ok (.iaload, 1) := by decide +kernel
theorem dX12_findSteps_176 : decode cX12_findSteps 176 = .ok (.iaload, 1) := by decide +kernel
theorem dX12_findSteps_177 : decode cX12_findSteps 177 = .ok (.iastore, 1) := by decide +kernel
theorem dX12_findSteps_178 : decode cX12_findSteps 178 = .ok (.iinc 2 1, 3) := by decide +kernel
theorem dX12_findSteps_181 : decode cX12_findSteps 181 = .ok (.goto (-141), 3) := by decide +kernel
theorem dX12_findSteps_184 : decode cX12_findSteps 184 = .ok (.iinc 1 1, 3) := by decide +kernel
theorem dX12_findSteps_187 : decode cX12_findSteps 187 = .ok (.goto (-155), 3) := by decide +kernel
theorem dX12_findSteps_190 : decode cX12_findSteps 190 = .ok (.return_, 1) := by decide +kernel
theorem dX12_force_0 : decode cX12_force 0 = .ok (.aload_n 0, 1) := by decide +kernel
theorem dX12_force_1 : decode cX12_force 1 = .ok (.invokevirtual 307, 3) := by decide +kernel
theorem dX12_force_4 : decode cX12_force 4 = .ok (.ifCond .ne 6, 3) := by decide +kernel
theorem dX12_force_7 : decode cX12_force 7 = .ok (.bipush (-4), 2) := by decide +kernel
theorem dX12_force_9 : decode cX12_force 9 = .ok (.ireturn, 1) := by decide +kernel
theorem dX12_force_10 : decode cX12_force 10 = .ok (.aload_n 0, 1) := by decide +kernel
theorem dX12_force_11 : decode cX12_force 11 = .ok (.getfield 310, 3) := by decide +kernel
theorem dX12_force_14 : decode cX12_force 14 = .ok (.bipush 6, 2) := by decide +kernel
theorem dX12_force_16 : decode cX12_force 16 = .ok (.if_icmp .ne 6, 3) := by decide +kernel
theorem dX12_force_19 : decode cX12_force 19 = .ok (.bipush (-5), 2) := by decide +kernel
theorem dX12_force_21 : decode cX12_force 21 = .ok (.ireturn, 1) := by decide +kernel
theorem dX12_force_22 : decode cX12_force 22 = .ok (.iconst 0, 1) := by decide +kernel
theorem dX12_force_23 : decode cX12_force 23 = .ok (.istore_n 1, 1) := by decide +kernel
theorem dX12_force_24 : decode cX12_force 24 = .ok (.iload_n 1, 1) := by decide +kernel
theorem dX12_force_25 : decode cX12_force 25 = .ok (.bipush 30, 2) := by decide +kernel
theorem dX12_force_27 : decode cX12_force 27 = .ok (.if_icmp .ge 29, 3) := by decide +kernel
theorem dX12_force_30 : decode cX12_force 30 = .ok (.aload_n 0, 1) := by decide +kernel
theorem dX12_force_31 : decode cX12_force 31 = .ok (.getfield 63, 3) := by decide +kernel
theorem dX12_force_34 : decode cX12_force 34 = .ok (.bipush 30, 2) := by decide +kernel
theorem dX12_force_36 : decode cX12_force 36 = .ok (.aload_n 0, 1) := by decide +kernel
theorem dX12_force_37 : decode cX12_force 37 = .ok (.getfield 310, 3) := by decide +kernel
theorem dX12_force_40 : decode cX12_force 40 = .ok (.imul, 1) := by decide +kernel
theorem dX12_force_41 : decode cX12_force 41 = .ok (.iload_n 1, 1) := by decide +kernel
theorem dX12_force_42 : decode cX12_force 42 = .ok (.iadd, 1) := by decide +kernel
theorem dX12_force_43 : decode cX12_force 43 = .ok (.aload_n 0, 1) := by decide +kernel
theorem dX12_force_44 : decode cX12_force 44 = .ok (.getfield 57, 3) := by decide +kernel
theorem dX12_force_47 : decode cX12_force 47 = .ok (.iload_n 1, 1) := by decide +kernel
theorem dX12_force_48 : decode cX12_force 48 = .ok (.iaload, 1) := by decide +kernel
theorem dX12_force_49 : decode cX12_force 49 = .ok (.iastore, 1) := by decide +kernel
theorem dX12_force_50 : decode cX12_force 50 = .ok (.iinc 1 1, 3) := by decide +kernel
theorem dX12_force_53 : decode cX12_force 53 = .ok (.goto (-29), 3) := by decide +kernel
theorem dX12_force_56 : decode cX12_force 56 = .ok (.aload_n 0, 1) := by decide +kernel
theorem dX12_force_57 : decode cX12_force 57 = .ok (.getfield 60, 3) := by decide +kernel
theorem dX12_force_60 : decode cX12_force 60 = .ok (.aload_n 0, 1) := by decide +kernel
theorem dX12_force_61 : decode cX12_force 61 = .ok (.getfield 310, 3) := by decide +kernel
theorem dX12_force_64 : decode cX12_force 64 = .ok (.aload_n 0, 1) := by decide +kernel
theorem dX12_force_65 : decode cX12_force 65 = .ok (.getfield 301, 3) := by decide +kernel
theorem dX12_force_68 : decode cX12_force 68 = .ok (.iastore, 1) := by decide +kernel
theorem dX12_force_69 : decode cX12_force 69 = .ok (.aload_n 0, 1) := by decide +kernel
theorem dX12_force_70 : decode cX12_force 70 = .ok (.invokevirtual 313, 3) := by decide +kernel
theorem dX12_force_73 : decode cX12_force 73 = .ok (.iconst 0, 1) := by decide +kernel
theorem dX12_force_74 : decode cX12_force 74 = .ok (.istore_n 1, 1) := by decide +kernel
theorem dX12_force_75 : decode cX12_force 75 = .ok (.iload_n 1, 1) := by decide +kernel
theorem dX12_force_76 : decode cX12_force 76 = .ok (.bipush 8, 2) := by decide +kernel
theorem dX12_force_78 : decode cX12_force 78 = .ok (.if_icmp .ge 54, 3) := by decide +kernel
theorem dX12_force_81 : decode cX12_force 81 = .ok (.aload_n 0, 1) := by decide +kernel
theorem dX12_force_82 : decode cX12_force 82 = .ok (.getfield 66, 3) := by decide +kernel
theorem dX12_force_85 : decode cX12_force 85 = .ok (.bipush 8, 2) := by decide +kernel
theorem dX12_force_87 : decode cX12_force 87 = .ok (.aload_n 0, 1) := by decide +kernel
theorem dX12_force_88 : decode cX12_force 88 = .ok (.getfield 310, 3) := by decide +kernel
theorem dX12_force_91 : decode cX12_force 91 = .ok (.imul, 1) := by decide +kernel
theorem dX12_force_92 : decode cX12_force 92 = .ok (.iload_n 1, 1) := by decide +kernel
theorem dX12_force_93 : decode cX12_force 93 = .ok (.iadd, 1) := by decide +kernel
theorem dX12_force_94 : decode cX12_force 94 = .ok (.aload_n 0, 1) := by decide +kernel
theorem dX12_force_95 : decode cX12_force 95 = .ok (.getfield 48, 3) := by decide +kernel
theorem dX12_force_98 : decode cX12_force 98 = .ok (.iload_n 1, 1) := by decide +kernel
theorem dX12_force_99 : decode cX12_force 99 = .ok (.iaload, 1) := by decide +kernel
theorem dX12_force_100 : decode cX12_force 100 = .ok (.ldc 167, 2) := by decide +kernel
theorem dX12_force_102 : decode cX12_force 102 = .ok (.if_icmp .lt 7, 3) := by decide +kernel
theorem dX12_force_105 : decode cX12_force 105 = .ok (.iconst (-1), 1) := by decide +kernel
theorem dX12_force_106 : decode cX12_force 106 = .ok (.goto 19, 3) := by decide +kernel
theorem dX12_force_109 : decode cX12_force 109 = .ok (.aload_n 0, 1) := by decide +kernel
theorem dX12_force_110 : decode cX12_force 110 = .ok (.getfield 144, 3) := by decide +kernel
theorem dX12_force_113 : decode cX12_force 113 = .ok (.aload_n 0, 1) := by decide +kernel
theorem dX12_force_114 : decode cX12_force 114 = .ok (.getfield 54, 3) := by decide +kernel
theorem dX12_force_117 : decode cX12_force 117 = .ok (.aload_n 0, 1) := by decide +kernel
theorem dX12_force_118 : decode cX12_force 118 = .ok (.getfield 48, 3) := by decide +kernel
theorem dX12_force_121 : decode cX12_force 121 = .ok (.iload_n 1, 1) := by decide +kernel
theorem dX12_force_122 : decode cX12_force 122 = .ok (.iaload, 1) := by decide +kernel
theorem dX12_force_123 : decode cX12_force 123 = .ok (.imul, 1) := by decide +kernel
theorem dX12_force_124 : decode cX12_force 124 = .ok (.iadd, 1) := by decide +kernel
theorem dX12_force_125 : decode cX12_force 125 = .ok (.iastore, 1) := by decide +kernel
theorem dX12_force_126 : decode cX12_force 126 = .ok (.iinc 1 1, 3) := by decide +kernel
theorem dX12_force_129 : decode cX12_force 129 = .ok (.goto (-54), 3) := by decide +kernel
theorem dX12_force_132 : decode cX12_force 132 = .ok (.aload_n 0, 1) := by decide +kernel
theorem dX12_force_133 : decode cX12_force 133 = .ok (.iconst 0, 1) := by decide +kernel
theorem dX12_force_134 : decode cX12_force 134 = .ok (.putfield 224, 3) := by decide +kernel
theorem dX12_force_137 : decode cX12_force 137 = .ok (.aload_n 0, 1) := by decide +kernel
theorem dX12_force_138 : decode cX12_force 138 = .ok (.dup, 1) := by decide +kernel
theorem dX12_force_139 : decode cX12_force 139 = .ok (.getfield 310, 3) := by decide +kernel
theorem dX12_force_142 : decode cX12_force 142 = .ok (.iconst 1, 1) := by decide +kernel
theorem dX12_force_143 : decode cX12_force 143 = .ok (.iadd, 1) := by decide +kernel
theorem dX12_force_144 : decode cX12_force 144 = .ok (.putfield 310, 3) := by decide +kernel
theorem dX12_force_147 : decode cX12_force 147 = .ok (.aload_n 0, 1) := by decide +kernel
theorem dX12_force_148 : decode cX12_force 148 = .ok (.getfield 310, 3) := by decide +kernel
theorem dX12_force_151 : decode cX12_force 151 = .ok (.iconst 1, 1) := by decide +kernel
theorem dX12_force_152 : decode cX12_force 152 = .ok (.isub, 1) := by decide +kernel
theorem dX12_force_153 : decode cX12_force 153 = .ok (.ireturn, 1) := by decide +kernel
theorem dX12_lag_0 : decode cX12_lag 0 = .ok (.iload_n 1, 1) := by decide +kernel
theorem dX12_lag_1 : decode cX12_lag 1 = .ok (.iconst 0, 1) := by decide +kernel
theorem dX12_lag_2 : decode cX12_lag 2 = .ok (.bipush 99, 2) := by decide +kernel
theorem dX12_lag_4 : decode cX12_lag 4 = .ok (.invokestatic 123, 3) := by decide +kernel
theorem dX12_lag_7 : decode cX12_lag 7 = .ok (.ifCond .ne 6, 3) := by decide +kernel
theorem dX12_lag_10 : decode cX12_lag 10 = .ok (.bipush (-3), 2) := by decide +kernel
theorem dX12_lag_12 : decode cX12_lag 12 = .ok (.ireturn, 1) := by decide +kernel
theorem dX12_lag_13 : decode cX12_lag 13 = .ok (.aload_n 0, 1) := by decide +kernel
theorem dX12_lag_14 : decode cX12_lag 14 = .ok (.getfield 54, 3) := by decide +kernel
theorem dX12_lag_17 : decode cX12_lag 17 = .ok (.istore_n 2, 1) := by decide +kernel
theorem dX12_lag_18 : decode cX12_lag 18 = .ok (.aload_n 0, 1) := by decide +kernel
theorem dX12_lag_19 : decode cX12_lag 19 = .ok (.iload_n 1, 1) := by decide +kernel
theorem dX12_lag_20 : decode cX12_lag 20 = .ok (.putfield 54, 3) := by decide +kernel
theorem dX12_lag_23 : decode cX12_lag 23 = .ok (.iload_n 2, 1) := by decide +kernel
theorem dX12_lag_24 : decode cX12_lag 24 = .ok (.ireturn, 1) := by decide +kernel
theorem dX12_knows_0 : decode cX12_knows 0 = .ok (.iload_n 1, 1) := by decide +kernel
theorem dX12_knows_1 : decode cX12_knows 1 = .ok (.invokestatic 133, 3) := by decide +kernel
theorem dX12_knows_4 : decode cX12_knows 4 = .ok (.ifCond .eq 31, 3) := by decide +kernel
theorem dX12_knows_7 : decode cX12_knows 7 = .ok (.iload_n 2, 1) := by decide +kernel
theorem dX12_knows_8 : decode cX12_knows 8 = .ok (.iconst 0, 1) := by decide +kernel
theorem dX12_knows_9 : decode cX12_knows 9 = .ok (.aload_n 0, 1) := by decide +kernel
theorem dX12_knows_10 : decode cX12_knows 10 = .ok (.getfield 310, 3) := by decide +kernel
theorem dX12_knows_13 : decode cX12_knows 13 = .ok (.iconst 1, 1) := by decide +kernel
theorem dX12_knows_14 : decode cX12_knows 14 = .ok (.isub, 1) := by decide +kernel
theorem dX12_knows_15 : decode cX12_knows 15 = .ok (.invokestatic 123, 3) := by decide +kernel
theorem dX12_knows_18 : decode cX12_knows 18 = .ok (.ifCond .eq 17, 3) := by decide +kernel
theorem dX12_knows_21 : decode cX12_knows 21 = .ok (.aload_n 0, 1) := by decide +kernel
theorem dX12_knows_22 : decode cX12_knows 22 = .ok (.getfield 66, 3) := by decide +kernel
theorem dX12_knows_25 : decode cX12_knows 25 = .ok (.bipush 8, 2) := by decide +kernel
theorem dX12_knows_27 : decode cX12_knows 27 = .ok (.iload_n 2, 1) := by decide +kernel
theorem dX12_knows_28 : decode cX12_knows 28 = .ok (.imul, 1) := by decide +kernel
theorem dX12_knows_29 : decode cX12_knows 29 = .ok (.iload_n 1, 1) := by decide +kernel
theorem dX12_knows_30 : decode cX12_knows 30 = .ok (.iadd, 1) := by decide +kernel
theorem dX12_knows_31 : decode cX12_knows 31 = .ok (.iaload, 1) := by decide +kernel
theorem dX12_knows_32 : decode cX12_knows 32 = .ok (.goto 5, 3) := by decide +kernel
theorem dX12_knows_35 : decode cX12_knows 35 = .ok (.bipush (-2), 2) := by decide +kernel
theorem dX12_knows_37 : decode cX12_knows 37 = .ok (.ireturn, 1) := by decide +kernel
theorem dX12_ordersOf_0 : decode cX12_ordersOf 0 = .ok (.iconst (-1), 1) := by decide +kernel
theorem dX12_ordersOf_1 : decode cX12_ordersOf 1 = .ok (.istore_n 3, 1) := by decide +kernel
theorem dX12_ordersOf_2 : decode cX12_ordersOf 2 = .ok (.iconst 0, 1) := by decide +kernel
theorem dX12_ordersOf_3 : decode cX12_ordersOf 3 = .ok (.istore 4, 2) := by decide +kernel
theorem dX12_ordersOf_5 : decode cX12_ordersOf 5 = .ok (.iload 4, 2) := by decide +kernel
theorem dX12_ordersOf_7 : decode cX12_ordersOf 7 = .ok (.aload_n 0, 1) := by decide +kernel
theorem dX12_ordersOf_8 : decode cX12_ordersOf 8 = .ok (.getfield 310, 3) := by decide +kernel
theorem dX12_ordersOf_11 : decode cX12_ordersOf 11 = .ok (.if_icmp .ge 48, 3) := by decide +kernel
theorem dX12_ordersOf_14 : decode cX12_ordersOf 14 = .ok (.aload_n 0, 1) := by decide +kernel
theorem dX12_ordersOf_15 : decode cX12_ordersOf 15 = .ok (.getfield 66, 3) := by decide +kernel
theorem dX12_ordersOf_18 : decode cX12_ordersOf 18 = .ok (.bipush 8, 2) := by decide +kernel
theorem dX12_ordersOf_20 : decode cX12_ordersOf 20 = .ok (.iload 4, 2) := by decide +kernel
theorem dX12_ordersOf_22 : decode cX12_ordersOf 22 = .ok (.imul, 1) := by decide +kernel
theorem dX12_ordersOf_23 : decode cX12_ordersOf 23 = .ok (.iload_n 1, 1) := by decide +kernel
theorem dX12_ordersOf_24 : decode cX12_ordersOf 24 = .ok (.iadd, 1) := by decide +kernel
theorem dX12_ordersOf_25 : decode cX12_ordersOf 25 = .ok (.iaload, 1) := by decide +kernel
theorem dX12_ordersOf_26 : decode cX12_ordersOf 26 = .ok (.iconst (-1), 1) := by decide +kernel
theorem dX12_ordersOf_27 : decode cX12_ordersOf 27 = .ok (.if_icmp .eq 24, 3) := by decide +kernel
theorem dX12_ordersOf_30 : decode cX12_ordersOf 30 = .ok (.aload_n 0, 1) := by decide +kernel
theorem dX12_ordersOf_31 : decode cX12_ordersOf 31 = .ok (.getfield 66, 3) := by decide +kernel
theorem dX12_ordersOf_34 : decode cX12_ordersOf 34 = .ok (.bipush 8, 2) := by decide +kernel
theorem dX12_ordersOf_36 : decode cX12_ordersOf 36 = .ok (.iload 4, 2) := by decide +kernel
theorem dX12_ordersOf_38 : decode cX12_ordersOf 38 = .ok (.imul, 1) := by decide +kernel
theorem dX12_ordersOf_39 : decode cX12_ordersOf 39 = .ok (.iload_n 1, 1) := by decide +kernel
theorem dX12_ordersOf_40 : decode cX12_ordersOf 40 = .ok (.iadd, 1) := by decide +kernel
theorem dX12_ordersOf_41 : decode cX12_ordersOf 41 = .ok (.iaload, 1) := by decide +kernel
theorem dX12_ordersOf_42 : decode cX12_ordersOf 42 = .ok (.iload_n 2, 1) := by decide +kernel
theorem dX12_ordersOf_43 : decode cX12_ordersOf 43 = .ok (.if_icmp .gt 8, 3) := by decide +kernel
theorem dX12_ordersOf_46 : decode cX12_ordersOf 46 = .ok (.iload 4, 2) := by decide +kernel
theorem dX12_ordersOf_48 : decode cX12_ordersOf 48 = .ok (.goto 4, 3) := by decide +kernel
theorem dX12_ordersOf_51 : decode cX12_ordersOf 51 = .ok (.iload_n 3, 1) := by decide +kernel
theorem dX12_ordersOf_52 : decode cX12_ordersOf 52 = .ok (.istore_n 3, 1) := by decide +kernel
theorem dX12_ordersOf_53 : decode cX12_ordersOf 53 = .ok (.iinc 4 1, 3) := by decide +kernel
theorem dX12_ordersOf_56 : decode cX12_ordersOf 56 = .ok (.goto (-51), 3) := by decide +kernel
theorem dX12_ordersOf_59 : decode cX12_ordersOf 59 = .ok (.iload_n 3, 1) := by decide +kernel
theorem dX12_ordersOf_60 : decode cX12_ordersOf 60 = .ok (.ireturn, 1) := by decide +kernel
theorem dX12_orders_0 : decode cX12_orders 0 = .ok (.iload_n 1, 1) := by decide +kernel
theorem dX12_orders_1 : decode cX12_orders 1 = .ok (.invokestatic 133, 3) := by decide +kernel
theorem dX12_orders_4 : decode cX12_orders 4 = .ok (.ifCond .ne 6, 3) := by decide +kernel
theorem dX12_orders_7 : decode cX12_orders 7 = .ok (.bipush (-2), 2) := by decide +kernel
theorem dX12_orders_9 : decode cX12_orders 9 = .ok (.ireturn, 1) := by decide +kernel
theorem dX12_orders_10 : decode cX12_orders 10 = .ok (.iload_n 2, 1) := by decide +kernel
theorem dX12_orders_11 : decode cX12_orders 11 = .ok (.iconst 0, 1) := by decide +kernel
theorem dX12_orders_12 : decode cX12_orders 12 = .ok (.sipush 9999, 3) := by decide +kernel
theorem dX12_orders_15 : decode cX12_orders 15 = .ok (.invokestatic 123, 3) := by decide +kernel
theorem dX12_orders_18 : decode cX12_orders 18 = .ok (.ifCond .eq 12, 3) := by decide +kernel
theorem dX12_orders_21 : decode cX12_orders 21 = .ok (.aload_n 0, 1) := by decide +kernel
theorem dX12_orders_22 : decode cX12_orders 22 = .ok (.iload_n 1, 1) := by decide +kernel
theorem dX12_orders_23 : decode cX12_orders 23 = .ok (.iload_n 2, 1) := by decide +kernel
theorem dX12_orders_24 : decode cX12_orders 24 = .ok (.invokevirtual 157, 3) := by decide +kernel
theorem dX12_orders_27 : decode cX12_orders 27 = .ok (.goto 5, 3) := by decide +kernel
theorem dX12_orders_30 : decode cX12_orders 30 = .ok (.bipush (-3), 2) := by decide +kernel
theorem dX12_orders_32 : decode cX12_orders 32 = .ok (.ireturn, 1) := by decide +kernel
theorem dX12_lastOf_0 : decode cX12_lastOf 0 = .ok (.iload 4, 2) := by decide +kernel
theorem dX12_lastOf_2 : decode cX12_lastOf 2 = .ok (.istore 5, 2) := by decide +kernel
theorem dX12_lastOf_4 : decode cX12_lastOf 4 = .ok (.iconst 0, 1) := by decide +kernel
theorem dX12_lastOf_5 : decode cX12_lastOf 5 = .ok (.istore 6, 2) := by decide +kernel
theorem dX12_lastOf_7 : decode cX12_lastOf 7 = .ok (.iload_n 1, 1) := by decide +kernel
theorem dX12_lastOf_8 : decode cX12_lastOf 8 = .ok (.iconst (-1), 1) := by decide +kernel
theorem dX12_lastOf_9 : decode cX12_lastOf 9 = .ok (.if_icmp .eq 71, 3) := by decide +kernel
theorem dX12_lastOf_12 : decode cX12_lastOf 12 = .ok (.iload 6, 2) := by decide +kernel
theorem dX12_lastOf_14 : decode cX12_lastOf 14 = .ok (.aload_n 0, 1) := by decide +kernel
theorem dX12_lastOf_15 : decode cX12_lastOf 15 = .ok (.getfield 60, 3) := by decide +kernel
theorem dX12_lastOf_18 : decode cX12_lastOf 18 = .ok (.iload_n 1, 1) := by decide +kernel
theorem dX12_lastOf_19 : decode cX12_lastOf 19 = .ok (.iaload, 1) := by decide +kernel
theorem dX12_lastOf_20 : decode cX12_lastOf 20 = .ok (.if_icmp .ge 60, 3) := by decide +kernel
theorem dX12_lastOf_23 : decode cX12_lastOf 23 = .ok (.bipush 30, 2) := by decide +kernel
theorem dX12_lastOf_25 : decode cX12_lastOf 25 = .ok (.iload_n 1, 1) := by decide +kernel
theorem dX12_lastOf_26 : decode cX12_lastOf 26 = .ok (.imul, 1) := by decide +kernel
theorem dX12_lastOf_27 : decode cX12_lastOf 27 = .ok (.iconst 3, 1) := by decide +kernel
theorem dX12_lastOf_28 : decode cX12_lastOf 28 = .ok (.iload 6, 2) := by decide +kernel
theorem dX12_lastOf_30 : decode cX12_lastOf 30 = .ok (.imul, 1) := by decide +kernel
theorem dX12_lastOf_31 : decode cX12_lastOf 31 = .ok (.iadd, 1) := by decide +kernel
theorem dX12_lastOf_32 : decode cX12_lastOf 32 = .ok (.istore 7, 2) := by decide +kernel
theorem dX12_lastOf_34 : decode cX12_lastOf 34 = .ok (.aload_n 0, 1) := by decide +kernel
theorem dX12_lastOf_35 : decode cX12_lastOf 35 = .ok (.getfield 63, 3) := by decide +kernel
theorem dX12_lastOf_38 : decode cX12_lastOf 38 = .ok (.iload 7, 2) := by decide +kernel
theorem dX12_lastOf_40 : decode cX12_lastOf 40 = .ok (.iaload, 1) := by decide +kernel
theorem dX12_lastOf_41 : decode cX12_lastOf 41 = .ok (.iload_n 2, 1) := by decide +kernel
theorem dX12_lastOf_42 : decode cX12_lastOf 42 = .ok (.if_icmp .ne 28, 3) := by decide +kernel
theorem dX12_lastOf_45 : decode cX12_lastOf 45 = .ok (.aload_n 0, 1) := by decide +kernel
theorem dX12_lastOf_46 : decode cX12_lastOf 46 = .ok (.getfield 63, 3) := by decide +kernel
theorem dX12_lastOf_49 : decode cX12_lastOf 49 = .ok (.iload 7, 2) := by decide +kernel
theorem dX12_lastOf_51 : decode cX12_lastOf 51 = .ok (.iconst 1, 1) := by decide +kernel
theorem dX12_lastOf_52 : decode cX12_lastOf 52 = .ok (.iadd, 1) := by decide +kernel
theorem dX12_lastOf_53 : decode cX12_lastOf 53 = .ok (.iaload, 1) := by decide +kernel
theorem dX12_lastOf_54 : decode cX12_lastOf 54 = .ok (.iload_n 3, 1) := by decide +kernel
theorem dX12_lastOf_55 : decode cX12_lastOf 55 = .ok (.if_icmp .ne 15, 3) := by decide +kernel
theorem dX12_lastOf_58 : decode cX12_lastOf 58 = .ok (.aload_n 0, 1) := by decide +kernel
theorem dX12_lastOf_59 : decode cX12_lastOf 59 = .ok (.getfield 63, 3) := by decide +kernel
theorem dX12_lastOf_62 : decode cX12_lastOf 62 = .ok (.iload 7, 2) := by decide +kernel
theorem dX12_lastOf_64 : decode cX12_lastOf 64 = .ok (.iconst 2, 1) := by decide +kernel
theorem dX12_lastOf_65 : decode cX12_lastOf 65 = .ok (.iadd, 1) := by decide +kernel
theorem dX12_lastOf_66 : decode cX12_lastOf 66 = .ok (.iaload, 1) := by decide +kernel
theorem dX12_lastOf_67 : decode cX12_lastOf 67 = .ok (.goto 5, 3) := by decide +kernel
theorem dX12_lastOf_70 : decode cX12_lastOf 70 = .ok (.iload 5, 2) := by decide +kernel
theorem dX12_lastOf_72 : decode cX12_lastOf 72 = .ok (.istore 5, 2) := by decide +kernel
theorem dX12_lastOf_74 : decode cX12_lastOf 74 = .ok (.iinc 6 1, 3) := by decide +kernel
theorem dX12_lastOf_77 : decode cX12_lastOf 77 = .ok (.goto (-70), 3) := by decide +kernel
theorem dX12_lastOf_80 : decode cX12_lastOf 80 = .ok (.iload 5, 2) := by decide +kernel
theorem dX12_lastOf_82 : decode cX12_lastOf 82 = .ok (.ireturn, 1) := by decide +kernel
theorem dX12_rankOf_0 : decode cX12_rankOf 0 = .ok (.aload_n 0, 1) := by decide +kernel
theorem dX12_rankOf_1 : decode cX12_rankOf 1 = .ok (.iload_n 1, 1) := by decide +kernel
theorem dX12_rankOf_2 : decode cX12_rankOf 2 = .ok (.iconst 0, 1) := by decide +kernel
theorem dX12_rankOf_3 : decode cX12_rankOf 3 = .ok (.iload_n 2, 1) := by decide +kernel
theorem dX12_rankOf_4 : decode cX12_rankOf 4 = .ok (.iload_n 2, 1) := by decide +kernel
theorem dX12_rankOf_5 : decode cX12_rankOf 5 = .ok (.iconst 3, 1) := by decide +kernel
theorem dX12_rankOf_6 : decode cX12_rankOf 6 = .ok (.if_icmp .ne 7, 3) := by decide +kernel
theorem dX12_rankOf_9 : decode cX12_rankOf 9 = .ok (.iconst 0, 1) := by decide +kernel
theorem dX12_rankOf_10 : decode cX12_rankOf 10 = .ok (.goto 30, 3) := by decide +kernel
theorem dX12_rankOf_13 : decode cX12_rankOf 13 = .ok (.iload_n 2, 1) := by decide +kernel
theorem dX12_rankOf_14 : decode cX12_rankOf 14 = .ok (.iconst 1, 1) := by decide +kernel
theorem dX12_rankOf_15 : decode cX12_rankOf 15 = .ok (.if_icmp .ne 7, 3) := by decide +kernel
theorem dX12_rankOf_18 : decode cX12_rankOf 18 = .ok (.iconst 1, 1) := by decide +kernel
theorem dX12_rankOf_19 : decode cX12_rankOf 19 = .ok (.goto 21, 3) := by decide +kernel
theorem dX12_rankOf_22 : decode cX12_rankOf 22 = .ok (.iload_n 2, 1) := by decide +kernel
theorem dX12_rankOf_23 : decode cX12_rankOf 23 = .ok (.iconst 4, 1) := by decide +kernel
theorem dX12_rankOf_24 : decode cX12_rankOf 24 = .ok (.if_icmp .ne 7, 3) := by decide +kernel
theorem dX12_rankOf_27 : decode cX12_rankOf 27 = .ok (.iconst 2, 1) := by decide +kernel
theorem dX12_rankOf_28 : decode cX12_rankOf 28 = .ok (.goto 12, 3) := by decide +kernel
theorem dX12_rankOf_31 : decode cX12_rankOf 31 = .ok (.iload_n 2, 1) := by decide +kernel
theorem dX12_rankOf_32 : decode cX12_rankOf 32 = .ok (.ifCond .ne 7, 3) := by decide +kernel
theorem dX12_rankOf_35 : decode cX12_rankOf 35 = .ok (.iconst 3, 1) := by decide +kernel
theorem dX12_rankOf_36 : decode cX12_rankOf 36 = .ok (.goto 4, 3) := by decide +kernel
theorem dX12_rankOf_39 : decode cX12_rankOf 39 = .ok (.iconst 4, 1) := by decide +kernel
theorem dX12_rankOf_40 : decode cX12_rankOf 40 = .ok (.invokevirtual 160, 3) := by decide +kernel
theorem dX12_rankOf_43 : decode cX12_rankOf 43 = .ok (.ireturn, 1) := by decide +kernel
theorem dX12_isTwice_0 : decode cX12_isTwice 0 = .ok (.iload_n 2, 1) := by decide +kernel
theorem dX12_isTwice_1 : decode cX12_isTwice 1 = .ok (.iconst 4, 1) := by decide +kernel
theorem dX12_isTwice_2 : decode cX12_isTwice 2 = .ok (.if_icmp .ne 7, 3) := by decide +kernel
theorem dX12_isTwice_5 : decode cX12_isTwice 5 = .ok (.iconst 1, 1) := by decide +kernel
theorem dX12_isTwice_6 : decode cX12_isTwice 6 = .ok (.goto 4, 3) := by decide +kernel
theorem dX12_isTwice_9 : decode cX12_isTwice 9 = .ok (.iconst 0, 1) := by decide +kernel
theorem dX12_isTwice_10 : decode cX12_isTwice 10 = .ok (.istore_n 3, 1) := by decide +kernel
theorem dX12_isTwice_11 : decode cX12_isTwice 11 = .ok (.iconst 0, 1) := by decide +kernel
theorem dX12_isTwice_12 : decode cX12_isTwice 12 = .ok (.istore 4, 2) := by decide +kernel
theorem dX12_isTwice_14 : decode cX12_isTwice 14 = .ok (.iload_n 1, 1) := by decide +kernel
theorem dX12_isTwice_15 : decode cX12_isTwice 15 = .ok (.iconst (-1), 1) := by decide +kernel
theorem dX12_isTwice_16 : decode cX12_isTwice 16 = .ok (.if_icmp .eq 68, 3) := by decide +kernel
theorem dX12_isTwice_19 : decode cX12_isTwice 19 = .ok (.iload 4, 2) := by decide +kernel
theorem dX12_isTwice_21 : decode cX12_isTwice 21 = .ok (.aload_n 0, 1) := by decide +kernel
theorem dX12_isTwice_22 : decode cX12_isTwice 22 = .ok (.getfield 60, 3) := by decide +kernel
theorem dX12_isTwice_25 : decode cX12_isTwice 25 = .ok (.iload_n 1, 1) := by decide +kernel
theorem dX12_isTwice_26 : decode cX12_isTwice 26 = .ok (.iaload, 1) := by decide +kernel
theorem dX12_isTwice_27 : decode cX12_isTwice 27 = .ok (.if_icmp .ge 57, 3) := by decide +kernel
theorem dX12_isTwice_30 : decode cX12_isTwice 30 = .ok (.iload_n 3, 1) := by decide +kernel
theorem dX12_isTwice_31 : decode cX12_isTwice 31 = .ok (.ifCond .ne 41, 3) := by decide +kernel
theorem dX12_isTwice_34 : decode cX12_isTwice 34 = .ok (.aload_n 0, 1) := by decide +kernel
theorem dX12_isTwice_35 : decode cX12_isTwice 35 = .ok (.getfield 63, 3) := by decide +kernel
theorem dX12_isTwice_38 : decode cX12_isTwice 38 = .ok (.bipush 30, 2) := by decide +kernel
theorem dX12_isTwice_40 : decode cX12_isTwice 40 = .ok (.iload_n 1, 1) := by decide +kernel
theorem dX12_isTwice_41 : decode cX12_isTwice 41 = .ok (.imul, 1) := by decide +kernel
theorem dX12_isTwice_42 : decode cX12_isTwice 42 = .ok (.iconst 3, 1) := by decide +kernel
theorem dX12_isTwice_43 : decode cX12_isTwice 43 = .ok (.iload 4, 2) := by decide +kernel
theorem dX12_isTwice_45 : decode cX12_isTwice 45 = .ok (.imul, 1) := by decide +kernel
theorem dX12_isTwice_46 : decode cX12_isTwice 46 = .ok (.iadd, 1) := by decide +kernel
theorem dX12_isTwice_47 : decode cX12_isTwice 47 = .ok (.iaload, 1) := by decide +kernel
theorem dX12_isTwice_48 : decode cX12_isTwice 48 = .ok (.iconst 4, 1) := by decide +kernel
theorem dX12_isTwice_49 : decode cX12_isTwice 49 = .ok (.if_icmp .ne 27, 3) := by decide +kernel
theorem dX12_isTwice_52 : decode cX12_isTwice 52 = .ok (.aload_n 0, 1) := by decide +kernel
theorem dX12_isTwice_53 : decode cX12_isTwice 53 = .ok (.getfield 63, 3) := by decide +kernel
theorem dX12_isTwice_56 : decode cX12_isTwice 56 = .ok (.bipush 30, 2) := by decide +kernel
theorem dX12_isTwice_58 : decode cX12_isTwice 58 = .ok (.iload_n 1, 1) := by decide +kernel
theorem dX12_isTwice_59 : decode cX12_isTwice 59 = .ok (.imul, 1) := by decide +kernel
theorem dX12_isTwice_60 : decode cX12_isTwice 60 = .ok (.iconst 3, 1) := by decide +kernel
theorem dX12_isTwice_61 : decode cX12_isTwice 61 = .ok (.iload 4, 2) := by decide +kernel
theorem dX12_isTwice_63 : decode cX12_isTwice 63 = .ok (.imul, 1) := by decide +kernel
theorem dX12_isTwice_64 : decode cX12_isTwice 64 = .ok (.iadd, 1) := by decide +kernel
theorem dX12_isTwice_65 : decode cX12_isTwice 65 = .ok (.iconst 1, 1) := by decide +kernel
theorem dX12_isTwice_66 : decode cX12_isTwice 66 = .ok (.iadd, 1) := by decide +kernel
theorem dX12_isTwice_67 : decode cX12_isTwice 67 = .ok (.iaload, 1) := by decide +kernel
theorem dX12_isTwice_68 : decode cX12_isTwice 68 = .ok (.iload_n 2, 1) := by decide +kernel
theorem dX12_isTwice_69 : decode cX12_isTwice 69 = .ok (.if_icmp .ne 7, 3) := by decide +kernel
theorem dX12_isTwice_72 : decode cX12_isTwice 72 = .ok (.iconst 1, 1) := by decide +kernel
theorem dX12_isTwice_73 : decode cX12_isTwice 73 = .ok (.goto 4, 3) := by decide +kernel
theorem dX12_isTwice_76 : decode cX12_isTwice 76 = .ok (.iconst 0, 1) := by decide +kernel
theorem dX12_isTwice_77 : decode cX12_isTwice 77 = .ok (.istore_n 3, 1) := by decide +kernel
theorem dX12_isTwice_78 : decode cX12_isTwice 78 = .ok (.iinc 4 1, 3) := by decide +kernel
theorem dX12_isTwice_81 : decode cX12_isTwice 81 = .ok (.goto (-67), 3) := by decide +kernel
theorem dX12_isTwice_84 : decode cX12_isTwice 84 = .ok (.iload_n 3, 1) := by decide +kernel
theorem dX12_isTwice_85 : decode cX12_isTwice 85 = .ok (.ireturn, 1) := by decide +kernel
theorem dX12_isNightHour_0 : decode cX12_isNightHour 0 = .ok (.iconst 1, 1) := by decide +kernel
theorem dX12_isNightHour_1 : decode cX12_isNightHour 1 = .ok (.istore_n 3, 1) := by decide +kernel
theorem dX12_isNightHour_2 : decode cX12_isNightHour 2 = .ok (.iconst 0, 1) := by decide +kernel
theorem dX12_isNightHour_3 : decode cX12_isNightHour 3 = .ok (.istore 4, 2) := by decide +kernel
theorem dX12_isNightHour_5 : decode cX12_isNightHour 5 = .ok (.iload_n 1, 1) := by decide +kernel
theorem dX12_isNightHour_6 : decode cX12_isNightHour 6 = .ok (.iconst (-1), 1) := by decide +kernel
theorem dX12_isNightHour_7 : decode cX12_isNightHour 7 = .ok (.if_icmp .eq 100, 3) := by decide +kernel
theorem dX12_isNightHour_10 : decode cX12_isNightHour 10 = .ok (.iload 4, 2) := by decide +kernel
theorem dX12_isNightHour_12 : decode cX12_isNightHour 12 = .ok (.aload_n 0, 1) := by decide +kernel
theorem dX12_isNightHour_13 : decode cX12_isNightHour 13 = .ok (.getfield 60, 3) := by decide +kernel
theorem dX12_isNightHour_16 : decode cX12_isNightHour 16 = .ok (.iload_n 1, 1) := by decide +kernel
theorem dX12_isNightHour_17 : decode cX12_isNightHour 17 = .ok (.iaload, 1) := by decide +kernel
theorem dX12_isNightHour_18 : decode cX12_isNightHour 18 = .ok (.if_icmp .ge 89, 3) := by decide +kernel
theorem dX12_isNightHour_21 : decode cX12_isNightHour 21 = .ok (.bipush 30, 2) := by decide +kernel
theorem dX12_isNightHour_23 : decode cX12_isNightHour 23 = .ok (.iload_n 1, 1) := by decide +kernel
theorem dX12_isNightHour_24 : decode cX12_isNightHour 24 = .ok (.imul, 1) := by decide +kernel
theorem dX12_isNightHour_25 : decode cX12_isNightHour 25 = .ok (.iconst 3, 1) := by decide +kernel
theorem dX12_isNightHour_26 : decode cX12_isNightHour 26 = .ok (.iload 4, 2) := by decide +kernel
theorem dX12_isNightHour_28 : decode cX12_isNightHour 28 = .ok (.imul, 1) := by decide +kernel
theorem dX12_isNightHour_29 : decode cX12_isNightHour 29 = .ok (.iadd, 1) := by decide +kernel
theorem dX12_isNightHour_30 : decode cX12_isNightHour 30 = .ok (.istore 5, 2) := by decide +kernel
theorem dX12_isNightHour_32 : decode cX12_isNightHour 32 = .ok (.aload_n 0, 1) := by decide +kernel
theorem dX12_isNightHour_33 : decode cX12_isNightHour 33 = .ok (.getfield 63, 3) := by decide +kernel
theorem dX12_isNightHour_36 : decode cX12_isNightHour 36 = .ok (.iload 5, 2) := by decide +kernel
theorem dX12_isNightHour_38 : decode cX12_isNightHour 38 = .ok (.iconst 1, 1) := by decide +kernel
theorem dX12_isNightHour_39 : decode cX12_isNightHour 39 = .ok (.iadd, 1) := by decide +kernel
theorem dX12_isNightHour_40 : decode cX12_isNightHour 40 = .ok (.iaload, 1) := by decide +kernel
theorem dX12_isNightHour_41 : decode cX12_isNightHour 41 = .ok (.istore 6, 2) := by decide +kernel
theorem dX12_isNightHour_43 : decode cX12_isNightHour 43 = .ok (.aload_n 0, 1) := by decide +kernel
theorem dX12_isNightHour_44 : decode cX12_isNightHour 44 = .ok (.getfield 63, 3) := by decide +kernel
theorem dX12_isNightHour_47 : decode cX12_isNightHour 47 = .ok (.iload 5, 2) := by decide +kernel
theorem dX12_isNightHour_49 : decode cX12_isNightHour 49 = .ok (.iconst 2, 1) := by decide +kernel
theorem dX12_isNightHour_50 : decode cX12_isNightHour 50 = .ok (.iadd, 1) := by decide +kernel
theorem dX12_isNightHour_51 : decode cX12_isNightHour 51 = .ok (.iaload, 1) := by decide +kernel
theorem dX12_isNightHour_52 : decode cX12_isNightHour 52 = .ok (.istore 7, 2) := by decide +kernel
theorem dX12_isNightHour_54 : decode cX12_isNightHour 54 = .ok (.aload_n 0, 1) := by decide +kernel
theorem dX12_isNightHour_55 : decode cX12_isNightHour 55 = .ok (.getfield 63, 3) := by decide +kernel
theorem dX12_isNightHour_58 : decode cX12_isNightHour 58 = .ok (.iload 5, 2) := by decide +kernel
theorem dX12_isNightHour_60 : decode cX12_isNightHour 60 = .ok (.iaload, 1) := by decide +kernel
theorem dX12_isNightHour_61 : decode cX12_isNightHour 61 = .ok (.iconst 3, 1) := by decide +kernel
theorem dX12_isNightHour_62 : decode cX12_isNightHour 62 = .ok (.if_icmp .ne 39, 3) := by decide +kernel
theorem dX12_isNightHour_65 : decode cX12_isNightHour 65 = .ok (.iload 6, 2) := by decide +kernel
theorem dX12_isNightHour_67 : decode cX12_isNightHour 67 = .ok (.iload 7, 2) := by decide +kernel
theorem dX12_isNightHour_69 : decode cX12_isNightHour 69 = .ok (.if_icmp .gt 14, 3) := by decide +kernel
theorem dX12_isNightHour_72 : decode cX12_isNightHour 72 = .ok (.iload_n 2, 1) := by decide +kernel
theorem dX12_isNightHour_73 : decode cX12_isNightHour 73 = .ok (.iload 6, 2) := by decide +kernel
theorem dX12_isNightHour_75 : decode cX12_isNightHour 75 = .ok (.iload 7, 2) := by decide +kernel
theorem dX12_isNightHour_77 : decode cX12_isNightHour 77 = .ok (.invokestatic 123, 3) := by decide +kernel
theorem dX12_isNightHour_80 : decode cX12_isNightHour 80 = .ok (.goto 20, 3) := by decide +kernel
theorem dX12_isNightHour_83 : decode cX12_isNightHour 83 = .ok (.iload_n 2, 1) := by decide +kernel
theorem dX12_isNightHour_84 : decode cX12_isNightHour 84 = .ok (.iload 6, 2) := by decide +kernel
theorem dX12_isNightHour_86 : decode cX12_isNightHour 86 = .ok (.if_icmp .ge 9, 3) := by decide +kernel
theorem dX12_isNightHour_89 : decode cX12_isNightHour 89 = .ok (.iload_n 2, 1) := by decide +kernel
theorem dX12_isNightHour_90 : decode cX12_isNightHour 90 = .ok (.iload 7, 2) := by decide +kernel
theorem dX12_isNightHour_92 : decode cX12_isNightHour 92 = .ok (.if_icmp .gt 7, 3) := by decide +kernel
theorem dX12_isNightHour_95 : decode cX12_isNightHour 95 = .ok (.iconst 1, 1) := by decide +kernel
theorem dX12_isNightHour_96 : decode cX12_isNightHour 96 = .ok (.goto 4, 3) := by decide +kernel
theorem dX12_isNightHour_99 : decode cX12_isNightHour 99 = .ok (.iconst 0, 1) := by decide +kernel
theorem dX12_isNightHour_100 : decode cX12_isNightHour 100 = .ok (.istore_n 3, 1) := by decide +kernel
theorem dX12_isNightHour_101 : decode cX12_isNightHour 101 = .ok (.iinc 4 1, 3) := by decide +kernel
theorem dX12_isNightHour_104 : decode cX12_isNightHour 104 = .ok (.goto (-99), 3) := by decide +kernel
theorem dX12_isNightHour_107 : decode cX12_isNightHour 107 = .ok (.iload_n 3, 1) := by decide +kernel
theorem dX12_isNightHour_108 : decode cX12_isNightHour 108 = .ok (.ireturn, 1) := by decide +kernel
theorem dX12_told_0 : decode cX12_told 0 = .ok (.iload_n 1, 1) := by decide +kernel
theorem dX12_told_1 : decode cX12_told 1 = .ok (.iconst (-1), 1) := by decide +kernel
theorem dX12_told_2 : decode cX12_told 2 = .ok (.aload_n 0, 1) := by decide +kernel
theorem dX12_told_3 : decode cX12_told 3 = .ok (.getfield 310, 3) := by decide +kernel
theorem dX12_told_6 : decode cX12_told 6 = .ok (.iconst 1, 1) := by decide +kernel
theorem dX12_told_7 : decode cX12_told 7 = .ok (.isub, 1) := by decide +kernel
theorem dX12_told_8 : decode cX12_told 8 = .ok (.invokestatic 123, 3) := by decide +kernel
theorem dX12_told_11 : decode cX12_told 11 = .ok (.ifCond .ne 6, 3) := by decide +kernel
theorem dX12_told_14 : decode cX12_told 14 = .ok (.bipush (-2), 2) := by decide +kernel
theorem dX12_told_16 : decode cX12_told 16 = .ok (.ireturn, 1) := by decide +kernel
theorem dX12_told_17 : decode cX12_told 17 = .ok (.iload_n 2, 1) := by decide +kernel
theorem dX12_told_18 : decode cX12_told 18 = .ok (.iconst 0, 1) := by decide +kernel
theorem dX12_told_19 : decode cX12_told 19 = .ok (.iconst 5, 1) := by decide +kernel
theorem dX12_told_20 : decode cX12_told 20 = .ok (.invokestatic 123, 3) := by decide +kernel
theorem dX12_told_23 : decode cX12_told 23 = .ok (.ifCond .eq 31, 3) := by decide +kernel
theorem dX12_told_26 : decode cX12_told 26 = .ok (.iload_n 3, 1) := by decide +kernel
theorem dX12_told_27 : decode cX12_told 27 = .ok (.iconst 0, 1) := by decide +kernel
theorem dX12_told_28 : decode cX12_told 28 = .ok (.iload_n 2, 1) := by decide +kernel
theorem dX12_told_29 : decode cX12_told 29 = .ok (.iconst 3, 1) := by decide +kernel
theorem dX12_told_30 : decode cX12_told 30 = .ok (.if_icmp .ge 7, 3) := by decide +kernel
theorem dX12_told_33 : decode cX12_told 33 = .ok (.iconst 4, 1) := by decide +kernel
theorem dX12_told_34 : decode cX12_told 34 = .ok (.goto 14, 3) := by decide +kernel
theorem dX12_told_37 : decode cX12_told 37 = .ok (.iload_n 2, 1) := by decide +kernel
theorem dX12_told_38 : decode cX12_told 38 = .ok (.iconst 5, 1) := by decide +kernel
theorem dX12_told_39 : decode cX12_told 39 = .ok (.if_icmp .ge 7, 3) := by decide +kernel
theorem dX12_told_42 : decode cX12_told 42 = .ok (.iconst 0, 1) := by decide +kernel
theorem dX12_told_43 : decode cX12_told 43 = .ok (.goto 5, 3) := by decide +kernel
theorem dX12_told_46 : decode cX12_told 46 = .ok (.bipush 23, 2) := by decide +kernel
theorem dX12_told_48 : decode cX12_told 48 = .ok (.invokestatic 123, 3) := by decide +kernel
theorem dX12_told_51 : decode cX12_told 51 = .ok (.ifCond .ne 6, 3) := by decide +kernel
theorem dX12_told_54 : decode cX12_told 54 = .ok (.bipush (-3), 2) := by decide +kernel
theorem dX12_told_56 : decode cX12_told 56 = .ok (.ireturn, 1) := by decide +kernel
theorem dX12_told_57 : decode cX12_told 57 = .ok (.iload_n 2, 1) := by decide +kernel
theorem dX12_told_58 : decode cX12_told 58 = .ok (.tableswitch 83 0 4 #[34, 41, 50, 65, 74], 34) := by decide +kernel
theorem dX12_told_92 : decode cX12_told 92 = .ok (.aload_n 0, 1) := by decide +kernel
theorem dX12_told_93 : decode cX12_told 93 = .ok (.iload_n 1, 1) := by decide +kernel
theorem dX12_told_94 : decode cX12_told 94 = .ok (.iload_n 3, 1) := by decide +kernel
theorem dX12_told_95 : decode cX12_told 95 = .ok (.invokevirtual 196, 3) := by decide +kernel
theorem dX12_told_98 : decode cX12_told 98 = .ok (.ireturn, 1) := by decide +kernel
theorem dX12_told_99 : decode cX12_told 99 = .ok (.aload_n 0, 1) := by decide +kernel
theorem dX12_told_100 : decode cX12_told 100 = .ok (.iload_n 1, 1) := by decide +kernel
theorem dX12_told_101 : decode cX12_told 101 = .ok (.iconst 1, 1) := by decide +kernel
theorem dX12_told_102 : decode cX12_told 102 = .ok (.iload_n 3, 1) := by decide +kernel
theorem dX12_told_103 : decode cX12_told 103 = .ok (.iconst 1, 1) := by decide +kernel
theorem dX12_told_104 : decode cX12_told 104 = .ok (.invokevirtual 160, 3) := by decide +kernel
theorem dX12_told_107 : decode cX12_told 107 = .ok (.ireturn, 1) := by decide +kernel
theorem dX12_told_108 : decode cX12_told 108 = .ok (.aload_n 0, 1) := by decide +kernel
theorem dX12_told_109 : decode cX12_told 109 = .ok (.iload_n 1, 1) := by decide +kernel
theorem dX12_told_110 : decode cX12_told 110 = .ok (.iload_n 3, 1) := by decide +kernel
theorem dX12_told_111 : decode cX12_told 111 = .ok (.invokevirtual 164, 3) := by decide +kernel
theorem dX12_told_114 : decode cX12_told 114 = .ok (.ifCond .eq 7, 3) := by decide +kernel
theorem dX12_told_117 : decode cX12_told 117 = .ok (.iconst 1, 1) := by decide +kernel
theorem dX12_told_118 : decode cX12_told 118 = .ok (.goto 4, 3) := by decide +kernel
theorem dX12_told_121 : decode cX12_told 121 = .ok (.iconst 0, 1) := by decide +kernel
theorem dX12_told_122 : decode cX12_told 122 = .ok (.ireturn, 1) := by decide +kernel
theorem dX12_told_123 : decode cX12_told 123 = .ok (.aload_n 0, 1) := by decide +kernel
theorem dX12_told_124 : decode cX12_told 124 = .ok (.iload_n 1, 1) := by decide +kernel
theorem dX12_told_125 : decode cX12_told 125 = .ok (.iconst 2, 1) := by decide +kernel
theorem dX12_told_126 : decode cX12_told 126 = .ok (.iconst 0, 1) := by decide +kernel
theorem dX12_told_127 : decode cX12_told 127 = .ok (.iconst 0, 1) := by decide +kernel
theorem dX12_told_128 : decode cX12_told 128 = .ok (.invokevirtual 160, 3) := by decide +kernel
theorem dX12_told_131 : decode cX12_told 131 = .ok (.ireturn, 1) := by decide +kernel
theorem dX12_told_132 : decode cX12_told 132 = .ok (.aload_n 0, 1) := by decide +kernel
theorem dX12_told_133 : decode cX12_told 133 = .ok (.iload_n 1, 1) := by decide +kernel
theorem dX12_told_134 : decode cX12_told 134 = .ok (.iconst 5, 1) := by decide +kernel
theorem dX12_told_135 : decode cX12_told 135 = .ok (.iconst 0, 1) := by decide +kernel
theorem dX12_told_136 : decode cX12_told 136 = .ok (.iconst 0, 1) := by decide +kernel
theorem dX12_told_137 : decode cX12_told 137 = .ok (.invokevirtual 160, 3) := by decide +kernel
theorem dX12_told_140 : decode cX12_told 140 = .ok (.ireturn, 1) := by decide +kernel
theorem dX12_told_141 : decode cX12_told 141 = .ok (.aload_n 0, 1) := by decide +kernel
theorem dX12_told_142 : decode cX12_told 142 = .ok (.iload_n 1, 1) := by decide +kernel
theorem dX12_told_143 : decode cX12_told 143 = .ok (.iload_n 3, 1) := by decide +kernel
theorem dX12_told_144 : decode cX12_told 144 = .ok (.invokevirtual 187, 3) := by decide +kernel
theorem dX12_told_147 : decode cX12_told 147 = .ok (.ifCond .eq 7, 3) := by decide +kernel
theorem dX12_told_150 : decode cX12_told 150 = .ok (.iconst 1, 1) := by decide +kernel
theorem dX12_told_151 : decode cX12_told 151 = .ok (.goto 4, 3) := by decide +kernel
theorem dX12_told_154 : decode cX12_told 154 = .ok (.iconst 0, 1) := by decide +kernel
theorem dX12_told_155 : decode cX12_told 155 = .ok (.ireturn, 1) := by decide +kernel
theorem dX12_back_0 : decode cX12_back 0 = .ok (.aload_n 0, 1) := by decide +kernel
theorem dX12_back_1 : decode cX12_back 1 = .ok (.iload_n 1, 1) := by decide +kernel
theorem dX12_back_2 : decode cX12_back 2 = .ok (.invokevirtual 213, 3) := by decide +kernel
theorem dX12_back_5 : decode cX12_back 5 = .ok (.ifCond .ne 6, 3) := by decide +kernel
theorem dX12_back_8 : decode cX12_back 8 = .ok (.bipush (-2), 2) := by decide +kernel
theorem dX12_back_10 : decode cX12_back 10 = .ok (.ireturn, 1) := by decide +kernel
theorem dX12_back_11 : decode cX12_back 11 = .ok (.aload_n 0, 1) := by decide +kernel
theorem dX12_back_12 : decode cX12_back 12 = .ok (.getfield 39, 3) := by decide +kernel
theorem dX12_back_15 : decode cX12_back 15 = .ok (.bipush 6, 2) := by decide +kernel
theorem dX12_back_17 : decode cX12_back 17 = .ok (.iload_n 1, 1) := by decide +kernel
theorem dX12_back_18 : decode cX12_back 18 = .ok (.imul, 1) := by decide +kernel
theorem dX12_back_19 : decode cX12_back 19 = .ok (.iconst 5, 1) := by decide +kernel
theorem dX12_back_20 : decode cX12_back 20 = .ok (.iadd, 1) := by decide +kernel
theorem dX12_back_21 : decode cX12_back 21 = .ok (.iaload, 1) := by decide +kernel
theorem dX12_back_22 : decode cX12_back 22 = .ok (.aload_n 0, 1) := by decide +kernel
theorem dX12_back_23 : decode cX12_back 23 = .ok (.aload_n 0, 1) := by decide +kernel
theorem dX12_back_24 : decode cX12_back 24 = .ok (.aload_n 0, 1) := by decide +kernel
theorem dX12_back_25 : decode cX12_back 25 = .ok (.getfield 39, 3) := by decide +kernel
theorem dX12_back_28 : decode cX12_back 28 = .ok (.bipush 6, 2) := by decide +kernel
theorem dX12_back_30 : decode cX12_back 30 = .ok (.iload_n 1, 1) := by decide +kernel
theorem dX12_back_31 : decode cX12_back 31 = .ok (.imul, 1) := by decide +kernel
theorem dX12_back_32 : decode cX12_back 32 = .ok (.iconst 1, 1) := by decide +kernel
theorem dX12_back_33 : decode cX12_back 33 = .ok (.iadd, 1) := by decide +kernel
theorem dX12_back_34 : decode cX12_back 34 = .ok (.iaload, 1) := by decide +kernel
theorem dX12_back_35 : decode cX12_back 35 = .ok (.aload_n 0, 1) := by decide +kernel
theorem dX12_back_36 : decode cX12_back 36 = .ok (.getfield 144, 3) := by decide +kernel
theorem dX12_back_39 : decode cX12_back 39 = .ok (.invokevirtual 157, 3) := by decide +kernel
theorem dX12_back_42 : decode cX12_back 42 = .ok (.iconst 5, 1) := by decide +kernel
theorem dX12_back_43 : decode cX12_back 43 = .ok (.iconst 0, 1) := by decide +kernel
theorem dX12_back_44 : decode cX12_back 44 = .ok (.iconst 0, 1) := by decide +kernel
theorem dX12_back_45 : decode cX12_back 45 = .ok (.invokevirtual 160, 3) := by decide +kernel
theorem dX12_back_48 : decode cX12_back 48 = .ok (.imul, 1) := by decide +kernel
theorem dX12_back_49 : decode cX12_back 49 = .ok (.bipush 100, 2) := by decide +kernel
theorem dX12_back_51 : decode cX12_back 51 = .ok (.idiv, 1) := by decide +kernel
theorem dX12_back_52 : decode cX12_back 52 = .ok (.ireturn, 1) := by decide +kernel
theorem dX12_isSpelled_0 : decode cX12_isSpelled 0 = .ok (.iload_n 3, 1) := by decide +kernel
theorem dX12_isSpelled_1 : decode cX12_isSpelled 1 = .ok (.iconst 1, 1) := by decide +kernel
theorem dX12_isSpelled_2 : decode cX12_isSpelled 2 = .ok (.bipush 8, 2) := by decide +kernel
theorem dX12_isSpelled_4 : decode cX12_isSpelled 4 = .ok (.invokestatic 123, 3) := by decide +kernel
theorem dX12_isSpelled_7 : decode cX12_isSpelled 7 = .ok (.istore 4, 2) := by decide +kernel
theorem dX12_isSpelled_9 : decode cX12_isSpelled 9 = .ok (.iconst 0, 1) := by decide +kernel
theorem dX12_isSpelled_10 : decode cX12_isSpelled 10 = .ok (.istore 5, 2) := by decide +kernel
theorem dX12_isSpelled_12 : decode cX12_isSpelled 12 = .ok (.iload 5, 2) := by decide +kernel
theorem dX12_isSpelled_14 : decode cX12_isSpelled 14 = .ok (.iload_n 3, 1) := by decide +kernel
theorem dX12_isSpelled_15 : decode cX12_isSpelled 15 = .ok (.if_icmp .ge 49, 3) := by decide +kernel
theorem dX12_isSpelled_18 : decode cX12_isSpelled 18 = .ok (.iload 4, 2) := by decide +kernel
theorem dX12_isSpelled_20 : decode cX12_isSpelled 20 = .ok (.ifCond .eq 44, 3) := by decide +kernel
theorem dX12_isSpelled_23 : decode cX12_isSpelled 23 = .ok (.aload_n 0, 1) := by decide +kernel
theorem dX12_isSpelled_24 : decode cX12_isSpelled 24 = .ok (.getfield 75, 3) := by decide +kernel
theorem dX12_isSpelled_27 : decode cX12_isSpelled 27 = .ok (.iload 5, 2) := by decide +kernel
theorem dX12_isSpelled_29 : decode cX12_isSpelled 29 = .ok (.lload_n 1, 1) := by decide +kernel
theorem dX12_isSpelled_30 : decode cX12_isSpelled 30 = .ok (.bipush 8, 2) := by decide +kernel
theorem dX12_isSpelled_32 : decode cX12_isSpelled 32 = .ok (.iload 5, 2) := by decide +kernel
theorem dX12_isSpelled_34 : decode cX12_isSpelled 34 = .ok (.imul, 1) := by decide +kernel
theorem dX12_isSpelled_35 : decode cX12_isSpelled 35 = .ok (.lshr, 1) := by decide +kernel
theorem dX12_isSpelled_36 : decode cX12_isSpelled 36 = .ok (.ldc2_w 227, 3) := by decide +kernel
theorem dX12_isSpelled_39 : decode cX12_isSpelled 39 = .ok (.land, 1) := by decide +kernel
theorem dX12_isSpelled_40 : decode cX12_isSpelled 40 = .ok (.l2i, 1) := by decide +kernel
theorem dX12_isSpelled_41 : decode cX12_isSpelled 41 = .ok (.iastore, 1) := by decide +kernel
theorem dX12_isSpelled_42 : decode cX12_isSpelled 42 = .ok (.aload_n 0, 1) := by decide +kernel
theorem dX12_isSpelled_43 : decode cX12_isSpelled 43 = .ok (.getfield 75, 3) := by decide +kernel
theorem dX12_isSpelled_46 : decode cX12_isSpelled 46 = .ok (.iload 5, 2) := by decide +kernel
theorem dX12_isSpelled_48 : decode cX12_isSpelled 48 = .ok (.iaload, 1) := by decide +kernel
theorem dX12_isSpelled_49 : decode cX12_isSpelled 49 = .ok (.bipush 97, 2) := by decide +kernel
theorem dX12_isSpelled_51 : decode cX12_isSpelled 51 = .ok (.bipush 122, 2) := by decide +kernel
theorem dX12_isSpelled_53 : decode cX12_isSpelled 53 = .ok (.invokestatic 123, 3) := by decide +kernel
theorem dX12_isSpelled_56 : decode cX12_isSpelled 56 = .ok (.istore 4, 2) := by decide +kernel
theorem dX12_isSpelled_58 : decode cX12_isSpelled 58 = .ok (.iinc 5 1, 3) := by decide +kernel
theorem dX12_isSpelled_61 : decode cX12_isSpelled 61 = .ok (.goto (-49), 3) := by decide +kernel
theorem dX12_isSpelled_64 : decode cX12_isSpelled 64 = .ok (.iload 4, 2) := by decide +kernel
theorem dX12_isSpelled_66 : decode cX12_isSpelled 66 = .ok (.ireturn, 1) := by decide +kernel
theorem dX12_word_0 : decode cX12_word 0 = .ok (.iload_n 1, 1) := by decide +kernel
theorem dX12_word_1 : decode cX12_word 1 = .ok (.iconst 0, 1) := by decide +kernel
theorem dX12_word_2 : decode cX12_word 2 = .ok (.bipush 15, 2) := by decide +kernel
theorem dX12_word_4 : decode cX12_word 4 = .ok (.invokestatic 123, 3) := by decide +kernel
theorem dX12_word_7 : decode cX12_word 7 = .ok (.ifCond .ne 6, 3) := by decide +kernel
theorem dX12_word_10 : decode cX12_word 10 = .ok (.bipush (-2), 2) := by decide +kernel
theorem dX12_word_12 : decode cX12_word 12 = .ok (.ireturn, 1) := by decide +kernel
theorem dX12_word_13 : decode cX12_word 13 = .ok (.aload_n 0, 1) := by decide +kernel
theorem dX12_word_14 : decode cX12_word 14 = .ok (.lload_n 2, 1) := by decide +kernel
theorem dX12_word_15 : decode cX12_word 15 = .ok (.iload 4, 2) := by decide +kernel
theorem dX12_word_17 : decode cX12_word 17 = .ok (.invokevirtual 316, 3) := by decide +kernel
theorem dX12_word_20 : decode cX12_word 20 = .ok (.ifCond .ne 6, 3) := by decide +kernel
theorem dX12_word_23 : decode cX12_word 23 = .ok (.bipush (-3), 2) := by decide +kernel
theorem dX12_word_25 : decode cX12_word 25 = .ok (.ireturn, 1) := by decide +kernel
theorem dX12_word_26 : decode cX12_word 26 = .ok (.aload_n 0, 1) := by decide +kernel
theorem dX12_word_27 : decode cX12_word 27 = .ok (.getfield 69, 3) := by decide +kernel
theorem dX12_word_30 : decode cX12_word 30 = .ok (.iload_n 1, 1) := by decide +kernel
theorem dX12_word_31 : decode cX12_word 31 = .ok (.iload 4, 2) := by decide +kernel
theorem dX12_word_33 : decode cX12_word 33 = .ok (.iastore, 1) := by decide +kernel
theorem dX12_word_34 : decode cX12_word 34 = .ok (.iconst 0, 1) := by decide +kernel
theorem dX12_word_35 : decode cX12_word 35 = .ok (.istore 5, 2) := by decide +kernel
theorem dX12_word_37 : decode cX12_word 37 = .ok (.iload 5, 2) := by decide +kernel
theorem dX12_word_39 : decode cX12_word 39 = .ok (.iload 4, 2) := by decide +kernel
theorem dX12_word_41 : decode cX12_word 41 = .ok (.if_icmp .ge 28, 3) := by decide +kernel
theorem dX12_word_44 : decode cX12_word 44 = .ok (.aload_n 0, 1) := by decide +kernel
theorem dX12_word_45 : decode cX12_word 45 = .ok (.getfield 72, 3) := by decide +kernel
theorem dX12_word_48 : decode cX12_word 48 = .ok (.bipush 8, 2) := by decide +kernel
theorem dX12_word_50 : decode cX12_word 50 = .ok (.iload_n 1, 1) := by decide +kernel
theorem dX12_word_51 : decode cX12_word 51 = .ok (.imul, 1) := by decide +kernel
theorem dX12_word_52 : decode cX12_word 52 = .ok (.iload 5, 2) := by decide +kernel
theorem dX12_word_54 : decode cX12_word 54 = .ok (.iadd, 1) := by decide +kernel
theorem dX12_word_55 : decode cX12_word 55 = .ok (.aload_n 0, 1) := by decide +kernel
theorem dX12_word_56 : decode cX12_word 56 = .ok (.getfield 75, 3) := by decide +kernel
theorem dX12_word_59 : decode cX12_word 59 = .ok (.iload 5, 2) := by decide +kernel
theorem dX12_word_61 : decode cX12_word 61 = .ok (.iaload, 1) := by decide +kernel
theorem dX12_word_62 : decode cX12_word 62 = .ok (.iastore, 1) := by decide +kernel
theorem dX12_word_63 : decode cX12_word 63 = .ok (.iinc 5 1, 3) := by decide +kernel
theorem dX12_word_66 : decode cX12_word 66 = .ok (.goto (-29), 3) := by decide +kernel
theorem dX12_word_69 : decode cX12_word 69 = .ok (.iconst 1, 1) := by decide +kernel
theorem dX12_word_70 : decode cX12_word 70 = .ok (.ireturn, 1) := by decide +kernel
theorem dX12_addSigns_0 : decode cX12_addSigns 0 = .ok (.aload_n 0, 1) := by decide +kernel
theorem dX12_addSigns_1 : decode cX12_addSigns 1 = .ok (.getfield 90, 3) := by decide +kernel
theorem dX12_addSigns_4 : decode cX12_addSigns 4 = .ok (.iload_n 3, 1) := by decide +kernel
theorem dX12_addSigns_5 : decode cX12_addSigns 5 = .ok (.bipush 97, 2) := by decide +kernel
theorem dX12_addSigns_7 : decode cX12_addSigns 7 = .ok (.isub, 1) := by decide +kernel
theorem dX12_addSigns_8 : decode cX12_addSigns 8 = .ok (.iaload, 1) := by decide +kernel
theorem dX12_addSigns_9 : decode cX12_addSigns 9 = .ok (.istore 4, 2) := by decide +kernel
theorem dX12_addSigns_11 : decode cX12_addSigns 11 = .ok (.iconst 0, 1) := by decide +kernel
theorem dX12_addSigns_12 : decode cX12_addSigns 12 = .ok (.istore 5, 2) := by decide +kernel
theorem dX12_addSigns_14 : decode cX12_addSigns 14 = .ok (.iload 4, 2) := by decide +kernel
theorem dX12_addSigns_16 : decode cX12_addSigns 16 = .ok (.iload 5, 2) := by decide +kernel
theorem dX12_addSigns_18 : decode cX12_addSigns 18 = .ok (.ishr, 1) := by decide +kernel
theorem dX12_addSigns_19 : decode cX12_addSigns 19 = .ok (.iconst 1, 1) := by decide +kernel
theorem dX12_addSigns_20 : decode cX12_addSigns 20 = .ok (.if_icmp .le 9, 3) := by decide +kernel
theorem dX12_addSigns_23 : decode cX12_addSigns 23 = .ok (.iinc 5 1, 3) := by decide +kernel
theorem dX12_addSigns_26 : decode cX12_addSigns 26 = .ok (.goto (-12), 3) := by decide +kernel
theorem dX12_addSigns_29 : decode cX12_addSigns 29 = .ok (.iconst 0, 1) := by decide +kernel
theorem dX12_addSigns_30 : decode cX12_addSigns 30 = .ok (.istore 6, 2) := by decide +kernel
theorem dX12_addSigns_32 : decode cX12_addSigns 32 = .ok (.iload 6, 2) := by decide +kernel
theorem dX12_addSigns_34 : decode cX12_addSigns 34 = .ok (.iload 5, 2) := by decide +kernel
theorem dX12_addSigns_36 : decode cX12_addSigns 36 = .ok (.if_icmp .ge 27, 3) := by decide +kernel
theorem dX12_addSigns_39 : decode cX12_addSigns 39 = .ok (.aload_n 1, 1) := by decide +kernel
theorem dX12_addSigns_40 : decode cX12_addSigns 40 = .ok (.iload_n 2, 1) := by decide +kernel
theorem dX12_addSigns_41 : decode cX12_addSigns 41 = .ok (.iload 6, 2) := by decide +kernel
theorem dX12_addSigns_43 : decode cX12_addSigns 43 = .ok (.iadd, 1) := by decide +kernel
theorem dX12_addSigns_44 : decode cX12_addSigns 44 = .ok (.iload 4, 2) := by decide +kernel
theorem dX12_addSigns_46 : decode cX12_addSigns 46 = .ok (.iload 5, 2) := by decide +kernel
theorem dX12_addSigns_48 : decode cX12_addSigns 48 = .ok (.iconst 1, 1) := by decide +kernel
theorem dX12_addSigns_49 : decode cX12_addSigns 49 = .ok (.isub, 1) := by decide +kernel
theorem dX12_addSigns_50 : decode cX12_addSigns 50 = .ok (.iload 6, 2) := by decide +kernel
theorem dX12_addSigns_52 : decode cX12_addSigns 52 = .ok (.isub, 1) := by decide +kernel
theorem dX12_addSigns_53 : decode cX12_addSigns 53 = .ok (.ishr, 1) := by decide +kernel
theorem dX12_addSigns_54 : decode cX12_addSigns 54 = .ok (.iconst 1, 1) := by decide +kernel
theorem dX12_addSigns_55 : decode cX12_addSigns 55 = .ok (.iand, 1) := by decide +kernel
theorem dX12_addSigns_56 : decode cX12_addSigns 56 = .ok (.iastore, 1) := by decide +kernel
theorem dX12_addSigns_57 : decode cX12_addSigns 57 = .ok (.iinc 6 1, 3) := by decide +kernel
theorem dX12_addSigns_60 : decode cX12_addSigns 60 = .ok (.goto (-28), 3) := by decide +kernel
theorem dX12_addSigns_63 : decode cX12_addSigns 63 = .ok (.iload_n 2, 1) := by decide +kernel
theorem dX12_addSigns_64 : decode cX12_addSigns 64 = .ok (.iload 5, 2) := by decide +kernel
theorem dX12_addSigns_66 : decode cX12_addSigns 66 = .ok (.iadd, 1) := by decide +kernel
theorem dX12_addSigns_67 : decode cX12_addSigns 67 = .ok (.ireturn, 1) := by decide +kernel
theorem dX12_farFrom_0 : decode cX12_farFrom 0 = .ok (.iconst 0, 1) := by decide +kernel
theorem dX12_farFrom_1 : decode cX12_farFrom 1 = .ok (.istore_n 3, 1) := by decide +kernel
theorem dX12_farFrom_2 : decode cX12_farFrom 2 = .ok (.iconst 0, 1) := by decide +kernel
theorem dX12_farFrom_3 : decode cX12_farFrom 3 = .ok (.istore 4, 2) := by decide +kernel
theorem dX12_farFrom_5 : decode cX12_farFrom 5 = .ok (.iload 4, 2) := by decide +kernel
theorem dX12_farFrom_7 : decode cX12_farFrom 7 = .ok (.iload_n 2, 1) := by decide +kernel
theorem dX12_farFrom_8 : decode cX12_farFrom 8 = .ok (.if_icmp .ge 41, 3) := by decide +kernel
theorem dX12_farFrom_11 : decode cX12_farFrom 11 = .ok (.iload 4, 2) := by decide +kernel
theorem dX12_farFrom_13 : decode cX12_farFrom 13 = .ok (.ifCond .le 13, 3) := by decide +kernel
theorem dX12_farFrom_16 : decode cX12_farFrom 16 = .ok (.aload_n 0, 1) := by decide +kernel
theorem dX12_farFrom_17 : decode cX12_farFrom 17 = .ok (.getfield 78, 3) := by decide +kernel
theorem dX12_farFrom_20 : decode cX12_farFrom 20 = .ok (.iload_n 3, 1) := by decide +kernel
theorem dX12_farFrom_21 : decode cX12_farFrom 21 = .ok (.iconst 2, 1) := by decide +kernel
theorem dX12_farFrom_22 : decode cX12_farFrom 22 = .ok (.iastore, 1) := by decide +kernel
theorem dX12_farFrom_23 : decode cX12_farFrom 23 = .ok (.iinc 3 1, 3) := by decide +kernel
theorem dX12_farFrom_26 : decode cX12_farFrom 26 = .ok (.aload_n 0, 1) := by decide +kernel
theorem dX12_farFrom_27 : decode cX12_farFrom 27 = .ok (.aload_n 0, 1) := by decide +kernel
theorem dX12_farFrom_28 : decode cX12_farFrom 28 = .ok (.getfield 78, 3) := by decide +kernel
theorem dX12_farFrom_31 : decode cX12_farFrom 31 = .ok (.iload_n 3, 1) := by decide +kernel
theorem dX12_farFrom_32 : decode cX12_farFrom 32 = .ok (.aload_n 0, 1) := by decide +kernel
theorem dX12_farFrom_33 : decode cX12_farFrom 33 = .ok (.getfield 75, 3) := by decide +kernel
theorem dX12_farFrom_36 : decode cX12_farFrom 36 = .ok (.iload 4, 2) := by decide +kernel
theorem dX12_farFrom_38 : decode cX12_farFrom 38 = .ok (.iaload, 1) := by decide +kernel
theorem dX12_farFrom_39 : decode cX12_farFrom 39 = .ok (.invokevirtual 320, 3) := by decide +kernel
theorem dX12_farFrom_42 : decode cX12_farFrom 42 = .ok (.istore_n 3, 1) := by decide +kernel
theorem dX12_farFrom_43 : decode cX12_farFrom 43 = .ok (.iinc 4 1, 3) := by decide +kernel
theorem dX12_farFrom_46 : decode cX12_farFrom 46 = .ok (.goto (-41), 3) := by decide +kernel
theorem dX12_farFrom_49 : decode cX12_farFrom 49 = .ok (.iconst 0, 1) := by decide +kernel
theorem dX12_farFrom_50 : decode cX12_farFrom 50 = .ok (.istore 4, 2) := by decide +kernel
theorem dX12_farFrom_52 : decode cX12_farFrom 52 = .ok (.iconst 0, 1) := by decide +kernel
theorem dX12_farFrom_53 : decode cX12_farFrom 53 = .ok (.istore 5, 2) := by decide +kernel
theorem dX12_farFrom_55 : decode cX12_farFrom 55 = .ok (.iload 5, 2) := by decide +kernel
theorem dX12_farFrom_57 : decode cX12_farFrom 57 = .ok (.aload_n 0, 1) := by decide +kernel
theorem dX12_farFrom_58 : decode cX12_farFrom 58 = .ok (.getfield 69, 3) := by decide +kernel
theorem dX12_farFrom_61 : decode cX12_farFrom 61 = .ok (.iload_n 1, 1) := by decide +kernel
theorem dX12_farFrom_62 : decode cX12_farFrom 62 = .ok (.iaload, 1) := by decide +kernel
theorem dX12_farFrom_63 : decode cX12_farFrom 63 = .ok (.if_icmp .ge 49, 3) := by decide +kernel
theorem dX12_farFrom_66 : decode cX12_farFrom 66 = .ok (.iload 5, 2) := by decide +kernel
theorem dX12_farFrom_68 : decode cX12_farFrom 68 = .ok (.ifCond .le 14, 3) := by decide +kernel
theorem dX12_farFrom_71 : decode cX12_farFrom 71 = .ok (.aload_n 0, 1) := by decide +kernel
theorem dX12_farFrom_72 : decode cX12_farFrom 72 = .ok (.getfield 81, 3) := by decide +kernel
theorem dX12_farFrom_75 : decode cX12_farFrom 75 = .ok (.iload 4, 2) := by decide +kernel
theorem dX12_farFrom_77 : decode cX12_farFrom 77 = .ok (.iconst 2, 1) := by decide +kernel
theorem dX12_farFrom_78 : decode cX12_farFrom 78 = .ok (.iastore, 1) := by decide +kernel
theorem dX12_farFrom_79 : decode cX12_farFrom 79 = .ok (.iinc 4 1, 3) := by decide +kernel
theorem dX12_farFrom_82 : decode cX12_farFrom 82 = .ok (.aload_n 0, 1) := by decide +kernel
theorem dX12_farFrom_83 : decode cX12_farFrom 83 = .ok (.aload_n 0, 1) := by decide +kernel
theorem dX12_farFrom_84 : decode cX12_farFrom 84 = .ok (.getfield 81, 3) := by decide +kernel
theorem dX12_farFrom_87 : decode cX12_farFrom 87 = .ok (.iload 4, 2) := by decide +kernel
theorem dX12_farFrom_89 : decode cX12_farFrom 89 = .ok (.aload_n 0, 1) := by decide +kernel
theorem dX12_farFrom_90 : decode cX12_farFrom 90 = .ok (.getfield 72, 3) := by decide +kernel
theorem dX12_farFrom_93 : decode cX12_farFrom 93 = .ok (.bipush 8, 2) := by decide +kernel
theorem dX12_farFrom_95 : decode cX12_farFrom 95 = .ok (.iload_n 1, 1) := by decide +kernel
theorem dX12_farFrom_96 : decode cX12_farFrom 96 = .ok (.imul, 1) := by decide +kernel
theorem dX12_farFrom_97 : decode cX12_farFrom 97 = .ok (.iload 5, 2) := by decide +kernel
theorem dX12_farFrom_99 : decode cX12_farFrom 99 = .ok (.iadd, 1) := by decide +kernel
theorem dX12_farFrom_100 : decode cX12_farFrom 100 = .ok (.iaload, 1) := by decide +kernel
theorem dX12_farFrom_101 : decode cX12_farFrom 101 = .ok (.invokevirtual 320, 3) := by decide +kernel
theorem dX12_farFrom_104 : decode cX12_farFrom 104 = .ok (.istore 4, 2) := by decide +kernel
theorem dX12_farFrom_106 : decode cX12_farFrom 106 = .ok (.iinc 5 1, 3) := by decide +kernel
theorem dX12_farFrom_109 : decode cX12_farFrom 109 = .ok (.goto (-54), 3) := by decide +kernel
theorem dX12_farFrom_112 : decode cX12_farFrom 112 = .ok (.iconst 0, 1) := by decide +kernel
theorem dX12_farFrom_113 : decode cX12_farFrom 113 = .ok (.istore 5, 2) := by decide +kernel
theorem dX12_farFrom_115 : decode cX12_farFrom 115 = .ok (.iload 5, 2) := by decide +kernel
theorem dX12_farFrom_117 : decode cX12_farFrom 117 = .ok (.iload 4, 2) := by decide +kernel
theorem dX12_farFrom_119 : decode cX12_farFrom 119 = .ok (.if_icmp .gt 18, 3) := by decide +kernel
theorem dX12_farFrom_122 : decode cX12_farFrom 122 = .ok (.aload_n 0, 1) := by decide +kernel
theorem dX12_farFrom_123 : decode cX12_farFrom 123 = .ok (.getfield 84, 3) := by decide +kernel
theorem dX12_farFrom_126 : decode cX12_farFrom 126 = .ok (.iload 5, 2) := by decide +kernel
theorem dX12_farFrom_128 : decode cX12_farFrom 128 = .ok (.iload 5, 2) := by decide +kernel
theorem dX12_farFrom_130 : decode cX12_farFrom 130 = .ok (.iastore, 1) := by decide +kernel
theorem dX12_farFrom_131 : decode cX12_farFrom 131 = .ok (.iinc 5 1, 3) := by decide +kernel
theorem dX12_farFrom_134 : decode cX12_farFrom 134 = .ok (.goto (-19), 3) := by decide +kernel
theorem dX12_farFrom_137 : decode cX12_farFrom 137 = .ok (.iconst 1, 1) := by decide +kernel
theorem dX12_farFrom_138 : decode cX12_farFrom 138 = .ok (.istore 5, 2) := by decide +kernel
theorem dX12_farFrom_140 : decode cX12_farFrom 140 = .ok (.iload 5, 2) := by decide +kernel
theorem dX12_farFrom_142 : decode cX12_farFrom 142 = .ok (.iload_n 3, 1) := by decide +kernel
theorem dX12_farFrom_143 : decode cX12_farFrom 143 = .ok (.if_icmp .gt 170, 3) := by decide +kernel
theorem dX12_farFrom_146 : decode cX12_farFrom 146 = .ok (.aload_n 0, 1) := by decide +kernel
theorem dX12_farFrom_147 : decode cX12_farFrom 147 = .ok (.getfield 87, 3) := by decide +kernel
theorem dX12_farFrom_150 : decode cX12_farFrom 150 = .ok (.iconst 0, 1) := by decide +kernel
theorem dX12_farFrom_151 : decode cX12_farFrom 151 = .ok (.iload 5, 2) := by decide +kernel
theorem dX12_farFrom_153 : decode cX12_farFrom 153 = .ok (.iastore, 1) := by decide +kernel
theorem dX12_farFrom_154 : decode cX12_farFrom 154 = .ok (.iconst 1, 1) := by decide +kernel
theorem dX12_farFrom_155 : decode cX12_farFrom 155 = .ok (.istore 6, 2) := by decide +kernel
theorem dX12_farFrom_157 : decode cX12_farFrom 157 = .ok (.iload 6, 2) := by decide +kernel
theorem dX12_farFrom_159 : decode cX12_farFrom 159 = .ok (.iload 4, 2) := by decide +kernel
theorem dX12_farFrom_161 : decode cX12_farFrom 161 = .ok (.if_icmp .gt 116, 3) := by decide +kernel
theorem dX12_farFrom_164 : decode cX12_farFrom 164 = .ok (.aload_n 0, 1) := by decide +kernel
theorem dX12_farFrom_165 : decode cX12_farFrom 165 = .ok (.getfield 84, 3) := by decide +kernel
theorem dX12_farFrom_168 : decode cX12_farFrom 168 = .ok (.iload 6, 2) := by decide +kernel
theorem dX12_farFrom_170 : decode cX12_farFrom 170 = .ok (.iconst 1, 1) := by decide +kernel
theorem dX12_farFrom_171 : decode cX12_farFrom 171 = .ok (.isub, 1) := by decide +kernel
theorem dX12_farFrom_172 : decode cX12_farFrom 172 = .ok (.iaload, 1) := by decide +kernel
theorem dX12_farFrom_173 : decode cX12_farFrom 173 = .ok (.aload_n 0, 1) := by decide +kernel
theorem dX12_farFrom_174 : decode cX12_farFrom 174 = .ok (.getfield 78, 3) := by decide +kernel
theorem dX12_farFrom_177 : decode cX12_farFrom 177 = .ok (.iload 5, 2) := by decide +kernel
theorem dX12_farFrom_179 : decode cX12_farFrom 179 = .ok (.iconst 1, 1) := by decide +kernel
theorem dX12_farFrom_180 : decode cX12_farFrom 180 = .ok (.isub, 1) := by decide +kernel
theorem dX12_farFrom_181 : decode cX12_farFrom 181 = .ok (.iaload, 1) := by decide +kernel
theorem dX12_farFrom_182 : decode cX12_farFrom 182 = .ok (.aload_n 0, 1) := by decide +kernel
theorem dX12_farFrom_183 : decode cX12_farFrom 183 = .ok (.getfield 81, 3) := by decide +kernel
theorem dX12_farFrom_186 : decode cX12_farFrom 186 = .ok (.iload 6, 2) := by decide +kernel
theorem dX12_farFrom_188 : decode cX12_farFrom 188 = .ok (.iconst 1, 1) := by decide +kernel
theorem dX12_farFrom_189 : decode cX12_farFrom 189 = .ok (.isub, 1) := by decide +kernel
theorem dX12_farFrom_190 : decode cX12_farFrom 190 = .ok (.iaload, 1) := by decide +kernel
theorem dX12_farFrom_191 : decode cX12_farFrom 191 = .ok (.if_icmp .ne 7, 3) := by decide +kernel
theorem dX12_farFrom_194 : decode cX12_farFrom 194 = .ok (.iconst 0, 1) := by decide +kernel
theorem dX12_farFrom_195 : decode cX12_farFrom 195 = .ok (.goto 4, 3) := by decide +kernel
theorem dX12_farFrom_198 : decode cX12_farFrom 198 = .ok (.iconst 1, 1) := by decide +kernel
theorem dX12_farFrom_199 : decode cX12_farFrom 199 = .ok (.iadd, 1) := by decide +kernel
theorem dX12_farFrom_200 : decode cX12_farFrom 200 = .ok (.istore 7, 2) := by decide +kernel
theorem dX12_farFrom_202 : decode cX12_farFrom 202 = .ok (.aload_n 0, 1) := by decide +kernel
theorem dX12_farFrom_203 : decode cX12_farFrom 203 = .ok (.getfield 84, 3) := by decide +kernel
theorem dX12_farFrom_206 : decode cX12_farFrom 206 = .ok (.iload 6, 2) := by decide +kernel
theorem dX12_farFrom_208 : decode cX12_farFrom 208 = .ok (.iaload, 1) := by decide +kernel
theorem dX12_farFrom_209 : decode cX12_farFrom 209 = .ok (.iconst 1, 1) := by decide +kernel
theorem dX12_farFrom_210 : decode cX12_farFrom 210 = .ok (.iadd, 1) := by decide +kernel
theorem dX12_farFrom_211 : decode cX12_farFrom 211 = .ok (.iload 7, 2) := by decide +kernel
theorem dX12_farFrom_213 : decode cX12_farFrom 213 = .ok (.if_icmp .ge 15, 3) := by decide +kernel
theorem dX12_farFrom_216 : decode cX12_farFrom 216 = .ok (.aload_n 0, 1) := by decide +kernel
theorem dX12_farFrom_217 : decode cX12_farFrom 217 = .ok (.getfield 84, 3) := by decide +kernel
theorem dX12_farFrom_220 : decode cX12_farFrom 220 = .ok (.iload 6, 2) := by decide +kernel
theorem dX12_farFrom_222 : decode cX12_farFrom 222 = .ok (.iaload, 1) := by decide +kernel
theorem dX12_farFrom_223 : decode cX12_farFrom 223 = .ok (.iconst 1, 1) := by decide +kernel
theorem dX12_farFrom_224 : decode cX12_farFrom 224 = .ok (.iadd, 1) := by decide +kernel
theorem dX12_farFrom_225 : decode cX12_farFrom 225 = .ok (.goto 5, 3) := by decide +kernel
theorem dX12_farFrom_228 : decode cX12_farFrom 228 = .ok (.iload 7, 2) := by decide +kernel
theorem dX12_farFrom_230 : decode cX12_farFrom 230 = .ok (.istore 7, 2) := by decide +kernel
theorem dX12_farFrom_232 : decode cX12_farFrom 232 = .ok (.aload_n 0, 1) := by decide +kernel
theorem dX12_farFrom_233 : decode cX12_farFrom 233 = .ok (.getfield 87, 3) := by decide +kernel
theorem dX12_farFrom_236 : decode cX12_farFrom 236 = .ok (.iload 6, 2) := by decide +kernel
theorem dX12_farFrom_238 : decode cX12_farFrom 238 = .ok (.aload_n 0, 1) := by decide +kernel
theorem dX12_farFrom_239 : decode cX12_farFrom 239 = .ok (.getfield 87, 3) := by decide +kernel
theorem dX12_farFrom_242 : decode cX12_farFrom 242 = .ok (.iload 6, 2) := by decide +kernel
theorem dX12_farFrom_244 : decode cX12_farFrom 244 = .ok (.iconst 1, 1) := by decide +kernel
theorem dX12_farFrom_245 : decode cX12_farFrom 245 = .ok (.isub, 1) := by decide +kernel
theorem dX12_farFrom_246 : decode cX12_farFrom 246 = .ok (.iaload, 1) := by decide +kernel
theorem dX12_farFrom_247 : decode cX12_farFrom 247 = .ok (.iconst 1, 1) := by decide +kernel
theorem dX12_farFrom_248 : decode cX12_farFrom 248 = .ok (.iadd, 1) := by decide +kernel
theorem dX12_farFrom_249 : decode cX12_farFrom 249 = .ok (.iload 7, 2) := by decide +kernel
theorem dX12_farFrom_251 : decode cX12_farFrom 251 = .ok (.if_icmp .ge 17, 3) := by decide +kernel
theorem dX12_farFrom_254 : decode cX12_farFrom 254 = .ok (.aload_n 0, 1) := by decide +kernel
theorem dX12_farFrom_255 : decode cX12_farFrom 255 = .ok (.getfield 87, 3) := by decide +kernel
theorem dX12_farFrom_258 : decode cX12_farFrom 258 = .ok (.iload 6, 2) := by decide +kernel
theorem dX12_farFrom_260 : decode cX12_farFrom 260 = .ok (.iconst 1, 1) := by decide +kernel
theorem dX12_farFrom_261 : decode cX12_farFrom 261 = .ok (.isub, 1) := by decide +kernel
theorem dX12_farFrom_262 : decode cX12_farFrom 262 = .ok (.iaload, 1) := by decide +kernel
theorem dX12_farFrom_263 : decode cX12_farFrom 263 = .ok (.iconst 1, 1) := by decide +kernel
theorem dX12_farFrom_264 : decode cX12_farFrom 264 = .ok (.iadd, 1) := by decide +kernel
theorem dX12_farFrom_265 : decode cX12_farFrom 265 = .ok (.goto 5, 3) := by decide +kernel
theorem dX12_farFrom_268 : decode cX12_farFrom 268 = .ok (.iload 7, 2) := by decide +kernel
theorem dX12_farFrom_270 : decode cX12_farFrom 270 = .ok (.iastore, 1) := by decide +kernel
theorem dX12_farFrom_271 : decode cX12_farFrom 271 = .ok (.iinc 6 1, 3) := by decide +kernel
theorem dX12_farFrom_274 : decode cX12_farFrom 274 = .ok (.goto (-117), 3) := by decide +kernel
theorem dX12_farFrom_277 : decode cX12_farFrom 277 = .ok (.iconst 0, 1) := by decide +kernel
theorem dX12_farFrom_278 : decode cX12_farFrom 278 = .ok (.istore 6, 2) := by decide +kernel
theorem dX12_farFrom_280 : decode cX12_farFrom 280 = .ok (.iload 6, 2) := by decide +kernel
theorem dX12_farFrom_282 : decode cX12_farFrom 282 = .ok (.iload 4, 2) := by decide +kernel
theorem dX12_farFrom_284 : decode cX12_farFrom 284 = .ok (.if_icmp .gt 23, 3) := by decide +kernel
theorem dX12_farFrom_287 : decode cX12_farFrom 287 = .ok (.aload_n 0, 1) := by decide +kernel
theorem dX12_farFrom_288 : decode cX12_farFrom 288 = .ok (.getfield 84, 3) := by decide +kernel
theorem dX12_farFrom_291 : decode cX12_farFrom 291 = .ok (.iload 6, 2) := by decide +kernel
theorem dX12_farFrom_293 : decode cX12_farFrom 293 = .ok (.aload_n 0, 1) := by decide +kernel
theorem dX12_farFrom_294 : decode cX12_farFrom 294 = .ok (.getfield 87, 3) := by decide +kernel
theorem dX12_farFrom_297 : decode cX12_farFrom 297 = .ok (.iload 6, 2) := by decide +kernel
theorem dX12_farFrom_299 : decode cX12_farFrom 299 = .ok (.iaload, 1) := by decide +kernel
theorem dX12_farFrom_300 : decode cX12_farFrom 300 = .ok (.iastore, 1) := by decide +kernel
theorem dX12_farFrom_301 : decode cX12_farFrom 301 = .ok (.iinc 6 1, 3) := by decide +kernel
theorem dX12_farFrom_304 : decode cX12_farFrom 304 = .ok (.goto (-24), 3) := by decide +kernel
theorem dX12_farFrom_307 : decode cX12_farFrom 307 = .ok (.iinc 5 1, 3) := by decide +kernel
theorem dX12_farFrom_310 : decode cX12_farFrom 310 = .ok (.goto (-170), 3) := by decide +kernel
theorem dX12_farFrom_313 : decode cX12_farFrom 313 = .ok (.aload_n 0, 1) := by decide +kernel
theorem dX12_farFrom_314 : decode cX12_farFrom 314 = .ok (.getfield 84, 3) := by decide +kernel
theorem dX12_farFrom_317 : decode cX12_farFrom 317 = .ok (.iload 4, 2) := by decide +kernel
theorem dX12_farFrom_319 : decode cX12_farFrom 319 = .ok (.iaload, 1) := by decide +kernel
theorem dX12_farFrom_320 : decode cX12_farFrom 320 = .ok (.ireturn, 1) := by decide +kernel
theorem dX12_far_0 : decode cX12_far 0 = .ok (.iload_n 1, 1) := by decide +kernel
theorem dX12_far_1 : decode cX12_far 1 = .ok (.iconst 0, 1) := by decide +kernel
theorem dX12_far_2 : decode cX12_far 2 = .ok (.bipush 15, 2) := by decide +kernel
theorem dX12_far_4 : decode cX12_far 4 = .ok (.invokestatic 123, 3) := by decide +kernel
theorem dX12_far_7 : decode cX12_far 7 = .ok (.ifCond .eq 12, 3) := by decide +kernel
theorem dX12_far_10 : decode cX12_far 10 = .ok (.aload_n 0, 1) := by decide +kernel
theorem dX12_far_11 : decode cX12_far 11 = .ok (.getfield 69, 3) := by decide +kernel
theorem dX12_far_14 : decode cX12_far 14 = .ok (.iload_n 1, 1) := by decide +kernel
theorem dX12_far_15 : decode cX12_far 15 = .ok (.iaload, 1) := by decide +kernel
theorem dX12_far_16 : decode cX12_far 16 = .ok (.ifCond .ne 6, 3) := by decide +kernel
theorem dX12_far_19 : decode cX12_far 19 = .ok (.bipush (-2), 2) := by decide +kernel
theorem dX12_far_21 : decode cX12_far 21 = .ok (.ireturn, 1) := by decide +kernel
theorem dX12_far_22 : decode cX12_far 22 = .ok (.aload_n 0, 1) := by decide +kernel
theorem dX12_far_23 : decode cX12_far 23 = .ok (.lload_n 2, 1) := by decide +kernel
theorem dX12_far_24 : decode cX12_far 24 = .ok (.iload 4, 2) := by decide +kernel
theorem dX12_far_26 : decode cX12_far 26 = .ok (.invokevirtual 316, 3) := by decide +kernel
theorem dX12_far_29 : decode cX12_far 29 = .ok (.ifCond .eq 13, 3) := by decide +kernel
theorem dX12_far_32 : decode cX12_far 32 = .ok (.aload_n 0, 1) := by decide +kernel
theorem dX12_far_33 : decode cX12_far 33 = .ok (.iload_n 1, 1) := by decide +kernel
theorem dX12_far_34 : decode cX12_far 34 = .ok (.iload 4, 2) := by decide +kernel
theorem dX12_far_36 : decode cX12_far 36 = .ok (.invokevirtual 324, 3) := by decide +kernel
theorem dX12_far_39 : decode cX12_far 39 = .ok (.goto 5, 3) := by decide +kernel
theorem dX12_far_42 : decode cX12_far 42 = .ok (.bipush (-3), 2) := by decide +kernel
theorem dX12_far_44 : decode cX12_far 44 = .ok (.ireturn, 1) := by decide +kernel
theorem dX12_likely_0 : decode cX12_likely 0 = .ok (.aload_n 0, 1) := by decide +kernel
theorem dX12_likely_1 : decode cX12_likely 1 = .ok (.lload_n 1, 1) := by decide +kernel
theorem dX12_likely_2 : decode cX12_likely 2 = .ok (.iload_n 3, 1) := by decide +kernel
theorem dX12_likely_3 : decode cX12_likely 3 = .ok (.invokevirtual 316, 3) := by decide +kernel
theorem dX12_likely_6 : decode cX12_likely 6 = .ok (.ifCond .eq 8, 3) := by decide +kernel
theorem dX12_likely_9 : decode cX12_likely 9 = .ok (.iload 4, 2) := by decide +kernel
theorem dX12_likely_11 : decode cX12_likely 11 = .ok (.ifCond .ge 6, 3) := by decide +kernel
theorem dX12_likely_14 : decode cX12_likely 14 = .ok (.bipush (-3), 2) := by decide +kernel
theorem dX12_likely_16 : decode cX12_likely 16 = .ok (.ireturn, 1) := by decide +kernel
theorem dX12_likely_17 : decode cX12_likely 17 = .ok (.iconst 0, 1) := by decide +kernel
theorem dX12_likely_18 : decode cX12_likely 18 = .ok (.istore 5, 2) := by decide +kernel
theorem dX12_likely_20 : decode cX12_likely 20 = .ok (.iload 5, 2) := by decide +kernel
theorem dX12_likely_22 : decode cX12_likely 22 = .ok (.bipush 16, 2) := by decide +kernel
theorem dX12_likely_24 : decode cX12_likely 24 = .ok (.if_icmp .ge 124, 3) := by decide +kernel
theorem dX12_likely_27 : decode cX12_likely 27 = .ok (.iconst 0, 1) := by decide +kernel
theorem dX12_likely_28 : decode cX12_likely 28 = .ok (.istore 6, 2) := by decide +kernel
theorem dX12_likely_30 : decode cX12_likely 30 = .ok (.iconst 0, 1) := by decide +kernel
theorem dX12_likely_31 : decode cX12_likely 31 = .ok (.istore 7, 2) := by decide +kernel
theorem dX12_likely_33 : decode cX12_likely 33 = .ok (.iload 7, 2) := by decide +kernel
theorem dX12_likely_35 : decode cX12_likely 35 = .ok (.bipush 16, 2) := by decide +kernel
theorem dX12_likely_37 : decode cX12_likely 37 = .ok (.if_icmp .ge 85, 3) := by decide +kernel
theorem dX12_likely_40 : decode cX12_likely 40 = .ok (.aload_n 0, 1) := by decide +kernel
theorem dX12_likely_41 : decode cX12_likely 41 = .ok (.getfield 69, 3) := by decide +kernel
theorem dX12_likely_44 : decode cX12_likely 44 = .ok (.iload 5, 2) := by decide +kernel
theorem dX12_likely_46 : decode cX12_likely 46 = .ok (.iaload, 1) := by decide +kernel
theorem dX12_likely_47 : decode cX12_likely 47 = .ok (.ifCond .le 75, 3) := by decide +kernel
theorem dX12_likely_50 : decode cX12_likely 50 = .ok (.aload_n 0, 1) := by decide +kernel
theorem dX12_likely_51 : decode cX12_likely 51 = .ok (.getfield 69, 3) := by decide +kernel
theorem dX12_likely_54 : decode cX12_likely 54 = .ok (.iload 7, 2) := by decide +kernel
theorem dX12_likely_56 : decode cX12_likely 56 = .ok (.iaload, 1) := by decide +kernel
theorem dX12_likely_57 : decode cX12_likely 57 = .ok (.ifCond .le 59, 3) := by decide +kernel
theorem dX12_likely_60 : decode cX12_likely 60 = .ok (.iload 7, 2) := by decide +kernel
theorem dX12_likely_62 : decode cX12_likely 62 = .ok (.iload 5, 2) := by decide +kernel
theorem dX12_likely_64 : decode cX12_likely 64 = .ok (.if_icmp .eq 52, 3) := by decide +kernel
theorem dX12_likely_67 : decode cX12_likely 67 = .ok (.aload_n 0, 1) := by decide +kernel
theorem dX12_likely_68 : decode cX12_likely 68 = .ok (.iload 5, 2) := by decide +kernel
theorem dX12_likely_70 : decode cX12_likely 70 = .ok (.iload_n 3, 1) := by decide +kernel
theorem dX12_likely_71 : decode cX12_likely 71 = .ok (.invokevirtual 324, 3) := by decide +kernel
theorem dX12_likely_74 : decode cX12_likely 74 = .ok (.istore 8, 2) := by decide +kernel
theorem dX12_likely_76 : decode cX12_likely 76 = .ok (.aload_n 0, 1) := by decide +kernel
theorem dX12_likely_77 : decode cX12_likely 77 = .ok (.iload 7, 2) := by decide +kernel
theorem dX12_likely_79 : decode cX12_likely 79 = .ok (.iload_n 3, 1) := by decide +kernel
theorem dX12_likely_80 : decode cX12_likely 80 = .ok (.invokevirtual 324, 3) := by decide +kernel
theorem dX12_likely_83 : decode cX12_likely 83 = .ok (.istore 9, 2) := by decide +kernel
theorem dX12_likely_85 : decode cX12_likely 85 = .ok (.iload 6, 2) := by decide +kernel
theorem dX12_likely_87 : decode cX12_likely 87 = .ok (.iload 9, 2) := by decide +kernel
theorem dX12_likely_89 : decode cX12_likely 89 = .ok (.iload 8, 2) := by decide +kernel
theorem dX12_likely_91 : decode cX12_likely 91 = .ok (.if_icmp .lt 17, 3) := by decide +kernel
theorem dX12_likely_94 : decode cX12_likely 94 = .ok (.iload 9, 2) := by decide +kernel
theorem dX12_likely_96 : decode cX12_likely 96 = .ok (.iload 8, 2) := by decide +kernel
theorem dX12_likely_98 : decode cX12_likely 98 = .ok (.if_icmp .ne 14, 3) := by decide +kernel
theorem dX12_likely_101 : decode cX12_likely 101 = .ok (.iload 7, 2) := by decide +kernel
theorem dX12_likely_103 : decode cX12_likely 103 = .ok (.iload 5, 2) := by decide +kernel
theorem dX12_likely_105 : decode cX12_likely 105 = .ok (.if_icmp .ge 7, 3) := by decide +kernel
theorem dX12_likely_108 : decode cX12_likely 108 = .ok (.iconst 1, 1) := by decide +kernel
theorem dX12_likely_109 : decode cX12_likely 109 = .ok (.goto 4, 3) := by decide +kernel
theorem dX12_likely_112 : decode cX12_likely 112 = .ok (.iconst 0, 1) := by decide +kernel
theorem dX12_likely_113 : decode cX12_likely 113 = .ok (.iadd, 1) := by decide +kernel
theorem dX12_likely_114 : decode cX12_likely 114 = .ok (.istore 6, 2) := by decide +kernel
theorem dX12_likely_116 : decode cX12_likely 116 = .ok (.iinc 7 1, 3) := by decide +kernel
theorem dX12_likely_119 : decode cX12_likely 119 = .ok (.goto (-86), 3) := by decide +kernel
theorem dX12_likely_122 : decode cX12_likely 122 = .ok (.aload_n 0, 1) := by decide +kernel
theorem dX12_likely_123 : decode cX12_likely 123 = .ok (.getfield 69, 3) := by decide +kernel
theorem dX12_likely_126 : decode cX12_likely 126 = .ok (.iload 5, 2) := by decide +kernel
theorem dX12_likely_128 : decode cX12_likely 128 = .ok (.iaload, 1) := by decide +kernel
theorem dX12_likely_129 : decode cX12_likely 129 = .ok (.ifCond .le 13, 3) := by decide +kernel
theorem dX12_likely_132 : decode cX12_likely 132 = .ok (.iload 6, 2) := by decide +kernel
theorem dX12_likely_134 : decode cX12_likely 134 = .ok (.iload 4, 2) := by decide +kernel
theorem dX12_likely_136 : decode cX12_likely 136 = .ok (.if_icmp .ne 6, 3) := by decide +kernel
theorem dX12_likely_139 : decode cX12_likely 139 = .ok (.iload 5, 2) := by decide +kernel
theorem dX12_likely_141 : decode cX12_likely 141 = .ok (.ireturn, 1) := by decide +kernel
theorem dX12_likely_142 : decode cX12_likely 142 = .ok (.iinc 5 1, 3) := by decide +kernel
theorem dX12_likely_145 : decode cX12_likely 145 = .ok (.goto (-125), 3) := by decide +kernel
theorem dX12_likely_148 : decode cX12_likely 148 = .ok (.iconst (-1), 1) := by decide +kernel
theorem dX12_likely_149 : decode cX12_likely 149 = .ok (.ireturn, 1) := by decide +kernel
theorem dX12_row_0 : decode cX12_row 0 = .ok (.iload_n 1, 1) := by decide +kernel
theorem dX12_row_1 : decode cX12_row 1 = .ok (.iconst 2, 1) := by decide +kernel
theorem dX12_row_2 : decode cX12_row 2 = .ok (.bipush 7, 2) := by decide +kernel
theorem dX12_row_4 : decode cX12_row 4 = .ok (.invokestatic 123, 3) := by decide +kernel
theorem dX12_row_7 : decode cX12_row 7 = .ok (.ifCond .ne 6, 3) := by decide +kernel
theorem dX12_row_10 : decode cX12_row 10 = .ok (.bipush (-3), 2) := by decide +kernel
theorem dX12_row_12 : decode cX12_row 12 = .ok (.ireturn, 1) := by decide +kernel
theorem dX12_row_13 : decode cX12_row 13 = .ok (.aload_n 0, 1) := by decide +kernel
theorem dX12_row_14 : decode cX12_row 14 = .ok (.getfield 327, 3) := by decide +kernel
theorem dX12_row_17 : decode cX12_row 17 = .ok (.bipush 8, 2) := by decide +kernel
theorem dX12_row_19 : decode cX12_row 19 = .ok (.if_icmp .ne 6, 3) := by decide +kernel
theorem dX12_row_22 : decode cX12_row 22 = .ok (.bipush (-5), 2) := by decide +kernel
theorem dX12_row_24 : decode cX12_row 24 = .ok (.ireturn, 1) := by decide +kernel
theorem dX12_row_25 : decode cX12_row 25 = .ok (.aload_n 0, 1) := by decide +kernel
theorem dX12_row_26 : decode cX12_row 26 = .ok (.getfield 93, 3) := by decide +kernel
theorem dX12_row_29 : decode cX12_row 29 = .ok (.aload_n 0, 1) := by decide +kernel
theorem dX12_row_30 : decode cX12_row 30 = .ok (.getfield 327, 3) := by decide +kernel
theorem dX12_row_33 : decode cX12_row 33 = .ok (.iload_n 1, 1) := by decide +kernel
theorem dX12_row_34 : decode cX12_row 34 = .ok (.iastore, 1) := by decide +kernel
theorem dX12_row_35 : decode cX12_row 35 = .ok (.iconst 0, 1) := by decide +kernel
theorem dX12_row_36 : decode cX12_row 36 = .ok (.istore_n 2, 1) := by decide +kernel
theorem dX12_row_37 : decode cX12_row 37 = .ok (.iload_n 2, 1) := by decide +kernel
theorem dX12_row_38 : decode cX12_row 38 = .ok (.bipush 7, 2) := by decide +kernel
theorem dX12_row_40 : decode cX12_row 40 = .ok (.if_icmp .ge 39, 3) := by decide +kernel
theorem dX12_row_43 : decode cX12_row 43 = .ok (.aload_n 0, 1) := by decide +kernel
theorem dX12_row_44 : decode cX12_row 44 = .ok (.getfield 96, 3) := by decide +kernel
theorem dX12_row_47 : decode cX12_row 47 = .ok (.bipush 7, 2) := by decide +kernel
theorem dX12_row_49 : decode cX12_row 49 = .ok (.aload_n 0, 1) := by decide +kernel
theorem dX12_row_50 : decode cX12_row 50 = .ok (.getfield 327, 3) := by decide +kernel
theorem dX12_row_53 : decode cX12_row 53 = .ok (.imul, 1) := by decide +kernel
theorem dX12_row_54 : decode cX12_row 54 = .ok (.iload_n 2, 1) := by decide +kernel
theorem dX12_row_55 : decode cX12_row 55 = .ok (.iadd, 1) := by decide +kernel
theorem dX12_row_56 : decode cX12_row 56 = .ok (.iconst 2, 1) := by decide +kernel
theorem dX12_row_57 : decode cX12_row 57 = .ok (.iastore, 1) := by decide +kernel
theorem dX12_row_58 : decode cX12_row 58 = .ok (.aload_n 0, 1) := by decide +kernel
theorem dX12_row_59 : decode cX12_row 59 = .ok (.getfield 99, 3) := by decide +kernel
theorem dX12_row_62 : decode cX12_row 62 = .ok (.bipush 7, 2) := by decide +kernel
theorem dX12_row_64 : decode cX12_row 64 = .ok (.aload_n 0, 1) := by decide +kernel
theorem dX12_row_65 : decode cX12_row 65 = .ok (.getfield 327, 3) := by decide +kernel
theorem dX12_row_68 : decode cX12_row 68 = .ok (.imul, 1) := by decide +kernel
theorem dX12_row_69 : decode cX12_row 69 = .ok (.iload_n 2, 1) := by decide +kernel
theorem dX12_row_70 : decode cX12_row 70 = .ok (.iadd, 1) := by decide +kernel
theorem dX12_row_71 : decode cX12_row 71 = .ok (.iconst 0, 1) := by decide +kernel
theorem dX12_row_72 : decode cX12_row 72 = .ok (.iastore, 1) := by decide +kernel
theorem dX12_row_73 : decode cX12_row 73 = .ok (.iinc 2 1, 3) := by decide +kernel
theorem dX12_row_76 : decode cX12_row 76 = .ok (.goto (-39), 3) := by decide +kernel
theorem dX12_row_79 : decode cX12_row 79 = .ok (.aload_n 0, 1) := by decide +kernel
theorem dX12_row_80 : decode cX12_row 80 = .ok (.dup, 1) := by decide +kernel
theorem dX12_row_81 : decode cX12_row 81 = .ok (.getfield 327, 3) := by decide +kernel
theorem dX12_row_84 : decode cX12_row 84 = .ok (.iconst 1, 1) := by decide +kernel
theorem dX12_row_85 : decode cX12_row 85 = .ok (.iadd, 1) := by decide +kernel
theorem dX12_row_86 : decode cX12_row 86 = .ok (.putfield 327, 3) := by decide +kernel
theorem dX12_row_89 : decode cX12_row 89 = .ok (.aload_n 0, 1) := by decide +kernel
theorem dX12_row_90 : decode cX12_row 90 = .ok (.getfield 327, 3) := by decide +kernel
theorem dX12_row_93 : decode cX12_row 93 = .ok (.iconst 1, 1) := by decide +kernel
theorem dX12_row_94 : decode cX12_row 94 = .ok (.isub, 1) := by decide +kernel
theorem dX12_row_95 : decode cX12_row 95 = .ok (.ireturn, 1) := by decide +kernel
theorem dX12_isRow_0 : decode cX12_isRow 0 = .ok (.iload_n 1, 1) := by decide +kernel
theorem dX12_isRow_1 : decode cX12_isRow 1 = .ok (.iconst 0, 1) := by decide +kernel
theorem dX12_isRow_2 : decode cX12_isRow 2 = .ok (.aload_n 0, 1) := by decide +kernel
theorem dX12_isRow_3 : decode cX12_isRow 3 = .ok (.getfield 327, 3) := by decide +kernel
theorem dX12_isRow_6 : decode cX12_isRow 6 = .ok (.iconst 1, 1) := by decide +kernel
theorem dX12_isRow_7 : decode cX12_isRow 7 = .ok (.isub, 1) := by decide +kernel
theorem dX12_isRow_8 : decode cX12_isRow 8 = .ok (.invokestatic 123, 3) := by decide +kernel
theorem dX12_isRow_11 : decode cX12_isRow 11 = .ok (.ireturn, 1) := by decide +kernel
theorem dX12_tape_0 : decode cX12_tape 0 = .ok (.aload_n 0, 1) := by decide +kernel
theorem dX12_tape_1 : decode cX12_tape 1 = .ok (.iload_n 1, 1) := by decide +kernel
theorem dX12_tape_2 : decode cX12_tape 2 = .ok (.invokevirtual 330, 3) := by decide +kernel
theorem dX12_tape_5 : decode cX12_tape 5 = .ok (.ifCond .eq 19, 3) := by decide +kernel
theorem dX12_tape_8 : decode cX12_tape 8 = .ok (.iload_n 2, 1) := by decide +kernel
theorem dX12_tape_9 : decode cX12_tape 9 = .ok (.iconst 0, 1) := by decide +kernel
theorem dX12_tape_10 : decode cX12_tape 10 = .ok (.aload_n 0, 1) := by decide +kernel
theorem dX12_tape_11 : decode cX12_tape 11 = .ok (.getfield 93, 3) := by decide +kernel
theorem dX12_tape_14 : decode cX12_tape 14 = .ok (.iload_n 1, 1) := by decide +kernel
theorem dX12_tape_15 : decode cX12_tape 15 = .ok (.iaload, 1) := by decide +kernel
theorem dX12_tape_16 : decode cX12_tape 16 = .ok (.iconst 1, 1) := by decide +kernel
theorem dX12_tape_17 : decode cX12_tape 17 = .ok (.isub, 1) := by decide +kernel
theorem dX12_tape_18 : decode cX12_tape 18 = .ok (.invokestatic 123, 3) := by decide +kernel
theorem dX12_tape_21 : decode cX12_tape 21 = .ok (.ifCond .ne 6, 3) := by decide +kernel
theorem dX12_tape_24 : decode cX12_tape 24 = .ok (.bipush (-2), 2) := by decide +kernel
theorem dX12_tape_26 : decode cX12_tape 26 = .ok (.ireturn, 1) := by decide +kernel
theorem dX12_tape_27 : decode cX12_tape 27 = .ok (.iload_n 3, 1) := by decide +kernel
theorem dX12_tape_28 : decode cX12_tape 28 = .ok (.iconst 0, 1) := by decide +kernel
theorem dX12_tape_29 : decode cX12_tape 29 = .ok (.iconst 2, 1) := by decide +kernel
theorem dX12_tape_30 : decode cX12_tape 30 = .ok (.invokestatic 123, 3) := by decide +kernel
theorem dX12_tape_33 : decode cX12_tape 33 = .ok (.ifCond .ne 6, 3) := by decide +kernel
theorem dX12_tape_36 : decode cX12_tape 36 = .ok (.bipush (-3), 2) := by decide +kernel
theorem dX12_tape_38 : decode cX12_tape 38 = .ok (.ireturn, 1) := by decide +kernel
theorem dX12_tape_39 : decode cX12_tape 39 = .ok (.aload_n 0, 1) := by decide +kernel
theorem dX12_tape_40 : decode cX12_tape 40 = .ok (.getfield 96, 3) := by decide +kernel
theorem dX12_tape_43 : decode cX12_tape 43 = .ok (.bipush 7, 2) := by decide +kernel
theorem dX12_tape_45 : decode cX12_tape 45 = .ok (.iload_n 1, 1) := by decide +kernel
theorem dX12_tape_46 : decode cX12_tape 46 = .ok (.imul, 1) := by decide +kernel
theorem dX12_tape_47 : decode cX12_tape 47 = .ok (.iload_n 2, 1) := by decide +kernel
theorem dX12_tape_48 : decode cX12_tape 48 = .ok (.iadd, 1) := by decide +kernel
theorem dX12_tape_49 : decode cX12_tape 49 = .ok (.iaload, 1) := by decide +kernel
theorem dX12_tape_50 : decode cX12_tape 50 = .ok (.istore 4, 2) := by decide +kernel
theorem dX12_tape_52 : decode cX12_tape 52 = .ok (.aload_n 0, 1) := by decide +kernel
theorem dX12_tape_53 : decode cX12_tape 53 = .ok (.getfield 96, 3) := by decide +kernel
theorem dX12_tape_56 : decode cX12_tape 56 = .ok (.bipush 7, 2) := by decide +kernel
theorem dX12_tape_58 : decode cX12_tape 58 = .ok (.iload_n 1, 1) := by decide +kernel
theorem dX12_tape_59 : decode cX12_tape 59 = .ok (.imul, 1) := by decide +kernel
theorem dX12_tape_60 : decode cX12_tape 60 = .ok (.iload_n 2, 1) := by decide +kernel
theorem dX12_tape_61 : decode cX12_tape 61 = .ok (.iadd, 1) := by decide +kernel
theorem dX12_tape_62 : decode cX12_tape 62 = .ok (.iload_n 3, 1) := by decide +kernel
theorem dX12_tape_63 : decode cX12_tape 63 = .ok (.iastore, 1) := by decide +kernel
theorem dX12_tape_64 : decode cX12_tape 64 = .ok (.iload 4, 2) := by decide +kernel
theorem dX12_tape_66 : decode cX12_tape 66 = .ok (.ireturn, 1) := by decide +kernel
theorem dX12_clerk_0 : decode cX12_clerk 0 = .ok (.aload_n 0, 1) := by decide +kernel
theorem dX12_clerk_1 : decode cX12_clerk 1 = .ok (.iload_n 1, 1) := by decide +kernel
theorem dX12_clerk_2 : decode cX12_clerk 2 = .ok (.invokevirtual 330, 3) := by decide +kernel
theorem dX12_clerk_5 : decode cX12_clerk 5 = .ok (.ifCond .eq 29, 3) := by decide +kernel
theorem dX12_clerk_8 : decode cX12_clerk 8 = .ok (.iload_n 2, 1) := by decide +kernel
theorem dX12_clerk_9 : decode cX12_clerk 9 = .ok (.iconst 0, 1) := by decide +kernel
theorem dX12_clerk_10 : decode cX12_clerk 10 = .ok (.aload_n 0, 1) := by decide +kernel
theorem dX12_clerk_11 : decode cX12_clerk 11 = .ok (.getfield 93, 3) := by decide +kernel
theorem dX12_clerk_14 : decode cX12_clerk 14 = .ok (.iload_n 1, 1) := by decide +kernel
theorem dX12_clerk_15 : decode cX12_clerk 15 = .ok (.iaload, 1) := by decide +kernel
theorem dX12_clerk_16 : decode cX12_clerk 16 = .ok (.iconst 2, 1) := by decide +kernel
theorem dX12_clerk_17 : decode cX12_clerk 17 = .ok (.isub, 1) := by decide +kernel
theorem dX12_clerk_18 : decode cX12_clerk 18 = .ok (.invokestatic 123, 3) := by decide +kernel
theorem dX12_clerk_21 : decode cX12_clerk 21 = .ok (.ifCond .eq 13, 3) := by decide +kernel
theorem dX12_clerk_24 : decode cX12_clerk 24 = .ok (.iload_n 3, 1) := by decide +kernel
theorem dX12_clerk_25 : decode cX12_clerk 25 = .ok (.iconst 0, 1) := by decide +kernel
theorem dX12_clerk_26 : decode cX12_clerk 26 = .ok (.bipush 7, 2) := by decide +kernel
theorem dX12_clerk_28 : decode cX12_clerk 28 = .ok (.invokestatic 123, 3) := by decide +kernel
theorem dX12_clerk_31 : decode cX12_clerk 31 = .ok (.ifCond .ne 6, 3) := by decide +kernel
theorem dX12_clerk_34 : decode cX12_clerk 34 = .ok (.bipush (-2), 2) := by decide +kernel
theorem dX12_clerk_36 : decode cX12_clerk 36 = .ok (.ireturn, 1) := by decide +kernel
theorem dX12_clerk_37 : decode cX12_clerk 37 = .ok (.aload_n 0, 1) := by decide +kernel
theorem dX12_clerk_38 : decode cX12_clerk 38 = .ok (.getfield 99, 3) := by decide +kernel
theorem dX12_clerk_41 : decode cX12_clerk 41 = .ok (.bipush 7, 2) := by decide +kernel
theorem dX12_clerk_43 : decode cX12_clerk 43 = .ok (.iload_n 1, 1) := by decide +kernel
theorem dX12_clerk_44 : decode cX12_clerk 44 = .ok (.imul, 1) := by decide +kernel
theorem dX12_clerk_45 : decode cX12_clerk 45 = .ok (.iload_n 2, 1) := by decide +kernel
theorem dX12_clerk_46 : decode cX12_clerk 46 = .ok (.iadd, 1) := by decide +kernel
theorem dX12_clerk_47 : decode cX12_clerk 47 = .ok (.iaload, 1) := by decide +kernel
theorem dX12_clerk_48 : decode cX12_clerk 48 = .ok (.istore 4, 2) := by decide +kernel
theorem dX12_clerk_50 : decode cX12_clerk 50 = .ok (.aload_n 0, 1) := by decide +kernel
theorem dX12_clerk_51 : decode cX12_clerk 51 = .ok (.getfield 99, 3) := by decide +kernel
theorem dX12_clerk_54 : decode cX12_clerk 54 = .ok (.bipush 7, 2) := by decide +kernel
theorem dX12_clerk_56 : decode cX12_clerk 56 = .ok (.iload_n 1, 1) := by decide +kernel
theorem dX12_clerk_57 : decode cX12_clerk 57 = .ok (.imul, 1) := by decide +kernel
theorem dX12_clerk_58 : decode cX12_clerk 58 = .ok (.iload_n 2, 1) := by decide +kernel
theorem dX12_clerk_59 : decode cX12_clerk 59 = .ok (.iadd, 1) := by decide +kernel
theorem dX12_clerk_60 : decode cX12_clerk 60 = .ok (.iload_n 3, 1) := by decide +kernel
theorem dX12_clerk_61 : decode cX12_clerk 61 = .ok (.iastore, 1) := by decide +kernel
theorem dX12_clerk_62 : decode cX12_clerk 62 = .ok (.iload 4, 2) := by decide +kernel
theorem dX12_clerk_64 : decode cX12_clerk 64 = .ok (.ireturn, 1) := by decide +kernel
theorem dX12_firstWrong_0 : decode cX12_firstWrong 0 = .ok (.iconst 0, 1) := by decide +kernel
theorem dX12_firstWrong_1 : decode cX12_firstWrong 1 = .ok (.istore_n 2, 1) := by decide +kernel
theorem dX12_firstWrong_2 : decode cX12_firstWrong 2 = .ok (.iload_n 2, 1) := by decide +kernel
theorem dX12_firstWrong_3 : decode cX12_firstWrong 3 = .ok (.aload_n 0, 1) := by decide +kernel
theorem dX12_firstWrong_4 : decode cX12_firstWrong 4 = .ok (.getfield 93, 3) := by decide +kernel
theorem dX12_firstWrong_7 : decode cX12_firstWrong 7 = .ok (.iload_n 1, 1) := by decide +kernel
theorem dX12_firstWrong_8 : decode cX12_firstWrong 8 = .ok (.iaload, 1) := by decide +kernel
theorem dX12_firstWrong_9 : decode cX12_firstWrong 9 = .ok (.if_icmp .ge 24, 3) := by decide +kernel
theorem dX12_firstWrong_12 : decode cX12_firstWrong 12 = .ok (.aload_n 0, 1) := by decide +kernel
theorem dX12_firstWrong_13 : decode cX12_firstWrong 13 = .ok (.getfield 96, 3) := by decide +kernel
theorem dX12_firstWrong_16 : decode cX12_firstWrong 16 = .ok (.bipush 7, 2) := by decide +kernel
theorem dX12_firstWrong_18 : decode cX12_firstWrong 18 = .ok (.iload_n 1, 1) := by decide +kernel
theorem dX12_firstWrong_19 : decode cX12_firstWrong 19 = .ok (.imul, 1) := by decide +kernel
theorem dX12_firstWrong_20 : decode cX12_firstWrong 20 = .ok (.iload_n 2, 1) := by decide +kernel
theorem dX12_firstWrong_21 : decode cX12_firstWrong 21 = .ok (.iadd, 1) := by decide +kernel
theorem dX12_firstWrong_22 : decode cX12_firstWrong 22 = .ok (.iaload, 1) := by decide +kernel
theorem dX12_firstWrong_23 : decode cX12_firstWrong 23 = .ok (.iconst 1, 1) := by decide +kernel
theorem dX12_firstWrong_24 : decode cX12_firstWrong 24 = .ok (.if_icmp .eq 9, 3) := by decide +kernel
theorem dX12_firstWrong_27 : decode cX12_firstWrong 27 = .ok (.iinc 2 1, 3) := by decide +kernel
theorem dX12_firstWrong_30 : decode cX12_firstWrong 30 = .ok (.goto (-28), 3) := by decide +kernel
theorem dX12_firstWrong_33 : decode cX12_firstWrong 33 = .ok (.iload_n 2, 1) := by decide +kernel
theorem dX12_firstWrong_34 : decode cX12_firstWrong 34 = .ok (.aload_n 0, 1) := by decide +kernel
theorem dX12_firstWrong_35 : decode cX12_firstWrong 35 = .ok (.getfield 93, 3) := by decide +kernel
theorem dX12_firstWrong_38 : decode cX12_firstWrong 38 = .ok (.iload_n 1, 1) := by decide +kernel
theorem dX12_firstWrong_39 : decode cX12_firstWrong 39 = .ok (.iaload, 1) := by decide +kernel
theorem dX12_firstWrong_40 : decode cX12_firstWrong 40 = .ok (.if_icmp .ge 7, 3) := by decide +kernel
theorem dX12_firstWrong_43 : decode cX12_firstWrong 43 = .ok (.iload_n 2, 1) := by decide +kernel
theorem dX12_firstWrong_44 : decode cX12_firstWrong 44 = .ok (.goto 4, 3) := by decide +kernel
theorem dX12_firstWrong_47 : decode cX12_firstWrong 47 = .ok (.iconst (-1), 1) := by decide +kernel
theorem dX12_firstWrong_48 : decode cX12_firstWrong 48 = .ok (.ireturn, 1) := by decide +kernel
theorem dX12_lastRight_0 : decode cX12_lastRight 0 = .ok (.iload_n 2, 1) := by decide +kernel
theorem dX12_lastRight_1 : decode cX12_lastRight 1 = .ok (.iconst 1, 1) := by decide +kernel
theorem dX12_lastRight_2 : decode cX12_lastRight 2 = .ok (.isub, 1) := by decide +kernel
theorem dX12_lastRight_3 : decode cX12_lastRight 3 = .ok (.istore_n 3, 1) := by decide +kernel
theorem dX12_lastRight_4 : decode cX12_lastRight 4 = .ok (.iload_n 3, 1) := by decide +kernel
theorem dX12_lastRight_5 : decode cX12_lastRight 5 = .ok (.ifCond .lt 23, 3) := by decide +kernel
theorem dX12_lastRight_8 : decode cX12_lastRight 8 = .ok (.aload_n 0, 1) := by decide +kernel
theorem dX12_lastRight_9 : decode cX12_lastRight 9 = .ok (.getfield 96, 3) := by decide +kernel
theorem dX12_lastRight_12 : decode cX12_lastRight 12 = .ok (.bipush 7, 2) := by decide +kernel
theorem dX12_lastRight_14 : decode cX12_lastRight 14 = .ok (.iload_n 1, 1) := by decide +kernel
theorem dX12_lastRight_15 : decode cX12_lastRight 15 = .ok (.imul, 1) := by decide +kernel
theorem dX12_lastRight_16 : decode cX12_lastRight 16 = .ok (.iload_n 3, 1) := by decide +kernel
theorem dX12_lastRight_17 : decode cX12_lastRight 17 = .ok (.iadd, 1) := by decide +kernel
theorem dX12_lastRight_18 : decode cX12_lastRight 18 = .ok (.iaload, 1) := by decide +kernel
theorem dX12_lastRight_19 : decode cX12_lastRight 19 = .ok (.ifCond .eq 9, 3) := by decide +kernel
theorem dX12_lastRight_22 : decode cX12_lastRight 22 = .ok (.iinc 3 (-1), 3) := by decide +kernel
theorem dX12_lastRight_25 : decode cX12_lastRight 25 = .ok (.goto (-21), 3) := by decide +kernel
theorem dX12_lastRight_28 : decode cX12_lastRight 28 = .ok (.iload_n 3, 1) := by decide +kernel
theorem dX12_lastRight_29 : decode cX12_lastRight 29 = .ok (.ireturn, 1) := by decide +kernel
theorem dX12_doesQuarrel_0 : decode cX12_doesQuarrel 0 = .ok (.iconst 0, 1) := by decide +kernel
theorem dX12_doesQuarrel_1 : decode cX12_doesQuarrel 1 = .ok (.istore_n 2, 1) := by decide +kernel
theorem dX12_doesQuarrel_2 : decode cX12_doesQuarrel 2 = .ok (.aload_n 0, 1) := by decide +kernel
theorem dX12_doesQuarrel_3 : decode cX12_doesQuarrel 3 = .ok (.iload_n 1, 1) := by decide +kernel
theorem dX12_doesQuarrel_4 : decode cX12_doesQuarrel 4 = .ok (.invokevirtual 333, 3) := by decide +kernel
theorem dX12_doesQuarrel_7 : decode cX12_doesQuarrel 7 = .ok (.istore_n 3, 1) := by decide +kernel
theorem dX12_doesQuarrel_8 : decode cX12_doesQuarrel 8 = .ok (.iload_n 3, 1) := by decide +kernel
theorem dX12_doesQuarrel_9 : decode cX12_doesQuarrel 9 = .ok (.istore 4, 2) := by decide +kernel
theorem dX12_doesQuarrel_11 : decode cX12_doesQuarrel 11 = .ok (.iload 4, 2) := by decide +kernel
theorem dX12_doesQuarrel_13 : decode cX12_doesQuarrel 13 = .ok (.aload_n 0, 1) := by decide +kernel
theorem dX12_doesQuarrel_14 : decode cX12_doesQuarrel 14 = .ok (.getfield 93, 3) := by decide +kernel
theorem dX12_doesQuarrel_17 : decode cX12_doesQuarrel 17 = .ok (.iload_n 1, 1) := by decide +kernel
theorem dX12_doesQuarrel_18 : decode cX12_doesQuarrel 18 = .ok (.iaload, 1) := by decide +kernel
theorem dX12_doesQuarrel_19 : decode cX12_doesQuarrel 19 = .ok (.if_icmp .ge 39, 3) := by decide +kernel
theorem dX12_doesQuarrel_22 : decode cX12_doesQuarrel 22 = .ok (.iload_n 3, 1) := by decide +kernel
theorem dX12_doesQuarrel_23 : decode cX12_doesQuarrel 23 = .ok (.iconst (-1), 1) := by decide +kernel
theorem dX12_doesQuarrel_24 : decode cX12_doesQuarrel 24 = .ok (.if_icmp .eq 34, 3) := by decide +kernel
theorem dX12_doesQuarrel_27 : decode cX12_doesQuarrel 27 = .ok (.iload_n 2, 1) := by decide +kernel
theorem dX12_doesQuarrel_28 : decode cX12_doesQuarrel 28 = .ok (.ifCond .ne 18, 3) := by decide +kernel
theorem dX12_doesQuarrel_31 : decode cX12_doesQuarrel 31 = .ok (.aload_n 0, 1) := by decide +kernel
theorem dX12_doesQuarrel_32 : decode cX12_doesQuarrel 32 = .ok (.getfield 96, 3) := by decide +kernel
theorem dX12_doesQuarrel_35 : decode cX12_doesQuarrel 35 = .ok (.bipush 7, 2) := by decide +kernel
theorem dX12_doesQuarrel_37 : decode cX12_doesQuarrel 37 = .ok (.iload_n 1, 1) := by decide +kernel
theorem dX12_doesQuarrel_38 : decode cX12_doesQuarrel 38 = .ok (.imul, 1) := by decide +kernel
theorem dX12_doesQuarrel_39 : decode cX12_doesQuarrel 39 = .ok (.iload 4, 2) := by decide +kernel
theorem dX12_doesQuarrel_41 : decode cX12_doesQuarrel 41 = .ok (.iadd, 1) := by decide +kernel
theorem dX12_doesQuarrel_42 : decode cX12_doesQuarrel 42 = .ok (.iaload, 1) := by decide +kernel
theorem dX12_doesQuarrel_43 : decode cX12_doesQuarrel 43 = .ok (.ifCond .ne 7, 3) := by decide +kernel
theorem dX12_doesQuarrel_46 : decode cX12_doesQuarrel 46 = .ok (.iconst 1, 1) := by decide +kernel
theorem dX12_doesQuarrel_47 : decode cX12_doesQuarrel 47 = .ok (.goto 4, 3) := by decide +kernel
theorem dX12_doesQuarrel_50 : decode cX12_doesQuarrel 50 = .ok (.iconst 0, 1) := by decide +kernel
theorem dX12_doesQuarrel_51 : decode cX12_doesQuarrel 51 = .ok (.istore_n 2, 1) := by decide +kernel
theorem dX12_doesQuarrel_52 : decode cX12_doesQuarrel 52 = .ok (.iinc 4 1, 3) := by decide +kernel
theorem dX12_doesQuarrel_55 : decode cX12_doesQuarrel 55 = .ok (.goto (-44), 3) := by decide +kernel
theorem dX12_doesQuarrel_58 : decode cX12_doesQuarrel 58 = .ok (.iload_n 2, 1) := by decide +kernel
theorem dX12_doesQuarrel_59 : decode cX12_doesQuarrel 59 = .ok (.ireturn, 1) := by decide +kernel
theorem dX12_lead_0 : decode cX12_lead 0 = .ok (.aload_n 0, 1) := by decide +kernel
theorem dX12_lead_1 : decode cX12_lead 1 = .ok (.iload_n 1, 1) := by decide +kernel
theorem dX12_lead_2 : decode cX12_lead 2 = .ok (.invokevirtual 330, 3) := by decide +kernel
theorem dX12_lead_5 : decode cX12_lead 5 = .ok (.ifCond .ne 6, 3) := by decide +kernel
theorem dX12_lead_8 : decode cX12_lead 8 = .ok (.bipush (-2), 2) := by decide +kernel
theorem dX12_lead_10 : decode cX12_lead 10 = .ok (.ireturn, 1) := by decide +kernel
theorem dX12_lead_11 : decode cX12_lead 11 = .ok (.aload_n 0, 1) := by decide +kernel
theorem dX12_lead_12 : decode cX12_lead 12 = .ok (.iload_n 1, 1) := by decide +kernel
theorem dX12_lead_13 : decode cX12_lead 13 = .ok (.invokevirtual 333, 3) := by decide +kernel
theorem dX12_lead_16 : decode cX12_lead 16 = .ok (.istore_n 2, 1) := by decide +kernel
theorem dX12_lead_17 : decode cX12_lead 17 = .ok (.iload_n 2, 1) := by decide +kernel
theorem dX12_lead_18 : decode cX12_lead 18 = .ok (.iconst (-1), 1) := by decide +kernel
theorem dX12_lead_19 : decode cX12_lead 19 = .ok (.if_icmp .ne 5, 3) := by decide +kernel
theorem dX12_lead_22 : decode cX12_lead 22 = .ok (.iconst (-1), 1) := by decide +kernel
theorem dX12_lead_23 : decode cX12_lead 23 = .ok (.ireturn, 1) := by decide +kernel
theorem dX12_lead_24 : decode cX12_lead 24 = .ok (.aload_n 0, 1) := by decide +kernel
theorem dX12_lead_25 : decode cX12_lead 25 = .ok (.iload_n 1, 1) := by decide +kernel
theorem dX12_lead_26 : decode cX12_lead 26 = .ok (.invokevirtual 337, 3) := by decide +kernel
theorem dX12_lead_29 : decode cX12_lead 29 = .ok (.ifCond .eq 8, 3) := by decide +kernel
theorem dX12_lead_32 : decode cX12_lead 32 = .ok (.bipush (-4), 2) := by decide +kernel
theorem dX12_lead_34 : decode cX12_lead 34 = .ok (.goto 16, 3) := by decide +kernel
theorem dX12_lead_37 : decode cX12_lead 37 = .ok (.bipush 10, 2) := by decide +kernel
theorem dX12_lead_39 : decode cX12_lead 39 = .ok (.aload_n 0, 1) := by decide +kernel
theorem dX12_lead_40 : decode cX12_lead 40 = .ok (.iload_n 1, 1) := by decide +kernel
theorem dX12_lead_41 : decode cX12_lead 41 = .ok (.iload_n 2, 1) := by decide +kernel
theorem dX12_lead_42 : decode cX12_lead 42 = .ok (.invokevirtual 340, 3) := by decide +kernel
theorem dX12_lead_45 : decode cX12_lead 45 = .ok (.iconst 1, 1) := by decide +kernel
theorem dX12_lead_46 : decode cX12_lead 46 = .ok (.iadd, 1) := by decide +kernel
theorem dX12_lead_47 : decode cX12_lead 47 = .ok (.imul, 1) := by decide +kernel
theorem dX12_lead_48 : decode cX12_lead 48 = .ok (.iload_n 2, 1) := by decide +kernel
theorem dX12_lead_49 : decode cX12_lead 49 = .ok (.iadd, 1) := by decide +kernel
theorem dX12_lead_50 : decode cX12_lead 50 = .ok (.ireturn, 1) := by decide +kernel
theorem dX12_bits_0 : decode cX12_bits 0 = .ok (.iconst 0, 1) := by decide +kernel
theorem dX12_bits_1 : decode cX12_bits 1 = .ok (.istore_n 1, 1) := by decide +kernel
theorem dX12_bits_2 : decode cX12_bits 2 = .ok (.iconst 0, 1) := by decide +kernel
theorem dX12_bits_3 : decode cX12_bits 3 = .ok (.istore_n 2, 1) := by decide +kernel
theorem dX12_bits_4 : decode cX12_bits 4 = .ok (.iload_n 2, 1) := by decide +kernel
theorem dX12_bits_5 : decode cX12_bits 5 = .ok (.bipush 8, 2) := by decide +kernel
theorem dX12_bits_7 : decode cX12_bits 7 = .ok (.if_icmp .ge 17, 3) := by decide +kernel
theorem dX12_bits_10 : decode cX12_bits 10 = .ok (.iload_n 1, 1) := by decide +kernel
theorem dX12_bits_11 : decode cX12_bits 11 = .ok (.iload_n 0, 1) := by decide +kernel
theorem dX12_bits_12 : decode cX12_bits 12 = .ok (.iload_n 2, 1) := by decide +kernel
theorem dX12_bits_13 : decode cX12_bits 13 = .ok (.ishr, 1) := by decide +kernel
theorem dX12_bits_14 : decode cX12_bits 14 = .ok (.iconst 1, 1) := by decide +kernel
theorem dX12_bits_15 : decode cX12_bits 15 = .ok (.iand, 1) := by decide +kernel
theorem dX12_bits_16 : decode cX12_bits 16 = .ok (.iadd, 1) := by decide +kernel
theorem dX12_bits_17 : decode cX12_bits 17 = .ok (.istore_n 1, 1) := by decide +kernel
theorem dX12_bits_18 : decode cX12_bits 18 = .ok (.iinc 2 1, 3) := by decide +kernel
theorem dX12_bits_21 : decode cX12_bits 21 = .ok (.goto (-17), 3) := by decide +kernel
theorem dX12_bits_24 : decode cX12_bits 24 = .ok (.iload_n 1, 1) := by decide +kernel
theorem dX12_bits_25 : decode cX12_bits 25 = .ok (.ireturn, 1) := by decide +kernel
theorem dX12_areBlamed_0 : decode cX12_areBlamed 0 = .ok (.iconst 1, 1) := by decide +kernel
theorem dX12_areBlamed_1 : decode cX12_areBlamed 1 = .ok (.istore_n 2, 1) := by decide +kernel
theorem dX12_areBlamed_2 : decode cX12_areBlamed 2 = .ok (.iconst 0, 1) := by decide +kernel
theorem dX12_areBlamed_3 : decode cX12_areBlamed 3 = .ok (.istore_n 3, 1) := by decide +kernel
theorem dX12_areBlamed_4 : decode cX12_areBlamed 4 = .ok (.iload_n 3, 1) := by decide +kernel
theorem dX12_areBlamed_5 : decode cX12_areBlamed 5 = .ok (.aload_n 0, 1) := by decide +kernel
theorem dX12_areBlamed_6 : decode cX12_areBlamed 6 = .ok (.getfield 327, 3) := by decide +kernel
theorem dX12_areBlamed_9 : decode cX12_areBlamed 9 = .ok (.if_icmp .ge 114, 3) := by decide +kernel
theorem dX12_areBlamed_12 : decode cX12_areBlamed 12 = .ok (.aload_n 0, 1) := by decide +kernel
theorem dX12_areBlamed_13 : decode cX12_areBlamed 13 = .ok (.iload_n 3, 1) := by decide +kernel
theorem dX12_areBlamed_14 : decode cX12_areBlamed 14 = .ok (.invokevirtual 333, 3) := by decide +kernel
theorem dX12_areBlamed_17 : decode cX12_areBlamed 17 = .ok (.istore 4, 2) := by decide +kernel
theorem dX12_areBlamed_19 : decode cX12_areBlamed 19 = .ok (.iload 4, 2) := by decide +kernel
theorem dX12_areBlamed_21 : decode cX12_areBlamed 21 = .ok (.ifCond .le 96, 3) := by decide +kernel
theorem dX12_areBlamed_24 : decode cX12_areBlamed 24 = .ok (.aload_n 0, 1) := by decide +kernel
theorem dX12_areBlamed_25 : decode cX12_areBlamed 25 = .ok (.iload_n 3, 1) := by decide +kernel
theorem dX12_areBlamed_26 : decode cX12_areBlamed 26 = .ok (.invokevirtual 337, 3) := by decide +kernel
theorem dX12_areBlamed_29 : decode cX12_areBlamed 29 = .ok (.ifCond .ne 88, 3) := by decide +kernel
theorem dX12_areBlamed_32 : decode cX12_areBlamed 32 = .ok (.aload_n 0, 1) := by decide +kernel
theorem dX12_areBlamed_33 : decode cX12_areBlamed 33 = .ok (.iload_n 3, 1) := by decide +kernel
theorem dX12_areBlamed_34 : decode cX12_areBlamed 34 = .ok (.iload 4, 2) := by decide +kernel
theorem dX12_areBlamed_36 : decode cX12_areBlamed 36 = .ok (.invokevirtual 340, 3) := by decide +kernel
theorem dX12_areBlamed_39 : decode cX12_areBlamed 39 = .ok (.istore 5, 2) := by decide +kernel
theorem dX12_areBlamed_41 : decode cX12_areBlamed 41 = .ok (.iconst 0, 1) := by decide +kernel
theorem dX12_areBlamed_42 : decode cX12_areBlamed 42 = .ok (.istore 6, 2) := by decide +kernel
theorem dX12_areBlamed_44 : decode cX12_areBlamed 44 = .ok (.iload 5, 2) := by decide +kernel
theorem dX12_areBlamed_46 : decode cX12_areBlamed 46 = .ok (.ifCond .ge 7, 3) := by decide +kernel
theorem dX12_areBlamed_49 : decode cX12_areBlamed 49 = .ok (.iconst 0, 1) := by decide +kernel
theorem dX12_areBlamed_50 : decode cX12_areBlamed 50 = .ok (.goto 5, 3) := by decide +kernel
theorem dX12_areBlamed_53 : decode cX12_areBlamed 53 = .ok (.iload 5, 2) := by decide +kernel
theorem dX12_areBlamed_55 : decode cX12_areBlamed 55 = .ok (.istore 7, 2) := by decide +kernel
theorem dX12_areBlamed_57 : decode cX12_areBlamed 57 = .ok (.iload 7, 2) := by decide +kernel
theorem dX12_areBlamed_59 : decode cX12_areBlamed 59 = .ok (.iload 4, 2) := by decide +kernel
theorem dX12_areBlamed_61 : decode cX12_areBlamed 61 = .ok (.if_icmp .ge 41, 3) := by decide +kernel
theorem dX12_areBlamed_64 : decode cX12_areBlamed 64 = .ok (.iload 6, 2) := by decide +kernel
theorem dX12_areBlamed_66 : decode cX12_areBlamed 66 = .ok (.ifCond .ne 23, 3) := by decide +kernel
theorem dX12_areBlamed_69 : decode cX12_areBlamed 69 = .ok (.iload_n 1, 1) := by decide +kernel
theorem dX12_areBlamed_70 : decode cX12_areBlamed 70 = .ok (.aload_n 0, 1) := by decide +kernel
theorem dX12_areBlamed_71 : decode cX12_areBlamed 71 = .ok (.getfield 99, 3) := by decide +kernel
theorem dX12_areBlamed_74 : decode cX12_areBlamed 74 = .ok (.bipush 7, 2) := by decide +kernel
theorem dX12_areBlamed_76 : decode cX12_areBlamed 76 = .ok (.iload_n 3, 1) := by decide +kernel
theorem dX12_areBlamed_77 : decode cX12_areBlamed 77 = .ok (.imul, 1) := by decide +kernel
theorem dX12_areBlamed_78 : decode cX12_areBlamed 78 = .ok (.iload 7, 2) := by decide +kernel
theorem dX12_areBlamed_80 : decode cX12_areBlamed 80 = .ok (.iadd, 1) := by decide +kernel
theorem dX12_areBlamed_81 : decode cX12_areBlamed 81 = .ok (.iaload, 1) := by decide +kernel
theorem dX12_areBlamed_82 : decode cX12_areBlamed 82 = .ok (.ishr, 1) := by decide +kernel
theorem dX12_areBlamed_83 : decode cX12_areBlamed 83 = .ok (.iconst 1, 1) := by decide +kernel
theorem dX12_areBlamed_84 : decode cX12_areBlamed 84 = .ok (.iand, 1) := by decide +kernel
theorem dX12_areBlamed_85 : decode cX12_areBlamed 85 = .ok (.iconst 1, 1) := by decide +kernel
theorem dX12_areBlamed_86 : decode cX12_areBlamed 86 = .ok (.if_icmp .ne 7, 3) := by decide +kernel
theorem dX12_areBlamed_89 : decode cX12_areBlamed 89 = .ok (.iconst 1, 1) := by decide +kernel
theorem dX12_areBlamed_90 : decode cX12_areBlamed 90 = .ok (.goto 4, 3) := by decide +kernel
theorem dX12_areBlamed_93 : decode cX12_areBlamed 93 = .ok (.iconst 0, 1) := by decide +kernel
theorem dX12_areBlamed_94 : decode cX12_areBlamed 94 = .ok (.istore 6, 2) := by decide +kernel
theorem dX12_areBlamed_96 : decode cX12_areBlamed 96 = .ok (.iinc 7 1, 3) := by decide +kernel
theorem dX12_areBlamed_99 : decode cX12_areBlamed 99 = .ok (.goto (-42), 3) := by decide +kernel
theorem dX12_areBlamed_102 : decode cX12_areBlamed 102 = .ok (.iload_n 2, 1) := by decide +kernel
theorem dX12_areBlamed_103 : decode cX12_areBlamed 103 = .ok (.ifCond .eq 12, 3) := by decide +kernel
theorem dX12_areBlamed_106 : decode cX12_areBlamed 106 = .ok (.iload 6, 2) := by decide +kernel
theorem dX12_areBlamed_108 : decode cX12_areBlamed 108 = .ok (.ifCond .eq 7, 3) := by decide +kernel
theorem dX12_areBlamed_111 : decode cX12_areBlamed 111 = .ok (.iconst 1, 1) := by decide +kernel
theorem dX12_areBlamed_112 : decode cX12_areBlamed 112 = .ok (.goto 4, 3) := by decide +kernel
theorem dX12_areBlamed_115 : decode cX12_areBlamed 115 = .ok (.iconst 0, 1) := by decide +kernel
theorem dX12_areBlamed_116 : decode cX12_areBlamed 116 = .ok (.istore_n 2, 1) := by decide +kernel
theorem dX12_areBlamed_117 : decode cX12_areBlamed 117 = .ok (.iinc 3 1, 3) := by decide +kernel
theorem dX12_areBlamed_120 : decode cX12_areBlamed 120 = .ok (.goto (-116), 3) := by decide +kernel
theorem dX12_areBlamed_123 : decode cX12_areBlamed 123 = .ok (.iload_n 2, 1) := by decide +kernel
theorem dX12_areBlamed_124 : decode cX12_areBlamed 124 = .ok (.ireturn, 1) := by decide +kernel
theorem dX12_blamed_0 : decode cX12_blamed 0 = .ok (.sipush 255, 3) := by decide +kernel
theorem dX12_blamed_3 : decode cX12_blamed 3 = .ok (.istore_n 1, 1) := by decide +kernel
theorem dX12_blamed_4 : decode cX12_blamed 4 = .ok (.iconst 0, 1) := by decide +kernel
theorem dX12_blamed_5 : decode cX12_blamed 5 = .ok (.istore_n 2, 1) := by decide +kernel
theorem dX12_blamed_6 : decode cX12_blamed 6 = .ok (.iload_n 2, 1) := by decide +kernel
theorem dX12_blamed_7 : decode cX12_blamed 7 = .ok (.sipush 256, 3) := by decide +kernel
theorem dX12_blamed_10 : decode cX12_blamed 10 = .ok (.if_icmp .ge 34, 3) := by decide +kernel
theorem dX12_blamed_13 : decode cX12_blamed 13 = .ok (.iload_n 2, 1) := by decide +kernel
theorem dX12_blamed_14 : decode cX12_blamed 14 = .ok (.invokestatic 343, 3) := by decide +kernel
theorem dX12_blamed_17 : decode cX12_blamed 17 = .ok (.iload_n 1, 1) := by decide +kernel
theorem dX12_blamed_18 : decode cX12_blamed 18 = .ok (.invokestatic 343, 3) := by decide +kernel
theorem dX12_blamed_21 : decode cX12_blamed 21 = .ok (.if_icmp .ge 15, 3) := by decide +kernel
theorem dX12_blamed_24 : decode cX12_blamed 24 = .ok (.aload_n 0, 1) := by decide +kernel
theorem dX12_blamed_25 : decode cX12_blamed 25 = .ok (.iload_n 2, 1) := by decide +kernel
theorem dX12_blamed_26 : decode cX12_blamed 26 = .ok (.invokevirtual 346, 3) := by decide +kernel
theorem dX12_blamed_29 : decode cX12_blamed 29 = .ok (.ifCond .eq 7, 3) := by decide +kernel
theorem dX12_blamed_32 : decode cX12_blamed 32 = .ok (.iload_n 2, 1) := by decide +kernel
theorem dX12_blamed_33 : decode cX12_blamed 33 = .ok (.goto 4, 3) := by decide +kernel
theorem dX12_blamed_36 : decode cX12_blamed 36 = .ok (.iload_n 1, 1) := by decide +kernel
theorem dX12_blamed_37 : decode cX12_blamed 37 = .ok (.istore_n 1, 1) := by decide +kernel
theorem dX12_blamed_38 : decode cX12_blamed 38 = .ok (.iinc 2 1, 3) := by decide +kernel
theorem dX12_blamed_41 : decode cX12_blamed 41 = .ok (.goto (-35), 3) := by decide +kernel
theorem dX12_blamed_44 : decode cX12_blamed 44 = .ok (.iload_n 1, 1) := by decide +kernel
theorem dX12_blamed_45 : decode cX12_blamed 45 = .ok (.ireturn, 1) := by decide +kernel
theorem dX12_load_0 : decode cX12_load 0 = .ok (.iload_n 1, 1) := by decide +kernel
theorem dX12_load_1 : decode cX12_load 1 = .ok (.iconst 0, 1) := by decide +kernel
theorem dX12_load_2 : decode cX12_load 2 = .ok (.iconst 2, 1) := by decide +kernel
theorem dX12_load_3 : decode cX12_load 3 = .ok (.invokestatic 123, 3) := by decide +kernel
theorem dX12_load_6 : decode cX12_load 6 = .ok (.ifCond .ne 6, 3) := by decide +kernel
theorem dX12_load_9 : decode cX12_load 9 = .ok (.bipush (-2), 2) := by decide +kernel
theorem dX12_load_11 : decode cX12_load 11 = .ok (.ireturn, 1) := by decide +kernel
theorem dX12_load_12 : decode cX12_load 12 = .ok (.iload_n 2, 1) := by decide +kernel
theorem dX12_load_13 : decode cX12_load 13 = .ok (.iconst 0, 1) := by decide +kernel
theorem dX12_load_14 : decode cX12_load 14 = .ok (.bipush 23, 2) := by decide +kernel
theorem dX12_load_16 : decode cX12_load 16 = .ok (.invokestatic 123, 3) := by decide +kernel
theorem dX12_load_19 : decode cX12_load 19 = .ok (.ifCond .eq 14, 3) := by decide +kernel
theorem dX12_load_22 : decode cX12_load 22 = .ok (.iload_n 3, 1) := by decide +kernel
theorem dX12_load_23 : decode cX12_load 23 = .ok (.iconst 0, 1) := by decide +kernel
theorem dX12_load_24 : decode cX12_load 24 = .ok (.sipush 999, 3) := by decide +kernel
theorem dX12_load_27 : decode cX12_load 27 = .ok (.invokestatic 123, 3) := by decide +kernel
theorem dX12_load_30 : decode cX12_load 30 = .ok (.ifCond .ne 6, 3) := by decide +kernel
theorem dX12_load_33 : decode cX12_load 33 = .ok (.bipush (-3), 2) := by decide +kernel
theorem dX12_load_35 : decode cX12_load 35 = .ok (.ireturn, 1) := by decide +kernel
theorem dX12_load_36 : decode cX12_load 36 = .ok (.aload_n 0, 1) := by decide +kernel
theorem dX12_load_37 : decode cX12_load 37 = .ok (.getfield 102, 3) := by decide +kernel
theorem dX12_load_40 : decode cX12_load 40 = .ok (.bipush 24, 2) := by decide +kernel
theorem dX12_load_42 : decode cX12_load 42 = .ok (.iload_n 1, 1) := by decide +kernel
theorem dX12_load_43 : decode cX12_load 43 = .ok (.imul, 1) := by decide +kernel
theorem dX12_load_44 : decode cX12_load 44 = .ok (.iload_n 2, 1) := by decide +kernel
theorem dX12_load_45 : decode cX12_load 45 = .ok (.iadd, 1) := by decide +kernel
theorem dX12_load_46 : decode cX12_load 46 = .ok (.iaload, 1) := by decide +kernel
theorem dX12_load_47 : decode cX12_load 47 = .ok (.istore 4, 2) := by decide +kernel
theorem dX12_load_49 : decode cX12_load 49 = .ok (.aload_n 0, 1) := by decide +kernel
theorem dX12_load_50 : decode cX12_load 50 = .ok (.getfield 102, 3) := by decide +kernel
theorem dX12_load_53 : decode cX12_load 53 = .ok (.bipush 24, 2) := by decide +kernel
theorem dX12_load_55 : decode cX12_load 55 = .ok (.iload_n 1, 1) := by decide +kernel
theorem dX12_load_56 : decode cX12_load 56 = .ok (.imul, 1) := by decide +kernel
theorem dX12_load_57 : decode cX12_load 57 = .ok (.iload_n 2, 1) := by decide +kernel
theorem dX12_load_58 : decode cX12_load 58 = .ok (.iadd, 1) := by decide +kernel
theorem dX12_load_59 : decode cX12_load 59 = .ok (.iload_n 3, 1) := by decide +kernel
theorem dX12_load_60 : decode cX12_load 60 = .ok (.iastore, 1) := by decide +kernel
theorem dX12_load_61 : decode cX12_load 61 = .ok (.iload 4, 2) := by decide +kernel
theorem dX12_load_63 : decode cX12_load 63 = .ok (.ireturn, 1) := by decide +kernel
theorem dX12_set_0 : decode cX12_set 0 = .ok (.iload_n 1, 1) := by decide +kernel
theorem dX12_set_1 : decode cX12_set 1 = .ok (.iconst 0, 1) := by decide +kernel
theorem dX12_set_2 : decode cX12_set 2 = .ok (.iconst 1, 1) := by decide +kernel
theorem dX12_set_3 : decode cX12_set 3 = .ok (.invokestatic 123, 3) := by decide +kernel
theorem dX12_set_6 : decode cX12_set 6 = .ok (.ifCond .eq 31, 3) := by decide +kernel
theorem dX12_set_9 : decode cX12_set 9 = .ok (.iload_n 2, 1) := by decide +kernel
theorem dX12_set_10 : decode cX12_set 10 = .ok (.iload_n 1, 1) := by decide +kernel
theorem dX12_set_11 : decode cX12_set 11 = .ok (.ifCond .ne 7, 3) := by decide +kernel
theorem dX12_set_14 : decode cX12_set 14 = .ok (.iconst 1, 1) := by decide +kernel
theorem dX12_set_15 : decode cX12_set 15 = .ok (.goto 4, 3) := by decide +kernel
theorem dX12_set_18 : decode cX12_set 18 = .ok (.iconst 0, 1) := by decide +kernel
theorem dX12_set_19 : decode cX12_set 19 = .ok (.iload_n 1, 1) := by decide +kernel
theorem dX12_set_20 : decode cX12_set 20 = .ok (.ifCond .ne 8, 3) := by decide +kernel
theorem dX12_set_23 : decode cX12_set 23 = .ok (.bipush 99, 2) := by decide +kernel
theorem dX12_set_25 : decode cX12_set 25 = .ok (.goto 6, 3) := by decide +kernel
theorem dX12_set_28 : decode cX12_set 28 = .ok (.sipush 9999, 3) := by decide +kernel
theorem dX12_set_31 : decode cX12_set 31 = .ok (.invokestatic 123, 3) := by decide +kernel
theorem dX12_set_34 : decode cX12_set 34 = .ok (.ifCond .ne 6, 3) := by decide +kernel
theorem dX12_set_37 : decode cX12_set 37 = .ok (.bipush (-3), 2) := by decide +kernel
theorem dX12_set_39 : decode cX12_set 39 = .ok (.ireturn, 1) := by decide +kernel
theorem dX12_set_40 : decode cX12_set 40 = .ok (.iload_n 1, 1) := by decide +kernel
theorem dX12_set_41 : decode cX12_set 41 = .ok (.ifCond .ne 10, 3) := by decide +kernel
theorem dX12_set_44 : decode cX12_set 44 = .ok (.aload_n 0, 1) := by decide +kernel
theorem dX12_set_45 : decode cX12_set 45 = .ok (.getfield 105, 3) := by decide +kernel
theorem dX12_set_48 : decode cX12_set 48 = .ok (.goto 7, 3) := by decide +kernel
theorem dX12_set_51 : decode cX12_set 51 = .ok (.aload_n 0, 1) := by decide +kernel
theorem dX12_set_52 : decode cX12_set 52 = .ok (.getfield 349, 3) := by decide +kernel
theorem dX12_set_55 : decode cX12_set 55 = .ok (.istore_n 3, 1) := by decide +kernel
theorem dX12_set_56 : decode cX12_set 56 = .ok (.aload_n 0, 1) := by decide +kernel
theorem dX12_set_57 : decode cX12_set 57 = .ok (.iload_n 1, 1) := by decide +kernel
theorem dX12_set_58 : decode cX12_set 58 = .ok (.ifCond .ne 7, 3) := by decide +kernel
theorem dX12_set_61 : decode cX12_set 61 = .ok (.iload_n 2, 1) := by decide +kernel
theorem dX12_set_62 : decode cX12_set 62 = .ok (.goto 7, 3) := by decide +kernel
theorem dX12_set_65 : decode cX12_set 65 = .ok (.aload_n 0, 1) := by decide +kernel
theorem dX12_set_66 : decode cX12_set 66 = .ok (.getfield 105, 3) := by decide +kernel
theorem dX12_set_69 : decode cX12_set 69 = .ok (.putfield 105, 3) := by decide +kernel
theorem dX12_set_72 : decode cX12_set 72 = .ok (.aload_n 0, 1) := by decide +kernel
theorem dX12_set_73 : decode cX12_set 73 = .ok (.iload_n 1, 1) := by decide +kernel
theorem dX12_set_74 : decode cX12_set 74 = .ok (.iconst 1, 1) := by decide +kernel
theorem dX12_set_75 : decode cX12_set 75 = .ok (.if_icmp .ne 7, 3) := by decide +kernel
theorem dX12_set_78 : decode cX12_set 78 = .ok (.iload_n 2, 1) := by decide +kernel
theorem dX12_set_79 : decode cX12_set 79 = .ok (.goto 7, 3) := by decide +kernel
theorem dX12_set_82 : decode cX12_set 82 = .ok (.aload_n 0, 1) := by decide +kernel
theorem dX12_set_83 : decode cX12_set 83 = .ok (.getfield 349, 3) := by decide +kernel
theorem dX12_set_86 : decode cX12_set 86 = .ok (.putfield 349, 3) := by decide +kernel
theorem dX12_set_89 : decode cX12_set 89 = .ok (.iload_n 3, 1) := by decide +kernel
theorem dX12_set_90 : decode cX12_set 90 = .ok (.ireturn, 1) := by decide +kernel
theorem dX12_mostWaits_0 : decode cX12_mostWaits 0 = .ok (.iconst 0, 1) := by decide +kernel
theorem dX12_mostWaits_1 : decode cX12_mostWaits 1 = .ok (.istore 4, 2) := by decide +kernel
theorem dX12_mostWaits_3 : decode cX12_mostWaits 3 = .ok (.iconst 0, 1) := by decide +kernel
theorem dX12_mostWaits_4 : decode cX12_mostWaits 4 = .ok (.istore 5, 2) := by decide +kernel
theorem dX12_mostWaits_6 : decode cX12_mostWaits 6 = .ok (.iload 5, 2) := by decide +kernel
theorem dX12_mostWaits_8 : decode cX12_mostWaits 8 = .ok (.iconst 3, 1) := by decide +kernel
theorem dX12_mostWaits_9 : decode cX12_mostWaits 9 = .ok (.if_icmp .ge 104, 3) := by decide +kernel
theorem dX12_mostWaits_12 : decode cX12_mostWaits 12 = .ok (.iconst 0, 1) := by decide +kernel
theorem dX12_mostWaits_13 : decode cX12_mostWaits 13 = .ok (.istore 6, 2) := by decide +kernel
theorem dX12_mostWaits_15 : decode cX12_mostWaits 15 = .ok (.iconst 0, 1) := by decide +kernel
theorem dX12_mostWaits_16 : decode cX12_mostWaits 16 = .ok (.istore 7, 2) := by decide +kernel
theorem dX12_mostWaits_18 : decode cX12_mostWaits 18 = .ok (.iload 7, 2) := by decide +kernel
theorem dX12_mostWaits_20 : decode cX12_mostWaits 20 = .ok (.bipush 24, 2) := by decide +kernel
theorem dX12_mostWaits_22 : decode cX12_mostWaits 22 = .ok (.if_icmp .ge 85, 3) := by decide +kernel
theorem dX12_mostWaits_25 : decode cX12_mostWaits 25 = .ok (.iload 6, 2) := by decide +kernel
theorem dX12_mostWaits_27 : decode cX12_mostWaits 27 = .ok (.aload_n 0, 1) := by decide +kernel
theorem dX12_mostWaits_28 : decode cX12_mostWaits 28 = .ok (.getfield 102, 3) := by decide +kernel
theorem dX12_mostWaits_31 : decode cX12_mostWaits 31 = .ok (.bipush 24, 2) := by decide +kernel
theorem dX12_mostWaits_33 : decode cX12_mostWaits 33 = .ok (.iload 5, 2) := by decide +kernel
theorem dX12_mostWaits_35 : decode cX12_mostWaits 35 = .ok (.imul, 1) := by decide +kernel
theorem dX12_mostWaits_36 : decode cX12_mostWaits 36 = .ok (.iload 7, 2) := by decide +kernel
theorem dX12_mostWaits_38 : decode cX12_mostWaits 38 = .ok (.iadd, 1) := by decide +kernel
theorem dX12_mostWaits_39 : decode cX12_mostWaits 39 = .ok (.iaload, 1) := by decide +kernel
theorem dX12_mostWaits_40 : decode cX12_mostWaits 40 = .ok (.aload_n 0, 1) := by decide +kernel
theorem dX12_mostWaits_41 : decode cX12_mostWaits 41 = .ok (.getfield 105, 3) := by decide +kernel
theorem dX12_mostWaits_44 : decode cX12_mostWaits 44 = .ok (.iload 7, 2) := by decide +kernel
theorem dX12_mostWaits_46 : decode cX12_mostWaits 46 = .ok (.bipush 8, 2) := by decide +kernel
theorem dX12_mostWaits_48 : decode cX12_mostWaits 48 = .ok (.if_icmp .ge 7, 3) := by decide +kernel
theorem dX12_mostWaits_51 : decode cX12_mostWaits 51 = .ok (.iload_n 1, 1) := by decide +kernel
theorem dX12_mostWaits_52 : decode cX12_mostWaits 52 = .ok (.goto 15, 3) := by decide +kernel
theorem dX12_mostWaits_55 : decode cX12_mostWaits 55 = .ok (.iload 7, 2) := by decide +kernel
theorem dX12_mostWaits_57 : decode cX12_mostWaits 57 = .ok (.bipush 16, 2) := by decide +kernel
theorem dX12_mostWaits_59 : decode cX12_mostWaits 59 = .ok (.if_icmp .ge 7, 3) := by decide +kernel
theorem dX12_mostWaits_62 : decode cX12_mostWaits 62 = .ok (.iload_n 2, 1) := by decide +kernel
theorem dX12_mostWaits_63 : decode cX12_mostWaits 63 = .ok (.goto 4, 3) := by decide +kernel
theorem dX12_mostWaits_66 : decode cX12_mostWaits 66 = .ok (.iload_n 3, 1) := by decide +kernel
theorem dX12_mostWaits_67 : decode cX12_mostWaits 67 = .ok (.imul, 1) := by decide +kernel
theorem dX12_mostWaits_68 : decode cX12_mostWaits 68 = .ok (.isub, 1) := by decide +kernel
theorem dX12_mostWaits_69 : decode cX12_mostWaits 69 = .ok (.iadd, 1) := by decide +kernel
theorem dX12_mostWaits_70 : decode cX12_mostWaits 70 = .ok (.istore 6, 2) := by decide +kernel
theorem dX12_mostWaits_72 : decode cX12_mostWaits 72 = .ok (.iload 6, 2) := by decide +kernel
theorem dX12_mostWaits_74 : decode cX12_mostWaits 74 = .ok (.ifCond .ge 7, 3) := by decide +kernel
theorem dX12_mostWaits_77 : decode cX12_mostWaits 77 = .ok (.iconst 0, 1) := by decide +kernel
theorem dX12_mostWaits_78 : decode cX12_mostWaits 78 = .ok (.goto 5, 3) := by decide +kernel
theorem dX12_mostWaits_81 : decode cX12_mostWaits 81 = .ok (.iload 6, 2) := by decide +kernel
theorem dX12_mostWaits_83 : decode cX12_mostWaits 83 = .ok (.istore 6, 2) := by decide +kernel
theorem dX12_mostWaits_85 : decode cX12_mostWaits 85 = .ok (.iload 6, 2) := by decide +kernel
theorem dX12_mostWaits_87 : decode cX12_mostWaits 87 = .ok (.iload 4, 2) := by decide +kernel
theorem dX12_mostWaits_89 : decode cX12_mostWaits 89 = .ok (.if_icmp .le 8, 3) := by decide +kernel
theorem dX12_mostWaits_92 : decode cX12_mostWaits 92 = .ok (.iload 6, 2) := by decide +kernel
theorem dX12_mostWaits_94 : decode cX12_mostWaits 94 = .ok (.goto 5, 3) := by decide +kernel
theorem dX12_mostWaits_97 : decode cX12_mostWaits 97 = .ok (.iload 4, 2) := by decide +kernel
theorem dX12_mostWaits_99 : decode cX12_mostWaits 99 = .ok (.istore 4, 2) := by decide +kernel
theorem dX12_mostWaits_101 : decode cX12_mostWaits 101 = .ok (.iinc 7 1, 3) := by decide +kernel
theorem dX12_mostWaits_104 : decode cX12_mostWaits 104 = .ok (.goto (-86), 3) := by decide +kernel
theorem dX12_mostWaits_107 : decode cX12_mostWaits 107 = .ok (.iinc 5 1, 3) := by decide +kernel
theorem dX12_mostWaits_110 : decode cX12_mostWaits 110 = .ok (.goto (-104), 3) := by decide +kernel
theorem dX12_mostWaits_113 : decode cX12_mostWaits 113 = .ok (.iload 4, 2) := by decide +kernel
theorem dX12_mostWaits_115 : decode cX12_mostWaits 115 = .ok (.ireturn, 1) := by decide +kernel
theorem dX12_fewest_0 : decode cX12_fewest 0 = .ok (.iload_n 1, 1) := by decide +kernel
theorem dX12_fewest_1 : decode cX12_fewest 1 = .ok (.iconst 0, 1) := by decide +kernel
theorem dX12_fewest_2 : decode cX12_fewest 2 = .ok (.iconst 3, 1) := by decide +kernel
theorem dX12_fewest_3 : decode cX12_fewest 3 = .ok (.invokestatic 123, 3) := by decide +kernel
theorem dX12_fewest_6 : decode cX12_fewest 6 = .ok (.ifCond .ne 6, 3) := by decide +kernel
theorem dX12_fewest_9 : decode cX12_fewest 9 = .ok (.bipush (-3), 2) := by decide +kernel
theorem dX12_fewest_11 : decode cX12_fewest 11 = .ok (.ireturn, 1) := by decide +kernel
theorem dX12_fewest_12 : decode cX12_fewest 12 = .ok (.iconst (-1), 1) := by decide +kernel
theorem dX12_fewest_13 : decode cX12_fewest 13 = .ok (.istore_n 2, 1) := by decide +kernel
theorem dX12_fewest_14 : decode cX12_fewest 14 = .ok (.iconst 0, 1) := by decide +kernel
theorem dX12_fewest_15 : decode cX12_fewest 15 = .ok (.istore_n 3, 1) := by decide +kernel
theorem dX12_fewest_16 : decode cX12_fewest 16 = .ok (.iconst 0, 1) := by decide +kernel
theorem dX12_fewest_17 : decode cX12_fewest 17 = .ok (.istore 4, 2) := by decide +kernel
theorem dX12_fewest_19 : decode cX12_fewest 19 = .ok (.iload 4, 2) := by decide +kernel
theorem dX12_fewest_21 : decode cX12_fewest 21 = .ok (.sipush 4096, 3) := by decide +kernel
theorem dX12_fewest_24 : decode cX12_fewest 24 = .ok (.if_icmp .ge 80, 3) := by decide +kernel
theorem dX12_fewest_27 : decode cX12_fewest 27 = .ok (.iload 4, 2) := by decide +kernel
theorem dX12_fewest_29 : decode cX12_fewest 29 = .ok (.sipush 256, 3) := by decide +kernel
theorem dX12_fewest_32 : decode cX12_fewest 32 = .ok (.idiv, 1) := by decide +kernel
theorem dX12_fewest_33 : decode cX12_fewest 33 = .ok (.istore 5, 2) := by decide +kernel
theorem dX12_fewest_35 : decode cX12_fewest 35 = .ok (.iload 4, 2) := by decide +kernel
theorem dX12_fewest_37 : decode cX12_fewest 37 = .ok (.bipush 16, 2) := by decide +kernel
theorem dX12_fewest_39 : decode cX12_fewest 39 = .ok (.idiv, 1) := by decide +kernel
theorem dX12_fewest_40 : decode cX12_fewest 40 = .ok (.bipush 16, 2) := by decide +kernel
theorem dX12_fewest_42 : decode cX12_fewest 42 = .ok (.irem, 1) := by decide +kernel
theorem dX12_fewest_43 : decode cX12_fewest 43 = .ok (.istore 6, 2) := by decide +kernel
theorem dX12_fewest_45 : decode cX12_fewest 45 = .ok (.iload 4, 2) := by decide +kernel
theorem dX12_fewest_47 : decode cX12_fewest 47 = .ok (.bipush 16, 2) := by decide +kernel
theorem dX12_fewest_49 : decode cX12_fewest 49 = .ok (.irem, 1) := by decide +kernel
theorem dX12_fewest_50 : decode cX12_fewest 50 = .ok (.istore 7, 2) := by decide +kernel
theorem dX12_fewest_52 : decode cX12_fewest 52 = .ok (.iload_n 2, 1) := by decide +kernel
theorem dX12_fewest_53 : decode cX12_fewest 53 = .ok (.iconst (-1), 1) := by decide +kernel
theorem dX12_fewest_54 : decode cX12_fewest 54 = .ok (.if_icmp .eq 15, 3) := by decide +kernel
theorem dX12_fewest_57 : decode cX12_fewest 57 = .ok (.iload 5, 2) := by decide +kernel
theorem dX12_fewest_59 : decode cX12_fewest 59 = .ok (.iload 6, 2) := by decide +kernel
theorem dX12_fewest_61 : decode cX12_fewest 61 = .ok (.iadd, 1) := by decide +kernel
theorem dX12_fewest_62 : decode cX12_fewest 62 = .ok (.iload 7, 2) := by decide +kernel
theorem dX12_fewest_64 : decode cX12_fewest 64 = .ok (.iadd, 1) := by decide +kernel
theorem dX12_fewest_65 : decode cX12_fewest 65 = .ok (.iload_n 3, 1) := by decide +kernel
theorem dX12_fewest_66 : decode cX12_fewest 66 = .ok (.if_icmp .ge 32, 3) := by decide +kernel
theorem dX12_fewest_69 : decode cX12_fewest 69 = .ok (.aload_n 0, 1) := by decide +kernel
theorem dX12_fewest_70 : decode cX12_fewest 70 = .ok (.iload 5, 2) := by decide +kernel
theorem dX12_fewest_72 : decode cX12_fewest 72 = .ok (.iload 6, 2) := by decide +kernel
theorem dX12_fewest_74 : decode cX12_fewest 74 = .ok (.iload 7, 2) := by decide +kernel
theorem dX12_fewest_76 : decode cX12_fewest 76 = .ok (.invokevirtual 352, 3) := by decide +kernel
theorem dX12_fewest_79 : decode cX12_fewest 79 = .ok (.aload_n 0, 1) := by decide +kernel
theorem dX12_fewest_80 : decode cX12_fewest 80 = .ok (.getfield 349, 3) := by decide +kernel
theorem dX12_fewest_83 : decode cX12_fewest 83 = .ok (.if_icmp .gt 15, 3) := by decide +kernel
theorem dX12_fewest_86 : decode cX12_fewest 86 = .ok (.iload 4, 2) := by decide +kernel
theorem dX12_fewest_88 : decode cX12_fewest 88 = .ok (.istore_n 2, 1) := by decide +kernel
theorem dX12_fewest_89 : decode cX12_fewest 89 = .ok (.iload 5, 2) := by decide +kernel
theorem dX12_fewest_91 : decode cX12_fewest 91 = .ok (.iload 6, 2) := by decide +kernel
theorem dX12_fewest_93 : decode cX12_fewest 93 = .ok (.iadd, 1) := by decide +kernel
theorem dX12_fewest_94 : decode cX12_fewest 94 = .ok (.iload 7, 2) := by decide +kernel
theorem dX12_fewest_96 : decode cX12_fewest 96 = .ok (.iadd, 1) := by decide +kernel
theorem dX12_fewest_97 : decode cX12_fewest 97 = .ok (.istore_n 3, 1) := by decide +kernel
theorem dX12_fewest_98 : decode cX12_fewest 98 = .ok (.iinc 4 1, 3) := by decide +kernel
theorem dX12_fewest_101 : decode cX12_fewest 101 = .ok (.goto (-82), 3) := by decide +kernel
theorem dX12_fewest_104 : decode cX12_fewest 104 = .ok (.iload_n 2, 1) := by decide +kernel
theorem dX12_fewest_105 : decode cX12_fewest 105 = .ok (.iconst (-1), 1) := by decide +kernel
theorem dX12_fewest_106 : decode cX12_fewest 106 = .ok (.if_icmp .ne 7, 3) := by decide +kernel
theorem dX12_fewest_109 : decode cX12_fewest 109 = .ok (.iconst (-1), 1) := by decide +kernel
theorem dX12_fewest_110 : decode cX12_fewest 110 = .ok (.goto 43, 3) := by decide +kernel
theorem dX12_fewest_113 : decode cX12_fewest 113 = .ok (.iload_n 1, 1) := by decide +kernel
theorem dX12_fewest_114 : decode cX12_fewest 114 = .ok (.ifCond .ne 7, 3) := by decide +kernel
theorem dX12_fewest_117 : decode cX12_fewest 117 = .ok (.iload_n 3, 1) := by decide +kernel
theorem dX12_fewest_118 : decode cX12_fewest 118 = .ok (.goto 35, 3) := by decide +kernel
theorem dX12_fewest_121 : decode cX12_fewest 121 = .ok (.iload_n 1, 1) := by decide +kernel
theorem dX12_fewest_122 : decode cX12_fewest 122 = .ok (.iconst 1, 1) := by decide +kernel
theorem dX12_fewest_123 : decode cX12_fewest 123 = .ok (.if_icmp .ne 11, 3) := by decide +kernel
theorem dX12_fewest_126 : decode cX12_fewest 126 = .ok (.iload_n 2, 1) := by decide +kernel
theorem dX12_fewest_127 : decode cX12_fewest 127 = .ok (.sipush 256, 3) := by decide +kernel
theorem dX12_fewest_130 : decode cX12_fewest 130 = .ok (.idiv, 1) := by decide +kernel
theorem dX12_fewest_131 : decode cX12_fewest 131 = .ok (.goto 22, 3) := by decide +kernel
theorem dX12_fewest_134 : decode cX12_fewest 134 = .ok (.iload_n 1, 1) := by decide +kernel
theorem dX12_fewest_135 : decode cX12_fewest 135 = .ok (.iconst 2, 1) := by decide +kernel
theorem dX12_fewest_136 : decode cX12_fewest 136 = .ok (.if_icmp .ne 13, 3) := by decide +kernel
theorem dX12_fewest_139 : decode cX12_fewest 139 = .ok (.iload_n 2, 1) := by decide +kernel
theorem dX12_fewest_140 : decode cX12_fewest 140 = .ok (.bipush 16, 2) := by decide +kernel
theorem dX12_fewest_142 : decode cX12_fewest 142 = .ok (.idiv, 1) := by decide +kernel
theorem dX12_fewest_143 : decode cX12_fewest 143 = .ok (.bipush 16, 2) := by decide +kernel
theorem dX12_fewest_145 : decode cX12_fewest 145 = .ok (.irem, 1) := by decide +kernel
theorem dX12_fewest_146 : decode cX12_fewest 146 = .ok (.goto 7, 3) := by decide +kernel
theorem dX12_fewest_149 : decode cX12_fewest 149 = .ok (.iload_n 2, 1) := by decide +kernel
theorem dX12_fewest_150 : decode cX12_fewest 150 = .ok (.bipush 16, 2) := by decide +kernel
theorem dX12_fewest_152 : decode cX12_fewest 152 = .ok (.irem, 1) := by decide +kernel
theorem dX12_fewest_153 : decode cX12_fewest 153 = .ok (.ireturn, 1) := by decide +kernel
theorem dX12_waits_0 : decode cX12_waits 0 = .ok (.iload_n 1, 1) := by decide +kernel
theorem dX12_waits_1 : decode cX12_waits 1 = .ok (.iconst 0, 1) := by decide +kernel
theorem dX12_waits_2 : decode cX12_waits 2 = .ok (.bipush 15, 2) := by decide +kernel
theorem dX12_waits_4 : decode cX12_waits 4 = .ok (.invokestatic 123, 3) := by decide +kernel
theorem dX12_waits_7 : decode cX12_waits 7 = .ok (.ifCond .eq 33, 3) := by decide +kernel
theorem dX12_waits_10 : decode cX12_waits 10 = .ok (.iload_n 2, 1) := by decide +kernel
theorem dX12_waits_11 : decode cX12_waits 11 = .ok (.iconst 0, 1) := by decide +kernel
theorem dX12_waits_12 : decode cX12_waits 12 = .ok (.bipush 15, 2) := by decide +kernel
theorem dX12_waits_14 : decode cX12_waits 14 = .ok (.invokestatic 123, 3) := by decide +kernel
theorem dX12_waits_17 : decode cX12_waits 17 = .ok (.ifCond .eq 23, 3) := by decide +kernel
theorem dX12_waits_20 : decode cX12_waits 20 = .ok (.iload_n 3, 1) := by decide +kernel
theorem dX12_waits_21 : decode cX12_waits 21 = .ok (.iconst 0, 1) := by decide +kernel
theorem dX12_waits_22 : decode cX12_waits 22 = .ok (.bipush 15, 2) := by decide +kernel
theorem dX12_waits_24 : decode cX12_waits 24 = .ok (.invokestatic 123, 3) := by decide +kernel
theorem dX12_waits_27 : decode cX12_waits 27 = .ok (.ifCond .eq 13, 3) := by decide +kernel
theorem dX12_waits_30 : decode cX12_waits 30 = .ok (.aload_n 0, 1) := by decide +kernel
theorem dX12_waits_31 : decode cX12_waits 31 = .ok (.iload_n 1, 1) := by decide +kernel
theorem dX12_waits_32 : decode cX12_waits 32 = .ok (.iload_n 2, 1) := by decide +kernel
theorem dX12_waits_33 : decode cX12_waits 33 = .ok (.iload_n 3, 1) := by decide +kernel
theorem dX12_waits_34 : decode cX12_waits 34 = .ok (.invokevirtual 352, 3) := by decide +kernel
theorem dX12_waits_37 : decode cX12_waits 37 = .ok (.goto 5, 3) := by decide +kernel
theorem dX12_waits_40 : decode cX12_waits 40 = .ok (.bipush (-3), 2) := by decide +kernel
theorem dX12_waits_42 : decode cX12_waits 42 = .ok (.ireturn, 1) := by decide +kernel
theorem dX12_door_0 : decode cX12_door 0 = .ok (.iload_n 1, 1) := by decide +kernel
theorem dX12_door_1 : decode cX12_door 1 = .ok (.iconst 0, 1) := by decide +kernel
theorem dX12_door_2 : decode cX12_door 2 = .ok (.bipush 20, 2) := by decide +kernel
theorem dX12_door_4 : decode cX12_door 4 = .ok (.invokestatic 123, 3) := by decide +kernel
theorem dX12_door_7 : decode cX12_door 7 = .ok (.ifCond .eq 24, 3) := by decide +kernel
theorem dX12_door_10 : decode cX12_door 10 = .ok (.iload_n 2, 1) := by decide +kernel
theorem dX12_door_11 : decode cX12_door 11 = .ok (.iconst 0, 1) := by decide +kernel
theorem dX12_door_12 : decode cX12_door 12 = .ok (.bipush 20, 2) := by decide +kernel
theorem dX12_door_14 : decode cX12_door 14 = .ok (.invokestatic 123, 3) := by decide +kernel
theorem dX12_door_17 : decode cX12_door 17 = .ok (.ifCond .eq 14, 3) := by decide +kernel
theorem dX12_door_20 : decode cX12_door 20 = .ok (.iload_n 3, 1) := by decide +kernel
theorem dX12_door_21 : decode cX12_door 21 = .ok (.iconst 0, 1) := by decide +kernel
theorem dX12_door_22 : decode cX12_door 22 = .ok (.sipush 200, 3) := by decide +kernel
theorem dX12_door_25 : decode cX12_door 25 = .ok (.invokestatic 123, 3) := by decide +kernel
theorem dX12_door_28 : decode cX12_door 28 = .ok (.ifCond .ne 6, 3) := by decide +kernel
theorem dX12_door_31 : decode cX12_door 31 = .ok (.bipush (-3), 2) := by decide +kernel
theorem dX12_door_33 : decode cX12_door 33 = .ok (.ireturn, 1) := by decide +kernel
theorem dX12_door_34 : decode cX12_door 34 = .ok (.aload_n 0, 1) := by decide +kernel
theorem dX12_door_35 : decode cX12_door 35 = .ok (.getfield 355, 3) := by decide +kernel
theorem dX12_door_38 : decode cX12_door 38 = .ok (.bipush 6, 2) := by decide +kernel
theorem dX12_door_40 : decode cX12_door 40 = .ok (.if_icmp .ne 6, 3) := by decide +kernel
theorem dX12_door_43 : decode cX12_door 43 = .ok (.bipush (-5), 2) := by decide +kernel
theorem dX12_door_45 : decode cX12_door 45 = .ok (.ireturn, 1) := by decide +kernel
theorem dX12_door_46 : decode cX12_door 46 = .ok (.aload_n 0, 1) := by decide +kernel
theorem dX12_door_47 : decode cX12_door 47 = .ok (.getfield 108, 3) := by decide +kernel
theorem dX12_door_50 : decode cX12_door 50 = .ok (.aload_n 0, 1) := by decide +kernel
theorem dX12_door_51 : decode cX12_door 51 = .ok (.getfield 355, 3) := by decide +kernel
theorem dX12_door_54 : decode cX12_door 54 = .ok (.iload_n 1, 1) := by decide +kernel
theorem dX12_door_55 : decode cX12_door 55 = .ok (.iastore, 1) := by decide +kernel
theorem dX12_door_56 : decode cX12_door 56 = .ok (.aload_n 0, 1) := by decide +kernel
theorem dX12_door_57 : decode cX12_door 57 = .ok (.getfield 111, 3) := by decide +kernel
theorem dX12_door_60 : decode cX12_door 60 = .ok (.aload_n 0, 1) := by decide +kernel
theorem dX12_door_61 : decode cX12_door 61 = .ok (.getfield 355, 3) := by decide +kernel
theorem dX12_door_64 : decode cX12_door 64 = .ok (.iload_n 2, 1) := by decide +kernel
theorem dX12_door_65 : decode cX12_door 65 = .ok (.iastore, 1) := by decide +kernel
theorem dX12_door_66 : decode cX12_door 66 = .ok (.aload_n 0, 1) := by decide +kernel
theorem dX12_door_67 : decode cX12_door 67 = .ok (.getfield 114, 3) := by decide +kernel
theorem dX12_door_70 : decode cX12_door 70 = .ok (.aload_n 0, 1) := by decide +kernel
theorem dX12_door_71 : decode cX12_door 71 = .ok (.getfield 355, 3) := by decide +kernel
theorem dX12_door_74 : decode cX12_door 74 = .ok (.iload_n 3, 1) := by decide +kernel
theorem dX12_door_75 : decode cX12_door 75 = .ok (.iastore, 1) := by decide +kernel
theorem dX12_door_76 : decode cX12_door 76 = .ok (.aload_n 0, 1) := by decide +kernel
theorem dX12_door_77 : decode cX12_door 77 = .ok (.dup, 1) := by decide +kernel
theorem dX12_door_78 : decode cX12_door 78 = .ok (.getfield 355, 3) := by decide +kernel
theorem dX12_door_81 : decode cX12_door 81 = .ok (.iconst 1, 1) := by decide +kernel
theorem dX12_door_82 : decode cX12_door 82 = .ok (.iadd, 1) := by decide +kernel
theorem dX12_door_83 : decode cX12_door 83 = .ok (.putfield 355, 3) := by decide +kernel
theorem dX12_door_86 : decode cX12_door 86 = .ok (.aload_n 0, 1) := by decide +kernel
theorem dX12_door_87 : decode cX12_door 87 = .ok (.getfield 355, 3) := by decide +kernel
theorem dX12_door_90 : decode cX12_door 90 = .ok (.iconst 1, 1) := by decide +kernel
theorem dX12_door_91 : decode cX12_door 91 = .ok (.isub, 1) := by decide +kernel
theorem dX12_door_92 : decode cX12_door 92 = .ok (.ireturn, 1) := by decide +kernel
theorem dX12_clear_0 : decode cX12_clear 0 = .ok (.aload_n 0, 1) := by decide +kernel
theorem dX12_clear_1 : decode cX12_clear 1 = .ok (.getfield 355, 3) := by decide +kernel
theorem dX12_clear_4 : decode cX12_clear 4 = .ok (.istore_n 1, 1) := by decide +kernel
theorem dX12_clear_5 : decode cX12_clear 5 = .ok (.aload_n 0, 1) := by decide +kernel
theorem dX12_clear_6 : decode cX12_clear 6 = .ok (.iconst 0, 1) := by decide +kernel
theorem dX12_clear_7 : decode cX12_clear 7 = .ok (.putfield 355, 3) := by decide +kernel
theorem dX12_clear_10 : decode cX12_clear 10 = .ok (.iload_n 1, 1) := by decide +kernel
theorem dX12_clear_11 : decode cX12_clear 11 = .ok (.ireturn, 1) := by decide +kernel
theorem dX12_apart_0 : decode cX12_apart 0 = .ok (.iload_n 0, 1) := by decide +kernel
theorem dX12_apart_1 : decode cX12_apart 1 = .ok (.iload_n 1, 1) := by decide +kernel
theorem dX12_apart_2 : decode cX12_apart 2 = .ok (.if_icmp .ge 9, 3) := by decide +kernel
theorem dX12_apart_5 : decode cX12_apart 5 = .ok (.iload_n 1, 1) := by decide +kernel
theorem dX12_apart_6 : decode cX12_apart 6 = .ok (.iload_n 0, 1) := by decide +kernel
theorem dX12_apart_7 : decode cX12_apart 7 = .ok (.isub, 1) := by decide +kernel
theorem dX12_apart_8 : decode cX12_apart 8 = .ok (.goto 6, 3) := by decide +kernel
theorem dX12_apart_11 : decode cX12_apart 11 = .ok (.iload_n 0, 1) := by decide +kernel
theorem dX12_apart_12 : decode cX12_apart 12 = .ok (.iload_n 1, 1) := by decide +kernel
theorem dX12_apart_13 : decode cX12_apart 13 = .ok (.isub, 1) := by decide +kernel
theorem dX12_apart_14 : decode cX12_apart 14 = .ok (.ireturn, 1) := by decide +kernel
theorem dX12_findRound_0 : decode cX12_findRound 0 = .ok (.iconst 1, 1) := by decide +kernel
theorem dX12_findRound_1 : decode cX12_findRound 1 = .ok (.istore_n 1, 1) := by decide +kernel
theorem dX12_findRound_2 : decode cX12_findRound 2 = .ok (.iconst 0, 1) := by decide +kernel
theorem dX12_findRound_3 : decode cX12_findRound 3 = .ok (.istore_n 2, 1) := by decide +kernel
theorem dX12_findRound_4 : decode cX12_findRound 4 = .ok (.iload_n 2, 1) := by decide +kernel
theorem dX12_findRound_5 : decode cX12_findRound 5 = .ok (.aload_n 0, 1) := by decide +kernel
theorem dX12_findRound_6 : decode cX12_findRound 6 = .ok (.getfield 355, 3) := by decide +kernel
theorem dX12_findRound_9 : decode cX12_findRound 9 = .ok (.if_icmp .ge 16, 3) := by decide +kernel
theorem dX12_findRound_12 : decode cX12_findRound 12 = .ok (.iload_n 1, 1) := by decide +kernel
theorem dX12_findRound_13 : decode cX12_findRound 13 = .ok (.aload_n 0, 1) := by decide +kernel
theorem dX12_findRound_14 : decode cX12_findRound 14 = .ok (.getfield 355, 3) := by decide +kernel
theorem dX12_findRound_17 : decode cX12_findRound 17 = .ok (.imul, 1) := by decide +kernel
theorem dX12_findRound_18 : decode cX12_findRound 18 = .ok (.istore_n 1, 1) := by decide +kernel
theorem dX12_findRound_19 : decode cX12_findRound 19 = .ok (.iinc 2 1, 3) := by decide +kernel
theorem dX12_findRound_22 : decode cX12_findRound 22 = .ok (.goto (-18), 3) := by decide +kernel
theorem dX12_findRound_25 : decode cX12_findRound 25 = .ok (.aload_n 0, 1) := by decide +kernel
theorem dX12_findRound_26 : decode cX12_findRound 26 = .ok (.iconst (-1), 1) := by decide +kernel
theorem dX12_findRound_27 : decode cX12_findRound 27 = .ok (.putfield 358, 3) := by decide +kernel
theorem dX12_findRound_30 : decode cX12_findRound 30 = .ok (.aload_n 0, 1) := by decide +kernel
theorem dX12_findRound_31 : decode cX12_findRound 31 = .ok (.iconst 0, 1) := by decide +kernel
theorem dX12_findRound_32 : decode cX12_findRound 32 = .ok (.putfield 361, 3) := by decide +kernel
theorem dX12_findRound_35 : decode cX12_findRound 35 = .ok (.iconst 0, 1) := by decide +kernel
theorem dX12_findRound_36 : decode cX12_findRound 36 = .ok (.istore_n 2, 1) := by decide +kernel
theorem dX12_findRound_37 : decode cX12_findRound 37 = .ok (.iload_n 2, 1) := by decide +kernel
theorem dX12_findRound_38 : decode cX12_findRound 38 = .ok (.iload_n 1, 1) := by decide +kernel
theorem dX12_findRound_39 : decode cX12_findRound 39 = .ok (.if_icmp .ge 84, 3) := by decide +kernel
theorem dX12_findRound_42 : decode cX12_findRound 42 = .ok (.iload_n 2, 1) := by decide +kernel
theorem dX12_findRound_43 : decode cX12_findRound 43 = .ok (.istore_n 3, 1) := by decide +kernel
theorem dX12_findRound_44 : decode cX12_findRound 44 = .ok (.iconst 0, 1) := by decide +kernel
theorem dX12_findRound_45 : decode cX12_findRound 45 = .ok (.istore 4, 2) := by decide +kernel
theorem dX12_findRound_47 : decode cX12_findRound 47 = .ok (.aload_n 0, 1) := by decide +kernel
theorem dX12_findRound_48 : decode cX12_findRound 48 = .ok (.getfield 355, 3) := by decide +kernel
theorem dX12_findRound_51 : decode cX12_findRound 51 = .ok (.iconst 1, 1) := by decide +kernel
theorem dX12_findRound_52 : decode cX12_findRound 52 = .ok (.isub, 1) := by decide +kernel
theorem dX12_findRound_53 : decode cX12_findRound 53 = .ok (.istore 5, 2) := by decide +kernel
theorem dX12_findRound_55 : decode cX12_findRound 55 = .ok (.iload 5, 2) := by decide +kernel
theorem dX12_findRound_57 : decode cX12_findRound 57 = .ok (.ifCond .lt 43, 3) := by decide +kernel
theorem dX12_findRound_60 : decode cX12_findRound 60 = .ok (.aload_n 0, 1) := by decide +kernel
theorem dX12_findRound_61 : decode cX12_findRound 61 = .ok (.getfield 117, 3) := by decide +kernel
theorem dX12_findRound_64 : decode cX12_findRound 64 = .ok (.iload 5, 2) := by decide +kernel
theorem dX12_findRound_66 : decode cX12_findRound 66 = .ok (.iload_n 3, 1) := by decide +kernel
theorem dX12_findRound_67 : decode cX12_findRound 67 = .ok (.aload_n 0, 1) := by decide +kernel
theorem dX12_findRound_68 : decode cX12_findRound 68 = .ok (.getfield 355, 3) := by decide +kernel
theorem dX12_findRound_71 : decode cX12_findRound 71 = .ok (.irem, 1) := by decide +kernel
theorem dX12_findRound_72 : decode cX12_findRound 72 = .ok (.iastore, 1) := by decide +kernel
theorem dX12_findRound_73 : decode cX12_findRound 73 = .ok (.iload 4, 2) := by decide +kernel
theorem dX12_findRound_75 : decode cX12_findRound 75 = .ok (.iconst 1, 1) := by decide +kernel
theorem dX12_findRound_76 : decode cX12_findRound 76 = .ok (.aload_n 0, 1) := by decide +kernel
theorem dX12_findRound_77 : decode cX12_findRound 77 = .ok (.getfield 117, 3) := by decide +kernel
theorem dX12_findRound_80 : decode cX12_findRound 80 = .ok (.iload 5, 2) := by decide +kernel
theorem dX12_findRound_82 : decode cX12_findRound 82 = .ok (.iaload, 1) := by decide +kernel
theorem dX12_findRound_83 : decode cX12_findRound 83 = .ok (.ishl, 1) := by decide +kernel
theorem dX12_findRound_84 : decode cX12_findRound 84 = .ok (.ior, 1) := by decide +kernel
theorem dX12_findRound_85 : decode cX12_findRound 85 = .ok (.istore 4, 2) := by decide +kernel
theorem dX12_findRound_87 : decode cX12_findRound 87 = .ok (.iload_n 3, 1) := by decide +kernel
theorem dX12_findRound_88 : decode cX12_findRound 88 = .ok (.aload_n 0, 1) := by decide +kernel
theorem dX12_findRound_89 : decode cX12_findRound 89 = .ok (.getfield 355, 3) := by decide +kernel
theorem dX12_findRound_92 : decode cX12_findRound 92 = .ok (.idiv, 1) := by decide +kernel
theorem dX12_findRound_93 : decode cX12_findRound 93 = .ok (.istore_n 3, 1) := by decide +kernel
theorem dX12_findRound_94 : decode cX12_findRound 94 = .ok (.iinc 5 (-1), 3) := by decide +kernel
theorem dX12_findRound_97 : decode cX12_findRound 97 = .ok (.goto (-42), 3) := by decide +kernel
theorem dX12_findRound_100 : decode cX12_findRound 100 = .ok (.iload 4, 2) := by decide +kernel
theorem dX12_findRound_102 : decode cX12_findRound 102 = .ok (.iconst 1, 1) := by decide +kernel
theorem dX12_findRound_103 : decode cX12_findRound 103 = .ok (.aload_n 0, 1) := by decide +kernel
theorem dX12_findRound_104 : decode cX12_findRound 104 = .ok (.getfield 355, 3) := by decide +kernel
theorem dX12_findRound_107 : decode cX12_findRound 107 = .ok (.ishl, 1) := by decide +kernel
theorem dX12_findRound_108 : decode cX12_findRound 108 = .ok (.iconst 1, 1) := by decide +kernel
theorem dX12_findRound_109 : decode cX12_findRound 109 = .ok (.isub, 1) := by decide +kernel
theorem dX12_findRound_110 : decode cX12_findRound 110 = .ok (.if_icmp .ne 7, 3) := by decide +kernel
theorem dX12_findRound_113 : decode cX12_findRound 113 = .ok (.aload_n 0, 1) := by decide +kernel
theorem dX12_findRound_114 : decode cX12_findRound 114 = .ok (.invokevirtual 364, 3) := by decide +kernel
theorem dX12_findRound_117 : decode cX12_findRound 117 = .ok (.iinc 2 1, 3) := by decide +kernel
theorem dX12_findRound_120 : decode cX12_findRound 120 = .ok (.goto (-83), 3) := by decide +kernel
theorem dX12_findRound_123 : decode cX12_findRound 123 = .ok (.return_, 1) := by decide +kernel
theorem dX12_lookAtRound_0 : decode cX12_lookAtRound 0 = .ok (.iconst 0, 1) := by decide +kernel
theorem dX12_lookAtRound_1 : decode cX12_lookAtRound 1 = .ok (.istore_n 1, 1) := by decide +kernel
theorem dX12_lookAtRound_2 : decode cX12_lookAtRound 2 = .ok (.iconst 0, 1) := by decide +kernel
theorem dX12_lookAtRound_3 : decode cX12_lookAtRound 3 = .ok (.istore_n 2, 1) := by decide +kernel
theorem dX12_lookAtRound_4 : decode cX12_lookAtRound 4 = .ok (.iconst 0, 1) := by decide +kernel
theorem dX12_lookAtRound_5 : decode cX12_lookAtRound 5 = .ok (.istore_n 3, 1) := by decide +kernel
theorem dX12_lookAtRound_6 : decode cX12_lookAtRound 6 = .ok (.iconst 0, 1) := by decide +kernel
theorem dX12_lookAtRound_7 : decode cX12_lookAtRound 7 = .ok (.istore 4, 2) := by decide +kernel
theorem dX12_lookAtRound_9 : decode cX12_lookAtRound 9 = .ok (.iconst 0, 1) := by decide +kernel
theorem dX12_lookAtRound_10 : decode cX12_lookAtRound 10 = .ok (.istore 5, 2) := by decide +kernel
theorem dX12_lookAtRound_12 : decode cX12_lookAtRound 12 = .ok (.iload 5, 2) := by decide +kernel
theorem dX12_lookAtRound_14 : decode cX12_lookAtRound 14 = .ok (.aload_n 0, 1) := by decide +kernel
theorem dX12_lookAtRound_15 : decode cX12_lookAtRound 15 = .ok (.getfield 355, 3) := by decide +kernel
theorem dX12_lookAtRound_18 : decode cX12_lookAtRound 18 = .ok (.if_icmp .ge 81, 3) := by decide +kernel
theorem dX12_lookAtRound_21 : decode cX12_lookAtRound 21 = .ok (.aload_n 0, 1) := by decide +kernel
theorem dX12_lookAtRound_22 : decode cX12_lookAtRound 22 = .ok (.getfield 117, 3) := by decide +kernel
theorem dX12_lookAtRound_25 : decode cX12_lookAtRound 25 = .ok (.iload 5, 2) := by decide +kernel
theorem dX12_lookAtRound_27 : decode cX12_lookAtRound 27 = .ok (.iaload, 1) := by decide +kernel
theorem dX12_lookAtRound_28 : decode cX12_lookAtRound 28 = .ok (.istore 6, 2) := by decide +kernel
theorem dX12_lookAtRound_30 : decode cX12_lookAtRound 30 = .ok (.iload_n 3, 1) := by decide +kernel
theorem dX12_lookAtRound_31 : decode cX12_lookAtRound 31 = .ok (.iload_n 1, 1) := by decide +kernel
theorem dX12_lookAtRound_32 : decode cX12_lookAtRound 32 = .ok (.aload_n 0, 1) := by decide +kernel
theorem dX12_lookAtRound_33 : decode cX12_lookAtRound 33 = .ok (.getfield 108, 3) := by decide +kernel
theorem dX12_lookAtRound_36 : decode cX12_lookAtRound 36 = .ok (.iload 6, 2) := by decide +kernel
theorem dX12_lookAtRound_38 : decode cX12_lookAtRound 38 = .ok (.iaload, 1) := by decide +kernel
theorem dX12_lookAtRound_39 : decode cX12_lookAtRound 39 = .ok (.invokestatic 367, 3) := by decide +kernel
theorem dX12_lookAtRound_42 : decode cX12_lookAtRound 42 = .ok (.iload_n 2, 1) := by decide +kernel
theorem dX12_lookAtRound_43 : decode cX12_lookAtRound 43 = .ok (.aload_n 0, 1) := by decide +kernel
theorem dX12_lookAtRound_44 : decode cX12_lookAtRound 44 = .ok (.getfield 111, 3) := by decide +kernel
theorem dX12_lookAtRound_47 : decode cX12_lookAtRound 47 = .ok (.iload 6, 2) := by decide +kernel
theorem dX12_lookAtRound_49 : decode cX12_lookAtRound 49 = .ok (.iaload, 1) := by decide +kernel
theorem dX12_lookAtRound_50 : decode cX12_lookAtRound 50 = .ok (.invokestatic 367, 3) := by decide +kernel
theorem dX12_lookAtRound_53 : decode cX12_lookAtRound 53 = .ok (.iadd, 1) := by decide +kernel
theorem dX12_lookAtRound_54 : decode cX12_lookAtRound 54 = .ok (.iadd, 1) := by decide +kernel
theorem dX12_lookAtRound_55 : decode cX12_lookAtRound 55 = .ok (.istore_n 3, 1) := by decide +kernel
theorem dX12_lookAtRound_56 : decode cX12_lookAtRound 56 = .ok (.aload_n 0, 1) := by decide +kernel
theorem dX12_lookAtRound_57 : decode cX12_lookAtRound 57 = .ok (.getfield 108, 3) := by decide +kernel
theorem dX12_lookAtRound_60 : decode cX12_lookAtRound 60 = .ok (.iload 6, 2) := by decide +kernel
theorem dX12_lookAtRound_62 : decode cX12_lookAtRound 62 = .ok (.iaload, 1) := by decide +kernel
theorem dX12_lookAtRound_63 : decode cX12_lookAtRound 63 = .ok (.istore_n 1, 1) := by decide +kernel
theorem dX12_lookAtRound_64 : decode cX12_lookAtRound 64 = .ok (.aload_n 0, 1) := by decide +kernel
theorem dX12_lookAtRound_65 : decode cX12_lookAtRound 65 = .ok (.getfield 111, 3) := by decide +kernel
theorem dX12_lookAtRound_68 : decode cX12_lookAtRound 68 = .ok (.iload 6, 2) := by decide +kernel
theorem dX12_lookAtRound_70 : decode cX12_lookAtRound 70 = .ok (.iaload, 1) := by decide +kernel
theorem dX12_lookAtRound_71 : decode cX12_lookAtRound 71 = .ok (.istore_n 2, 1) := by decide +kernel
theorem dX12_lookAtRound_72 : decode cX12_lookAtRound 72 = .ok (.iload 4, 2) := by decide +kernel
theorem dX12_lookAtRound_74 : decode cX12_lookAtRound 74 = .ok (.iload_n 3, 1) := by decide +kernel
theorem dX12_lookAtRound_75 : decode cX12_lookAtRound 75 = .ok (.aload_n 0, 1) := by decide +kernel
theorem dX12_lookAtRound_76 : decode cX12_lookAtRound 76 = .ok (.getfield 114, 3) := by decide +kernel
theorem dX12_lookAtRound_79 : decode cX12_lookAtRound 79 = .ok (.iload 6, 2) := by decide +kernel
theorem dX12_lookAtRound_81 : decode cX12_lookAtRound 81 = .ok (.iaload, 1) := by decide +kernel
theorem dX12_lookAtRound_82 : decode cX12_lookAtRound 82 = .ok (.if_icmp .le 7, 3) := by decide +kernel
theorem dX12_lookAtRound_85 : decode cX12_lookAtRound 85 = .ok (.iconst 1, 1) := by decide +kernel
theorem dX12_lookAtRound_86 : decode cX12_lookAtRound 86 = .ok (.goto 4, 3) := by decide +kernel
theorem dX12_lookAtRound_89 : decode cX12_lookAtRound 89 = .ok (.iconst 0, 1) := by decide +kernel
theorem dX12_lookAtRound_90 : decode cX12_lookAtRound 90 = .ok (.iadd, 1) := by decide +kernel
theorem dX12_lookAtRound_91 : decode cX12_lookAtRound 91 = .ok (.istore 4, 2) := by decide +kernel
theorem dX12_lookAtRound_93 : decode cX12_lookAtRound 93 = .ok (.iinc 5 1, 3) := by decide +kernel
theorem dX12_lookAtRound_96 : decode cX12_lookAtRound 96 = .ok (.goto (-84), 3) := by decide +kernel
theorem dX12_lookAtRound_99 : decode cX12_lookAtRound 99 = .ok (.aload_n 0, 1) := by decide +kernel
theorem dX12_lookAtRound_100 : decode cX12_lookAtRound 100 = .ok (.getfield 358, 3) := by decide +kernel
theorem dX12_lookAtRound_103 : decode cX12_lookAtRound 103 = .ok (.iconst (-1), 1) := by decide +kernel
theorem dX12_lookAtRound_104 : decode cX12_lookAtRound 104 = .ok (.if_icmp .eq 29, 3) := by decide +kernel
theorem dX12_lookAtRound_107 : decode cX12_lookAtRound 107 = .ok (.iload 4, 2) := by decide +kernel
theorem dX12_lookAtRound_109 : decode cX12_lookAtRound 109 = .ok (.aload_n 0, 1) := by decide +kernel
theorem dX12_lookAtRound_110 : decode cX12_lookAtRound 110 = .ok (.getfield 358, 3) := by decide +kernel
theorem dX12_lookAtRound_113 : decode cX12_lookAtRound 113 = .ok (.if_icmp .lt 20, 3) := by decide +kernel
theorem dX12_lookAtRound_116 : decode cX12_lookAtRound 116 = .ok (.iload 4, 2) := by decide +kernel
theorem dX12_lookAtRound_118 : decode cX12_lookAtRound 118 = .ok (.aload_n 0, 1) := by decide +kernel
theorem dX12_lookAtRound_119 : decode cX12_lookAtRound 119 = .ok (.getfield 358, 3) := by decide +kernel
theorem dX12_lookAtRound_122 : decode cX12_lookAtRound 122 = .ok (.if_icmp .ne 54, 3) := by decide +kernel
theorem dX12_lookAtRound_125 : decode cX12_lookAtRound 125 = .ok (.iload_n 3, 1) := by decide +kernel
theorem dX12_lookAtRound_126 : decode cX12_lookAtRound 126 = .ok (.aload_n 0, 1) := by decide +kernel
theorem dX12_lookAtRound_127 : decode cX12_lookAtRound 127 = .ok (.getfield 361, 3) := by decide +kernel
theorem dX12_lookAtRound_130 : decode cX12_lookAtRound 130 = .ok (.if_icmp .ge 46, 3) := by decide +kernel
theorem dX12_lookAtRound_133 : decode cX12_lookAtRound 133 = .ok (.aload_n 0, 1) := by decide +kernel
theorem dX12_lookAtRound_134 : decode cX12_lookAtRound 134 = .ok (.iload 4, 2) := by decide +kernel
theorem dX12_lookAtRound_136 : decode cX12_lookAtRound 136 = .ok (.putfield 358, 3) := by decide +kernel
theorem dX12_lookAtRound_139 : decode cX12_lookAtRound 139 = .ok (.aload_n 0, 1) := by decide +kernel
theorem dX12_lookAtRound_140 : decode cX12_lookAtRound 140 = .ok (.iload_n 3, 1) := by decide +kernel
theorem dX12_lookAtRound_141 : decode cX12_lookAtRound 141 = .ok (.putfield 361, 3) := by decide +kernel
theorem dX12_lookAtRound_144 : decode cX12_lookAtRound 144 = .ok (.iconst 0, 1) := by decide +kernel
theorem dX12_lookAtRound_145 : decode cX12_lookAtRound 145 = .ok (.istore 5, 2) := by decide +kernel
theorem dX12_lookAtRound_147 : decode cX12_lookAtRound 147 = .ok (.iload 5, 2) := by decide +kernel
theorem dX12_lookAtRound_149 : decode cX12_lookAtRound 149 = .ok (.aload_n 0, 1) := by decide +kernel
theorem dX12_lookAtRound_150 : decode cX12_lookAtRound 150 = .ok (.getfield 355, 3) := by decide +kernel
theorem dX12_lookAtRound_153 : decode cX12_lookAtRound 153 = .ok (.if_icmp .ge 23, 3) := by decide +kernel
theorem dX12_lookAtRound_156 : decode cX12_lookAtRound 156 = .ok (.aload_n 0, 1) := by decide +kernel
theorem dX12_lookAtRound_157 : decode cX12_lookAtRound 157 = .ok (.getfield 120, 3) := by decide +kernel
theorem dX12_lookAtRound_160 : decode cX12_lookAtRound 160 = .ok (.iload 5, 2) := by decide +kernel
theorem dX12_lookAtRound_162 : decode cX12_lookAtRound 162 = .ok (.aload_n 0, 1) := by decide +kernel
theorem dX12_lookAtRound_163 : decode cX12_lookAtRound 163 = .ok (.getfield 117, 3) := by decide +kernel
theorem dX12_lookAtRound_166 : decode cX12_lookAtRound 166 = .ok (.iload 5, 2) := by decide +kernel
theorem dX12_lookAtRound_168 : decode cX12_lookAtRound 168 = .ok (.iaload, 1) := by decide +kernel
theorem dX12_lookAtRound_169 : decode cX12_lookAtRound 169 = .ok (.iastore, 1) := by decide +kernel
theorem dX12_lookAtRound_170 : decode cX12_lookAtRound 170 = .ok (.iinc 5 1, 3) := by decide +kernel
theorem dX12_lookAtRound_173 : decode cX12_lookAtRound 173 = .ok (.goto (-26), 3) := by decide +kernel
theorem dX12_lookAtRound_176 : decode cX12_lookAtRound 176 = .ok (.return_, 1) := by decide +kernel
theorem dX12_round_0 : decode cX12_round 0 = .ok (.iload_n 1, 1) := by decide +kernel
theorem dX12_round_1 : decode cX12_round 1 = .ok (.ifCond .ge 6, 3) := by decide +kernel
theorem dX12_round_4 : decode cX12_round 4 = .ok (.bipush (-3), 2) := by decide +kernel
theorem dX12_round_6 : decode cX12_round 6 = .ok (.ireturn, 1) := by decide +kernel
theorem dX12_round_7 : decode cX12_round 7 = .ok (.aload_n 0, 1) := by decide +kernel
theorem dX12_round_8 : decode cX12_round 8 = .ok (.invokevirtual 370, 3) := by decide +kernel
theorem dX12_round_11 : decode cX12_round 11 = .ok (.iload_n 1, 1) := by decide +kernel
theorem dX12_round_12 : decode cX12_round 12 = .ok (.ifCond .ne 10, 3) := by decide +kernel
theorem dX12_round_15 : decode cX12_round 15 = .ok (.aload_n 0, 1) := by decide +kernel
theorem dX12_round_16 : decode cX12_round 16 = .ok (.getfield 358, 3) := by decide +kernel
theorem dX12_round_19 : decode cX12_round 19 = .ok (.goto 37, 3) := by decide +kernel
theorem dX12_round_22 : decode cX12_round 22 = .ok (.iload_n 1, 1) := by decide +kernel
theorem dX12_round_23 : decode cX12_round 23 = .ok (.iconst 1, 1) := by decide +kernel
theorem dX12_round_24 : decode cX12_round 24 = .ok (.if_icmp .ne 10, 3) := by decide +kernel
theorem dX12_round_27 : decode cX12_round 27 = .ok (.aload_n 0, 1) := by decide +kernel
theorem dX12_round_28 : decode cX12_round 28 = .ok (.getfield 361, 3) := by decide +kernel
theorem dX12_round_31 : decode cX12_round 31 = .ok (.goto 25, 3) := by decide +kernel
theorem dX12_round_34 : decode cX12_round 34 = .ok (.iload_n 1, 1) := by decide +kernel
theorem dX12_round_35 : decode cX12_round 35 = .ok (.iconst 2, 1) := by decide +kernel
theorem dX12_round_36 : decode cX12_round 36 = .ok (.isub, 1) := by decide +kernel
theorem dX12_round_37 : decode cX12_round 37 = .ok (.aload_n 0, 1) := by decide +kernel
theorem dX12_round_38 : decode cX12_round 38 = .ok (.getfield 355, 3) := by decide +kernel
theorem dX12_round_41 : decode cX12_round 41 = .ok (.if_icmp .ge 14, 3) := by decide +kernel
theorem dX12_round_44 : decode cX12_round 44 = .ok (.aload_n 0, 1) := by decide +kernel
theorem dX12_round_45 : decode cX12_round 45 = .ok (.getfield 120, 3) := by decide +kernel
theorem dX12_round_48 : decode cX12_round 48 = .ok (.iload_n 1, 1) := by decide +kernel
theorem dX12_round_49 : decode cX12_round 49 = .ok (.iconst 2, 1) := by decide +kernel
theorem dX12_round_50 : decode cX12_round 50 = .ok (.isub, 1) := by decide +kernel
theorem dX12_round_51 : decode cX12_round 51 = .ok (.iaload, 1) := by decide +kernel
theorem dX12_round_52 : decode cX12_round 52 = .ok (.goto 4, 3) := by decide +kernel
theorem dX12_round_55 : decode cX12_round 55 = .ok (.iconst (-1), 1) := by decide +kernel
theorem dX12_round_56 : decode cX12_round 56 = .ok (.ireturn, 1) := by decide +kernel
theorem dX12_count_0 : decode cX12_count 0 = .ok (.iconst 0, 1) := by decide +kernel
theorem dX12_count_1 : decode cX12_count 1 = .ok (.istore_n 2, 1) := by decide +kernel
theorem dX12_count_2 : decode cX12_count 2 = .ok (.iload_n 1, 1) := by decide +kernel
theorem dX12_count_3 : decode cX12_count 3 = .ok (.tableswitch 201 0 10 #[57, 62, 67, 72, 77, 116, 148, 153, 158, 163, 168], 57) := by decide +kernel
theorem dX12_count_60 : decode cX12_count 60 = .ok (.aload_n 0, 1) := by decide +kernel
theorem dX12_count_61 : decode cX12_count 61 = .ok (.getfield 144, 3) := by decide +kernel
theorem dX12_count_64 : decode cX12_count 64 = .ok (.ireturn, 1) := by decide +kernel
theorem dX12_count_65 : decode cX12_count 65 = .ok (.aload_n 0, 1) := by decide +kernel
theorem dX12_count_66 : decode cX12_count 66 = .ok (.getfield 127, 3) := by decide +kernel
theorem dX12_count_69 : decode cX12_count 69 = .ok (.ireturn, 1) := by decide +kernel
theorem dX12_count_70 : decode cX12_count 70 = .ok (.aload_n 0, 1) := by decide +kernel
theorem dX12_count_71 : decode cX12_count 71 = .ok (.getfield 130, 3) := by decide +kernel
theorem dX12_count_74 : decode cX12_count 74 = .ok (.ireturn, 1) := by decide +kernel
theorem dX12_count_75 : decode cX12_count 75 = .ok (.aload_n 0, 1) := by decide +kernel
theorem dX12_count_76 : decode cX12_count 76 = .ok (.invokevirtual 220, 3) := by decide +kernel
theorem dX12_count_79 : decode cX12_count 79 = .ok (.ireturn, 1) := by decide +kernel
theorem dX12_count_80 : decode cX12_count 80 = .ok (.iconst 0, 1) := by decide +kernel
theorem dX12_count_81 : decode cX12_count 81 = .ok (.istore_n 3, 1) := by decide +kernel
theorem dX12_count_82 : decode cX12_count 82 = .ok (.iload_n 3, 1) := by decide +kernel
theorem dX12_count_83 : decode cX12_count 83 = .ok (.aload_n 0, 1) := by decide +kernel
theorem dX12_count_84 : decode cX12_count 84 = .ok (.getfield 130, 3) := by decide +kernel
theorem dX12_count_87 : decode cX12_count 87 = .ok (.if_icmp .ge 30, 3) := by decide +kernel
theorem dX12_count_90 : decode cX12_count 90 = .ok (.iload_n 2, 1) := by decide +kernel
theorem dX12_count_91 : decode cX12_count 91 = .ok (.aload_n 0, 1) := by decide +kernel
theorem dX12_count_92 : decode cX12_count 92 = .ok (.getfield 42, 3) := by decide +kernel
theorem dX12_count_95 : decode cX12_count 95 = .ok (.bipush 6, 2) := by decide +kernel
theorem dX12_count_97 : decode cX12_count 97 = .ok (.iload_n 3, 1) := by decide +kernel
theorem dX12_count_98 : decode cX12_count 98 = .ok (.imul, 1) := by decide +kernel
theorem dX12_count_99 : decode cX12_count 99 = .ok (.iaload, 1) := by decide +kernel
theorem dX12_count_100 : decode cX12_count 100 = .ok (.iconst 1, 1) := by decide +kernel
theorem dX12_count_101 : decode cX12_count 101 = .ok (.if_icmp .ne 7, 3) := by decide +kernel
theorem dX12_count_104 : decode cX12_count 104 = .ok (.iconst 1, 1) := by decide +kernel
theorem dX12_count_105 : decode cX12_count 105 = .ok (.goto 4, 3) := by decide +kernel
theorem dX12_count_108 : decode cX12_count 108 = .ok (.iconst 0, 1) := by decide +kernel
theorem dX12_count_109 : decode cX12_count 109 = .ok (.iadd, 1) := by decide +kernel
theorem dX12_count_110 : decode cX12_count 110 = .ok (.istore_n 2, 1) := by decide +kernel
theorem dX12_count_111 : decode cX12_count 111 = .ok (.iinc 3 1, 3) := by decide +kernel
theorem dX12_count_114 : decode cX12_count 114 = .ok (.goto (-32), 3) := by decide +kernel
theorem dX12_count_117 : decode cX12_count 117 = .ok (.iload_n 2, 1) := by decide +kernel
theorem dX12_count_118 : decode cX12_count 118 = .ok (.ireturn, 1) := by decide +kernel
theorem dX12_count_119 : decode cX12_count 119 = .ok (.iconst 0, 1) := by decide +kernel
theorem dX12_count_120 : decode cX12_count 120 = .ok (.istore_n 3, 1) := by decide +kernel
theorem dX12_count_121 : decode cX12_count 121 = .ok (.iload_n 3, 1) := by decide +kernel
theorem dX12_count_122 : decode cX12_count 122 = .ok (.aload_n 0, 1) := by decide +kernel
theorem dX12_count_123 : decode cX12_count 123 = .ok (.getfield 130, 3) := by decide +kernel
theorem dX12_count_126 : decode cX12_count 126 = .ok (.if_icmp .ge 23, 3) := by decide +kernel
theorem dX12_count_129 : decode cX12_count 129 = .ok (.iload_n 2, 1) := by decide +kernel
theorem dX12_count_130 : decode cX12_count 130 = .ok (.aload_n 0, 1) := by decide +kernel
theorem dX12_count_131 : decode cX12_count 131 = .ok (.getfield 39, 3) := by decide +kernel
theorem dX12_count_134 : decode cX12_count 134 = .ok (.bipush 6, 2) := by decide +kernel
theorem dX12_count_136 : decode cX12_count 136 = .ok (.iload_n 3, 1) := by decide +kernel
theorem dX12_count_137 : decode cX12_count 137 = .ok (.imul, 1) := by decide +kernel
theorem dX12_count_138 : decode cX12_count 138 = .ok (.iconst 5, 1) := by decide +kernel
theorem dX12_count_139 : decode cX12_count 139 = .ok (.iadd, 1) := by decide +kernel
theorem dX12_count_140 : decode cX12_count 140 = .ok (.iaload, 1) := by decide +kernel
theorem dX12_count_141 : decode cX12_count 141 = .ok (.iadd, 1) := by decide +kernel
theorem dX12_count_142 : decode cX12_count 142 = .ok (.istore_n 2, 1) := by decide +kernel
theorem dX12_count_143 : decode cX12_count 143 = .ok (.iinc 3 1, 3) := by decide +kernel
theorem dX12_count_146 : decode cX12_count 146 = .ok (.goto (-25), 3) := by decide +kernel
theorem dX12_count_149 : decode cX12_count 149 = .ok (.iload_n 2, 1) := by decide +kernel
theorem dX12_count_150 : decode cX12_count 150 = .ok (.ireturn, 1) := by decide +kernel
theorem dX12_count_151 : decode cX12_count 151 = .ok (.aload_n 0, 1) := by decide +kernel
theorem dX12_count_152 : decode cX12_count 152 = .ok (.getfield 310, 3) := by decide +kernel
theorem dX12_count_155 : decode cX12_count 155 = .ok (.ireturn, 1) := by decide +kernel
theorem dX12_count_156 : decode cX12_count 156 = .ok (.aload_n 0, 1) := by decide +kernel
theorem dX12_count_157 : decode cX12_count 157 = .ok (.getfield 224, 3) := by decide +kernel
theorem dX12_count_160 : decode cX12_count 160 = .ok (.ireturn, 1) := by decide +kernel
theorem dX12_count_161 : decode cX12_count 161 = .ok (.aload_n 0, 1) := by decide +kernel
theorem dX12_count_162 : decode cX12_count 162 = .ok (.getfield 327, 3) := by decide +kernel
theorem dX12_count_165 : decode cX12_count 165 = .ok (.ireturn, 1) := by decide +kernel
theorem dX12_count_166 : decode cX12_count 166 = .ok (.aload_n 0, 1) := by decide +kernel
theorem dX12_count_167 : decode cX12_count 167 = .ok (.getfield 355, 3) := by decide +kernel
theorem dX12_count_170 : decode cX12_count 170 = .ok (.ireturn, 1) := by decide +kernel
theorem dX12_count_171 : decode cX12_count 171 = .ok (.iconst 0, 1) := by decide +kernel
theorem dX12_count_172 : decode cX12_count 172 = .ok (.istore_n 3, 1) := by decide +kernel
theorem dX12_count_173 : decode cX12_count 173 = .ok (.iload_n 3, 1) := by decide +kernel
theorem dX12_count_174 : decode cX12_count 174 = .ok (.bipush 16, 2) := by decide +kernel
theorem dX12_count_176 : decode cX12_count 176 = .ok (.if_icmp .ge 26, 3) := by decide +kernel
theorem dX12_count_179 : decode cX12_count 179 = .ok (.iload_n 2, 1) := by decide +kernel
theorem dX12_count_180 : decode cX12_count 180 = .ok (.aload_n 0, 1) := by decide +kernel
theorem dX12_count_181 : decode cX12_count 181 = .ok (.getfield 69, 3) := by decide +kernel
theorem dX12_count_184 : decode cX12_count 184 = .ok (.iload_n 3, 1) := by decide +kernel
theorem dX12_count_185 : decode cX12_count 185 = .ok (.iaload, 1) := by decide +kernel
theorem dX12_count_186 : decode cX12_count 186 = .ok (.ifCond .le 7, 3) := by decide +kernel
theorem dX12_count_189 : decode cX12_count 189 = .ok (.iconst 1, 1) := by decide +kernel
theorem dX12_count_190 : decode cX12_count 190 = .ok (.goto 4, 3) := by decide +kernel
theorem dX12_count_193 : decode cX12_count 193 = .ok (.iconst 0, 1) := by decide +kernel
theorem dX12_count_194 : decode cX12_count 194 = .ok (.iadd, 1) := by decide +kernel
theorem dX12_count_195 : decode cX12_count 195 = .ok (.istore_n 2, 1) := by decide +kernel
theorem dX12_count_196 : decode cX12_count 196 = .ok (.iinc 3 1, 3) := by decide +kernel
theorem dX12_count_199 : decode cX12_count 199 = .ok (.goto (-26), 3) := by decide +kernel
theorem dX12_count_202 : decode cX12_count 202 = .ok (.iload_n 2, 1) := by decide +kernel
theorem dX12_count_203 : decode cX12_count 203 = .ok (.ireturn, 1) := by decide +kernel
theorem dX12_count_204 : decode cX12_count 204 = .ok (.bipush (-3), 2) := by decide +kernel
theorem dX12_count_206 : decode cX12_count 206 = .ok (.ireturn, 1) := by decide +kernel
