theorem dX12_init_0 : decode cX12_init 0 = .ok (.aload_n 0, 1) := by decide +kernel
theorem dX12_init_1 : decode cX12_init 1 = .ok (.invokespecial 3, 3) := by decide +kernel
theorem dX12_init_4 : decode cX12_init 4 = .ok (.aload_n 0, 1) := by decide +kernel
theorem dX12_init_5 : decode cX12_init 5 = .ok (.bipush 8, 2) := by decide +kernel
theorem dX12_init_7 : decode cX12_init 7 = .ok (.newarray .int, 2) := by decide +kernel
theorem dX12_init_9 : decode cX12_init 9 = .ok (.putfield 9, 3) := by decide +kernel
theorem dX12_init_12 : decode cX12_init 12 = .ok (.aload_n 0, 1) := by decide +kernel
theorem dX12_init_13 : decode cX12_init 13 = .ok (.bipush 8, 2) := by decide +kernel
theorem dX12_init_15 : decode cX12_init 15 = .ok (.newarray .int, 2) := by decide +kernel
theorem dX12_init_17 : decode cX12_init 17 = .ok (.putfield 15, 3) := by decide +kernel
theorem dX12_init_20 : decode cX12_init 20 = .ok (.aload_n 0, 1) := by decide +kernel
theorem dX12_init_21 : decode cX12_init 21 = .ok (.bipush 8, 2) := by decide +kernel
theorem dX12_init_23 : decode cX12_init 23 = .ok (.newarray .int, 2) := by decide +kernel
theorem dX12_init_25 : decode cX12_init 25 = .ok (.putfield 18, 3) := by decide +kernel
theorem dX12_init_28 : decode cX12_init 28 = .ok (.aload_n 0, 1) := by decide +kernel
theorem dX12_init_29 : decode cX12_init 29 = .ok (.bipush 8, 2) := by decide +kernel
theorem dX12_init_31 : decode cX12_init 31 = .ok (.newarray .int, 2) := by decide +kernel
theorem dX12_init_33 : decode cX12_init 33 = .ok (.putfield 21, 3) := by decide +kernel
theorem dX12_init_36 : decode cX12_init 36 = .ok (.aload_n 0, 1) := by decide +kernel
theorem dX12_init_37 : decode cX12_init 37 = .ok (.iconst 4, 1) := by decide +kernel
theorem dX12_init_38 : decode cX12_init 38 = .ok (.newarray .int, 2) := by decide +kernel
theorem dX12_init_40 : decode cX12_init 40 = .ok (.dup, 1) := by decide +kernel
theorem dX12_init_41 : decode cX12_init 41 = .ok (.iconst 0, 1) := by decide +kernel
theorem dX12_init_42 : decode cX12_init 42 = .ok (.bipush 40, 2) := by decide +kernel
theorem dX12_init_44 : decode cX12_init 44 = .ok (.iastore, 1) := by decide +kernel
theorem dX12_init_45 : decode cX12_init 45 = .ok (.dup, 1) := by decide +kernel
theorem dX12_init_46 : decode cX12_init 46 = .ok (.iconst 1, 1) := by decide +kernel
theorem dX12_init_47 : decode cX12_init 47 = .ok (.sipush 500, 3) := by decide +kernel
theorem dX12_init_50 : decode cX12_init 50 = .ok (.iastore, 1) := by decide +kernel
theorem dX12_init_51 : decode cX12_init 51 = .ok (.dup, 1) := by decide +kernel
theorem dX12_init_52 : decode cX12_init 52 = .ok (.iconst 2, 1) := by decide +kernel
theorem dX12_init_53 : decode cX12_init 53 = .ok (.bipush 20, 2) := by decide +kernel
theorem dX12_init_55 : decode cX12_init 55 = .ok (.iastore, 1) := by decide +kernel
theorem dX12_init_56 : decode cX12_init 56 = .ok (.dup, 1) := by decide +kernel
theorem dX12_init_57 : decode cX12_init 57 = .ok (.iconst 3, 1) := by decide +kernel
theorem dX12_init_58 : decode cX12_init 58 = .ok (.iconst 0, 1) := by decide +kernel
theorem dX12_init_59 : decode cX12_init 59 = .ok (.iastore, 1) := by decide +kernel
theorem dX12_init_60 : decode cX12_init 60 = .ok (.putfield 24, 3) := by decide +kernel
theorem dX12_init_63 : decode cX12_init 63 = .ok (.aload_n 0, 1) := by decide +kernel
theorem dX12_init_64 : decode cX12_init 64 = .ok (.iconst 4, 1) := by decide +kernel
theorem dX12_init_65 : decode cX12_init 65 = .ok (.newarray .int, 2) := by decide +kernel
theorem dX12_init_67 : decode cX12_init 67 = .ok (.dup, 1) := by decide +kernel
theorem dX12_init_68 : decode cX12_init 68 = .ok (.iconst 0, 1) := by decide +kernel
theorem dX12_init_69 : decode cX12_init 69 = .ok (.sipush 198, 3) := by decide +kernel
theorem dX12_init_72 : decode cX12_init 72 = .ok (.iastore, 1) := by decide +kernel
theorem dX12_init_73 : decode cX12_init 73 = .ok (.dup, 1) := by decide +kernel
theorem dX12_init_74 : decode cX12_init 74 = .ok (.iconst 1, 1) := by decide +kernel
theorem dX12_init_75 : decode cX12_init 75 = .ok (.sipush 9999, 3) := by decide +kernel
theorem dX12_init_78 : decode cX12_init 78 = .ok (.iastore, 1) := by decide +kernel
theorem dX12_init_79 : decode cX12_init 79 = .ok (.dup, 1) := by decide +kernel
theorem dX12_init_80 : decode cX12_init 80 = .ok (.iconst 2, 1) := by decide +kernel
theorem dX12_init_81 : decode cX12_init 81 = .ok (.sipush 300, 3) := by decide +kernel
theorem dX12_init_84 : decode cX12_init 84 = .ok (.iastore, 1) := by decide +kernel
theorem dX12_init_85 : decode cX12_init 85 = .ok (.dup, 1) := by decide +kernel
theorem dX12_init_86 : decode cX12_init 86 = .ok (.iconst 3, 1) := by decide +kernel
theorem dX12_init_87 : decode cX12_init 87 = .ok (.bipush 100, 2) := by decide +kernel
theorem dX12_init_89 : decode cX12_init 89 = .ok (.iastore, 1) := by decide +kernel
theorem dX12_init_90 : decode cX12_init 90 = .ok (.putfield 27, 3) := by decide +kernel
theorem dX12_init_93 : decode cX12_init 93 = .ok (.aload_n 0, 1) := by decide +kernel
theorem dX12_init_94 : decode cX12_init 94 = .ok (.sipush 700, 3) := by decide +kernel
theorem dX12_init_97 : decode cX12_init 97 = .ok (.newarray .boolean, 2) := by decide +kernel
theorem dX12_init_99 : decode cX12_init 99 = .ok (.putfield 30, 3) := by decide +kernel
theorem dX12_init_102 : decode cX12_init 102 = .ok (.aload_n 0, 1) := by decide +kernel
theorem dX12_init_103 : decode cX12_init 103 = .ok (.sipush 700, 3) := by decide +kernel
theorem dX12_init_106 : decode cX12_init 106 = .ok (.newarray .int, 2) := by decide +kernel
theorem dX12_init_108 : decode cX12_init 108 = .ok (.putfield 34, 3) := by decide +kernel
theorem dX12_init_111 : decode cX12_init 111 = .ok (.aload_n 0, 1) := by decide +kernel
theorem dX12_init_112 : decode cX12_init 112 = .ok (.sipush 700, 3) := by decide +kernel
theorem dX12_init_115 : decode cX12_init 115 = .ok (.newarray .int, 2) := by decide +kernel
theorem dX12_init_117 : decode cX12_init 117 = .ok (.putfield 37, 3) := by decide +kernel
theorem dX12_init_120 : decode cX12_init 120 = .ok (.aload_n 0, 1) := by decide +kernel
theorem dX12_init_121 : decode cX12_init 121 = .ok (.sipush 3072, 3) := by decide +kernel
theorem dX12_init_124 : decode cX12_init 124 = .ok (.newarray .int, 2) := by decide +kernel
theorem dX12_init_126 : decode cX12_init 126 = .ok (.putfield 40, 3) := by decide +kernel
theorem dX12_init_129 : decode cX12_init 129 = .ok (.aload_n 0, 1) := by decide +kernel
theorem dX12_init_130 : decode cX12_init 130 = .ok (.sipush 1536, 3) := by decide +kernel
theorem dX12_init_133 : decode cX12_init 133 = .ok (.newarray .int, 2) := by decide +kernel
theorem dX12_init_135 : decode cX12_init 135 = .ok (.putfield 43, 3) := by decide +kernel
theorem dX12_init_138 : decode cX12_init 138 = .ok (.aload_n 0, 1) := by decide +kernel
theorem dX12_init_139 : decode cX12_init 139 = .ok (.bipush 8, 2) := by decide +kernel
theorem dX12_init_141 : decode cX12_init 141 = .ok (.newarray .boolean, 2) := by decide +kernel
theorem dX12_init_143 : decode cX12_init 143 = .ok (.putfield 46, 3) := by decide +kernel
theorem dX12_init_146 : decode cX12_init 146 = .ok (.aload_n 0, 1) := by decide +kernel
theorem dX12_init_147 : decode cX12_init 147 = .ok (.bipush 8, 2) := by decide +kernel
theorem dX12_init_149 : decode cX12_init 149 = .ok (.newarray .int, 2) := by decide +kernel
theorem dX12_init_151 : decode cX12_init 151 = .ok (.putfield 49, 3) := by decide +kernel
theorem dX12_init_154 : decode cX12_init 154 = .ok (.aload_n 0, 1) := by decide +kernel
theorem dX12_init_155 : decode cX12_init 155 = .ok (.bipush 8, 2) := by decide +kernel
theorem dX12_init_157 : decode cX12_init 157 = .ok (.newarray .int, 2) := by decide +kernel
theorem dX12_init_159 : decode cX12_init 159 = .ok (.putfield 52, 3) := by decide +kernel
theorem dX12_init_162 : decode cX12_init 162 = .ok (.aload_n 0, 1) := by decide +kernel
theorem dX12_init_163 : decode cX12_init 163 = .ok (.bipush 8, 2) := by decide +kernel
theorem dX12_init_165 : decode cX12_init 165 = .ok (.newarray .int, 2) := by decide +kernel
theorem dX12_init_167 : decode cX12_init 167 = .ok (.putfield 55, 3) := by decide +kernel
theorem dX12_init_170 : decode cX12_init 170 = .ok (.aload_n 0, 1) := by decide +kernel
theorem dX12_init_171 : decode cX12_init 171 = .ok (.bipush 8, 2) := by decide +kernel
theorem dX12_init_173 : decode cX12_init 173 = .ok (.newarray .int, 2) := by decide +kernel
theorem dX12_init_175 : decode cX12_init 175 = .ok (.putfield 58, 3) := by decide +kernel
theorem dX12_init_178 : decode cX12_init 178 = .ok (.aload_n 0, 1) := by decide +kernel
theorem dX12_init_179 : decode cX12_init 179 = .ok (.bipush 8, 2) := by decide +kernel
theorem dX12_init_181 : decode cX12_init 181 = .ok (.newarray .int, 2) := by decide +kernel
theorem dX12_init_183 : decode cX12_init 183 = .ok (.putfield 61, 3) := by decide +kernel
theorem dX12_init_186 : decode cX12_init 186 = .ok (.aload_n 0, 1) := by decide +kernel
theorem dX12_init_187 : decode cX12_init 187 = .ok (.bipush 32, 2) := by decide +kernel
theorem dX12_init_189 : decode cX12_init 189 = .ok (.newarray .int, 2) := by decide +kernel
theorem dX12_init_191 : decode cX12_init 191 = .ok (.putfield 64, 3) := by decide +kernel
theorem dX12_init_194 : decode cX12_init 194 = .ok (.aload_n 0, 1) := by decide +kernel
theorem dX12_init_195 : decode cX12_init 195 = .ok (.bipush 32, 2) := by decide +kernel
theorem dX12_init_197 : decode cX12_init 197 = .ok (.newarray .int, 2) := by decide +kernel
theorem dX12_init_199 : decode cX12_init 199 = .ok (.putfield 67, 3) := by decide +kernel
theorem dX12_init_202 : decode cX12_init 202 = .ok (.aload_n 0, 1) := by decide +kernel
theorem dX12_init_203 : decode cX12_init 203 = .ok (.bipush 32, 2) := by decide +kernel
theorem dX12_init_205 : decode cX12_init 205 = .ok (.newarray .int, 2) := by decide +kernel
theorem dX12_init_207 : decode cX12_init 207 = .ok (.putfield 70, 3) := by decide +kernel
theorem dX12_init_210 : decode cX12_init 210 = .ok (.aload_n 0, 1) := by decide +kernel
theorem dX12_init_211 : decode cX12_init 211 = .ok (.bipush 32, 2) := by decide +kernel
theorem dX12_init_213 : decode cX12_init 213 = .ok (.newarray .int, 2) := by decide +kernel
theorem dX12_init_215 : decode cX12_init 215 = .ok (.putfield 73, 3) := by decide +kernel
theorem dX12_init_218 : decode cX12_init 218 = .ok (.aload_n 0, 1) := by decide +kernel
theorem dX12_init_219 : decode cX12_init 219 = .ok (.bipush 32, 2) := by decide +kernel
theorem dX12_init_221 : decode cX12_init 221 = .ok (.newarray .boolean, 2) := by decide +kernel
theorem dX12_init_223 : decode cX12_init 223 = .ok (.putfield 76, 3) := by decide +kernel
theorem dX12_init_226 : decode cX12_init 226 = .ok (.aload_n 0, 1) := by decide +kernel
theorem dX12_init_227 : decode cX12_init 227 = .ok (.iconst 4, 1) := by decide +kernel
theorem dX12_init_228 : decode cX12_init 228 = .ok (.newarray .int, 2) := by decide +kernel
theorem dX12_init_230 : decode cX12_init 230 = .ok (.dup, 1) := by decide +kernel
theorem dX12_init_231 : decode cX12_init 231 = .ok (.iconst 0, 1) := by decide +kernel
theorem dX12_init_232 : decode cX12_init 232 = .ok (.bipush 100, 2) := by decide +kernel
theorem dX12_init_234 : decode cX12_init 234 = .ok (.iastore, 1) := by decide +kernel
theorem dX12_init_235 : decode cX12_init 235 = .ok (.dup, 1) := by decide +kernel
theorem dX12_init_236 : decode cX12_init 236 = .ok (.iconst 1, 1) := by decide +kernel
theorem dX12_init_237 : decode cX12_init 237 = .ok (.bipush 80, 2) := by decide +kernel
theorem dX12_init_239 : decode cX12_init 239 = .ok (.iastore, 1) := by decide +kernel
theorem dX12_init_240 : decode cX12_init 240 = .ok (.dup, 1) := by decide +kernel
theorem dX12_init_241 : decode cX12_init 241 = .ok (.iconst 2, 1) := by decide +kernel
theorem dX12_init_242 : decode cX12_init 242 = .ok (.bipush 120, 2) := by decide +kernel
theorem dX12_init_244 : decode cX12_init 244 = .ok (.iastore, 1) := by decide +kernel
theorem dX12_init_245 : decode cX12_init 245 = .ok (.dup, 1) := by decide +kernel
theorem dX12_init_246 : decode cX12_init 246 = .ok (.iconst 3, 1) := by decide +kernel
theorem dX12_init_247 : decode cX12_init 247 = .ok (.bipush 60, 2) := by decide +kernel
theorem dX12_init_249 : decode cX12_init 249 = .ok (.iastore, 1) := by decide +kernel
theorem dX12_init_250 : decode cX12_init 250 = .ok (.putfield 79, 3) := by decide +kernel
theorem dX12_init_253 : decode cX12_init 253 = .ok (.aload_n 0, 1) := by decide +kernel
theorem dX12_init_254 : decode cX12_init 254 = .ok (.bipush 24, 2) := by decide +kernel
theorem dX12_init_256 : decode cX12_init 256 = .ok (.newarray .int, 2) := by decide +kernel
theorem dX12_init_258 : decode cX12_init 258 = .ok (.putfield 82, 3) := by decide +kernel
theorem dX12_init_261 : decode cX12_init 261 = .ok (.aload_n 0, 1) := by decide +kernel
theorem dX12_init_262 : decode cX12_init 262 = .ok (.bipush 24, 2) := by decide +kernel
theorem dX12_init_264 : decode cX12_init 264 = .ok (.newarray .int, 2) := by decide +kernel
theorem dX12_init_266 : decode cX12_init 266 = .ok (.putfield 85, 3) := by decide +kernel
theorem dX12_init_269 : decode cX12_init 269 = .ok (.aload_n 0, 1) := by decide +kernel
theorem dX12_init_270 : decode cX12_init 270 = .ok (.bipush 24, 2) := by decide +kernel
theorem dX12_init_272 : decode cX12_init 272 = .ok (.newarray .int, 2) := by decide +kernel
theorem dX12_init_274 : decode cX12_init 274 = .ok (.putfield 88, 3) := by decide +kernel
theorem dX12_init_277 : decode cX12_init 277 = .ok (.aload_n 0, 1) := by decide +kernel
theorem dX12_init_278 : decode cX12_init 278 = .ok (.bipush 24, 2) := by decide +kernel
theorem dX12_init_280 : decode cX12_init 280 = .ok (.newarray .int, 2) := by decide +kernel
theorem dX12_init_282 : decode cX12_init 282 = .ok (.putfield 91, 3) := by decide +kernel
theorem dX12_init_285 : decode cX12_init 285 = .ok (.aload_n 0, 1) := by decide +kernel
theorem dX12_init_286 : decode cX12_init 286 = .ok (.bipush 24, 2) := by decide +kernel
theorem dX12_init_288 : decode cX12_init 288 = .ok (.newarray .int, 2) := by decide +kernel
theorem dX12_init_290 : decode cX12_init 290 = .ok (.putfield 94, 3) := by decide +kernel
theorem dX12_init_293 : decode cX12_init 293 = .ok (.aload_n 0, 1) := by decide +kernel
theorem dX12_init_294 : decode cX12_init 294 = .ok (.bipush 24, 2) := by decide +kernel
theorem dX12_init_296 : decode cX12_init 296 = .ok (.newarray .int, 2) := by decide +kernel
theorem dX12_init_298 : decode cX12_init 298 = .ok (.putfield 97, 3) := by decide +kernel
theorem dX12_init_301 : decode cX12_init 301 = .ok (.aload_n 0, 1) := by decide +kernel
theorem dX12_init_302 : decode cX12_init 302 = .ok (.bipush 24, 2) := by decide +kernel
theorem dX12_init_304 : decode cX12_init 304 = .ok (.newarray .int, 2) := by decide +kernel
theorem dX12_init_306 : decode cX12_init 306 = .ok (.putfield 100, 3) := by decide +kernel
theorem dX12_init_309 : decode cX12_init 309 = .ok (.aload_n 0, 1) := by decide +kernel
theorem dX12_init_310 : decode cX12_init 310 = .ok (.sipush 384, 3) := by decide +kernel
theorem dX12_init_313 : decode cX12_init 313 = .ok (.newarray .int, 2) := by decide +kernel
theorem dX12_init_315 : decode cX12_init 315 = .ok (.putfield 103, 3) := by decide +kernel
theorem dX12_init_318 : decode cX12_init 318 = .ok (.aload_n 0, 1) := by decide +kernel
theorem dX12_init_319 : decode cX12_init 319 = .ok (.iconst 4, 1) := by decide +kernel
theorem dX12_init_320 : decode cX12_init 320 = .ok (.newarray .int, 2) := by decide +kernel
theorem dX12_init_322 : decode cX12_init 322 = .ok (.putfield 106, 3) := by decide +kernel
theorem dX12_init_325 : decode cX12_init 325 = .ok (.aload_n 0, 1) := by decide +kernel
theorem dX12_init_326 : decode cX12_init 326 = .ok (.bipush 60, 2) := by decide +kernel
theorem dX12_init_328 : decode cX12_init 328 = .ok (.newarray .int, 2) := by decide +kernel
theorem dX12_init_330 : decode cX12_init 330 = .ok (.putfield 109, 3) := by decide +kernel
theorem dX12_init_333 : decode cX12_init 333 = .ok (.aload_n 0, 1) := by decide +kernel
theorem dX12_init_334 : decode cX12_init 334 = .ok (.bipush 60, 2) := by decide +kernel
theorem dX12_init_336 : decode cX12_init 336 = .ok (.newarray .int, 2) := by decide +kernel
theorem dX12_init_338 : decode cX12_init 338 = .ok (.putfield 112, 3) := by decide +kernel
theorem dX12_init_341 : decode cX12_init 341 = .ok (.aload_n 0, 1) := by decide +kernel
theorem dX12_init_342 : decode cX12_init 342 = .ok (.bipush 60, 2) := by decide +kernel
theorem dX12_init_344 : decode cX12_init 344 = .ok (.newarray .int, 2) := by decide +kernel
theorem dX12_init_346 : decode cX12_init 346 = .ok (.putfield 115, 3) := by decide +kernel
theorem dX12_init_349 : decode cX12_init 349 = .ok (.aload_n 0, 1) := by decide +kernel
theorem dX12_init_350 : decode cX12_init 350 = .ok (.bipush 60, 2) := by decide +kernel
theorem dX12_init_352 : decode cX12_init 352 = .ok (.newarray .int, 2) := by decide +kernel
theorem dX12_init_354 : decode cX12_init 354 = .ok (.putfield 118, 3) := by decide +kernel
theorem dX12_init_357 : decode cX12_init 357 = .ok (.aload_n 0, 1) := by decide +kernel
theorem dX12_init_358 : decode cX12_init 358 = .ok (.bipush 80, 2) := by decide +kernel
theorem dX12_init_360 : decode cX12_init 360 = .ok (.newarray .int, 2) := by decide +kernel
theorem dX12_init_362 : decode cX12_init 362 = .ok (.putfield 121, 3) := by decide +kernel
theorem dX12_init_365 : decode cX12_init 365 = .ok (.aload_n 0, 1) := by decide +kernel
theorem dX12_init_366 : decode cX12_init 366 = .ok (.bipush 80, 2) := by decide +kernel
theorem dX12_init_368 : decode cX12_init 368 = .ok (.newarray .int, 2) := by decide +kernel
theorem dX12_init_370 : decode cX12_init 370 = .ok (.putfield 124, 3) := by decide +kernel
theorem dX12_init_373 : decode cX12_init 373 = .ok (.aload_n 0, 1) := by decide +kernel
theorem dX12_init_374 : decode cX12_init 374 = .ok (.bipush 80, 2) := by decide +kernel
theorem dX12_init_376 : decode cX12_init 376 = .ok (.newarray .int, 2) := by decide +kernel
theorem dX12_init_378 : decode cX12_init 378 = .ok (.putfield 127, 3) := by decide +kernel
theorem dX12_init_381 : decode cX12_init 381 = .ok (.aload_n 0, 1) := by decide +kernel
theorem dX12_init_382 : decode cX12_init 382 = .ok (.bipush 80, 2) := by decide +kernel
theorem dX12_init_384 : decode cX12_init 384 = .ok (.newarray .int, 2) := by decide +kernel
theorem dX12_init_386 : decode cX12_init 386 = .ok (.putfield 130, 3) := by decide +kernel
theorem dX12_init_389 : decode cX12_init 389 = .ok (.aload_n 0, 1) := by decide +kernel
theorem dX12_init_390 : decode cX12_init 390 = .ok (.bipush 8, 2) := by decide +kernel
theorem dX12_init_392 : decode cX12_init 392 = .ok (.newarray .int, 2) := by decide +kernel
theorem dX12_init_394 : decode cX12_init 394 = .ok (.putfield 133, 3) := by decide +kernel
theorem dX12_init_397 : decode cX12_init 397 = .ok (.aload_n 0, 1) := by decide +kernel
theorem dX12_init_398 : decode cX12_init 398 = .ok (.bipush 8, 2) := by decide +kernel
theorem dX12_init_400 : decode cX12_init 400 = .ok (.newarray .int, 2) := by decide +kernel
theorem dX12_init_402 : decode cX12_init 402 = .ok (.putfield 136, 3) := by decide +kernel
theorem dX12_init_405 : decode cX12_init 405 = .ok (.aload_n 0, 1) := by decide +kernel
theorem dX12_init_406 : decode cX12_init 406 = .ok (.sipush 200, 3) := by decide +kernel
theorem dX12_init_409 : decode cX12_init 409 = .ok (.newarray .int, 2) := by decide +kernel
theorem dX12_init_411 : decode cX12_init 411 = .ok (.putfield 139, 3) := by decide +kernel
theorem dX12_init_414 : decode cX12_init 414 = .ok (.aload_n 0, 1) := by decide +kernel
theorem dX12_init_415 : decode cX12_init 415 = .ok (.sipush 200, 3) := by decide +kernel
theorem dX12_init_418 : decode cX12_init 418 = .ok (.newarray .int, 2) := by decide +kernel
theorem dX12_init_420 : decode cX12_init 420 = .ok (.putfield 142, 3) := by decide +kernel
theorem dX12_init_423 : decode cX12_init 423 = .ok (.aload_n 0, 1) := by decide +kernel
theorem dX12_init_424 : decode cX12_init 424 = .ok (.sipush 200, 3) := by decide +kernel
theorem dX12_init_427 : decode cX12_init 427 = .ok (.newarray .int, 2) := by decide +kernel
theorem dX12_init_429 : decode cX12_init 429 = .ok (.putfield 145, 3) := by decide +kernel
theorem dX12_init_432 : decode cX12_init 432 = .ok (.aload_n 0, 1) := by decide +kernel
theorem dX12_init_433 : decode cX12_init 433 = .ok (.sipush 200, 3) := by decide +kernel
theorem dX12_init_436 : decode cX12_init 436 = .ok (.newarray .int, 2) := by decide +kernel
theorem dX12_init_438 : decode cX12_init 438 = .ok (.putfield 148, 3) := by decide +kernel
theorem dX12_init_441 : decode cX12_init 441 = .ok (.aload_n 0, 1) := by decide +kernel
theorem dX12_init_442 : decode cX12_init 442 = .ok (.bipush 20, 2) := by decide +kernel
theorem dX12_init_444 : decode cX12_init 444 = .ok (.newarray .int, 2) := by decide +kernel
theorem dX12_init_446 : decode cX12_init 446 = .ok (.putfield 151, 3) := by decide +kernel
theorem dX12_init_449 : decode cX12_init 449 = .ok (.aload_n 0, 1) := by decide +kernel
theorem dX12_init_450 : decode cX12_init 450 = .ok (.bipush 20, 2) := by decide +kernel
theorem dX12_init_452 : decode cX12_init 452 = .ok (.newarray .int, 2) := by decide +kernel
theorem dX12_init_454 : decode cX12_init 454 = .ok (.putfield 154, 3) := by decide +kernel
theorem dX12_init_457 : decode cX12_init 457 = .ok (.aload_n 0, 1) := by decide +kernel
theorem dX12_init_458 : decode cX12_init 458 = .ok (.bipush 20, 2) := by decide +kernel
theorem dX12_init_460 : decode cX12_init 460 = .ok (.newarray .int, 2) := by decide +kernel
theorem dX12_init_462 : decode cX12_init 462 = .ok (.putfield 157, 3) := by decide +kernel
theorem dX12_init_465 : decode cX12_init 465 = .ok (.aload_n 0, 1) := by decide +kernel
theorem dX12_init_466 : decode cX12_init 466 = .ok (.bipush 20, 2) := by decide +kernel
theorem dX12_init_468 : decode cX12_init 468 = .ok (.newarray .int, 2) := by decide +kernel
theorem dX12_init_470 : decode cX12_init 470 = .ok (.putfield 160, 3) := by decide +kernel
theorem dX12_init_473 : decode cX12_init 473 = .ok (.aload_n 0, 1) := by decide +kernel
theorem dX12_init_474 : decode cX12_init 474 = .ok (.bipush 20, 2) := by decide +kernel
theorem dX12_init_476 : decode cX12_init 476 = .ok (.newarray .int, 2) := by decide +kernel
theorem dX12_init_478 : decode cX12_init 478 = .ok (.putfield 163, 3) := by decide +kernel
theorem dX12_init_481 : decode cX12_init 481 = .ok (.aload_n 0, 1) := by decide +kernel
theorem dX12_init_482 : decode cX12_init 482 = .ok (.iconst 1, 1) := by decide +kernel
theorem dX12_init_483 : decode cX12_init 483 = .ok (.putfield 166, 3) := by decide +kernel
theorem dX12_init_486 : decode cX12_init 486 = .ok (.aload_n 0, 1) := by decide +kernel
theorem dX12_init_487 : decode cX12_init 487 = .ok (.bipush 100, 2) := by decide +kernel
theorem dX12_init_489 : decode cX12_init 489 = .ok (.newarray .int, 2) := by decide +kernel
theorem dX12_init_491 : decode cX12_init 491 = .ok (.putfield 170, 3) := by decide +kernel
theorem dX12_init_494 : decode cX12_init 494 = .ok (.aload_n 0, 1) := by decide +kernel
theorem dX12_init_495 : decode cX12_init 495 = .ok (.bipush 20, 2) := by decide +kernel
theorem dX12_init_497 : decode cX12_init 497 = .ok (.newarray .int, 2) := by decide +kernel
theorem dX12_init_499 : decode cX12_init 499 = .ok (.putfield 173, 3) := by decide +kernel
theorem dX12_init_502 : decode cX12_init 502 = .ok (.aload_n 0, 1) := by decide +kernel
theorem dX12_init_503 : decode cX12_init 503 = .ok (.iconst 3, 1) := by decide +kernel
theorem dX12_init_504 : decode cX12_init 504 = .ok (.newarray .int, 2) := by decide +kernel
theorem dX12_init_506 : decode cX12_init 506 = .ok (.dup, 1) := by decide +kernel
theorem dX12_init_507 : decode cX12_init 507 = .ok (.iconst 0, 1) := by decide +kernel
theorem dX12_init_508 : decode cX12_init 508 = .ok (.iconst (-1), 1) := by decide +kernel
theorem dX12_init_509 : decode cX12_init 509 = .ok (.iastore, 1) := by decide +kernel
theorem dX12_init_510 : decode cX12_init 510 = .ok (.dup, 1) := by decide +kernel
theorem dX12_init_511 : decode cX12_init 511 = .ok (.iconst 1, 1) := by decide +kernel
theorem dX12_init_512 : decode cX12_init 512 = .ok (.iconst (-1), 1) := by decide +kernel
theorem dX12_init_513 : decode cX12_init 513 = .ok (.iastore, 1) := by decide +kernel
theorem dX12_init_514 : decode cX12_init 514 = .ok (.dup, 1) := by decide +kernel
theorem dX12_init_515 : decode cX12_init 515 = .ok (.iconst 2, 1) := by decide +kernel
theorem dX12_init_516 : decode cX12_init 516 = .ok (.iconst (-1), 1) := by decide +kernel
theorem dX12_init_517 : decode cX12_init 517 = .ok (.iastore, 1) := by decide +kernel
theorem dX12_init_518 : decode cX12_init 518 = .ok (.putfield 176, 3) := by decide +kernel
theorem dX12_init_521 : decode cX12_init 521 = .ok (.aload_n 0, 1) := by decide +kernel
theorem dX12_init_522 : decode cX12_init 522 = .ok (.iconst 3, 1) := by decide +kernel
theorem dX12_init_523 : decode cX12_init 523 = .ok (.newarray .int, 2) := by decide +kernel
theorem dX12_init_525 : decode cX12_init 525 = .ok (.putfield 179, 3) := by decide +kernel
theorem dX12_init_528 : decode cX12_init 528 = .ok (.aload_n 0, 1) := by decide +kernel
theorem dX12_init_529 : decode cX12_init 529 = .ok (.bipush 120, 2) := by decide +kernel
theorem dX12_init_531 : decode cX12_init 531 = .ok (.newarray .int, 2) := by decide +kernel
theorem dX12_init_533 : decode cX12_init 533 = .ok (.putfield 182, 3) := by decide +kernel
theorem dX12_init_536 : decode cX12_init 536 = .ok (.aload_n 0, 1) := by decide +kernel
theorem dX12_init_537 : decode cX12_init 537 = .ok (.bipush 79, 2) := by decide +kernel
theorem dX12_init_539 : decode cX12_init 539 = .ok (.newarray .int, 2) := by decide +kernel
theorem dX12_init_541 : decode cX12_init 541 = .ok (.dup, 1) := by decide +kernel
theorem dX12_init_542 : decode cX12_init 542 = .ok (.iconst 0, 1) := by decide +kernel
theorem dX12_init_543 : decode cX12_init 543 = .ok (.bipush 112, 2) := by decide +kernel
theorem dX12_init_545 : decode cX12_init 545 = .ok (.iastore, 1) := by decide +kernel
theorem dX12_init_546 : decode cX12_init 546 = .ok (.dup, 1) := by decide +kernel
theorem dX12_init_547 : decode cX12_init 547 = .ok (.iconst 1, 1) := by decide +kernel
theorem dX12_init_548 : decode cX12_init 548 = .ok (.bipush 97, 2) := by decide +kernel
theorem dX12_init_550 : decode cX12_init 550 = .ok (.iastore, 1) := by decide +kernel
theorem dX12_init_551 : decode cX12_init 551 = .ok (.dup, 1) := by decide +kernel
theorem dX12_init_552 : decode cX12_init 552 = .ok (.iconst 2, 1) := by decide +kernel
theorem dX12_init_553 : decode cX12_init 553 = .ok (.bipush 121, 2) := by decide +kernel
theorem dX12_init_555 : decode cX12_init 555 = .ok (.iastore, 1) := by decide +kernel
theorem dX12_init_556 : decode cX12_init 556 = .ok (.dup, 1) := by decide +kernel
theorem dX12_init_557 : decode cX12_init 557 = .ok (.iconst 3, 1) := by decide +kernel
theorem dX12_init_558 : decode cX12_init 558 = .ok (.bipush 32, 2) := by decide +kernel
theorem dX12_init_560 : decode cX12_init 560 = .ok (.iastore, 1) := by decide +kernel
theorem dX12_init_561 : decode cX12_init 561 = .ok (.dup, 1) := by decide +kernel
theorem dX12_init_562 : decode cX12_init 562 = .ok (.iconst 4, 1) := by decide +kernel
theorem dX12_init_563 : decode cX12_init 563 = .ok (.iconst 0, 1) := by decide +kernel
theorem dX12_init_564 : decode cX12_init 564 = .ok (.iastore, 1) := by decide +kernel
theorem dX12_init_565 : decode cX12_init 565 = .ok (.dup, 1) := by decide +kernel
theorem dX12_init_566 : decode cX12_init 566 = .ok (.iconst 5, 1) := by decide +kernel
theorem dX12_init_567 : decode cX12_init 567 = .ok (.bipush 32, 2) := by decide +kernel
theorem dX12_init_569 : decode cX12_init 569 = .ok (.iastore, 1) := by decide +kernel
theorem dX12_init_570 : decode cX12_init 570 = .ok (.dup, 1) := by decide +kernel
theorem dX12_init_571 : decode cX12_init 571 = .ok (.bipush 6, 2) := by decide +kernel
theorem dX12_init_573 : decode cX12_init 573 = .ok (.bipush 105, 2) := by decide +kernel
theorem dX12_init_575 : decode cX12_init 575 = .ok (.iastore, 1) := by decide +kernel
theorem dX12_init_576 : decode cX12_init 576 = .ok (.dup, 1) := by decide +kernel
theorem dX12_init_577 : decode cX12_init 577 = .ok (.bipush 7, 2) := by decide +kernel
theorem dX12_init_579 : decode cX12_init 579 = .ok (.bipush 102, 2) := by decide +kernel
theorem dX12_init_581 : decode cX12_init 581 = .ok (.iastore, 1) := by decide +kernel
theorem dX12_init_582 : decode cX12_init 582 = .ok (.dup, 1) := by decide +kernel
theorem dX12_init_583 : decode cX12_init 583 = .ok (.bipush 8, 2) := by decide +kernel
theorem dX12_init_585 : decode cX12_init 585 = .ok (.bipush 32, 2) := by decide +kernel
theorem dX12_init_587 : decode cX12_init 587 = .ok (.iastore, 1) := by decide +kernel
theorem dX12_init_588 : decode cX12_init 588 = .ok (.dup, 1) := by decide +kernel
theorem dX12_init_589 : decode cX12_init 589 = .ok (.bipush 9, 2) := by decide +kernel
theorem dX12_init_591 : decode cX12_init 591 = .ok (.iconst 0, 1) := by decide +kernel
theorem dX12_init_592 : decode cX12_init 592 = .ok (.iastore, 1) := by decide +kernel
theorem dX12_init_593 : decode cX12_init 593 = .ok (.dup, 1) := by decide +kernel
theorem dX12_init_594 : decode cX12_init 594 = .ok (.bipush 10, 2) := by decide +kernel
theorem dX12_init_596 : decode cX12_init 596 = .ok (.bipush 114, 2) := by decide +kernel
theorem dX12_init_598 : decode cX12_init 598 = .ok (.iastore, 1) := by decide +kernel
theorem dX12_init_599 : decode cX12_init 599 = .ok (.dup, 1) := by decide +kernel
theorem dX12_init_600 : decode cX12_init 600 = .ok (.bipush 11, 2) := by decide +kernel
theorem dX12_init_602 : decode cX12_init 602 = .ok (.bipush 97, 2) := by decide +kernel
theorem dX12_init_604 : decode cX12_init 604 = .ok (.iastore, 1) := by decide +kernel
theorem dX12_init_605 : decode cX12_init 605 = .ok (.dup, 1) := by decide +kernel
theorem dX12_init_606 : decode cX12_init 606 = .ok (.bipush 12, 2) := by decide +kernel
theorem dX12_init_608 : decode cX12_init 608 = .ok (.bipush 116, 2) := by decide +kernel
theorem dX12_init_610 : decode cX12_init 610 = .ok (.iastore, 1) := by decide +kernel
theorem dX12_init_611 : decode cX12_init 611 = .ok (.dup, 1) := by decide +kernel
theorem dX12_init_612 : decode cX12_init 612 = .ok (.bipush 13, 2) := by decide +kernel
theorem dX12_init_614 : decode cX12_init 614 = .ok (.bipush 101, 2) := by decide +kernel
theorem dX12_init_616 : decode cX12_init 616 = .ok (.iastore, 1) := by decide +kernel
theorem dX12_init_617 : decode cX12_init 617 = .ok (.dup, 1) := by decide +kernel
theorem dX12_init_618 : decode cX12_init 618 = .ok (.bipush 14, 2) := by decide +kernel
theorem dX12_init_620 : decode cX12_init 620 = .ok (.bipush 32, 2) := by decide +kernel
theorem dX12_init_622 : decode cX12_init 622 = .ok (.iastore, 1) := by decide +kernel
theorem dX12_init_623 : decode cX12_init 623 = .ok (.dup, 1) := by decide +kernel
theorem dX12_init_624 : decode cX12_init 624 = .ok (.bipush 15, 2) := by decide +kernel
theorem dX12_init_626 : decode cX12_init 626 = .ok (.iconst 0, 1) := by decide +kernel
theorem dX12_init_627 : decode cX12_init 627 = .ok (.iastore, 1) := by decide +kernel
theorem dX12_init_628 : decode cX12_init 628 = .ok (.dup, 1) := by decide +kernel
theorem dX12_init_629 : decode cX12_init 629 = .ok (.bipush 16, 2) := by decide +kernel
theorem dX12_init_631 : decode cX12_init 631 = .ok (.bipush 32, 2) := by decide +kernel
theorem dX12_init_633 : decode cX12_init 633 = .ok (.iastore, 1) := by decide +kernel
theorem dX12_init_634 : decode cX12_init 634 = .ok (.dup, 1) := by decide +kernel
theorem dX12_init_635 : decode cX12_init 635 = .ok (.bipush 17, 2) := by decide +kernel
theorem dX12_init_637 : decode cX12_init 637 = .ok (.bipush 112, 2) := by decide +kernel
theorem dX12_init_639 : decode cX12_init 639 = .ok (.iastore, 1) := by decide +kernel
theorem dX12_init_640 : decode cX12_init 640 = .ok (.dup, 1) := by decide +kernel
theorem dX12_init_641 : decode cX12_init 641 = .ok (.bipush 18, 2) := by decide +kernel
theorem dX12_init_643 : decode cX12_init 643 = .ok (.bipush 101, 2) := by decide +kernel
theorem dX12_init_645 : decode cX12_init 645 = .ok (.iastore, 1) := by decide +kernel
theorem dX12_init_646 : decode cX12_init 646 = .ok (.dup, 1) := by decide +kernel
theorem dX12_init_647 : decode cX12_init 647 = .ok (.bipush 19, 2) := by decide +kernel
theorem dX12_init_649 : decode cX12_init 649 = .ok (.bipush 114, 2) := by decide +kernel
theorem dX12_init_651 : decode cX12_init 651 = .ok (.iastore, 1) := by decide +kernel
theorem dX12_init_652 : decode cX12_init 652 = .ok (.dup, 1) := by decide +kernel
theorem dX12_init_653 : decode cX12_init 653 = .ok (.bipush 20, 2) := by decide +kernel
theorem dX12_init_655 : decode cX12_init 655 = .ok (.bipush 32, 2) := by decide +kernel
theorem dX12_init_657 : decode cX12_init 657 = .ok (.iastore, 1) := by decide +kernel
theorem dX12_init_658 : decode cX12_init 658 = .ok (.dup, 1) := by decide +kernel
theorem dX12_init_659 : decode cX12_init 659 = .ok (.bipush 21, 2) := by decide +kernel
theorem dX12_init_661 : decode cX12_init 661 = .ok (.iconst 0, 1) := by decide +kernel
theorem dX12_init_662 : decode cX12_init 662 = .ok (.iastore, 1) := by decide +kernel
theorem dX12_init_663 : decode cX12_init 663 = .ok (.dup, 1) := by decide +kernel
theorem dX12_init_664 : decode cX12_init 664 = .ok (.bipush 22, 2) := by decide +kernel
theorem dX12_init_666 : decode cX12_init 666 = .ok (.bipush 32, 2) := by decide +kernel
theorem dX12_init_668 : decode cX12_init 668 = .ok (.iastore, 1) := by decide +kernel
theorem dX12_init_669 : decode cX12_init 669 = .ok (.dup, 1) := by decide +kernel
theorem dX12_init_670 : decode cX12_init 670 = .ok (.bipush 23, 2) := by decide +kernel
theorem dX12_init_672 : decode cX12_init 672 = .ok (.bipush 98, 2) := by decide +kernel
theorem dX12_init_674 : decode cX12_init 674 = .ok (.iastore, 1) := by decide +kernel
theorem dX12_init_675 : decode cX12_init 675 = .ok (.dup, 1) := by decide +kernel
theorem dX12_init_676 : decode cX12_init 676 = .ok (.bipush 24, 2) := by decide +kernel
theorem dX12_init_678 : decode cX12_init 678 = .ok (.bipush 101, 2) := by decide +kernel
theorem dX12_init_680 : decode cX12_init 680 = .ok (.iastore, 1) := by decide +kernel
theorem dX12_init_681 : decode cX12_init 681 = .ok (.dup, 1) := by decide +kernel
theorem dX12_init_682 : decode cX12_init 682 = .ok (.bipush 25, 2) := by decide +kernel
theorem dX12_init_684 : decode cX12_init 684 = .ok (.bipush 108, 2) := by decide +kernel
theorem dX12_init_686 : decode cX12_init 686 = .ok (.iastore, 1) := by decide +kernel
theorem dX12_init_687 : decode cX12_init 687 = .ok (.dup, 1) := by decide +kernel
theorem dX12_init_688 : decode cX12_init 688 = .ok (.bipush 26, 2) := by decide +kernel
theorem dX12_init_690 : decode cX12_init 690 = .ok (.bipush 111, 2) := by decide +kernel
theorem dX12_init_692 : decode cX12_init 692 = .ok (.iastore, 1) := by decide +kernel
theorem dX12_init_693 : decode cX12_init 693 = .ok (.dup, 1) := by decide +kernel
theorem dX12_init_694 : decode cX12_init 694 = .ok (.bipush 27, 2) := by decide +kernel
theorem dX12_init_696 : decode cX12_init 696 = .ok (.bipush 119, 2) := by decide +kernel
theorem dX12_init_698 : decode cX12_init 698 = .ok (.iastore, 1) := by decide +kernel
theorem dX12_init_699 : decode cX12_init 699 = .ok (.dup, 1) := by decide +kernel
theorem dX12_init_700 : decode cX12_init 700 = .ok (.bipush 28, 2) := by decide +kernel
theorem dX12_init_702 : decode cX12_init 702 = .ok (.bipush 32, 2) := by decide +kernel
theorem dX12_init_704 : decode cX12_init 704 = .ok (.iastore, 1) := by decide +kernel
theorem dX12_init_705 : decode cX12_init 705 = .ok (.dup, 1) := by decide +kernel
theorem dX12_init_706 : decode cX12_init 706 = .ok (.bipush 29, 2) := by decide +kernel
theorem dX12_init_708 : decode cX12_init 708 = .ok (.iconst 0, 1) := by decide +kernel
theorem dX12_init_709 : decode cX12_init 709 = .ok (.iastore, 1) := by decide +kernel
theorem dX12_init_710 : decode cX12_init 710 = .ok (.dup, 1) := by decide +kernel
theorem dX12_init_711 : decode cX12_init 711 = .ok (.bipush 30, 2) := by decide +kernel
theorem dX12_init_713 : decode cX12_init 713 = .ok (.bipush 32, 2) := by decide +kernel
theorem dX12_init_715 : decode cX12_init 715 = .ok (.iastore, 1) := by decide +kernel
theorem dX12_init_716 : decode cX12_init 716 = .ok (.dup, 1) := by decide +kernel
theorem dX12_init_717 : decode cX12_init 717 = .ok (.bipush 31, 2) := by decide +kernel
theorem dX12_init_719 : decode cX12_init 719 = .ok (.bipush 111, 2) := by decide +kernel
theorem dX12_init_721 : decode cX12_init 721 = .ok (.iastore, 1) := by decide +kernel
theorem dX12_init_722 : decode cX12_init 722 = .ok (.dup, 1) := by decide +kernel
theorem dX12_init_723 : decode cX12_init 723 = .ok (.bipush 32, 2) := by decide +kernel
theorem dX12_init_725 : decode cX12_init 725 = .ok (.bipush 102, 2) := by decide +kernel
theorem dX12_init_727 : decode cX12_init 727 = .ok (.iastore, 1) := by decide +kernel
theorem dX12_init_728 : decode cX12_init 728 = .ok (.dup, 1) := by decide +kernel
theorem dX12_init_729 : decode cX12_init 729 = .ok (.bipush 33, 2) := by decide +kernel
theorem dX12_init_731 : decode cX12_init 731 = .ok (.bipush 32, 2) := by decide +kernel
theorem dX12_init_733 : decode cX12_init 733 = .ok (.iastore, 1) := by decide +kernel
theorem dX12_init_734 : decode cX12_init 734 = .ok (.dup, 1) := by decide +kernel
theorem dX12_init_735 : decode cX12_init 735 = .ok (.bipush 34, 2) := by decide +kernel
theorem dX12_init_737 : decode cX12_init 737 = .ok (.bipush 115, 2) := by decide +kernel
theorem dX12_init_739 : decode cX12_init 739 = .ok (.iastore, 1) := by decide +kernel
theorem dX12_init_740 : decode cX12_init 740 = .ok (.dup, 1) := by decide +kernel
theorem dX12_init_741 : decode cX12_init 741 = .ok (.bipush 35, 2) := by decide +kernel
theorem dX12_init_743 : decode cX12_init 743 = .ok (.bipush 117, 2) := by decide +kernel
theorem dX12_init_745 : decode cX12_init 745 = .ok (.iastore, 1) := by decide +kernel
theorem dX12_init_746 : decode cX12_init 746 = .ok (.dup, 1) := by decide +kernel
theorem dX12_init_747 : decode cX12_init 747 = .ok (.bipush 36, 2) := by decide +kernel
theorem dX12_init_749 : decode cX12_init 749 = .ok (.bipush 109, 2) := by decide +kernel
theorem dX12_init_751 : decode cX12_init 751 = .ok (.iastore, 1) := by decide +kernel
theorem dX12_init_752 : decode cX12_init 752 = .ok (.dup, 1) := by decide +kernel
theorem dX12_init_753 : decode cX12_init 753 = .ok (.bipush 37, 2) := by decide +kernel
theorem dX12_init_755 : decode cX12_init 755 = .ok (.bipush 32, 2) := by decide +kernel
theorem dX12_init_757 : decode cX12_init 757 = .ok (.iastore, 1) := by decide +kernel
theorem dX12_init_758 : decode cX12_init 758 = .ok (.dup, 1) := by decide +kernel
theorem dX12_init_759 : decode cX12_init 759 = .ok (.bipush 38, 2) := by decide +kernel
theorem dX12_init_761 : decode cX12_init 761 = .ok (.iconst 0, 1) := by decide +kernel
theorem dX12_init_762 : decode cX12_init 762 = .ok (.iastore, 1) := by decide +kernel
theorem dX12_init_763 : decode cX12_init 763 = .ok (.dup, 1) := by decide +kernel
theorem dX12_init_764 : decode cX12_init 764 = .ok (.bipush 39, 2) := by decide +kernel
theorem dX12_init_766 : decode cX12_init 766 = .ok (.bipush 32, 2) := by decide +kernel
theorem dX12_init_768 : decode cX12_init 768 = .ok (.iastore, 1) := by decide +kernel
theorem dX12_init_769 : decode cX12_init 769 = .ok (.dup, 1) := by decide +kernel
theorem dX12_init_770 : decode cX12_init 770 = .ok (.bipush 40, 2) := by decide +kernel
theorem dX12_init_772 : decode cX12_init 772 = .ok (.bipush 116, 2) := by decide +kernel
theorem dX12_init_774 : decode cX12_init 774 = .ok (.iastore, 1) := by decide +kernel
theorem dX12_init_775 : decode cX12_init 775 = .ok (.dup, 1) := by decide +kernel
theorem dX12_init_776 : decode cX12_init 776 = .ok (.bipush 41, 2) := by decide +kernel
theorem dX12_init_778 : decode cX12_init 778 = .ok (.bipush 111, 2) := by decide +kernel
theorem dX12_init_780 : decode cX12_init 780 = .ok (.iastore, 1) := by decide +kernel
theorem dX12_init_781 : decode cX12_init 781 = .ok (.dup, 1) := by decide +kernel
theorem dX12_init_782 : decode cX12_init 782 = .ok (.bipush 42, 2) := by decide +kernel
theorem dX12_init_784 : decode cX12_init 784 = .ok (.bipush 32, 2) := by decide +kernel
theorem dX12_init_786 : decode cX12_init 786 = .ok (.iastore, 1) := by decide +kernel
theorem dX12_init_787 : decode cX12_init 787 = .ok (.dup, 1) := by decide +kernel
theorem dX12_init_788 : decode cX12_init 788 = .ok (.bipush 43, 2) := by decide +kernel
theorem dX12_init_790 : decode cX12_init 790 = .ok (.iconst 0, 1) := by decide +kernel
theorem dX12_init_791 : decode cX12_init 791 = .ok (.iastore, 1) := by decide +kernel
theorem dX12_init_792 : decode cX12_init 792 = .ok (.dup, 1) := by decide +kernel
theorem dX12_init_793 : decode cX12_init 793 = .ok (.bipush 44, 2) := by decide +kernel
theorem dX12_init_795 : decode cX12_init 795 = .ok (.bipush 32, 2) := by decide +kernel
theorem dX12_init_797 : decode cX12_init 797 = .ok (.iastore, 1) := by decide +kernel
theorem dX12_init_798 : decode cX12_init 798 = .ok (.dup, 1) := by decide +kernel
theorem dX12_init_799 : decode cX12_init 799 = .ok (.bipush 45, 2) := by decide +kernel
theorem dX12_init_801 : decode cX12_init 801 = .ok (.bipush 109, 2) := by decide +kernel
theorem dX12_init_803 : decode cX12_init 803 = .ok (.iastore, 1) := by decide +kernel
theorem dX12_init_804 : decode cX12_init 804 = .ok (.dup, 1) := by decide +kernel
theorem dX12_init_805 : decode cX12_init 805 = .ok (.bipush 46, 2) := by decide +kernel
theorem dX12_init_807 : decode cX12_init 807 = .ok (.bipush 97, 2) := by decide +kernel
theorem dX12_init_809 : decode cX12_init 809 = .ok (.iastore, 1) := by decide +kernel
theorem dX12_init_810 : decode cX12_init 810 = .ok (.dup, 1) := by decide +kernel
theorem dX12_init_811 : decode cX12_init 811 = .ok (.bipush 47, 2) := by decide +kernel
theorem dX12_init_813 : decode cX12_init 813 = .ok (.bipush 120, 2) := by decide +kernel
theorem dX12_init_815 : decode cX12_init 815 = .ok (.iastore, 1) := by decide +kernel
theorem dX12_init_816 : decode cX12_init 816 = .ok (.dup, 1) := by decide +kernel
theorem dX12_init_817 : decode cX12_init 817 = .ok (.bipush 48, 2) := by decide +kernel
theorem dX12_init_819 : decode cX12_init 819 = .ok (.bipush 32, 2) := by decide +kernel
theorem dX12_init_821 : decode cX12_init 821 = .ok (.iastore, 1) := by decide +kernel
theorem dX12_init_822 : decode cX12_init 822 = .ok (.dup, 1) := by decide +kernel
theorem dX12_init_823 : decode cX12_init 823 = .ok (.bipush 49, 2) := by decide +kernel
theorem dX12_init_825 : decode cX12_init 825 = .ok (.iconst 0, 1) := by decide +kernel
theorem dX12_init_826 : decode cX12_init 826 = .ok (.iastore, 1) := by decide +kernel
theorem dX12_init_827 : decode cX12_init 827 = .ok (.dup, 1) := by decide +kernel
theorem dX12_init_828 : decode cX12_init 828 = .ok (.bipush 50, 2) := by decide +kernel
theorem dX12_init_830 : decode cX12_init 830 = .ok (.bipush 115, 2) := by decide +kernel
theorem dX12_init_832 : decode cX12_init 832 = .ok (.iastore, 1) := by decide +kernel
theorem dX12_init_833 : decode cX12_init 833 = .ok (.dup, 1) := by decide +kernel
theorem dX12_init_834 : decode cX12_init 834 = .ok (.bipush 51, 2) := by decide +kernel
theorem dX12_init_836 : decode cX12_init 836 = .ok (.bipush 117, 2) := by decide +kernel
theorem dX12_init_838 : decode cX12_init 838 = .ok (.iastore, 1) := by decide +kernel
theorem dX12_init_839 : decode cX12_init 839 = .ok (.dup, 1) := by decide +kernel
theorem dX12_init_840 : decode cX12_init 840 = .ok (.bipush 52, 2) := by decide +kernel
theorem dX12_init_842 : decode cX12_init 842 = .ok (.bipush 109, 2) := by decide +kernel
theorem dX12_init_844 : decode cX12_init 844 = .ok (.iastore, 1) := by decide +kernel
theorem dX12_init_845 : decode cX12_init 845 = .ok (.dup, 1) := by decide +kernel
theorem dX12_init_846 : decode cX12_init 846 = .ok (.bipush 53, 2) := by decide +kernel
theorem dX12_init_848 : decode cX12_init 848 = .ok (.bipush 32, 2) := by decide +kernel
theorem dX12_init_850 : decode cX12_init 850 = .ok (.iastore, 1) := by decide +kernel
theorem dX12_init_851 : decode cX12_init 851 = .ok (.dup, 1) := by decide +kernel
theorem dX12_init_852 : decode cX12_init 852 = .ok (.bipush 54, 2) := by decide +kernel
theorem dX12_init_854 : decode cX12_init 854 = .ok (.iconst 0, 1) := by decide +kernel
theorem dX12_init_855 : decode cX12_init 855 = .ok (.iastore, 1) := by decide +kernel
theorem dX12_init_856 : decode cX12_init 856 = .ok (.dup, 1) := by decide +kernel
theorem dX12_init_857 : decode cX12_init 857 = .ok (.bipush 55, 2) := by decide +kernel
theorem dX12_init_859 : decode cX12_init 859 = .ok (.bipush 100, 2) := by decide +kernel
theorem dX12_init_861 : decode cX12_init 861 = .ok (.iastore, 1) := by decide +kernel
theorem dX12_init_862 : decode cX12_init 862 = .ok (.dup, 1) := by decide +kernel
theorem dX12_init_863 : decode cX12_init 863 = .ok (.bipush 56, 2) := by decide +kernel
theorem dX12_init_865 : decode cX12_init 865 = .ok (.bipush 114, 2) := by decide +kernel
theorem dX12_init_867 : decode cX12_init 867 = .ok (.iastore, 1) := by decide +kernel
theorem dX12_init_868 : decode cX12_init 868 = .ok (.dup, 1) := by decide +kernel
theorem dX12_init_869 : decode cX12_init 869 = .ok (.bipush 57, 2) := by decide +kernel
theorem dX12_init_871 : decode cX12_init 871 = .ok (.bipush 121, 2) := by decide +kernel
theorem dX12_init_873 : decode cX12_init 873 = .ok (.iastore, 1) := by decide +kernel
theorem dX12_init_874 : decode cX12_init 874 = .ok (.dup, 1) := by decide +kernel
theorem dX12_init_875 : decode cX12_init 875 = .ok (.bipush 58, 2) := by decide +kernel
theorem dX12_init_877 : decode cX12_init 877 = .ok (.bipush 32, 2) := by decide +kernel
theorem dX12_init_879 : decode cX12_init 879 = .ok (.iastore, 1) := by decide +kernel
theorem dX12_init_880 : decode cX12_init 880 = .ok (.dup, 1) := by decide +kernel
theorem dX12_init_881 : decode cX12_init 881 = .ok (.bipush 59, 2) := by decide +kernel
theorem dX12_init_883 : decode cX12_init 883 = .ok (.iconst 0, 1) := by decide +kernel
theorem dX12_init_884 : decode cX12_init 884 = .ok (.iastore, 1) := by decide +kernel
theorem dX12_init_885 : decode cX12_init 885 = .ok (.dup, 1) := by decide +kernel
theorem dX12_init_886 : decode cX12_init 886 = .ok (.bipush 60, 2) := by decide +kernel
theorem dX12_init_888 : decode cX12_init 888 = .ok (.bipush 103, 2) := by decide +kernel
theorem dX12_init_890 : decode cX12_init 890 = .ok (.iastore, 1) := by decide +kernel
theorem dX12_init_891 : decode cX12_init 891 = .ok (.dup, 1) := by decide +kernel
theorem dX12_init_892 : decode cX12_init 892 = .ok (.bipush 61, 2) := by decide +kernel
theorem dX12_init_894 : decode cX12_init 894 = .ok (.bipush 114, 2) := by decide +kernel
theorem dX12_init_896 : decode cX12_init 896 = .ok (.iastore, 1) := by decide +kernel
theorem dX12_init_897 : decode cX12_init 897 = .ok (.dup, 1) := by decide +kernel
theorem dX12_init_898 : decode cX12_init 898 = .ok (.bipush 62, 2) := by decide +kernel
theorem dX12_init_900 : decode cX12_init 900 = .ok (.bipush 101, 2) := by decide +kernel
theorem dX12_init_902 : decode cX12_init 902 = .ok (.iastore, 1) := by decide +kernel
theorem dX12_init_903 : decode cX12_init 903 = .ok (.dup, 1) := by decide +kernel
theorem dX12_init_904 : decode cX12_init 904 = .ok (.bipush 63, 2) := by decide +kernel
theorem dX12_init_906 : decode cX12_init 906 = .ok (.bipush 101, 2) := by decide +kernel
theorem dX12_init_908 : decode cX12_init 908 = .ok (.iastore, 1) := by decide +kernel
theorem dX12_init_909 : decode cX12_init 909 = .ok (.dup, 1) := by decide +kernel
theorem dX12_init_910 : decode cX12_init 910 = .ok (.bipush 64, 2) := by decide +kernel
theorem dX12_init_912 : decode cX12_init 912 = .ok (.bipush 110, 2) := by decide +kernel
theorem dX12_init_914 : decode cX12_init 914 = .ok (.iastore, 1) := by decide +kernel
theorem dX12_init_915 : decode cX12_init 915 = .ok (.dup, 1) := by decide +kernel
theorem dX12_init_916 : decode cX12_init 916 = .ok (.bipush 65, 2) := by decide +kernel
theorem dX12_init_918 : decode cX12_init 918 = .ok (.bipush 32, 2) := by decide +kernel
theorem dX12_init_920 : decode cX12_init 920 = .ok (.iastore, 1) := by decide +kernel
theorem dX12_init_921 : decode cX12_init 921 = .ok (.dup, 1) := by decide +kernel
theorem dX12_init_922 : decode cX12_init 922 = .ok (.bipush 66, 2) := by decide +kernel
theorem dX12_init_924 : decode cX12_init 924 = .ok (.iconst 0, 1) := by decide +kernel
theorem dX12_init_925 : decode cX12_init 925 = .ok (.iastore, 1) := by decide +kernel
theorem dX12_init_926 : decode cX12_init 926 = .ok (.dup, 1) := by decide +kernel
theorem dX12_init_927 : decode cX12_init 927 = .ok (.bipush 67, 2) := by decide +kernel
theorem dX12_init_929 : decode cX12_init 929 = .ok (.bipush 119, 2) := by decide +kernel
theorem dX12_init_931 : decode cX12_init 931 = .ok (.iastore, 1) := by decide +kernel
theorem dX12_init_932 : decode cX12_init 932 = .ok (.dup, 1) := by decide +kernel
theorem dX12_init_933 : decode cX12_init 933 = .ok (.bipush 68, 2) := by decide +kernel
theorem dX12_init_935 : decode cX12_init 935 = .ok (.bipush 101, 2) := by decide +kernel
theorem dX12_init_937 : decode cX12_init 937 = .ok (.iastore, 1) := by decide +kernel
theorem dX12_init_938 : decode cX12_init 938 = .ok (.dup, 1) := by decide +kernel
theorem dX12_init_939 : decode cX12_init 939 = .ok (.bipush 69, 2) := by decide +kernel
theorem dX12_init_941 : decode cX12_init 941 = .ok (.bipush 101, 2) := by decide +kernel
theorem dX12_init_943 : decode cX12_init 943 = .ok (.iastore, 1) := by decide +kernel
theorem dX12_init_944 : decode cX12_init 944 = .ok (.dup, 1) := by decide +kernel
theorem dX12_init_945 : decode cX12_init 945 = .ok (.bipush 70, 2) := by decide +kernel
theorem dX12_init_947 : decode cX12_init 947 = .ok (.bipush 107, 2) := by decide +kernel
theorem dX12_init_949 : decode cX12_init 949 = .ok (.iastore, 1) := by decide +kernel
theorem dX12_init_950 : decode cX12_init 950 = .ok (.dup, 1) := by decide +kernel
theorem dX12_init_951 : decode cX12_init 951 = .ok (.bipush 71, 2) := by decide +kernel
theorem dX12_init_953 : decode cX12_init 953 = .ok (.bipush 32, 2) := by decide +kernel
theorem dX12_init_955 : decode cX12_init 955 = .ok (.iastore, 1) := by decide +kernel
theorem dX12_init_956 : decode cX12_init 956 = .ok (.dup, 1) := by decide +kernel
theorem dX12_init_957 : decode cX12_init 957 = .ok (.bipush 72, 2) := by decide +kernel
theorem dX12_init_959 : decode cX12_init 959 = .ok (.iconst 0, 1) := by decide +kernel
theorem dX12_init_960 : decode cX12_init 960 = .ok (.iastore, 1) := by decide +kernel
theorem dX12_init_961 : decode cX12_init 961 = .ok (.dup, 1) := by decide +kernel
theorem dX12_init_962 : decode cX12_init 962 = .ok (.bipush 73, 2) := by decide +kernel
theorem dX12_init_964 : decode cX12_init 964 = .ok (.bipush 32, 2) := by decide +kernel
theorem dX12_init_966 : decode cX12_init 966 = .ok (.iastore, 1) := by decide +kernel
theorem dX12_init_967 : decode cX12_init 967 = .ok (.dup, 1) := by decide +kernel
theorem dX12_init_968 : decode cX12_init 968 = .ok (.bipush 74, 2) := by decide +kernel
theorem dX12_init_970 : decode cX12_init 970 = .ok (.bipush 97, 2) := by decide +kernel
theorem dX12_init_972 : decode cX12_init 972 = .ok (.iastore, 1) := by decide +kernel
theorem dX12_init_973 : decode cX12_init 973 = .ok (.dup, 1) := by decide +kernel
theorem dX12_init_974 : decode cX12_init 974 = .ok (.bipush 75, 2) := by decide +kernel
theorem dX12_init_976 : decode cX12_init 976 = .ok (.bipush 110, 2) := by decide +kernel
theorem dX12_init_978 : decode cX12_init 978 = .ok (.iastore, 1) := by decide +kernel
theorem dX12_init_979 : decode cX12_init 979 = .ok (.dup, 1) := by decide +kernel
theorem dX12_init_980 : decode cX12_init 980 = .ok (.bipush 76, 2) := by decide +kernel
theorem dX12_init_982 : decode cX12_init 982 = .ok (.bipush 100, 2) := by decide +kernel
theorem dX12_init_984 : decode cX12_init 984 = .ok (.iastore, 1) := by decide +kernel
theorem dX12_init_985 : decode cX12_init 985 = .ok (.dup, 1) := by decide +kernel
theorem dX12_init_986 : decode cX12_init 986 = .ok (.bipush 77, 2) := by decide +kernel
theorem dX12_init_988 : decode cX12_init 988 = .ok (.bipush 32, 2) := by decide +kernel
theorem dX12_init_990 : decode cX12_init 990 = .ok (.iastore, 1) := by decide +kernel
theorem dX12_init_991 : decode cX12_init 991 = .ok (.dup, 1) := by decide +kernel
theorem dX12_init_992 : decode cX12_init 992 = .ok (.bipush 78, 2) := by decide +kernel
theorem dX12_init_994 : decode cX12_init 994 = .ok (.iconst 0, 1) := by decide +kernel
theorem dX12_init_995 : decode cX12_init 995 = .ok (.iastore, 1) := by decide +kernel
theorem dX12_init_996 : decode cX12_init 996 = .ok (.putfield 185, 3) := by decide +kernel
theorem dX12_init_999 : decode cX12_init 999 = .ok (.aload_n 0, 1) := by decide +kernel
theorem dX12_init_1000 : decode cX12_init 1000 = .ok (.bipush 12, 2) := by decide +kernel
theorem dX12_init_1002 : decode cX12_init 1002 = .ok (.putfield 188, 3) := by decide +kernel
theorem dX12_init_1005 : decode cX12_init 1005 = .ok (.aload_n 0, 1) := by decide +kernel
theorem dX12_init_1006 : decode cX12_init 1006 = .ok (.bipush 16, 2) := by decide +kernel
theorem dX12_init_1008 : decode cX12_init 1008 = .ok (.newarray .int, 2) := by decide +kernel
theorem dX12_init_1010 : decode cX12_init 1010 = .ok (.putfield 191, 3) := by decide +kernel
theorem dX12_init_1013 : decode cX12_init 1013 = .ok (.aload_n 0, 1) := by decide +kernel
theorem dX12_init_1014 : decode cX12_init 1014 = .ok (.bipush 16, 2) := by decide +kernel
theorem dX12_init_1016 : decode cX12_init 1016 = .ok (.newarray .int, 2) := by decide +kernel
theorem dX12_init_1018 : decode cX12_init 1018 = .ok (.putfield 194, 3) := by decide +kernel
theorem dX12_init_1021 : decode cX12_init 1021 = .ok (.aload_n 0, 1) := by decide +kernel
theorem dX12_init_1022 : decode cX12_init 1022 = .ok (.bipush 40, 2) := by decide +kernel
theorem dX12_init_1024 : decode cX12_init 1024 = .ok (.newarray .int, 2) := by decide +kernel
theorem dX12_init_1026 : decode cX12_init 1026 = .ok (.putfield 197, 3) := by decide +kernel
theorem dX12_init_1029 : decode cX12_init 1029 = .ok (.aload_n 0, 1) := by decide +kernel
theorem dX12_init_1030 : decode cX12_init 1030 = .ok (.iconst 0, 1) := by decide +kernel
theorem dX12_init_1031 : decode cX12_init 1031 = .ok (.invokevirtual 200, 3) := by decide +kernel
theorem dX12_init_1034 : decode cX12_init 1034 = .ok (.return_, 1) := by decide +kernel
abbrev M_X12_init : MI := (RX12, cX12_init, 1, none, ({ frames := 1, cells := 60, slots := 9389, locals := 22 } : Room), 60, 9389, true)
set_option maxRecDepth 20000 in
def f_X12_init_b528 (N : Nat) (h : AH) (x0 : Nat) : Option AH := (gl h [x0, x0]).bind fun _ => (xna h (x0 + 68) 0 120).bind fun h127 => (xpr h127 x0 13 68 (x0 + 68)).bind fun h128 => (gl h128 [x0, x0]).bind fun _ => (xna h128 (x0 + 71) 0 79).bind fun h129 => (xis h129 (x0 + 71) 0 112).bind fun h130 => (xis h130 (x0 + 71) 1 97).bind fun h131 => (xis h131 (x0 + 71) 2 121).bind fun h132 => (xis h132 (x0 + 71) 3 32).bind fun h133 => (xis h133 (x0 + 71) 4 0).bind fun h134 => (xis h134 (x0 + 71) 5 32).bind fun h135 => (xis h135 (x0 + 71) 6 105).bind fun h136 => (xis h136 (x0 + 71) 7 102).bind fun h137 => (xis h137 (x0 + 71) 8 32).bind fun h138 => (xis h138 (x0 + 71) 9 0).bind fun h139 => (xis h139 (x0 + 71) 10 114).bind fun h140 => (xis h140 (x0 + 71) 11 97).bind fun h141 => (xis h141 (x0 + 71) 12 116).bind fun h142 => (xis h142 (x0 + 71) 13 101).bind fun h143 => (xis h143 (x0 + 71) 14 32).bind fun h144 => (xis h144 (x0 + 71) 15 0).bind fun h145 => (xis h145 (x0 + 71) 16 32).bind fun h146 => (xis h146 (x0 + 71) 17 112).bind fun h147 => (xis h147 (x0 + 71) 18 101).bind fun h148 => (xis h148 (x0 + 71) 19 114).bind fun h149 => (xis h149 (x0 + 71) 20 32).bind fun h150 => (xis h150 (x0 + 71) 21 0).bind fun h151 => (xis h151 (x0 + 71) 22 32).bind fun h152 => (xis h152 (x0 + 71) 23 98).bind fun h153 => (xis h153 (x0 + 71) 24 101).bind fun h154 => (xis h154 (x0 + 71) 25 108).bind fun h155 => (xis h155 (x0 + 71) 26 111).bind fun h156 => (xis h156 (x0 + 71) 27 119).bind fun h157 => (xis h157 (x0 + 71) 28 32).bind fun h158 => (xis h158 (x0 + 71) 29 0).bind fun h159 => (xis h159 (x0 + 71) 30 32).bind fun h160 => (xis h160 (x0 + 71) 31 111).bind fun h161 => (xis h161 (x0 + 71) 32 102).bind fun h162 => (xis h162 (x0 + 71) 33 32).bind fun h163 => (xis h163 (x0 + 71) 34 115).bind fun h164 => (xis h164 (x0 + 71) 35 117).bind fun h165 => (xis h165 (x0 + 71) 36 109).bind fun h166 => (xis h166 (x0 + 71) 37 32).bind fun h167 => (xis h167 (x0 + 71) 38 0).bind fun h168 => (xis h168 (x0 + 71) 39 32).bind fun h169 => (xis h169 (x0 + 71) 40 116).bind fun h170 => (xis h170 (x0 + 71) 41 111).bind fun h171 => (xis h171 (x0 + 71) 42 32).bind fun h172 => (xis h172 (x0 + 71) 43 0).bind fun h173 => (xis h173 (x0 + 71) 44 32).bind fun h174 => (xis h174 (x0 + 71) 45 109).bind fun h175 => (xis h175 (x0 + 71) 46 97).bind fun h176 => (xis h176 (x0 + 71) 47 120).bind fun h177 => (xis h177 (x0 + 71) 48 32).bind fun h178 => (xis h178 (x0 + 71) 49 0).bind fun h179 => (xis h179 (x0 + 71) 50 115).bind fun h180 => (xis h180 (x0 + 71) 51 117).bind fun h181 => (xis h181 (x0 + 71) 52 109).bind fun h182 => (xis h182 (x0 + 71) 53 32).bind fun h183 => (xis h183 (x0 + 71) 54 0).bind fun h184 => (xis h184 (x0 + 71) 55 100).bind fun h185 => (xis h185 (x0 + 71) 56 114).bind fun h186 => (xis h186 (x0 + 71) 57 121).bind fun h187 => (xis h187 (x0 + 71) 58 32).bind fun h188 => (xis h188 (x0 + 71) 59 0).bind fun h189 => (xis h189 (x0 + 71) 60 103).bind fun h190 => (xis h190 (x0 + 71) 61 114).bind fun h191 => (xis h191 (x0 + 71) 62 101).bind fun h192 => (xis h192 (x0 + 71) 63 101).bind fun h193 => (xis h193 (x0 + 71) 64 110).bind fun h194 => (xis h194 (x0 + 71) 65 32).bind fun h195 => (xis h195 (x0 + 71) 66 0).bind fun h196 => (xis h196 (x0 + 71) 67 119).bind fun h197 => (xis h197 (x0 + 71) 68 101).bind fun h198 => (xis h198 (x0 + 71) 69 101).bind fun h199 => (xis h199 (x0 + 71) 70 107).bind fun h200 => (xis h200 (x0 + 71) 71 32).bind fun h201 => (xis h201 (x0 + 71) 72 0).bind fun h202 => (xis h202 (x0 + 71) 73 32).bind fun h203 => (xis h203 (x0 + 71) 74 97).bind fun h204 => (xis h204 (x0 + 71) 75 110).bind fun h205 => (xis h205 (x0 + 71) 76 100).bind fun h206 => (xis h206 (x0 + 71) 77 32).bind fun h207 => (xis h207 (x0 + 71) 78 0).bind fun h208 => (xpr h208 x0 13 71 (x0 + 71)).bind fun h209 => (xpi h209 x0 13 73 12).bind fun h210 => (gl h210 [x0, x0]).bind fun _ => (xna h210 (x0 + 74) 0 16).bind fun h211 => (xpr h211 x0 13 74 (x0 + 74)).bind fun h212 => (gl h212 [x0, x0]).bind fun _ => (xna h212 (x0 + 75) 0 16).bind fun h213 => (xpr h213 x0 13 75 (x0 + 75)).bind fun h214 => (gl h214 [x0, x0]).bind fun _ => (xna h214 (x0 + 76) 0 40).bind fun h215 => (xpr h215 x0 13 76 (x0 + 76)).bind fun h216 => (f_X12_clears h216 N x0 0).bind fun q217 => some q217
set_option maxRecDepth 20000 in
def f_X12_init_b457 (N : Nat) (h : AH) (x0 : Nat) : Option AH := (gl h [x0, x0]).bind fun _ => (xna h (x0 + 58) 0 20).bind fun h109 => (xpr h109 x0 13 58 (x0 + 58)).bind fun h110 => (gl h110 [x0, x0]).bind fun _ => (xna h110 (x0 + 59) 0 20).bind fun h111 => (xpr h111 x0 13 59 (x0 + 59)).bind fun h112 => (gl h112 [x0, x0]).bind fun _ => (xna h112 (x0 + 60) 0 20).bind fun h113 => (xpr h113 x0 13 60 (x0 + 60)).bind fun h114 => (xpi h114 x0 13 61 1).bind fun h115 => (gl h115 [x0, x0]).bind fun _ => (xna h115 (x0 + 62) 0 100).bind fun h116 => (xpr h116 x0 13 62 (x0 + 62)).bind fun h117 => (gl h117 [x0, x0]).bind fun _ => (xna h117 (x0 + 65) 0 20).bind fun h118 => (xpr h118 x0 13 65 (x0 + 65)).bind fun h119 => (gl h119 [x0, x0]).bind fun _ => (xna h119 (x0 + 66) 0 3).bind fun h120 => (xis h120 (x0 + 66) 0 (-1)).bind fun h121 => (xis h121 (x0 + 66) 1 (-1)).bind fun h122 => (xis h122 (x0 + 66) 2 (-1)).bind fun h123 => (xpr h123 x0 13 66 (x0 + 66)).bind fun h124 => (gl h124 [x0, x0]).bind fun _ => (xna h124 (x0 + 67) 0 3).bind fun h125 => (xpr h125 x0 13 67 (x0 + 67)).bind fun h126 => f_X12_init_b528 N h126 x0
set_option maxRecDepth 20000 in
def f_X12_init_b389 (N : Nat) (h : AH) (x0 : Nat) : Option AH := (gl h [x0, x0]).bind fun _ => (xna h (x0 + 47) 0 8).bind fun h93 => (xpr h93 x0 13 47 (x0 + 47)).bind fun h94 => (gl h94 [x0, x0]).bind fun _ => (xna h94 (x0 + 48) 0 8).bind fun h95 => (xpr h95 x0 13 48 (x0 + 48)).bind fun h96 => (gl h96 [x0, x0]).bind fun _ => (xna h96 (x0 + 50) 0 200).bind fun h97 => (xpr h97 x0 13 50 (x0 + 50)).bind fun h98 => (gl h98 [x0, x0]).bind fun _ => (xna h98 (x0 + 51) 0 200).bind fun h99 => (xpr h99 x0 13 51 (x0 + 51)).bind fun h100 => (gl h100 [x0, x0]).bind fun _ => (xna h100 (x0 + 52) 0 200).bind fun h101 => (xpr h101 x0 13 52 (x0 + 52)).bind fun h102 => (gl h102 [x0, x0]).bind fun _ => (xna h102 (x0 + 53) 0 200).bind fun h103 => (xpr h103 x0 13 53 (x0 + 53)).bind fun h104 => (gl h104 [x0, x0]).bind fun _ => (xna h104 (x0 + 56) 0 20).bind fun h105 => (xpr h105 x0 13 56 (x0 + 56)).bind fun h106 => (gl h106 [x0, x0]).bind fun _ => (xna h106 (x0 + 57) 0 20).bind fun h107 => (xpr h107 x0 13 57 (x0 + 57)).bind fun h108 => f_X12_init_b457 N h108 x0
set_option maxRecDepth 20000 in
def f_X12_init_b325 (N : Nat) (h : AH) (x0 : Nat) : Option AH := (gl h [x0, x0]).bind fun _ => (xna h (x0 + 37) 0 60).bind fun h77 => (xpr h77 x0 13 37 (x0 + 37)).bind fun h78 => (gl h78 [x0, x0]).bind fun _ => (xna h78 (x0 + 38) 0 60).bind fun h79 => (xpr h79 x0 13 38 (x0 + 38)).bind fun h80 => (gl h80 [x0, x0]).bind fun _ => (xna h80 (x0 + 39) 0 60).bind fun h81 => (xpr h81 x0 13 39 (x0 + 39)).bind fun h82 => (gl h82 [x0, x0]).bind fun _ => (xna h82 (x0 + 40) 0 60).bind fun h83 => (xpr h83 x0 13 40 (x0 + 40)).bind fun h84 => (gl h84 [x0, x0]).bind fun _ => (xna h84 (x0 + 42) 0 80).bind fun h85 => (xpr h85 x0 13 42 (x0 + 42)).bind fun h86 => (gl h86 [x0, x0]).bind fun _ => (xna h86 (x0 + 43) 0 80).bind fun h87 => (xpr h87 x0 13 43 (x0 + 43)).bind fun h88 => (gl h88 [x0, x0]).bind fun _ => (xna h88 (x0 + 44) 0 80).bind fun h89 => (xpr h89 x0 13 44 (x0 + 44)).bind fun h90 => (gl h90 [x0, x0]).bind fun _ => (xna h90 (x0 + 45) 0 80).bind fun h91 => (xpr h91 x0 13 45 (x0 + 45)).bind fun h92 => f_X12_init_b389 N h92 x0
set_option maxRecDepth 20000 in
def f_X12_init_b261 (N : Nat) (h : AH) (x0 : Nat) : Option AH := (gl h [x0, x0]).bind fun _ => (xna h (x0 + 28) 0 24).bind fun h61 => (xpr h61 x0 13 28 (x0 + 28)).bind fun h62 => (gl h62 [x0, x0]).bind fun _ => (xna h62 (x0 + 29) 0 24).bind fun h63 => (xpr h63 x0 13 29 (x0 + 29)).bind fun h64 => (gl h64 [x0, x0]).bind fun _ => (xna h64 (x0 + 30) 0 24).bind fun h65 => (xpr h65 x0 13 30 (x0 + 30)).bind fun h66 => (gl h66 [x0, x0]).bind fun _ => (xna h66 (x0 + 31) 0 24).bind fun h67 => (xpr h67 x0 13 31 (x0 + 31)).bind fun h68 => (gl h68 [x0, x0]).bind fun _ => (xna h68 (x0 + 32) 0 24).bind fun h69 => (xpr h69 x0 13 32 (x0 + 32)).bind fun h70 => (gl h70 [x0, x0]).bind fun _ => (xna h70 (x0 + 33) 0 24).bind fun h71 => (xpr h71 x0 13 33 (x0 + 33)).bind fun h72 => (gl h72 [x0, x0]).bind fun _ => (xna h72 (x0 + 34) 0 384).bind fun h73 => (xpr h73 x0 13 34 (x0 + 34)).bind fun h74 => (gl h74 [x0, x0]).bind fun _ => (xna h74 (x0 + 35) 0 4).bind fun h75 => (xpr h75 x0 13 35 (x0 + 35)).bind fun h76 => f_X12_init_b325 N h76 x0
set_option maxRecDepth 20000 in
def f_X12_init_b178 (N : Nat) (h : AH) (x0 : Nat) : Option AH := (gl h [x0, x0]).bind fun _ => (xna h (x0 + 19) 0 8).bind fun h41 => (xpr h41 x0 13 19 (x0 + 19)).bind fun h42 => (gl h42 [x0, x0]).bind fun _ => (xna h42 (x0 + 20) 0 32).bind fun h43 => (xpr h43 x0 13 20 (x0 + 20)).bind fun h44 => (gl h44 [x0, x0]).bind fun _ => (xna h44 (x0 + 21) 0 32).bind fun h45 => (xpr h45 x0 13 21 (x0 + 21)).bind fun h46 => (gl h46 [x0, x0]).bind fun _ => (xna h46 (x0 + 22) 0 32).bind fun h47 => (xpr h47 x0 13 22 (x0 + 22)).bind fun h48 => (gl h48 [x0, x0]).bind fun _ => (xna h48 (x0 + 23) 0 32).bind fun h49 => (xpr h49 x0 13 23 (x0 + 23)).bind fun h50 => (gl h50 [x0, x0]).bind fun _ => (xna h50 (x0 + 24) 1 32).bind fun h51 => (xpr h51 x0 13 24 (x0 + 24)).bind fun h52 => (gl h52 [x0, x0]).bind fun _ => (xna h52 (x0 + 25) 0 4).bind fun h53 => (xis h53 (x0 + 25) 0 100).bind fun h54 => (xis h54 (x0 + 25) 1 80).bind fun h55 => (xis h55 (x0 + 25) 2 120).bind fun h56 => (xis h56 (x0 + 25) 3 60).bind fun h57 => (xpr h57 x0 13 25 (x0 + 25)).bind fun h58 => (gl h58 [x0, x0]).bind fun _ => (xna h58 (x0 + 27) 0 24).bind fun h59 => (xpr h59 x0 13 27 (x0 + 27)).bind fun h60 => f_X12_init_b261 N h60 x0
set_option maxRecDepth 20000 in
def f_X12_init_b111 (N : Nat) (h : AH) (x0 : Nat) : Option AH := (gl h [x0, x0]).bind fun _ => (xna h (x0 + 10) 0 700).bind fun h25 => (xpr h25 x0 13 10 (x0 + 10)).bind fun h26 => (gl h26 [x0, x0]).bind fun _ => (xna h26 (x0 + 11) 0 3072).bind fun h27 => (xpr h27 x0 13 11 (x0 + 11)).bind fun h28 => (gl h28 [x0, x0]).bind fun _ => (xna h28 (x0 + 12) 0 1536).bind fun h29 => (xpr h29 x0 13 12 (x0 + 12)).bind fun h30 => (gl h30 [x0, x0]).bind fun _ => (xna h30 (x0 + 14) 1 8).bind fun h31 => (xpr h31 x0 13 14 (x0 + 14)).bind fun h32 => (gl h32 [x0, x0]).bind fun _ => (xna h32 (x0 + 15) 0 8).bind fun h33 => (xpr h33 x0 13 15 (x0 + 15)).bind fun h34 => (gl h34 [x0, x0]).bind fun _ => (xna h34 (x0 + 16) 0 8).bind fun h35 => (xpr h35 x0 13 16 (x0 + 16)).bind fun h36 => (gl h36 [x0, x0]).bind fun _ => (xna h36 (x0 + 17) 0 8).bind fun h37 => (xpr h37 x0 13 17 (x0 + 17)).bind fun h38 => (gl h38 [x0, x0]).bind fun _ => (xna h38 (x0 + 18) 0 8).bind fun h39 => (xpr h39 x0 13 18 (x0 + 18)).bind fun h40 => f_X12_init_b178 N h40 x0
set_option maxRecDepth 20000 in
def f_X12_init (h0 : AH) (N : Nat) (p0 : Nat) : Option AH := if kd h0 p0 = 13 + 1 then (gl h0 [p0, p0]).bind fun _ => (xna h0 (p0 + 1) 0 8).bind fun h1 => (xpr h1 p0 13 1 (p0 + 1)).bind fun h2 => (gl h2 [p0, p0]).bind fun _ => (xna h2 (p0 + 2) 0 8).bind fun h3 => (xpr h3 p0 13 2 (p0 + 2)).bind fun h4 => (gl h4 [p0, p0]).bind fun _ => (xna h4 (p0 + 3) 0 8).bind fun h5 => (xpr h5 p0 13 3 (p0 + 3)).bind fun h6 => (gl h6 [p0, p0]).bind fun _ => (xna h6 (p0 + 4) 0 8).bind fun h7 => (xpr h7 p0 13 4 (p0 + 4)).bind fun h8 => (gl h8 [p0, p0]).bind fun _ => (xna h8 (p0 + 5) 0 4).bind fun h9 => (xis h9 (p0 + 5) 0 40).bind fun h10 => (xis h10 (p0 + 5) 1 500).bind fun h11 => (xis h11 (p0 + 5) 2 20).bind fun h12 => (xis h12 (p0 + 5) 3 0).bind fun h13 => (xpr h13 p0 13 5 (p0 + 5)).bind fun h14 => (gl h14 [p0, p0]).bind fun _ => (xna h14 (p0 + 6) 0 4).bind fun h15 => (xis h15 (p0 + 6) 0 198).bind fun h16 => (xis h16 (p0 + 6) 1 9999).bind fun h17 => (xis h17 (p0 + 6) 2 300).bind fun h18 => (xis h18 (p0 + 6) 3 100).bind fun h19 => (xpr h19 p0 13 6 (p0 + 6)).bind fun h20 => (gl h20 [p0, p0]).bind fun _ => (xna h20 (p0 + 8) 1 700).bind fun h21 => (xpr h21 p0 13 8 (p0 + 8)).bind fun h22 => (gl h22 [p0, p0]).bind fun _ => (xna h22 (p0 + 9) 0 700).bind fun h23 => (xpr h23 p0 13 9 (p0 + 9)).bind fun h24 => f_X12_init_b111 N h24 p0 else none
theorem g_X12_init {h0 : AH} {N : Nat} {p0 : Nat} {x : AH} (e : f_X12_init h0 N p0 = some x) : kd h0 p0 = 13 + 1 := by
  unfold f_X12_init at e
  by_cases hk : kd h0 p0 = 13 + 1
  · exact hk
  · rw [if_neg hk] at e
    cases e
set_option maxRecDepth 100000 in
theorem km_X12_init : KM yX12_init M_X12_init 0 := ⟨in_tb 1190 rfl rfl, in_tb 9 (by decide +kernel) rfl, by decide +kernel, rfl, rfl⟩
section
variable {l : Launch} {g : GG}
set_option maxRecDepth 100000 in
set_option maxHeartbeats 4000000 in
theorem t_X12_init_b528 (h0 : AH) (N : Nat) (h : AH) (x0 : Nat) : AO l g M_X12_init true h0 528 [(0, .ref x0)] [] h 55 9118 rSv (f_X12_init_b528 N  h x0) := by
  unfold f_X12_init_b528
  refine a_aload_n dX12_init_528 rfl 0 rfl ?_
  refine a_bipush (v := 120) dX12_init_529 (by decide) ?_
  refine a_newa_int (r := (x0 + 68)) [x0, x0] rfl dX12_init_531 w_arrayClass_int (by decide) (by decide) (fun h127 => ?_)
  refine a_widen 56 9238 (by decide) (by decide) ?_
  refine a_putrF kc13 68 dX12_init_533 (by decide) rfl w_fieldLink_RainCoverModel_182 (fun _ => ⟨rfl, rfl⟩) rfl rfl rfl (fun h128 => ?_)
  refine a_aload_n dX12_init_536 rfl 0 rfl ?_
  refine a_bipush (v := 79) dX12_init_537 (by decide) ?_
  refine a_newa_int (r := (x0 + 71)) [x0, x0] rfl dX12_init_539 w_arrayClass_int (by decide) (by decide) (fun h129 => ?_)
  refine a_widen 57 9317 (by decide) (by decide) ?_
  refine a_dup dX12_init_541 rfl ?_
  refine a_iconst (v := 0) dX12_init_542 (by decide) ?_
  refine a_bipush (v := 112) dX12_init_543 (by decide) ?_
  refine a_iast dX12_init_545 (fun h130 => ?_)
  refine a_dup dX12_init_546 rfl ?_
  refine a_iconst (v := 1) dX12_init_547 (by decide) ?_
  refine a_bipush (v := 97) dX12_init_548 (by decide) ?_
  refine a_iast dX12_init_550 (fun h131 => ?_)
  refine a_dup dX12_init_551 rfl ?_
  refine a_iconst (v := 2) dX12_init_552 (by decide) ?_
  refine a_bipush (v := 121) dX12_init_553 (by decide) ?_
  refine a_iast dX12_init_555 (fun h132 => ?_)
  refine a_dup dX12_init_556 rfl ?_
  refine a_iconst (v := 3) dX12_init_557 (by decide) ?_
  refine a_bipush (v := 32) dX12_init_558 (by decide) ?_
  refine a_iast dX12_init_560 (fun h133 => ?_)
  refine a_dup dX12_init_561 rfl ?_
  refine a_iconst (v := 4) dX12_init_562 (by decide) ?_
  refine a_iconst (v := 0) dX12_init_563 (by decide) ?_
  refine a_iast dX12_init_564 (fun h134 => ?_)
  refine a_dup dX12_init_565 rfl ?_
  refine a_iconst (v := 5) dX12_init_566 (by decide) ?_
  refine a_bipush (v := 32) dX12_init_567 (by decide) ?_
  refine a_iast dX12_init_569 (fun h135 => ?_)
  refine a_dup dX12_init_570 rfl ?_
  refine a_bipush (v := 6) dX12_init_571 (by decide) ?_
  refine a_bipush (v := 105) dX12_init_573 (by decide) ?_
  refine a_iast dX12_init_575 (fun h136 => ?_)
  refine a_dup dX12_init_576 rfl ?_
  refine a_bipush (v := 7) dX12_init_577 (by decide) ?_
  refine a_bipush (v := 102) dX12_init_579 (by decide) ?_
  refine a_iast dX12_init_581 (fun h137 => ?_)
  refine a_dup dX12_init_582 rfl ?_
  refine a_bipush (v := 8) dX12_init_583 (by decide) ?_
  refine a_bipush (v := 32) dX12_init_585 (by decide) ?_
  refine a_iast dX12_init_587 (fun h138 => ?_)
  refine a_dup dX12_init_588 rfl ?_
  refine a_bipush (v := 9) dX12_init_589 (by decide) ?_
  refine a_iconst (v := 0) dX12_init_591 (by decide) ?_
  refine a_iast dX12_init_592 (fun h139 => ?_)
  refine a_dup dX12_init_593 rfl ?_
  refine a_bipush (v := 10) dX12_init_594 (by decide) ?_
  refine a_bipush (v := 114) dX12_init_596 (by decide) ?_
  refine a_iast dX12_init_598 (fun h140 => ?_)
  refine a_dup dX12_init_599 rfl ?_
  refine a_bipush (v := 11) dX12_init_600 (by decide) ?_
  refine a_bipush (v := 97) dX12_init_602 (by decide) ?_
  refine a_iast dX12_init_604 (fun h141 => ?_)
  refine a_dup dX12_init_605 rfl ?_
  refine a_bipush (v := 12) dX12_init_606 (by decide) ?_
  refine a_bipush (v := 116) dX12_init_608 (by decide) ?_
  refine a_iast dX12_init_610 (fun h142 => ?_)
  refine a_dup dX12_init_611 rfl ?_
  refine a_bipush (v := 13) dX12_init_612 (by decide) ?_
  refine a_bipush (v := 101) dX12_init_614 (by decide) ?_
  refine a_iast dX12_init_616 (fun h143 => ?_)
  refine a_dup dX12_init_617 rfl ?_
  refine a_bipush (v := 14) dX12_init_618 (by decide) ?_
  refine a_bipush (v := 32) dX12_init_620 (by decide) ?_
  refine a_iast dX12_init_622 (fun h144 => ?_)
  refine a_dup dX12_init_623 rfl ?_
  refine a_bipush (v := 15) dX12_init_624 (by decide) ?_
  refine a_iconst (v := 0) dX12_init_626 (by decide) ?_
  refine a_iast dX12_init_627 (fun h145 => ?_)
  refine a_dup dX12_init_628 rfl ?_
  refine a_bipush (v := 16) dX12_init_629 (by decide) ?_
  refine a_bipush (v := 32) dX12_init_631 (by decide) ?_
  refine a_iast dX12_init_633 (fun h146 => ?_)
  refine a_dup dX12_init_634 rfl ?_
  refine a_bipush (v := 17) dX12_init_635 (by decide) ?_
  refine a_bipush (v := 112) dX12_init_637 (by decide) ?_
  refine a_iast dX12_init_639 (fun h147 => ?_)
  refine a_dup dX12_init_640 rfl ?_
  refine a_bipush (v := 18) dX12_init_641 (by decide) ?_
  refine a_bipush (v := 101) dX12_init_643 (by decide) ?_
  refine a_iast dX12_init_645 (fun h148 => ?_)
  refine a_dup dX12_init_646 rfl ?_
  refine a_bipush (v := 19) dX12_init_647 (by decide) ?_
  refine a_bipush (v := 114) dX12_init_649 (by decide) ?_
  refine a_iast dX12_init_651 (fun h149 => ?_)
  refine a_dup dX12_init_652 rfl ?_
  refine a_bipush (v := 20) dX12_init_653 (by decide) ?_
  refine a_bipush (v := 32) dX12_init_655 (by decide) ?_
  refine a_iast dX12_init_657 (fun h150 => ?_)
  refine a_dup dX12_init_658 rfl ?_
  refine a_bipush (v := 21) dX12_init_659 (by decide) ?_
  refine a_iconst (v := 0) dX12_init_661 (by decide) ?_
  refine a_iast dX12_init_662 (fun h151 => ?_)
  refine a_dup dX12_init_663 rfl ?_
  refine a_bipush (v := 22) dX12_init_664 (by decide) ?_
  refine a_bipush (v := 32) dX12_init_666 (by decide) ?_
  refine a_iast dX12_init_668 (fun h152 => ?_)
  refine a_dup dX12_init_669 rfl ?_
  refine a_bipush (v := 23) dX12_init_670 (by decide) ?_
  refine a_bipush (v := 98) dX12_init_672 (by decide) ?_
  refine a_iast dX12_init_674 (fun h153 => ?_)
  refine a_dup dX12_init_675 rfl ?_
  refine a_bipush (v := 24) dX12_init_676 (by decide) ?_
  refine a_bipush (v := 101) dX12_init_678 (by decide) ?_
  refine a_iast dX12_init_680 (fun h154 => ?_)
  refine a_dup dX12_init_681 rfl ?_
  refine a_bipush (v := 25) dX12_init_682 (by decide) ?_
  refine a_bipush (v := 108) dX12_init_684 (by decide) ?_
  refine a_iast dX12_init_686 (fun h155 => ?_)
  refine a_dup dX12_init_687 rfl ?_
  refine a_bipush (v := 26) dX12_init_688 (by decide) ?_
  refine a_bipush (v := 111) dX12_init_690 (by decide) ?_
  refine a_iast dX12_init_692 (fun h156 => ?_)
  refine a_dup dX12_init_693 rfl ?_
  refine a_bipush (v := 27) dX12_init_694 (by decide) ?_
  refine a_bipush (v := 119) dX12_init_696 (by decide) ?_
  refine a_iast dX12_init_698 (fun h157 => ?_)
  refine a_dup dX12_init_699 rfl ?_
  refine a_bipush (v := 28) dX12_init_700 (by decide) ?_
  refine a_bipush (v := 32) dX12_init_702 (by decide) ?_
  refine a_iast dX12_init_704 (fun h158 => ?_)
  refine a_dup dX12_init_705 rfl ?_
  refine a_bipush (v := 29) dX12_init_706 (by decide) ?_
  refine a_iconst (v := 0) dX12_init_708 (by decide) ?_
  refine a_iast dX12_init_709 (fun h159 => ?_)
  refine a_dup dX12_init_710 rfl ?_
  refine a_bipush (v := 30) dX12_init_711 (by decide) ?_
  refine a_bipush (v := 32) dX12_init_713 (by decide) ?_
  refine a_iast dX12_init_715 (fun h160 => ?_)
  refine a_dup dX12_init_716 rfl ?_
  refine a_bipush (v := 31) dX12_init_717 (by decide) ?_
  refine a_bipush (v := 111) dX12_init_719 (by decide) ?_
  refine a_iast dX12_init_721 (fun h161 => ?_)
  refine a_dup dX12_init_722 rfl ?_
  refine a_bipush (v := 32) dX12_init_723 (by decide) ?_
  refine a_bipush (v := 102) dX12_init_725 (by decide) ?_
  refine a_iast dX12_init_727 (fun h162 => ?_)
  refine a_dup dX12_init_728 rfl ?_
  refine a_bipush (v := 33) dX12_init_729 (by decide) ?_
  refine a_bipush (v := 32) dX12_init_731 (by decide) ?_
  refine a_iast dX12_init_733 (fun h163 => ?_)
  refine a_dup dX12_init_734 rfl ?_
  refine a_bipush (v := 34) dX12_init_735 (by decide) ?_
  refine a_bipush (v := 115) dX12_init_737 (by decide) ?_
  refine a_iast dX12_init_739 (fun h164 => ?_)
  refine a_dup dX12_init_740 rfl ?_
  refine a_bipush (v := 35) dX12_init_741 (by decide) ?_
  refine a_bipush (v := 117) dX12_init_743 (by decide) ?_
  refine a_iast dX12_init_745 (fun h165 => ?_)
  refine a_dup dX12_init_746 rfl ?_
  refine a_bipush (v := 36) dX12_init_747 (by decide) ?_
  refine a_bipush (v := 109) dX12_init_749 (by decide) ?_
  refine a_iast dX12_init_751 (fun h166 => ?_)
  refine a_dup dX12_init_752 rfl ?_
  refine a_bipush (v := 37) dX12_init_753 (by decide) ?_
  refine a_bipush (v := 32) dX12_init_755 (by decide) ?_
  refine a_iast dX12_init_757 (fun h167 => ?_)
  refine a_dup dX12_init_758 rfl ?_
  refine a_bipush (v := 38) dX12_init_759 (by decide) ?_
  refine a_iconst (v := 0) dX12_init_761 (by decide) ?_
  refine a_iast dX12_init_762 (fun h168 => ?_)
  refine a_dup dX12_init_763 rfl ?_
  refine a_bipush (v := 39) dX12_init_764 (by decide) ?_
  refine a_bipush (v := 32) dX12_init_766 (by decide) ?_
  refine a_iast dX12_init_768 (fun h169 => ?_)
  refine a_dup dX12_init_769 rfl ?_
  refine a_bipush (v := 40) dX12_init_770 (by decide) ?_
  refine a_bipush (v := 116) dX12_init_772 (by decide) ?_
  refine a_iast dX12_init_774 (fun h170 => ?_)
  refine a_dup dX12_init_775 rfl ?_
  refine a_bipush (v := 41) dX12_init_776 (by decide) ?_
  refine a_bipush (v := 111) dX12_init_778 (by decide) ?_
  refine a_iast dX12_init_780 (fun h171 => ?_)
  refine a_dup dX12_init_781 rfl ?_
  refine a_bipush (v := 42) dX12_init_782 (by decide) ?_
  refine a_bipush (v := 32) dX12_init_784 (by decide) ?_
  refine a_iast dX12_init_786 (fun h172 => ?_)
  refine a_dup dX12_init_787 rfl ?_
  refine a_bipush (v := 43) dX12_init_788 (by decide) ?_
  refine a_iconst (v := 0) dX12_init_790 (by decide) ?_
  refine a_iast dX12_init_791 (fun h173 => ?_)
  refine a_dup dX12_init_792 rfl ?_
  refine a_bipush (v := 44) dX12_init_793 (by decide) ?_
  refine a_bipush (v := 32) dX12_init_795 (by decide) ?_
  refine a_iast dX12_init_797 (fun h174 => ?_)
  refine a_dup dX12_init_798 rfl ?_
  refine a_bipush (v := 45) dX12_init_799 (by decide) ?_
  refine a_bipush (v := 109) dX12_init_801 (by decide) ?_
  refine a_iast dX12_init_803 (fun h175 => ?_)
  refine a_dup dX12_init_804 rfl ?_
  refine a_bipush (v := 46) dX12_init_805 (by decide) ?_
  refine a_bipush (v := 97) dX12_init_807 (by decide) ?_
  refine a_iast dX12_init_809 (fun h176 => ?_)
  refine a_dup dX12_init_810 rfl ?_
  refine a_bipush (v := 47) dX12_init_811 (by decide) ?_
  refine a_bipush (v := 120) dX12_init_813 (by decide) ?_
  refine a_iast dX12_init_815 (fun h177 => ?_)
  refine a_dup dX12_init_816 rfl ?_
  refine a_bipush (v := 48) dX12_init_817 (by decide) ?_
  refine a_bipush (v := 32) dX12_init_819 (by decide) ?_
  refine a_iast dX12_init_821 (fun h178 => ?_)
  refine a_dup dX12_init_822 rfl ?_
  refine a_bipush (v := 49) dX12_init_823 (by decide) ?_
  refine a_iconst (v := 0) dX12_init_825 (by decide) ?_
  refine a_iast dX12_init_826 (fun h179 => ?_)
  refine a_dup dX12_init_827 rfl ?_
  refine a_bipush (v := 50) dX12_init_828 (by decide) ?_
  refine a_bipush (v := 115) dX12_init_830 (by decide) ?_
  refine a_iast dX12_init_832 (fun h180 => ?_)
  refine a_dup dX12_init_833 rfl ?_
  refine a_bipush (v := 51) dX12_init_834 (by decide) ?_
  refine a_bipush (v := 117) dX12_init_836 (by decide) ?_
  refine a_iast dX12_init_838 (fun h181 => ?_)
  refine a_dup dX12_init_839 rfl ?_
  refine a_bipush (v := 52) dX12_init_840 (by decide) ?_
  refine a_bipush (v := 109) dX12_init_842 (by decide) ?_
  refine a_iast dX12_init_844 (fun h182 => ?_)
  refine a_dup dX12_init_845 rfl ?_
  refine a_bipush (v := 53) dX12_init_846 (by decide) ?_
  refine a_bipush (v := 32) dX12_init_848 (by decide) ?_
  refine a_iast dX12_init_850 (fun h183 => ?_)
  refine a_dup dX12_init_851 rfl ?_
  refine a_bipush (v := 54) dX12_init_852 (by decide) ?_
  refine a_iconst (v := 0) dX12_init_854 (by decide) ?_
  refine a_iast dX12_init_855 (fun h184 => ?_)
  refine a_dup dX12_init_856 rfl ?_
  refine a_bipush (v := 55) dX12_init_857 (by decide) ?_
  refine a_bipush (v := 100) dX12_init_859 (by decide) ?_
  refine a_iast dX12_init_861 (fun h185 => ?_)
  refine a_dup dX12_init_862 rfl ?_
  refine a_bipush (v := 56) dX12_init_863 (by decide) ?_
  refine a_bipush (v := 114) dX12_init_865 (by decide) ?_
  refine a_iast dX12_init_867 (fun h186 => ?_)
  refine a_dup dX12_init_868 rfl ?_
  refine a_bipush (v := 57) dX12_init_869 (by decide) ?_
  refine a_bipush (v := 121) dX12_init_871 (by decide) ?_
  refine a_iast dX12_init_873 (fun h187 => ?_)
  refine a_dup dX12_init_874 rfl ?_
  refine a_bipush (v := 58) dX12_init_875 (by decide) ?_
  refine a_bipush (v := 32) dX12_init_877 (by decide) ?_
  refine a_iast dX12_init_879 (fun h188 => ?_)
  refine a_dup dX12_init_880 rfl ?_
  refine a_bipush (v := 59) dX12_init_881 (by decide) ?_
  refine a_iconst (v := 0) dX12_init_883 (by decide) ?_
  refine a_iast dX12_init_884 (fun h189 => ?_)
  refine a_dup dX12_init_885 rfl ?_
  refine a_bipush (v := 60) dX12_init_886 (by decide) ?_
  refine a_bipush (v := 103) dX12_init_888 (by decide) ?_
  refine a_iast dX12_init_890 (fun h190 => ?_)
  refine a_dup dX12_init_891 rfl ?_
  refine a_bipush (v := 61) dX12_init_892 (by decide) ?_
  refine a_bipush (v := 114) dX12_init_894 (by decide) ?_
  refine a_iast dX12_init_896 (fun h191 => ?_)
  refine a_dup dX12_init_897 rfl ?_
  refine a_bipush (v := 62) dX12_init_898 (by decide) ?_
  refine a_bipush (v := 101) dX12_init_900 (by decide) ?_
  refine a_iast dX12_init_902 (fun h192 => ?_)
  refine a_dup dX12_init_903 rfl ?_
  refine a_bipush (v := 63) dX12_init_904 (by decide) ?_
  refine a_bipush (v := 101) dX12_init_906 (by decide) ?_
  refine a_iast dX12_init_908 (fun h193 => ?_)
  refine a_dup dX12_init_909 rfl ?_
  refine a_bipush (v := 64) dX12_init_910 (by decide) ?_
  refine a_bipush (v := 110) dX12_init_912 (by decide) ?_
  refine a_iast dX12_init_914 (fun h194 => ?_)
  refine a_dup dX12_init_915 rfl ?_
  refine a_bipush (v := 65) dX12_init_916 (by decide) ?_
  refine a_bipush (v := 32) dX12_init_918 (by decide) ?_
  refine a_iast dX12_init_920 (fun h195 => ?_)
  refine a_dup dX12_init_921 rfl ?_
  refine a_bipush (v := 66) dX12_init_922 (by decide) ?_
  refine a_iconst (v := 0) dX12_init_924 (by decide) ?_
  refine a_iast dX12_init_925 (fun h196 => ?_)
  refine a_dup dX12_init_926 rfl ?_
  refine a_bipush (v := 67) dX12_init_927 (by decide) ?_
  refine a_bipush (v := 119) dX12_init_929 (by decide) ?_
  refine a_iast dX12_init_931 (fun h197 => ?_)
  refine a_dup dX12_init_932 rfl ?_
  refine a_bipush (v := 68) dX12_init_933 (by decide) ?_
  refine a_bipush (v := 101) dX12_init_935 (by decide) ?_
  refine a_iast dX12_init_937 (fun h198 => ?_)
  refine a_dup dX12_init_938 rfl ?_
  refine a_bipush (v := 69) dX12_init_939 (by decide) ?_
  refine a_bipush (v := 101) dX12_init_941 (by decide) ?_
  refine a_iast dX12_init_943 (fun h199 => ?_)
  refine a_dup dX12_init_944 rfl ?_
  refine a_bipush (v := 70) dX12_init_945 (by decide) ?_
  refine a_bipush (v := 107) dX12_init_947 (by decide) ?_
  refine a_iast dX12_init_949 (fun h200 => ?_)
  refine a_dup dX12_init_950 rfl ?_
  refine a_bipush (v := 71) dX12_init_951 (by decide) ?_
  refine a_bipush (v := 32) dX12_init_953 (by decide) ?_
  refine a_iast dX12_init_955 (fun h201 => ?_)
  refine a_dup dX12_init_956 rfl ?_
  refine a_bipush (v := 72) dX12_init_957 (by decide) ?_
  refine a_iconst (v := 0) dX12_init_959 (by decide) ?_
  refine a_iast dX12_init_960 (fun h202 => ?_)
  refine a_dup dX12_init_961 rfl ?_
  refine a_bipush (v := 73) dX12_init_962 (by decide) ?_
  refine a_bipush (v := 32) dX12_init_964 (by decide) ?_
  refine a_iast dX12_init_966 (fun h203 => ?_)
  refine a_dup dX12_init_967 rfl ?_
  refine a_bipush (v := 74) dX12_init_968 (by decide) ?_
  refine a_bipush (v := 97) dX12_init_970 (by decide) ?_
  refine a_iast dX12_init_972 (fun h204 => ?_)
  refine a_dup dX12_init_973 rfl ?_
  refine a_bipush (v := 75) dX12_init_974 (by decide) ?_
  refine a_bipush (v := 110) dX12_init_976 (by decide) ?_
  refine a_iast dX12_init_978 (fun h205 => ?_)
  refine a_dup dX12_init_979 rfl ?_
  refine a_bipush (v := 76) dX12_init_980 (by decide) ?_
  refine a_bipush (v := 100) dX12_init_982 (by decide) ?_
  refine a_iast dX12_init_984 (fun h206 => ?_)
  refine a_dup dX12_init_985 rfl ?_
  refine a_bipush (v := 77) dX12_init_986 (by decide) ?_
  refine a_bipush (v := 32) dX12_init_988 (by decide) ?_
  refine a_iast dX12_init_990 (fun h207 => ?_)
  refine a_dup dX12_init_991 rfl ?_
  refine a_bipush (v := 78) dX12_init_992 (by decide) ?_
  refine a_iconst (v := 0) dX12_init_994 (by decide) ?_
  refine a_iast dX12_init_995 (fun h208 => ?_)
  refine a_putrF kc13 71 dX12_init_996 (by decide) rfl w_fieldLink_RainCoverModel_185 (fun _ => ⟨rfl, rfl⟩) rfl rfl rfl (fun h209 => ?_)
  refine a_aload_n dX12_init_999 rfl 0 rfl ?_
  refine a_bipush (v := 12) dX12_init_1000 (by decide) ?_
  refine a_puti kc13 73 dX12_init_1002 (by decide) rfl w_fieldLink_RainCoverModel_188 rfl rfl (fun h210 => ?_)
  refine a_aload_n dX12_init_1005 rfl 0 rfl ?_
  refine a_bipush (v := 16) dX12_init_1006 (by decide) ?_
  refine a_newa_int (r := (x0 + 74)) [x0, x0] rfl dX12_init_1008 w_arrayClass_int (by decide) (by decide) (fun h211 => ?_)
  refine a_widen 58 9333 (by decide) (by decide) ?_
  refine a_putrF kc13 74 dX12_init_1010 (by decide) rfl w_fieldLink_RainCoverModel_191 (fun _ => ⟨rfl, rfl⟩) rfl rfl rfl (fun h212 => ?_)
  refine a_aload_n dX12_init_1013 rfl 0 rfl ?_
  refine a_bipush (v := 16) dX12_init_1014 (by decide) ?_
  refine a_newa_int (r := (x0 + 75)) [x0, x0] rfl dX12_init_1016 w_arrayClass_int (by decide) (by decide) (fun h213 => ?_)
  refine a_widen 59 9349 (by decide) (by decide) ?_
  refine a_putrF kc13 75 dX12_init_1018 (by decide) rfl w_fieldLink_RainCoverModel_194 (fun _ => ⟨rfl, rfl⟩) rfl rfl rfl (fun h214 => ?_)
  refine a_aload_n dX12_init_1021 rfl 0 rfl ?_
  refine a_bipush (v := 40) dX12_init_1022 (by decide) ?_
  refine a_newa_int (r := (x0 + 76)) [x0, x0] rfl dX12_init_1024 w_arrayClass_int (by decide) (by decide) (fun h215 => ?_)
  refine a_widen 60 9389 (by decide) (by decide) ?_
  refine a_putrF kc13 76 dX12_init_1026 (by decide) rfl w_fieldLink_RainCoverModel_197 (fun _ => ⟨rfl, rfl⟩) rfl rfl rfl (fun h216 => ?_)
  refine a_aload_n dX12_init_1029 rfl 0 rfl ?_
  refine a_iconst (v := 0) dX12_init_1030 (by decide) ?_
  refine a_cV_Sv (r := x0) (ci := 13) (as := [.int 0]) (st := []) dX12_init_1031 (c_X12_clears l g h216 N x0 0) rfl km_X12_clears (hm_X12_clears) rfl (by decide) rfl (fun _ ee => g_X12_clears ee) w_methodLink_RainCoverModel_200 w_instanceMethod_RainCoverModel_clears__I_V w_selects_RainCoverModel_RainCoverModel_clears__I_V_RainCoverModel_clears__I_V ⟨⟨by decide, by decide⟩, ⟨by decide, by decide⟩⟩ (Nat.le_of_ble_eq_true rfl) (fun q217 => ?_)
  exact a_vret dX12_init_1034 rfl rfl (by decide) (by decide)
set_option maxRecDepth 100000 in
set_option maxHeartbeats 4000000 in
theorem t_X12_init_b457 (h0 : AH) (N : Nat) (h : AH) (x0 : Nat) : AO l g M_X12_init true h0 457 [(0, .ref x0)] [] h 48 8932 rSv (f_X12_init_b457 N  h x0) := by
  unfold f_X12_init_b457
  refine a_aload_n dX12_init_457 rfl 0 rfl ?_
  refine a_bipush (v := 20) dX12_init_458 (by decide) ?_
  refine a_newa_int (r := (x0 + 58)) [x0, x0] rfl dX12_init_460 w_arrayClass_int (by decide) (by decide) (fun h109 => ?_)
  refine a_widen 49 8952 (by decide) (by decide) ?_
  refine a_putrF kc13 58 dX12_init_462 (by decide) rfl w_fieldLink_RainCoverModel_157 (fun _ => ⟨rfl, rfl⟩) rfl rfl rfl (fun h110 => ?_)
  refine a_aload_n dX12_init_465 rfl 0 rfl ?_
  refine a_bipush (v := 20) dX12_init_466 (by decide) ?_
  refine a_newa_int (r := (x0 + 59)) [x0, x0] rfl dX12_init_468 w_arrayClass_int (by decide) (by decide) (fun h111 => ?_)
  refine a_widen 50 8972 (by decide) (by decide) ?_
  refine a_putrF kc13 59 dX12_init_470 (by decide) rfl w_fieldLink_RainCoverModel_160 (fun _ => ⟨rfl, rfl⟩) rfl rfl rfl (fun h112 => ?_)
  refine a_aload_n dX12_init_473 rfl 0 rfl ?_
  refine a_bipush (v := 20) dX12_init_474 (by decide) ?_
  refine a_newa_int (r := (x0 + 60)) [x0, x0] rfl dX12_init_476 w_arrayClass_int (by decide) (by decide) (fun h113 => ?_)
  refine a_widen 51 8992 (by decide) (by decide) ?_
  refine a_putrF kc13 60 dX12_init_478 (by decide) rfl w_fieldLink_RainCoverModel_163 (fun _ => ⟨rfl, rfl⟩) rfl rfl rfl (fun h114 => ?_)
  refine a_aload_n dX12_init_481 rfl 0 rfl ?_
  refine a_iconst (v := 1) dX12_init_482 (by decide) ?_
  refine a_puti kc13 61 dX12_init_483 (by decide) rfl w_fieldLink_RainCoverModel_166 rfl rfl (fun h115 => ?_)
  refine a_aload_n dX12_init_486 rfl 0 rfl ?_
  refine a_bipush (v := 100) dX12_init_487 (by decide) ?_
  refine a_newa_int (r := (x0 + 62)) [x0, x0] rfl dX12_init_489 w_arrayClass_int (by decide) (by decide) (fun h116 => ?_)
  refine a_widen 52 9092 (by decide) (by decide) ?_
  refine a_putrF kc13 62 dX12_init_491 (by decide) rfl w_fieldLink_RainCoverModel_170 (fun _ => ⟨rfl, rfl⟩) rfl rfl rfl (fun h117 => ?_)
  refine a_aload_n dX12_init_494 rfl 0 rfl ?_
  refine a_bipush (v := 20) dX12_init_495 (by decide) ?_
  refine a_newa_int (r := (x0 + 65)) [x0, x0] rfl dX12_init_497 w_arrayClass_int (by decide) (by decide) (fun h118 => ?_)
  refine a_widen 53 9112 (by decide) (by decide) ?_
  refine a_putrF kc13 65 dX12_init_499 (by decide) rfl w_fieldLink_RainCoverModel_173 (fun _ => ⟨rfl, rfl⟩) rfl rfl rfl (fun h119 => ?_)
  refine a_aload_n dX12_init_502 rfl 0 rfl ?_
  refine a_iconst (v := 3) dX12_init_503 (by decide) ?_
  refine a_newa_int (r := (x0 + 66)) [x0, x0] rfl dX12_init_504 w_arrayClass_int (by decide) (by decide) (fun h120 => ?_)
  refine a_widen 54 9115 (by decide) (by decide) ?_
  refine a_dup dX12_init_506 rfl ?_
  refine a_iconst (v := 0) dX12_init_507 (by decide) ?_
  refine a_iconst (v := (-1)) dX12_init_508 (by decide) ?_
  refine a_iast dX12_init_509 (fun h121 => ?_)
  refine a_dup dX12_init_510 rfl ?_
  refine a_iconst (v := 1) dX12_init_511 (by decide) ?_
  refine a_iconst (v := (-1)) dX12_init_512 (by decide) ?_
  refine a_iast dX12_init_513 (fun h122 => ?_)
  refine a_dup dX12_init_514 rfl ?_
  refine a_iconst (v := 2) dX12_init_515 (by decide) ?_
  refine a_iconst (v := (-1)) dX12_init_516 (by decide) ?_
  refine a_iast dX12_init_517 (fun h123 => ?_)
  refine a_putrF kc13 66 dX12_init_518 (by decide) rfl w_fieldLink_RainCoverModel_176 (fun _ => ⟨rfl, rfl⟩) rfl rfl rfl (fun h124 => ?_)
  refine a_aload_n dX12_init_521 rfl 0 rfl ?_
  refine a_iconst (v := 3) dX12_init_522 (by decide) ?_
  refine a_newa_int (r := (x0 + 67)) [x0, x0] rfl dX12_init_523 w_arrayClass_int (by decide) (by decide) (fun h125 => ?_)
  refine a_widen 55 9118 (by decide) (by decide) ?_
  refine a_putrF kc13 67 dX12_init_525 (by decide) rfl w_fieldLink_RainCoverModel_179 (fun _ => ⟨rfl, rfl⟩) rfl rfl rfl (fun h126 => ?_)
  exact t_X12_init_b528 h0 N h126 x0
set_option maxRecDepth 100000 in
set_option maxHeartbeats 4000000 in
theorem t_X12_init_b389 (h0 : AH) (N : Nat) (h : AH) (x0 : Nat) : AO l g M_X12_init true h0 389 [(0, .ref x0)] [] h 40 8076 rSv (f_X12_init_b389 N  h x0) := by
  unfold f_X12_init_b389
  refine a_aload_n dX12_init_389 rfl 0 rfl ?_
  refine a_bipush (v := 8) dX12_init_390 (by decide) ?_
  refine a_newa_int (r := (x0 + 47)) [x0, x0] rfl dX12_init_392 w_arrayClass_int (by decide) (by decide) (fun h93 => ?_)
  refine a_widen 41 8084 (by decide) (by decide) ?_
  refine a_putrF kc13 47 dX12_init_394 (by decide) rfl w_fieldLink_RainCoverModel_133 (fun _ => ⟨rfl, rfl⟩) rfl rfl rfl (fun h94 => ?_)
  refine a_aload_n dX12_init_397 rfl 0 rfl ?_
  refine a_bipush (v := 8) dX12_init_398 (by decide) ?_
  refine a_newa_int (r := (x0 + 48)) [x0, x0] rfl dX12_init_400 w_arrayClass_int (by decide) (by decide) (fun h95 => ?_)
  refine a_widen 42 8092 (by decide) (by decide) ?_
  refine a_putrF kc13 48 dX12_init_402 (by decide) rfl w_fieldLink_RainCoverModel_136 (fun _ => ⟨rfl, rfl⟩) rfl rfl rfl (fun h96 => ?_)
  refine a_aload_n dX12_init_405 rfl 0 rfl ?_
  refine a_sipush (v := 200) dX12_init_406 (by decide) ?_
  refine a_newa_int (r := (x0 + 50)) [x0, x0] rfl dX12_init_409 w_arrayClass_int (by decide) (by decide) (fun h97 => ?_)
  refine a_widen 43 8292 (by decide) (by decide) ?_
  refine a_putrF kc13 50 dX12_init_411 (by decide) rfl w_fieldLink_RainCoverModel_139 (fun _ => ⟨rfl, rfl⟩) rfl rfl rfl (fun h98 => ?_)
  refine a_aload_n dX12_init_414 rfl 0 rfl ?_
  refine a_sipush (v := 200) dX12_init_415 (by decide) ?_
  refine a_newa_int (r := (x0 + 51)) [x0, x0] rfl dX12_init_418 w_arrayClass_int (by decide) (by decide) (fun h99 => ?_)
  refine a_widen 44 8492 (by decide) (by decide) ?_
  refine a_putrF kc13 51 dX12_init_420 (by decide) rfl w_fieldLink_RainCoverModel_142 (fun _ => ⟨rfl, rfl⟩) rfl rfl rfl (fun h100 => ?_)
  refine a_aload_n dX12_init_423 rfl 0 rfl ?_
  refine a_sipush (v := 200) dX12_init_424 (by decide) ?_
  refine a_newa_int (r := (x0 + 52)) [x0, x0] rfl dX12_init_427 w_arrayClass_int (by decide) (by decide) (fun h101 => ?_)
  refine a_widen 45 8692 (by decide) (by decide) ?_
  refine a_putrF kc13 52 dX12_init_429 (by decide) rfl w_fieldLink_RainCoverModel_145 (fun _ => ⟨rfl, rfl⟩) rfl rfl rfl (fun h102 => ?_)
  refine a_aload_n dX12_init_432 rfl 0 rfl ?_
  refine a_sipush (v := 200) dX12_init_433 (by decide) ?_
  refine a_newa_int (r := (x0 + 53)) [x0, x0] rfl dX12_init_436 w_arrayClass_int (by decide) (by decide) (fun h103 => ?_)
  refine a_widen 46 8892 (by decide) (by decide) ?_
  refine a_putrF kc13 53 dX12_init_438 (by decide) rfl w_fieldLink_RainCoverModel_148 (fun _ => ⟨rfl, rfl⟩) rfl rfl rfl (fun h104 => ?_)
  refine a_aload_n dX12_init_441 rfl 0 rfl ?_
  refine a_bipush (v := 20) dX12_init_442 (by decide) ?_
  refine a_newa_int (r := (x0 + 56)) [x0, x0] rfl dX12_init_444 w_arrayClass_int (by decide) (by decide) (fun h105 => ?_)
  refine a_widen 47 8912 (by decide) (by decide) ?_
  refine a_putrF kc13 56 dX12_init_446 (by decide) rfl w_fieldLink_RainCoverModel_151 (fun _ => ⟨rfl, rfl⟩) rfl rfl rfl (fun h106 => ?_)
  refine a_aload_n dX12_init_449 rfl 0 rfl ?_
  refine a_bipush (v := 20) dX12_init_450 (by decide) ?_
  refine a_newa_int (r := (x0 + 57)) [x0, x0] rfl dX12_init_452 w_arrayClass_int (by decide) (by decide) (fun h107 => ?_)
  refine a_widen 48 8932 (by decide) (by decide) ?_
  refine a_putrF kc13 57 dX12_init_454 (by decide) rfl w_fieldLink_RainCoverModel_154 (fun _ => ⟨rfl, rfl⟩) rfl rfl rfl (fun h108 => ?_)
  exact t_X12_init_b457 h0 N h108 x0
set_option maxRecDepth 100000 in
set_option maxHeartbeats 4000000 in
theorem t_X12_init_b325 (h0 : AH) (N : Nat) (h : AH) (x0 : Nat) : AO l g M_X12_init true h0 325 [(0, .ref x0)] [] h 32 7516 rSv (f_X12_init_b325 N  h x0) := by
  unfold f_X12_init_b325
  refine a_aload_n dX12_init_325 rfl 0 rfl ?_
  refine a_bipush (v := 60) dX12_init_326 (by decide) ?_
  refine a_newa_int (r := (x0 + 37)) [x0, x0] rfl dX12_init_328 w_arrayClass_int (by decide) (by decide) (fun h77 => ?_)
  refine a_widen 33 7576 (by decide) (by decide) ?_
  refine a_putrF kc13 37 dX12_init_330 (by decide) rfl w_fieldLink_RainCoverModel_109 (fun _ => ⟨rfl, rfl⟩) rfl rfl rfl (fun h78 => ?_)
  refine a_aload_n dX12_init_333 rfl 0 rfl ?_
  refine a_bipush (v := 60) dX12_init_334 (by decide) ?_
  refine a_newa_int (r := (x0 + 38)) [x0, x0] rfl dX12_init_336 w_arrayClass_int (by decide) (by decide) (fun h79 => ?_)
  refine a_widen 34 7636 (by decide) (by decide) ?_
  refine a_putrF kc13 38 dX12_init_338 (by decide) rfl w_fieldLink_RainCoverModel_112 (fun _ => ⟨rfl, rfl⟩) rfl rfl rfl (fun h80 => ?_)
  refine a_aload_n dX12_init_341 rfl 0 rfl ?_
  refine a_bipush (v := 60) dX12_init_342 (by decide) ?_
  refine a_newa_int (r := (x0 + 39)) [x0, x0] rfl dX12_init_344 w_arrayClass_int (by decide) (by decide) (fun h81 => ?_)
  refine a_widen 35 7696 (by decide) (by decide) ?_
  refine a_putrF kc13 39 dX12_init_346 (by decide) rfl w_fieldLink_RainCoverModel_115 (fun _ => ⟨rfl, rfl⟩) rfl rfl rfl (fun h82 => ?_)
  refine a_aload_n dX12_init_349 rfl 0 rfl ?_
  refine a_bipush (v := 60) dX12_init_350 (by decide) ?_
  refine a_newa_int (r := (x0 + 40)) [x0, x0] rfl dX12_init_352 w_arrayClass_int (by decide) (by decide) (fun h83 => ?_)
  refine a_widen 36 7756 (by decide) (by decide) ?_
  refine a_putrF kc13 40 dX12_init_354 (by decide) rfl w_fieldLink_RainCoverModel_118 (fun _ => ⟨rfl, rfl⟩) rfl rfl rfl (fun h84 => ?_)
  refine a_aload_n dX12_init_357 rfl 0 rfl ?_
  refine a_bipush (v := 80) dX12_init_358 (by decide) ?_
  refine a_newa_int (r := (x0 + 42)) [x0, x0] rfl dX12_init_360 w_arrayClass_int (by decide) (by decide) (fun h85 => ?_)
  refine a_widen 37 7836 (by decide) (by decide) ?_
  refine a_putrF kc13 42 dX12_init_362 (by decide) rfl w_fieldLink_RainCoverModel_121 (fun _ => ⟨rfl, rfl⟩) rfl rfl rfl (fun h86 => ?_)
  refine a_aload_n dX12_init_365 rfl 0 rfl ?_
  refine a_bipush (v := 80) dX12_init_366 (by decide) ?_
  refine a_newa_int (r := (x0 + 43)) [x0, x0] rfl dX12_init_368 w_arrayClass_int (by decide) (by decide) (fun h87 => ?_)
  refine a_widen 38 7916 (by decide) (by decide) ?_
  refine a_putrF kc13 43 dX12_init_370 (by decide) rfl w_fieldLink_RainCoverModel_124 (fun _ => ⟨rfl, rfl⟩) rfl rfl rfl (fun h88 => ?_)
  refine a_aload_n dX12_init_373 rfl 0 rfl ?_
  refine a_bipush (v := 80) dX12_init_374 (by decide) ?_
  refine a_newa_int (r := (x0 + 44)) [x0, x0] rfl dX12_init_376 w_arrayClass_int (by decide) (by decide) (fun h89 => ?_)
  refine a_widen 39 7996 (by decide) (by decide) ?_
  refine a_putrF kc13 44 dX12_init_378 (by decide) rfl w_fieldLink_RainCoverModel_127 (fun _ => ⟨rfl, rfl⟩) rfl rfl rfl (fun h90 => ?_)
  refine a_aload_n dX12_init_381 rfl 0 rfl ?_
  refine a_bipush (v := 80) dX12_init_382 (by decide) ?_
  refine a_newa_int (r := (x0 + 45)) [x0, x0] rfl dX12_init_384 w_arrayClass_int (by decide) (by decide) (fun h91 => ?_)
  refine a_widen 40 8076 (by decide) (by decide) ?_
  refine a_putrF kc13 45 dX12_init_386 (by decide) rfl w_fieldLink_RainCoverModel_130 (fun _ => ⟨rfl, rfl⟩) rfl rfl rfl (fun h92 => ?_)
  exact t_X12_init_b389 h0 N h92 x0
set_option maxRecDepth 100000 in
set_option maxHeartbeats 4000000 in
theorem t_X12_init_b261 (h0 : AH) (N : Nat) (h : AH) (x0 : Nat) : AO l g M_X12_init true h0 261 [(0, .ref x0)] [] h 24 6984 rSv (f_X12_init_b261 N  h x0) := by
  unfold f_X12_init_b261
  refine a_aload_n dX12_init_261 rfl 0 rfl ?_
  refine a_bipush (v := 24) dX12_init_262 (by decide) ?_
  refine a_newa_int (r := (x0 + 28)) [x0, x0] rfl dX12_init_264 w_arrayClass_int (by decide) (by decide) (fun h61 => ?_)
  refine a_widen 25 7008 (by decide) (by decide) ?_
  refine a_putrF kc13 28 dX12_init_266 (by decide) rfl w_fieldLink_RainCoverModel_85 (fun _ => ⟨rfl, rfl⟩) rfl rfl rfl (fun h62 => ?_)
  refine a_aload_n dX12_init_269 rfl 0 rfl ?_
  refine a_bipush (v := 24) dX12_init_270 (by decide) ?_
  refine a_newa_int (r := (x0 + 29)) [x0, x0] rfl dX12_init_272 w_arrayClass_int (by decide) (by decide) (fun h63 => ?_)
  refine a_widen 26 7032 (by decide) (by decide) ?_
  refine a_putrF kc13 29 dX12_init_274 (by decide) rfl w_fieldLink_RainCoverModel_88 (fun _ => ⟨rfl, rfl⟩) rfl rfl rfl (fun h64 => ?_)
  refine a_aload_n dX12_init_277 rfl 0 rfl ?_
  refine a_bipush (v := 24) dX12_init_278 (by decide) ?_
  refine a_newa_int (r := (x0 + 30)) [x0, x0] rfl dX12_init_280 w_arrayClass_int (by decide) (by decide) (fun h65 => ?_)
  refine a_widen 27 7056 (by decide) (by decide) ?_
  refine a_putrF kc13 30 dX12_init_282 (by decide) rfl w_fieldLink_RainCoverModel_91 (fun _ => ⟨rfl, rfl⟩) rfl rfl rfl (fun h66 => ?_)
  refine a_aload_n dX12_init_285 rfl 0 rfl ?_
  refine a_bipush (v := 24) dX12_init_286 (by decide) ?_
  refine a_newa_int (r := (x0 + 31)) [x0, x0] rfl dX12_init_288 w_arrayClass_int (by decide) (by decide) (fun h67 => ?_)
  refine a_widen 28 7080 (by decide) (by decide) ?_
  refine a_putrF kc13 31 dX12_init_290 (by decide) rfl w_fieldLink_RainCoverModel_94 (fun _ => ⟨rfl, rfl⟩) rfl rfl rfl (fun h68 => ?_)
  refine a_aload_n dX12_init_293 rfl 0 rfl ?_
  refine a_bipush (v := 24) dX12_init_294 (by decide) ?_
  refine a_newa_int (r := (x0 + 32)) [x0, x0] rfl dX12_init_296 w_arrayClass_int (by decide) (by decide) (fun h69 => ?_)
  refine a_widen 29 7104 (by decide) (by decide) ?_
  refine a_putrF kc13 32 dX12_init_298 (by decide) rfl w_fieldLink_RainCoverModel_97 (fun _ => ⟨rfl, rfl⟩) rfl rfl rfl (fun h70 => ?_)
  refine a_aload_n dX12_init_301 rfl 0 rfl ?_
  refine a_bipush (v := 24) dX12_init_302 (by decide) ?_
  refine a_newa_int (r := (x0 + 33)) [x0, x0] rfl dX12_init_304 w_arrayClass_int (by decide) (by decide) (fun h71 => ?_)
  refine a_widen 30 7128 (by decide) (by decide) ?_
  refine a_putrF kc13 33 dX12_init_306 (by decide) rfl w_fieldLink_RainCoverModel_100 (fun _ => ⟨rfl, rfl⟩) rfl rfl rfl (fun h72 => ?_)
  refine a_aload_n dX12_init_309 rfl 0 rfl ?_
  refine a_sipush (v := 384) dX12_init_310 (by decide) ?_
  refine a_newa_int (r := (x0 + 34)) [x0, x0] rfl dX12_init_313 w_arrayClass_int (by decide) (by decide) (fun h73 => ?_)
  refine a_widen 31 7512 (by decide) (by decide) ?_
  refine a_putrF kc13 34 dX12_init_315 (by decide) rfl w_fieldLink_RainCoverModel_103 (fun _ => ⟨rfl, rfl⟩) rfl rfl rfl (fun h74 => ?_)
  refine a_aload_n dX12_init_318 rfl 0 rfl ?_
  refine a_iconst (v := 4) dX12_init_319 (by decide) ?_
  refine a_newa_int (r := (x0 + 35)) [x0, x0] rfl dX12_init_320 w_arrayClass_int (by decide) (by decide) (fun h75 => ?_)
  refine a_widen 32 7516 (by decide) (by decide) ?_
  refine a_putrF kc13 35 dX12_init_322 (by decide) rfl w_fieldLink_RainCoverModel_106 (fun _ => ⟨rfl, rfl⟩) rfl rfl rfl (fun h76 => ?_)
  exact t_X12_init_b325 h0 N h76 x0
set_option maxRecDepth 100000 in
set_option maxHeartbeats 4000000 in
theorem t_X12_init_b178 (h0 : AH) (N : Nat) (h : AH) (x0 : Nat) : AO l g M_X12_init true h0 178 [(0, .ref x0)] [] h 16 6788 rSv (f_X12_init_b178 N  h x0) := by
  unfold f_X12_init_b178
  refine a_aload_n dX12_init_178 rfl 0 rfl ?_
  refine a_bipush (v := 8) dX12_init_179 (by decide) ?_
  refine a_newa_int (r := (x0 + 19)) [x0, x0] rfl dX12_init_181 w_arrayClass_int (by decide) (by decide) (fun h41 => ?_)
  refine a_widen 17 6796 (by decide) (by decide) ?_
  refine a_putrF kc13 19 dX12_init_183 (by decide) rfl w_fieldLink_RainCoverModel_61 (fun _ => ⟨rfl, rfl⟩) rfl rfl rfl (fun h42 => ?_)
  refine a_aload_n dX12_init_186 rfl 0 rfl ?_
  refine a_bipush (v := 32) dX12_init_187 (by decide) ?_
  refine a_newa_int (r := (x0 + 20)) [x0, x0] rfl dX12_init_189 w_arrayClass_int (by decide) (by decide) (fun h43 => ?_)
  refine a_widen 18 6828 (by decide) (by decide) ?_
  refine a_putrF kc13 20 dX12_init_191 (by decide) rfl w_fieldLink_RainCoverModel_64 (fun _ => ⟨rfl, rfl⟩) rfl rfl rfl (fun h44 => ?_)
  refine a_aload_n dX12_init_194 rfl 0 rfl ?_
  refine a_bipush (v := 32) dX12_init_195 (by decide) ?_
  refine a_newa_int (r := (x0 + 21)) [x0, x0] rfl dX12_init_197 w_arrayClass_int (by decide) (by decide) (fun h45 => ?_)
  refine a_widen 19 6860 (by decide) (by decide) ?_
  refine a_putrF kc13 21 dX12_init_199 (by decide) rfl w_fieldLink_RainCoverModel_67 (fun _ => ⟨rfl, rfl⟩) rfl rfl rfl (fun h46 => ?_)
  refine a_aload_n dX12_init_202 rfl 0 rfl ?_
  refine a_bipush (v := 32) dX12_init_203 (by decide) ?_
  refine a_newa_int (r := (x0 + 22)) [x0, x0] rfl dX12_init_205 w_arrayClass_int (by decide) (by decide) (fun h47 => ?_)
  refine a_widen 20 6892 (by decide) (by decide) ?_
  refine a_putrF kc13 22 dX12_init_207 (by decide) rfl w_fieldLink_RainCoverModel_70 (fun _ => ⟨rfl, rfl⟩) rfl rfl rfl (fun h48 => ?_)
  refine a_aload_n dX12_init_210 rfl 0 rfl ?_
  refine a_bipush (v := 32) dX12_init_211 (by decide) ?_
  refine a_newa_int (r := (x0 + 23)) [x0, x0] rfl dX12_init_213 w_arrayClass_int (by decide) (by decide) (fun h49 => ?_)
  refine a_widen 21 6924 (by decide) (by decide) ?_
  refine a_putrF kc13 23 dX12_init_215 (by decide) rfl w_fieldLink_RainCoverModel_73 (fun _ => ⟨rfl, rfl⟩) rfl rfl rfl (fun h50 => ?_)
  refine a_aload_n dX12_init_218 rfl 0 rfl ?_
  refine a_bipush (v := 32) dX12_init_219 (by decide) ?_
  refine a_newa_boolean (r := (x0 + 24)) [x0, x0] rfl dX12_init_221 w_arrayClass_boolean (by decide) (by decide) (fun h51 => ?_)
  refine a_widen 22 6956 (by decide) (by decide) ?_
  refine a_putrF kc13 24 dX12_init_223 (by decide) rfl w_fieldLink_RainCoverModel_76 (fun _ => ⟨rfl, rfl⟩) rfl rfl rfl (fun h52 => ?_)
  refine a_aload_n dX12_init_226 rfl 0 rfl ?_
  refine a_iconst (v := 4) dX12_init_227 (by decide) ?_
  refine a_newa_int (r := (x0 + 25)) [x0, x0] rfl dX12_init_228 w_arrayClass_int (by decide) (by decide) (fun h53 => ?_)
  refine a_widen 23 6960 (by decide) (by decide) ?_
  refine a_dup dX12_init_230 rfl ?_
  refine a_iconst (v := 0) dX12_init_231 (by decide) ?_
  refine a_bipush (v := 100) dX12_init_232 (by decide) ?_
  refine a_iast dX12_init_234 (fun h54 => ?_)
  refine a_dup dX12_init_235 rfl ?_
  refine a_iconst (v := 1) dX12_init_236 (by decide) ?_
  refine a_bipush (v := 80) dX12_init_237 (by decide) ?_
  refine a_iast dX12_init_239 (fun h55 => ?_)
  refine a_dup dX12_init_240 rfl ?_
  refine a_iconst (v := 2) dX12_init_241 (by decide) ?_
  refine a_bipush (v := 120) dX12_init_242 (by decide) ?_
  refine a_iast dX12_init_244 (fun h56 => ?_)
  refine a_dup dX12_init_245 rfl ?_
  refine a_iconst (v := 3) dX12_init_246 (by decide) ?_
  refine a_bipush (v := 60) dX12_init_247 (by decide) ?_
  refine a_iast dX12_init_249 (fun h57 => ?_)
  refine a_putrF kc13 25 dX12_init_250 (by decide) rfl w_fieldLink_RainCoverModel_79 (fun _ => ⟨rfl, rfl⟩) rfl rfl rfl (fun h58 => ?_)
  refine a_aload_n dX12_init_253 rfl 0 rfl ?_
  refine a_bipush (v := 24) dX12_init_254 (by decide) ?_
  refine a_newa_int (r := (x0 + 27)) [x0, x0] rfl dX12_init_256 w_arrayClass_int (by decide) (by decide) (fun h59 => ?_)
  refine a_widen 24 6984 (by decide) (by decide) ?_
  refine a_putrF kc13 27 dX12_init_258 (by decide) rfl w_fieldLink_RainCoverModel_82 (fun _ => ⟨rfl, rfl⟩) rfl rfl rfl (fun h60 => ?_)
  exact t_X12_init_b261 h0 N h60 x0
set_option maxRecDepth 100000 in
set_option maxHeartbeats 4000000 in
theorem t_X12_init_b111 (h0 : AH) (N : Nat) (h : AH) (x0 : Nat) : AO l g M_X12_init true h0 111 [(0, .ref x0)] [] h 8 1440 rSv (f_X12_init_b111 N  h x0) := by
  unfold f_X12_init_b111
  refine a_aload_n dX12_init_111 rfl 0 rfl ?_
  refine a_sipush (v := 700) dX12_init_112 (by decide) ?_
  refine a_newa_int (r := (x0 + 10)) [x0, x0] rfl dX12_init_115 w_arrayClass_int (by decide) (by decide) (fun h25 => ?_)
  refine a_widen 9 2140 (by decide) (by decide) ?_
  refine a_putrF kc13 10 dX12_init_117 (by decide) rfl w_fieldLink_RainCoverModel_37 (fun _ => ⟨rfl, rfl⟩) rfl rfl rfl (fun h26 => ?_)
  refine a_aload_n dX12_init_120 rfl 0 rfl ?_
  refine a_sipush (v := 3072) dX12_init_121 (by decide) ?_
  refine a_newa_int (r := (x0 + 11)) [x0, x0] rfl dX12_init_124 w_arrayClass_int (by decide) (by decide) (fun h27 => ?_)
  refine a_widen 10 5212 (by decide) (by decide) ?_
  refine a_putrF kc13 11 dX12_init_126 (by decide) rfl w_fieldLink_RainCoverModel_40 (fun _ => ⟨rfl, rfl⟩) rfl rfl rfl (fun h28 => ?_)
  refine a_aload_n dX12_init_129 rfl 0 rfl ?_
  refine a_sipush (v := 1536) dX12_init_130 (by decide) ?_
  refine a_newa_int (r := (x0 + 12)) [x0, x0] rfl dX12_init_133 w_arrayClass_int (by decide) (by decide) (fun h29 => ?_)
  refine a_widen 11 6748 (by decide) (by decide) ?_
  refine a_putrF kc13 12 dX12_init_135 (by decide) rfl w_fieldLink_RainCoverModel_43 (fun _ => ⟨rfl, rfl⟩) rfl rfl rfl (fun h30 => ?_)
  refine a_aload_n dX12_init_138 rfl 0 rfl ?_
  refine a_bipush (v := 8) dX12_init_139 (by decide) ?_
  refine a_newa_boolean (r := (x0 + 14)) [x0, x0] rfl dX12_init_141 w_arrayClass_boolean (by decide) (by decide) (fun h31 => ?_)
  refine a_widen 12 6756 (by decide) (by decide) ?_
  refine a_putrF kc13 14 dX12_init_143 (by decide) rfl w_fieldLink_RainCoverModel_46 (fun _ => ⟨rfl, rfl⟩) rfl rfl rfl (fun h32 => ?_)
  refine a_aload_n dX12_init_146 rfl 0 rfl ?_
  refine a_bipush (v := 8) dX12_init_147 (by decide) ?_
  refine a_newa_int (r := (x0 + 15)) [x0, x0] rfl dX12_init_149 w_arrayClass_int (by decide) (by decide) (fun h33 => ?_)
  refine a_widen 13 6764 (by decide) (by decide) ?_
  refine a_putrF kc13 15 dX12_init_151 (by decide) rfl w_fieldLink_RainCoverModel_49 (fun _ => ⟨rfl, rfl⟩) rfl rfl rfl (fun h34 => ?_)
  refine a_aload_n dX12_init_154 rfl 0 rfl ?_
  refine a_bipush (v := 8) dX12_init_155 (by decide) ?_
  refine a_newa_int (r := (x0 + 16)) [x0, x0] rfl dX12_init_157 w_arrayClass_int (by decide) (by decide) (fun h35 => ?_)
  refine a_widen 14 6772 (by decide) (by decide) ?_
  refine a_putrF kc13 16 dX12_init_159 (by decide) rfl w_fieldLink_RainCoverModel_52 (fun _ => ⟨rfl, rfl⟩) rfl rfl rfl (fun h36 => ?_)
  refine a_aload_n dX12_init_162 rfl 0 rfl ?_
  refine a_bipush (v := 8) dX12_init_163 (by decide) ?_
  refine a_newa_int (r := (x0 + 17)) [x0, x0] rfl dX12_init_165 w_arrayClass_int (by decide) (by decide) (fun h37 => ?_)
  refine a_widen 15 6780 (by decide) (by decide) ?_
  refine a_putrF kc13 17 dX12_init_167 (by decide) rfl w_fieldLink_RainCoverModel_55 (fun _ => ⟨rfl, rfl⟩) rfl rfl rfl (fun h38 => ?_)
  refine a_aload_n dX12_init_170 rfl 0 rfl ?_
  refine a_bipush (v := 8) dX12_init_171 (by decide) ?_
  refine a_newa_int (r := (x0 + 18)) [x0, x0] rfl dX12_init_173 w_arrayClass_int (by decide) (by decide) (fun h39 => ?_)
  refine a_widen 16 6788 (by decide) (by decide) ?_
  refine a_putrF kc13 18 dX12_init_175 (by decide) rfl w_fieldLink_RainCoverModel_58 (fun _ => ⟨rfl, rfl⟩) rfl rfl rfl (fun h40 => ?_)
  exact t_X12_init_b178 h0 N h40 x0
end
set_option maxRecDepth 100000 in
set_option maxHeartbeats 4000000 in
theorem c_X12_init (l : Launch) (g : GG) (h0 : AH) (N : Nat) (p0 : Nat) : CN l g yX12_init M_X12_init true [.ref p0] h0 rSv (f_X12_init h0 N p0) := by
  refine CN.of (by decide) rfl (fun hh => by first | rfl | cases hh) (Nat.le_of_ble_eq_true rfl) ?_
  unfold f_X12_init
  refine a_gd (fun hkd => ?_)
  refine a_aload_n dX12_init_0 rfl 0 rfl ?_
  refine a_objI dX12_init_1 w_methodLink_RainCoverModel_3 w_instanceMethod_java_lang_Object__init____V w_code_java_lang_Object__init____V (by decide) (by decide) (Nat.le_of_ble_eq_true rfl) ?_
  refine a_aload_n dX12_init_4 rfl 0 rfl ?_
  refine a_bipush (v := 8) dX12_init_5 (by decide) ?_
  refine a_newa_int (r := (p0 + 1)) [p0, p0] rfl dX12_init_7 w_arrayClass_int (by decide) (by decide) (fun h1 => ?_)
  refine a_widen 1 8 (by decide) (by decide) ?_
  refine a_putrF kc13 1 dX12_init_9 (by decide) rfl w_fieldLink_RainCoverModel_9 (fun _ => ⟨rfl, rfl⟩) rfl rfl rfl (fun h2 => ?_)
  refine a_aload_n dX12_init_12 rfl 0 rfl ?_
  refine a_bipush (v := 8) dX12_init_13 (by decide) ?_
  refine a_newa_int (r := (p0 + 2)) [p0, p0] rfl dX12_init_15 w_arrayClass_int (by decide) (by decide) (fun h3 => ?_)
  refine a_widen 2 16 (by decide) (by decide) ?_
  refine a_putrF kc13 2 dX12_init_17 (by decide) rfl w_fieldLink_RainCoverModel_15 (fun _ => ⟨rfl, rfl⟩) rfl rfl rfl (fun h4 => ?_)
  refine a_aload_n dX12_init_20 rfl 0 rfl ?_
  refine a_bipush (v := 8) dX12_init_21 (by decide) ?_
  refine a_newa_int (r := (p0 + 3)) [p0, p0] rfl dX12_init_23 w_arrayClass_int (by decide) (by decide) (fun h5 => ?_)
  refine a_widen 3 24 (by decide) (by decide) ?_
  refine a_putrF kc13 3 dX12_init_25 (by decide) rfl w_fieldLink_RainCoverModel_18 (fun _ => ⟨rfl, rfl⟩) rfl rfl rfl (fun h6 => ?_)
  refine a_aload_n dX12_init_28 rfl 0 rfl ?_
  refine a_bipush (v := 8) dX12_init_29 (by decide) ?_
  refine a_newa_int (r := (p0 + 4)) [p0, p0] rfl dX12_init_31 w_arrayClass_int (by decide) (by decide) (fun h7 => ?_)
  refine a_widen 4 32 (by decide) (by decide) ?_
  refine a_putrF kc13 4 dX12_init_33 (by decide) rfl w_fieldLink_RainCoverModel_21 (fun _ => ⟨rfl, rfl⟩) rfl rfl rfl (fun h8 => ?_)
  refine a_aload_n dX12_init_36 rfl 0 rfl ?_
  refine a_iconst (v := 4) dX12_init_37 (by decide) ?_
  refine a_newa_int (r := (p0 + 5)) [p0, p0] rfl dX12_init_38 w_arrayClass_int (by decide) (by decide) (fun h9 => ?_)
  refine a_widen 5 36 (by decide) (by decide) ?_
  refine a_dup dX12_init_40 rfl ?_
  refine a_iconst (v := 0) dX12_init_41 (by decide) ?_
  refine a_bipush (v := 40) dX12_init_42 (by decide) ?_
  refine a_iast dX12_init_44 (fun h10 => ?_)
  refine a_dup dX12_init_45 rfl ?_
  refine a_iconst (v := 1) dX12_init_46 (by decide) ?_
  refine a_sipush (v := 500) dX12_init_47 (by decide) ?_
  refine a_iast dX12_init_50 (fun h11 => ?_)
  refine a_dup dX12_init_51 rfl ?_
  refine a_iconst (v := 2) dX12_init_52 (by decide) ?_
  refine a_bipush (v := 20) dX12_init_53 (by decide) ?_
  refine a_iast dX12_init_55 (fun h12 => ?_)
  refine a_dup dX12_init_56 rfl ?_
  refine a_iconst (v := 3) dX12_init_57 (by decide) ?_
  refine a_iconst (v := 0) dX12_init_58 (by decide) ?_
  refine a_iast dX12_init_59 (fun h13 => ?_)
  refine a_putrF kc13 5 dX12_init_60 (by decide) rfl w_fieldLink_RainCoverModel_24 (fun _ => ⟨rfl, rfl⟩) rfl rfl rfl (fun h14 => ?_)
  refine a_aload_n dX12_init_63 rfl 0 rfl ?_
  refine a_iconst (v := 4) dX12_init_64 (by decide) ?_
  refine a_newa_int (r := (p0 + 6)) [p0, p0] rfl dX12_init_65 w_arrayClass_int (by decide) (by decide) (fun h15 => ?_)
  refine a_widen 6 40 (by decide) (by decide) ?_
  refine a_dup dX12_init_67 rfl ?_
  refine a_iconst (v := 0) dX12_init_68 (by decide) ?_
  refine a_sipush (v := 198) dX12_init_69 (by decide) ?_
  refine a_iast dX12_init_72 (fun h16 => ?_)
  refine a_dup dX12_init_73 rfl ?_
  refine a_iconst (v := 1) dX12_init_74 (by decide) ?_
  refine a_sipush (v := 9999) dX12_init_75 (by decide) ?_
  refine a_iast dX12_init_78 (fun h17 => ?_)
  refine a_dup dX12_init_79 rfl ?_
  refine a_iconst (v := 2) dX12_init_80 (by decide) ?_
  refine a_sipush (v := 300) dX12_init_81 (by decide) ?_
  refine a_iast dX12_init_84 (fun h18 => ?_)
  refine a_dup dX12_init_85 rfl ?_
  refine a_iconst (v := 3) dX12_init_86 (by decide) ?_
  refine a_bipush (v := 100) dX12_init_87 (by decide) ?_
  refine a_iast dX12_init_89 (fun h19 => ?_)
  refine a_putrF kc13 6 dX12_init_90 (by decide) rfl w_fieldLink_RainCoverModel_27 (fun _ => ⟨rfl, rfl⟩) rfl rfl rfl (fun h20 => ?_)
  refine a_aload_n dX12_init_93 rfl 0 rfl ?_
  refine a_sipush (v := 700) dX12_init_94 (by decide) ?_
  refine a_newa_boolean (r := (p0 + 8)) [p0, p0] rfl dX12_init_97 w_arrayClass_boolean (by decide) (by decide) (fun h21 => ?_)
  refine a_widen 7 740 (by decide) (by decide) ?_
  refine a_putrF kc13 8 dX12_init_99 (by decide) rfl w_fieldLink_RainCoverModel_30 (fun _ => ⟨rfl, rfl⟩) rfl rfl rfl (fun h22 => ?_)
  refine a_aload_n dX12_init_102 rfl 0 rfl ?_
  refine a_sipush (v := 700) dX12_init_103 (by decide) ?_
  refine a_newa_int (r := (p0 + 9)) [p0, p0] rfl dX12_init_106 w_arrayClass_int (by decide) (by decide) (fun h23 => ?_)
  refine a_widen 8 1440 (by decide) (by decide) ?_
  refine a_putrF kc13 9 dX12_init_108 (by decide) rfl w_fieldLink_RainCoverModel_34 (fun _ => ⟨rfl, rfl⟩) rfl rfl rfl (fun h24 => ?_)
  exact t_X12_init_b111 h0 N h24 p0
