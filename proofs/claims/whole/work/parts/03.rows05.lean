theorem dX1_make_81 : decode cX1_make 81 = .ok (.iconst 0, 1) := by decide +kernel
theorem dX1_make_82 : decode cX1_make 82 = .ok (.istore 6, 2) := by decide +kernel
theorem dX1_make_84 : decode cX1_make 84 = .ok (.iload 5, 2) := by decide +kernel
theorem dX1_make_86 : decode cX1_make 86 = .ok (.invokestatic 61, 3) := by decide +kernel
theorem dX1_make_89 : decode cX1_make 89 = .ok (.bipush 6, 2) := by decide +kernel
theorem dX1_make_91 : decode cX1_make 91 = .ok (.if_icmp .ne 16, 3) := by decide +kernel
theorem dX1_make_94 : decode cX1_make 94 = .ok (.aload_n 0, 1) := by decide +kernel
theorem dX1_make_95 : decode cX1_make 95 = .ok (.iload_n 2, 1) := by decide +kernel
theorem dX1_make_96 : decode cX1_make 96 = .ok (.iload_n 3, 1) := by decide +kernel
theorem dX1_make_97 : decode cX1_make 97 = .ok (.invokevirtual 75, 3) := by decide +kernel
theorem dX1_make_100 : decode cX1_make 100 = .ok (.ifCond .ne 7, 3) := by decide +kernel
theorem dX1_make_103 : decode cX1_make 103 = .ok (.iconst 1, 1) := by decide +kernel
theorem dX1_make_104 : decode cX1_make 104 = .ok (.goto 4, 3) := by decide +kernel
theorem dX1_make_107 : decode cX1_make 107 = .ok (.iconst 0, 1) := by decide +kernel
theorem dX1_make_108 : decode cX1_make 108 = .ok (.istore 7, 2) := by decide +kernel
theorem dX1_make_110 : decode cX1_make 110 = .ok (.iload 6, 2) := by decide +kernel
theorem dX1_make_112 : decode cX1_make 112 = .ok (.ifCond .eq 16, 3) := by decide +kernel
theorem dX1_make_115 : decode cX1_make 115 = .ok (.aload_n 0, 1) := by decide +kernel
theorem dX1_make_116 : decode cX1_make 116 = .ok (.iload_n 2, 1) := by decide +kernel
theorem dX1_make_117 : decode cX1_make 117 = .ok (.iload_n 3, 1) := by decide +kernel
theorem dX1_make_118 : decode cX1_make 118 = .ok (.invokevirtual 81, 3) := by decide +kernel
theorem dX1_make_121 : decode cX1_make 121 = .ok (.ifCond .eq 7, 3) := by decide +kernel
theorem dX1_make_124 : decode cX1_make 124 = .ok (.iconst 1, 1) := by decide +kernel
theorem dX1_make_125 : decode cX1_make 125 = .ok (.goto 4, 3) := by decide +kernel
theorem dX1_make_128 : decode cX1_make 128 = .ok (.iconst 0, 1) := by decide +kernel
theorem dX1_make_129 : decode cX1_make 129 = .ok (.istore 8, 2) := by decide +kernel
theorem dX1_make_131 : decode cX1_make 131 = .ok (.aload_n 0, 1) := by decide +kernel
theorem dX1_make_132 : decode cX1_make 132 = .ok (.iload_n 1, 1) := by decide +kernel
theorem dX1_make_133 : decode cX1_make 133 = .ok (.invokevirtual 93, 3) := by decide +kernel
theorem dX1_make_136 : decode cX1_make 136 = .ok (.aload_n 0, 1) := by decide +kernel
theorem dX1_make_137 : decode cX1_make 137 = .ok (.getfield 34, 3) := by decide +kernel
theorem dX1_make_140 : decode cX1_make 140 = .ok (.ifCond .ne 10, 3) := by decide +kernel
theorem dX1_make_143 : decode cX1_make 143 = .ok (.iload_n 3, 1) := by decide +kernel
theorem dX1_make_144 : decode cX1_make 144 = .ok (.bipush 8, 2) := by decide +kernel
theorem dX1_make_146 : decode cX1_make 146 = .ok (.isub, 1) := by decide +kernel
theorem dX1_make_147 : decode cX1_make 147 = .ok (.goto 7, 3) := by decide +kernel
theorem dX1_make_150 : decode cX1_make 150 = .ok (.iload_n 3, 1) := by decide +kernel
theorem dX1_make_151 : decode cX1_make 151 = .ok (.bipush 8, 2) := by decide +kernel
theorem dX1_make_153 : decode cX1_make 153 = .ok (.iadd, 1) := by decide +kernel
theorem dX1_make_154 : decode cX1_make 154 = .ok (.istore 9, 2) := by decide +kernel
theorem dX1_make_156 : decode cX1_make 156 = .ok (.iload 8, 2) := by decide +kernel
theorem dX1_make_158 : decode cX1_make 158 = .ok (.ifCond .eq 13, 3) := by decide +kernel
theorem dX1_make_161 : decode cX1_make 161 = .ok (.aload_n 0, 1) := by decide +kernel
theorem dX1_make_162 : decode cX1_make 162 = .ok (.getfield 7, 3) := by decide +kernel
theorem dX1_make_165 : decode cX1_make 165 = .ok (.iload 9, 2) := by decide +kernel
theorem dX1_make_167 : decode cX1_make 167 = .ok (.iaload, 1) := by decide +kernel
theorem dX1_make_168 : decode cX1_make 168 = .ok (.goto 9, 3) := by decide +kernel
theorem dX1_make_171 : decode cX1_make 171 = .ok (.aload_n 0, 1) := by decide +kernel
theorem dX1_make_172 : decode cX1_make 172 = .ok (.getfield 7, 3) := by decide +kernel
theorem dX1_make_175 : decode cX1_make 175 = .ok (.iload_n 3, 1) := by decide +kernel
theorem dX1_make_176 : decode cX1_make 176 = .ok (.iaload, 1) := by decide +kernel
theorem dX1_make_177 : decode cX1_make 177 = .ok (.istore 10, 2) := by decide +kernel
theorem dX1_make_179 : decode cX1_make 179 = .ok (.aload_n 0, 1) := by decide +kernel
theorem dX1_make_180 : decode cX1_make 180 = .ok (.getfield 7, 3) := by decide +kernel
theorem dX1_make_183 : decode cX1_make 183 = .ok (.iload 8, 2) := by decide +kernel
theorem dX1_make_185 : decode cX1_make 185 = .ok (.ifCond .eq 8, 3) := by decide +kernel
theorem dX1_make_188 : decode cX1_make 188 = .ok (.iload 9, 2) := by decide +kernel
theorem dX1_make_190 : decode cX1_make 190 = .ok (.goto 4, 3) := by decide +kernel
theorem dX1_make_193 : decode cX1_make 193 = .ok (.iload_n 3, 1) := by decide +kernel
theorem dX1_make_194 : decode cX1_make 194 = .ok (.iconst 0, 1) := by decide +kernel
theorem dX1_make_195 : decode cX1_make 195 = .ok (.iastore, 1) := by decide +kernel
theorem dX1_make_196 : decode cX1_make 196 = .ok (.aload_n 0, 1) := by decide +kernel
theorem dX1_make_197 : decode cX1_make 197 = .ok (.getfield 7, 3) := by decide +kernel
theorem dX1_make_200 : decode cX1_make 200 = .ok (.iload_n 2, 1) := by decide +kernel
theorem dX1_make_201 : decode cX1_make 201 = .ok (.iconst 0, 1) := by decide +kernel
theorem dX1_make_202 : decode cX1_make 202 = .ok (.iastore, 1) := by decide +kernel
theorem dX1_make_203 : decode cX1_make 203 = .ok (.aload_n 0, 1) := by decide +kernel
theorem dX1_make_204 : decode cX1_make 204 = .ok (.getfield 7, 3) := by decide +kernel
theorem dX1_make_207 : decode cX1_make 207 = .ok (.iload_n 3, 1) := by decide +kernel
theorem dX1_make_208 : decode cX1_make 208 = .ok (.iload 4, 2) := by decide +kernel
theorem dX1_make_210 : decode cX1_make 210 = .ok (.ifCond .le 16, 3) := by decide +kernel
theorem dX1_make_213 : decode cX1_make 213 = .ok (.iload 4, 2) := by decide +kernel
theorem dX1_make_215 : decode cX1_make 215 = .ok (.bipush 6, 2) := by decide +kernel
theorem dX1_make_217 : decode cX1_make 217 = .ok (.aload_n 0, 1) := by decide +kernel
theorem dX1_make_218 : decode cX1_make 218 = .ok (.getfield 34, 3) := by decide +kernel
theorem dX1_make_221 : decode cX1_make 221 = .ok (.imul, 1) := by decide +kernel
theorem dX1_make_222 : decode cX1_make 222 = .ok (.iadd, 1) := by decide +kernel
theorem dX1_make_223 : decode cX1_make 223 = .ok (.goto 5, 3) := by decide +kernel
theorem dX1_make_226 : decode cX1_make 226 = .ok (.iload 5, 2) := by decide +kernel
theorem dX1_make_228 : decode cX1_make 228 = .ok (.iastore, 1) := by decide +kernel
theorem dX1_make_229 : decode cX1_make 229 = .ok (.iload 7, 2) := by decide +kernel
theorem dX1_make_231 : decode cX1_make 231 = .ok (.ifCond .eq 44, 3) := by decide +kernel
theorem dX1_make_234 : decode cX1_make 234 = .ok (.iload_n 3, 1) := by decide +kernel
theorem dX1_make_235 : decode cX1_make 235 = .ok (.iload_n 2, 1) := by decide +kernel
theorem dX1_make_236 : decode cX1_make 236 = .ok (.if_icmp .le 9, 3) := by decide +kernel
theorem dX1_make_239 : decode cX1_make 239 = .ok (.iload_n 2, 1) := by decide +kernel
theorem dX1_make_240 : decode cX1_make 240 = .ok (.iconst 3, 1) := by decide +kernel
theorem dX1_make_241 : decode cX1_make 241 = .ok (.iadd, 1) := by decide +kernel
theorem dX1_make_242 : decode cX1_make 242 = .ok (.goto 6, 3) := by decide +kernel
theorem dX1_make_245 : decode cX1_make 245 = .ok (.iload_n 2, 1) := by decide +kernel
theorem dX1_make_246 : decode cX1_make 246 = .ok (.iconst 4, 1) := by decide +kernel
theorem dX1_make_247 : decode cX1_make 247 = .ok (.isub, 1) := by decide +kernel
theorem dX1_make_248 : decode cX1_make 248 = .ok (.istore 11, 2) := by decide +kernel
theorem dX1_make_250 : decode cX1_make 250 = .ok (.aload_n 0, 1) := by decide +kernel
theorem dX1_make_251 : decode cX1_make 251 = .ok (.getfield 7, 3) := by decide +kernel
theorem dX1_make_254 : decode cX1_make 254 = .ok (.iload_n 2, 1) := by decide +kernel
theorem dX1_make_255 : decode cX1_make 255 = .ok (.iload_n 3, 1) := by decide +kernel
theorem dX1_make_256 : decode cX1_make 256 = .ok (.iadd, 1) := by decide +kernel
theorem dX1_make_257 : decode cX1_make 257 = .ok (.iconst 2, 1) := by decide +kernel
theorem dX1_make_258 : decode cX1_make 258 = .ok (.idiv, 1) := by decide +kernel
theorem dX1_make_259 : decode cX1_make 259 = .ok (.aload_n 0, 1) := by decide +kernel
theorem dX1_make_260 : decode cX1_make 260 = .ok (.getfield 7, 3) := by decide +kernel
theorem dX1_make_263 : decode cX1_make 263 = .ok (.iload 11, 2) := by decide +kernel
theorem dX1_make_265 : decode cX1_make 265 = .ok (.iaload, 1) := by decide +kernel
theorem dX1_make_266 : decode cX1_make 266 = .ok (.iastore, 1) := by decide +kernel
theorem dX1_make_267 : decode cX1_make 267 = .ok (.aload_n 0, 1) := by decide +kernel
theorem dX1_make_268 : decode cX1_make 268 = .ok (.getfield 7, 3) := by decide +kernel
theorem dX1_make_271 : decode cX1_make 271 = .ok (.iload 11, 2) := by decide +kernel
theorem dX1_make_273 : decode cX1_make 273 = .ok (.iconst 0, 1) := by decide +kernel
theorem dX1_make_274 : decode cX1_make 274 = .ok (.iastore, 1) := by decide +kernel
theorem dX1_make_275 : decode cX1_make 275 = .ok (.aload_n 0, 1) := by decide +kernel
theorem dX1_make_276 : decode cX1_make 276 = .ok (.iload 5, 2) := by decide +kernel
theorem dX1_make_278 : decode cX1_make 278 = .ok (.invokestatic 61, 3) := by decide +kernel
theorem dX1_make_281 : decode cX1_make 281 = .ok (.bipush 6, 2) := by decide +kernel
theorem dX1_make_283 : decode cX1_make 283 = .ok (.if_icmp .ne 21, 3) := by decide +kernel
theorem dX1_make_286 : decode cX1_make 286 = .ok (.aload_n 0, 1) := by decide +kernel
theorem dX1_make_287 : decode cX1_make 287 = .ok (.getfield 37, 3) := by decide +kernel
theorem dX1_make_290 : decode cX1_make 290 = .ok (.iconst 3, 1) := by decide +kernel
theorem dX1_make_291 : decode cX1_make 291 = .ok (.iconst 2, 1) := by decide +kernel
theorem dX1_make_292 : decode cX1_make 292 = .ok (.aload_n 0, 1) := by decide +kernel
theorem dX1_make_293 : decode cX1_make 293 = .ok (.getfield 34, 3) := by decide +kernel
theorem dX1_make_296 : decode cX1_make 296 = .ok (.imul, 1) := by decide +kernel
theorem dX1_make_297 : decode cX1_make 297 = .ok (.ishl, 1) := by decide +kernel
theorem dX1_make_298 : decode cX1_make 298 = .ok (.iconst (-1), 1) := by decide +kernel
theorem dX1_make_299 : decode cX1_make 299 = .ok (.ixor, 1) := by decide +kernel
theorem dX1_make_300 : decode cX1_make 300 = .ok (.iand, 1) := by decide +kernel
theorem dX1_make_301 : decode cX1_make 301 = .ok (.goto 7, 3) := by decide +kernel
theorem dX1_make_304 : decode cX1_make 304 = .ok (.aload_n 0, 1) := by decide +kernel
theorem dX1_make_305 : decode cX1_make 305 = .ok (.getfield 37, 3) := by decide +kernel
theorem dX1_make_308 : decode cX1_make 308 = .ok (.putfield 37, 3) := by decide +kernel
theorem dX1_make_311 : decode cX1_make 311 = .ok (.aload_n 0, 1) := by decide +kernel
theorem dX1_make_312 : decode cX1_make 312 = .ok (.aload_n 0, 1) := by decide +kernel
theorem dX1_make_313 : decode cX1_make 313 = .ok (.getfield 37, 3) := by decide +kernel
theorem dX1_make_316 : decode cX1_make 316 = .ok (.iload_n 2, 1) := by decide +kernel
theorem dX1_make_317 : decode cX1_make 317 = .ok (.invokestatic 97, 3) := by decide +kernel
theorem dX1_make_320 : decode cX1_make 320 = .ok (.iconst (-1), 1) := by decide +kernel
theorem dX1_make_321 : decode cX1_make 321 = .ok (.ixor, 1) := by decide +kernel
theorem dX1_make_322 : decode cX1_make 322 = .ok (.iand, 1) := by decide +kernel
theorem dX1_make_323 : decode cX1_make 323 = .ok (.iload_n 3, 1) := by decide +kernel
theorem dX1_make_324 : decode cX1_make 324 = .ok (.invokestatic 97, 3) := by decide +kernel
theorem dX1_make_327 : decode cX1_make 327 = .ok (.iconst (-1), 1) := by decide +kernel
theorem dX1_make_328 : decode cX1_make 328 = .ok (.ixor, 1) := by decide +kernel
theorem dX1_make_329 : decode cX1_make 329 = .ok (.iand, 1) := by decide +kernel
theorem dX1_make_330 : decode cX1_make 330 = .ok (.putfield 37, 3) := by decide +kernel
theorem dX1_make_333 : decode cX1_make 333 = .ok (.iload 6, 2) := by decide +kernel
theorem dX1_make_335 : decode cX1_make 335 = .ok (.ifCond .eq 22, 3) := by decide +kernel
theorem dX1_make_338 : decode cX1_make 338 = .ok (.iload_n 2, 1) := by decide +kernel
theorem dX1_make_339 : decode cX1_make 339 = .ok (.bipush 8, 2) := by decide +kernel
theorem dX1_make_341 : decode cX1_make 341 = .ok (.idiv, 1) := by decide +kernel
theorem dX1_make_342 : decode cX1_make 342 = .ok (.iload_n 3, 1) := by decide +kernel
theorem dX1_make_343 : decode cX1_make 343 = .ok (.bipush 8, 2) := by decide +kernel
theorem dX1_make_345 : decode cX1_make 345 = .ok (.idiv, 1) := by decide +kernel
theorem dX1_make_346 : decode cX1_make 346 = .ok (.invokestatic 64, 3) := by decide +kernel
theorem dX1_make_349 : decode cX1_make 349 = .ok (.iconst 2, 1) := by decide +kernel
theorem dX1_make_350 : decode cX1_make 350 = .ok (.if_icmp .ne 7, 3) := by decide +kernel
theorem dX1_make_353 : decode cX1_make 353 = .ok (.iconst 1, 1) := by decide +kernel
theorem dX1_make_354 : decode cX1_make 354 = .ok (.goto 4, 3) := by decide +kernel
theorem dX1_make_357 : decode cX1_make 357 = .ok (.iconst 0, 1) := by decide +kernel
theorem dX1_make_358 : decode cX1_make 358 = .ok (.istore 11, 2) := by decide +kernel
theorem dX1_make_360 : decode cX1_make 360 = .ok (.aload_n 0, 1) := by decide +kernel
theorem dX1_make_361 : decode cX1_make 361 = .ok (.iload 11, 2) := by decide +kernel
theorem dX1_make_363 : decode cX1_make 363 = .ok (.ifCond .eq 29, 3) := by decide +kernel
theorem dX1_make_366 : decode cX1_make 366 = .ok (.aload_n 0, 1) := by decide +kernel
theorem dX1_make_367 : decode cX1_make 367 = .ok (.iload_n 2, 1) := by decide +kernel
theorem dX1_make_368 : decode cX1_make 368 = .ok (.iload_n 3, 1) := by decide +kernel
theorem dX1_make_369 : decode cX1_make 369 = .ok (.iadd, 1) := by decide +kernel
theorem dX1_make_370 : decode cX1_make 370 = .ok (.iconst 2, 1) := by decide +kernel
theorem dX1_make_371 : decode cX1_make 371 = .ok (.idiv, 1) := by decide +kernel
theorem dX1_make_372 : decode cX1_make 372 = .ok (.iconst 1, 1) := by decide +kernel
theorem dX1_make_373 : decode cX1_make 373 = .ok (.aload_n 0, 1) := by decide +kernel
theorem dX1_make_374 : decode cX1_make 374 = .ok (.getfield 34, 3) := by decide +kernel
theorem dX1_make_377 : decode cX1_make 377 = .ok (.isub, 1) := by decide +kernel
theorem dX1_make_378 : decode cX1_make 378 = .ok (.invokevirtual 100, 3) := by decide +kernel
theorem dX1_make_381 : decode cX1_make 381 = .ok (.ifCond .eq 11, 3) := by decide +kernel
theorem dX1_make_384 : decode cX1_make 384 = .ok (.iload_n 2, 1) := by decide +kernel
theorem dX1_make_385 : decode cX1_make 385 = .ok (.iload_n 3, 1) := by decide +kernel
theorem dX1_make_386 : decode cX1_make 386 = .ok (.iadd, 1) := by decide +kernel
theorem dX1_make_387 : decode cX1_make 387 = .ok (.iconst 2, 1) := by decide +kernel
theorem dX1_make_388 : decode cX1_make 388 = .ok (.idiv, 1) := by decide +kernel
theorem dX1_make_389 : decode cX1_make 389 = .ok (.goto 4, 3) := by decide +kernel
theorem dX1_make_392 : decode cX1_make 392 = .ok (.iconst (-1), 1) := by decide +kernel
theorem dX1_make_393 : decode cX1_make 393 = .ok (.putfield 13, 3) := by decide +kernel
theorem dX1_make_396 : decode cX1_make 396 = .ok (.aload_n 0, 1) := by decide +kernel
theorem dX1_make_397 : decode cX1_make 397 = .ok (.iload 6, 2) := by decide +kernel
theorem dX1_make_399 : decode cX1_make 399 = .ok (.ifCond .ne 8, 3) := by decide +kernel
theorem dX1_make_402 : decode cX1_make 402 = .ok (.iload 10, 2) := by decide +kernel
theorem dX1_make_404 : decode cX1_make 404 = .ok (.ifCond .le 7, 3) := by decide +kernel
theorem dX1_make_407 : decode cX1_make 407 = .ok (.iconst 0, 1) := by decide +kernel
theorem dX1_make_408 : decode cX1_make 408 = .ok (.goto 9, 3) := by decide +kernel
theorem dX1_make_411 : decode cX1_make 411 = .ok (.aload_n 0, 1) := by decide +kernel
theorem dX1_make_412 : decode cX1_make 412 = .ok (.getfield 40, 3) := by decide +kernel
theorem dX1_make_415 : decode cX1_make 415 = .ok (.iconst 1, 1) := by decide +kernel
theorem dX1_make_416 : decode cX1_make 416 = .ok (.iadd, 1) := by decide +kernel
theorem dX1_make_417 : decode cX1_make 417 = .ok (.putfield 40, 3) := by decide +kernel
theorem dX1_make_420 : decode cX1_make 420 = .ok (.aload_n 0, 1) := by decide +kernel
theorem dX1_make_421 : decode cX1_make 421 = .ok (.dup, 1) := by decide +kernel
theorem dX1_make_422 : decode cX1_make 422 = .ok (.getfield 17, 3) := by decide +kernel
theorem dX1_make_425 : decode cX1_make 425 = .ok (.aload_n 0, 1) := by decide +kernel
theorem dX1_make_426 : decode cX1_make 426 = .ok (.getfield 34, 3) := by decide +kernel
theorem dX1_make_429 : decode cX1_make 429 = .ok (.iadd, 1) := by decide +kernel
theorem dX1_make_430 : decode cX1_make 430 = .ok (.putfield 17, 3) := by decide +kernel
theorem dX1_make_433 : decode cX1_make 433 = .ok (.aload_n 0, 1) := by decide +kernel
theorem dX1_make_434 : decode cX1_make 434 = .ok (.iconst 1, 1) := by decide +kernel
theorem dX1_make_435 : decode cX1_make 435 = .ok (.aload_n 0, 1) := by decide +kernel
theorem dX1_make_436 : decode cX1_make 436 = .ok (.getfield 34, 3) := by decide +kernel
theorem dX1_make_439 : decode cX1_make 439 = .ok (.isub, 1) := by decide +kernel
theorem dX1_make_440 : decode cX1_make 440 = .ok (.putfield 34, 3) := by decide +kernel
theorem dX1_make_443 : decode cX1_make 443 = .ok (.iload 10, 2) := by decide +kernel
theorem dX1_make_445 : decode cX1_make 445 = .ok (.ireturn, 1) := by decide +kernel
set_option maxRecDepth 20000 in
theorem ggX1_pawnAttacks_X1_attacks : GoodIn wsX1_pawnAttacks wsX1_attacks := goodIn_r _ [6, 1, 7, 8, 5, 9, 10, 11, 12, 13, 14, 15, 16, 17, 18, 19, 20, 21, 22, 23, 24, 25, 26, 27, 28, 29, 30] (by decide +kernel) (by decide +kernel)
set_option maxRecDepth 20000 in
theorem gX1_pawnAttacks_X1_attacks : GoodIn wsX1_pawnAttacks (wsV RX1 75 RX1 yX1_attacks wsX1_attacks) := goodIn_app (goodIn_of _ (by decide +kernel)) ggX1_pawnAttacks_X1_attacks
theorem dX1_pawnAttacks_0 : decode cX1_pawnAttacks 0 = .ok (.iconst 0, 1) := by decide +kernel
theorem dX1_pawnAttacks_1 : decode cX1_pawnAttacks 1 = .ok (.istore_n 3, 1) := by decide +kernel
theorem dX1_pawnAttacks_2 : decode cX1_pawnAttacks 2 = .ok (.iconst 0, 1) := by decide +kernel
theorem dX1_pawnAttacks_3 : decode cX1_pawnAttacks 3 = .ok (.istore 4, 2) := by decide +kernel
theorem dX1_pawnAttacks_5 : decode cX1_pawnAttacks 5 = .ok (.iload 4, 2) := by decide +kernel
theorem dX1_pawnAttacks_7 : decode cX1_pawnAttacks 7 = .ok (.bipush 64, 2) := by decide +kernel
theorem dX1_pawnAttacks_9 : decode cX1_pawnAttacks 9 = .ok (.if_icmp .ge 45, 3) := by decide +kernel
theorem dX1_pawnAttacks_12 : decode cX1_pawnAttacks 12 = .ok (.iload_n 3, 1) := by decide +kernel
theorem dX1_pawnAttacks_13 : decode cX1_pawnAttacks 13 = .ok (.ifCond .ne 29, 3) := by decide +kernel
theorem dX1_pawnAttacks_16 : decode cX1_pawnAttacks 16 = .ok (.aload_n 0, 1) := by decide +kernel
theorem dX1_pawnAttacks_17 : decode cX1_pawnAttacks 17 = .ok (.getfield 7, 3) := by decide +kernel
theorem dX1_pawnAttacks_20 : decode cX1_pawnAttacks 20 = .ok (.iload 4, 2) := by decide +kernel
theorem dX1_pawnAttacks_22 : decode cX1_pawnAttacks 22 = .ok (.iaload, 1) := by decide +kernel
theorem dX1_pawnAttacks_23 : decode cX1_pawnAttacks 23 = .ok (.iconst 1, 1) := by decide +kernel
theorem dX1_pawnAttacks_24 : decode cX1_pawnAttacks 24 = .ok (.bipush 6, 2) := by decide +kernel
theorem dX1_pawnAttacks_26 : decode cX1_pawnAttacks 26 = .ok (.iload_n 2, 1) := by decide +kernel
theorem dX1_pawnAttacks_27 : decode cX1_pawnAttacks 27 = .ok (.imul, 1) := by decide +kernel
theorem dX1_pawnAttacks_28 : decode cX1_pawnAttacks 28 = .ok (.iadd, 1) := by decide +kernel
theorem dX1_pawnAttacks_29 : decode cX1_pawnAttacks 29 = .ok (.if_icmp .ne 17, 3) := by decide +kernel
theorem dX1_pawnAttacks_32 : decode cX1_pawnAttacks 32 = .ok (.aload_n 0, 1) := by decide +kernel
theorem dX1_pawnAttacks_33 : decode cX1_pawnAttacks 33 = .ok (.iload 4, 2) := by decide +kernel
theorem dX1_pawnAttacks_35 : decode cX1_pawnAttacks 35 = .ok (.iload_n 1, 1) := by decide +kernel
theorem dX1_pawnAttacks_36 : decode cX1_pawnAttacks 36 = .ok (.invokevirtual 75, 3) := by decide +kernel
theorem dX1_pawnAttacks_39 : decode cX1_pawnAttacks 39 = .ok (.ifCond .eq 7, 3) := by decide +kernel
theorem dX1_pawnAttacks_42 : decode cX1_pawnAttacks 42 = .ok (.iconst 1, 1) := by decide +kernel
theorem dX1_pawnAttacks_43 : decode cX1_pawnAttacks 43 = .ok (.goto 4, 3) := by decide +kernel
theorem dX1_pawnAttacks_46 : decode cX1_pawnAttacks 46 = .ok (.iconst 0, 1) := by decide +kernel
theorem dX1_pawnAttacks_47 : decode cX1_pawnAttacks 47 = .ok (.istore_n 3, 1) := by decide +kernel
theorem dX1_pawnAttacks_48 : decode cX1_pawnAttacks 48 = .ok (.iinc 4 1, 3) := by decide +kernel
theorem dX1_pawnAttacks_51 : decode cX1_pawnAttacks 51 = .ok (.goto (-46), 3) := by decide +kernel
theorem dX1_pawnAttacks_54 : decode cX1_pawnAttacks 54 = .ok (.iload_n 3, 1) := by decide +kernel
theorem dX1_pawnAttacks_55 : decode cX1_pawnAttacks 55 = .ok (.ireturn, 1) := by decide +kernel
theorem dX1_unmake_0 : decode cX1_unmake 0 = .ok (.aload_n 0, 1) := by decide +kernel
theorem dX1_unmake_1 : decode cX1_unmake 1 = .ok (.aload_n 0, 1) := by decide +kernel
theorem dX1_unmake_2 : decode cX1_unmake 2 = .ok (.getfield 43, 3) := by decide +kernel
theorem dX1_unmake_5 : decode cX1_unmake 5 = .ok (.ifCond .ne 7, 3) := by decide +kernel
theorem dX1_unmake_8 : decode cX1_unmake 8 = .ok (.iconst 1, 1) := by decide +kernel
theorem dX1_unmake_9 : decode cX1_unmake 9 = .ok (.goto 4, 3) := by decide +kernel
theorem dX1_unmake_12 : decode cX1_unmake 12 = .ok (.iconst 0, 1) := by decide +kernel
theorem dX1_unmake_13 : decode cX1_unmake 13 = .ok (.putfield 31, 3) := by decide +kernel
theorem dX1_unmake_16 : decode cX1_unmake 16 = .ok (.aload_n 0, 1) := by decide +kernel
theorem dX1_unmake_17 : decode cX1_unmake 17 = .ok (.getfield 31, 3) := by decide +kernel
theorem dX1_unmake_20 : decode cX1_unmake 20 = .ok (.ifCond .le 5, 3) := by decide +kernel
theorem dX1_unmake_23 : decode cX1_unmake 23 = .ok (.iconst 0, 1) := by decide +kernel
theorem dX1_unmake_24 : decode cX1_unmake 24 = .ok (.ireturn, 1) := by decide +kernel
theorem dX1_unmake_25 : decode cX1_unmake 25 = .ok (.aload_n 0, 1) := by decide +kernel
theorem dX1_unmake_26 : decode cX1_unmake 26 = .ok (.dup, 1) := by decide +kernel
theorem dX1_unmake_27 : decode cX1_unmake 27 = .ok (.getfield 43, 3) := by decide +kernel
theorem dX1_unmake_30 : decode cX1_unmake 30 = .ok (.iconst 1, 1) := by decide +kernel
theorem dX1_unmake_31 : decode cX1_unmake 31 = .ok (.isub, 1) := by decide +kernel
theorem dX1_unmake_32 : decode cX1_unmake 32 = .ok (.putfield 43, 3) := by decide +kernel
theorem dX1_unmake_35 : decode cX1_unmake 35 = .ok (.iconst 0, 1) := by decide +kernel
theorem dX1_unmake_36 : decode cX1_unmake 36 = .ok (.istore_n 1, 1) := by decide +kernel
theorem dX1_unmake_37 : decode cX1_unmake 37 = .ok (.iload_n 1, 1) := by decide +kernel
theorem dX1_unmake_38 : decode cX1_unmake 38 = .ok (.bipush 64, 2) := by decide +kernel
theorem dX1_unmake_40 : decode cX1_unmake 40 = .ok (.if_icmp .ge 29, 3) := by decide +kernel
theorem dX1_unmake_43 : decode cX1_unmake 43 = .ok (.aload_n 0, 1) := by decide +kernel
theorem dX1_unmake_44 : decode cX1_unmake 44 = .ok (.getfield 7, 3) := by decide +kernel
theorem dX1_unmake_47 : decode cX1_unmake 47 = .ok (.iload_n 1, 1) := by decide +kernel
theorem dX1_unmake_48 : decode cX1_unmake 48 = .ok (.aload_n 0, 1) := by decide +kernel
theorem dX1_unmake_49 : decode cX1_unmake 49 = .ok (.getfield 24, 3) := by decide +kernel
theorem dX1_unmake_52 : decode cX1_unmake 52 = .ok (.bipush 64, 2) := by decide +kernel
theorem dX1_unmake_54 : decode cX1_unmake 54 = .ok (.aload_n 0, 1) := by decide +kernel
theorem dX1_unmake_55 : decode cX1_unmake 55 = .ok (.getfield 43, 3) := by decide +kernel
theorem dX1_unmake_58 : decode cX1_unmake 58 = .ok (.imul, 1) := by decide +kernel
theorem dX1_unmake_59 : decode cX1_unmake 59 = .ok (.iload_n 1, 1) := by decide +kernel
theorem dX1_unmake_60 : decode cX1_unmake 60 = .ok (.iadd, 1) := by decide +kernel
theorem dX1_unmake_61 : decode cX1_unmake 61 = .ok (.baload, 1) := by decide +kernel
theorem dX1_unmake_62 : decode cX1_unmake 62 = .ok (.iastore, 1) := by decide +kernel
theorem dX1_unmake_63 : decode cX1_unmake 63 = .ok (.iinc 1 1, 3) := by decide +kernel
theorem dX1_unmake_66 : decode cX1_unmake 66 = .ok (.goto (-29), 3) := by decide +kernel
theorem dX1_unmake_69 : decode cX1_unmake 69 = .ok (.aload_n 0, 1) := by decide +kernel
theorem dX1_unmake_70 : decode cX1_unmake 70 = .ok (.aload_n 0, 1) := by decide +kernel
theorem dX1_unmake_71 : decode cX1_unmake 71 = .ok (.getfield 28, 3) := by decide +kernel
theorem dX1_unmake_74 : decode cX1_unmake 74 = .ok (.iconst 5, 1) := by decide +kernel
theorem dX1_unmake_75 : decode cX1_unmake 75 = .ok (.aload_n 0, 1) := by decide +kernel
theorem dX1_unmake_76 : decode cX1_unmake 76 = .ok (.getfield 43, 3) := by decide +kernel
theorem dX1_unmake_79 : decode cX1_unmake 79 = .ok (.imul, 1) := by decide +kernel
theorem dX1_unmake_80 : decode cX1_unmake 80 = .ok (.iaload, 1) := by decide +kernel
theorem dX1_unmake_81 : decode cX1_unmake 81 = .ok (.putfield 34, 3) := by decide +kernel
theorem dX1_unmake_84 : decode cX1_unmake 84 = .ok (.aload_n 0, 1) := by decide +kernel
theorem dX1_unmake_85 : decode cX1_unmake 85 = .ok (.aload_n 0, 1) := by decide +kernel
theorem dX1_unmake_86 : decode cX1_unmake 86 = .ok (.getfield 28, 3) := by decide +kernel
theorem dX1_unmake_89 : decode cX1_unmake 89 = .ok (.iconst 5, 1) := by decide +kernel
theorem dX1_unmake_90 : decode cX1_unmake 90 = .ok (.aload_n 0, 1) := by decide +kernel
theorem dX1_unmake_91 : decode cX1_unmake 91 = .ok (.getfield 43, 3) := by decide +kernel
theorem dX1_unmake_94 : decode cX1_unmake 94 = .ok (.imul, 1) := by decide +kernel
theorem dX1_unmake_95 : decode cX1_unmake 95 = .ok (.iconst 1, 1) := by decide +kernel
theorem dX1_unmake_96 : decode cX1_unmake 96 = .ok (.iadd, 1) := by decide +kernel
theorem dX1_unmake_97 : decode cX1_unmake 97 = .ok (.iaload, 1) := by decide +kernel
theorem dX1_unmake_98 : decode cX1_unmake 98 = .ok (.putfield 37, 3) := by decide +kernel
theorem dX1_unmake_101 : decode cX1_unmake 101 = .ok (.aload_n 0, 1) := by decide +kernel
theorem dX1_unmake_102 : decode cX1_unmake 102 = .ok (.aload_n 0, 1) := by decide +kernel
theorem dX1_unmake_103 : decode cX1_unmake 103 = .ok (.getfield 28, 3) := by decide +kernel
theorem dX1_unmake_106 : decode cX1_unmake 106 = .ok (.iconst 5, 1) := by decide +kernel
theorem dX1_unmake_107 : decode cX1_unmake 107 = .ok (.aload_n 0, 1) := by decide +kernel
theorem dX1_unmake_108 : decode cX1_unmake 108 = .ok (.getfield 43, 3) := by decide +kernel
theorem dX1_unmake_111 : decode cX1_unmake 111 = .ok (.imul, 1) := by decide +kernel
theorem dX1_unmake_112 : decode cX1_unmake 112 = .ok (.iconst 2, 1) := by decide +kernel
theorem dX1_unmake_113 : decode cX1_unmake 113 = .ok (.iadd, 1) := by decide +kernel
theorem dX1_unmake_114 : decode cX1_unmake 114 = .ok (.iaload, 1) := by decide +kernel
theorem dX1_unmake_115 : decode cX1_unmake 115 = .ok (.putfield 13, 3) := by decide +kernel
theorem dX1_unmake_118 : decode cX1_unmake 118 = .ok (.aload_n 0, 1) := by decide +kernel
theorem dX1_unmake_119 : decode cX1_unmake 119 = .ok (.aload_n 0, 1) := by decide +kernel
theorem dX1_unmake_120 : decode cX1_unmake 120 = .ok (.getfield 28, 3) := by decide +kernel
theorem dX1_unmake_123 : decode cX1_unmake 123 = .ok (.iconst 5, 1) := by decide +kernel
theorem dX1_unmake_124 : decode cX1_unmake 124 = .ok (.aload_n 0, 1) := by decide +kernel
theorem dX1_unmake_125 : decode cX1_unmake 125 = .ok (.getfield 43, 3) := by decide +kernel
theorem dX1_unmake_128 : decode cX1_unmake 128 = .ok (.imul, 1) := by decide +kernel
theorem dX1_unmake_129 : decode cX1_unmake 129 = .ok (.iconst 3, 1) := by decide +kernel
theorem dX1_unmake_130 : decode cX1_unmake 130 = .ok (.iadd, 1) := by decide +kernel
theorem dX1_unmake_131 : decode cX1_unmake 131 = .ok (.iaload, 1) := by decide +kernel
theorem dX1_unmake_132 : decode cX1_unmake 132 = .ok (.putfield 40, 3) := by decide +kernel
theorem dX1_unmake_135 : decode cX1_unmake 135 = .ok (.aload_n 0, 1) := by decide +kernel
theorem dX1_unmake_136 : decode cX1_unmake 136 = .ok (.aload_n 0, 1) := by decide +kernel
theorem dX1_unmake_137 : decode cX1_unmake 137 = .ok (.getfield 28, 3) := by decide +kernel
theorem dX1_unmake_140 : decode cX1_unmake 140 = .ok (.iconst 5, 1) := by decide +kernel
theorem dX1_unmake_141 : decode cX1_unmake 141 = .ok (.aload_n 0, 1) := by decide +kernel
theorem dX1_unmake_142 : decode cX1_unmake 142 = .ok (.getfield 43, 3) := by decide +kernel
theorem dX1_unmake_145 : decode cX1_unmake 145 = .ok (.imul, 1) := by decide +kernel
theorem dX1_unmake_146 : decode cX1_unmake 146 = .ok (.iconst 4, 1) := by decide +kernel
theorem dX1_unmake_147 : decode cX1_unmake 147 = .ok (.iadd, 1) := by decide +kernel
theorem dX1_unmake_148 : decode cX1_unmake 148 = .ok (.iaload, 1) := by decide +kernel
theorem dX1_unmake_149 : decode cX1_unmake 149 = .ok (.putfield 17, 3) := by decide +kernel
theorem dX1_unmake_152 : decode cX1_unmake 152 = .ok (.aload_n 0, 1) := by decide +kernel
theorem dX1_unmake_153 : decode cX1_unmake 153 = .ok (.getfield 20, 3) := by decide +kernel
theorem dX1_unmake_156 : decode cX1_unmake 156 = .ok (.aload_n 0, 1) := by decide +kernel
theorem dX1_unmake_157 : decode cX1_unmake 157 = .ok (.getfield 43, 3) := by decide +kernel
theorem dX1_unmake_160 : decode cX1_unmake 160 = .ok (.iaload, 1) := by decide +kernel
theorem dX1_unmake_161 : decode cX1_unmake 161 = .ok (.ireturn, 1) := by decide +kernel
set_option maxRecDepth 20000 in
theorem ggX1_at_X1_isSquare : GoodIn wsX1_at wsX1_isSquare := goodIn_r _ [6] (by decide +kernel) (by decide +kernel)
set_option maxRecDepth 20000 in
theorem gX1_at_X1_isSquare : GoodIn wsX1_at (va_wsS RX1 53 yX1_isSquare wsX1_isSquare) := goodIn_app (goodIn_of _ (by decide +kernel)) ggX1_at_X1_isSquare
theorem dX1_at_0 : decode cX1_at 0 = .ok (.aload_n 0, 1) := by decide +kernel
theorem dX1_at_1 : decode cX1_at 1 = .ok (.iload_n 1, 1) := by decide +kernel
theorem dX1_at_2 : decode cX1_at 2 = .ok (.invokestatic 53, 3) := by decide +kernel
theorem dX1_at_5 : decode cX1_at 5 = .ok (.ifCond .eq 7, 3) := by decide +kernel
theorem dX1_at_8 : decode cX1_at 8 = .ok (.iconst 0, 1) := by decide +kernel
theorem dX1_at_9 : decode cX1_at 9 = .ok (.goto 4, 3) := by decide +kernel
theorem dX1_at_12 : decode cX1_at 12 = .ok (.iconst 1, 1) := by decide +kernel
theorem dX1_at_13 : decode cX1_at 13 = .ok (.putfield 31, 3) := by decide +kernel
theorem dX1_at_16 : decode cX1_at 16 = .ok (.aload_n 0, 1) := by decide +kernel
theorem dX1_at_17 : decode cX1_at 17 = .ok (.getfield 31, 3) := by decide +kernel
theorem dX1_at_20 : decode cX1_at 20 = .ok (.ifCond .le 7, 3) := by decide +kernel
theorem dX1_at_23 : decode cX1_at 23 = .ok (.iconst 0, 1) := by decide +kernel
theorem dX1_at_24 : decode cX1_at 24 = .ok (.goto 9, 3) := by decide +kernel
theorem dX1_at_27 : decode cX1_at 27 = .ok (.aload_n 0, 1) := by decide +kernel
theorem dX1_at_28 : decode cX1_at 28 = .ok (.getfield 7, 3) := by decide +kernel
theorem dX1_at_31 : decode cX1_at 31 = .ok (.iload_n 1, 1) := by decide +kernel
theorem dX1_at_32 : decode cX1_at 32 = .ok (.iaload, 1) := by decide +kernel
theorem dX1_at_33 : decode cX1_at 33 = .ok (.ireturn, 1) := by decide +kernel
theorem dX1_where_0 : decode cX1_where 0 = .ok (.aload_n 0, 1) := by decide +kernel
theorem dX1_where_1 : decode cX1_where 1 = .ok (.iconst 0, 1) := by decide +kernel
theorem dX1_where_2 : decode cX1_where 2 = .ok (.putfield 31, 3) := by decide +kernel
theorem dX1_where_5 : decode cX1_where 5 = .ok (.lconst 0, 1) := by decide +kernel
theorem dX1_where_6 : decode cX1_where 6 = .ok (.lstore_n 2, 1) := by decide +kernel
theorem dX1_where_7 : decode cX1_where 7 = .ok (.iconst 0, 1) := by decide +kernel
theorem dX1_where_8 : decode cX1_where 8 = .ok (.istore 4, 2) := by decide +kernel
theorem dX1_where_10 : decode cX1_where 10 = .ok (.iload 4, 2) := by decide +kernel
theorem dX1_where_12 : decode cX1_where 12 = .ok (.bipush 64, 2) := by decide +kernel
theorem dX1_where_14 : decode cX1_where 14 = .ok (.if_icmp .ge 31, 3) := by decide +kernel
theorem dX1_where_17 : decode cX1_where 17 = .ok (.aload_n 0, 1) := by decide +kernel
theorem dX1_where_18 : decode cX1_where 18 = .ok (.getfield 7, 3) := by decide +kernel
theorem dX1_where_21 : decode cX1_where 21 = .ok (.iload 4, 2) := by decide +kernel
theorem dX1_where_23 : decode cX1_where 23 = .ok (.iaload, 1) := by decide +kernel
theorem dX1_where_24 : decode cX1_where 24 = .ok (.iload_n 1, 1) := by decide +kernel
theorem dX1_where_25 : decode cX1_where 25 = .ok (.if_icmp .ne 12, 3) := by decide +kernel
theorem dX1_where_28 : decode cX1_where 28 = .ok (.lload_n 2, 1) := by decide +kernel
theorem dX1_where_29 : decode cX1_where 29 = .ok (.lconst 1, 1) := by decide +kernel
theorem dX1_where_30 : decode cX1_where 30 = .ok (.iload 4, 2) := by decide +kernel
theorem dX1_where_32 : decode cX1_where 32 = .ok (.lshl, 1) := by decide +kernel
theorem dX1_where_33 : decode cX1_where 33 = .ok (.lor, 1) := by decide +kernel
theorem dX1_where_34 : decode cX1_where 34 = .ok (.goto 4, 3) := by decide +kernel
theorem dX1_where_37 : decode cX1_where 37 = .ok (.lload_n 2, 1) := by decide +kernel
theorem dX1_where_38 : decode cX1_where 38 = .ok (.lstore_n 2, 1) := by decide +kernel
theorem dX1_where_39 : decode cX1_where 39 = .ok (.iinc 4 1, 3) := by decide +kernel
theorem dX1_where_42 : decode cX1_where 42 = .ok (.goto (-32), 3) := by decide +kernel
theorem dX1_where_45 : decode cX1_where 45 = .ok (.lload_n 2, 1) := by decide +kernel
theorem dX1_where_46 : decode cX1_where 46 = .ok (.lreturn, 1) := by decide +kernel
theorem dX1_mixed_0 : decode cX1_mixed 0 = .ok (.lload_n 0, 1) := by decide +kernel
theorem dX1_mixed_1 : decode cX1_mixed 1 = .ok (.ldc2_w 103, 3) := by decide +kernel
theorem dX1_mixed_4 : decode cX1_mixed 4 = .ok (.ladd, 1) := by decide +kernel
theorem dX1_mixed_5 : decode cX1_mixed 5 = .ok (.lstore_n 2, 1) := by decide +kernel
theorem dX1_mixed_6 : decode cX1_mixed 6 = .ok (.lload_n 2, 1) := by decide +kernel
theorem dX1_mixed_7 : decode cX1_mixed 7 = .ok (.lload_n 2, 1) := by decide +kernel
theorem dX1_mixed_8 : decode cX1_mixed 8 = .ok (.bipush 30, 2) := by decide +kernel
theorem dX1_mixed_10 : decode cX1_mixed 10 = .ok (.lushr, 1) := by decide +kernel
theorem dX1_mixed_11 : decode cX1_mixed 11 = .ok (.lxor, 1) := by decide +kernel
theorem dX1_mixed_12 : decode cX1_mixed 12 = .ok (.ldc2_w 105, 3) := by decide +kernel
theorem dX1_mixed_15 : decode cX1_mixed 15 = .ok (.lmul, 1) := by decide +kernel
theorem dX1_mixed_16 : decode cX1_mixed 16 = .ok (.lstore_n 2, 1) := by decide +kernel
theorem dX1_mixed_17 : decode cX1_mixed 17 = .ok (.lload_n 2, 1) := by decide +kernel
theorem dX1_mixed_18 : decode cX1_mixed 18 = .ok (.lload_n 2, 1) := by decide +kernel
theorem dX1_mixed_19 : decode cX1_mixed 19 = .ok (.bipush 27, 2) := by decide +kernel
theorem dX1_mixed_21 : decode cX1_mixed 21 = .ok (.lushr, 1) := by decide +kernel
theorem dX1_mixed_22 : decode cX1_mixed 22 = .ok (.lxor, 1) := by decide +kernel
theorem dX1_mixed_23 : decode cX1_mixed 23 = .ok (.ldc2_w 107, 3) := by decide +kernel
theorem dX1_mixed_26 : decode cX1_mixed 26 = .ok (.lmul, 1) := by decide +kernel
theorem dX1_mixed_27 : decode cX1_mixed 27 = .ok (.lstore_n 2, 1) := by decide +kernel
theorem dX1_mixed_28 : decode cX1_mixed 28 = .ok (.lload_n 2, 1) := by decide +kernel
theorem dX1_mixed_29 : decode cX1_mixed 29 = .ok (.lload_n 2, 1) := by decide +kernel
theorem dX1_mixed_30 : decode cX1_mixed 30 = .ok (.bipush 31, 2) := by decide +kernel
theorem dX1_mixed_32 : decode cX1_mixed 32 = .ok (.lushr, 1) := by decide +kernel
theorem dX1_mixed_33 : decode cX1_mixed 33 = .ok (.lxor, 1) := by decide +kernel
theorem dX1_mixed_34 : decode cX1_mixed 34 = .ok (.lreturn, 1) := by decide +kernel
set_option maxRecDepth 20000 in
theorem ggX1_key_X1_mixed : GoodIn wsX1_key wsX1_mixed := goodIn_r _ [13, 14, 15, 16] (by decide +kernel) (by decide +kernel)
set_option maxRecDepth 20000 in
theorem gX1_key_X1_mixed : GoodIn wsX1_key (va_wsS RX1 111 yX1_mixed wsX1_mixed) := goodIn_app (goodIn_of _ (by decide +kernel)) ggX1_key_X1_mixed
theorem dX1_key_0 : decode cX1_key 0 = .ok (.aload_n 0, 1) := by decide +kernel
theorem dX1_key_1 : decode cX1_key 1 = .ok (.iconst 0, 1) := by decide +kernel
theorem dX1_key_2 : decode cX1_key 2 = .ok (.putfield 31, 3) := by decide +kernel
theorem dX1_key_5 : decode cX1_key 5 = .ok (.ldc2_w 109, 3) := by decide +kernel
theorem dX1_key_8 : decode cX1_key 8 = .ok (.aload_n 0, 1) := by decide +kernel
theorem dX1_key_9 : decode cX1_key 9 = .ok (.getfield 37, 3) := by decide +kernel
theorem dX1_key_12 : decode cX1_key 12 = .ok (.i2l, 1) := by decide +kernel
theorem dX1_key_13 : decode cX1_key 13 = .ok (.ladd, 1) := by decide +kernel
theorem dX1_key_14 : decode cX1_key 14 = .ok (.invokestatic 111, 3) := by decide +kernel
theorem dX1_key_17 : decode cX1_key 17 = .ok (.ldc2_w 115, 3) := by decide +kernel
theorem dX1_key_20 : decode cX1_key 20 = .ok (.aload_n 0, 1) := by decide +kernel
theorem dX1_key_21 : decode cX1_key 21 = .ok (.getfield 13, 3) := by decide +kernel
theorem dX1_key_24 : decode cX1_key 24 = .ok (.i2l, 1) := by decide +kernel
theorem dX1_key_25 : decode cX1_key 25 = .ok (.ladd, 1) := by decide +kernel
theorem dX1_key_26 : decode cX1_key 26 = .ok (.invokestatic 111, 3) := by decide +kernel
theorem dX1_key_29 : decode cX1_key 29 = .ok (.lxor, 1) := by decide +kernel
theorem dX1_key_30 : decode cX1_key 30 = .ok (.lstore_n 1, 1) := by decide +kernel
theorem dX1_key_31 : decode cX1_key 31 = .ok (.iconst 0, 1) := by decide +kernel
theorem dX1_key_32 : decode cX1_key 32 = .ok (.istore_n 3, 1) := by decide +kernel
theorem dX1_key_33 : decode cX1_key 33 = .ok (.iload_n 3, 1) := by decide +kernel
theorem dX1_key_34 : decode cX1_key 34 = .ok (.bipush 64, 2) := by decide +kernel
theorem dX1_key_36 : decode cX1_key 36 = .ok (.if_icmp .ge 42, 3) := by decide +kernel
theorem dX1_key_39 : decode cX1_key 39 = .ok (.aload_n 0, 1) := by decide +kernel
theorem dX1_key_40 : decode cX1_key 40 = .ok (.getfield 7, 3) := by decide +kernel
theorem dX1_key_43 : decode cX1_key 43 = .ok (.iload_n 3, 1) := by decide +kernel
theorem dX1_key_44 : decode cX1_key 44 = .ok (.iaload, 1) := by decide +kernel
theorem dX1_key_45 : decode cX1_key 45 = .ok (.ifCond .le 25, 3) := by decide +kernel
theorem dX1_key_48 : decode cX1_key 48 = .ok (.lload_n 1, 1) := by decide +kernel
theorem dX1_key_49 : decode cX1_key 49 = .ok (.ldc2_w 117, 3) := by decide +kernel
theorem dX1_key_52 : decode cX1_key 52 = .ok (.aload_n 0, 1) := by decide +kernel
theorem dX1_key_53 : decode cX1_key 53 = .ok (.getfield 7, 3) := by decide +kernel
theorem dX1_key_56 : decode cX1_key 56 = .ok (.iload_n 3, 1) := by decide +kernel
theorem dX1_key_57 : decode cX1_key 57 = .ok (.iaload, 1) := by decide +kernel
theorem dX1_key_58 : decode cX1_key 58 = .ok (.i2l, 1) := by decide +kernel
theorem dX1_key_59 : decode cX1_key 59 = .ok (.lmul, 1) := by decide +kernel
theorem dX1_key_60 : decode cX1_key 60 = .ok (.iload_n 3, 1) := by decide +kernel
theorem dX1_key_61 : decode cX1_key 61 = .ok (.i2l, 1) := by decide +kernel
theorem dX1_key_62 : decode cX1_key 62 = .ok (.ladd, 1) := by decide +kernel
theorem dX1_key_63 : decode cX1_key 63 = .ok (.invokestatic 111, 3) := by decide +kernel
theorem dX1_key_66 : decode cX1_key 66 = .ok (.lxor, 1) := by decide +kernel
theorem dX1_key_67 : decode cX1_key 67 = .ok (.goto 4, 3) := by decide +kernel
theorem dX1_key_70 : decode cX1_key 70 = .ok (.lload_n 1, 1) := by decide +kernel
theorem dX1_key_71 : decode cX1_key 71 = .ok (.lstore_n 1, 1) := by decide +kernel
theorem dX1_key_72 : decode cX1_key 72 = .ok (.iinc 3 1, 3) := by decide +kernel
theorem dX1_key_75 : decode cX1_key 75 = .ok (.goto (-42), 3) := by decide +kernel
theorem dX1_key_78 : decode cX1_key 78 = .ok (.aload_n 0, 1) := by decide +kernel
theorem dX1_key_79 : decode cX1_key 79 = .ok (.getfield 34, 3) := by decide +kernel
theorem dX1_key_82 : decode cX1_key 82 = .ok (.iconst 1, 1) := by decide +kernel
theorem dX1_key_83 : decode cX1_key 83 = .ok (.if_icmp .ne 14, 3) := by decide +kernel
theorem dX1_key_86 : decode cX1_key 86 = .ok (.lload_n 1, 1) := by decide +kernel
theorem dX1_key_87 : decode cX1_key 87 = .ok (.ldc2_w 119, 3) := by decide +kernel
theorem dX1_key_90 : decode cX1_key 90 = .ok (.invokestatic 111, 3) := by decide +kernel
theorem dX1_key_93 : decode cX1_key 93 = .ok (.lxor, 1) := by decide +kernel
theorem dX1_key_94 : decode cX1_key 94 = .ok (.goto 4, 3) := by decide +kernel
theorem dX1_key_97 : decode cX1_key 97 = .ok (.lload_n 1, 1) := by decide +kernel
theorem dX1_key_98 : decode cX1_key 98 = .ok (.lreturn, 1) := by decide +kernel
theorem dX1_move_0 : decode cX1_move 0 = .ok (.aload_n 0, 1) := by decide +kernel
theorem dX1_move_1 : decode cX1_move 1 = .ok (.iconst 0, 1) := by decide +kernel
theorem dX1_move_2 : decode cX1_move 2 = .ok (.putfield 31, 3) := by decide +kernel
theorem dX1_move_5 : decode cX1_move 5 = .ok (.iload_n 1, 1) := by decide +kernel
theorem dX1_move_6 : decode cX1_move 6 = .ok (.ifCond .lt 11, 3) := by decide +kernel
theorem dX1_move_9 : decode cX1_move 9 = .ok (.iload_n 1, 1) := by decide +kernel
theorem dX1_move_10 : decode cX1_move 10 = .ok (.aload_n 0, 1) := by decide +kernel
theorem dX1_move_11 : decode cX1_move 11 = .ok (.getfield 43, 3) := by decide +kernel
theorem dX1_move_14 : decode cX1_move 14 = .ok (.if_icmp .lt 7, 3) := by decide +kernel
theorem dX1_move_17 : decode cX1_move 17 = .ok (.iconst (-1), 1) := by decide +kernel
theorem dX1_move_18 : decode cX1_move 18 = .ok (.goto 9, 3) := by decide +kernel
theorem dX1_move_21 : decode cX1_move 21 = .ok (.aload_n 0, 1) := by decide +kernel
theorem dX1_move_22 : decode cX1_move 22 = .ok (.getfield 20, 3) := by decide +kernel
theorem dX1_move_25 : decode cX1_move 25 = .ok (.iload_n 1, 1) := by decide +kernel
theorem dX1_move_26 : decode cX1_move 26 = .ok (.iaload, 1) := by decide +kernel
theorem dX1_move_27 : decode cX1_move 27 = .ok (.ireturn, 1) := by decide +kernel
set_option maxRecDepth 20000 in
theorem ggX1_material_X1_sideOf : GoodIn wsX1_material wsX1_sideOf := goodIn_r _ [5] (by decide +kernel) (by decide +kernel)
set_option maxRecDepth 20000 in
theorem gX1_material_X1_sideOf : GoodIn wsX1_material (va_wsS RX1 68 yX1_sideOf wsX1_sideOf) := goodIn_app (goodIn_of _ (by decide +kernel)) ggX1_material_X1_sideOf
set_option maxRecDepth 20000 in
theorem ggX1_material_X1_kindOf : GoodIn wsX1_material wsX1_kindOf := goodIn_r _ [8] (by decide +kernel) (by decide +kernel)
set_option maxRecDepth 20000 in
theorem gX1_material_X1_kindOf : GoodIn wsX1_material (va_wsS RX1 61 yX1_kindOf wsX1_kindOf) := goodIn_app (goodIn_of _ (by decide +kernel)) ggX1_material_X1_kindOf
theorem dX1_material_0 : decode cX1_material 0 = .ok (.iconst 0, 1) := by decide +kernel
theorem dX1_material_1 : decode cX1_material 1 = .ok (.istore_n 2, 1) := by decide +kernel
theorem dX1_material_2 : decode cX1_material 2 = .ok (.iconst 0, 1) := by decide +kernel
theorem dX1_material_3 : decode cX1_material 3 = .ok (.istore_n 3, 1) := by decide +kernel
theorem dX1_material_4 : decode cX1_material 4 = .ok (.iload_n 3, 1) := by decide +kernel
theorem dX1_material_5 : decode cX1_material 5 = .ok (.bipush 64, 2) := by decide +kernel
theorem dX1_material_7 : decode cX1_material 7 = .ok (.if_icmp .ge 88, 3) := by decide +kernel
theorem dX1_material_10 : decode cX1_material 10 = .ok (.aload_n 0, 1) := by decide +kernel
theorem dX1_material_11 : decode cX1_material 11 = .ok (.getfield 7, 3) := by decide +kernel
theorem dX1_material_14 : decode cX1_material 14 = .ok (.iload_n 3, 1) := by decide +kernel
theorem dX1_material_15 : decode cX1_material 15 = .ok (.iaload, 1) := by decide +kernel
theorem dX1_material_16 : decode cX1_material 16 = .ok (.invokestatic 68, 3) := by decide +kernel
theorem dX1_material_19 : decode cX1_material 19 = .ok (.iload_n 1, 1) := by decide +kernel
theorem dX1_material_20 : decode cX1_material 20 = .ok (.if_icmp .ne 15, 3) := by decide +kernel
theorem dX1_material_23 : decode cX1_material 23 = .ok (.aload_n 0, 1) := by decide +kernel
theorem dX1_material_24 : decode cX1_material 24 = .ok (.getfield 7, 3) := by decide +kernel
theorem dX1_material_27 : decode cX1_material 27 = .ok (.iload_n 3, 1) := by decide +kernel
theorem dX1_material_28 : decode cX1_material 28 = .ok (.iaload, 1) := by decide +kernel
theorem dX1_material_29 : decode cX1_material 29 = .ok (.invokestatic 61, 3) := by decide +kernel
theorem dX1_material_32 : decode cX1_material 32 = .ok (.goto 4, 3) := by decide +kernel
theorem dX1_material_35 : decode cX1_material 35 = .ok (.iconst 0, 1) := by decide +kernel
theorem dX1_material_36 : decode cX1_material 36 = .ok (.istore 4, 2) := by decide +kernel
theorem dX1_material_38 : decode cX1_material 38 = .ok (.iload_n 2, 1) := by decide +kernel
theorem dX1_material_39 : decode cX1_material 39 = .ok (.iload 4, 2) := by decide +kernel
theorem dX1_material_41 : decode cX1_material 41 = .ok (.iconst 1, 1) := by decide +kernel
theorem dX1_material_42 : decode cX1_material 42 = .ok (.if_icmp .ne 7, 3) := by decide +kernel
theorem dX1_material_45 : decode cX1_material 45 = .ok (.iconst 1, 1) := by decide +kernel
theorem dX1_material_46 : decode cX1_material 46 = .ok (.goto 41, 3) := by decide +kernel
theorem dX1_material_49 : decode cX1_material 49 = .ok (.iload 4, 2) := by decide +kernel
theorem dX1_material_51 : decode cX1_material 51 = .ok (.iconst 2, 1) := by decide +kernel
theorem dX1_material_52 : decode cX1_material 52 = .ok (.if_icmp .eq 9, 3) := by decide +kernel
theorem dX1_material_55 : decode cX1_material 55 = .ok (.iload 4, 2) := by decide +kernel
theorem dX1_material_57 : decode cX1_material 57 = .ok (.iconst 3, 1) := by decide +kernel
theorem dX1_material_58 : decode cX1_material 58 = .ok (.if_icmp .ne 7, 3) := by decide +kernel
theorem dX1_material_61 : decode cX1_material 61 = .ok (.iconst 3, 1) := by decide +kernel
theorem dX1_material_62 : decode cX1_material 62 = .ok (.goto 25, 3) := by decide +kernel
theorem dX1_material_65 : decode cX1_material 65 = .ok (.iload 4, 2) := by decide +kernel
theorem dX1_material_67 : decode cX1_material 67 = .ok (.iconst 4, 1) := by decide +kernel
theorem dX1_material_68 : decode cX1_material 68 = .ok (.if_icmp .ne 7, 3) := by decide +kernel
theorem dX1_material_71 : decode cX1_material 71 = .ok (.iconst 5, 1) := by decide +kernel
theorem dX1_material_72 : decode cX1_material 72 = .ok (.goto 15, 3) := by decide +kernel
theorem dX1_material_75 : decode cX1_material 75 = .ok (.iload 4, 2) := by decide +kernel
theorem dX1_material_77 : decode cX1_material 77 = .ok (.iconst 5, 1) := by decide +kernel
theorem dX1_material_78 : decode cX1_material 78 = .ok (.if_icmp .ne 8, 3) := by decide +kernel
theorem dX1_material_81 : decode cX1_material 81 = .ok (.bipush 9, 2) := by decide +kernel
theorem dX1_material_83 : decode cX1_material 83 = .ok (.goto 4, 3) := by decide +kernel
theorem dX1_material_86 : decode cX1_material 86 = .ok (.iconst 0, 1) := by decide +kernel
theorem dX1_material_87 : decode cX1_material 87 = .ok (.iadd, 1) := by decide +kernel
theorem dX1_material_88 : decode cX1_material 88 = .ok (.istore_n 2, 1) := by decide +kernel
theorem dX1_material_89 : decode cX1_material 89 = .ok (.iinc 3 1, 3) := by decide +kernel
theorem dX1_material_92 : decode cX1_material 92 = .ok (.goto (-88), 3) := by decide +kernel
theorem dX1_material_95 : decode cX1_material 95 = .ok (.iload_n 2, 1) := by decide +kernel
theorem dX1_material_96 : decode cX1_material 96 = .ok (.ireturn, 1) := by decide +kernel
set_option maxRecDepth 20000 in
theorem ggX1_look_X1_pieces : GoodIn wsX1_look wsX1_pieces := goodIn_r _ [12, 13, 24, 25, 26, 27, 28, 29, 30, 31, 32, 33, 34] (by decide +kernel) (by decide +kernel)
set_option maxRecDepth 20000 in
theorem gX1_look_X1_pieces : GoodIn wsX1_look (wsV RX1 57 RX1 yX1_pieces wsX1_pieces) := goodIn_app (goodIn_of _ (by decide +kernel)) ggX1_look_X1_pieces
set_option maxRecDepth 20000 in
theorem ggX1_look_X1_material : GoodIn wsX1_look wsX1_material := goodIn_r _ [17, 13, 18, 19, 11, 20, 21, 22, 23, 24, 25, 26, 27, 28, 29, 30, 31, 32, 33, 34] (by decide +kernel) (by decide +kernel)
set_option maxRecDepth 20000 in
theorem gX1_look_X1_material : GoodIn wsX1_look (wsV RX1 121 RX1 yX1_material wsX1_material) := goodIn_app (goodIn_of _ (by decide +kernel)) ggX1_look_X1_material
theorem dX1_look_0 : decode cX1_look 0 = .ok (.aload_n 0, 1) := by decide +kernel
theorem dX1_look_1 : decode cX1_look 1 = .ok (.iconst 0, 1) := by decide +kernel
theorem dX1_look_2 : decode cX1_look 2 = .ok (.putfield 31, 3) := by decide +kernel
theorem dX1_look_5 : decode cX1_look 5 = .ok (.iload_n 1, 1) := by decide +kernel
theorem dX1_look_6 : decode cX1_look 6 = .ok (.tableswitch 94 0 8 #[50, 55, 60, 65, 70, 75, 80, 85, 85], 50) := by decide +kernel
theorem dX1_look_56 : decode cX1_look 56 = .ok (.aload_n 0, 1) := by decide +kernel
theorem dX1_look_57 : decode cX1_look 57 = .ok (.getfield 34, 3) := by decide +kernel
theorem dX1_look_60 : decode cX1_look 60 = .ok (.ireturn, 1) := by decide +kernel
theorem dX1_look_61 : decode cX1_look 61 = .ok (.aload_n 0, 1) := by decide +kernel
theorem dX1_look_62 : decode cX1_look 62 = .ok (.getfield 37, 3) := by decide +kernel
theorem dX1_look_65 : decode cX1_look 65 = .ok (.ireturn, 1) := by decide +kernel
theorem dX1_look_66 : decode cX1_look 66 = .ok (.aload_n 0, 1) := by decide +kernel
theorem dX1_look_67 : decode cX1_look 67 = .ok (.getfield 13, 3) := by decide +kernel
theorem dX1_look_70 : decode cX1_look 70 = .ok (.ireturn, 1) := by decide +kernel
theorem dX1_look_71 : decode cX1_look 71 = .ok (.aload_n 0, 1) := by decide +kernel
theorem dX1_look_72 : decode cX1_look 72 = .ok (.getfield 40, 3) := by decide +kernel
theorem dX1_look_75 : decode cX1_look 75 = .ok (.ireturn, 1) := by decide +kernel
theorem dX1_look_76 : decode cX1_look 76 = .ok (.aload_n 0, 1) := by decide +kernel
theorem dX1_look_77 : decode cX1_look 77 = .ok (.getfield 17, 3) := by decide +kernel
theorem dX1_look_80 : decode cX1_look 80 = .ok (.ireturn, 1) := by decide +kernel
theorem dX1_look_81 : decode cX1_look 81 = .ok (.aload_n 0, 1) := by decide +kernel
theorem dX1_look_82 : decode cX1_look 82 = .ok (.invokevirtual 57, 3) := by decide +kernel
theorem dX1_look_85 : decode cX1_look 85 = .ok (.ireturn, 1) := by decide +kernel
theorem dX1_look_86 : decode cX1_look 86 = .ok (.aload_n 0, 1) := by decide +kernel
theorem dX1_look_87 : decode cX1_look 87 = .ok (.getfield 43, 3) := by decide +kernel
theorem dX1_look_90 : decode cX1_look 90 = .ok (.ireturn, 1) := by decide +kernel
theorem dX1_look_91 : decode cX1_look 91 = .ok (.aload_n 0, 1) := by decide +kernel
theorem dX1_look_92 : decode cX1_look 92 = .ok (.iload_n 1, 1) := by decide +kernel
theorem dX1_look_93 : decode cX1_look 93 = .ok (.bipush 7, 2) := by decide +kernel
theorem dX1_look_95 : decode cX1_look 95 = .ok (.isub, 1) := by decide +kernel
theorem dX1_look_96 : decode cX1_look 96 = .ok (.invokevirtual 121, 3) := by decide +kernel
theorem dX1_look_99 : decode cX1_look 99 = .ok (.ireturn, 1) := by decide +kernel
theorem dX1_look_100 : decode cX1_look 100 = .ok (.iconst (-1), 1) := by decide +kernel
theorem dX1_look_101 : decode cX1_look 101 = .ok (.ireturn, 1) := by decide +kernel
theorem dJ6_compare_7cf53_0 : decode cJ6_compare_7cf53 0 = .ok (.iload_n 0, 1) := by decide +kernel
theorem dJ6_compare_7cf53_1 : decode cJ6_compare_7cf53 1 = .ok (.iload_n 1, 1) := by decide +kernel
theorem dJ6_compare_7cf53_2 : decode cJ6_compare_7cf53 2 = .ok (.if_icmp .ge 7, 3) := by decide +kernel
theorem dJ6_compare_7cf53_5 : decode cJ6_compare_7cf53 5 = .ok (.iconst (-1), 1) := by decide +kernel
theorem dJ6_compare_7cf53_6 : decode cJ6_compare_7cf53 6 = .ok (.goto 13, 3) := by decide +kernel
theorem dJ6_compare_7cf53_9 : decode cJ6_compare_7cf53 9 = .ok (.iload_n 0, 1) := by decide +kernel
theorem dJ6_compare_7cf53_10 : decode cJ6_compare_7cf53 10 = .ok (.iload_n 1, 1) := by decide +kernel
theorem dJ6_compare_7cf53_11 : decode cJ6_compare_7cf53 11 = .ok (.if_icmp .ne 7, 3) := by decide +kernel
theorem dJ6_compare_7cf53_14 : decode cJ6_compare_7cf53 14 = .ok (.iconst 0, 1) := by decide +kernel
theorem dJ6_compare_7cf53_15 : decode cJ6_compare_7cf53 15 = .ok (.goto 4, 3) := by decide +kernel
theorem dJ6_compare_7cf53_18 : decode cJ6_compare_7cf53 18 = .ok (.iconst 1, 1) := by decide +kernel
theorem dJ6_compare_7cf53_19 : decode cJ6_compare_7cf53 19 = .ok (.ireturn, 1) := by decide +kernel
theorem dJ13_bitCount_95d88_0 : decode cJ13_bitCount_95d88 0 = .ok (.lload_n 0, 1) := by decide +kernel
theorem dJ13_bitCount_95d88_1 : decode cJ13_bitCount_95d88 1 = .ok (.lload_n 0, 1) := by decide +kernel
theorem dJ13_bitCount_95d88_2 : decode cJ13_bitCount_95d88 2 = .ok (.iconst 1, 1) := by decide +kernel
theorem dJ13_bitCount_95d88_3 : decode cJ13_bitCount_95d88 3 = .ok (.lushr, 1) := by decide +kernel
theorem dJ13_bitCount_95d88_4 : decode cJ13_bitCount_95d88 4 = .ok (.ldc2_w 314, 3) := by decide +kernel
theorem dJ13_bitCount_95d88_7 : decode cJ13_bitCount_95d88 7 = .ok (.land, 1) := by decide +kernel
theorem dJ13_bitCount_95d88_8 : decode cJ13_bitCount_95d88 8 = .ok (.lsub, 1) := by decide +kernel
theorem dJ13_bitCount_95d88_9 : decode cJ13_bitCount_95d88 9 = .ok (.lstore_n 0, 1) := by decide +kernel
theorem dJ13_bitCount_95d88_10 : decode cJ13_bitCount_95d88 10 = .ok (.lload_n 0, 1) := by decide +kernel
theorem dJ13_bitCount_95d88_11 : decode cJ13_bitCount_95d88 11 = .ok (.ldc2_w 316, 3) := by decide +kernel
theorem dJ13_bitCount_95d88_14 : decode cJ13_bitCount_95d88 14 = .ok (.land, 1) := by decide +kernel
theorem dJ13_bitCount_95d88_15 : decode cJ13_bitCount_95d88 15 = .ok (.lload_n 0, 1) := by decide +kernel
theorem dJ13_bitCount_95d88_16 : decode cJ13_bitCount_95d88 16 = .ok (.iconst 2, 1) := by decide +kernel
theorem dJ13_bitCount_95d88_17 : decode cJ13_bitCount_95d88 17 = .ok (.lushr, 1) := by decide +kernel
theorem dJ13_bitCount_95d88_18 : decode cJ13_bitCount_95d88 18 = .ok (.ldc2_w 316, 3) := by decide +kernel
theorem dJ13_bitCount_95d88_21 : decode cJ13_bitCount_95d88 21 = .ok (.land, 1) := by decide +kernel
theorem dJ13_bitCount_95d88_22 : decode cJ13_bitCount_95d88 22 = .ok (.ladd, 1) := by decide +kernel
theorem dJ13_bitCount_95d88_23 : decode cJ13_bitCount_95d88 23 = .ok (.lstore_n 0, 1) := by decide +kernel
theorem dJ13_bitCount_95d88_24 : decode cJ13_bitCount_95d88 24 = .ok (.lload_n 0, 1) := by decide +kernel
theorem dJ13_bitCount_95d88_25 : decode cJ13_bitCount_95d88 25 = .ok (.lload_n 0, 1) := by decide +kernel
theorem dJ13_bitCount_95d88_26 : decode cJ13_bitCount_95d88 26 = .ok (.iconst 4, 1) := by decide +kernel
theorem dJ13_bitCount_95d88_27 : decode cJ13_bitCount_95d88 27 = .ok (.lushr, 1) := by decide +kernel
theorem dJ13_bitCount_95d88_28 : decode cJ13_bitCount_95d88 28 = .ok (.ladd, 1) := by decide +kernel
theorem dJ13_bitCount_95d88_29 : decode cJ13_bitCount_95d88 29 = .ok (.ldc2_w 318, 3) := by decide +kernel
theorem dJ13_bitCount_95d88_32 : decode cJ13_bitCount_95d88 32 = .ok (.land, 1) := by decide +kernel
theorem dJ13_bitCount_95d88_33 : decode cJ13_bitCount_95d88 33 = .ok (.lstore_n 0, 1) := by decide +kernel
theorem dJ13_bitCount_95d88_34 : decode cJ13_bitCount_95d88 34 = .ok (.lload_n 0, 1) := by decide +kernel
theorem dJ13_bitCount_95d88_35 : decode cJ13_bitCount_95d88 35 = .ok (.lload_n 0, 1) := by decide +kernel
theorem dJ13_bitCount_95d88_36 : decode cJ13_bitCount_95d88 36 = .ok (.bipush 8, 2) := by decide +kernel
theorem dJ13_bitCount_95d88_38 : decode cJ13_bitCount_95d88 38 = .ok (.lushr, 1) := by decide +kernel
theorem dJ13_bitCount_95d88_39 : decode cJ13_bitCount_95d88 39 = .ok (.ladd, 1) := by decide +kernel
theorem dJ13_bitCount_95d88_40 : decode cJ13_bitCount_95d88 40 = .ok (.lstore_n 0, 1) := by decide +kernel
theorem dJ13_bitCount_95d88_41 : decode cJ13_bitCount_95d88 41 = .ok (.lload_n 0, 1) := by decide +kernel
theorem dJ13_bitCount_95d88_42 : decode cJ13_bitCount_95d88 42 = .ok (.lload_n 0, 1) := by decide +kernel
theorem dJ13_bitCount_95d88_43 : decode cJ13_bitCount_95d88 43 = .ok (.bipush 16, 2) := by decide +kernel
theorem dJ13_bitCount_95d88_45 : decode cJ13_bitCount_95d88 45 = .ok (.lushr, 1) := by decide +kernel
theorem dJ13_bitCount_95d88_46 : decode cJ13_bitCount_95d88 46 = .ok (.ladd, 1) := by decide +kernel
theorem dJ13_bitCount_95d88_47 : decode cJ13_bitCount_95d88 47 = .ok (.lstore_n 0, 1) := by decide +kernel
theorem dJ13_bitCount_95d88_48 : decode cJ13_bitCount_95d88 48 = .ok (.lload_n 0, 1) := by decide +kernel
theorem dJ13_bitCount_95d88_49 : decode cJ13_bitCount_95d88 49 = .ok (.lload_n 0, 1) := by decide +kernel
theorem dJ13_bitCount_95d88_50 : decode cJ13_bitCount_95d88 50 = .ok (.bipush 32, 2) := by decide +kernel
theorem dJ13_bitCount_95d88_52 : decode cJ13_bitCount_95d88 52 = .ok (.lushr, 1) := by decide +kernel
theorem dJ13_bitCount_95d88_53 : decode cJ13_bitCount_95d88 53 = .ok (.ladd, 1) := by decide +kernel
theorem dJ13_bitCount_95d88_54 : decode cJ13_bitCount_95d88 54 = .ok (.lstore_n 0, 1) := by decide +kernel
theorem dJ13_bitCount_95d88_55 : decode cJ13_bitCount_95d88 55 = .ok (.lload_n 0, 1) := by decide +kernel
theorem dJ13_bitCount_95d88_56 : decode cJ13_bitCount_95d88 56 = .ok (.l2i, 1) := by decide +kernel
theorem dJ13_bitCount_95d88_57 : decode cJ13_bitCount_95d88 57 = .ok (.bipush 127, 2) := by decide +kernel
theorem dJ13_bitCount_95d88_59 : decode cJ13_bitCount_95d88 59 = .ok (.iand, 1) := by decide +kernel
theorem dJ13_bitCount_95d88_60 : decode cJ13_bitCount_95d88 60 = .ok (.ireturn, 1) := by decide +kernel
theorem dJ9_abs_0f7a4_0 : decode cJ9_abs_0f7a4 0 = .ok (.iload_n 0, 1) := by decide +kernel
theorem dJ9_abs_0f7a4_1 : decode cJ9_abs_0f7a4 1 = .ok (.ifCond .ge 8, 3) := by decide +kernel
theorem dJ9_abs_0f7a4_4 : decode cJ9_abs_0f7a4 4 = .ok (.iload_n 0, 1) := by decide +kernel
theorem dJ9_abs_0f7a4_5 : decode cJ9_abs_0f7a4 5 = .ok (.ineg, 1) := by decide +kernel
theorem dJ9_abs_0f7a4_6 : decode cJ9_abs_0f7a4 6 = .ok (.goto 4, 3) := by decide +kernel
theorem dJ9_abs_0f7a4_9 : decode cJ9_abs_0f7a4 9 = .ok (.iload_n 0, 1) := by decide +kernel
theorem dJ9_abs_0f7a4_10 : decode cJ9_abs_0f7a4 10 = .ok (.ireturn, 1) := by decide +kernel
theorem dJ9_max_7cf53_0 : decode cJ9_max_7cf53 0 = .ok (.iload_n 0, 1) := by decide +kernel
theorem dJ9_max_7cf53_1 : decode cJ9_max_7cf53 1 = .ok (.iload_n 1, 1) := by decide +kernel
theorem dJ9_max_7cf53_2 : decode cJ9_max_7cf53 2 = .ok (.if_icmp .lt 7, 3) := by decide +kernel
theorem dJ9_max_7cf53_5 : decode cJ9_max_7cf53 5 = .ok (.iload_n 0, 1) := by decide +kernel
theorem dJ9_max_7cf53_6 : decode cJ9_max_7cf53 6 = .ok (.goto 4, 3) := by decide +kernel
theorem dJ9_max_7cf53_9 : decode cJ9_max_7cf53 9 = .ok (.iload_n 1, 1) := by decide +kernel
theorem dJ9_max_7cf53_10 : decode cJ9_max_7cf53 10 = .ok (.ireturn, 1) := by decide +kernel

