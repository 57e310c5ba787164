/-! the law's body: decode rows, the sixteen arms (written by wip/whole/m45.py) -/
theorem dd_La_law_0 : decode code 0 = .ok (.new 8, 3) := by decide +kernel
theorem dd_La_law_3 : decode code 3 = .ok (.dup, 1) := by decide +kernel
theorem dd_La_law_4 : decode code 4 = .ok (.invokespecial 54, 3) := by decide +kernel
theorem dd_La_law_7 : decode code 7 = .ok (.astore_n 1, 1) := by decide +kernel
theorem dd_La_law_8 : decode code 8 = .ok (.new 55, 3) := by decide +kernel
theorem dd_La_law_11 : decode code 11 = .ok (.dup, 1) := by decide +kernel
theorem dd_La_law_12 : decode code 12 = .ok (.invokespecial 57, 3) := by decide +kernel
theorem dd_La_law_15 : decode code 15 = .ok (.astore_n 2, 1) := by decide +kernel
theorem dd_La_law_16 : decode code 16 = .ok (.iconst 1, 1) := by decide +kernel
theorem dd_La_law_17 : decode code 17 = .ok (.newarray .long, 2) := by decide +kernel
theorem dd_La_law_19 : decode code 19 = .ok (.astore_n 3, 1) := by decide +kernel
theorem dd_La_law_20 : decode code 20 = .ok (.iconst 0, 1) := by decide +kernel
theorem dd_La_law_21 : decode code 21 = .ok (.istore 4, 2) := by decide +kernel
theorem dd_La_law_23 : decode code 23 = .ok (.iload 4, 2) := by decide +kernel
theorem dd_La_law_25 : decode code 25 = .ok (.aload_n 0, 1) := by decide +kernel
theorem dd_La_law_26 : decode code 26 = .ok (.arraylength, 1) := by decide +kernel
theorem dd_La_law_27 : decode code 27 = .ok (.iconst 5, 1) := by decide +kernel
theorem dd_La_law_28 : decode code 28 = .ok (.isub, 1) := by decide +kernel
theorem dd_La_law_29 : decode code 29 = .ok (.if_icmp .gt 1111, 3) := by decide +kernel
theorem dd_La_law_32 : decode code 32 = .ok (.aload_n 0, 1) := by decide +kernel
theorem dd_La_law_33 : decode code 33 = .ok (.iload 4, 2) := by decide +kernel
theorem dd_La_law_35 : decode code 35 = .ok (.iaload, 1) := by decide +kernel
theorem dd_La_law_36 : decode code 36 = .ok (.bipush 15, 2) := by decide +kernel
theorem dd_La_law_38 : decode code 38 = .ok (.iand, 1) := by decide +kernel
theorem dd_La_law_39 : decode code 39 = .ok (.tableswitch 1095 0 15 #[77, 169, 244, 312, 375, 438, 501, 576, 639, 700, 737, 774, 811, 879, 959, 1027], 77) := by decide +kernel
theorem dd_La_law_116 : decode code 116 = .ok (.aload_n 1, 1) := by decide +kernel
theorem dd_La_law_117 : decode code 117 = .ok (.aload_n 0, 1) := by decide +kernel
theorem dd_La_law_118 : decode code 118 = .ok (.iload 4, 2) := by decide +kernel
theorem dd_La_law_120 : decode code 120 = .ok (.iconst 1, 1) := by decide +kernel
theorem dd_La_law_121 : decode code 121 = .ok (.iadd, 1) := by decide +kernel
theorem dd_La_law_122 : decode code 122 = .ok (.iaload, 1) := by decide +kernel
theorem dd_La_law_123 : decode code 123 = .ok (.aload_n 0, 1) := by decide +kernel
theorem dd_La_law_124 : decode code 124 = .ok (.iload 4, 2) := by decide +kernel
theorem dd_La_law_126 : decode code 126 = .ok (.iconst 2, 1) := by decide +kernel
theorem dd_La_law_127 : decode code 127 = .ok (.iadd, 1) := by decide +kernel
theorem dd_La_law_128 : decode code 128 = .ok (.iaload, 1) := by decide +kernel
theorem dd_La_law_129 : decode code 129 = .ok (.aload_n 0, 1) := by decide +kernel
theorem dd_La_law_130 : decode code 130 = .ok (.iload 4, 2) := by decide +kernel
theorem dd_La_law_132 : decode code 132 = .ok (.iconst 3, 1) := by decide +kernel
theorem dd_La_law_133 : decode code 133 = .ok (.iadd, 1) := by decide +kernel
theorem dd_La_law_134 : decode code 134 = .ok (.iaload, 1) := by decide +kernel
theorem dd_La_law_135 : decode code 135 = .ok (.aload_n 0, 1) := by decide +kernel
theorem dd_La_law_136 : decode code 136 = .ok (.iload 4, 2) := by decide +kernel
theorem dd_La_law_138 : decode code 138 = .ok (.iconst 4, 1) := by decide +kernel
theorem dd_La_law_139 : decode code 139 = .ok (.iadd, 1) := by decide +kernel
theorem dd_La_law_140 : decode code 140 = .ok (.iaload, 1) := by decide +kernel
theorem dd_La_law_141 : decode code 141 = .ok (.aload_n 3, 1) := by decide +kernel
theorem dd_La_law_142 : decode code 142 = .ok (.invokestatic 58, 3) := by decide +kernel
theorem dd_La_law_145 : decode code 145 = .ok (.istore 5, 2) := by decide +kernel
theorem dd_La_law_147 : decode code 147 = .ok (.aload_n 2, 1) := by decide +kernel
theorem dd_La_law_148 : decode code 148 = .ok (.aload_n 0, 1) := by decide +kernel
theorem dd_La_law_149 : decode code 149 = .ok (.iload 4, 2) := by decide +kernel
theorem dd_La_law_151 : decode code 151 = .ok (.iconst 1, 1) := by decide +kernel
theorem dd_La_law_152 : decode code 152 = .ok (.iadd, 1) := by decide +kernel
theorem dd_La_law_153 : decode code 153 = .ok (.iaload, 1) := by decide +kernel
theorem dd_La_law_154 : decode code 154 = .ok (.aload_n 0, 1) := by decide +kernel
theorem dd_La_law_155 : decode code 155 = .ok (.iload 4, 2) := by decide +kernel
theorem dd_La_law_157 : decode code 157 = .ok (.iconst 2, 1) := by decide +kernel
theorem dd_La_law_158 : decode code 158 = .ok (.iadd, 1) := by decide +kernel
theorem dd_La_law_159 : decode code 159 = .ok (.iaload, 1) := by decide +kernel
theorem dd_La_law_160 : decode code 160 = .ok (.aload_n 0, 1) := by decide +kernel
theorem dd_La_law_161 : decode code 161 = .ok (.iload 4, 2) := by decide +kernel
theorem dd_La_law_163 : decode code 163 = .ok (.iconst 3, 1) := by decide +kernel
theorem dd_La_law_164 : decode code 164 = .ok (.iadd, 1) := by decide +kernel
theorem dd_La_law_165 : decode code 165 = .ok (.iaload, 1) := by decide +kernel
theorem dd_La_law_166 : decode code 166 = .ok (.aload_n 0, 1) := by decide +kernel
theorem dd_La_law_167 : decode code 167 = .ok (.iload 4, 2) := by decide +kernel
theorem dd_La_law_169 : decode code 169 = .ok (.iconst 4, 1) := by decide +kernel
theorem dd_La_law_170 : decode code 170 = .ok (.iadd, 1) := by decide +kernel
theorem dd_La_law_171 : decode code 171 = .ok (.iaload, 1) := by decide +kernel
theorem dd_La_law_172 : decode code 172 = .ok (.invokevirtual 63, 3) := by decide +kernel
theorem dd_La_law_175 : decode code 175 = .ok (.istore 6, 2) := by decide +kernel
theorem dd_La_law_177 : decode code 177 = .ok (.aload_n 2, 1) := by decide +kernel
theorem dd_La_law_178 : decode code 178 = .ok (.invokevirtual 64, 3) := by decide +kernel
theorem dd_La_law_181 : decode code 181 = .ok (.iload 5, 2) := by decide +kernel
theorem dd_La_law_183 : decode code 183 = .ok (.if_icmp .eq 5, 3) := by decide +kernel
theorem dd_La_law_186 : decode code 186 = .ok (.iconst 0, 1) := by decide +kernel
theorem dd_La_law_187 : decode code 187 = .ok (.ireturn, 1) := by decide +kernel
theorem dd_La_law_188 : decode code 188 = .ok (.iload 5, 2) := by decide +kernel
theorem dd_La_law_190 : decode code 190 = .ok (.ifCond .ne 15, 3) := by decide +kernel
theorem dd_La_law_193 : decode code 193 = .ok (.aload_n 3, 1) := by decide +kernel
theorem dd_La_law_194 : decode code 194 = .ok (.iconst 0, 1) := by decide +kernel
theorem dd_La_law_195 : decode code 195 = .ok (.laload, 1) := by decide +kernel
theorem dd_La_law_196 : decode code 196 = .ok (.iload 6, 2) := by decide +kernel
theorem dd_La_law_198 : decode code 198 = .ok (.i2l, 1) := by decide +kernel
theorem dd_La_law_199 : decode code 199 = .ok (.lcmp, 1) := by decide +kernel
theorem dd_La_law_200 : decode code 200 = .ok (.ifCond .eq 5, 3) := by decide +kernel
theorem dd_La_law_203 : decode code 203 = .ok (.iconst 0, 1) := by decide +kernel
theorem dd_La_law_204 : decode code 204 = .ok (.ireturn, 1) := by decide +kernel
theorem dd_La_law_205 : decode code 205 = .ok (.goto 929, 3) := by decide +kernel
theorem dd_La_law_208 : decode code 208 = .ok (.aload_n 1, 1) := by decide +kernel
theorem dd_La_law_209 : decode code 209 = .ok (.aload_n 0, 1) := by decide +kernel
theorem dd_La_law_210 : decode code 210 = .ok (.iload 4, 2) := by decide +kernel
theorem dd_La_law_212 : decode code 212 = .ok (.iconst 1, 1) := by decide +kernel
theorem dd_La_law_213 : decode code 213 = .ok (.iadd, 1) := by decide +kernel
theorem dd_La_law_214 : decode code 214 = .ok (.iaload, 1) := by decide +kernel
theorem dd_La_law_215 : decode code 215 = .ok (.aload_n 0, 1) := by decide +kernel
theorem dd_La_law_216 : decode code 216 = .ok (.iload 4, 2) := by decide +kernel
theorem dd_La_law_218 : decode code 218 = .ok (.iconst 2, 1) := by decide +kernel
theorem dd_La_law_219 : decode code 219 = .ok (.iadd, 1) := by decide +kernel
theorem dd_La_law_220 : decode code 220 = .ok (.iaload, 1) := by decide +kernel
theorem dd_La_law_221 : decode code 221 = .ok (.aload_n 3, 1) := by decide +kernel
theorem dd_La_law_222 : decode code 222 = .ok (.invokestatic 68, 3) := by decide +kernel
theorem dd_La_law_225 : decode code 225 = .ok (.istore 5, 2) := by decide +kernel
theorem dd_La_law_227 : decode code 227 = .ok (.aload_n 2, 1) := by decide +kernel
theorem dd_La_law_228 : decode code 228 = .ok (.aload_n 0, 1) := by decide +kernel
theorem dd_La_law_229 : decode code 229 = .ok (.iload 4, 2) := by decide +kernel
theorem dd_La_law_231 : decode code 231 = .ok (.iconst 1, 1) := by decide +kernel
theorem dd_La_law_232 : decode code 232 = .ok (.iadd, 1) := by decide +kernel
theorem dd_La_law_233 : decode code 233 = .ok (.iaload, 1) := by decide +kernel
theorem dd_La_law_234 : decode code 234 = .ok (.aload_n 0, 1) := by decide +kernel
theorem dd_La_law_235 : decode code 235 = .ok (.iload 4, 2) := by decide +kernel
theorem dd_La_law_237 : decode code 237 = .ok (.iconst 2, 1) := by decide +kernel
theorem dd_La_law_238 : decode code 238 = .ok (.iadd, 1) := by decide +kernel
theorem dd_La_law_239 : decode code 239 = .ok (.iaload, 1) := by decide +kernel
theorem dd_La_law_240 : decode code 240 = .ok (.invokevirtual 71, 3) := by decide +kernel
theorem dd_La_law_243 : decode code 243 = .ok (.istore 6, 2) := by decide +kernel
theorem dd_La_law_245 : decode code 245 = .ok (.aload_n 2, 1) := by decide +kernel
theorem dd_La_law_246 : decode code 246 = .ok (.invokevirtual 64, 3) := by decide +kernel
theorem dd_La_law_249 : decode code 249 = .ok (.iload 5, 2) := by decide +kernel
theorem dd_La_law_251 : decode code 251 = .ok (.if_icmp .eq 5, 3) := by decide +kernel
theorem dd_La_law_254 : decode code 254 = .ok (.iconst 0, 1) := by decide +kernel
theorem dd_La_law_255 : decode code 255 = .ok (.ireturn, 1) := by decide +kernel
theorem dd_La_law_256 : decode code 256 = .ok (.iload 5, 2) := by decide +kernel
theorem dd_La_law_258 : decode code 258 = .ok (.ifCond .ne 22, 3) := by decide +kernel
theorem dd_La_law_261 : decode code 261 = .ok (.aload_n 3, 1) := by decide +kernel
theorem dd_La_law_262 : decode code 262 = .ok (.iconst 0, 1) := by decide +kernel
theorem dd_La_law_263 : decode code 263 = .ok (.laload, 1) := by decide +kernel
theorem dd_La_law_264 : decode code 264 = .ok (.iload 6, 2) := by decide +kernel
theorem dd_La_law_266 : decode code 266 = .ok (.ifCond .eq 7, 3) := by decide +kernel
theorem dd_La_law_269 : decode code 269 = .ok (.lconst 1, 1) := by decide +kernel
theorem dd_La_law_270 : decode code 270 = .ok (.goto 4, 3) := by decide +kernel
theorem dd_La_law_273 : decode code 273 = .ok (.lconst 0, 1) := by decide +kernel
theorem dd_La_law_274 : decode code 274 = .ok (.lcmp, 1) := by decide +kernel
theorem dd_La_law_275 : decode code 275 = .ok (.ifCond .eq 5, 3) := by decide +kernel
theorem dd_La_law_278 : decode code 278 = .ok (.iconst 0, 1) := by decide +kernel
theorem dd_La_law_279 : decode code 279 = .ok (.ireturn, 1) := by decide +kernel
theorem dd_La_law_280 : decode code 280 = .ok (.goto 854, 3) := by decide +kernel
theorem dd_La_law_283 : decode code 283 = .ok (.aload_n 1, 1) := by decide +kernel
theorem dd_La_law_284 : decode code 284 = .ok (.aload_n 0, 1) := by decide +kernel
theorem dd_La_law_285 : decode code 285 = .ok (.iload 4, 2) := by decide +kernel
theorem dd_La_law_287 : decode code 287 = .ok (.iconst 1, 1) := by decide +kernel
theorem dd_La_law_288 : decode code 288 = .ok (.iadd, 1) := by decide +kernel
theorem dd_La_law_289 : decode code 289 = .ok (.iaload, 1) := by decide +kernel
theorem dd_La_law_290 : decode code 290 = .ok (.aload_n 0, 1) := by decide +kernel
theorem dd_La_law_291 : decode code 291 = .ok (.iload 4, 2) := by decide +kernel
theorem dd_La_law_293 : decode code 293 = .ok (.iconst 2, 1) := by decide +kernel
theorem dd_La_law_294 : decode code 294 = .ok (.iadd, 1) := by decide +kernel
theorem dd_La_law_295 : decode code 295 = .ok (.iaload, 1) := by decide +kernel
theorem dd_La_law_296 : decode code 296 = .ok (.aload_n 3, 1) := by decide +kernel
theorem dd_La_law_297 : decode code 297 = .ok (.invokestatic 72, 3) := by decide +kernel
theorem dd_La_law_300 : decode code 300 = .ok (.istore 5, 2) := by decide +kernel
theorem dd_La_law_302 : decode code 302 = .ok (.aload_n 2, 1) := by decide +kernel
theorem dd_La_law_303 : decode code 303 = .ok (.aload_n 0, 1) := by decide +kernel
theorem dd_La_law_304 : decode code 304 = .ok (.iload 4, 2) := by decide +kernel
theorem dd_La_law_306 : decode code 306 = .ok (.iconst 1, 1) := by decide +kernel
theorem dd_La_law_307 : decode code 307 = .ok (.iadd, 1) := by decide +kernel
theorem dd_La_law_308 : decode code 308 = .ok (.iaload, 1) := by decide +kernel
theorem dd_La_law_309 : decode code 309 = .ok (.aload_n 0, 1) := by decide +kernel
theorem dd_La_law_310 : decode code 310 = .ok (.iload 4, 2) := by decide +kernel
theorem dd_La_law_312 : decode code 312 = .ok (.iconst 2, 1) := by decide +kernel
theorem dd_La_law_313 : decode code 313 = .ok (.iadd, 1) := by decide +kernel
theorem dd_La_law_314 : decode code 314 = .ok (.iaload, 1) := by decide +kernel
theorem dd_La_law_315 : decode code 315 = .ok (.invokevirtual 74, 3) := by decide +kernel
theorem dd_La_law_318 : decode code 318 = .ok (.istore 6, 2) := by decide +kernel
theorem dd_La_law_320 : decode code 320 = .ok (.aload_n 2, 1) := by decide +kernel
theorem dd_La_law_321 : decode code 321 = .ok (.invokevirtual 64, 3) := by decide +kernel
theorem dd_La_law_324 : decode code 324 = .ok (.iload 5, 2) := by decide +kernel
theorem dd_La_law_326 : decode code 326 = .ok (.if_icmp .eq 5, 3) := by decide +kernel
theorem dd_La_law_329 : decode code 329 = .ok (.iconst 0, 1) := by decide +kernel
theorem dd_La_law_330 : decode code 330 = .ok (.ireturn, 1) := by decide +kernel
theorem dd_La_law_331 : decode code 331 = .ok (.iload 5, 2) := by decide +kernel
theorem dd_La_law_333 : decode code 333 = .ok (.ifCond .ne 15, 3) := by decide +kernel
theorem dd_La_law_336 : decode code 336 = .ok (.aload_n 3, 1) := by decide +kernel
theorem dd_La_law_337 : decode code 337 = .ok (.iconst 0, 1) := by decide +kernel
theorem dd_La_law_338 : decode code 338 = .ok (.laload, 1) := by decide +kernel
theorem dd_La_law_339 : decode code 339 = .ok (.iload 6, 2) := by decide +kernel
theorem dd_La_law_341 : decode code 341 = .ok (.i2l, 1) := by decide +kernel
theorem dd_La_law_342 : decode code 342 = .ok (.lcmp, 1) := by decide +kernel
theorem dd_La_law_343 : decode code 343 = .ok (.ifCond .eq 5, 3) := by decide +kernel
theorem dd_La_law_346 : decode code 346 = .ok (.iconst 0, 1) := by decide +kernel
theorem dd_La_law_347 : decode code 347 = .ok (.ireturn, 1) := by decide +kernel
theorem dd_La_law_348 : decode code 348 = .ok (.goto 786, 3) := by decide +kernel
theorem dd_La_law_351 : decode code 351 = .ok (.aload_n 1, 1) := by decide +kernel
theorem dd_La_law_352 : decode code 352 = .ok (.aload_n 0, 1) := by decide +kernel
theorem dd_La_law_353 : decode code 353 = .ok (.iload 4, 2) := by decide +kernel
theorem dd_La_law_355 : decode code 355 = .ok (.iconst 1, 1) := by decide +kernel
theorem dd_La_law_356 : decode code 356 = .ok (.iadd, 1) := by decide +kernel
theorem dd_La_law_357 : decode code 357 = .ok (.iaload, 1) := by decide +kernel
theorem dd_La_law_358 : decode code 358 = .ok (.aload_n 3, 1) := by decide +kernel
theorem dd_La_law_359 : decode code 359 = .ok (.invokestatic 75, 3) := by decide +kernel
theorem dd_La_law_362 : decode code 362 = .ok (.istore 5, 2) := by decide +kernel
theorem dd_La_law_364 : decode code 364 = .ok (.aload_n 2, 1) := by decide +kernel
theorem dd_La_law_365 : decode code 365 = .ok (.aload_n 0, 1) := by decide +kernel
theorem dd_La_law_366 : decode code 366 = .ok (.iload 4, 2) := by decide +kernel
theorem dd_La_law_368 : decode code 368 = .ok (.iconst 1, 1) := by decide +kernel
theorem dd_La_law_369 : decode code 369 = .ok (.iadd, 1) := by decide +kernel
theorem dd_La_law_370 : decode code 370 = .ok (.iaload, 1) := by decide +kernel
theorem dd_La_law_371 : decode code 371 = .ok (.invokevirtual 78, 3) := by decide +kernel
theorem dd_La_law_374 : decode code 374 = .ok (.istore 6, 2) := by decide +kernel
theorem dd_La_law_376 : decode code 376 = .ok (.aload_n 2, 1) := by decide +kernel
theorem dd_La_law_377 : decode code 377 = .ok (.invokevirtual 64, 3) := by decide +kernel
theorem dd_La_law_380 : decode code 380 = .ok (.iload 5, 2) := by decide +kernel
theorem dd_La_law_382 : decode code 382 = .ok (.if_icmp .eq 5, 3) := by decide +kernel
theorem dd_La_law_385 : decode code 385 = .ok (.iconst 0, 1) := by decide +kernel
theorem dd_La_law_386 : decode code 386 = .ok (.ireturn, 1) := by decide +kernel
theorem dd_La_law_387 : decode code 387 = .ok (.iload 5, 2) := by decide +kernel
theorem dd_La_law_389 : decode code 389 = .ok (.ifCond .ne 22, 3) := by decide +kernel
theorem dd_La_law_392 : decode code 392 = .ok (.aload_n 3, 1) := by decide +kernel
theorem dd_La_law_393 : decode code 393 = .ok (.iconst 0, 1) := by decide +kernel
theorem dd_La_law_394 : decode code 394 = .ok (.laload, 1) := by decide +kernel
theorem dd_La_law_395 : decode code 395 = .ok (.iload 6, 2) := by decide +kernel
theorem dd_La_law_397 : decode code 397 = .ok (.ifCond .eq 7, 3) := by decide +kernel
theorem dd_La_law_400 : decode code 400 = .ok (.lconst 1, 1) := by decide +kernel
theorem dd_La_law_401 : decode code 401 = .ok (.goto 4, 3) := by decide +kernel
theorem dd_La_law_404 : decode code 404 = .ok (.lconst 0, 1) := by decide +kernel
theorem dd_La_law_405 : decode code 405 = .ok (.lcmp, 1) := by decide +kernel
theorem dd_La_law_406 : decode code 406 = .ok (.ifCond .eq 5, 3) := by decide +kernel
theorem dd_La_law_409 : decode code 409 = .ok (.iconst 0, 1) := by decide +kernel
theorem dd_La_law_410 : decode code 410 = .ok (.ireturn, 1) := by decide +kernel
theorem dd_La_law_411 : decode code 411 = .ok (.goto 723, 3) := by decide +kernel
theorem dd_La_law_414 : decode code 414 = .ok (.aload_n 1, 1) := by decide +kernel
theorem dd_La_law_415 : decode code 415 = .ok (.aload_n 0, 1) := by decide +kernel
theorem dd_La_law_416 : decode code 416 = .ok (.iload 4, 2) := by decide +kernel
theorem dd_La_law_418 : decode code 418 = .ok (.iconst 1, 1) := by decide +kernel
theorem dd_La_law_419 : decode code 419 = .ok (.iadd, 1) := by decide +kernel
theorem dd_La_law_420 : decode code 420 = .ok (.iaload, 1) := by decide +kernel
theorem dd_La_law_421 : decode code 421 = .ok (.aload_n 3, 1) := by decide +kernel
theorem dd_La_law_422 : decode code 422 = .ok (.invokestatic 79, 3) := by decide +kernel
theorem dd_La_law_425 : decode code 425 = .ok (.istore 5, 2) := by decide +kernel
theorem dd_La_law_427 : decode code 427 = .ok (.aload_n 2, 1) := by decide +kernel
theorem dd_La_law_428 : decode code 428 = .ok (.aload_n 0, 1) := by decide +kernel
theorem dd_La_law_429 : decode code 429 = .ok (.iload 4, 2) := by decide +kernel
theorem dd_La_law_431 : decode code 431 = .ok (.iconst 1, 1) := by decide +kernel
theorem dd_La_law_432 : decode code 432 = .ok (.iadd, 1) := by decide +kernel
theorem dd_La_law_433 : decode code 433 = .ok (.iaload, 1) := by decide +kernel
theorem dd_La_law_434 : decode code 434 = .ok (.invokevirtual 81, 3) := by decide +kernel
theorem dd_La_law_437 : decode code 437 = .ok (.istore 6, 2) := by decide +kernel
theorem dd_La_law_439 : decode code 439 = .ok (.aload_n 2, 1) := by decide +kernel
theorem dd_La_law_440 : decode code 440 = .ok (.invokevirtual 64, 3) := by decide +kernel
theorem dd_La_law_443 : decode code 443 = .ok (.iload 5, 2) := by decide +kernel
theorem dd_La_law_445 : decode code 445 = .ok (.if_icmp .eq 5, 3) := by decide +kernel
theorem dd_La_law_448 : decode code 448 = .ok (.iconst 0, 1) := by decide +kernel
theorem dd_La_law_449 : decode code 449 = .ok (.ireturn, 1) := by decide +kernel
theorem dd_La_law_450 : decode code 450 = .ok (.iload 5, 2) := by decide +kernel
theorem dd_La_law_452 : decode code 452 = .ok (.ifCond .ne 22, 3) := by decide +kernel
theorem dd_La_law_455 : decode code 455 = .ok (.aload_n 3, 1) := by decide +kernel
theorem dd_La_law_456 : decode code 456 = .ok (.iconst 0, 1) := by decide +kernel
theorem dd_La_law_457 : decode code 457 = .ok (.laload, 1) := by decide +kernel
theorem dd_La_law_458 : decode code 458 = .ok (.iload 6, 2) := by decide +kernel
theorem dd_La_law_460 : decode code 460 = .ok (.ifCond .eq 7, 3) := by decide +kernel
theorem dd_La_law_463 : decode code 463 = .ok (.lconst 1, 1) := by decide +kernel
theorem dd_La_law_464 : decode code 464 = .ok (.goto 4, 3) := by decide +kernel
theorem dd_La_law_467 : decode code 467 = .ok (.lconst 0, 1) := by decide +kernel
theorem dd_La_law_468 : decode code 468 = .ok (.lcmp, 1) := by decide +kernel
theorem dd_La_law_469 : decode code 469 = .ok (.ifCond .eq 5, 3) := by decide +kernel
theorem dd_La_law_472 : decode code 472 = .ok (.iconst 0, 1) := by decide +kernel
theorem dd_La_law_473 : decode code 473 = .ok (.ireturn, 1) := by decide +kernel
theorem dd_La_law_474 : decode code 474 = .ok (.goto 660, 3) := by decide +kernel
theorem dd_La_law_477 : decode code 477 = .ok (.aload_n 1, 1) := by decide +kernel
theorem dd_La_law_478 : decode code 478 = .ok (.aload_n 0, 1) := by decide +kernel
theorem dd_La_law_479 : decode code 479 = .ok (.iload 4, 2) := by decide +kernel
theorem dd_La_law_481 : decode code 481 = .ok (.iconst 1, 1) := by decide +kernel
theorem dd_La_law_482 : decode code 482 = .ok (.iadd, 1) := by decide +kernel
theorem dd_La_law_483 : decode code 483 = .ok (.iaload, 1) := by decide +kernel
theorem dd_La_law_484 : decode code 484 = .ok (.aload_n 3, 1) := by decide +kernel
theorem dd_La_law_485 : decode code 485 = .ok (.invokestatic 82, 3) := by decide +kernel
theorem dd_La_law_488 : decode code 488 = .ok (.istore 5, 2) := by decide +kernel
theorem dd_La_law_490 : decode code 490 = .ok (.aload_n 2, 1) := by decide +kernel
theorem dd_La_law_491 : decode code 491 = .ok (.aload_n 0, 1) := by decide +kernel
theorem dd_La_law_492 : decode code 492 = .ok (.iload 4, 2) := by decide +kernel
theorem dd_La_law_494 : decode code 494 = .ok (.iconst 1, 1) := by decide +kernel
theorem dd_La_law_495 : decode code 495 = .ok (.iadd, 1) := by decide +kernel
theorem dd_La_law_496 : decode code 496 = .ok (.iaload, 1) := by decide +kernel
theorem dd_La_law_497 : decode code 497 = .ok (.invokevirtual 84, 3) := by decide +kernel
theorem dd_La_law_500 : decode code 500 = .ok (.istore 6, 2) := by decide +kernel
theorem dd_La_law_502 : decode code 502 = .ok (.aload_n 2, 1) := by decide +kernel
theorem dd_La_law_503 : decode code 503 = .ok (.invokevirtual 64, 3) := by decide +kernel
theorem dd_La_law_506 : decode code 506 = .ok (.iload 5, 2) := by decide +kernel
theorem dd_La_law_508 : decode code 508 = .ok (.if_icmp .eq 5, 3) := by decide +kernel
theorem dd_La_law_511 : decode code 511 = .ok (.iconst 0, 1) := by decide +kernel
theorem dd_La_law_512 : decode code 512 = .ok (.ireturn, 1) := by decide +kernel
theorem dd_La_law_513 : decode code 513 = .ok (.iload 5, 2) := by decide +kernel
theorem dd_La_law_515 : decode code 515 = .ok (.ifCond .ne 22, 3) := by decide +kernel
theorem dd_La_law_518 : decode code 518 = .ok (.aload_n 3, 1) := by decide +kernel
theorem dd_La_law_519 : decode code 519 = .ok (.iconst 0, 1) := by decide +kernel
theorem dd_La_law_520 : decode code 520 = .ok (.laload, 1) := by decide +kernel
theorem dd_La_law_521 : decode code 521 = .ok (.iload 6, 2) := by decide +kernel
theorem dd_La_law_523 : decode code 523 = .ok (.ifCond .eq 7, 3) := by decide +kernel
theorem dd_La_law_526 : decode code 526 = .ok (.lconst 1, 1) := by decide +kernel
theorem dd_La_law_527 : decode code 527 = .ok (.goto 4, 3) := by decide +kernel
theorem dd_La_law_530 : decode code 530 = .ok (.lconst 0, 1) := by decide +kernel
theorem dd_La_law_531 : decode code 531 = .ok (.lcmp, 1) := by decide +kernel
theorem dd_La_law_532 : decode code 532 = .ok (.ifCond .eq 5, 3) := by decide +kernel
theorem dd_La_law_535 : decode code 535 = .ok (.iconst 0, 1) := by decide +kernel
theorem dd_La_law_536 : decode code 536 = .ok (.ireturn, 1) := by decide +kernel
theorem dd_La_law_537 : decode code 537 = .ok (.goto 597, 3) := by decide +kernel
theorem dd_La_law_540 : decode code 540 = .ok (.aload_n 1, 1) := by decide +kernel
theorem dd_La_law_541 : decode code 541 = .ok (.aload_n 0, 1) := by decide +kernel
theorem dd_La_law_542 : decode code 542 = .ok (.iload 4, 2) := by decide +kernel
theorem dd_La_law_544 : decode code 544 = .ok (.iconst 1, 1) := by decide +kernel
theorem dd_La_law_545 : decode code 545 = .ok (.iadd, 1) := by decide +kernel
theorem dd_La_law_546 : decode code 546 = .ok (.iaload, 1) := by decide +kernel
theorem dd_La_law_547 : decode code 547 = .ok (.aload_n 0, 1) := by decide +kernel
theorem dd_La_law_548 : decode code 548 = .ok (.iload 4, 2) := by decide +kernel
theorem dd_La_law_550 : decode code 550 = .ok (.iconst 2, 1) := by decide +kernel
theorem dd_La_law_551 : decode code 551 = .ok (.iadd, 1) := by decide +kernel
theorem dd_La_law_552 : decode code 552 = .ok (.iaload, 1) := by decide +kernel
theorem dd_La_law_553 : decode code 553 = .ok (.aload_n 3, 1) := by decide +kernel
theorem dd_La_law_554 : decode code 554 = .ok (.invokestatic 85, 3) := by decide +kernel
theorem dd_La_law_557 : decode code 557 = .ok (.istore 5, 2) := by decide +kernel
theorem dd_La_law_559 : decode code 559 = .ok (.aload_n 2, 1) := by decide +kernel
theorem dd_La_law_560 : decode code 560 = .ok (.aload_n 0, 1) := by decide +kernel
theorem dd_La_law_561 : decode code 561 = .ok (.iload 4, 2) := by decide +kernel
theorem dd_La_law_563 : decode code 563 = .ok (.iconst 1, 1) := by decide +kernel
theorem dd_La_law_564 : decode code 564 = .ok (.iadd, 1) := by decide +kernel
theorem dd_La_law_565 : decode code 565 = .ok (.iaload, 1) := by decide +kernel
theorem dd_La_law_566 : decode code 566 = .ok (.aload_n 0, 1) := by decide +kernel
theorem dd_La_law_567 : decode code 567 = .ok (.iload 4, 2) := by decide +kernel
theorem dd_La_law_569 : decode code 569 = .ok (.iconst 2, 1) := by decide +kernel
theorem dd_La_law_570 : decode code 570 = .ok (.iadd, 1) := by decide +kernel
theorem dd_La_law_571 : decode code 571 = .ok (.iaload, 1) := by decide +kernel
theorem dd_La_law_572 : decode code 572 = .ok (.invokevirtual 87, 3) := by decide +kernel
theorem dd_La_law_575 : decode code 575 = .ok (.istore 6, 2) := by decide +kernel
theorem dd_La_law_577 : decode code 577 = .ok (.aload_n 2, 1) := by decide +kernel
theorem dd_La_law_578 : decode code 578 = .ok (.invokevirtual 64, 3) := by decide +kernel
theorem dd_La_law_581 : decode code 581 = .ok (.iload 5, 2) := by decide +kernel
theorem dd_La_law_583 : decode code 583 = .ok (.if_icmp .eq 5, 3) := by decide +kernel
theorem dd_La_law_586 : decode code 586 = .ok (.iconst 0, 1) := by decide +kernel
theorem dd_La_law_587 : decode code 587 = .ok (.ireturn, 1) := by decide +kernel
theorem dd_La_law_588 : decode code 588 = .ok (.iload 5, 2) := by decide +kernel
theorem dd_La_law_590 : decode code 590 = .ok (.ifCond .ne 22, 3) := by decide +kernel
theorem dd_La_law_593 : decode code 593 = .ok (.aload_n 3, 1) := by decide +kernel
theorem dd_La_law_594 : decode code 594 = .ok (.iconst 0, 1) := by decide +kernel
theorem dd_La_law_595 : decode code 595 = .ok (.laload, 1) := by decide +kernel
theorem dd_La_law_596 : decode code 596 = .ok (.iload 6, 2) := by decide +kernel
theorem dd_La_law_598 : decode code 598 = .ok (.ifCond .eq 7, 3) := by decide +kernel
theorem dd_La_law_601 : decode code 601 = .ok (.lconst 1, 1) := by decide +kernel
theorem dd_La_law_602 : decode code 602 = .ok (.goto 4, 3) := by decide +kernel
theorem dd_La_law_605 : decode code 605 = .ok (.lconst 0, 1) := by decide +kernel
theorem dd_La_law_606 : decode code 606 = .ok (.lcmp, 1) := by decide +kernel
theorem dd_La_law_607 : decode code 607 = .ok (.ifCond .eq 5, 3) := by decide +kernel
theorem dd_La_law_610 : decode code 610 = .ok (.iconst 0, 1) := by decide +kernel
theorem dd_La_law_611 : decode code 611 = .ok (.ireturn, 1) := by decide +kernel
theorem dd_La_law_612 : decode code 612 = .ok (.goto 522, 3) := by decide +kernel
theorem dd_La_law_615 : decode code 615 = .ok (.aload_n 1, 1) := by decide +kernel
theorem dd_La_law_616 : decode code 616 = .ok (.aload_n 0, 1) := by decide +kernel
theorem dd_La_law_617 : decode code 617 = .ok (.iload 4, 2) := by decide +kernel
theorem dd_La_law_619 : decode code 619 = .ok (.iconst 1, 1) := by decide +kernel
theorem dd_La_law_620 : decode code 620 = .ok (.iadd, 1) := by decide +kernel
theorem dd_La_law_621 : decode code 621 = .ok (.iaload, 1) := by decide +kernel
theorem dd_La_law_622 : decode code 622 = .ok (.aload_n 3, 1) := by decide +kernel
theorem dd_La_law_623 : decode code 623 = .ok (.invokestatic 88, 3) := by decide +kernel
theorem dd_La_law_626 : decode code 626 = .ok (.istore 5, 2) := by decide +kernel
theorem dd_La_law_628 : decode code 628 = .ok (.aload_n 2, 1) := by decide +kernel
theorem dd_La_law_629 : decode code 629 = .ok (.aload_n 0, 1) := by decide +kernel
theorem dd_La_law_630 : decode code 630 = .ok (.iload 4, 2) := by decide +kernel
theorem dd_La_law_632 : decode code 632 = .ok (.iconst 1, 1) := by decide +kernel
theorem dd_La_law_633 : decode code 633 = .ok (.iadd, 1) := by decide +kernel
theorem dd_La_law_634 : decode code 634 = .ok (.iaload, 1) := by decide +kernel
theorem dd_La_law_635 : decode code 635 = .ok (.invokevirtual 90, 3) := by decide +kernel
theorem dd_La_law_638 : decode code 638 = .ok (.istore 6, 2) := by decide +kernel
theorem dd_La_law_640 : decode code 640 = .ok (.aload_n 2, 1) := by decide +kernel
theorem dd_La_law_641 : decode code 641 = .ok (.invokevirtual 64, 3) := by decide +kernel
theorem dd_La_law_644 : decode code 644 = .ok (.iload 5, 2) := by decide +kernel
theorem dd_La_law_646 : decode code 646 = .ok (.if_icmp .eq 5, 3) := by decide +kernel
theorem dd_La_law_649 : decode code 649 = .ok (.iconst 0, 1) := by decide +kernel
theorem dd_La_law_650 : decode code 650 = .ok (.ireturn, 1) := by decide +kernel
theorem dd_La_law_651 : decode code 651 = .ok (.iload 5, 2) := by decide +kernel
theorem dd_La_law_653 : decode code 653 = .ok (.ifCond .ne 22, 3) := by decide +kernel
theorem dd_La_law_656 : decode code 656 = .ok (.aload_n 3, 1) := by decide +kernel
theorem dd_La_law_657 : decode code 657 = .ok (.iconst 0, 1) := by decide +kernel
theorem dd_La_law_658 : decode code 658 = .ok (.laload, 1) := by decide +kernel
theorem dd_La_law_659 : decode code 659 = .ok (.iload 6, 2) := by decide +kernel
theorem dd_La_law_661 : decode code 661 = .ok (.ifCond .eq 7, 3) := by decide +kernel
theorem dd_La_law_664 : decode code 664 = .ok (.lconst 1, 1) := by decide +kernel
theorem dd_La_law_665 : decode code 665 = .ok (.goto 4, 3) := by decide +kernel
theorem dd_La_law_668 : decode code 668 = .ok (.lconst 0, 1) := by decide +kernel
theorem dd_La_law_669 : decode code 669 = .ok (.lcmp, 1) := by decide +kernel
theorem dd_La_law_670 : decode code 670 = .ok (.ifCond .eq 5, 3) := by decide +kernel
theorem dd_La_law_673 : decode code 673 = .ok (.iconst 0, 1) := by decide +kernel
theorem dd_La_law_674 : decode code 674 = .ok (.ireturn, 1) := by decide +kernel
theorem dd_La_law_675 : decode code 675 = .ok (.goto 459, 3) := by decide +kernel
theorem dd_La_law_678 : decode code 678 = .ok (.aload_n 1, 1) := by decide +kernel
theorem dd_La_law_679 : decode code 679 = .ok (.aload_n 0, 1) := by decide +kernel
theorem dd_La_law_680 : decode code 680 = .ok (.iload 4, 2) := by decide +kernel
theorem dd_La_law_682 : decode code 682 = .ok (.iconst 1, 1) := by decide +kernel
theorem dd_La_law_683 : decode code 683 = .ok (.iadd, 1) := by decide +kernel
theorem dd_La_law_684 : decode code 684 = .ok (.iaload, 1) := by decide +kernel
theorem dd_La_law_685 : decode code 685 = .ok (.aload_n 0, 1) := by decide +kernel
theorem dd_La_law_686 : decode code 686 = .ok (.iload 4, 2) := by decide +kernel
theorem dd_La_law_688 : decode code 688 = .ok (.iconst 2, 1) := by decide +kernel
theorem dd_La_law_689 : decode code 689 = .ok (.iadd, 1) := by decide +kernel
theorem dd_La_law_690 : decode code 690 = .ok (.iaload, 1) := by decide +kernel
theorem dd_La_law_691 : decode code 691 = .ok (.aload_n 0, 1) := by decide +kernel
theorem dd_La_law_692 : decode code 692 = .ok (.iload 4, 2) := by decide +kernel
theorem dd_La_law_694 : decode code 694 = .ok (.iconst 3, 1) := by decide +kernel
theorem dd_La_law_695 : decode code 695 = .ok (.iadd, 1) := by decide +kernel
theorem dd_La_law_696 : decode code 696 = .ok (.iaload, 1) := by decide +kernel
theorem dd_La_law_697 : decode code 697 = .ok (.aload_n 0, 1) := by decide +kernel
theorem dd_La_law_698 : decode code 698 = .ok (.iload 4, 2) := by decide +kernel
theorem dd_La_law_700 : decode code 700 = .ok (.iconst 4, 1) := by decide +kernel
theorem dd_La_law_701 : decode code 701 = .ok (.iadd, 1) := by decide +kernel
theorem dd_La_law_702 : decode code 702 = .ok (.iaload, 1) := by decide +kernel
theorem dd_La_law_703 : decode code 703 = .ok (.invokevirtual 91, 3) := by decide +kernel
theorem dd_La_law_706 : decode code 706 = .ok (.aload_n 2, 1) := by decide +kernel
theorem dd_La_law_707 : decode code 707 = .ok (.aload_n 0, 1) := by decide +kernel
theorem dd_La_law_708 : decode code 708 = .ok (.iload 4, 2) := by decide +kernel
theorem dd_La_law_710 : decode code 710 = .ok (.iconst 1, 1) := by decide +kernel
theorem dd_La_law_711 : decode code 711 = .ok (.iadd, 1) := by decide +kernel
theorem dd_La_law_712 : decode code 712 = .ok (.iaload, 1) := by decide +kernel
theorem dd_La_law_713 : decode code 713 = .ok (.aload_n 0, 1) := by decide +kernel
theorem dd_La_law_714 : decode code 714 = .ok (.iload 4, 2) := by decide +kernel
theorem dd_La_law_716 : decode code 716 = .ok (.iconst 2, 1) := by decide +kernel
theorem dd_La_law_717 : decode code 717 = .ok (.iadd, 1) := by decide +kernel
theorem dd_La_law_718 : decode code 718 = .ok (.iaload, 1) := by decide +kernel
theorem dd_La_law_719 : decode code 719 = .ok (.aload_n 0, 1) := by decide +kernel
theorem dd_La_law_720 : decode code 720 = .ok (.iload 4, 2) := by decide +kernel
theorem dd_La_law_722 : decode code 722 = .ok (.iconst 3, 1) := by decide +kernel
theorem dd_La_law_723 : decode code 723 = .ok (.iadd, 1) := by decide +kernel
theorem dd_La_law_724 : decode code 724 = .ok (.iaload, 1) := by decide +kernel
theorem dd_La_law_725 : decode code 725 = .ok (.aload_n 0, 1) := by decide +kernel
theorem dd_La_law_726 : decode code 726 = .ok (.iload 4, 2) := by decide +kernel
theorem dd_La_law_728 : decode code 728 = .ok (.iconst 4, 1) := by decide +kernel
theorem dd_La_law_729 : decode code 729 = .ok (.iadd, 1) := by decide +kernel
theorem dd_La_law_730 : decode code 730 = .ok (.iaload, 1) := by decide +kernel
theorem dd_La_law_731 : decode code 731 = .ok (.invokevirtual 94, 3) := by decide +kernel
theorem dd_La_law_734 : decode code 734 = .ok (.if_icmp .eq 400, 3) := by decide +kernel
theorem dd_La_law_737 : decode code 737 = .ok (.iconst 0, 1) := by decide +kernel
theorem dd_La_law_738 : decode code 738 = .ok (.ireturn, 1) := by decide +kernel
theorem dd_La_law_739 : decode code 739 = .ok (.aload_n 1, 1) := by decide +kernel
theorem dd_La_law_740 : decode code 740 = .ok (.aload_n 0, 1) := by decide +kernel
theorem dd_La_law_741 : decode code 741 = .ok (.iload 4, 2) := by decide +kernel
theorem dd_La_law_743 : decode code 743 = .ok (.iconst 1, 1) := by decide +kernel
theorem dd_La_law_744 : decode code 744 = .ok (.iadd, 1) := by decide +kernel
theorem dd_La_law_745 : decode code 745 = .ok (.iaload, 1) := by decide +kernel
theorem dd_La_law_746 : decode code 746 = .ok (.aload_n 0, 1) := by decide +kernel
theorem dd_La_law_747 : decode code 747 = .ok (.iload 4, 2) := by decide +kernel
theorem dd_La_law_749 : decode code 749 = .ok (.iconst 2, 1) := by decide +kernel
theorem dd_La_law_750 : decode code 750 = .ok (.iadd, 1) := by decide +kernel
theorem dd_La_law_751 : decode code 751 = .ok (.iaload, 1) := by decide +kernel
theorem dd_La_law_752 : decode code 752 = .ok (.invokevirtual 95, 3) := by decide +kernel
theorem dd_La_law_755 : decode code 755 = .ok (.aload_n 2, 1) := by decide +kernel
theorem dd_La_law_756 : decode code 756 = .ok (.aload_n 0, 1) := by decide +kernel
theorem dd_La_law_757 : decode code 757 = .ok (.iload 4, 2) := by decide +kernel
theorem dd_La_law_759 : decode code 759 = .ok (.iconst 1, 1) := by decide +kernel
theorem dd_La_law_760 : decode code 760 = .ok (.iadd, 1) := by decide +kernel
theorem dd_La_law_761 : decode code 761 = .ok (.iaload, 1) := by decide +kernel
theorem dd_La_law_762 : decode code 762 = .ok (.aload_n 0, 1) := by decide +kernel
theorem dd_La_law_763 : decode code 763 = .ok (.iload 4, 2) := by decide +kernel
theorem dd_La_law_765 : decode code 765 = .ok (.iconst 2, 1) := by decide +kernel
theorem dd_La_law_766 : decode code 766 = .ok (.iadd, 1) := by decide +kernel
theorem dd_La_law_767 : decode code 767 = .ok (.iaload, 1) := by decide +kernel
theorem dd_La_law_768 : decode code 768 = .ok (.invokevirtual 98, 3) := by decide +kernel
theorem dd_La_law_771 : decode code 771 = .ok (.if_icmp .eq 363, 3) := by decide +kernel
theorem dd_La_law_774 : decode code 774 = .ok (.iconst 0, 1) := by decide +kernel
theorem dd_La_law_775 : decode code 775 = .ok (.ireturn, 1) := by decide +kernel
theorem dd_La_law_776 : decode code 776 = .ok (.aload_n 1, 1) := by decide +kernel
theorem dd_La_law_777 : decode code 777 = .ok (.aload_n 0, 1) := by decide +kernel
theorem dd_La_law_778 : decode code 778 = .ok (.iload 4, 2) := by decide +kernel
theorem dd_La_law_780 : decode code 780 = .ok (.iconst 1, 1) := by decide +kernel
theorem dd_La_law_781 : decode code 781 = .ok (.iadd, 1) := by decide +kernel
theorem dd_La_law_782 : decode code 782 = .ok (.iaload, 1) := by decide +kernel
theorem dd_La_law_783 : decode code 783 = .ok (.aload_n 0, 1) := by decide +kernel
theorem dd_La_law_784 : decode code 784 = .ok (.iload 4, 2) := by decide +kernel
theorem dd_La_law_786 : decode code 786 = .ok (.iconst 2, 1) := by decide +kernel
theorem dd_La_law_787 : decode code 787 = .ok (.iadd, 1) := by decide +kernel
theorem dd_La_law_788 : decode code 788 = .ok (.iaload, 1) := by decide +kernel
theorem dd_La_law_789 : decode code 789 = .ok (.invokevirtual 99, 3) := by decide +kernel
theorem dd_La_law_792 : decode code 792 = .ok (.aload_n 2, 1) := by decide +kernel
theorem dd_La_law_793 : decode code 793 = .ok (.aload_n 0, 1) := by decide +kernel
theorem dd_La_law_794 : decode code 794 = .ok (.iload 4, 2) := by decide +kernel
theorem dd_La_law_796 : decode code 796 = .ok (.iconst 1, 1) := by decide +kernel
theorem dd_La_law_797 : decode code 797 = .ok (.iadd, 1) := by decide +kernel
theorem dd_La_law_798 : decode code 798 = .ok (.iaload, 1) := by decide +kernel
theorem dd_La_law_799 : decode code 799 = .ok (.aload_n 0, 1) := by decide +kernel
theorem dd_La_law_800 : decode code 800 = .ok (.iload 4, 2) := by decide +kernel
theorem dd_La_law_802 : decode code 802 = .ok (.iconst 2, 1) := by decide +kernel
theorem dd_La_law_803 : decode code 803 = .ok (.iadd, 1) := by decide +kernel
theorem dd_La_law_804 : decode code 804 = .ok (.iaload, 1) := by decide +kernel
theorem dd_La_law_805 : decode code 805 = .ok (.invokevirtual 102, 3) := by decide +kernel
theorem dd_La_law_808 : decode code 808 = .ok (.if_icmp .eq 326, 3) := by decide +kernel
theorem dd_La_law_811 : decode code 811 = .ok (.iconst 0, 1) := by decide +kernel
theorem dd_La_law_812 : decode code 812 = .ok (.ireturn, 1) := by decide +kernel
theorem dd_La_law_813 : decode code 813 = .ok (.aload_n 1, 1) := by decide +kernel
theorem dd_La_law_814 : decode code 814 = .ok (.aload_n 0, 1) := by decide +kernel
theorem dd_La_law_815 : decode code 815 = .ok (.iload 4, 2) := by decide +kernel
theorem dd_La_law_817 : decode code 817 = .ok (.iconst 1, 1) := by decide +kernel
theorem dd_La_law_818 : decode code 818 = .ok (.iadd, 1) := by decide +kernel
theorem dd_La_law_819 : decode code 819 = .ok (.iaload, 1) := by decide +kernel
theorem dd_La_law_820 : decode code 820 = .ok (.aload_n 0, 1) := by decide +kernel
theorem dd_La_law_821 : decode code 821 = .ok (.iload 4, 2) := by decide +kernel
theorem dd_La_law_823 : decode code 823 = .ok (.iconst 2, 1) := by decide +kernel
theorem dd_La_law_824 : decode code 824 = .ok (.iadd, 1) := by decide +kernel
theorem dd_La_law_825 : decode code 825 = .ok (.iaload, 1) := by decide +kernel
theorem dd_La_law_826 : decode code 826 = .ok (.invokevirtual 103, 3) := by decide +kernel
theorem dd_La_law_829 : decode code 829 = .ok (.aload_n 2, 1) := by decide +kernel
theorem dd_La_law_830 : decode code 830 = .ok (.aload_n 0, 1) := by decide +kernel
theorem dd_La_law_831 : decode code 831 = .ok (.iload 4, 2) := by decide +kernel
theorem dd_La_law_833 : decode code 833 = .ok (.iconst 1, 1) := by decide +kernel
theorem dd_La_law_834 : decode code 834 = .ok (.iadd, 1) := by decide +kernel
theorem dd_La_law_835 : decode code 835 = .ok (.iaload, 1) := by decide +kernel
theorem dd_La_law_836 : decode code 836 = .ok (.aload_n 0, 1) := by decide +kernel
theorem dd_La_law_837 : decode code 837 = .ok (.iload 4, 2) := by decide +kernel
theorem dd_La_law_839 : decode code 839 = .ok (.iconst 2, 1) := by decide +kernel
theorem dd_La_law_840 : decode code 840 = .ok (.iadd, 1) := by decide +kernel
theorem dd_La_law_841 : decode code 841 = .ok (.iaload, 1) := by decide +kernel
theorem dd_La_law_842 : decode code 842 = .ok (.invokevirtual 106, 3) := by decide +kernel
theorem dd_La_law_845 : decode code 845 = .ok (.if_icmp .eq 289, 3) := by decide +kernel
theorem dd_La_law_848 : decode code 848 = .ok (.iconst 0, 1) := by decide +kernel
theorem dd_La_law_849 : decode code 849 = .ok (.ireturn, 1) := by decide +kernel
theorem dd_La_law_850 : decode code 850 = .ok (.aload_n 1, 1) := by decide +kernel
theorem dd_La_law_851 : decode code 851 = .ok (.aload_n 0, 1) := by decide +kernel
theorem dd_La_law_852 : decode code 852 = .ok (.iload 4, 2) := by decide +kernel
theorem dd_La_law_854 : decode code 854 = .ok (.iconst 1, 1) := by decide +kernel
theorem dd_La_law_855 : decode code 855 = .ok (.iadd, 1) := by decide +kernel
theorem dd_La_law_856 : decode code 856 = .ok (.iaload, 1) := by decide +kernel
theorem dd_La_law_857 : decode code 857 = .ok (.aload_n 0, 1) := by decide +kernel
theorem dd_La_law_858 : decode code 858 = .ok (.iload 4, 2) := by decide +kernel
theorem dd_La_law_860 : decode code 860 = .ok (.iconst 2, 1) := by decide +kernel
theorem dd_La_law_861 : decode code 861 = .ok (.iadd, 1) := by decide +kernel
theorem dd_La_law_862 : decode code 862 = .ok (.iaload, 1) := by decide +kernel
theorem dd_La_law_863 : decode code 863 = .ok (.aload_n 3, 1) := by decide +kernel
theorem dd_La_law_864 : decode code 864 = .ok (.invokestatic 107, 3) := by decide +kernel
theorem dd_La_law_867 : decode code 867 = .ok (.istore 5, 2) := by decide +kernel
theorem dd_La_law_869 : decode code 869 = .ok (.aload_n 2, 1) := by decide +kernel
theorem dd_La_law_870 : decode code 870 = .ok (.aload_n 0, 1) := by decide +kernel
theorem dd_La_law_871 : decode code 871 = .ok (.iload 4, 2) := by decide +kernel
theorem dd_La_law_873 : decode code 873 = .ok (.iconst 1, 1) := by decide +kernel
theorem dd_La_law_874 : decode code 874 = .ok (.iadd, 1) := by decide +kernel
theorem dd_La_law_875 : decode code 875 = .ok (.iaload, 1) := by decide +kernel
theorem dd_La_law_876 : decode code 876 = .ok (.aload_n 0, 1) := by decide +kernel
theorem dd_La_law_877 : decode code 877 = .ok (.iload 4, 2) := by decide +kernel
theorem dd_La_law_879 : decode code 879 = .ok (.iconst 2, 1) := by decide +kernel
theorem dd_La_law_880 : decode code 880 = .ok (.iadd, 1) := by decide +kernel
theorem dd_La_law_881 : decode code 881 = .ok (.iaload, 1) := by decide +kernel
theorem dd_La_law_882 : decode code 882 = .ok (.invokevirtual 109, 3) := by decide +kernel
theorem dd_La_law_885 : decode code 885 = .ok (.istore 6, 2) := by decide +kernel
theorem dd_La_law_887 : decode code 887 = .ok (.aload_n 2, 1) := by decide +kernel
theorem dd_La_law_888 : decode code 888 = .ok (.invokevirtual 64, 3) := by decide +kernel
theorem dd_La_law_891 : decode code 891 = .ok (.iload 5, 2) := by decide +kernel
theorem dd_La_law_893 : decode code 893 = .ok (.if_icmp .eq 5, 3) := by decide +kernel
theorem dd_La_law_896 : decode code 896 = .ok (.iconst 0, 1) := by decide +kernel
theorem dd_La_law_897 : decode code 897 = .ok (.ireturn, 1) := by decide +kernel
theorem dd_La_law_898 : decode code 898 = .ok (.iload 5, 2) := by decide +kernel
theorem dd_La_law_900 : decode code 900 = .ok (.ifCond .ne 15, 3) := by decide +kernel
theorem dd_La_law_903 : decode code 903 = .ok (.aload_n 3, 1) := by decide +kernel
theorem dd_La_law_904 : decode code 904 = .ok (.iconst 0, 1) := by decide +kernel
theorem dd_La_law_905 : decode code 905 = .ok (.laload, 1) := by decide +kernel
theorem dd_La_law_906 : decode code 906 = .ok (.iload 6, 2) := by decide +kernel
theorem dd_La_law_908 : decode code 908 = .ok (.i2l, 1) := by decide +kernel
theorem dd_La_law_909 : decode code 909 = .ok (.lcmp, 1) := by decide +kernel
theorem dd_La_law_910 : decode code 910 = .ok (.ifCond .eq 5, 3) := by decide +kernel
theorem dd_La_law_913 : decode code 913 = .ok (.iconst 0, 1) := by decide +kernel
theorem dd_La_law_914 : decode code 914 = .ok (.ireturn, 1) := by decide +kernel
theorem dd_La_law_915 : decode code 915 = .ok (.goto 219, 3) := by decide +kernel
theorem dd_La_law_918 : decode code 918 = .ok (.aload_n 1, 1) := by decide +kernel
theorem dd_La_law_919 : decode code 919 = .ok (.aload_n 0, 1) := by decide +kernel
theorem dd_La_law_920 : decode code 920 = .ok (.iload 4, 2) := by decide +kernel
theorem dd_La_law_922 : decode code 922 = .ok (.iconst 1, 1) := by decide +kernel
theorem dd_La_law_923 : decode code 923 = .ok (.iadd, 1) := by decide +kernel
theorem dd_La_law_924 : decode code 924 = .ok (.iaload, 1) := by decide +kernel
theorem dd_La_law_925 : decode code 925 = .ok (.aload_n 0, 1) := by decide +kernel
theorem dd_La_law_926 : decode code 926 = .ok (.iload 4, 2) := by decide +kernel
theorem dd_La_law_928 : decode code 928 = .ok (.iconst 2, 1) := by decide +kernel
theorem dd_La_law_929 : decode code 929 = .ok (.iadd, 1) := by decide +kernel
theorem dd_La_law_930 : decode code 930 = .ok (.iaload, 1) := by decide +kernel
theorem dd_La_law_931 : decode code 931 = .ok (.aload_n 0, 1) := by decide +kernel
theorem dd_La_law_932 : decode code 932 = .ok (.iload 4, 2) := by decide +kernel
theorem dd_La_law_934 : decode code 934 = .ok (.iconst 3, 1) := by decide +kernel
theorem dd_La_law_935 : decode code 935 = .ok (.iadd, 1) := by decide +kernel
theorem dd_La_law_936 : decode code 936 = .ok (.iaload, 1) := by decide +kernel
theorem dd_La_law_937 : decode code 937 = .ok (.aload_n 3, 1) := by decide +kernel
theorem dd_La_law_938 : decode code 938 = .ok (.invokestatic 110, 3) := by decide +kernel
theorem dd_La_law_941 : decode code 941 = .ok (.istore 5, 2) := by decide +kernel
theorem dd_La_law_943 : decode code 943 = .ok (.aload_n 2, 1) := by decide +kernel
theorem dd_La_law_944 : decode code 944 = .ok (.aload_n 0, 1) := by decide +kernel
theorem dd_La_law_945 : decode code 945 = .ok (.iload 4, 2) := by decide +kernel
theorem dd_La_law_947 : decode code 947 = .ok (.iconst 1, 1) := by decide +kernel
theorem dd_La_law_948 : decode code 948 = .ok (.iadd, 1) := by decide +kernel
theorem dd_La_law_949 : decode code 949 = .ok (.iaload, 1) := by decide +kernel
theorem dd_La_law_950 : decode code 950 = .ok (.aload_n 0, 1) := by decide +kernel
theorem dd_La_law_951 : decode code 951 = .ok (.iload 4, 2) := by decide +kernel
theorem dd_La_law_953 : decode code 953 = .ok (.iconst 2, 1) := by decide +kernel
theorem dd_La_law_954 : decode code 954 = .ok (.iadd, 1) := by decide +kernel
theorem dd_La_law_955 : decode code 955 = .ok (.iaload, 1) := by decide +kernel
theorem dd_La_law_956 : decode code 956 = .ok (.aload_n 0, 1) := by decide +kernel
theorem dd_La_law_957 : decode code 957 = .ok (.iload 4, 2) := by decide +kernel
theorem dd_La_law_959 : decode code 959 = .ok (.iconst 3, 1) := by decide +kernel
theorem dd_La_law_960 : decode code 960 = .ok (.iadd, 1) := by decide +kernel
theorem dd_La_law_961 : decode code 961 = .ok (.iaload, 1) := by decide +kernel
theorem dd_La_law_962 : decode code 962 = .ok (.invokevirtual 113, 3) := by decide +kernel
theorem dd_La_law_965 : decode code 965 = .ok (.istore 6, 2) := by decide +kernel
theorem dd_La_law_967 : decode code 967 = .ok (.aload_n 2, 1) := by decide +kernel
theorem dd_La_law_968 : decode code 968 = .ok (.invokevirtual 64, 3) := by decide +kernel
theorem dd_La_law_971 : decode code 971 = .ok (.iload 5, 2) := by decide +kernel
theorem dd_La_law_973 : decode code 973 = .ok (.if_icmp .eq 5, 3) := by decide +kernel
theorem dd_La_law_976 : decode code 976 = .ok (.iconst 0, 1) := by decide +kernel
theorem dd_La_law_977 : decode code 977 = .ok (.ireturn, 1) := by decide +kernel
theorem dd_La_law_978 : decode code 978 = .ok (.iload 5, 2) := by decide +kernel
theorem dd_La_law_980 : decode code 980 = .ok (.ifCond .ne 15, 3) := by decide +kernel
theorem dd_La_law_983 : decode code 983 = .ok (.aload_n 3, 1) := by decide +kernel
theorem dd_La_law_984 : decode code 984 = .ok (.iconst 0, 1) := by decide +kernel
theorem dd_La_law_985 : decode code 985 = .ok (.laload, 1) := by decide +kernel
theorem dd_La_law_986 : decode code 986 = .ok (.iload 6, 2) := by decide +kernel
theorem dd_La_law_988 : decode code 988 = .ok (.i2l, 1) := by decide +kernel
theorem dd_La_law_989 : decode code 989 = .ok (.lcmp, 1) := by decide +kernel
theorem dd_La_law_990 : decode code 990 = .ok (.ifCond .eq 5, 3) := by decide +kernel
theorem dd_La_law_993 : decode code 993 = .ok (.iconst 0, 1) := by decide +kernel
theorem dd_La_law_994 : decode code 994 = .ok (.ireturn, 1) := by decide +kernel
theorem dd_La_law_995 : decode code 995 = .ok (.goto 139, 3) := by decide +kernel
theorem dd_La_law_998 : decode code 998 = .ok (.aload_n 1, 1) := by decide +kernel
theorem dd_La_law_999 : decode code 999 = .ok (.aload_n 0, 1) := by decide +kernel
theorem dd_La_law_1000 : decode code 1000 = .ok (.iload 4, 2) := by decide +kernel
theorem dd_La_law_1002 : decode code 1002 = .ok (.iconst 1, 1) := by decide +kernel
theorem dd_La_law_1003 : decode code 1003 = .ok (.iadd, 1) := by decide +kernel
theorem dd_La_law_1004 : decode code 1004 = .ok (.iaload, 1) := by decide +kernel
theorem dd_La_law_1005 : decode code 1005 = .ok (.aload_n 0, 1) := by decide +kernel
theorem dd_La_law_1006 : decode code 1006 = .ok (.iload 4, 2) := by decide +kernel
theorem dd_La_law_1008 : decode code 1008 = .ok (.iconst 2, 1) := by decide +kernel
theorem dd_La_law_1009 : decode code 1009 = .ok (.iadd, 1) := by decide +kernel
theorem dd_La_law_1010 : decode code 1010 = .ok (.iaload, 1) := by decide +kernel
theorem dd_La_law_1011 : decode code 1011 = .ok (.aload_n 3, 1) := by decide +kernel
theorem dd_La_law_1012 : decode code 1012 = .ok (.invokestatic 114, 3) := by decide +kernel
theorem dd_La_law_1015 : decode code 1015 = .ok (.istore 5, 2) := by decide +kernel
theorem dd_La_law_1017 : decode code 1017 = .ok (.aload_n 2, 1) := by decide +kernel
theorem dd_La_law_1018 : decode code 1018 = .ok (.aload_n 0, 1) := by decide +kernel
theorem dd_La_law_1019 : decode code 1019 = .ok (.iload 4, 2) := by decide +kernel
theorem dd_La_law_1021 : decode code 1021 = .ok (.iconst 1, 1) := by decide +kernel
theorem dd_La_law_1022 : decode code 1022 = .ok (.iadd, 1) := by decide +kernel
theorem dd_La_law_1023 : decode code 1023 = .ok (.iaload, 1) := by decide +kernel
theorem dd_La_law_1024 : decode code 1024 = .ok (.aload_n 0, 1) := by decide +kernel
theorem dd_La_law_1025 : decode code 1025 = .ok (.iload 4, 2) := by decide +kernel
theorem dd_La_law_1027 : decode code 1027 = .ok (.iconst 2, 1) := by decide +kernel
theorem dd_La_law_1028 : decode code 1028 = .ok (.iadd, 1) := by decide +kernel
theorem dd_La_law_1029 : decode code 1029 = .ok (.iaload, 1) := by decide +kernel
theorem dd_La_law_1030 : decode code 1030 = .ok (.invokevirtual 116, 3) := by decide +kernel
theorem dd_La_law_1033 : decode code 1033 = .ok (.istore 6, 2) := by decide +kernel
theorem dd_La_law_1035 : decode code 1035 = .ok (.aload_n 2, 1) := by decide +kernel
theorem dd_La_law_1036 : decode code 1036 = .ok (.invokevirtual 64, 3) := by decide +kernel
theorem dd_La_law_1039 : decode code 1039 = .ok (.iload 5, 2) := by decide +kernel
theorem dd_La_law_1041 : decode code 1041 = .ok (.if_icmp .eq 5, 3) := by decide +kernel
theorem dd_La_law_1044 : decode code 1044 = .ok (.iconst 0, 1) := by decide +kernel
theorem dd_La_law_1045 : decode code 1045 = .ok (.ireturn, 1) := by decide +kernel
theorem dd_La_law_1046 : decode code 1046 = .ok (.iload 5, 2) := by decide +kernel
theorem dd_La_law_1048 : decode code 1048 = .ok (.ifCond .ne 15, 3) := by decide +kernel
theorem dd_La_law_1051 : decode code 1051 = .ok (.aload_n 3, 1) := by decide +kernel
theorem dd_La_law_1052 : decode code 1052 = .ok (.iconst 0, 1) := by decide +kernel
theorem dd_La_law_1053 : decode code 1053 = .ok (.laload, 1) := by decide +kernel
theorem dd_La_law_1054 : decode code 1054 = .ok (.iload 6, 2) := by decide +kernel
theorem dd_La_law_1056 : decode code 1056 = .ok (.i2l, 1) := by decide +kernel
theorem dd_La_law_1057 : decode code 1057 = .ok (.lcmp, 1) := by decide +kernel
theorem dd_La_law_1058 : decode code 1058 = .ok (.ifCond .eq 5, 3) := by decide +kernel
theorem dd_La_law_1061 : decode code 1061 = .ok (.iconst 0, 1) := by decide +kernel
theorem dd_La_law_1062 : decode code 1062 = .ok (.ireturn, 1) := by decide +kernel
theorem dd_La_law_1063 : decode code 1063 = .ok (.goto 71, 3) := by decide +kernel
theorem dd_La_law_1066 : decode code 1066 = .ok (.aload_n 1, 1) := by decide +kernel
theorem dd_La_law_1067 : decode code 1067 = .ok (.aload_n 0, 1) := by decide +kernel
theorem dd_La_law_1068 : decode code 1068 = .ok (.iload 4, 2) := by decide +kernel
theorem dd_La_law_1070 : decode code 1070 = .ok (.iconst 1, 1) := by decide +kernel
theorem dd_La_law_1071 : decode code 1071 = .ok (.iadd, 1) := by decide +kernel
theorem dd_La_law_1072 : decode code 1072 = .ok (.iaload, 1) := by decide +kernel
theorem dd_La_law_1073 : decode code 1073 = .ok (.aload_n 0, 1) := by decide +kernel
theorem dd_La_law_1074 : decode code 1074 = .ok (.iload 4, 2) := by decide +kernel
theorem dd_La_law_1076 : decode code 1076 = .ok (.iconst 2, 1) := by decide +kernel
theorem dd_La_law_1077 : decode code 1077 = .ok (.iadd, 1) := by decide +kernel
theorem dd_La_law_1078 : decode code 1078 = .ok (.iaload, 1) := by decide +kernel
theorem dd_La_law_1079 : decode code 1079 = .ok (.aload_n 3, 1) := by decide +kernel
theorem dd_La_law_1080 : decode code 1080 = .ok (.invokestatic 117, 3) := by decide +kernel
theorem dd_La_law_1083 : decode code 1083 = .ok (.istore 5, 2) := by decide +kernel
theorem dd_La_law_1085 : decode code 1085 = .ok (.aload_n 2, 1) := by decide +kernel
theorem dd_La_law_1086 : decode code 1086 = .ok (.aload_n 0, 1) := by decide +kernel
theorem dd_La_law_1087 : decode code 1087 = .ok (.iload 4, 2) := by decide +kernel
theorem dd_La_law_1089 : decode code 1089 = .ok (.iconst 1, 1) := by decide +kernel
theorem dd_La_law_1090 : decode code 1090 = .ok (.iadd, 1) := by decide +kernel
theorem dd_La_law_1091 : decode code 1091 = .ok (.iaload, 1) := by decide +kernel
theorem dd_La_law_1092 : decode code 1092 = .ok (.aload_n 0, 1) := by decide +kernel
theorem dd_La_law_1093 : decode code 1093 = .ok (.iload 4, 2) := by decide +kernel
theorem dd_La_law_1095 : decode code 1095 = .ok (.iconst 2, 1) := by decide +kernel
theorem dd_La_law_1096 : decode code 1096 = .ok (.iadd, 1) := by decide +kernel
theorem dd_La_law_1097 : decode code 1097 = .ok (.iaload, 1) := by decide +kernel
theorem dd_La_law_1098 : decode code 1098 = .ok (.invokevirtual 119, 3) := by decide +kernel
theorem dd_La_law_1101 : decode code 1101 = .ok (.istore 6, 2) := by decide +kernel
theorem dd_La_law_1103 : decode code 1103 = .ok (.aload_n 2, 1) := by decide +kernel
theorem dd_La_law_1104 : decode code 1104 = .ok (.invokevirtual 64, 3) := by decide +kernel
theorem dd_La_law_1107 : decode code 1107 = .ok (.iload 5, 2) := by decide +kernel
theorem dd_La_law_1109 : decode code 1109 = .ok (.if_icmp .eq 5, 3) := by decide +kernel
theorem dd_La_law_1112 : decode code 1112 = .ok (.iconst 0, 1) := by decide +kernel
theorem dd_La_law_1113 : decode code 1113 = .ok (.ireturn, 1) := by decide +kernel
theorem dd_La_law_1114 : decode code 1114 = .ok (.iload 5, 2) := by decide +kernel
theorem dd_La_law_1116 : decode code 1116 = .ok (.ifCond .ne 15, 3) := by decide +kernel
theorem dd_La_law_1119 : decode code 1119 = .ok (.aload_n 3, 1) := by decide +kernel
theorem dd_La_law_1120 : decode code 1120 = .ok (.iconst 0, 1) := by decide +kernel
theorem dd_La_law_1121 : decode code 1121 = .ok (.laload, 1) := by decide +kernel
theorem dd_La_law_1122 : decode code 1122 = .ok (.iload 6, 2) := by decide +kernel
theorem dd_La_law_1124 : decode code 1124 = .ok (.i2l, 1) := by decide +kernel
theorem dd_La_law_1125 : decode code 1125 = .ok (.lcmp, 1) := by decide +kernel
theorem dd_La_law_1126 : decode code 1126 = .ok (.ifCond .eq 5, 3) := by decide +kernel
theorem dd_La_law_1129 : decode code 1129 = .ok (.iconst 0, 1) := by decide +kernel
theorem dd_La_law_1130 : decode code 1130 = .ok (.ireturn, 1) := by decide +kernel
theorem dd_La_law_1131 : decode code 1131 = .ok (.goto 3, 3) := by decide +kernel
theorem dd_La_law_1134 : decode code 1134 = .ok (.iinc 4 5, 3) := by decide +kernel
theorem dd_La_law_1137 : decode code 1137 = .ok (.goto (-1114), 3) := by decide +kernel
theorem dd_La_law_1140 : decode code 1140 = .ok (.iconst 1, 1) := by decide +kernel
theorem dd_La_law_1141 : decode code 1141 = .ok (.ireturn, 1) := by decide +kernel
theorem la_wk {i : Nat} {v : Value} {x0 x1 x2 x3 x4 : Value} {u5 u6 : Option Value} (hv : ([some x0, some x1, some x2, some x3, some x4, none, none] : List (Option Value))[i]? = some (some v)) : ([some x0, some x1, some x2, some x3, some x4, u5, u6] : List (Option Value))[i]? = some (some v) := by
  rcases i with _ | _ | _ | _ | _ | _ | _ | i
  · exact hv
  · exact hv
  · exact hv
  · exact hv
  · exact hv
  · cases hv
  · cases hv
  · simp at hv
set_option maxRecDepth 100000 in
set_option maxHeartbeats 4000000 in
theorem la_arm_0 {p : Program} {l : Launch} {e : Env} {s : State} {m : MethodId} {below : List Frame} {meth : Method} {c : Code} {A : Nat → Prop} {g : wd_G} {cells slots : Nat} {S0 : State} {b L n : Nat} {xs : Nat → Int32} {X : wx_S} {G : State → Prop} (C : cw_C p s m #[Value.ref b] meth c A wd_all g code 7 "DagLedgerLaw" ret) (D : ct_C l S0 s A g) (hX : va_X b L xs s s.heap) (hbl : b < s.heap.size) (hbA : ¬ A b) (hL : L ≤ 2560) (hn : 5 * n + 5 ≤ L) (hall : rl_all X X) (hc : cells ≤ 1000) (hs : slots ≤ 20000)
    (hk : ∀ (X' : wx_S) (cells' slots' : Nat), rl_all X' X' → cells' ≤ cells + 1 → slots' ≤ slots + 6 → cw_W p l e room_1 s m #[Value.ref b] below meth c A wd_all g cells' slots' G 7 1134 [some (.retAddr b), some (.ref 0), some (.ref 136), some (.ref 260), some (.int (nI (5 * n))), none, none] [] (wx_e X') (wx_l X')) : cw_W p l e room_1 s m #[Value.ref b] below meth c A wd_all g cells slots G 7 116 [some (.retAddr b), some (.ref 0), some (.ref 136), some (.ref 260), some (.int (nI (5 * n))), none, none] [] (wx_e X) (wx_l X) := by
  obtain ⟨k, mc, ms, d, v, X1, X2, hk2, hmc, hms, hd7, hV, hB, hthr, hall2, hout⟩ := la_submit hall (la_y_lt xs (5 * n + 1)) (la_y_lt xs (5 * n + 2)) (la_y_lt xs (5 * n + 3)) (la_y_lt xs (5 * n + 4))
  refine cw_aload_n C dd_La_law_116 rfl ?_
  refine cw_aload_nq C dd_La_law_117 rfl ?_
  refine cw_iload C dd_La_law_118 rfl ?_
  refine cw_iconst (v := nI 1) C dd_La_law_120 (by decide +kernel) ?_
  refine nw_iadd C dd_La_law_121 ?_
  refine nw_sld C hX hbl hbA (by omega) hL dd_La_law_122 ?_
  refine cw_aload_nq C dd_La_law_123 rfl ?_
  refine cw_iload C dd_La_law_124 rfl ?_
  refine cw_iconst (v := nI 2) C dd_La_law_126 (by decide +kernel) ?_
  refine nw_iadd C dd_La_law_127 ?_
  refine nw_sld C hX hbl hbA (by omega) hL dd_La_law_128 ?_
  refine cw_aload_nq C dd_La_law_129 rfl ?_
  refine cw_iload C dd_La_law_130 rfl ?_
  refine cw_iconst (v := nI 3) C dd_La_law_132 (by decide +kernel) ?_
  refine nw_iadd C dd_La_law_133 ?_
  refine nw_sld C hX hbl hbA (by omega) hL dd_La_law_134 ?_
  refine cw_aload_nq C dd_La_law_135 rfl ?_
  refine cw_iload C dd_La_law_136 rfl ?_
  refine cw_iconst (v := nI 4) C dd_La_law_138 (by decide +kernel) ?_
  refine nw_iadd C dd_La_law_139 ?_
  refine nw_sld C hX hbl hbA (by omega) hL dd_La_law_140 ?_
  refine cw_aload_n C dd_La_law_141 rfl ?_
  refine ct_callS (As := [.ref 0, _, _, _, _, .ref 260]) C D kW_La_submit dd_La_law_142 rfl rfl (Nat.le_of_ble_eq_true rfl) ⟨(Nat.le_of_ble_eq_true rfl), (Nat.le_of_ble_eq_true rfl)⟩ ⟨by show cells + mc ≤ 601024; omega, by show slots + ms ≤ 7293034; omega⟩ hV (fun w X' hq => ?_)
  obtain ⟨rfl, rfl⟩ := hq
  refine cw_istore C dd_La_law_145 (Nat.le_of_ble_eq_true rfl) ?_
  refine cw_aload_n C dd_La_law_147 rfl ?_
  refine cw_aload_nq C dd_La_law_148 rfl ?_
  refine cw_iload C dd_La_law_149 rfl ?_
  refine cw_iconst (v := nI 1) C dd_La_law_151 (by decide +kernel) ?_
  refine nw_iadd C dd_La_law_152 ?_
  refine nw_sld C hX hbl hbA (by omega) hL dd_La_law_153 ?_
  refine cw_aload_nq C dd_La_law_154 rfl ?_
  refine cw_iload C dd_La_law_155 rfl ?_
  refine cw_iconst (v := nI 2) C dd_La_law_157 (by decide +kernel) ?_
  refine nw_iadd C dd_La_law_158 ?_
  refine nw_sld C hX hbl hbA (by omega) hL dd_La_law_159 ?_
  refine cw_aload_nq C dd_La_law_160 rfl ?_
  refine cw_iload C dd_La_law_161 rfl ?_
  refine cw_iconst (v := nI 3) C dd_La_law_163 (by decide +kernel) ?_
  refine nw_iadd C dd_La_law_164 ?_
  refine nw_sld C hX hbl hbA (by omega) hL dd_La_law_165 ?_
  refine cw_aload_nq C dd_La_law_166 rfl ?_
  refine cw_iload C dd_La_law_167 rfl ?_
  refine cw_iconst (v := nI 4) C dd_La_law_169 (by decide +kernel) ?_
  refine nw_iadd C dd_La_law_170 ?_
  refine nw_sld C hX hbl hbA (by omega) hL dd_La_law_171 ?_
  refine cw_callV (As := [_, _, _, _]) C kV_La_63 wc_34 is_34 dd_La_law_172 rfl rfl (Nat.le_of_ble_eq_true rfl) ⟨by show d + 1 ≤ 12; omega, by show 8 + (_ + 11) + 40 * d ≤ 440; omega⟩ ⟨by show cells + mc + 0 ≤ 601024; omega, by show slots + ms + 0 ≤ 7293034; omega⟩ hB (nw_ki ?_)
  refine cw_istore C dd_La_law_175 (Nat.le_of_ble_eq_true rfl) ?_
  refine cw_aload_n C dd_La_law_177 rfl ?_
  refine cw_callV (As := []) C kV_La_64 wc_34 is_34 dd_La_law_178 rfl rfl (Nat.le_of_ble_eq_true rfl) ⟨(Nat.le_of_ble_eq_true rfl), (Nat.le_of_ble_eq_true rfl)⟩ ⟨by show cells + mc + 0 ≤ 601024; omega, by show slots + ms + 0 ≤ 7293034; omega⟩ (mm_Mo_thrown X2) (nw_ki ?_)
  rw [hthr]
  refine cw_iload C dd_La_law_181 rfl ?_
  refine cw_icmp_eq (tgt := 188) C dd_La_law_183 (by decide) (fun _ => ?_) (fun h9 => absurd rfl h9)
  refine cw_iload C dd_La_law_188 rfl ?_
  refine nw_if_ne (tgt := 205) C dd_La_law_190 (by decide) (by omega) (fun _ => ?_) (fun h0 => ?_)
  · refine cw_goto (tgt := 1134) C dd_La_law_205 (by decide) ?_
    exact cw_wk [some (.retAddr b), some (.ref 0), some (.ref 136), some (.ref 260), some (.int (nI (5 * n))), none, none] (fun i v hv => la_wk hv) (hk X2 _ _ hall2 (by omega) (by omega))
  · have hout := hout h0
    refine cw_aload_n C dd_La_law_193 rfl ?_
    refine cw_iconst (v := nI 0) C dd_La_law_194 (by decide +kernel) ?_
    refine nw_lald C is_65 (by decide) (by decide) dd_La_law_195 ?_
    rw [show X2 260 0 = zl_ v from hout]
    refine cw_iload C dd_La_law_196 rfl ?_
    refine cw_i2l C dd_La_law_198 ?_
    rw [zl_lN]
    refine cw_lcmp C dd_La_law_199 ?_
    rw [la_cmp]
    refine cw_if_eq (tgt := 205) C dd_La_law_200 (by decide) (fun _ => ?_) (fun h9 => absurd rfl h9)
    refine cw_goto (tgt := 1134) C dd_La_law_205 (by decide) ?_
    exact cw_wk [some (.retAddr b), some (.ref 0), some (.ref 136), some (.ref 260), some (.int (nI (5 * n))), none, none] (fun i v hv => la_wk hv) (hk X2 _ _ hall2 (by omega) (by omega))
set_option maxRecDepth 100000 in
set_option maxHeartbeats 4000000 in
theorem la_arm_1 {p : Program} {l : Launch} {e : Env} {s : State} {m : MethodId} {below : List Frame} {meth : Method} {c : Code} {A : Nat → Prop} {g : wd_G} {cells slots : Nat} {S0 : State} {b L n : Nat} {xs : Nat → Int32} {X : wx_S} {G : State → Prop} (C : cw_C p s m #[Value.ref b] meth c A wd_all g code 7 "DagLedgerLaw" ret) (D : ct_C l S0 s A g) (hX : va_X b L xs s s.heap) (hbl : b < s.heap.size) (hbA : ¬ A b) (hL : L ≤ 2560) (hn : 5 * n + 5 ≤ L) (hall : rl_all X X) (hc : cells ≤ 1000) (hs : slots ≤ 20000)
    (hk : ∀ (X' : wx_S) (cells' slots' : Nat), rl_all X' X' → cells' ≤ cells + 1 → slots' ≤ slots + 6 → cw_W p l e room_1 s m #[Value.ref b] below meth c A wd_all g cells' slots' G 7 1134 [some (.retAddr b), some (.ref 0), some (.ref 136), some (.ref 260), some (.int (nI (5 * n))), none, none] [] (wx_e X') (wx_l X')) : cw_W p l e room_1 s m #[Value.ref b] below meth c A wd_all g cells slots G 7 208 [some (.retAddr b), some (.ref 0), some (.ref 136), some (.ref 260), some (.int (nI (5 * n))), none, none] [] (wx_e X) (wx_l X) := by
  obtain ⟨k, mc, ms, d, v, X1, X2, hk2, hmc, hms, hd7, hV, hB, hthr, hall2, hout⟩ := la_deliver hall (la_y_lt xs (5 * n + 2)) (la_y_lt xs (5 * n + 1))
  refine cw_aload_n C dd_La_law_208 rfl ?_
  refine cw_aload_nq C dd_La_law_209 rfl ?_
  refine cw_iload C dd_La_law_210 rfl ?_
  refine cw_iconst (v := nI 1) C dd_La_law_212 (by decide +kernel) ?_
  refine nw_iadd C dd_La_law_213 ?_
  refine nw_sld C hX hbl hbA (by omega) hL dd_La_law_214 ?_
  refine cw_aload_nq C dd_La_law_215 rfl ?_
  refine cw_iload C dd_La_law_216 rfl ?_
  refine cw_iconst (v := nI 2) C dd_La_law_218 (by decide +kernel) ?_
  refine nw_iadd C dd_La_law_219 ?_
  refine nw_sld C hX hbl hbA (by omega) hL dd_La_law_220 ?_
  refine cw_aload_n C dd_La_law_221 rfl ?_
  refine ct_callS (As := [.ref 0, _, _, .ref 260]) C D kW_La_deliver dd_La_law_222 rfl rfl (Nat.le_of_ble_eq_true rfl) ⟨(Nat.le_of_ble_eq_true rfl), (Nat.le_of_ble_eq_true rfl)⟩ ⟨by show cells + mc ≤ 601024; omega, by show slots + ms ≤ 7293034; omega⟩ hV (fun w X' hq => ?_)
  obtain ⟨rfl, rfl⟩ := hq
  refine cw_istore C dd_La_law_225 (Nat.le_of_ble_eq_true rfl) ?_
  refine cw_aload_n C dd_La_law_227 rfl ?_
  refine cw_aload_nq C dd_La_law_228 rfl ?_
  refine cw_iload C dd_La_law_229 rfl ?_
  refine cw_iconst (v := nI 1) C dd_La_law_231 (by decide +kernel) ?_
  refine nw_iadd C dd_La_law_232 ?_
  refine nw_sld C hX hbl hbA (by omega) hL dd_La_law_233 ?_
  refine cw_aload_nq C dd_La_law_234 rfl ?_
  refine cw_iload C dd_La_law_235 rfl ?_
  refine cw_iconst (v := nI 2) C dd_La_law_237 (by decide +kernel) ?_
  refine nw_iadd C dd_La_law_238 ?_
  refine nw_sld C hX hbl hbA (by omega) hL dd_La_law_239 ?_
  refine cw_callV (As := [_, _]) C kV_La_71 wc_34 is_34 dd_La_law_240 rfl rfl (Nat.le_of_ble_eq_true rfl) ⟨by show d + 1 ≤ 12; omega, by show 8 + (_ + 11) + 40 * d ≤ 440; omega⟩ ⟨by show cells + mc + 0 ≤ 601024; omega, by show slots + ms + 0 ≤ 7293034; omega⟩ hB (nw_ki ?_)
  refine cw_istore C dd_La_law_243 (Nat.le_of_ble_eq_true rfl) ?_
  refine cw_aload_n C dd_La_law_245 rfl ?_
  refine cw_callV (As := []) C kV_La_64 wc_34 is_34 dd_La_law_246 rfl rfl (Nat.le_of_ble_eq_true rfl) ⟨(Nat.le_of_ble_eq_true rfl), (Nat.le_of_ble_eq_true rfl)⟩ ⟨by show cells + mc + 0 ≤ 601024; omega, by show slots + ms + 0 ≤ 7293034; omega⟩ (mm_Mo_thrown X2) (nw_ki ?_)
  rw [hthr]
  refine cw_iload C dd_La_law_249 rfl ?_
  refine cw_icmp_eq (tgt := 256) C dd_La_law_251 (by decide) (fun _ => ?_) (fun h9 => absurd rfl h9)
  refine cw_iload C dd_La_law_256 rfl ?_
  refine nw_if_ne (tgt := 280) C dd_La_law_258 (by decide) (by omega) (fun _ => ?_) (fun h0 => ?_)
  · refine cw_goto (tgt := 1134) C dd_La_law_280 (by decide) ?_
    exact cw_wk [some (.retAddr b), some (.ref 0), some (.ref 136), some (.ref 260), some (.int (nI (5 * n))), none, none] (fun i v hv => la_wk hv) (hk X2 _ _ hall2 (by omega) (by omega))
  · have hout := hout h0
    refine cw_aload_n C dd_La_law_261 rfl ?_
    refine cw_iconst (v := nI 0) C dd_La_law_262 (by decide +kernel) ?_
    refine nw_lald C is_65 (by decide) (by decide) dd_La_law_263 ?_
    obtain ⟨hv1, hout⟩ : v ≤ 1 ∧ X2 260 0 = v := hout
    rw [hout]
    refine cw_iload C dd_La_law_264 rfl ?_
    refine nw_if_eq (tgt := 273) C dd_La_law_266 (by decide) (by omega) (fun h9 => ?_) (fun h9 => ?_)
    · subst h9
      refine cw_lconst (v := lN 0) C dd_La_law_273 (by decide +kernel) ?_
      refine cw_lcmp C dd_La_law_274 ?_
      rw [la_cmp]
      refine cw_if_eq (tgt := 280) C dd_La_law_275 (by decide) (fun _ => ?_) (fun h9 => absurd rfl h9)
      refine cw_goto (tgt := 1134) C dd_La_law_280 (by decide) ?_
      exact cw_wk [some (.retAddr b), some (.ref 0), some (.ref 136), some (.ref 260), some (.int (nI (5 * n))), none, none] (fun i v hv => la_wk hv) (hk X2 _ _ hall2 (by omega) (by omega))
    · have h9 : v = 1 := by omega
      subst h9
      refine cw_lconst (v := lN 1) C dd_La_law_269 (by decide +kernel) ?_
      refine cw_goto (tgt := 274) C dd_La_law_270 (by decide) ?_
      refine cw_lcmp C dd_La_law_274 ?_
      rw [la_cmp]
      refine cw_if_eq (tgt := 280) C dd_La_law_275 (by decide) (fun _ => ?_) (fun h9 => absurd rfl h9)
      refine cw_goto (tgt := 1134) C dd_La_law_280 (by decide) ?_
      exact cw_wk [some (.retAddr b), some (.ref 0), some (.ref 136), some (.ref 260), some (.int (nI (5 * n))), none, none] (fun i v hv => la_wk hv) (hk X2 _ _ hall2 (by omega) (by omega))
set_option maxRecDepth 100000 in
set_option maxHeartbeats 4000000 in
theorem la_arm_2 {p : Program} {l : Launch} {e : Env} {s : State} {m : MethodId} {below : List Frame} {meth : Method} {c : Code} {A : Nat → Prop} {g : wd_G} {cells slots : Nat} {S0 : State} {b L n : Nat} {xs : Nat → Int32} {X : wx_S} {G : State → Prop} (C : cw_C p s m #[Value.ref b] meth c A wd_all g code 7 "DagLedgerLaw" ret) (D : ct_C l S0 s A g) (hX : va_X b L xs s s.heap) (hbl : b < s.heap.size) (hbA : ¬ A b) (hL : L ≤ 2560) (hn : 5 * n + 5 ≤ L) (hall : rl_all X X) (hc : cells ≤ 1000) (hs : slots ≤ 20000)
    (hk : ∀ (X' : wx_S) (cells' slots' : Nat), rl_all X' X' → cells' ≤ cells + 1 → slots' ≤ slots + 6 → cw_W p l e room_1 s m #[Value.ref b] below meth c A wd_all g cells' slots' G 7 1134 [some (.retAddr b), some (.ref 0), some (.ref 136), some (.ref 260), some (.int (nI (5 * n))), none, none] [] (wx_e X') (wx_l X')) : cw_W p l e room_1 s m #[Value.ref b] below meth c A wd_all g cells slots G 7 283 [some (.retAddr b), some (.ref 0), some (.ref 136), some (.ref 260), some (.int (nI (5 * n))), none, none] [] (wx_e X) (wx_l X) := by
  obtain ⟨k, mc, ms, d, v, X1, X2, hk2, hmc, hms, hd7, hV, hB, hthr, hall2, hout⟩ := la_pump hall (la_y_lt xs (5 * n + 1)) (la_y_lt xs (5 * n + 2))
  refine cw_aload_n C dd_La_law_283 rfl ?_
  refine cw_aload_nq C dd_La_law_284 rfl ?_
  refine cw_iload C dd_La_law_285 rfl ?_
  refine cw_iconst (v := nI 1) C dd_La_law_287 (by decide +kernel) ?_
  refine nw_iadd C dd_La_law_288 ?_
  refine nw_sld C hX hbl hbA (by omega) hL dd_La_law_289 ?_
  refine cw_aload_nq C dd_La_law_290 rfl ?_
  refine cw_iload C dd_La_law_291 rfl ?_
  refine cw_iconst (v := nI 2) C dd_La_law_293 (by decide +kernel) ?_
  refine nw_iadd C dd_La_law_294 ?_
  refine nw_sld C hX hbl hbA (by omega) hL dd_La_law_295 ?_
  refine cw_aload_n C dd_La_law_296 rfl ?_
  refine ct_callS (As := [.ref 0, _, _, .ref 260]) C D kW_La_pump dd_La_law_297 rfl rfl (Nat.le_of_ble_eq_true rfl) ⟨(Nat.le_of_ble_eq_true rfl), (Nat.le_of_ble_eq_true rfl)⟩ ⟨by show cells + mc ≤ 601024; omega, by show slots + ms ≤ 7293034; omega⟩ hV (fun w X' hq => ?_)
  obtain ⟨rfl, rfl⟩ := hq
  refine cw_istore C dd_La_law_300 (Nat.le_of_ble_eq_true rfl) ?_
  refine cw_aload_n C dd_La_law_302 rfl ?_
  refine cw_aload_nq C dd_La_law_303 rfl ?_
  refine cw_iload C dd_La_law_304 rfl ?_
  refine cw_iconst (v := nI 1) C dd_La_law_306 (by decide +kernel) ?_
  refine nw_iadd C dd_La_law_307 ?_
  refine nw_sld C hX hbl hbA (by omega) hL dd_La_law_308 ?_
  refine cw_aload_nq C dd_La_law_309 rfl ?_
  refine cw_iload C dd_La_law_310 rfl ?_
  refine cw_iconst (v := nI 2) C dd_La_law_312 (by decide +kernel) ?_
  refine nw_iadd C dd_La_law_313 ?_
  refine nw_sld C hX hbl hbA (by omega) hL dd_La_law_314 ?_
  refine cw_callV (As := [_, _]) C kV_La_74 wc_34 is_34 dd_La_law_315 rfl rfl (Nat.le_of_ble_eq_true rfl) ⟨by show d + 1 ≤ 12; omega, by show 8 + (_ + 11) + 40 * d ≤ 440; omega⟩ ⟨by show cells + mc + 0 ≤ 601024; omega, by show slots + ms + 0 ≤ 7293034; omega⟩ hB (nw_ki ?_)
  refine cw_istore C dd_La_law_318 (Nat.le_of_ble_eq_true rfl) ?_
  refine cw_aload_n C dd_La_law_320 rfl ?_
  refine cw_callV (As := []) C kV_La_64 wc_34 is_34 dd_La_law_321 rfl rfl (Nat.le_of_ble_eq_true rfl) ⟨(Nat.le_of_ble_eq_true rfl), (Nat.le_of_ble_eq_true rfl)⟩ ⟨by show cells + mc + 0 ≤ 601024; omega, by show slots + ms + 0 ≤ 7293034; omega⟩ (mm_Mo_thrown X2) (nw_ki ?_)
  rw [hthr]
  refine cw_iload C dd_La_law_324 rfl ?_
  refine cw_icmp_eq (tgt := 331) C dd_La_law_326 (by decide) (fun _ => ?_) (fun h9 => absurd rfl h9)
  refine cw_iload C dd_La_law_331 rfl ?_
  refine nw_if_ne (tgt := 348) C dd_La_law_333 (by decide) (by omega) (fun _ => ?_) (fun h0 => ?_)
  · refine cw_goto (tgt := 1134) C dd_La_law_348 (by decide) ?_
    exact cw_wk [some (.retAddr b), some (.ref 0), some (.ref 136), some (.ref 260), some (.int (nI (5 * n))), none, none] (fun i v hv => la_wk hv) (hk X2 _ _ hall2 (by omega) (by omega))
  · have hout := hout h0
    refine cw_aload_n C dd_La_law_336 rfl ?_
    refine cw_iconst (v := nI 0) C dd_La_law_337 (by decide +kernel) ?_
    refine nw_lald C is_65 (by decide) (by decide) dd_La_law_338 ?_
    rw [show X2 260 0 = zl_ v from hout]
    refine cw_iload C dd_La_law_339 rfl ?_
    refine cw_i2l C dd_La_law_341 ?_
    rw [zl_lN]
    refine cw_lcmp C dd_La_law_342 ?_
    rw [la_cmp]
    refine cw_if_eq (tgt := 348) C dd_La_law_343 (by decide) (fun _ => ?_) (fun h9 => absurd rfl h9)
    refine cw_goto (tgt := 1134) C dd_La_law_348 (by decide) ?_
    exact cw_wk [some (.retAddr b), some (.ref 0), some (.ref 136), some (.ref 260), some (.int (nI (5 * n))), none, none] (fun i v hv => la_wk hv) (hk X2 _ _ hall2 (by omega) (by omega))
set_option maxRecDepth 100000 in
set_option maxHeartbeats 4000000 in
theorem la_arm_3 {p : Program} {l : Launch} {e : Env} {s : State} {m : MethodId} {below : List Frame} {meth : Method} {c : Code} {A : Nat → Prop} {g : wd_G} {cells slots : Nat} {S0 : State} {b L n : Nat} {xs : Nat → Int32} {X : wx_S} {G : State → Prop} (C : cw_C p s m #[Value.ref b] meth c A wd_all g code 7 "DagLedgerLaw" ret) (D : ct_C l S0 s A g) (hX : va_X b L xs s s.heap) (hbl : b < s.heap.size) (hbA : ¬ A b) (hL : L ≤ 2560) (hn : 5 * n + 5 ≤ L) (hall : rl_all X X) (hc : cells ≤ 1000) (hs : slots ≤ 20000)
    (hk : ∀ (X' : wx_S) (cells' slots' : Nat), rl_all X' X' → cells' ≤ cells + 1 → slots' ≤ slots + 6 → cw_W p l e room_1 s m #[Value.ref b] below meth c A wd_all g cells' slots' G 7 1134 [some (.retAddr b), some (.ref 0), some (.ref 136), some (.ref 260), some (.int (nI (5 * n))), none, none] [] (wx_e X') (wx_l X')) : cw_W p l e room_1 s m #[Value.ref b] below meth c A wd_all g cells slots G 7 351 [some (.retAddr b), some (.ref 0), some (.ref 136), some (.ref 260), some (.int (nI (5 * n))), none, none] [] (wx_e X) (wx_l X) := by
  obtain ⟨k, mc, ms, d, v, X1, X2, hk2, hmc, hms, hd7, hV, hB, hthr, hall2, hout⟩ := la_tick hall (la_y_lt xs (5 * n + 1))
  refine cw_aload_n C dd_La_law_351 rfl ?_
  refine cw_aload_nq C dd_La_law_352 rfl ?_
  refine cw_iload C dd_La_law_353 rfl ?_
  refine cw_iconst (v := nI 1) C dd_La_law_355 (by decide +kernel) ?_
  refine nw_iadd C dd_La_law_356 ?_
  refine nw_sld C hX hbl hbA (by omega) hL dd_La_law_357 ?_
  refine cw_aload_n C dd_La_law_358 rfl ?_
  refine ct_callS (As := [.ref 0, _, .ref 260]) C D kW_La_tick dd_La_law_359 rfl rfl (Nat.le_of_ble_eq_true rfl) ⟨(Nat.le_of_ble_eq_true rfl), (Nat.le_of_ble_eq_true rfl)⟩ ⟨by show cells + mc ≤ 601024; omega, by show slots + ms ≤ 7293034; omega⟩ hV (fun w X' hq => ?_)
  obtain ⟨rfl, rfl⟩ := hq
  refine cw_istore C dd_La_law_362 (Nat.le_of_ble_eq_true rfl) ?_
  refine cw_aload_n C dd_La_law_364 rfl ?_
  refine cw_aload_nq C dd_La_law_365 rfl ?_
  refine cw_iload C dd_La_law_366 rfl ?_
  refine cw_iconst (v := nI 1) C dd_La_law_368 (by decide +kernel) ?_
  refine nw_iadd C dd_La_law_369 ?_
  refine nw_sld C hX hbl hbA (by omega) hL dd_La_law_370 ?_
  refine cw_callV (As := [_]) C kV_La_78 wc_34 is_34 dd_La_law_371 rfl rfl (Nat.le_of_ble_eq_true rfl) ⟨by show d + 1 ≤ 12; omega, by show 8 + (_ + 11) + 40 * d ≤ 440; omega⟩ ⟨by show cells + mc + 0 ≤ 601024; omega, by show slots + ms + 0 ≤ 7293034; omega⟩ hB (nw_ki ?_)
  refine cw_istore C dd_La_law_374 (Nat.le_of_ble_eq_true rfl) ?_
  refine cw_aload_n C dd_La_law_376 rfl ?_
  refine cw_callV (As := []) C kV_La_64 wc_34 is_34 dd_La_law_377 rfl rfl (Nat.le_of_ble_eq_true rfl) ⟨(Nat.le_of_ble_eq_true rfl), (Nat.le_of_ble_eq_true rfl)⟩ ⟨by show cells + mc + 0 ≤ 601024; omega, by show slots + ms + 0 ≤ 7293034; omega⟩ (mm_Mo_thrown X2) (nw_ki ?_)
  rw [hthr]
  refine cw_iload C dd_La_law_380 rfl ?_
  refine cw_icmp_eq (tgt := 387) C dd_La_law_382 (by decide) (fun _ => ?_) (fun h9 => absurd rfl h9)
  refine cw_iload C dd_La_law_387 rfl ?_
  refine nw_if_ne (tgt := 411) C dd_La_law_389 (by decide) (by omega) (fun _ => ?_) (fun h0 => ?_)
  · refine cw_goto (tgt := 1134) C dd_La_law_411 (by decide) ?_
    exact cw_wk [some (.retAddr b), some (.ref 0), some (.ref 136), some (.ref 260), some (.int (nI (5 * n))), none, none] (fun i v hv => la_wk hv) (hk X2 _ _ hall2 (by omega) (by omega))
  · have hout := hout h0
    refine cw_aload_n C dd_La_law_392 rfl ?_
    refine cw_iconst (v := nI 0) C dd_La_law_393 (by decide +kernel) ?_
    refine nw_lald C is_65 (by decide) (by decide) dd_La_law_394 ?_
    obtain ⟨hv1, hout⟩ : v ≤ 1 ∧ X2 260 0 = v := hout
    rw [hout]
    refine cw_iload C dd_La_law_395 rfl ?_
    refine nw_if_eq (tgt := 404) C dd_La_law_397 (by decide) (by omega) (fun h9 => ?_) (fun h9 => ?_)
    · subst h9
      refine cw_lconst (v := lN 0) C dd_La_law_404 (by decide +kernel) ?_
      refine cw_lcmp C dd_La_law_405 ?_
      rw [la_cmp]
      refine cw_if_eq (tgt := 411) C dd_La_law_406 (by decide) (fun _ => ?_) (fun h9 => absurd rfl h9)
      refine cw_goto (tgt := 1134) C dd_La_law_411 (by decide) ?_
      exact cw_wk [some (.retAddr b), some (.ref 0), some (.ref 136), some (.ref 260), some (.int (nI (5 * n))), none, none] (fun i v hv => la_wk hv) (hk X2 _ _ hall2 (by omega) (by omega))
    · have h9 : v = 1 := by omega
      subst h9
      refine cw_lconst (v := lN 1) C dd_La_law_400 (by decide +kernel) ?_
      refine cw_goto (tgt := 405) C dd_La_law_401 (by decide) ?_
      refine cw_lcmp C dd_La_law_405 ?_
      rw [la_cmp]
      refine cw_if_eq (tgt := 411) C dd_La_law_406 (by decide) (fun _ => ?_) (fun h9 => absurd rfl h9)
      refine cw_goto (tgt := 1134) C dd_La_law_411 (by decide) ?_
      exact cw_wk [some (.retAddr b), some (.ref 0), some (.ref 136), some (.ref 260), some (.int (nI (5 * n))), none, none] (fun i v hv => la_wk hv) (hk X2 _ _ hall2 (by omega) (by omega))
set_option maxRecDepth 100000 in
set_option maxHeartbeats 4000000 in
theorem la_arm_4 {p : Program} {l : Launch} {e : Env} {s : State} {m : MethodId} {below : List Frame} {meth : Method} {c : Code} {A : Nat → Prop} {g : wd_G} {cells slots : Nat} {S0 : State} {b L n : Nat} {xs : Nat → Int32} {X : wx_S} {G : State → Prop} (C : cw_C p s m #[Value.ref b] meth c A wd_all g code 7 "DagLedgerLaw" ret) (D : ct_C l S0 s A g) (hX : va_X b L xs s s.heap) (hbl : b < s.heap.size) (hbA : ¬ A b) (hL : L ≤ 2560) (hn : 5 * n + 5 ≤ L) (hall : rl_all X X) (hc : cells ≤ 1000) (hs : slots ≤ 20000)
    (hk : ∀ (X' : wx_S) (cells' slots' : Nat), rl_all X' X' → cells' ≤ cells + 1 → slots' ≤ slots + 6 → cw_W p l e room_1 s m #[Value.ref b] below meth c A wd_all g cells' slots' G 7 1134 [some (.retAddr b), some (.ref 0), some (.ref 136), some (.ref 260), some (.int (nI (5 * n))), none, none] [] (wx_e X') (wx_l X')) : cw_W p l e room_1 s m #[Value.ref b] below meth c A wd_all g cells slots G 7 414 [some (.retAddr b), some (.ref 0), some (.ref 136), some (.ref 260), some (.int (nI (5 * n))), none, none] [] (wx_e X) (wx_l X) := by
  obtain ⟨k, mc, ms, d, v, X1, X2, hk2, hmc, hms, hd7, hV, hB, hthr, hall2, hout⟩ := la_crash hall (la_y_lt xs (5 * n + 1))
  refine cw_aload_n C dd_La_law_414 rfl ?_
  refine cw_aload_nq C dd_La_law_415 rfl ?_
  refine cw_iload C dd_La_law_416 rfl ?_
  refine cw_iconst (v := nI 1) C dd_La_law_418 (by decide +kernel) ?_
  refine nw_iadd C dd_La_law_419 ?_
  refine nw_sld C hX hbl hbA (by omega) hL dd_La_law_420 ?_
  refine cw_aload_n C dd_La_law_421 rfl ?_
  refine ct_callS (As := [.ref 0, _, .ref 260]) C D kW_La_crash dd_La_law_422 rfl rfl (Nat.le_of_ble_eq_true rfl) ⟨(Nat.le_of_ble_eq_true rfl), (Nat.le_of_ble_eq_true rfl)⟩ ⟨by show cells + mc ≤ 601024; omega, by show slots + ms ≤ 7293034; omega⟩ hV (fun w X' hq => ?_)
  obtain ⟨rfl, rfl⟩ := hq
  refine cw_istore C dd_La_law_425 (Nat.le_of_ble_eq_true rfl) ?_
  refine cw_aload_n C dd_La_law_427 rfl ?_
  refine cw_aload_nq C dd_La_law_428 rfl ?_
  refine cw_iload C dd_La_law_429 rfl ?_
  refine cw_iconst (v := nI 1) C dd_La_law_431 (by decide +kernel) ?_
  refine nw_iadd C dd_La_law_432 ?_
  refine nw_sld C hX hbl hbA (by omega) hL dd_La_law_433 ?_
  refine cw_callV (As := [_]) C kV_La_81 wc_34 is_34 dd_La_law_434 rfl rfl (Nat.le_of_ble_eq_true rfl) ⟨by show d + 1 ≤ 12; omega, by show 8 + (_ + 11) + 40 * d ≤ 440; omega⟩ ⟨by show cells + mc + 0 ≤ 601024; omega, by show slots + ms + 0 ≤ 7293034; omega⟩ hB (nw_ki ?_)
  refine cw_istore C dd_La_law_437 (Nat.le_of_ble_eq_true rfl) ?_
  refine cw_aload_n C dd_La_law_439 rfl ?_
  refine cw_callV (As := []) C kV_La_64 wc_34 is_34 dd_La_law_440 rfl rfl (Nat.le_of_ble_eq_true rfl) ⟨(Nat.le_of_ble_eq_true rfl), (Nat.le_of_ble_eq_true rfl)⟩ ⟨by show cells + mc + 0 ≤ 601024; omega, by show slots + ms + 0 ≤ 7293034; omega⟩ (mm_Mo_thrown X2) (nw_ki ?_)
  rw [hthr]
  refine cw_iload C dd_La_law_443 rfl ?_
  refine cw_icmp_eq (tgt := 450) C dd_La_law_445 (by decide) (fun _ => ?_) (fun h9 => absurd rfl h9)
  refine cw_iload C dd_La_law_450 rfl ?_
  refine nw_if_ne (tgt := 474) C dd_La_law_452 (by decide) (by omega) (fun _ => ?_) (fun h0 => ?_)
  · refine cw_goto (tgt := 1134) C dd_La_law_474 (by decide) ?_
    exact cw_wk [some (.retAddr b), some (.ref 0), some (.ref 136), some (.ref 260), some (.int (nI (5 * n))), none, none] (fun i v hv => la_wk hv) (hk X2 _ _ hall2 (by omega) (by omega))
  · have hout := hout h0
    refine cw_aload_n C dd_La_law_455 rfl ?_
    refine cw_iconst (v := nI 0) C dd_La_law_456 (by decide +kernel) ?_
    refine nw_lald C is_65 (by decide) (by decide) dd_La_law_457 ?_
    obtain ⟨hv1, hout⟩ : v ≤ 1 ∧ X2 260 0 = v := hout
    rw [hout]
    refine cw_iload C dd_La_law_458 rfl ?_
    refine nw_if_eq (tgt := 467) C dd_La_law_460 (by decide) (by omega) (fun h9 => ?_) (fun h9 => ?_)
    · subst h9
      refine cw_lconst (v := lN 0) C dd_La_law_467 (by decide +kernel) ?_
      refine cw_lcmp C dd_La_law_468 ?_
      rw [la_cmp]
      refine cw_if_eq (tgt := 474) C dd_La_law_469 (by decide) (fun _ => ?_) (fun h9 => absurd rfl h9)
      refine cw_goto (tgt := 1134) C dd_La_law_474 (by decide) ?_
      exact cw_wk [some (.retAddr b), some (.ref 0), some (.ref 136), some (.ref 260), some (.int (nI (5 * n))), none, none] (fun i v hv => la_wk hv) (hk X2 _ _ hall2 (by omega) (by omega))
    · have h9 : v = 1 := by omega
      subst h9
      refine cw_lconst (v := lN 1) C dd_La_law_463 (by decide +kernel) ?_
      refine cw_goto (tgt := 468) C dd_La_law_464 (by decide) ?_
      refine cw_lcmp C dd_La_law_468 ?_
      rw [la_cmp]
      refine cw_if_eq (tgt := 474) C dd_La_law_469 (by decide) (fun _ => ?_) (fun h9 => absurd rfl h9)
      refine cw_goto (tgt := 1134) C dd_La_law_474 (by decide) ?_
      exact cw_wk [some (.retAddr b), some (.ref 0), some (.ref 136), some (.ref 260), some (.int (nI (5 * n))), none, none] (fun i v hv => la_wk hv) (hk X2 _ _ hall2 (by omega) (by omega))
set_option maxRecDepth 100000 in
set_option maxHeartbeats 4000000 in
theorem la_arm_5 {p : Program} {l : Launch} {e : Env} {s : State} {m : MethodId} {below : List Frame} {meth : Method} {c : Code} {A : Nat → Prop} {g : wd_G} {cells slots : Nat} {S0 : State} {b L n : Nat} {xs : Nat → Int32} {X : wx_S} {G : State → Prop} (C : cw_C p s m #[Value.ref b] meth c A wd_all g code 7 "DagLedgerLaw" ret) (D : ct_C l S0 s A g) (hX : va_X b L xs s s.heap) (hbl : b < s.heap.size) (hbA : ¬ A b) (hL : L ≤ 2560) (hn : 5 * n + 5 ≤ L) (hall : rl_all X X) (hc : cells ≤ 1000) (hs : slots ≤ 20000)
    (hk : ∀ (X' : wx_S) (cells' slots' : Nat), rl_all X' X' → cells' ≤ cells + 1 → slots' ≤ slots + 6 → cw_W p l e room_1 s m #[Value.ref b] below meth c A wd_all g cells' slots' G 7 1134 [some (.retAddr b), some (.ref 0), some (.ref 136), some (.ref 260), some (.int (nI (5 * n))), none, none] [] (wx_e X') (wx_l X')) : cw_W p l e room_1 s m #[Value.ref b] below meth c A wd_all g cells slots G 7 477 [some (.retAddr b), some (.ref 0), some (.ref 136), some (.ref 260), some (.int (nI (5 * n))), none, none] [] (wx_e X) (wx_l X) := by
  obtain ⟨k, mc, ms, d, v, X1, X2, hk2, hmc, hms, hd7, hV, hB, hthr, hall2, hout⟩ := la_restart hall (la_y_lt xs (5 * n + 1))
  refine cw_aload_n C dd_La_law_477 rfl ?_
  refine cw_aload_nq C dd_La_law_478 rfl ?_
  refine cw_iload C dd_La_law_479 rfl ?_
  refine cw_iconst (v := nI 1) C dd_La_law_481 (by decide +kernel) ?_
  refine nw_iadd C dd_La_law_482 ?_
  refine nw_sld C hX hbl hbA (by omega) hL dd_La_law_483 ?_
  refine cw_aload_n C dd_La_law_484 rfl ?_
  refine ct_callS (As := [.ref 0, _, .ref 260]) C D kW_La_restart dd_La_law_485 rfl rfl (Nat.le_of_ble_eq_true rfl) ⟨(Nat.le_of_ble_eq_true rfl), (Nat.le_of_ble_eq_true rfl)⟩ ⟨by show cells + mc ≤ 601024; omega, by show slots + ms ≤ 7293034; omega⟩ hV (fun w X' hq => ?_)
  obtain ⟨rfl, rfl⟩ := hq
  refine cw_istore C dd_La_law_488 (Nat.le_of_ble_eq_true rfl) ?_
  refine cw_aload_n C dd_La_law_490 rfl ?_
  refine cw_aload_nq C dd_La_law_491 rfl ?_
  refine cw_iload C dd_La_law_492 rfl ?_
  refine cw_iconst (v := nI 1) C dd_La_law_494 (by decide +kernel) ?_
  refine nw_iadd C dd_La_law_495 ?_
  refine nw_sld C hX hbl hbA (by omega) hL dd_La_law_496 ?_
  refine cw_callV (As := [_]) C kV_La_84 wc_34 is_34 dd_La_law_497 rfl rfl (Nat.le_of_ble_eq_true rfl) ⟨by show d + 1 ≤ 12; omega, by show 8 + (_ + 11) + 40 * d ≤ 440; omega⟩ ⟨by show cells + mc + 0 ≤ 601024; omega, by show slots + ms + 0 ≤ 7293034; omega⟩ hB (nw_ki ?_)
  refine cw_istore C dd_La_law_500 (Nat.le_of_ble_eq_true rfl) ?_
  refine cw_aload_n C dd_La_law_502 rfl ?_
  refine cw_callV (As := []) C kV_La_64 wc_34 is_34 dd_La_law_503 rfl rfl (Nat.le_of_ble_eq_true rfl) ⟨(Nat.le_of_ble_eq_true rfl), (Nat.le_of_ble_eq_true rfl)⟩ ⟨by show cells + mc + 0 ≤ 601024; omega, by show slots + ms + 0 ≤ 7293034; omega⟩ (mm_Mo_thrown X2) (nw_ki ?_)
  rw [hthr]
  refine cw_iload C dd_La_law_506 rfl ?_
  refine cw_icmp_eq (tgt := 513) C dd_La_law_508 (by decide) (fun _ => ?_) (fun h9 => absurd rfl h9)
  refine cw_iload C dd_La_law_513 rfl ?_
  refine nw_if_ne (tgt := 537) C dd_La_law_515 (by decide) (by omega) (fun _ => ?_) (fun h0 => ?_)
  · refine cw_goto (tgt := 1134) C dd_La_law_537 (by decide) ?_
    exact cw_wk [some (.retAddr b), some (.ref 0), some (.ref 136), some (.ref 260), some (.int (nI (5 * n))), none, none] (fun i v hv => la_wk hv) (hk X2 _ _ hall2 (by omega) (by omega))
  · have hout := hout h0
    refine cw_aload_n C dd_La_law_518 rfl ?_
    refine cw_iconst (v := nI 0) C dd_La_law_519 (by decide +kernel) ?_
    refine nw_lald C is_65 (by decide) (by decide) dd_La_law_520 ?_
    obtain ⟨hv1, hout⟩ : v ≤ 1 ∧ X2 260 0 = v := hout
    rw [hout]
    refine cw_iload C dd_La_law_521 rfl ?_
    refine nw_if_eq (tgt := 530) C dd_La_law_523 (by decide) (by omega) (fun h9 => ?_) (fun h9 => ?_)
    · subst h9
      refine cw_lconst (v := lN 0) C dd_La_law_530 (by decide +kernel) ?_
      refine cw_lcmp C dd_La_law_531 ?_
      rw [la_cmp]
      refine cw_if_eq (tgt := 537) C dd_La_law_532 (by decide) (fun _ => ?_) (fun h9 => absurd rfl h9)
      refine cw_goto (tgt := 1134) C dd_La_law_537 (by decide) ?_
      exact cw_wk [some (.retAddr b), some (.ref 0), some (.ref 136), some (.ref 260), some (.int (nI (5 * n))), none, none] (fun i v hv => la_wk hv) (hk X2 _ _ hall2 (by omega) (by omega))
    · have h9 : v = 1 := by omega
      subst h9
      refine cw_lconst (v := lN 1) C dd_La_law_526 (by decide +kernel) ?_
      refine cw_goto (tgt := 531) C dd_La_law_527 (by decide) ?_
      refine cw_lcmp C dd_La_law_531 ?_
      rw [la_cmp]
      refine cw_if_eq (tgt := 537) C dd_La_law_532 (by decide) (fun _ => ?_) (fun h9 => absurd rfl h9)
      refine cw_goto (tgt := 1134) C dd_La_law_537 (by decide) ?_
      exact cw_wk [some (.retAddr b), some (.ref 0), some (.ref 136), some (.ref 260), some (.int (nI (5 * n))), none, none] (fun i v hv => la_wk hv) (hk X2 _ _ hall2 (by omega) (by omega))
set_option maxRecDepth 100000 in
set_option maxHeartbeats 4000000 in
theorem la_arm_6 {p : Program} {l : Launch} {e : Env} {s : State} {m : MethodId} {below : List Frame} {meth : Method} {c : Code} {A : Nat → Prop} {g : wd_G} {cells slots : Nat} {S0 : State} {b L n : Nat} {xs : Nat → Int32} {X : wx_S} {G : State → Prop} (C : cw_C p s m #[Value.ref b] meth c A wd_all g code 7 "DagLedgerLaw" ret) (D : ct_C l S0 s A g) (hX : va_X b L xs s s.heap) (hbl : b < s.heap.size) (hbA : ¬ A b) (hL : L ≤ 2560) (hn : 5 * n + 5 ≤ L) (hall : rl_all X X) (hc : cells ≤ 1000) (hs : slots ≤ 20000)
    (hk : ∀ (X' : wx_S) (cells' slots' : Nat), rl_all X' X' → cells' ≤ cells + 1 → slots' ≤ slots + 6 → cw_W p l e room_1 s m #[Value.ref b] below meth c A wd_all g cells' slots' G 7 1134 [some (.retAddr b), some (.ref 0), some (.ref 136), some (.ref 260), some (.int (nI (5 * n))), none, none] [] (wx_e X') (wx_l X')) : cw_W p l e room_1 s m #[Value.ref b] below meth c A wd_all g cells slots G 7 540 [some (.retAddr b), some (.ref 0), some (.ref 136), some (.ref 260), some (.int (nI (5 * n))), none, none] [] (wx_e X) (wx_l X) := by
  obtain ⟨k, mc, ms, d, v, X1, X2, hk2, hmc, hms, hd7, hV, hB, hthr, hall2, hout⟩ := la_cut hall (la_y_lt xs (5 * n + 1)) (la_y_lt xs (5 * n + 2))
  refine cw_aload_n C dd_La_law_540 rfl ?_
  refine cw_aload_nq C dd_La_law_541 rfl ?_
  refine cw_iload C dd_La_law_542 rfl ?_
  refine cw_iconst (v := nI 1) C dd_La_law_544 (by decide +kernel) ?_
  refine nw_iadd C dd_La_law_545 ?_
  refine nw_sld C hX hbl hbA (by omega) hL dd_La_law_546 ?_
  refine cw_aload_nq C dd_La_law_547 rfl ?_
  refine cw_iload C dd_La_law_548 rfl ?_
  refine cw_iconst (v := nI 2) C dd_La_law_550 (by decide +kernel) ?_
  refine nw_iadd C dd_La_law_551 ?_
  refine nw_sld C hX hbl hbA (by omega) hL dd_La_law_552 ?_
  refine cw_aload_n C dd_La_law_553 rfl ?_
  refine ct_callS (As := [.ref 0, _, _, .ref 260]) C D kW_La_cut dd_La_law_554 rfl rfl (Nat.le_of_ble_eq_true rfl) ⟨(Nat.le_of_ble_eq_true rfl), (Nat.le_of_ble_eq_true rfl)⟩ ⟨by show cells + mc ≤ 601024; omega, by show slots + ms ≤ 7293034; omega⟩ hV (fun w X' hq => ?_)
  obtain ⟨rfl, rfl⟩ := hq
  refine cw_istore C dd_La_law_557 (Nat.le_of_ble_eq_true rfl) ?_
  refine cw_aload_n C dd_La_law_559 rfl ?_
  refine cw_aload_nq C dd_La_law_560 rfl ?_
  refine cw_iload C dd_La_law_561 rfl ?_
  refine cw_iconst (v := nI 1) C dd_La_law_563 (by decide +kernel) ?_
  refine nw_iadd C dd_La_law_564 ?_
  refine nw_sld C hX hbl hbA (by omega) hL dd_La_law_565 ?_
  refine cw_aload_nq C dd_La_law_566 rfl ?_
  refine cw_iload C dd_La_law_567 rfl ?_
  refine cw_iconst (v := nI 2) C dd_La_law_569 (by decide +kernel) ?_
  refine nw_iadd C dd_La_law_570 ?_
  refine nw_sld C hX hbl hbA (by omega) hL dd_La_law_571 ?_
  refine cw_callV (As := [_, _]) C kV_La_87 wc_34 is_34 dd_La_law_572 rfl rfl (Nat.le_of_ble_eq_true rfl) ⟨by show d + 1 ≤ 12; omega, by show 8 + (_ + 11) + 40 * d ≤ 440; omega⟩ ⟨by show cells + mc + 0 ≤ 601024; omega, by show slots + ms + 0 ≤ 7293034; omega⟩ hB (nw_ki ?_)
  refine cw_istore C dd_La_law_575 (Nat.le_of_ble_eq_true rfl) ?_
  refine cw_aload_n C dd_La_law_577 rfl ?_
  refine cw_callV (As := []) C kV_La_64 wc_34 is_34 dd_La_law_578 rfl rfl (Nat.le_of_ble_eq_true rfl) ⟨(Nat.le_of_ble_eq_true rfl), (Nat.le_of_ble_eq_true rfl)⟩ ⟨by show cells + mc + 0 ≤ 601024; omega, by show slots + ms + 0 ≤ 7293034; omega⟩ (mm_Mo_thrown X2) (nw_ki ?_)
  rw [hthr]
  refine cw_iload C dd_La_law_581 rfl ?_
  refine cw_icmp_eq (tgt := 588) C dd_La_law_583 (by decide) (fun _ => ?_) (fun h9 => absurd rfl h9)
  refine cw_iload C dd_La_law_588 rfl ?_
  refine nw_if_ne (tgt := 612) C dd_La_law_590 (by decide) (by omega) (fun _ => ?_) (fun h0 => ?_)
  · refine cw_goto (tgt := 1134) C dd_La_law_612 (by decide) ?_
    exact cw_wk [some (.retAddr b), some (.ref 0), some (.ref 136), some (.ref 260), some (.int (nI (5 * n))), none, none] (fun i v hv => la_wk hv) (hk X2 _ _ hall2 (by omega) (by omega))
  · have hout := hout h0
    refine cw_aload_n C dd_La_law_593 rfl ?_
    refine cw_iconst (v := nI 0) C dd_La_law_594 (by decide +kernel) ?_
    refine nw_lald C is_65 (by decide) (by decide) dd_La_law_595 ?_
    obtain ⟨hv1, hout⟩ : v ≤ 1 ∧ X2 260 0 = v := hout
    rw [hout]
    refine cw_iload C dd_La_law_596 rfl ?_
    refine nw_if_eq (tgt := 605) C dd_La_law_598 (by decide) (by omega) (fun h9 => ?_) (fun h9 => ?_)
    · subst h9
      refine cw_lconst (v := lN 0) C dd_La_law_605 (by decide +kernel) ?_
      refine cw_lcmp C dd_La_law_606 ?_
      rw [la_cmp]
      refine cw_if_eq (tgt := 612) C dd_La_law_607 (by decide) (fun _ => ?_) (fun h9 => absurd rfl h9)
      refine cw_goto (tgt := 1134) C dd_La_law_612 (by decide) ?_
      exact cw_wk [some (.retAddr b), some (.ref 0), some (.ref 136), some (.ref 260), some (.int (nI (5 * n))), none, none] (fun i v hv => la_wk hv) (hk X2 _ _ hall2 (by omega) (by omega))
    · have h9 : v = 1 := by omega
      subst h9
      refine cw_lconst (v := lN 1) C dd_La_law_601 (by decide +kernel) ?_
      refine cw_goto (tgt := 606) C dd_La_law_602 (by decide) ?_
      refine cw_lcmp C dd_La_law_606 ?_
      rw [la_cmp]
      refine cw_if_eq (tgt := 612) C dd_La_law_607 (by decide) (fun _ => ?_) (fun h9 => absurd rfl h9)
      refine cw_goto (tgt := 1134) C dd_La_law_612 (by decide) ?_
      exact cw_wk [some (.retAddr b), some (.ref 0), some (.ref 136), some (.ref 260), some (.int (nI (5 * n))), none, none] (fun i v hv => la_wk hv) (hk X2 _ _ hall2 (by omega) (by omega))
set_option maxRecDepth 100000 in
set_option maxHeartbeats 4000000 in
theorem la_arm_7 {p : Program} {l : Launch} {e : Env} {s : State} {m : MethodId} {below : List Frame} {meth : Method} {c : Code} {A : Nat → Prop} {g : wd_G} {cells slots : Nat} {S0 : State} {b L n : Nat} {xs : Nat → Int32} {X : wx_S} {G : State → Prop} (C : cw_C p s m #[Value.ref b] meth c A wd_all g code 7 "DagLedgerLaw" ret) (D : ct_C l S0 s A g) (hX : va_X b L xs s s.heap) (hbl : b < s.heap.size) (hbA : ¬ A b) (hL : L ≤ 2560) (hn : 5 * n + 5 ≤ L) (hall : rl_all X X) (hc : cells ≤ 1000) (hs : slots ≤ 20000)
    (hk : ∀ (X' : wx_S) (cells' slots' : Nat), rl_all X' X' → cells' ≤ cells + 1 → slots' ≤ slots + 6 → cw_W p l e room_1 s m #[Value.ref b] below meth c A wd_all g cells' slots' G 7 1134 [some (.retAddr b), some (.ref 0), some (.ref 136), some (.ref 260), some (.int (nI (5 * n))), none, none] [] (wx_e X') (wx_l X')) : cw_W p l e room_1 s m #[Value.ref b] below meth c A wd_all g cells slots G 7 615 [some (.retAddr b), some (.ref 0), some (.ref 136), some (.ref 260), some (.int (nI (5 * n))), none, none] [] (wx_e X) (wx_l X) := by
  obtain ⟨k, mc, ms, d, v, X1, X2, hk2, hmc, hms, hd7, hV, hB, hthr, hall2, hout⟩ := la_corrupt hall (la_y_lt xs (5 * n + 1))
  refine cw_aload_n C dd_La_law_615 rfl ?_
  refine cw_aload_nq C dd_La_law_616 rfl ?_
  refine cw_iload C dd_La_law_617 rfl ?_
  refine cw_iconst (v := nI 1) C dd_La_law_619 (by decide +kernel) ?_
  refine nw_iadd C dd_La_law_620 ?_
  refine nw_sld C hX hbl hbA (by omega) hL dd_La_law_621 ?_
  refine cw_aload_n C dd_La_law_622 rfl ?_
  refine ct_callS (As := [.ref 0, _, .ref 260]) C D kW_La_corrupt dd_La_law_623 rfl rfl (Nat.le_of_ble_eq_true rfl) ⟨(Nat.le_of_ble_eq_true rfl), (Nat.le_of_ble_eq_true rfl)⟩ ⟨by show cells + mc ≤ 601024; omega, by show slots + ms ≤ 7293034; omega⟩ hV (fun w X' hq => ?_)
  obtain ⟨rfl, rfl⟩ := hq
  refine cw_istore C dd_La_law_626 (Nat.le_of_ble_eq_true rfl) ?_
  refine cw_aload_n C dd_La_law_628 rfl ?_
  refine cw_aload_nq C dd_La_law_629 rfl ?_
  refine cw_iload C dd_La_law_630 rfl ?_
  refine cw_iconst (v := nI 1) C dd_La_law_632 (by decide +kernel) ?_
  refine nw_iadd C dd_La_law_633 ?_
  refine nw_sld C hX hbl hbA (by omega) hL dd_La_law_634 ?_
  refine cw_callV (As := [_]) C kV_La_90 wc_34 is_34 dd_La_law_635 rfl rfl (Nat.le_of_ble_eq_true rfl) ⟨by show d + 1 ≤ 12; omega, by show 8 + (_ + 11) + 40 * d ≤ 440; omega⟩ ⟨by show cells + mc + 0 ≤ 601024; omega, by show slots + ms + 0 ≤ 7293034; omega⟩ hB (nw_ki ?_)
  refine cw_istore C dd_La_law_638 (Nat.le_of_ble_eq_true rfl) ?_
  refine cw_aload_n C dd_La_law_640 rfl ?_
  refine cw_callV (As := []) C kV_La_64 wc_34 is_34 dd_La_law_641 rfl rfl (Nat.le_of_ble_eq_true rfl) ⟨(Nat.le_of_ble_eq_true rfl), (Nat.le_of_ble_eq_true rfl)⟩ ⟨by show cells + mc + 0 ≤ 601024; omega, by show slots + ms + 0 ≤ 7293034; omega⟩ (mm_Mo_thrown X2) (nw_ki ?_)
  rw [hthr]
  refine cw_iload C dd_La_law_644 rfl ?_
  refine cw_icmp_eq (tgt := 651) C dd_La_law_646 (by decide) (fun _ => ?_) (fun h9 => absurd rfl h9)
  refine cw_iload C dd_La_law_651 rfl ?_
  refine nw_if_ne (tgt := 675) C dd_La_law_653 (by decide) (by omega) (fun _ => ?_) (fun h0 => ?_)
  · refine cw_goto (tgt := 1134) C dd_La_law_675 (by decide) ?_
    exact cw_wk [some (.retAddr b), some (.ref 0), some (.ref 136), some (.ref 260), some (.int (nI (5 * n))), none, none] (fun i v hv => la_wk hv) (hk X2 _ _ hall2 (by omega) (by omega))
  · have hout := hout h0
    refine cw_aload_n C dd_La_law_656 rfl ?_
    refine cw_iconst (v := nI 0) C dd_La_law_657 (by decide +kernel) ?_
    refine nw_lald C is_65 (by decide) (by decide) dd_La_law_658 ?_
    obtain ⟨hv1, hout⟩ : v ≤ 1 ∧ X2 260 0 = v := hout
    rw [hout]
    refine cw_iload C dd_La_law_659 rfl ?_
    refine nw_if_eq (tgt := 668) C dd_La_law_661 (by decide) (by omega) (fun h9 => ?_) (fun h9 => ?_)
    · subst h9
      refine cw_lconst (v := lN 0) C dd_La_law_668 (by decide +kernel) ?_
      refine cw_lcmp C dd_La_law_669 ?_
      rw [la_cmp]
      refine cw_if_eq (tgt := 675) C dd_La_law_670 (by decide) (fun _ => ?_) (fun h9 => absurd rfl h9)
      refine cw_goto (tgt := 1134) C dd_La_law_675 (by decide) ?_
      exact cw_wk [some (.retAddr b), some (.ref 0), some (.ref 136), some (.ref 260), some (.int (nI (5 * n))), none, none] (fun i v hv => la_wk hv) (hk X2 _ _ hall2 (by omega) (by omega))
    · have h9 : v = 1 := by omega
      subst h9
      refine cw_lconst (v := lN 1) C dd_La_law_664 (by decide +kernel) ?_
      refine cw_goto (tgt := 669) C dd_La_law_665 (by decide) ?_
      refine cw_lcmp C dd_La_law_669 ?_
      rw [la_cmp]
      refine cw_if_eq (tgt := 675) C dd_La_law_670 (by decide) (fun _ => ?_) (fun h9 => absurd rfl h9)
      refine cw_goto (tgt := 1134) C dd_La_law_675 (by decide) ?_
      exact cw_wk [some (.retAddr b), some (.ref 0), some (.ref 136), some (.ref 260), some (.int (nI (5 * n))), none, none] (fun i v hv => la_wk hv) (hk X2 _ _ hall2 (by omega) (by omega))
set_option maxRecDepth 100000 in
set_option maxHeartbeats 4000000 in
theorem la_arm_8 {p : Program} {l : Launch} {e : Env} {s : State} {m : MethodId} {below : List Frame} {meth : Method} {c : Code} {A : Nat → Prop} {g : wd_G} {cells slots : Nat} {S0 : State} {b L n : Nat} {xs : Nat → Int32} {X : wx_S} {G : State → Prop} (C : cw_C p s m #[Value.ref b] meth c A wd_all g code 7 "DagLedgerLaw" ret) (D : ct_C l S0 s A g) (hX : va_X b L xs s s.heap) (hbl : b < s.heap.size) (hbA : ¬ A b) (hL : L ≤ 2560) (hn : 5 * n + 5 ≤ L) (hall : rl_all X X) (hc : cells ≤ 1000) (hs : slots ≤ 20000)
    (hk : ∀ (X' : wx_S) (cells' slots' : Nat), rl_all X' X' → cells' ≤ cells + 1 → slots' ≤ slots + 6 → cw_W p l e room_1 s m #[Value.ref b] below meth c A wd_all g cells' slots' G 7 1134 [some (.retAddr b), some (.ref 0), some (.ref 136), some (.ref 260), some (.int (nI (5 * n))), none, none] [] (wx_e X') (wx_l X')) : cw_W p l e room_1 s m #[Value.ref b] below meth c A wd_all g cells slots G 7 678 [some (.retAddr b), some (.ref 0), some (.ref 136), some (.ref 260), some (.int (nI (5 * n))), none, none] [] (wx_e X) (wx_l X) := by
  obtain ⟨v, X1, -, hA, -, hB0⟩ := rl_p_forge hall (la_y_lt xs (5 * n + 1)) (la_y_lt xs (5 * n + 2)) (la_y_lt xs (5 * n + 3)) (la_y_lt xs (5 * n + 4))
  obtain ⟨X2, hB, -, -, hall2⟩ := hB0 X1 (fun _ _ _ => rfl)
  refine cw_aload_n C dd_La_law_678 rfl ?_
  refine cw_aload_nq C dd_La_law_679 rfl ?_
  refine cw_iload C dd_La_law_680 rfl ?_
  refine cw_iconst (v := nI 1) C dd_La_law_682 (by decide +kernel) ?_
  refine nw_iadd C dd_La_law_683 ?_
  refine nw_sld C hX hbl hbA (by omega) hL dd_La_law_684 ?_
  refine cw_aload_nq C dd_La_law_685 rfl ?_
  refine cw_iload C dd_La_law_686 rfl ?_
  refine cw_iconst (v := nI 2) C dd_La_law_688 (by decide +kernel) ?_
  refine nw_iadd C dd_La_law_689 ?_
  refine nw_sld C hX hbl hbA (by omega) hL dd_La_law_690 ?_
  refine cw_aload_nq C dd_La_law_691 rfl ?_
  refine cw_iload C dd_La_law_692 rfl ?_
  refine cw_iconst (v := nI 3) C dd_La_law_694 (by decide +kernel) ?_
  refine nw_iadd C dd_La_law_695 ?_
  refine nw_sld C hX hbl hbA (by omega) hL dd_La_law_696 ?_
  refine cw_aload_nq C dd_La_law_697 rfl ?_
  refine cw_iload C dd_La_law_698 rfl ?_
  refine cw_iconst (v := nI 4) C dd_La_law_700 (by decide +kernel) ?_
  refine nw_iadd C dd_La_law_701 ?_
  refine nw_sld C hX hbl hbA (by omega) hL dd_La_law_702 ?_
  refine cw_callV (As := [_, _, _, _]) C kV_La_91 wc_0 is_0 dd_La_law_703 rfl rfl (Nat.le_of_ble_eq_true rfl) ⟨(Nat.le_of_ble_eq_true rfl), (Nat.le_of_ble_eq_true rfl)⟩ ⟨by show cells + 0 ≤ 601024; omega, by show slots + 0 ≤ 7293034; omega⟩ hA (nw_ki ?_)
  refine cw_aload_n C dd_La_law_706 rfl ?_
  refine cw_aload_nq C dd_La_law_707 rfl ?_
  refine cw_iload C dd_La_law_708 rfl ?_
  refine cw_iconst (v := nI 1) C dd_La_law_710 (by decide +kernel) ?_
  refine nw_iadd C dd_La_law_711 ?_
  refine nw_sld C hX hbl hbA (by omega) hL dd_La_law_712 ?_
  refine cw_aload_nq C dd_La_law_713 rfl ?_
  refine cw_iload C dd_La_law_714 rfl ?_
  refine cw_iconst (v := nI 2) C dd_La_law_716 (by decide +kernel) ?_
  refine nw_iadd C dd_La_law_717 ?_
  refine nw_sld C hX hbl hbA (by omega) hL dd_La_law_718 ?_
  refine cw_aload_nq C dd_La_law_719 rfl ?_
  refine cw_iload C dd_La_law_720 rfl ?_
  refine cw_iconst (v := nI 3) C dd_La_law_722 (by decide +kernel) ?_
  refine nw_iadd C dd_La_law_723 ?_
  refine nw_sld C hX hbl hbA (by omega) hL dd_La_law_724 ?_
  refine cw_aload_nq C dd_La_law_725 rfl ?_
  refine cw_iload C dd_La_law_726 rfl ?_
  refine cw_iconst (v := nI 4) C dd_La_law_728 (by decide +kernel) ?_
  refine nw_iadd C dd_La_law_729 ?_
  refine nw_sld C hX hbl hbA (by omega) hL dd_La_law_730 ?_
  refine cw_callV (As := [_, _, _, _]) C kV_La_94 wc_34 is_34 dd_La_law_731 rfl rfl (Nat.le_of_ble_eq_true rfl) ⟨(Nat.le_of_ble_eq_true rfl), (Nat.le_of_ble_eq_true rfl)⟩ ⟨by show cells + 0 + 0 ≤ 601024; omega, by show slots + 0 + 0 ≤ 7293034; omega⟩ hB (nw_ki ?_)
  refine cw_icmp_eq (tgt := 1134) C dd_La_law_734 (by decide) (fun _ => ?_) (fun h9 => absurd rfl h9)
  exact hk X2 _ _ hall2 (by omega) (by omega)
set_option maxRecDepth 100000 in
set_option maxHeartbeats 4000000 in
theorem la_arm_9 {p : Program} {l : Launch} {e : Env} {s : State} {m : MethodId} {below : List Frame} {meth : Method} {c : Code} {A : Nat → Prop} {g : wd_G} {cells slots : Nat} {S0 : State} {b L n : Nat} {xs : Nat → Int32} {X : wx_S} {G : State → Prop} (C : cw_C p s m #[Value.ref b] meth c A wd_all g code 7 "DagLedgerLaw" ret) (D : ct_C l S0 s A g) (hX : va_X b L xs s s.heap) (hbl : b < s.heap.size) (hbA : ¬ A b) (hL : L ≤ 2560) (hn : 5 * n + 5 ≤ L) (hall : rl_all X X) (hc : cells ≤ 1000) (hs : slots ≤ 20000)
    (hk : ∀ (X' : wx_S) (cells' slots' : Nat), rl_all X' X' → cells' ≤ cells + 1 → slots' ≤ slots + 6 → cw_W p l e room_1 s m #[Value.ref b] below meth c A wd_all g cells' slots' G 7 1134 [some (.retAddr b), some (.ref 0), some (.ref 136), some (.ref 260), some (.int (nI (5 * n))), none, none] [] (wx_e X') (wx_l X')) : cw_W p l e room_1 s m #[Value.ref b] below meth c A wd_all g cells slots G 7 739 [some (.retAddr b), some (.ref 0), some (.ref 136), some (.ref 260), some (.int (nI (5 * n))), none, none] [] (wx_e X) (wx_l X) := by
  obtain ⟨v, X1, -, hA, -, hB0⟩ := rl_p_send hall (la_y_lt xs (5 * n + 1)) (la_y_lt xs (5 * n + 2))
  obtain ⟨X2, hB, -, -, hall2⟩ := hB0 X1 (fun _ _ _ => rfl)
  refine cw_aload_n C dd_La_law_739 rfl ?_
  refine cw_aload_nq C dd_La_law_740 rfl ?_
  refine cw_iload C dd_La_law_741 rfl ?_
  refine cw_iconst (v := nI 1) C dd_La_law_743 (by decide +kernel) ?_
  refine nw_iadd C dd_La_law_744 ?_
  refine nw_sld C hX hbl hbA (by omega) hL dd_La_law_745 ?_
  refine cw_aload_nq C dd_La_law_746 rfl ?_
  refine cw_iload C dd_La_law_747 rfl ?_
  refine cw_iconst (v := nI 2) C dd_La_law_749 (by decide +kernel) ?_
  refine nw_iadd C dd_La_law_750 ?_
  refine nw_sld C hX hbl hbA (by omega) hL dd_La_law_751 ?_
  refine cw_callV (As := [_, _]) C kV_La_95 wc_0 is_0 dd_La_law_752 rfl rfl (Nat.le_of_ble_eq_true rfl) ⟨(Nat.le_of_ble_eq_true rfl), (Nat.le_of_ble_eq_true rfl)⟩ ⟨by show cells + 0 ≤ 601024; omega, by show slots + 0 ≤ 7293034; omega⟩ hA (nw_ki ?_)
  refine cw_aload_n C dd_La_law_755 rfl ?_
  refine cw_aload_nq C dd_La_law_756 rfl ?_
  refine cw_iload C dd_La_law_757 rfl ?_
  refine cw_iconst (v := nI 1) C dd_La_law_759 (by decide +kernel) ?_
  refine nw_iadd C dd_La_law_760 ?_
  refine nw_sld C hX hbl hbA (by omega) hL dd_La_law_761 ?_
  refine cw_aload_nq C dd_La_law_762 rfl ?_
  refine cw_iload C dd_La_law_763 rfl ?_
  refine cw_iconst (v := nI 2) C dd_La_law_765 (by decide +kernel) ?_
  refine nw_iadd C dd_La_law_766 ?_
  refine nw_sld C hX hbl hbA (by omega) hL dd_La_law_767 ?_
  refine cw_callV (As := [_, _]) C kV_La_98 wc_34 is_34 dd_La_law_768 rfl rfl (Nat.le_of_ble_eq_true rfl) ⟨(Nat.le_of_ble_eq_true rfl), (Nat.le_of_ble_eq_true rfl)⟩ ⟨by show cells + 0 + 0 ≤ 601024; omega, by show slots + 0 + 0 ≤ 7293034; omega⟩ hB (nw_ki ?_)
  refine cw_icmp_eq (tgt := 1134) C dd_La_law_771 (by decide) (fun _ => ?_) (fun h9 => absurd rfl h9)
  exact hk X2 _ _ hall2 (by omega) (by omega)
set_option maxRecDepth 100000 in
set_option maxHeartbeats 4000000 in
theorem la_arm_10 {p : Program} {l : Launch} {e : Env} {s : State} {m : MethodId} {below : List Frame} {meth : Method} {c : Code} {A : Nat → Prop} {g : wd_G} {cells slots : Nat} {S0 : State} {b L n : Nat} {xs : Nat → Int32} {X : wx_S} {G : State → Prop} (C : cw_C p s m #[Value.ref b] meth c A wd_all g code 7 "DagLedgerLaw" ret) (D : ct_C l S0 s A g) (hX : va_X b L xs s s.heap) (hbl : b < s.heap.size) (hbA : ¬ A b) (hL : L ≤ 2560) (hn : 5 * n + 5 ≤ L) (hall : rl_all X X) (hc : cells ≤ 1000) (hs : slots ≤ 20000)
    (hk : ∀ (X' : wx_S) (cells' slots' : Nat), rl_all X' X' → cells' ≤ cells + 1 → slots' ≤ slots + 6 → cw_W p l e room_1 s m #[Value.ref b] below meth c A wd_all g cells' slots' G 7 1134 [some (.retAddr b), some (.ref 0), some (.ref 136), some (.ref 260), some (.int (nI (5 * n))), none, none] [] (wx_e X') (wx_l X')) : cw_W p l e room_1 s m #[Value.ref b] below meth c A wd_all g cells slots G 7 776 [some (.retAddr b), some (.ref 0), some (.ref 136), some (.ref 260), some (.int (nI (5 * n))), none, none] [] (wx_e X) (wx_l X) := by
  obtain ⟨v, X1, -, hA, -, hB0⟩ := rl_p_message hall (la_y_lt xs (5 * n + 1)) (la_y_lt xs (5 * n + 2))
  obtain ⟨X2, hB, -, -, hall2⟩ := hB0 X1 (fun _ _ _ => rfl)
  refine cw_aload_n C dd_La_law_776 rfl ?_
  refine cw_aload_nq C dd_La_law_777 rfl ?_
  refine cw_iload C dd_La_law_778 rfl ?_
  refine cw_iconst (v := nI 1) C dd_La_law_780 (by decide +kernel) ?_
  refine nw_iadd C dd_La_law_781 ?_
  refine nw_sld C hX hbl hbA (by omega) hL dd_La_law_782 ?_
  refine cw_aload_nq C dd_La_law_783 rfl ?_
  refine cw_iload C dd_La_law_784 rfl ?_
  refine cw_iconst (v := nI 2) C dd_La_law_786 (by decide +kernel) ?_
  refine nw_iadd C dd_La_law_787 ?_
  refine nw_sld C hX hbl hbA (by omega) hL dd_La_law_788 ?_
  refine cw_callV (As := [_, _]) C kV_La_99 wc_0 is_0 dd_La_law_789 rfl rfl (Nat.le_of_ble_eq_true rfl) ⟨(Nat.le_of_ble_eq_true rfl), (Nat.le_of_ble_eq_true rfl)⟩ ⟨by show cells + 0 ≤ 601024; omega, by show slots + 0 ≤ 7293034; omega⟩ hA (nw_ki ?_)
  refine cw_aload_n C dd_La_law_792 rfl ?_
  refine cw_aload_nq C dd_La_law_793 rfl ?_
  refine cw_iload C dd_La_law_794 rfl ?_
  refine cw_iconst (v := nI 1) C dd_La_law_796 (by decide +kernel) ?_
  refine nw_iadd C dd_La_law_797 ?_
  refine nw_sld C hX hbl hbA (by omega) hL dd_La_law_798 ?_
  refine cw_aload_nq C dd_La_law_799 rfl ?_
  refine cw_iload C dd_La_law_800 rfl ?_
  refine cw_iconst (v := nI 2) C dd_La_law_802 (by decide +kernel) ?_
  refine nw_iadd C dd_La_law_803 ?_
  refine nw_sld C hX hbl hbA (by omega) hL dd_La_law_804 ?_
  refine cw_callV (As := [_, _]) C kV_La_102 wc_34 is_34 dd_La_law_805 rfl rfl (Nat.le_of_ble_eq_true rfl) ⟨(Nat.le_of_ble_eq_true rfl), (Nat.le_of_ble_eq_true rfl)⟩ ⟨by show cells + 0 + 0 ≤ 601024; omega, by show slots + 0 + 0 ≤ 7293034; omega⟩ hB (nw_ki ?_)
  refine cw_icmp_eq (tgt := 1134) C dd_La_law_808 (by decide) (fun _ => ?_) (fun h9 => absurd rfl h9)
  exact hk X2 _ _ hall2 (by omega) (by omega)
set_option maxRecDepth 100000 in
set_option maxHeartbeats 4000000 in
theorem la_arm_11 {p : Program} {l : Launch} {e : Env} {s : State} {m : MethodId} {below : List Frame} {meth : Method} {c : Code} {A : Nat → Prop} {g : wd_G} {cells slots : Nat} {S0 : State} {b L n : Nat} {xs : Nat → Int32} {X : wx_S} {G : State → Prop} (C : cw_C p s m #[Value.ref b] meth c A wd_all g code 7 "DagLedgerLaw" ret) (D : ct_C l S0 s A g) (hX : va_X b L xs s s.heap) (hbl : b < s.heap.size) (hbA : ¬ A b) (hL : L ≤ 2560) (hn : 5 * n + 5 ≤ L) (hall : rl_all X X) (hc : cells ≤ 1000) (hs : slots ≤ 20000)
    (hk : ∀ (X' : wx_S) (cells' slots' : Nat), rl_all X' X' → cells' ≤ cells + 1 → slots' ≤ slots + 6 → cw_W p l e room_1 s m #[Value.ref b] below meth c A wd_all g cells' slots' G 7 1134 [some (.retAddr b), some (.ref 0), some (.ref 136), some (.ref 260), some (.int (nI (5 * n))), none, none] [] (wx_e X') (wx_l X')) : cw_W p l e room_1 s m #[Value.ref b] below meth c A wd_all g cells slots G 7 813 [some (.retAddr b), some (.ref 0), some (.ref 136), some (.ref 260), some (.int (nI (5 * n))), none, none] [] (wx_e X) (wx_l X) := by
  obtain ⟨v, X1, -, hA, -, hB0⟩ := rl_p_vertex hall (la_y_lt xs (5 * n + 1)) (la_y_lt xs (5 * n + 2))
  obtain ⟨X2, hB, -, -, hall2⟩ := hB0 X1 (fun _ _ _ => rfl)
  refine cw_aload_n C dd_La_law_813 rfl ?_
  refine cw_aload_nq C dd_La_law_814 rfl ?_
  refine cw_iload C dd_La_law_815 rfl ?_
  refine cw_iconst (v := nI 1) C dd_La_law_817 (by decide +kernel) ?_
  refine nw_iadd C dd_La_law_818 ?_
  refine nw_sld C hX hbl hbA (by omega) hL dd_La_law_819 ?_
  refine cw_aload_nq C dd_La_law_820 rfl ?_
  refine cw_iload C dd_La_law_821 rfl ?_
  refine cw_iconst (v := nI 2) C dd_La_law_823 (by decide +kernel) ?_
  refine nw_iadd C dd_La_law_824 ?_
  refine nw_sld C hX hbl hbA (by omega) hL dd_La_law_825 ?_
  refine cw_callV (As := [_, _]) C kV_La_103 wc_0 is_0 dd_La_law_826 rfl rfl (Nat.le_of_ble_eq_true rfl) ⟨(Nat.le_of_ble_eq_true rfl), (Nat.le_of_ble_eq_true rfl)⟩ ⟨by show cells + 0 ≤ 601024; omega, by show slots + 0 ≤ 7293034; omega⟩ hA (nw_ki ?_)
  refine cw_aload_n C dd_La_law_829 rfl ?_
  refine cw_aload_nq C dd_La_law_830 rfl ?_
  refine cw_iload C dd_La_law_831 rfl ?_
  refine cw_iconst (v := nI 1) C dd_La_law_833 (by decide +kernel) ?_
  refine nw_iadd C dd_La_law_834 ?_
  refine nw_sld C hX hbl hbA (by omega) hL dd_La_law_835 ?_
  refine cw_aload_nq C dd_La_law_836 rfl ?_
  refine cw_iload C dd_La_law_837 rfl ?_
  refine cw_iconst (v := nI 2) C dd_La_law_839 (by decide +kernel) ?_
  refine nw_iadd C dd_La_law_840 ?_
  refine nw_sld C hX hbl hbA (by omega) hL dd_La_law_841 ?_
  refine cw_callV (As := [_, _]) C kV_La_106 wc_34 is_34 dd_La_law_842 rfl rfl (Nat.le_of_ble_eq_true rfl) ⟨(Nat.le_of_ble_eq_true rfl), (Nat.le_of_ble_eq_true rfl)⟩ ⟨by show cells + 0 + 0 ≤ 601024; omega, by show slots + 0 + 0 ≤ 7293034; omega⟩ hB (nw_ki ?_)
  refine cw_icmp_eq (tgt := 1134) C dd_La_law_845 (by decide) (fun _ => ?_) (fun h9 => absurd rfl h9)
  exact hk X2 _ _ hall2 (by omega) (by omega)
set_option maxRecDepth 100000 in
set_option maxHeartbeats 4000000 in
theorem la_arm_12 {p : Program} {l : Launch} {e : Env} {s : State} {m : MethodId} {below : List Frame} {meth : Method} {c : Code} {A : Nat → Prop} {g : wd_G} {cells slots : Nat} {S0 : State} {b L n : Nat} {xs : Nat → Int32} {X : wx_S} {G : State → Prop} (C : cw_C p s m #[Value.ref b] meth c A wd_all g code 7 "DagLedgerLaw" ret) (D : ct_C l S0 s A g) (hX : va_X b L xs s s.heap) (hbl : b < s.heap.size) (hbA : ¬ A b) (hL : L ≤ 2560) (hn : 5 * n + 5 ≤ L) (hall : rl_all X X) (hc : cells ≤ 1000) (hs : slots ≤ 20000)
    (hk : ∀ (X' : wx_S) (cells' slots' : Nat), rl_all X' X' → cells' ≤ cells + 1 → slots' ≤ slots + 6 → cw_W p l e room_1 s m #[Value.ref b] below meth c A wd_all g cells' slots' G 7 1134 [some (.retAddr b), some (.ref 0), some (.ref 136), some (.ref 260), some (.int (nI (5 * n))), none, none] [] (wx_e X') (wx_l X')) : cw_W p l e room_1 s m #[Value.ref b] below meth c A wd_all g cells slots G 7 850 [some (.retAddr b), some (.ref 0), some (.ref 136), some (.ref 260), some (.int (nI (5 * n))), none, none] [] (wx_e X) (wx_l X) := by
  obtain ⟨k, mc, ms, d, v, X1, X2, hk2, hmc, hms, hd7, hV, hB, hthr, hall2, hout⟩ := la_node hall (la_y_lt xs (5 * n + 1)) (la_y_lt xs (5 * n + 2))
  refine cw_aload_n C dd_La_law_850 rfl ?_
  refine cw_aload_nq C dd_La_law_851 rfl ?_
  refine cw_iload C dd_La_law_852 rfl ?_
  refine cw_iconst (v := nI 1) C dd_La_law_854 (by decide +kernel) ?_
  refine nw_iadd C dd_La_law_855 ?_
  refine nw_sld C hX hbl hbA (by omega) hL dd_La_law_856 ?_
  refine cw_aload_nq C dd_La_law_857 rfl ?_
  refine cw_iload C dd_La_law_858 rfl ?_
  refine cw_iconst (v := nI 2) C dd_La_law_860 (by decide +kernel) ?_
  refine nw_iadd C dd_La_law_861 ?_
  refine nw_sld C hX hbl hbA (by omega) hL dd_La_law_862 ?_
  refine cw_aload_n C dd_La_law_863 rfl ?_
  refine ct_callS (As := [.ref 0, _, _, .ref 260]) C D kW_La_node dd_La_law_864 rfl rfl (Nat.le_of_ble_eq_true rfl) ⟨(Nat.le_of_ble_eq_true rfl), (Nat.le_of_ble_eq_true rfl)⟩ ⟨by show cells + mc ≤ 601024; omega, by show slots + ms ≤ 7293034; omega⟩ hV (fun w X' hq => ?_)
  obtain ⟨rfl, rfl⟩ := hq
  refine cw_istore C dd_La_law_867 (Nat.le_of_ble_eq_true rfl) ?_
  refine cw_aload_n C dd_La_law_869 rfl ?_
  refine cw_aload_nq C dd_La_law_870 rfl ?_
  refine cw_iload C dd_La_law_871 rfl ?_
  refine cw_iconst (v := nI 1) C dd_La_law_873 (by decide +kernel) ?_
  refine nw_iadd C dd_La_law_874 ?_
  refine nw_sld C hX hbl hbA (by omega) hL dd_La_law_875 ?_
  refine cw_aload_nq C dd_La_law_876 rfl ?_
  refine cw_iload C dd_La_law_877 rfl ?_
  refine cw_iconst (v := nI 2) C dd_La_law_879 (by decide +kernel) ?_
  refine nw_iadd C dd_La_law_880 ?_
  refine nw_sld C hX hbl hbA (by omega) hL dd_La_law_881 ?_
  refine cw_callV (As := [_, _]) C kV_La_109 wc_34 is_34 dd_La_law_882 rfl rfl (Nat.le_of_ble_eq_true rfl) ⟨by show d + 1 ≤ 12; omega, by show 8 + (_ + 11) + 40 * d ≤ 440; omega⟩ ⟨by show cells + mc + 0 ≤ 601024; omega, by show slots + ms + 0 ≤ 7293034; omega⟩ hB (nw_ki ?_)
  refine cw_istore C dd_La_law_885 (Nat.le_of_ble_eq_true rfl) ?_
  refine cw_aload_n C dd_La_law_887 rfl ?_
  refine cw_callV (As := []) C kV_La_64 wc_34 is_34 dd_La_law_888 rfl rfl (Nat.le_of_ble_eq_true rfl) ⟨(Nat.le_of_ble_eq_true rfl), (Nat.le_of_ble_eq_true rfl)⟩ ⟨by show cells + mc + 0 ≤ 601024; omega, by show slots + ms + 0 ≤ 7293034; omega⟩ (mm_Mo_thrown X2) (nw_ki ?_)
  rw [hthr]
  refine cw_iload C dd_La_law_891 rfl ?_
  refine cw_icmp_eq (tgt := 898) C dd_La_law_893 (by decide) (fun _ => ?_) (fun h9 => absurd rfl h9)
  refine cw_iload C dd_La_law_898 rfl ?_
  refine nw_if_ne (tgt := 915) C dd_La_law_900 (by decide) (by omega) (fun _ => ?_) (fun h0 => ?_)
  · refine cw_goto (tgt := 1134) C dd_La_law_915 (by decide) ?_
    exact cw_wk [some (.retAddr b), some (.ref 0), some (.ref 136), some (.ref 260), some (.int (nI (5 * n))), none, none] (fun i v hv => la_wk hv) (hk X2 _ _ hall2 (by omega) (by omega))
  · have hout := hout h0
    refine cw_aload_n C dd_La_law_903 rfl ?_
    refine cw_iconst (v := nI 0) C dd_La_law_904 (by decide +kernel) ?_
    refine nw_lald C is_65 (by decide) (by decide) dd_La_law_905 ?_
    rw [show X2 260 0 = zl_ v from hout]
    refine cw_iload C dd_La_law_906 rfl ?_
    refine cw_i2l C dd_La_law_908 ?_
    rw [zl_lN]
    refine cw_lcmp C dd_La_law_909 ?_
    rw [la_cmp]
    refine cw_if_eq (tgt := 915) C dd_La_law_910 (by decide) (fun _ => ?_) (fun h9 => absurd rfl h9)
    refine cw_goto (tgt := 1134) C dd_La_law_915 (by decide) ?_
    exact cw_wk [some (.retAddr b), some (.ref 0), some (.ref 136), some (.ref 260), some (.int (nI (5 * n))), none, none] (fun i v hv => la_wk hv) (hk X2 _ _ hall2 (by omega) (by omega))
set_option maxRecDepth 100000 in
set_option maxHeartbeats 4000000 in
theorem la_arm_13 {p : Program} {l : Launch} {e : Env} {s : State} {m : MethodId} {below : List Frame} {meth : Method} {c : Code} {A : Nat → Prop} {g : wd_G} {cells slots : Nat} {S0 : State} {b L n : Nat} {xs : Nat → Int32} {X : wx_S} {G : State → Prop} (C : cw_C p s m #[Value.ref b] meth c A wd_all g code 7 "DagLedgerLaw" ret) (D : ct_C l S0 s A g) (hX : va_X b L xs s s.heap) (hbl : b < s.heap.size) (hbA : ¬ A b) (hL : L ≤ 2560) (hn : 5 * n + 5 ≤ L) (hall : rl_all X X) (hc : cells ≤ 1000) (hs : slots ≤ 20000)
    (hk : ∀ (X' : wx_S) (cells' slots' : Nat), rl_all X' X' → cells' ≤ cells + 1 → slots' ≤ slots + 6 → cw_W p l e room_1 s m #[Value.ref b] below meth c A wd_all g cells' slots' G 7 1134 [some (.retAddr b), some (.ref 0), some (.ref 136), some (.ref 260), some (.int (nI (5 * n))), none, none] [] (wx_e X') (wx_l X')) : cw_W p l e room_1 s m #[Value.ref b] below meth c A wd_all g cells slots G 7 918 [some (.retAddr b), some (.ref 0), some (.ref 136), some (.ref 260), some (.int (nI (5 * n))), none, none] [] (wx_e X) (wx_l X) := by
  obtain ⟨k, mc, ms, d, v, X1, X2, hk2, hmc, hms, hd7, hV, hB, hthr, hall2, hout⟩ := la_dag hall (la_y_lt xs (5 * n + 1)) (la_y_lt xs (5 * n + 2)) (la_y_lt xs (5 * n + 3))
  refine cw_aload_n C dd_La_law_918 rfl ?_
  refine cw_aload_nq C dd_La_law_919 rfl ?_
  refine cw_iload C dd_La_law_920 rfl ?_
  refine cw_iconst (v := nI 1) C dd_La_law_922 (by decide +kernel) ?_
  refine nw_iadd C dd_La_law_923 ?_
  refine nw_sld C hX hbl hbA (by omega) hL dd_La_law_924 ?_
  refine cw_aload_nq C dd_La_law_925 rfl ?_
  refine cw_iload C dd_La_law_926 rfl ?_
  refine cw_iconst (v := nI 2) C dd_La_law_928 (by decide +kernel) ?_
  refine nw_iadd C dd_La_law_929 ?_
  refine nw_sld C hX hbl hbA (by omega) hL dd_La_law_930 ?_
  refine cw_aload_nq C dd_La_law_931 rfl ?_
  refine cw_iload C dd_La_law_932 rfl ?_
  refine cw_iconst (v := nI 3) C dd_La_law_934 (by decide +kernel) ?_
  refine nw_iadd C dd_La_law_935 ?_
  refine nw_sld C hX hbl hbA (by omega) hL dd_La_law_936 ?_
  refine cw_aload_n C dd_La_law_937 rfl ?_
  refine ct_callS (As := [.ref 0, _, _, _, .ref 260]) C D kW_La_dag dd_La_law_938 rfl rfl (Nat.le_of_ble_eq_true rfl) ⟨(Nat.le_of_ble_eq_true rfl), (Nat.le_of_ble_eq_true rfl)⟩ ⟨by show cells + mc ≤ 601024; omega, by show slots + ms ≤ 7293034; omega⟩ hV (fun w X' hq => ?_)
  obtain ⟨rfl, rfl⟩ := hq
  refine cw_istore C dd_La_law_941 (Nat.le_of_ble_eq_true rfl) ?_
  refine cw_aload_n C dd_La_law_943 rfl ?_
  refine cw_aload_nq C dd_La_law_944 rfl ?_
  refine cw_iload C dd_La_law_945 rfl ?_
  refine cw_iconst (v := nI 1) C dd_La_law_947 (by decide +kernel) ?_
  refine nw_iadd C dd_La_law_948 ?_
  refine nw_sld C hX hbl hbA (by omega) hL dd_La_law_949 ?_
  refine cw_aload_nq C dd_La_law_950 rfl ?_
  refine cw_iload C dd_La_law_951 rfl ?_
  refine cw_iconst (v := nI 2) C dd_La_law_953 (by decide +kernel) ?_
  refine nw_iadd C dd_La_law_954 ?_
  refine nw_sld C hX hbl hbA (by omega) hL dd_La_law_955 ?_
  refine cw_aload_nq C dd_La_law_956 rfl ?_
  refine cw_iload C dd_La_law_957 rfl ?_
  refine cw_iconst (v := nI 3) C dd_La_law_959 (by decide +kernel) ?_
  refine nw_iadd C dd_La_law_960 ?_
  refine nw_sld C hX hbl hbA (by omega) hL dd_La_law_961 ?_
  refine cw_callV (As := [_, _, _]) C kV_La_113 wc_34 is_34 dd_La_law_962 rfl rfl (Nat.le_of_ble_eq_true rfl) ⟨by show d + 1 ≤ 12; omega, by show 8 + (_ + 11) + 40 * d ≤ 440; omega⟩ ⟨by show cells + mc + 0 ≤ 601024; omega, by show slots + ms + 0 ≤ 7293034; omega⟩ hB (nw_ki ?_)
  refine cw_istore C dd_La_law_965 (Nat.le_of_ble_eq_true rfl) ?_
  refine cw_aload_n C dd_La_law_967 rfl ?_
  refine cw_callV (As := []) C kV_La_64 wc_34 is_34 dd_La_law_968 rfl rfl (Nat.le_of_ble_eq_true rfl) ⟨(Nat.le_of_ble_eq_true rfl), (Nat.le_of_ble_eq_true rfl)⟩ ⟨by show cells + mc + 0 ≤ 601024; omega, by show slots + ms + 0 ≤ 7293034; omega⟩ (mm_Mo_thrown X2) (nw_ki ?_)
  rw [hthr]
  refine cw_iload C dd_La_law_971 rfl ?_
  refine cw_icmp_eq (tgt := 978) C dd_La_law_973 (by decide) (fun _ => ?_) (fun h9 => absurd rfl h9)
  refine cw_iload C dd_La_law_978 rfl ?_
  refine nw_if_ne (tgt := 995) C dd_La_law_980 (by decide) (by omega) (fun _ => ?_) (fun h0 => ?_)
  · refine cw_goto (tgt := 1134) C dd_La_law_995 (by decide) ?_
    exact cw_wk [some (.retAddr b), some (.ref 0), some (.ref 136), some (.ref 260), some (.int (nI (5 * n))), none, none] (fun i v hv => la_wk hv) (hk X2 _ _ hall2 (by omega) (by omega))
  · have hout := hout h0
    refine cw_aload_n C dd_La_law_983 rfl ?_
    refine cw_iconst (v := nI 0) C dd_La_law_984 (by decide +kernel) ?_
    refine nw_lald C is_65 (by decide) (by decide) dd_La_law_985 ?_
    rw [show X2 260 0 = zl_ v from hout]
    refine cw_iload C dd_La_law_986 rfl ?_
    refine cw_i2l C dd_La_law_988 ?_
    rw [zl_lN]
    refine cw_lcmp C dd_La_law_989 ?_
    rw [la_cmp]
    refine cw_if_eq (tgt := 995) C dd_La_law_990 (by decide) (fun _ => ?_) (fun h9 => absurd rfl h9)
    refine cw_goto (tgt := 1134) C dd_La_law_995 (by decide) ?_
    exact cw_wk [some (.retAddr b), some (.ref 0), some (.ref 136), some (.ref 260), some (.int (nI (5 * n))), none, none] (fun i v hv => la_wk hv) (hk X2 _ _ hall2 (by omega) (by omega))
set_option maxRecDepth 100000 in
set_option maxHeartbeats 4000000 in
theorem la_arm_14 {p : Program} {l : Launch} {e : Env} {s : State} {m : MethodId} {below : List Frame} {meth : Method} {c : Code} {A : Nat → Prop} {g : wd_G} {cells slots : Nat} {S0 : State} {b L n : Nat} {xs : Nat → Int32} {X : wx_S} {G : State → Prop} (C : cw_C p s m #[Value.ref b] meth c A wd_all g code 7 "DagLedgerLaw" ret) (D : ct_C l S0 s A g) (hX : va_X b L xs s s.heap) (hbl : b < s.heap.size) (hbA : ¬ A b) (hL : L ≤ 2560) (hn : 5 * n + 5 ≤ L) (hall : rl_all X X) (hc : cells ≤ 1000) (hs : slots ≤ 20000)
    (hk : ∀ (X' : wx_S) (cells' slots' : Nat), rl_all X' X' → cells' ≤ cells + 1 → slots' ≤ slots + 6 → cw_W p l e room_1 s m #[Value.ref b] below meth c A wd_all g cells' slots' G 7 1134 [some (.retAddr b), some (.ref 0), some (.ref 136), some (.ref 260), some (.int (nI (5 * n))), none, none] [] (wx_e X') (wx_l X')) : cw_W p l e room_1 s m #[Value.ref b] below meth c A wd_all g cells slots G 7 998 [some (.retAddr b), some (.ref 0), some (.ref 136), some (.ref 260), some (.int (nI (5 * n))), none, none] [] (wx_e X) (wx_l X) := by
  obtain ⟨k, mc, ms, d, v, X1, X2, hk2, hmc, hms, hd7, hV, hB, hthr, hall2, hout⟩ := la_at hall (la_y_lt xs (5 * n + 1)) (la_y_lt xs (5 * n + 2))
  refine cw_aload_n C dd_La_law_998 rfl ?_
  refine cw_aload_nq C dd_La_law_999 rfl ?_
  refine cw_iload C dd_La_law_1000 rfl ?_
  refine cw_iconst (v := nI 1) C dd_La_law_1002 (by decide +kernel) ?_
  refine nw_iadd C dd_La_law_1003 ?_
  refine nw_sld C hX hbl hbA (by omega) hL dd_La_law_1004 ?_
  refine cw_aload_nq C dd_La_law_1005 rfl ?_
  refine cw_iload C dd_La_law_1006 rfl ?_
  refine cw_iconst (v := nI 2) C dd_La_law_1008 (by decide +kernel) ?_
  refine nw_iadd C dd_La_law_1009 ?_
  refine nw_sld C hX hbl hbA (by omega) hL dd_La_law_1010 ?_
  refine cw_aload_n C dd_La_law_1011 rfl ?_
  refine ct_callS (As := [.ref 0, _, _, .ref 260]) C D kW_La_at dd_La_law_1012 rfl rfl (Nat.le_of_ble_eq_true rfl) ⟨(Nat.le_of_ble_eq_true rfl), (Nat.le_of_ble_eq_true rfl)⟩ ⟨by show cells + mc ≤ 601024; omega, by show slots + ms ≤ 7293034; omega⟩ hV (fun w X' hq => ?_)
  obtain ⟨rfl, rfl⟩ := hq
  refine cw_istore C dd_La_law_1015 (Nat.le_of_ble_eq_true rfl) ?_
  refine cw_aload_n C dd_La_law_1017 rfl ?_
  refine cw_aload_nq C dd_La_law_1018 rfl ?_
  refine cw_iload C dd_La_law_1019 rfl ?_
  refine cw_iconst (v := nI 1) C dd_La_law_1021 (by decide +kernel) ?_
  refine nw_iadd C dd_La_law_1022 ?_
  refine nw_sld C hX hbl hbA (by omega) hL dd_La_law_1023 ?_
  refine cw_aload_nq C dd_La_law_1024 rfl ?_
  refine cw_iload C dd_La_law_1025 rfl ?_
  refine cw_iconst (v := nI 2) C dd_La_law_1027 (by decide +kernel) ?_
  refine nw_iadd C dd_La_law_1028 ?_
  refine nw_sld C hX hbl hbA (by omega) hL dd_La_law_1029 ?_
  refine cw_callV (As := [_, _]) C kV_La_116 wc_34 is_34 dd_La_law_1030 rfl rfl (Nat.le_of_ble_eq_true rfl) ⟨by show d + 1 ≤ 12; omega, by show 8 + (_ + 11) + 40 * d ≤ 440; omega⟩ ⟨by show cells + mc + 0 ≤ 601024; omega, by show slots + ms + 0 ≤ 7293034; omega⟩ hB (nw_ki ?_)
  refine cw_istore C dd_La_law_1033 (Nat.le_of_ble_eq_true rfl) ?_
  refine cw_aload_n C dd_La_law_1035 rfl ?_
  refine cw_callV (As := []) C kV_La_64 wc_34 is_34 dd_La_law_1036 rfl rfl (Nat.le_of_ble_eq_true rfl) ⟨(Nat.le_of_ble_eq_true rfl), (Nat.le_of_ble_eq_true rfl)⟩ ⟨by show cells + mc + 0 ≤ 601024; omega, by show slots + ms + 0 ≤ 7293034; omega⟩ (mm_Mo_thrown X2) (nw_ki ?_)
  rw [hthr]
  refine cw_iload C dd_La_law_1039 rfl ?_
  refine cw_icmp_eq (tgt := 1046) C dd_La_law_1041 (by decide) (fun _ => ?_) (fun h9 => absurd rfl h9)
  refine cw_iload C dd_La_law_1046 rfl ?_
  refine nw_if_ne (tgt := 1063) C dd_La_law_1048 (by decide) (by omega) (fun _ => ?_) (fun h0 => ?_)
  · refine cw_goto (tgt := 1134) C dd_La_law_1063 (by decide) ?_
    exact cw_wk [some (.retAddr b), some (.ref 0), some (.ref 136), some (.ref 260), some (.int (nI (5 * n))), none, none] (fun i v hv => la_wk hv) (hk X2 _ _ hall2 (by omega) (by omega))
  · have hout := hout h0
    refine cw_aload_n C dd_La_law_1051 rfl ?_
    refine cw_iconst (v := nI 0) C dd_La_law_1052 (by decide +kernel) ?_
    refine nw_lald C is_65 (by decide) (by decide) dd_La_law_1053 ?_
    rw [show X2 260 0 = zl_ v from hout]
    refine cw_iload C dd_La_law_1054 rfl ?_
    refine cw_i2l C dd_La_law_1056 ?_
    rw [zl_lN]
    refine cw_lcmp C dd_La_law_1057 ?_
    rw [la_cmp]
    refine cw_if_eq (tgt := 1063) C dd_La_law_1058 (by decide) (fun _ => ?_) (fun h9 => absurd rfl h9)
    refine cw_goto (tgt := 1134) C dd_La_law_1063 (by decide) ?_
    exact cw_wk [some (.retAddr b), some (.ref 0), some (.ref 136), some (.ref 260), some (.int (nI (5 * n))), none, none] (fun i v hv => la_wk hv) (hk X2 _ _ hall2 (by omega) (by omega))
set_option maxRecDepth 100000 in
set_option maxHeartbeats 4000000 in
theorem la_arm_15 {p : Program} {l : Launch} {e : Env} {s : State} {m : MethodId} {below : List Frame} {meth : Method} {c : Code} {A : Nat → Prop} {g : wd_G} {cells slots : Nat} {S0 : State} {b L n : Nat} {xs : Nat → Int32} {X : wx_S} {G : State → Prop} (C : cw_C p s m #[Value.ref b] meth c A wd_all g code 7 "DagLedgerLaw" ret) (D : ct_C l S0 s A g) (hX : va_X b L xs s s.heap) (hbl : b < s.heap.size) (hbA : ¬ A b) (hL : L ≤ 2560) (hn : 5 * n + 5 ≤ L) (hall : rl_all X X) (hc : cells ≤ 1000) (hs : slots ≤ 20000)
    (hk : ∀ (X' : wx_S) (cells' slots' : Nat), rl_all X' X' → cells' ≤ cells + 1 → slots' ≤ slots + 6 → cw_W p l e room_1 s m #[Value.ref b] below meth c A wd_all g cells' slots' G 7 1134 [some (.retAddr b), some (.ref 0), some (.ref 136), some (.ref 260), some (.int (nI (5 * n))), none, none] [] (wx_e X') (wx_l X')) : cw_W p l e room_1 s m #[Value.ref b] below meth c A wd_all g cells slots G 7 1066 [some (.retAddr b), some (.ref 0), some (.ref 136), some (.ref 260), some (.int (nI (5 * n))), none, none] [] (wx_e X) (wx_l X) := by
  obtain ⟨k, mc, ms, d, v, X1, X2, hk2, hmc, hms, hd7, hV, hB, hthr, hall2, hout⟩ := la_balance hall (la_y_lt xs (5 * n + 1)) (la_y_lt xs (5 * n + 2))
  refine cw_aload_n C dd_La_law_1066 rfl ?_
  refine cw_aload_nq C dd_La_law_1067 rfl ?_
  refine cw_iload C dd_La_law_1068 rfl ?_
  refine cw_iconst (v := nI 1) C dd_La_law_1070 (by decide +kernel) ?_
  refine nw_iadd C dd_La_law_1071 ?_
  refine nw_sld C hX hbl hbA (by omega) hL dd_La_law_1072 ?_
  refine cw_aload_nq C dd_La_law_1073 rfl ?_
  refine cw_iload C dd_La_law_1074 rfl ?_
  refine cw_iconst (v := nI 2) C dd_La_law_1076 (by decide +kernel) ?_
  refine nw_iadd C dd_La_law_1077 ?_
  refine nw_sld C hX hbl hbA (by omega) hL dd_La_law_1078 ?_
  refine cw_aload_n C dd_La_law_1079 rfl ?_
  refine ct_callS (As := [.ref 0, _, _, .ref 260]) C D kW_La_balance dd_La_law_1080 rfl rfl (Nat.le_of_ble_eq_true rfl) ⟨(Nat.le_of_ble_eq_true rfl), (Nat.le_of_ble_eq_true rfl)⟩ ⟨by show cells + mc ≤ 601024; omega, by show slots + ms ≤ 7293034; omega⟩ hV (fun w X' hq => ?_)
  obtain ⟨rfl, rfl⟩ := hq
  refine cw_istore C dd_La_law_1083 (Nat.le_of_ble_eq_true rfl) ?_
  refine cw_aload_n C dd_La_law_1085 rfl ?_
  refine cw_aload_nq C dd_La_law_1086 rfl ?_
  refine cw_iload C dd_La_law_1087 rfl ?_
  refine cw_iconst (v := nI 1) C dd_La_law_1089 (by decide +kernel) ?_
  refine nw_iadd C dd_La_law_1090 ?_
  refine nw_sld C hX hbl hbA (by omega) hL dd_La_law_1091 ?_
  refine cw_aload_nq C dd_La_law_1092 rfl ?_
  refine cw_iload C dd_La_law_1093 rfl ?_
  refine cw_iconst (v := nI 2) C dd_La_law_1095 (by decide +kernel) ?_
  refine nw_iadd C dd_La_law_1096 ?_
  refine nw_sld C hX hbl hbA (by omega) hL dd_La_law_1097 ?_
  refine cw_callV (As := [_, _]) C kV_La_119 wc_34 is_34 dd_La_law_1098 rfl rfl (Nat.le_of_ble_eq_true rfl) ⟨by show d + 1 ≤ 12; omega, by show 8 + (_ + 11) + 40 * d ≤ 440; omega⟩ ⟨by show cells + mc + 0 ≤ 601024; omega, by show slots + ms + 0 ≤ 7293034; omega⟩ hB (nw_ki ?_)
  refine cw_istore C dd_La_law_1101 (Nat.le_of_ble_eq_true rfl) ?_
  refine cw_aload_n C dd_La_law_1103 rfl ?_
  refine cw_callV (As := []) C kV_La_64 wc_34 is_34 dd_La_law_1104 rfl rfl (Nat.le_of_ble_eq_true rfl) ⟨(Nat.le_of_ble_eq_true rfl), (Nat.le_of_ble_eq_true rfl)⟩ ⟨by show cells + mc + 0 ≤ 601024; omega, by show slots + ms + 0 ≤ 7293034; omega⟩ (mm_Mo_thrown X2) (nw_ki ?_)
  rw [hthr]
  refine cw_iload C dd_La_law_1107 rfl ?_
  refine cw_icmp_eq (tgt := 1114) C dd_La_law_1109 (by decide) (fun _ => ?_) (fun h9 => absurd rfl h9)
  refine cw_iload C dd_La_law_1114 rfl ?_
  refine nw_if_ne (tgt := 1131) C dd_La_law_1116 (by decide) (by omega) (fun _ => ?_) (fun h0 => ?_)
  · refine cw_goto (tgt := 1134) C dd_La_law_1131 (by decide) ?_
    exact cw_wk [some (.retAddr b), some (.ref 0), some (.ref 136), some (.ref 260), some (.int (nI (5 * n))), none, none] (fun i v hv => la_wk hv) (hk X2 _ _ hall2 (by omega) (by omega))
  · have hout := hout h0
    refine cw_aload_n C dd_La_law_1119 rfl ?_
    refine cw_iconst (v := nI 0) C dd_La_law_1120 (by decide +kernel) ?_
    refine nw_lald C is_65 (by decide) (by decide) dd_La_law_1121 ?_
    rw [show X2 260 0 = zl_ v from hout]
    refine cw_iload C dd_La_law_1122 rfl ?_
    refine cw_i2l C dd_La_law_1124 ?_
    rw [zl_lN]
    refine cw_lcmp C dd_La_law_1125 ?_
    rw [la_cmp]
    refine cw_if_eq (tgt := 1131) C dd_La_law_1126 (by decide) (fun _ => ?_) (fun h9 => absurd rfl h9)
    refine cw_goto (tgt := 1134) C dd_La_law_1131 (by decide) ?_
    exact cw_wk [some (.retAddr b), some (.ref 0), some (.ref 136), some (.ref 260), some (.int (nI (5 * n))), none, none] (fun i v hv => la_wk hv) (hk X2 _ _ hall2 (by omega) (by omega))
