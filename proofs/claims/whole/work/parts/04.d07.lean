theorem dX11_aCure_95 : decode cX11_aCure 95 = .ok (.invokevirtual 201, 3) := by decide +kernel
theorem dX11_aCure_98 : decode cX11_aCure 98 = .ok (.aload_n 0, 1) := by decide +kernel
theorem dX11_aCure_99 : decode cX11_aCure 99 = .ok (.bipush 58, 2) := by decide +kernel
theorem dX11_aCure_101 : decode cX11_aCure 101 = .ok (.invokevirtual 217, 3) := by decide +kernel
theorem dX11_aCure_104 : decode cX11_aCure 104 = .ok (.ifCond .ne 5, 3) := by decide +kernel
theorem dX11_aCure_107 : decode cX11_aCure 107 = .ok (.iconst 0, 1) := by decide +kernel
theorem dX11_aCure_108 : decode cX11_aCure 108 = .ok (.ireturn, 1) := by decide +kernel
theorem dX11_aCure_109 : decode cX11_aCure 109 = .ok (.iconst 0, 1) := by decide +kernel
theorem dX11_aCure_110 : decode cX11_aCure 110 = .ok (.istore_n 2, 1) := by decide +kernel
theorem dX11_aCure_111 : decode cX11_aCure 111 = .ok (.iload_n 2, 1) := by decide +kernel
theorem dX11_aCure_112 : decode cX11_aCure 112 = .ok (.ifCond .gt 12, 3) := by decide +kernel
theorem dX11_aCure_115 : decode cX11_aCure 115 = .ok (.aload_n 0, 1) := by decide +kernel
theorem dX11_aCure_116 : decode cX11_aCure 116 = .ok (.getfield 172, 3) := by decide +kernel
theorem dX11_aCure_119 : decode cX11_aCure 119 = .ok (.bipush 59, 2) := by decide +kernel
theorem dX11_aCure_121 : decode cX11_aCure 121 = .ok (.if_icmp .eq 315, 3) := by decide +kernel
theorem dX11_aCure_124 : decode cX11_aCure 124 = .ok (.iload_n 2, 1) := by decide +kernel
theorem dX11_aCure_125 : decode cX11_aCure 125 = .ok (.ifCond .le 48, 3) := by decide +kernel
theorem dX11_aCure_128 : decode cX11_aCure 128 = .ok (.aload_n 0, 1) := by decide +kernel
theorem dX11_aCure_129 : decode cX11_aCure 129 = .ok (.getfield 172, 3) := by decide +kernel
theorem dX11_aCure_132 : decode cX11_aCure 132 = .ok (.bipush 41, 2) := by decide +kernel
theorem dX11_aCure_134 : decode cX11_aCure 134 = .ok (.if_icmp .ne 39, 3) := by decide +kernel
theorem dX11_aCure_137 : decode cX11_aCure 137 = .ok (.iinc 2 (-1), 3) := by decide +kernel
theorem dX11_aCure_140 : decode cX11_aCure 140 = .ok (.aload_n 0, 1) := by decide +kernel
theorem dX11_aCure_141 : decode cX11_aCure 141 = .ok (.getfield 48, 3) := by decide +kernel
theorem dX11_aCure_144 : decode cX11_aCure 144 = .ok (.bipush 90, 2) := by decide +kernel
theorem dX11_aCure_146 : decode cX11_aCure 146 = .ok (.iload_n 1, 1) := by decide +kernel
theorem dX11_aCure_147 : decode cX11_aCure 147 = .ok (.imul, 1) := by decide +kernel
theorem dX11_aCure_148 : decode cX11_aCure 148 = .ok (.iconst 3, 1) := by decide +kernel
theorem dX11_aCure_149 : decode cX11_aCure 149 = .ok (.aload_n 0, 1) := by decide +kernel
theorem dX11_aCure_150 : decode cX11_aCure 150 = .ok (.getfield 58, 3) := by decide +kernel
theorem dX11_aCure_153 : decode cX11_aCure 153 = .ok (.iload_n 2, 1) := by decide +kernel
theorem dX11_aCure_154 : decode cX11_aCure 154 = .ok (.iaload, 1) := by decide +kernel
theorem dX11_aCure_155 : decode cX11_aCure 155 = .ok (.imul, 1) := by decide +kernel
theorem dX11_aCure_156 : decode cX11_aCure 156 = .ok (.iadd, 1) := by decide +kernel
theorem dX11_aCure_157 : decode cX11_aCure 157 = .ok (.iconst 2, 1) := by decide +kernel
theorem dX11_aCure_158 : decode cX11_aCure 158 = .ok (.iadd, 1) := by decide +kernel
theorem dX11_aCure_159 : decode cX11_aCure 159 = .ok (.aload_n 0, 1) := by decide +kernel
theorem dX11_aCure_160 : decode cX11_aCure 160 = .ok (.getfield 45, 3) := by decide +kernel
theorem dX11_aCure_163 : decode cX11_aCure 163 = .ok (.iload_n 1, 1) := by decide +kernel
theorem dX11_aCure_164 : decode cX11_aCure 164 = .ok (.iaload, 1) := by decide +kernel
theorem dX11_aCure_165 : decode cX11_aCure 165 = .ok (.iastore, 1) := by decide +kernel
theorem dX11_aCure_166 : decode cX11_aCure 166 = .ok (.aload_n 0, 1) := by decide +kernel
theorem dX11_aCure_167 : decode cX11_aCure 167 = .ok (.invokevirtual 201, 3) := by decide +kernel
theorem dX11_aCure_170 : decode cX11_aCure 170 = .ok (.goto (-59), 3) := by decide +kernel
theorem dX11_aCure_173 : decode cX11_aCure 173 = .ok (.aload_n 0, 1) := by decide +kernel
theorem dX11_aCure_174 : decode cX11_aCure 174 = .ok (.getfield 172, 3) := by decide +kernel
theorem dX11_aCure_177 : decode cX11_aCure 177 = .ok (.bipush 10, 2) := by decide +kernel
theorem dX11_aCure_179 : decode cX11_aCure 179 = .ok (.if_icmp .lt 12, 3) := by decide +kernel
theorem dX11_aCure_182 : decode cX11_aCure 182 = .ok (.aload_n 0, 1) := by decide +kernel
theorem dX11_aCure_183 : decode cX11_aCure 183 = .ok (.getfield 172, 3) := by decide +kernel
theorem dX11_aCure_186 : decode cX11_aCure 186 = .ok (.bipush 14, 2) := by decide +kernel
theorem dX11_aCure_188 : decode cX11_aCure 188 = .ok (.if_icmp .le 9, 3) := by decide +kernel
theorem dX11_aCure_191 : decode cX11_aCure 191 = .ok (.aload_n 0, 1) := by decide +kernel
theorem dX11_aCure_192 : decode cX11_aCure 192 = .ok (.iconst 1, 1) := by decide +kernel
theorem dX11_aCure_193 : decode cX11_aCure 193 = .ok (.invokevirtual 198, 3) := by decide +kernel
theorem dX11_aCure_196 : decode cX11_aCure 196 = .ok (.ireturn, 1) := by decide +kernel
theorem dX11_aCure_197 : decode cX11_aCure 197 = .ok (.aload_n 0, 1) := by decide +kernel
theorem dX11_aCure_198 : decode cX11_aCure 198 = .ok (.getfield 45, 3) := by decide +kernel
theorem dX11_aCure_201 : decode cX11_aCure 201 = .ok (.iload_n 1, 1) := by decide +kernel
theorem dX11_aCure_202 : decode cX11_aCure 202 = .ok (.iaload, 1) := by decide +kernel
theorem dX11_aCure_203 : decode cX11_aCure 203 = .ok (.bipush 30, 2) := by decide +kernel
theorem dX11_aCure_205 : decode cX11_aCure 205 = .ok (.if_icmp .ne 9, 3) := by decide +kernel
theorem dX11_aCure_208 : decode cX11_aCure 208 = .ok (.aload_n 0, 1) := by decide +kernel
theorem dX11_aCure_209 : decode cX11_aCure 209 = .ok (.iconst 4, 1) := by decide +kernel
theorem dX11_aCure_210 : decode cX11_aCure 210 = .ok (.invokevirtual 198, 3) := by decide +kernel
theorem dX11_aCure_213 : decode cX11_aCure 213 = .ok (.ireturn, 1) := by decide +kernel
theorem dX11_aCure_214 : decode cX11_aCure 214 = .ok (.aload_n 0, 1) := by decide +kernel
theorem dX11_aCure_215 : decode cX11_aCure 215 = .ok (.getfield 45, 3) := by decide +kernel
theorem dX11_aCure_218 : decode cX11_aCure 218 = .ok (.iload_n 1, 1) := by decide +kernel
theorem dX11_aCure_219 : decode cX11_aCure 219 = .ok (.iaload, 1) := by decide +kernel
theorem dX11_aCure_220 : decode cX11_aCure 220 = .ok (.istore_n 3, 1) := by decide +kernel
theorem dX11_aCure_221 : decode cX11_aCure 221 = .ok (.aload_n 0, 1) := by decide +kernel
theorem dX11_aCure_222 : decode cX11_aCure 222 = .ok (.getfield 172, 3) := by decide +kernel
theorem dX11_aCure_225 : decode cX11_aCure 225 = .ok (.bipush 10, 2) := by decide +kernel
theorem dX11_aCure_227 : decode cX11_aCure 227 = .ok (.isub, 1) := by decide +kernel
theorem dX11_aCure_228 : decode cX11_aCure 228 = .ok (.istore 4, 2) := by decide +kernel
theorem dX11_aCure_230 : decode cX11_aCure 230 = .ok (.aload_n 0, 1) := by decide +kernel
theorem dX11_aCure_231 : decode cX11_aCure 231 = .ok (.getfield 45, 3) := by decide +kernel
theorem dX11_aCure_234 : decode cX11_aCure 234 = .ok (.iload_n 1, 1) := by decide +kernel
theorem dX11_aCure_235 : decode cX11_aCure 235 = .ok (.dup2, 1) := by decide +kernel
theorem dX11_aCure_236 : decode cX11_aCure 236 = .ok (.iaload, 1) := by decide +kernel
theorem dX11_aCure_237 : decode cX11_aCure 237 = .ok (.iconst 1, 1) := by decide +kernel
theorem dX11_aCure_238 : decode cX11_aCure 238 = .ok (.iadd, 1) := by decide +kernel
theorem dX11_aCure_239 : decode cX11_aCure 239 = .ok (.iastore, 1) := by decide +kernel
theorem dX11_aCure_240 : decode cX11_aCure 240 = .ok (.aload_n 0, 1) := by decide +kernel
theorem dX11_aCure_241 : decode cX11_aCure 241 = .ok (.invokevirtual 201, 3) := by decide +kernel
theorem dX11_aCure_244 : decode cX11_aCure 244 = .ok (.aload_n 0, 1) := by decide +kernel
theorem dX11_aCure_245 : decode cX11_aCure 245 = .ok (.iload 4, 2) := by decide +kernel
theorem dX11_aCure_247 : decode cX11_aCure 247 = .ok (.iconst 2, 1) := by decide +kernel
theorem dX11_aCure_248 : decode cX11_aCure 248 = .ok (.if_icmp .eq 9, 3) := by decide +kernel
theorem dX11_aCure_251 : decode cX11_aCure 251 = .ok (.iload 4, 2) := by decide +kernel
theorem dX11_aCure_253 : decode cX11_aCure 253 = .ok (.iconst 4, 1) := by decide +kernel
theorem dX11_aCure_254 : decode cX11_aCure 254 = .ok (.if_icmp .ne 7, 3) := by decide +kernel
theorem dX11_aCure_257 : decode cX11_aCure 257 = .ok (.iconst 1, 1) := by decide +kernel
theorem dX11_aCure_258 : decode cX11_aCure 258 = .ok (.goto 4, 3) := by decide +kernel
theorem dX11_aCure_261 : decode cX11_aCure 261 = .ok (.iconst 0, 1) := by decide +kernel
theorem dX11_aCure_262 : decode cX11_aCure 262 = .ok (.iload 4, 2) := by decide +kernel
theorem dX11_aCure_264 : decode cX11_aCure 264 = .ok (.ifCond .ne 7, 3) := by decide +kernel
theorem dX11_aCure_267 : decode cX11_aCure 267 = .ok (.iconst 3, 1) := by decide +kernel
theorem dX11_aCure_268 : decode cX11_aCure 268 = .ok (.goto 37, 3) := by decide +kernel
theorem dX11_aCure_271 : decode cX11_aCure 271 = .ok (.iload 4, 2) := by decide +kernel
theorem dX11_aCure_273 : decode cX11_aCure 273 = .ok (.iconst 1, 1) := by decide +kernel
theorem dX11_aCure_274 : decode cX11_aCure 274 = .ok (.if_icmp .ne 7, 3) := by decide +kernel
theorem dX11_aCure_277 : decode cX11_aCure 277 = .ok (.iconst 2, 1) := by decide +kernel
theorem dX11_aCure_278 : decode cX11_aCure 278 = .ok (.goto 27, 3) := by decide +kernel
theorem dX11_aCure_281 : decode cX11_aCure 281 = .ok (.iload 4, 2) := by decide +kernel
theorem dX11_aCure_283 : decode cX11_aCure 283 = .ok (.iconst 2, 1) := by decide +kernel
theorem dX11_aCure_284 : decode cX11_aCure 284 = .ok (.if_icmp .ne 8, 3) := by decide +kernel
theorem dX11_aCure_287 : decode cX11_aCure 287 = .ok (.bipush 16, 2) := by decide +kernel
theorem dX11_aCure_289 : decode cX11_aCure 289 = .ok (.goto 16, 3) := by decide +kernel
theorem dX11_aCure_292 : decode cX11_aCure 292 = .ok (.iload 4, 2) := by decide +kernel
theorem dX11_aCure_294 : decode cX11_aCure 294 = .ok (.iconst 3, 1) := by decide +kernel
theorem dX11_aCure_295 : decode cX11_aCure 295 = .ok (.if_icmp .ne 8, 3) := by decide +kernel
theorem dX11_aCure_298 : decode cX11_aCure 298 = .ok (.bipush 47, 2) := by decide +kernel
theorem dX11_aCure_300 : decode cX11_aCure 300 = .ok (.goto 5, 3) := by decide +kernel
theorem dX11_aCure_303 : decode cX11_aCure 303 = .ok (.bipush 9, 2) := by decide +kernel
theorem dX11_aCure_305 : decode cX11_aCure 305 = .ok (.invokevirtual 220, 3) := by decide +kernel
theorem dX11_aCure_308 : decode cX11_aCure 308 = .ok (.ifCond .ne 5, 3) := by decide +kernel
theorem dX11_aCure_311 : decode cX11_aCure 311 = .ok (.iconst 0, 1) := by decide +kernel
theorem dX11_aCure_312 : decode cX11_aCure 312 = .ok (.ireturn, 1) := by decide +kernel
theorem dX11_aCure_313 : decode cX11_aCure 313 = .ok (.aload_n 0, 1) := by decide +kernel
theorem dX11_aCure_314 : decode cX11_aCure 314 = .ok (.getfield 48, 3) := by decide +kernel
theorem dX11_aCure_317 : decode cX11_aCure 317 = .ok (.bipush 90, 2) := by decide +kernel
theorem dX11_aCure_319 : decode cX11_aCure 319 = .ok (.iload_n 1, 1) := by decide +kernel
theorem dX11_aCure_320 : decode cX11_aCure 320 = .ok (.imul, 1) := by decide +kernel
theorem dX11_aCure_321 : decode cX11_aCure 321 = .ok (.iconst 3, 1) := by decide +kernel
theorem dX11_aCure_322 : decode cX11_aCure 322 = .ok (.iload_n 3, 1) := by decide +kernel
theorem dX11_aCure_323 : decode cX11_aCure 323 = .ok (.imul, 1) := by decide +kernel
theorem dX11_aCure_324 : decode cX11_aCure 324 = .ok (.iadd, 1) := by decide +kernel
theorem dX11_aCure_325 : decode cX11_aCure 325 = .ok (.iload 4, 2) := by decide +kernel
theorem dX11_aCure_327 : decode cX11_aCure 327 = .ok (.iastore, 1) := by decide +kernel
theorem dX11_aCure_328 : decode cX11_aCure 328 = .ok (.aload_n 0, 1) := by decide +kernel
theorem dX11_aCure_329 : decode cX11_aCure 329 = .ok (.getfield 48, 3) := by decide +kernel
theorem dX11_aCure_332 : decode cX11_aCure 332 = .ok (.bipush 90, 2) := by decide +kernel
theorem dX11_aCure_334 : decode cX11_aCure 334 = .ok (.iload_n 1, 1) := by decide +kernel
theorem dX11_aCure_335 : decode cX11_aCure 335 = .ok (.imul, 1) := by decide +kernel
theorem dX11_aCure_336 : decode cX11_aCure 336 = .ok (.iconst 3, 1) := by decide +kernel
theorem dX11_aCure_337 : decode cX11_aCure 337 = .ok (.iload_n 3, 1) := by decide +kernel
theorem dX11_aCure_338 : decode cX11_aCure 338 = .ok (.imul, 1) := by decide +kernel
theorem dX11_aCure_339 : decode cX11_aCure 339 = .ok (.iadd, 1) := by decide +kernel
theorem dX11_aCure_340 : decode cX11_aCure 340 = .ok (.iconst 1, 1) := by decide +kernel
theorem dX11_aCure_341 : decode cX11_aCure 341 = .ok (.iadd, 1) := by decide +kernel
theorem dX11_aCure_342 : decode cX11_aCure 342 = .ok (.aload_n 0, 1) := by decide +kernel
theorem dX11_aCure_343 : decode cX11_aCure 343 = .ok (.getfield 204, 3) := by decide +kernel
theorem dX11_aCure_346 : decode cX11_aCure 346 = .ok (.iastore, 1) := by decide +kernel
theorem dX11_aCure_347 : decode cX11_aCure 347 = .ok (.iload 4, 2) := by decide +kernel
theorem dX11_aCure_349 : decode cX11_aCure 349 = .ok (.iconst 1, 1) := by decide +kernel
theorem dX11_aCure_350 : decode cX11_aCure 350 = .ok (.if_icmp .ne 34, 3) := by decide +kernel
theorem dX11_aCure_353 : decode cX11_aCure 353 = .ok (.aload_n 0, 1) := by decide +kernel
theorem dX11_aCure_354 : decode cX11_aCure 354 = .ok (.iconst 1, 1) := by decide +kernel
theorem dX11_aCure_355 : decode cX11_aCure 355 = .ok (.bipush 16, 2) := by decide +kernel
theorem dX11_aCure_357 : decode cX11_aCure 357 = .ok (.invokevirtual 220, 3) := by decide +kernel
theorem dX11_aCure_360 : decode cX11_aCure 360 = .ok (.ifCond .ne 5, 3) := by decide +kernel
theorem dX11_aCure_363 : decode cX11_aCure 363 = .ok (.iconst 0, 1) := by decide +kernel
theorem dX11_aCure_364 : decode cX11_aCure 364 = .ok (.ireturn, 1) := by decide +kernel
theorem dX11_aCure_365 : decode cX11_aCure 365 = .ok (.aload_n 0, 1) := by decide +kernel
theorem dX11_aCure_366 : decode cX11_aCure 366 = .ok (.getfield 48, 3) := by decide +kernel
theorem dX11_aCure_369 : decode cX11_aCure 369 = .ok (.bipush 90, 2) := by decide +kernel
theorem dX11_aCure_371 : decode cX11_aCure 371 = .ok (.iload_n 1, 1) := by decide +kernel
theorem dX11_aCure_372 : decode cX11_aCure 372 = .ok (.imul, 1) := by decide +kernel
theorem dX11_aCure_373 : decode cX11_aCure 373 = .ok (.iconst 3, 1) := by decide +kernel
theorem dX11_aCure_374 : decode cX11_aCure 374 = .ok (.iload_n 3, 1) := by decide +kernel
theorem dX11_aCure_375 : decode cX11_aCure 375 = .ok (.imul, 1) := by decide +kernel
theorem dX11_aCure_376 : decode cX11_aCure 376 = .ok (.iadd, 1) := by decide +kernel
theorem dX11_aCure_377 : decode cX11_aCure 377 = .ok (.iconst 2, 1) := by decide +kernel
theorem dX11_aCure_378 : decode cX11_aCure 378 = .ok (.iadd, 1) := by decide +kernel
theorem dX11_aCure_379 : decode cX11_aCure 379 = .ok (.aload_n 0, 1) := by decide +kernel
theorem dX11_aCure_380 : decode cX11_aCure 380 = .ok (.getfield 204, 3) := by decide +kernel
theorem dX11_aCure_383 : decode cX11_aCure 383 = .ok (.iastore, 1) := by decide +kernel
theorem dX11_aCure_384 : decode cX11_aCure 384 = .ok (.iload 4, 2) := by decide +kernel
theorem dX11_aCure_386 : decode cX11_aCure 386 = .ok (.iconst 4, 1) := by decide +kernel
theorem dX11_aCure_387 : decode cX11_aCure 387 = .ok (.if_icmp .eq 6, 3) := by decide +kernel
theorem dX11_aCure_390 : decode cX11_aCure 390 = .ok (.goto (-279), 3) := by decide +kernel
theorem dX11_aCure_393 : decode cX11_aCure 393 = .ok (.aload_n 0, 1) := by decide +kernel
theorem dX11_aCure_394 : decode cX11_aCure 394 = .ok (.getfield 172, 3) := by decide +kernel
theorem dX11_aCure_397 : decode cX11_aCure 397 = .ok (.bipush 40, 2) := by decide +kernel
theorem dX11_aCure_399 : decode cX11_aCure 399 = .ok (.if_icmp .eq 9, 3) := by decide +kernel
theorem dX11_aCure_402 : decode cX11_aCure 402 = .ok (.aload_n 0, 1) := by decide +kernel
theorem dX11_aCure_403 : decode cX11_aCure 403 = .ok (.iconst 1, 1) := by decide +kernel
theorem dX11_aCure_404 : decode cX11_aCure 404 = .ok (.invokevirtual 198, 3) := by decide +kernel
theorem dX11_aCure_407 : decode cX11_aCure 407 = .ok (.ireturn, 1) := by decide +kernel
theorem dX11_aCure_408 : decode cX11_aCure 408 = .ok (.iload_n 2, 1) := by decide +kernel
theorem dX11_aCure_409 : decode cX11_aCure 409 = .ok (.iconst 5, 1) := by decide +kernel
theorem dX11_aCure_410 : decode cX11_aCure 410 = .ok (.if_icmp .ne 9, 3) := by decide +kernel
theorem dX11_aCure_413 : decode cX11_aCure 413 = .ok (.aload_n 0, 1) := by decide +kernel
theorem dX11_aCure_414 : decode cX11_aCure 414 = .ok (.iconst 4, 1) := by decide +kernel
theorem dX11_aCure_415 : decode cX11_aCure 415 = .ok (.invokevirtual 198, 3) := by decide +kernel
theorem dX11_aCure_418 : decode cX11_aCure 418 = .ok (.ireturn, 1) := by decide +kernel
theorem dX11_aCure_419 : decode cX11_aCure 419 = .ok (.aload_n 0, 1) := by decide +kernel
theorem dX11_aCure_420 : decode cX11_aCure 420 = .ok (.getfield 58, 3) := by decide +kernel
theorem dX11_aCure_423 : decode cX11_aCure 423 = .ok (.iload_n 2, 1) := by decide +kernel
theorem dX11_aCure_424 : decode cX11_aCure 424 = .ok (.iload_n 3, 1) := by decide +kernel
theorem dX11_aCure_425 : decode cX11_aCure 425 = .ok (.iastore, 1) := by decide +kernel
theorem dX11_aCure_426 : decode cX11_aCure 426 = .ok (.iinc 2 1, 3) := by decide +kernel
theorem dX11_aCure_429 : decode cX11_aCure 429 = .ok (.aload_n 0, 1) := by decide +kernel
theorem dX11_aCure_430 : decode cX11_aCure 430 = .ok (.invokevirtual 201, 3) := by decide +kernel
theorem dX11_aCure_433 : decode cX11_aCure 433 = .ok (.goto (-322), 3) := by decide +kernel
theorem dX11_aCure_436 : decode cX11_aCure 436 = .ok (.aload_n 0, 1) := by decide +kernel
theorem dX11_aCure_437 : decode cX11_aCure 437 = .ok (.invokevirtual 201, 3) := by decide +kernel
theorem dX11_aCure_440 : decode cX11_aCure 440 = .ok (.iconst 1, 1) := by decide +kernel
theorem dX11_aCure_441 : decode cX11_aCure 441 = .ok (.ireturn, 1) := by decide +kernel
set_option maxRecDepth 20000 in
theorem ggX11_load_X11_next0 : GoodIn wsX11_load wsX11_next0 := goodIn_r _ [20, 2, 21, 4, 22, 23, 24, 25, 26, 19, 27, 5, 28, 29, 30, 31, 32, 33, 34, 35, 36, 37, 38, 39, 40, 41, 42, 43, 44, 45, 46, 47, 48, 49, 72, 73, 74, 75, 76, 77, 78, 79, 80, 81, 82, 83, 84, 85, 86, 87, 88, 89, 90, 91, 92, 93, 94, 95, 96, 97, 98, 99, 100, 101, 102, 103, 104, 105, 106, 107, 108, 109, 110, 111, 112, 113, 114, 115, 116, 117, 118, 119, 120, 121, 122, 123, 124, 125, 126, 127, 128, 129, 130, 131, 132] (by decide +kernel) (by decide +kernel)
set_option maxRecDepth 20000 in
theorem gX11_load_X11_next0 : GoodIn wsX11_load (wsV RX11 201 RX11 yX11_next0 wsX11_next0) := goodIn_app (goodIn_of _ (by decide +kernel)) ggX11_load_X11_next0
set_option maxRecDepth 20000 in
theorem ggX11_load_X11_aCure : GoodIn wsX11_load wsX11_aCure := goodIn_r _ [53, 4, 3, 10, 11, 22, 13, 15, 54, 55, 56, 57, 58, 19, 59, 1, 21, 7, 16, 17, 18, 20, 2, 23, 24, 25, 26, 27, 5, 28, 29, 30, 31, 32, 33, 34, 35, 36, 37, 38, 39, 40, 41, 42, 43, 44, 45, 46, 47, 48, 49, 60, 61, 62, 63, 9, 64, 65, 66, 67, 68, 69, 70, 71, 72, 73, 74, 75, 76, 77, 78, 79, 80, 81, 82, 83, 84, 85, 86, 87, 88, 89, 90, 91, 92, 93, 94, 95, 96, 97, 98, 99, 100, 101, 102, 103, 104, 105, 106, 107, 108, 109, 110, 111, 112, 113, 114, 115, 116, 117, 118, 119, 120, 121, 122, 123, 124, 125, 126, 127, 128, 129, 130, 131, 132] (by decide +kernel) (by decide +kernel)
set_option maxRecDepth 20000 in
theorem gX11_load_X11_aCure : GoodIn wsX11_load (wsV RX11 224 RX11 yX11_aCure wsX11_aCure) := goodIn_app (goodIn_of _ (by decide +kernel)) ggX11_load_X11_aCure
theorem dX11_load_0 : decode cX11_load 0 = .ok (.aload_n 0, 1) := by decide +kernel
theorem dX11_load_1 : decode cX11_load 1 = .ok (.iconst 0, 1) := by decide +kernel
theorem dX11_load_2 : decode cX11_load 2 = .ok (.putfield 192, 3) := by decide +kernel
theorem dX11_load_5 : decode cX11_load 5 = .ok (.aload_n 0, 1) := by decide +kernel
theorem dX11_load_6 : decode cX11_load 6 = .ok (.iconst 0, 1) := by decide +kernel
theorem dX11_load_7 : decode cX11_load 7 = .ok (.putfield 162, 3) := by decide +kernel
theorem dX11_load_10 : decode cX11_load 10 = .ok (.aload_n 0, 1) := by decide +kernel
theorem dX11_load_11 : decode cX11_load 11 = .ok (.iconst 0, 1) := by decide +kernel
theorem dX11_load_12 : decode cX11_load 12 = .ok (.putfield 210, 3) := by decide +kernel
theorem dX11_load_15 : decode cX11_load 15 = .ok (.aload_n 0, 1) := by decide +kernel
theorem dX11_load_16 : decode cX11_load 16 = .ok (.invokevirtual 201, 3) := by decide +kernel
theorem dX11_load_19 : decode cX11_load 19 = .ok (.iconst 1, 1) := by decide +kernel
theorem dX11_load_20 : decode cX11_load 20 = .ok (.istore_n 1, 1) := by decide +kernel
theorem dX11_load_21 : decode cX11_load 21 = .ok (.iload_n 1, 1) := by decide +kernel
theorem dX11_load_22 : decode cX11_load 22 = .ok (.ifCond .eq 18, 3) := by decide +kernel
theorem dX11_load_25 : decode cX11_load 25 = .ok (.aload_n 0, 1) := by decide +kernel
theorem dX11_load_26 : decode cX11_load 26 = .ok (.getfield 172, 3) := by decide +kernel
theorem dX11_load_29 : decode cX11_load 29 = .ok (.ifCond .eq 11, 3) := by decide +kernel
theorem dX11_load_32 : decode cX11_load 32 = .ok (.aload_n 0, 1) := by decide +kernel
theorem dX11_load_33 : decode cX11_load 33 = .ok (.invokevirtual 224, 3) := by decide +kernel
theorem dX11_load_36 : decode cX11_load 36 = .ok (.istore_n 1, 1) := by decide +kernel
theorem dX11_load_37 : decode cX11_load 37 = .ok (.goto (-16), 3) := by decide +kernel
theorem dX11_load_40 : decode cX11_load 40 = .ok (.aload_n 0, 1) := by decide +kernel
theorem dX11_load_41 : decode cX11_load 41 = .ok (.iconst 0, 1) := by decide +kernel
theorem dX11_load_42 : decode cX11_load 42 = .ok (.putfield 144, 3) := by decide +kernel
theorem dX11_load_45 : decode cX11_load 45 = .ok (.aload_n 0, 1) := by decide +kernel
theorem dX11_load_46 : decode cX11_load 46 = .ok (.aload_n 0, 1) := by decide +kernel
theorem dX11_load_47 : decode cX11_load 47 = .ok (.getfield 192, 3) := by decide +kernel
theorem dX11_load_50 : decode cX11_load 50 = .ok (.putfield 227, 3) := by decide +kernel
theorem dX11_load_53 : decode cX11_load 53 = .ok (.aload_n 0, 1) := by decide +kernel
theorem dX11_load_54 : decode cX11_load 54 = .ok (.iload_n 1, 1) := by decide +kernel
theorem dX11_load_55 : decode cX11_load 55 = .ok (.ifCond .eq 7, 3) := by decide +kernel
theorem dX11_load_58 : decode cX11_load 58 = .ok (.iconst (-1), 1) := by decide +kernel
theorem dX11_load_59 : decode cX11_load 59 = .ok (.goto 7, 3) := by decide +kernel
theorem dX11_load_62 : decode cX11_load 62 = .ok (.aload_n 0, 1) := by decide +kernel
theorem dX11_load_63 : decode cX11_load 63 = .ok (.getfield 195, 3) := by decide +kernel
theorem dX11_load_66 : decode cX11_load 66 = .ok (.putfield 54, 3) := by decide +kernel
theorem dX11_load_69 : decode cX11_load 69 = .ok (.iload_n 1, 1) := by decide +kernel
theorem dX11_load_70 : decode cX11_load 70 = .ok (.ifCond .ne 5, 3) := by decide +kernel
theorem dX11_load_73 : decode cX11_load 73 = .ok (.iconst (-1), 1) := by decide +kernel
theorem dX11_load_74 : decode cX11_load 74 = .ok (.ireturn, 1) := by decide +kernel
theorem dX11_load_75 : decode cX11_load 75 = .ok (.iconst 0, 1) := by decide +kernel
theorem dX11_load_76 : decode cX11_load 76 = .ok (.istore_n 2, 1) := by decide +kernel
theorem dX11_load_77 : decode cX11_load 77 = .ok (.iload_n 2, 1) := by decide +kernel
theorem dX11_load_78 : decode cX11_load 78 = .ok (.aload_n 0, 1) := by decide +kernel
theorem dX11_load_79 : decode cX11_load 79 = .ok (.getfield 210, 3) := by decide +kernel
theorem dX11_load_82 : decode cX11_load 82 = .ok (.if_icmp .ge 88, 3) := by decide +kernel
theorem dX11_load_85 : decode cX11_load 85 = .ok (.aload_n 0, 1) := by decide +kernel
theorem dX11_load_86 : decode cX11_load 86 = .ok (.getfield 32, 3) := by decide +kernel
theorem dX11_load_89 : decode cX11_load 89 = .ok (.aload_n 0, 1) := by decide +kernel
theorem dX11_load_90 : decode cX11_load 90 = .ok (.getfield 207, 3) := by decide +kernel
theorem dX11_load_93 : decode cX11_load 93 = .ok (.aload_n 0, 1) := by decide +kernel
theorem dX11_load_94 : decode cX11_load 94 = .ok (.getfield 36, 3) := by decide +kernel
theorem dX11_load_97 : decode cX11_load 97 = .ok (.iload_n 2, 1) := by decide +kernel
theorem dX11_load_98 : decode cX11_load 98 = .ok (.laload, 1) := by decide +kernel
theorem dX11_load_99 : decode cX11_load 99 = .ok (.lastore, 1) := by decide +kernel
theorem dX11_load_100 : decode cX11_load 100 = .ok (.aload_n 0, 1) := by decide +kernel
theorem dX11_load_101 : decode cX11_load 101 = .ok (.getfield 39, 3) := by decide +kernel
theorem dX11_load_104 : decode cX11_load 104 = .ok (.aload_n 0, 1) := by decide +kernel
theorem dX11_load_105 : decode cX11_load 105 = .ok (.getfield 207, 3) := by decide +kernel
theorem dX11_load_108 : decode cX11_load 108 = .ok (.aload_n 0, 1) := by decide +kernel
theorem dX11_load_109 : decode cX11_load 109 = .ok (.getfield 45, 3) := by decide +kernel
theorem dX11_load_112 : decode cX11_load 112 = .ok (.iload_n 2, 1) := by decide +kernel
theorem dX11_load_113 : decode cX11_load 113 = .ok (.iaload, 1) := by decide +kernel
theorem dX11_load_114 : decode cX11_load 114 = .ok (.iastore, 1) := by decide +kernel
theorem dX11_load_115 : decode cX11_load 115 = .ok (.iconst 0, 1) := by decide +kernel
theorem dX11_load_116 : decode cX11_load 116 = .ok (.istore_n 3, 1) := by decide +kernel
theorem dX11_load_117 : decode cX11_load 117 = .ok (.iload_n 3, 1) := by decide +kernel
theorem dX11_load_118 : decode cX11_load 118 = .ok (.bipush 90, 2) := by decide +kernel
theorem dX11_load_120 : decode cX11_load 120 = .ok (.if_icmp .ge 34, 3) := by decide +kernel
theorem dX11_load_123 : decode cX11_load 123 = .ok (.aload_n 0, 1) := by decide +kernel
theorem dX11_load_124 : decode cX11_load 124 = .ok (.getfield 42, 3) := by decide +kernel
theorem dX11_load_127 : decode cX11_load 127 = .ok (.bipush 90, 2) := by decide +kernel
theorem dX11_load_129 : decode cX11_load 129 = .ok (.aload_n 0, 1) := by decide +kernel
theorem dX11_load_130 : decode cX11_load 130 = .ok (.getfield 207, 3) := by decide +kernel
theorem dX11_load_133 : decode cX11_load 133 = .ok (.imul, 1) := by decide +kernel
theorem dX11_load_134 : decode cX11_load 134 = .ok (.iload_n 3, 1) := by decide +kernel
theorem dX11_load_135 : decode cX11_load 135 = .ok (.iadd, 1) := by decide +kernel
theorem dX11_load_136 : decode cX11_load 136 = .ok (.aload_n 0, 1) := by decide +kernel
theorem dX11_load_137 : decode cX11_load 137 = .ok (.getfield 48, 3) := by decide +kernel
theorem dX11_load_140 : decode cX11_load 140 = .ok (.bipush 90, 2) := by decide +kernel
theorem dX11_load_142 : decode cX11_load 142 = .ok (.iload_n 2, 1) := by decide +kernel
theorem dX11_load_143 : decode cX11_load 143 = .ok (.imul, 1) := by decide +kernel
theorem dX11_load_144 : decode cX11_load 144 = .ok (.iload_n 3, 1) := by decide +kernel
theorem dX11_load_145 : decode cX11_load 145 = .ok (.iadd, 1) := by decide +kernel
theorem dX11_load_146 : decode cX11_load 146 = .ok (.iaload, 1) := by decide +kernel
theorem dX11_load_147 : decode cX11_load 147 = .ok (.iastore, 1) := by decide +kernel
theorem dX11_load_148 : decode cX11_load 148 = .ok (.iinc 3 1, 3) := by decide +kernel
theorem dX11_load_151 : decode cX11_load 151 = .ok (.goto (-34), 3) := by decide +kernel
theorem dX11_load_154 : decode cX11_load 154 = .ok (.aload_n 0, 1) := by decide +kernel
theorem dX11_load_155 : decode cX11_load 155 = .ok (.dup, 1) := by decide +kernel
theorem dX11_load_156 : decode cX11_load 156 = .ok (.getfield 207, 3) := by decide +kernel
theorem dX11_load_159 : decode cX11_load 159 = .ok (.iconst 1, 1) := by decide +kernel
theorem dX11_load_160 : decode cX11_load 160 = .ok (.iadd, 1) := by decide +kernel
theorem dX11_load_161 : decode cX11_load 161 = .ok (.putfield 207, 3) := by decide +kernel
theorem dX11_load_164 : decode cX11_load 164 = .ok (.iinc 2 1, 3) := by decide +kernel
theorem dX11_load_167 : decode cX11_load 167 = .ok (.goto (-90), 3) := by decide +kernel
theorem dX11_load_170 : decode cX11_load 170 = .ok (.aload_n 0, 1) := by decide +kernel
theorem dX11_load_171 : decode cX11_load 171 = .ok (.getfield 207, 3) := by decide +kernel
theorem dX11_load_174 : decode cX11_load 174 = .ok (.ireturn, 1) := by decide +kernel
theorem dX11_fault_0 : decode cX11_fault 0 = .ok (.iload_n 1, 1) := by decide +kernel
theorem dX11_fault_1 : decode cX11_fault 1 = .ok (.ifCond .ne 10, 3) := by decide +kernel
theorem dX11_fault_4 : decode cX11_fault 4 = .ok (.aload_n 0, 1) := by decide +kernel
theorem dX11_fault_5 : decode cX11_fault 5 = .ok (.getfield 227, 3) := by decide +kernel
theorem dX11_fault_8 : decode cX11_fault 8 = .ok (.goto 16, 3) := by decide +kernel
theorem dX11_fault_11 : decode cX11_fault 11 = .ok (.iload_n 1, 1) := by decide +kernel
theorem dX11_fault_12 : decode cX11_fault 12 = .ok (.iconst 1, 1) := by decide +kernel
theorem dX11_fault_13 : decode cX11_fault 13 = .ok (.if_icmp .ne 10, 3) := by decide +kernel
theorem dX11_fault_16 : decode cX11_fault 16 = .ok (.aload_n 0, 1) := by decide +kernel
theorem dX11_fault_17 : decode cX11_fault 17 = .ok (.getfield 54, 3) := by decide +kernel
theorem dX11_fault_20 : decode cX11_fault 20 = .ok (.goto 4, 3) := by decide +kernel
theorem dX11_fault_23 : decode cX11_fault 23 = .ok (.iconst (-1), 1) := by decide +kernel
theorem dX11_fault_24 : decode cX11_fault 24 = .ok (.ireturn, 1) := by decide +kernel
set_option maxRecDepth 20000 in
theorem ggX11_guest_X11_isIn : GoodIn wsX11_guest wsX11_isIn := goodIn_r _ [12] (by decide +kernel) (by decide +kernel)
set_option maxRecDepth 20000 in
theorem gX11_guest_X11_isIn : GoodIn wsX11_guest (va_wsS RX11 136 yX11_isIn wsX11_isIn) := goodIn_app (goodIn_of _ (by decide +kernel)) ggX11_guest_X11_isIn
theorem dX11_guest_0 : decode cX11_guest 0 = .ok (.iload_n 1, 1) := by decide +kernel
theorem dX11_guest_1 : decode cX11_guest 1 = .ok (.iconst 0, 1) := by decide +kernel
theorem dX11_guest_2 : decode cX11_guest 2 = .ok (.iconst 3, 1) := by decide +kernel
theorem dX11_guest_3 : decode cX11_guest 3 = .ok (.invokestatic 136, 3) := by decide +kernel
theorem dX11_guest_6 : decode cX11_guest 6 = .ok (.ifCond .eq 63, 3) := by decide +kernel
theorem dX11_guest_9 : decode cX11_guest 9 = .ok (.iload_n 2, 1) := by decide +kernel
theorem dX11_guest_10 : decode cX11_guest 10 = .ok (.iconst 0, 1) := by decide +kernel
theorem dX11_guest_11 : decode cX11_guest 11 = .ok (.aload_n 0, 1) := by decide +kernel
theorem dX11_guest_12 : decode cX11_guest 12 = .ok (.getfield 207, 3) := by decide +kernel
theorem dX11_guest_15 : decode cX11_guest 15 = .ok (.iconst 1, 1) := by decide +kernel
theorem dX11_guest_16 : decode cX11_guest 16 = .ok (.isub, 1) := by decide +kernel
theorem dX11_guest_17 : decode cX11_guest 17 = .ok (.invokestatic 136, 3) := by decide +kernel
theorem dX11_guest_20 : decode cX11_guest 20 = .ok (.ifCond .eq 49, 3) := by decide +kernel
theorem dX11_guest_23 : decode cX11_guest 23 = .ok (.iload_n 3, 1) := by decide +kernel
theorem dX11_guest_24 : decode cX11_guest 24 = .ok (.aload_n 0, 1) := by decide +kernel
theorem dX11_guest_25 : decode cX11_guest 25 = .ok (.getfield 230, 3) := by decide +kernel
theorem dX11_guest_28 : decode cX11_guest 28 = .ok (.bipush 99, 2) := by decide +kernel
theorem dX11_guest_30 : decode cX11_guest 30 = .ok (.invokestatic 136, 3) := by decide +kernel
theorem dX11_guest_33 : decode cX11_guest 33 = .ok (.ifCond .eq 36, 3) := by decide +kernel
theorem dX11_guest_36 : decode cX11_guest 36 = .ok (.iload 4, 2) := by decide +kernel
theorem dX11_guest_38 : decode cX11_guest 38 = .ok (.iload_n 3, 1) := by decide +kernel
theorem dX11_guest_39 : decode cX11_guest 39 = .ok (.iconst 1, 1) := by decide +kernel
theorem dX11_guest_40 : decode cX11_guest 40 = .ok (.iadd, 1) := by decide +kernel
theorem dX11_guest_41 : decode cX11_guest 41 = .ok (.bipush 100, 2) := by decide +kernel
theorem dX11_guest_43 : decode cX11_guest 43 = .ok (.invokestatic 136, 3) := by decide +kernel
theorem dX11_guest_46 : decode cX11_guest 46 = .ok (.ifCond .eq 23, 3) := by decide +kernel
theorem dX11_guest_49 : decode cX11_guest 49 = .ok (.iload 5, 2) := by decide +kernel
theorem dX11_guest_51 : decode cX11_guest 51 = .ok (.iconst 0, 1) := by decide +kernel
theorem dX11_guest_52 : decode cX11_guest 52 = .ok (.bipush 99, 2) := by decide +kernel
theorem dX11_guest_54 : decode cX11_guest 54 = .ok (.invokestatic 136, 3) := by decide +kernel
theorem dX11_guest_57 : decode cX11_guest 57 = .ok (.ifCond .eq 12, 3) := by decide +kernel
theorem dX11_guest_60 : decode cX11_guest 60 = .ok (.aload_n 0, 1) := by decide +kernel
theorem dX11_guest_61 : decode cX11_guest 61 = .ok (.getfield 233, 3) := by decide +kernel
theorem dX11_guest_64 : decode cX11_guest 64 = .ok (.bipush 8, 2) := by decide +kernel
theorem dX11_guest_66 : decode cX11_guest 66 = .ok (.if_icmp .ne 5, 3) := by decide +kernel
theorem dX11_guest_69 : decode cX11_guest 69 = .ok (.iconst (-1), 1) := by decide +kernel
theorem dX11_guest_70 : decode cX11_guest 70 = .ok (.ireturn, 1) := by decide +kernel
theorem dX11_guest_71 : decode cX11_guest 71 = .ok (.aload_n 0, 1) := by decide +kernel
theorem dX11_guest_72 : decode cX11_guest 72 = .ok (.getfield 233, 3) := by decide +kernel
theorem dX11_guest_75 : decode cX11_guest 75 = .ok (.istore 6, 2) := by decide +kernel
theorem dX11_guest_77 : decode cX11_guest 77 = .ok (.aload_n 0, 1) := by decide +kernel
theorem dX11_guest_78 : decode cX11_guest 78 = .ok (.dup, 1) := by decide +kernel
theorem dX11_guest_79 : decode cX11_guest 79 = .ok (.getfield 233, 3) := by decide +kernel
theorem dX11_guest_82 : decode cX11_guest 82 = .ok (.iconst 1, 1) := by decide +kernel
theorem dX11_guest_83 : decode cX11_guest 83 = .ok (.iadd, 1) := by decide +kernel
theorem dX11_guest_84 : decode cX11_guest 84 = .ok (.putfield 233, 3) := by decide +kernel
theorem dX11_guest_87 : decode cX11_guest 87 = .ok (.aload_n 0, 1) := by decide +kernel
theorem dX11_guest_88 : decode cX11_guest 88 = .ok (.getfield 61, 3) := by decide +kernel
theorem dX11_guest_91 : decode cX11_guest 91 = .ok (.iload 6, 2) := by decide +kernel
theorem dX11_guest_93 : decode cX11_guest 93 = .ok (.iload_n 1, 1) := by decide +kernel
theorem dX11_guest_94 : decode cX11_guest 94 = .ok (.iastore, 1) := by decide +kernel
theorem dX11_guest_95 : decode cX11_guest 95 = .ok (.aload_n 0, 1) := by decide +kernel
theorem dX11_guest_96 : decode cX11_guest 96 = .ok (.getfield 64, 3) := by decide +kernel
theorem dX11_guest_99 : decode cX11_guest 99 = .ok (.iload 6, 2) := by decide +kernel
theorem dX11_guest_101 : decode cX11_guest 101 = .ok (.iload_n 2, 1) := by decide +kernel
theorem dX11_guest_102 : decode cX11_guest 102 = .ok (.iastore, 1) := by decide +kernel
theorem dX11_guest_103 : decode cX11_guest 103 = .ok (.aload_n 0, 1) := by decide +kernel
theorem dX11_guest_104 : decode cX11_guest 104 = .ok (.getfield 67, 3) := by decide +kernel
theorem dX11_guest_107 : decode cX11_guest 107 = .ok (.iload 6, 2) := by decide +kernel
theorem dX11_guest_109 : decode cX11_guest 109 = .ok (.iload_n 3, 1) := by decide +kernel
theorem dX11_guest_110 : decode cX11_guest 110 = .ok (.iastore, 1) := by decide +kernel
theorem dX11_guest_111 : decode cX11_guest 111 = .ok (.aload_n 0, 1) := by decide +kernel
theorem dX11_guest_112 : decode cX11_guest 112 = .ok (.getfield 70, 3) := by decide +kernel
theorem dX11_guest_115 : decode cX11_guest 115 = .ok (.iload 6, 2) := by decide +kernel
theorem dX11_guest_117 : decode cX11_guest 117 = .ok (.iload 4, 2) := by decide +kernel
theorem dX11_guest_119 : decode cX11_guest 119 = .ok (.iastore, 1) := by decide +kernel
theorem dX11_guest_120 : decode cX11_guest 120 = .ok (.aload_n 0, 1) := by decide +kernel
theorem dX11_guest_121 : decode cX11_guest 121 = .ok (.getfield 73, 3) := by decide +kernel
theorem dX11_guest_124 : decode cX11_guest 124 = .ok (.iload 6, 2) := by decide +kernel
theorem dX11_guest_126 : decode cX11_guest 126 = .ok (.iload 5, 2) := by decide +kernel
theorem dX11_guest_128 : decode cX11_guest 128 = .ok (.iastore, 1) := by decide +kernel
theorem dX11_guest_129 : decode cX11_guest 129 = .ok (.iload 6, 2) := by decide +kernel
theorem dX11_guest_131 : decode cX11_guest 131 = .ok (.ireturn, 1) := by decide +kernel
set_option maxRecDepth 20000 in
theorem ggX11_leave_X11_isIn : GoodIn wsX11_leave wsX11_isIn := goodIn_r _ [8] (by decide +kernel) (by decide +kernel)
set_option maxRecDepth 20000 in
theorem gX11_leave_X11_isIn : GoodIn wsX11_leave (va_wsS RX11 136 yX11_isIn wsX11_isIn) := goodIn_app (goodIn_of _ (by decide +kernel)) ggX11_leave_X11_isIn
theorem dX11_leave_0 : decode cX11_leave 0 = .ok (.iload_n 1, 1) := by decide +kernel
theorem dX11_leave_1 : decode cX11_leave 1 = .ok (.iconst 0, 1) := by decide +kernel
theorem dX11_leave_2 : decode cX11_leave 2 = .ok (.aload_n 0, 1) := by decide +kernel
theorem dX11_leave_3 : decode cX11_leave 3 = .ok (.getfield 233, 3) := by decide +kernel
theorem dX11_leave_6 : decode cX11_leave 6 = .ok (.iconst 1, 1) := by decide +kernel
theorem dX11_leave_7 : decode cX11_leave 7 = .ok (.isub, 1) := by decide +kernel
theorem dX11_leave_8 : decode cX11_leave 8 = .ok (.invokestatic 136, 3) := by decide +kernel
theorem dX11_leave_11 : decode cX11_leave 11 = .ok (.ifCond .eq 31, 3) := by decide +kernel
theorem dX11_leave_14 : decode cX11_leave 14 = .ok (.iload_n 2, 1) := by decide +kernel
theorem dX11_leave_15 : decode cX11_leave 15 = .ok (.aload_n 0, 1) := by decide +kernel
theorem dX11_leave_16 : decode cX11_leave 16 = .ok (.getfield 230, 3) := by decide +kernel
theorem dX11_leave_19 : decode cX11_leave 19 = .ok (.if_icmp .lt 23, 3) := by decide +kernel
theorem dX11_leave_22 : decode cX11_leave 22 = .ok (.iload_n 2, 1) := by decide +kernel
theorem dX11_leave_23 : decode cX11_leave 23 = .ok (.aload_n 0, 1) := by decide +kernel
theorem dX11_leave_24 : decode cX11_leave 24 = .ok (.getfield 67, 3) := by decide +kernel
theorem dX11_leave_27 : decode cX11_leave 27 = .ok (.iload_n 1, 1) := by decide +kernel
theorem dX11_leave_28 : decode cX11_leave 28 = .ok (.iaload, 1) := by decide +kernel
theorem dX11_leave_29 : decode cX11_leave 29 = .ok (.if_icmp .le 13, 3) := by decide +kernel
theorem dX11_leave_32 : decode cX11_leave 32 = .ok (.iload_n 2, 1) := by decide +kernel
theorem dX11_leave_33 : decode cX11_leave 33 = .ok (.aload_n 0, 1) := by decide +kernel
theorem dX11_leave_34 : decode cX11_leave 34 = .ok (.getfield 70, 3) := by decide +kernel
theorem dX11_leave_37 : decode cX11_leave 37 = .ok (.iload_n 1, 1) := by decide +kernel
theorem dX11_leave_38 : decode cX11_leave 38 = .ok (.iaload, 1) := by decide +kernel
theorem dX11_leave_39 : decode cX11_leave 39 = .ok (.if_icmp .le 5, 3) := by decide +kernel
theorem dX11_leave_42 : decode cX11_leave 42 = .ok (.iconst 0, 1) := by decide +kernel
theorem dX11_leave_43 : decode cX11_leave 43 = .ok (.ireturn, 1) := by decide +kernel
theorem dX11_leave_44 : decode cX11_leave 44 = .ok (.aload_n 0, 1) := by decide +kernel
theorem dX11_leave_45 : decode cX11_leave 45 = .ok (.getfield 70, 3) := by decide +kernel
theorem dX11_leave_48 : decode cX11_leave 48 = .ok (.iload_n 1, 1) := by decide +kernel
theorem dX11_leave_49 : decode cX11_leave 49 = .ok (.iload_n 2, 1) := by decide +kernel
theorem dX11_leave_50 : decode cX11_leave 50 = .ok (.iastore, 1) := by decide +kernel
theorem dX11_leave_51 : decode cX11_leave 51 = .ok (.iconst 1, 1) := by decide +kernel
theorem dX11_leave_52 : decode cX11_leave 52 = .ok (.ireturn, 1) := by decide +kernel
set_option maxRecDepth 20000 in
theorem ggX11_isHere_X11_isIn : GoodIn wsX11_isHere wsX11_isIn := goodIn_r _ [7] (by decide +kernel) (by decide +kernel)
set_option maxRecDepth 20000 in
theorem gX11_isHere_X11_isIn : GoodIn wsX11_isHere (va_wsS RX11 136 yX11_isIn wsX11_isIn) := goodIn_app (goodIn_of _ (by decide +kernel)) ggX11_isHere_X11_isIn
theorem dX11_isHere_0 : decode cX11_isHere 0 = .ok (.iload_n 1, 1) := by decide +kernel
theorem dX11_isHere_1 : decode cX11_isHere 1 = .ok (.iconst 0, 1) := by decide +kernel
theorem dX11_isHere_2 : decode cX11_isHere 2 = .ok (.aload_n 0, 1) := by decide +kernel
theorem dX11_isHere_3 : decode cX11_isHere 3 = .ok (.getfield 233, 3) := by decide +kernel
theorem dX11_isHere_6 : decode cX11_isHere 6 = .ok (.iconst 1, 1) := by decide +kernel
theorem dX11_isHere_7 : decode cX11_isHere 7 = .ok (.isub, 1) := by decide +kernel
theorem dX11_isHere_8 : decode cX11_isHere 8 = .ok (.invokestatic 136, 3) := by decide +kernel
theorem dX11_isHere_11 : decode cX11_isHere 11 = .ok (.ifCond .eq 27, 3) := by decide +kernel
theorem dX11_isHere_14 : decode cX11_isHere 14 = .ok (.iload_n 2, 1) := by decide +kernel
theorem dX11_isHere_15 : decode cX11_isHere 15 = .ok (.aload_n 0, 1) := by decide +kernel
theorem dX11_isHere_16 : decode cX11_isHere 16 = .ok (.getfield 67, 3) := by decide +kernel
theorem dX11_isHere_19 : decode cX11_isHere 19 = .ok (.iload_n 1, 1) := by decide +kernel
theorem dX11_isHere_20 : decode cX11_isHere 20 = .ok (.iaload, 1) := by decide +kernel
theorem dX11_isHere_21 : decode cX11_isHere 21 = .ok (.if_icmp .lt 17, 3) := by decide +kernel
theorem dX11_isHere_24 : decode cX11_isHere 24 = .ok (.iload_n 2, 1) := by decide +kernel
theorem dX11_isHere_25 : decode cX11_isHere 25 = .ok (.aload_n 0, 1) := by decide +kernel
theorem dX11_isHere_26 : decode cX11_isHere 26 = .ok (.getfield 70, 3) := by decide +kernel
theorem dX11_isHere_29 : decode cX11_isHere 29 = .ok (.iload_n 1, 1) := by decide +kernel
theorem dX11_isHere_30 : decode cX11_isHere 30 = .ok (.iaload, 1) := by decide +kernel
theorem dX11_isHere_31 : decode cX11_isHere 31 = .ok (.if_icmp .ge 7, 3) := by decide +kernel
theorem dX11_isHere_34 : decode cX11_isHere 34 = .ok (.iconst 1, 1) := by decide +kernel
theorem dX11_isHere_35 : decode cX11_isHere 35 = .ok (.goto 4, 3) := by decide +kernel
theorem dX11_isHere_38 : decode cX11_isHere 38 = .ok (.iconst 0, 1) := by decide +kernel
theorem dX11_isHere_39 : decode cX11_isHere 39 = .ok (.ireturn, 1) := by decide +kernel
set_option maxRecDepth 20000 in
theorem ggX11_here_X11_isHere : GoodIn wsX11_here wsX11_isHere := goodIn_r _ [6, 1, 7, 8, 9, 10, 5, 11, 12, 13, 14, 15, 16, 17, 18, 19, 20, 21, 22, 23, 24, 25, 26, 27, 28, 29, 30, 31, 32, 33, 34, 35, 36, 37, 38, 39, 40, 41, 42, 43, 44, 45, 46, 47, 48, 49, 50, 51, 52, 53, 54, 55, 56, 57, 58, 59, 60, 61, 62, 63, 64, 65, 66, 67, 68, 69, 70, 71, 72] (by decide +kernel) (by decide +kernel)
set_option maxRecDepth 20000 in
theorem gX11_here_X11_isHere : GoodIn wsX11_here (wsV RX11 236 RX11 yX11_isHere wsX11_isHere) := goodIn_app (goodIn_of _ (by decide +kernel)) ggX11_here_X11_isHere
theorem dX11_here_0 : decode cX11_here 0 = .ok (.iconst 0, 1) := by decide +kernel
theorem dX11_here_1 : decode cX11_here 1 = .ok (.istore_n 2, 1) := by decide +kernel
theorem dX11_here_2 : decode cX11_here 2 = .ok (.iconst 0, 1) := by decide +kernel
theorem dX11_here_3 : decode cX11_here 3 = .ok (.istore_n 3, 1) := by decide +kernel
theorem dX11_here_4 : decode cX11_here 4 = .ok (.iload_n 3, 1) := by decide +kernel
theorem dX11_here_5 : decode cX11_here 5 = .ok (.aload_n 0, 1) := by decide +kernel
theorem dX11_here_6 : decode cX11_here 6 = .ok (.getfield 233, 3) := by decide +kernel
theorem dX11_here_9 : decode cX11_here 9 = .ok (.if_icmp .ge 26, 3) := by decide +kernel
theorem dX11_here_12 : decode cX11_here 12 = .ok (.iload_n 2, 1) := by decide +kernel
theorem dX11_here_13 : decode cX11_here 13 = .ok (.aload_n 0, 1) := by decide +kernel
theorem dX11_here_14 : decode cX11_here 14 = .ok (.iload_n 3, 1) := by decide +kernel
theorem dX11_here_15 : decode cX11_here 15 = .ok (.iload_n 1, 1) := by decide +kernel
theorem dX11_here_16 : decode cX11_here 16 = .ok (.invokevirtual 236, 3) := by decide +kernel
theorem dX11_here_19 : decode cX11_here 19 = .ok (.ifCond .eq 7, 3) := by decide +kernel
theorem dX11_here_22 : decode cX11_here 22 = .ok (.iconst 1, 1) := by decide +kernel
theorem dX11_here_23 : decode cX11_here 23 = .ok (.goto 4, 3) := by decide +kernel
theorem dX11_here_26 : decode cX11_here 26 = .ok (.iconst 0, 1) := by decide +kernel
theorem dX11_here_27 : decode cX11_here 27 = .ok (.iadd, 1) := by decide +kernel
theorem dX11_here_28 : decode cX11_here 28 = .ok (.istore_n 2, 1) := by decide +kernel
theorem dX11_here_29 : decode cX11_here 29 = .ok (.iinc 3 1, 3) := by decide +kernel
theorem dX11_here_32 : decode cX11_here 32 = .ok (.goto (-28), 3) := by decide +kernel
theorem dX11_here_35 : decode cX11_here 35 = .ok (.iload_n 2, 1) := by decide +kernel
theorem dX11_here_36 : decode cX11_here 36 = .ok (.ireturn, 1) := by decide +kernel
theorem dX11_clear_0 : decode cX11_clear 0 = .ok (.iconst 0, 1) := by decide +kernel
theorem dX11_clear_1 : decode cX11_clear 1 = .ok (.istore_n 1, 1) := by decide +kernel
theorem dX11_clear_2 : decode cX11_clear 2 = .ok (.iload_n 1, 1) := by decide +kernel
theorem dX11_clear_3 : decode cX11_clear 3 = .ok (.sipush 192, 3) := by decide +kernel
theorem dX11_clear_6 : decode cX11_clear 6 = .ok (.if_icmp .ge 16, 3) := by decide +kernel
theorem dX11_clear_9 : decode cX11_clear 9 = .ok (.aload_n 0, 1) := by decide +kernel
theorem dX11_clear_10 : decode cX11_clear 10 = .ok (.getfield 88, 3) := by decide +kernel
theorem dX11_clear_13 : decode cX11_clear 13 = .ok (.iload_n 1, 1) := by decide +kernel
theorem dX11_clear_14 : decode cX11_clear 14 = .ok (.iconst 0, 1) := by decide +kernel
theorem dX11_clear_15 : decode cX11_clear 15 = .ok (.iastore, 1) := by decide +kernel
theorem dX11_clear_16 : decode cX11_clear 16 = .ok (.iinc 1 1, 3) := by decide +kernel
theorem dX11_clear_19 : decode cX11_clear 19 = .ok (.goto (-17), 3) := by decide +kernel
theorem dX11_clear_22 : decode cX11_clear 22 = .ok (.iconst 0, 1) := by decide +kernel
theorem dX11_clear_23 : decode cX11_clear 23 = .ok (.istore_n 1, 1) := by decide +kernel
theorem dX11_clear_24 : decode cX11_clear 24 = .ok (.iload_n 1, 1) := by decide +kernel
theorem dX11_clear_25 : decode cX11_clear 25 = .ok (.sipush 288, 3) := by decide +kernel
theorem dX11_clear_28 : decode cX11_clear 28 = .ok (.if_icmp .ge 16, 3) := by decide +kernel
theorem dX11_clear_31 : decode cX11_clear 31 = .ok (.aload_n 0, 1) := by decide +kernel
theorem dX11_clear_32 : decode cX11_clear 32 = .ok (.getfield 106, 3) := by decide +kernel
theorem dX11_clear_35 : decode cX11_clear 35 = .ok (.iload_n 1, 1) := by decide +kernel
theorem dX11_clear_36 : decode cX11_clear 36 = .ok (.iconst 0, 1) := by decide +kernel
theorem dX11_clear_37 : decode cX11_clear 37 = .ok (.bastore, 1) := by decide +kernel
theorem dX11_clear_38 : decode cX11_clear 38 = .ok (.iinc 1 1, 3) := by decide +kernel
theorem dX11_clear_41 : decode cX11_clear 41 = .ok (.goto (-17), 3) := by decide +kernel
theorem dX11_clear_44 : decode cX11_clear 44 = .ok (.return_, 1) := by decide +kernel
theorem dX11_hasGlass_0 : decode cX11_hasGlass 0 = .ok (.iload_n 2, 1) := by decide +kernel
theorem dX11_hasGlass_1 : decode cX11_hasGlass 1 = .ok (.aload_n 0, 1) := by decide +kernel
theorem dX11_hasGlass_2 : decode cX11_hasGlass 2 = .ok (.getfield 13, 3) := by decide +kernel
theorem dX11_hasGlass_5 : decode cX11_hasGlass 5 = .ok (.iload_n 1, 1) := by decide +kernel
theorem dX11_hasGlass_6 : decode cX11_hasGlass 6 = .ok (.iaload, 1) := by decide +kernel
theorem dX11_hasGlass_7 : decode cX11_hasGlass 7 = .ok (.if_icmp .lt 37, 3) := by decide +kernel
theorem dX11_hasGlass_10 : decode cX11_hasGlass 10 = .ok (.iload_n 2, 1) := by decide +kernel
theorem dX11_hasGlass_11 : decode cX11_hasGlass 11 = .ok (.aload_n 0, 1) := by decide +kernel
theorem dX11_hasGlass_12 : decode cX11_hasGlass 12 = .ok (.getfield 16, 3) := by decide +kernel
theorem dX11_hasGlass_15 : decode cX11_hasGlass 15 = .ok (.iload_n 1, 1) := by decide +kernel
theorem dX11_hasGlass_16 : decode cX11_hasGlass 16 = .ok (.iaload, 1) := by decide +kernel
theorem dX11_hasGlass_17 : decode cX11_hasGlass 17 = .ok (.if_icmp .ge 27, 3) := by decide +kernel
theorem dX11_hasGlass_20 : decode cX11_hasGlass 20 = .ok (.aload_n 0, 1) := by decide +kernel
theorem dX11_hasGlass_21 : decode cX11_hasGlass 21 = .ok (.getfield 88, 3) := by decide +kernel
theorem dX11_hasGlass_24 : decode cX11_hasGlass 24 = .ok (.bipush 48, 2) := by decide +kernel
theorem dX11_hasGlass_26 : decode cX11_hasGlass 26 = .ok (.iload_n 1, 1) := by decide +kernel
theorem dX11_hasGlass_27 : decode cX11_hasGlass 27 = .ok (.imul, 1) := by decide +kernel
theorem dX11_hasGlass_28 : decode cX11_hasGlass 28 = .ok (.iload_n 2, 1) := by decide +kernel
theorem dX11_hasGlass_29 : decode cX11_hasGlass 29 = .ok (.iadd, 1) := by decide +kernel
theorem dX11_hasGlass_30 : decode cX11_hasGlass 30 = .ok (.iaload, 1) := by decide +kernel
theorem dX11_hasGlass_31 : decode cX11_hasGlass 31 = .ok (.aload_n 0, 1) := by decide +kernel
theorem dX11_hasGlass_32 : decode cX11_hasGlass 32 = .ok (.getfield 7, 3) := by decide +kernel
theorem dX11_hasGlass_35 : decode cX11_hasGlass 35 = .ok (.iload_n 1, 1) := by decide +kernel
theorem dX11_hasGlass_36 : decode cX11_hasGlass 36 = .ok (.iaload, 1) := by decide +kernel
theorem dX11_hasGlass_37 : decode cX11_hasGlass 37 = .ok (.if_icmp .ge 7, 3) := by decide +kernel
theorem dX11_hasGlass_40 : decode cX11_hasGlass 40 = .ok (.iconst 1, 1) := by decide +kernel
theorem dX11_hasGlass_41 : decode cX11_hasGlass 41 = .ok (.goto 4, 3) := by decide +kernel
theorem dX11_hasGlass_44 : decode cX11_hasGlass 44 = .ok (.iconst 0, 1) := by decide +kernel
theorem dX11_hasGlass_45 : decode cX11_hasGlass 45 = .ok (.ireturn, 1) := by decide +kernel
theorem dX11_isFree_0 : decode cX11_isFree 0 = .ok (.aload_n 0, 1) := by decide +kernel
theorem dX11_isFree_1 : decode cX11_isFree 1 = .ok (.getfield 28, 3) := by decide +kernel
theorem dX11_isFree_4 : decode cX11_isFree 4 = .ok (.iload_n 1, 1) := by decide +kernel
theorem dX11_isFree_5 : decode cX11_isFree 5 = .ok (.baload, 1) := by decide +kernel
theorem dX11_isFree_6 : decode cX11_isFree 6 = .ok (.ifCond .eq 17, 3) := by decide +kernel
theorem dX11_isFree_9 : decode cX11_isFree 9 = .ok (.aload_n 0, 1) := by decide +kernel
theorem dX11_isFree_10 : decode cX11_isFree 10 = .ok (.getfield 22, 3) := by decide +kernel
theorem dX11_isFree_13 : decode cX11_isFree 13 = .ok (.iload_n 1, 1) := by decide +kernel
theorem dX11_isFree_14 : decode cX11_isFree 14 = .ok (.iaload, 1) := by decide +kernel
theorem dX11_isFree_15 : decode cX11_isFree 15 = .ok (.iload_n 2, 1) := by decide +kernel
theorem dX11_isFree_16 : decode cX11_isFree 16 = .ok (.if_icmp .ne 7, 3) := by decide +kernel
theorem dX11_isFree_19 : decode cX11_isFree 19 = .ok (.iconst 1, 1) := by decide +kernel
theorem dX11_isFree_20 : decode cX11_isFree 20 = .ok (.goto 4, 3) := by decide +kernel
theorem dX11_isFree_23 : decode cX11_isFree 23 = .ok (.iconst 0, 1) := by decide +kernel
theorem dX11_isFree_24 : decode cX11_isFree 24 = .ok (.istore 5, 2) := by decide +kernel
theorem dX11_isFree_26 : decode cX11_isFree 26 = .ok (.iload_n 3, 1) := by decide +kernel
theorem dX11_isFree_27 : decode cX11_isFree 27 = .ok (.istore 6, 2) := by decide +kernel
theorem dX11_isFree_29 : decode cX11_isFree 29 = .ok (.iload 6, 2) := by decide +kernel
theorem dX11_isFree_31 : decode cX11_isFree 31 = .ok (.iload_n 3, 1) := by decide +kernel
theorem dX11_isFree_32 : decode cX11_isFree 32 = .ok (.iload 4, 2) := by decide +kernel
theorem dX11_isFree_34 : decode cX11_isFree 34 = .ok (.iadd, 1) := by decide +kernel
theorem dX11_isFree_35 : decode cX11_isFree 35 = .ok (.if_icmp .ge 36, 3) := by decide +kernel
theorem dX11_isFree_38 : decode cX11_isFree 38 = .ok (.iload 5, 2) := by decide +kernel
theorem dX11_isFree_40 : decode cX11_isFree 40 = .ok (.ifCond .eq 31, 3) := by decide +kernel
theorem dX11_isFree_43 : decode cX11_isFree 43 = .ok (.aload_n 0, 1) := by decide +kernel
theorem dX11_isFree_44 : decode cX11_isFree 44 = .ok (.getfield 106, 3) := by decide +kernel
theorem dX11_isFree_47 : decode cX11_isFree 47 = .ok (.bipush 48, 2) := by decide +kernel
theorem dX11_isFree_49 : decode cX11_isFree 49 = .ok (.iload_n 1, 1) := by decide +kernel
theorem dX11_isFree_50 : decode cX11_isFree 50 = .ok (.imul, 1) := by decide +kernel
theorem dX11_isFree_51 : decode cX11_isFree 51 = .ok (.iload 6, 2) := by decide +kernel
theorem dX11_isFree_53 : decode cX11_isFree 53 = .ok (.iadd, 1) := by decide +kernel
theorem dX11_isFree_54 : decode cX11_isFree 54 = .ok (.baload, 1) := by decide +kernel
theorem dX11_isFree_55 : decode cX11_isFree 55 = .ok (.ifCond .ne 7, 3) := by decide +kernel
theorem dX11_isFree_58 : decode cX11_isFree 58 = .ok (.iconst 1, 1) := by decide +kernel
theorem dX11_isFree_59 : decode cX11_isFree 59 = .ok (.goto 4, 3) := by decide +kernel
theorem dX11_isFree_62 : decode cX11_isFree 62 = .ok (.iconst 0, 1) := by decide +kernel
theorem dX11_isFree_63 : decode cX11_isFree 63 = .ok (.istore 5, 2) := by decide +kernel
theorem dX11_isFree_65 : decode cX11_isFree 65 = .ok (.iinc 6 1, 3) := by decide +kernel
theorem dX11_isFree_68 : decode cX11_isFree 68 = .ok (.goto (-39), 3) := by decide +kernel
theorem dX11_isFree_71 : decode cX11_isFree 71 = .ok (.iload 5, 2) := by decide +kernel
theorem dX11_isFree_73 : decode cX11_isFree 73 = .ok (.ireturn, 1) := by decide +kernel
theorem dX11_does_0 : decode cX11_does 0 = .ok (.bipush 30, 2) := by decide +kernel
theorem dX11_does_2 : decode cX11_does 2 = .ok (.iload_n 1, 1) := by decide +kernel
theorem dX11_does_3 : decode cX11_does 3 = .ok (.imul, 1) := by decide +kernel
theorem dX11_does_4 : decode cX11_does 4 = .ok (.aload_n 0, 1) := by decide +kernel
theorem dX11_does_5 : decode cX11_does 5 = .ok (.getfield 94, 3) := by decide +kernel
theorem dX11_does_8 : decode cX11_does 8 = .ok (.iload_n 1, 1) := by decide +kernel
theorem dX11_does_9 : decode cX11_does 9 = .ok (.iaload, 1) := by decide +kernel
theorem dX11_does_10 : decode cX11_does 10 = .ok (.iadd, 1) := by decide +kernel
theorem dX11_does_11 : decode cX11_does 11 = .ok (.istore 6, 2) := by decide +kernel
theorem dX11_does_13 : decode cX11_does 13 = .ok (.aload_n 0, 1) := by decide +kernel
theorem dX11_does_14 : decode cX11_does 14 = .ok (.getfield 109, 3) := by decide +kernel
theorem dX11_does_17 : decode cX11_does 17 = .ok (.iload 6, 2) := by decide +kernel
theorem dX11_does_19 : decode cX11_does 19 = .ok (.iload_n 3, 1) := by decide +kernel
theorem dX11_does_20 : decode cX11_does 20 = .ok (.iastore, 1) := by decide +kernel
theorem dX11_does_21 : decode cX11_does 21 = .ok (.aload_n 0, 1) := by decide +kernel
theorem dX11_does_22 : decode cX11_does 22 = .ok (.getfield 112, 3) := by decide +kernel
theorem dX11_does_25 : decode cX11_does 25 = .ok (.iload 6, 2) := by decide +kernel
theorem dX11_does_27 : decode cX11_does 27 = .ok (.iload 5, 2) := by decide +kernel
theorem dX11_does_29 : decode cX11_does 29 = .ok (.iastore, 1) := by decide +kernel
theorem dX11_does_30 : decode cX11_does 30 = .ok (.aload_n 0, 1) := by decide +kernel
theorem dX11_does_31 : decode cX11_does 31 = .ok (.getfield 115, 3) := by decide +kernel
theorem dX11_does_34 : decode cX11_does 34 = .ok (.iload 6, 2) := by decide +kernel
theorem dX11_does_36 : decode cX11_does 36 = .ok (.iload_n 2, 1) := by decide +kernel
theorem dX11_does_37 : decode cX11_does 37 = .ok (.iastore, 1) := by decide +kernel
theorem dX11_does_38 : decode cX11_does 38 = .ok (.aload_n 0, 1) := by decide +kernel
theorem dX11_does_39 : decode cX11_does 39 = .ok (.getfield 94, 3) := by decide +kernel
theorem dX11_does_42 : decode cX11_does 42 = .ok (.iload_n 1, 1) := by decide +kernel
theorem dX11_does_43 : decode cX11_does 43 = .ok (.dup2, 1) := by decide +kernel
theorem dX11_does_44 : decode cX11_does 44 = .ok (.iaload, 1) := by decide +kernel
theorem dX11_does_45 : decode cX11_does 45 = .ok (.iconst 1, 1) := by decide +kernel
theorem dX11_does_46 : decode cX11_does 46 = .ok (.iadd, 1) := by decide +kernel
theorem dX11_does_47 : decode cX11_does 47 = .ok (.iastore, 1) := by decide +kernel
theorem dX11_does_48 : decode cX11_does 48 = .ok (.aload_n 0, 1) := by decide +kernel
theorem dX11_does_49 : decode cX11_does 49 = .ok (.iload_n 3, 1) := by decide +kernel
theorem dX11_does_50 : decode cX11_does 50 = .ok (.iload 4, 2) := by decide +kernel
theorem dX11_does_52 : decode cX11_does 52 = .ok (.iadd, 1) := by decide +kernel
theorem dX11_does_53 : decode cX11_does 53 = .ok (.putfield 239, 3) := by decide +kernel
theorem dX11_does_56 : decode cX11_does 56 = .ok (.aload_n 0, 1) := by decide +kernel
theorem dX11_does_57 : decode cX11_does 57 = .ok (.getfield 97, 3) := by decide +kernel
theorem dX11_does_60 : decode cX11_does 60 = .ok (.iload_n 1, 1) := by decide +kernel
theorem dX11_does_61 : decode cX11_does 61 = .ok (.aload_n 0, 1) := by decide +kernel
theorem dX11_does_62 : decode cX11_does 62 = .ok (.getfield 239, 3) := by decide +kernel
theorem dX11_does_65 : decode cX11_does 65 = .ok (.iastore, 1) := by decide +kernel
theorem dX11_does_66 : decode cX11_does 66 = .ok (.return_, 1) := by decide +kernel
set_option maxRecDepth 20000 in
theorem ggX11_drinks_X11_hasGlass : GoodIn wsX11_drinks wsX11_hasGlass := goodIn_r _ [8, 9, 10, 2, 11, 21, 22, 23, 24, 25, 26, 27, 28, 29, 30, 31, 32, 33, 34, 35, 36, 37, 38, 39, 40, 41, 42, 43, 44, 45, 46, 47, 48, 49, 50, 51, 52, 53, 54, 55, 56, 57, 58, 59, 60, 61, 62, 63, 64, 65, 66, 67, 68, 69, 70, 71, 72, 73, 74, 75, 76, 77, 78, 79, 80, 81] (by decide +kernel) (by decide +kernel)
set_option maxRecDepth 20000 in
theorem gX11_drinks_X11_hasGlass : GoodIn wsX11_drinks (wsV RX11 242 RX11 yX11_hasGlass wsX11_hasGlass) := goodIn_app (goodIn_of _ (by decide +kernel)) ggX11_drinks_X11_hasGlass
set_option maxRecDepth 20000 in
theorem ggX11_drinks_X11_does : GoodIn wsX11_drinks wsX11_does := goodIn_r _ [15, 16, 17, 18, 19, 1, 20, 21, 22, 23, 24, 25, 26, 27, 28, 29, 30, 31, 32, 33, 34, 35, 36, 37, 38, 39, 40, 41, 42, 43, 44, 45, 46, 47, 48, 49, 50, 51, 52, 53, 54, 55, 56, 57, 58, 59, 60, 61, 62, 63, 64, 65, 66, 67, 68, 69, 70, 71, 72, 73, 74, 75, 76, 77, 78, 79, 80, 81] (by decide +kernel) (by decide +kernel)
set_option maxRecDepth 20000 in
theorem gX11_drinks_X11_does : GoodIn wsX11_drinks (wsV RX11 245 RX11 yX11_does wsX11_does) := goodIn_app (goodIn_of _ (by decide +kernel)) ggX11_drinks_X11_does
theorem dX11_drinks_0 : decode cX11_drinks 0 = .ok (.aload_n 0, 1) := by decide +kernel
theorem dX11_drinks_1 : decode cX11_drinks 1 = .ok (.getfield 239, 3) := by decide +kernel
theorem dX11_drinks_4 : decode cX11_drinks 4 = .ok (.istore_n 3, 1) := by decide +kernel
theorem dX11_drinks_5 : decode cX11_drinks 5 = .ok (.iload_n 3, 1) := by decide +kernel
theorem dX11_drinks_6 : decode cX11_drinks 6 = .ok (.bipush 48, 2) := by decide +kernel
theorem dX11_drinks_8 : decode cX11_drinks 8 = .ok (.if_icmp .ge 18, 3) := by decide +kernel
theorem dX11_drinks_11 : decode cX11_drinks 11 = .ok (.aload_n 0, 1) := by decide +kernel
theorem dX11_drinks_12 : decode cX11_drinks 12 = .ok (.iload_n 2, 1) := by decide +kernel
theorem dX11_drinks_13 : decode cX11_drinks 13 = .ok (.iload_n 3, 1) := by decide +kernel
theorem dX11_drinks_14 : decode cX11_drinks 14 = .ok (.invokevirtual 242, 3) := by decide +kernel
theorem dX11_drinks_17 : decode cX11_drinks 17 = .ok (.ifCond .ne 9, 3) := by decide +kernel
theorem dX11_drinks_20 : decode cX11_drinks 20 = .ok (.iinc 3 1, 3) := by decide +kernel
theorem dX11_drinks_23 : decode cX11_drinks 23 = .ok (.goto (-18), 3) := by decide +kernel
theorem dX11_drinks_26 : decode cX11_drinks 26 = .ok (.iload_n 3, 1) := by decide +kernel
theorem dX11_drinks_27 : decode cX11_drinks 27 = .ok (.bipush 48, 2) := by decide +kernel
theorem dX11_drinks_29 : decode cX11_drinks 29 = .ok (.if_icmp .ne 5, 3) := by decide +kernel
theorem dX11_drinks_32 : decode cX11_drinks 32 = .ok (.iconst 0, 1) := by decide +kernel
theorem dX11_drinks_33 : decode cX11_drinks 33 = .ok (.ireturn, 1) := by decide +kernel
theorem dX11_drinks_34 : decode cX11_drinks 34 = .ok (.aload_n 0, 1) := by decide +kernel
theorem dX11_drinks_35 : decode cX11_drinks 35 = .ok (.getfield 88, 3) := by decide +kernel
theorem dX11_drinks_38 : decode cX11_drinks 38 = .ok (.bipush 48, 2) := by decide +kernel
theorem dX11_drinks_40 : decode cX11_drinks 40 = .ok (.iload_n 2, 1) := by decide +kernel
theorem dX11_drinks_41 : decode cX11_drinks 41 = .ok (.imul, 1) := by decide +kernel
theorem dX11_drinks_42 : decode cX11_drinks 42 = .ok (.iload_n 3, 1) := by decide +kernel
theorem dX11_drinks_43 : decode cX11_drinks 43 = .ok (.iadd, 1) := by decide +kernel
theorem dX11_drinks_44 : decode cX11_drinks 44 = .ok (.dup2, 1) := by decide +kernel
theorem dX11_drinks_45 : decode cX11_drinks 45 = .ok (.iaload, 1) := by decide +kernel
theorem dX11_drinks_46 : decode cX11_drinks 46 = .ok (.iconst 1, 1) := by decide +kernel
theorem dX11_drinks_47 : decode cX11_drinks 47 = .ok (.iadd, 1) := by decide +kernel
theorem dX11_drinks_48 : decode cX11_drinks 48 = .ok (.iastore, 1) := by decide +kernel
theorem dX11_drinks_49 : decode cX11_drinks 49 = .ok (.aload_n 0, 1) := by decide +kernel
theorem dX11_drinks_50 : decode cX11_drinks 50 = .ok (.getfield 100, 3) := by decide +kernel
theorem dX11_drinks_53 : decode cX11_drinks 53 = .ok (.iload_n 1, 1) := by decide +kernel
theorem dX11_drinks_54 : decode cX11_drinks 54 = .ok (.dup2, 1) := by decide +kernel
theorem dX11_drinks_55 : decode cX11_drinks 55 = .ok (.iaload, 1) := by decide +kernel
theorem dX11_drinks_56 : decode cX11_drinks 56 = .ok (.iconst 1, 1) := by decide +kernel
theorem dX11_drinks_57 : decode cX11_drinks 57 = .ok (.iadd, 1) := by decide +kernel
theorem dX11_drinks_58 : decode cX11_drinks 58 = .ok (.iastore, 1) := by decide +kernel
theorem dX11_drinks_59 : decode cX11_drinks 59 = .ok (.aload_n 0, 1) := by decide +kernel
theorem dX11_drinks_60 : decode cX11_drinks 60 = .ok (.iload_n 1, 1) := by decide +kernel
theorem dX11_drinks_61 : decode cX11_drinks 61 = .ok (.iconst 0, 1) := by decide +kernel
theorem dX11_drinks_62 : decode cX11_drinks 62 = .ok (.iload_n 3, 1) := by decide +kernel
theorem dX11_drinks_63 : decode cX11_drinks 63 = .ok (.iconst 1, 1) := by decide +kernel
theorem dX11_drinks_64 : decode cX11_drinks 64 = .ok (.iconst (-1), 1) := by decide +kernel
theorem dX11_drinks_65 : decode cX11_drinks 65 = .ok (.invokevirtual 245, 3) := by decide +kernel
theorem dX11_drinks_68 : decode cX11_drinks 68 = .ok (.iconst 1, 1) := by decide +kernel
theorem dX11_drinks_69 : decode cX11_drinks 69 = .ok (.ireturn, 1) := by decide +kernel
set_option maxRecDepth 20000 in
theorem ggX11_bathes_X11_isFree : GoodIn wsX11_bathes wsX11_isFree := goodIn_r _ [7, 8, 9, 2, 19, 20, 21, 22, 23, 24, 25, 26, 27, 28, 29, 30, 31, 32, 33, 34, 35, 36, 37, 38, 39, 40, 41, 42, 43, 44, 45, 46, 47, 48, 49, 50, 51, 52, 53, 54, 55, 56, 57, 58, 59, 60, 61, 62, 63, 64, 65, 66, 67, 68, 69, 70, 71, 72, 73, 74, 75, 76, 77, 78, 79] (by decide +kernel) (by decide +kernel)
set_option maxRecDepth 20000 in
theorem gX11_bathes_X11_isFree : GoodIn wsX11_bathes (wsV RX11 249 RX11 yX11_isFree wsX11_isFree) := goodIn_app (goodIn_of _ (by decide +kernel)) ggX11_bathes_X11_isFree
set_option maxRecDepth 20000 in
theorem ggX11_bathes_X11_does : GoodIn wsX11_bathes wsX11_does := goodIn_r _ [13, 14, 15, 16, 17, 1, 18, 19, 20, 21, 22, 23, 24, 25, 26, 27, 28, 29, 30, 31, 32, 33, 34, 35, 36, 37, 38, 39, 40, 41, 42, 43, 44, 45, 46, 47, 48, 49, 50, 51, 52, 53, 54, 55, 56, 57, 58, 59, 60, 61, 62, 63, 64, 65, 66, 67, 68, 69, 70, 71, 72, 73, 74, 75, 76, 77, 78, 79] (by decide +kernel) (by decide +kernel)
set_option maxRecDepth 20000 in
theorem gX11_bathes_X11_does : GoodIn wsX11_bathes (wsV RX11 245 RX11 yX11_does wsX11_does) := goodIn_app (goodIn_of _ (by decide +kernel)) ggX11_bathes_X11_does
theorem dX11_bathes_0 : decode cX11_bathes 0 = .ok (.aload_n 0, 1) := by decide +kernel
theorem dX11_bathes_1 : decode cX11_bathes 1 = .ok (.getfield 239, 3) := by decide +kernel
theorem dX11_bathes_4 : decode cX11_bathes 4 = .ok (.istore 4, 2) := by decide +kernel
theorem dX11_bathes_6 : decode cX11_bathes 6 = .ok (.iload 4, 2) := by decide +kernel
theorem dX11_bathes_8 : decode cX11_bathes 8 = .ok (.iload_n 3, 1) := by decide +kernel
theorem dX11_bathes_9 : decode cX11_bathes 9 = .ok (.iadd, 1) := by decide +kernel
theorem dX11_bathes_10 : decode cX11_bathes 10 = .ok (.bipush 48, 2) := by decide +kernel
