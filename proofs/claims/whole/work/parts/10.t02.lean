set_option maxRecDepth 100000 in
theorem tw_209 : Cond.fieldLink RX10 57 "CureTown$Spring" "from" "I" ∈ lw_tbl := List.mem_of_getElem? (i := 209) (by decide +kernel)
set_option maxRecDepth 100000 in
theorem tw_210 : Cond.fieldLink RX3 159 "CureTown$Spring" "from" "I" ∈ lw_tbl := List.mem_of_getElem? (i := 210) (by decide +kernel)
set_option maxRecDepth 100000 in
theorem tw_211 : Cond.fieldLink RX7 18 "CureTown$Spring" "until" "I" ∈ lw_tbl := List.mem_of_getElem? (i := 211) (by decide +kernel)
set_option maxRecDepth 100000 in
theorem tw_212 : Cond.fieldLink RX10 60 "CureTown$Spring" "until" "I" ∈ lw_tbl := List.mem_of_getElem? (i := 212) (by decide +kernel)
set_option maxRecDepth 100000 in
theorem tw_213 : Cond.fieldLink RX3 162 "CureTown$Spring" "until" "I" ∈ lw_tbl := List.mem_of_getElem? (i := 213) (by decide +kernel)
set_option maxRecDepth 100000 in
theorem tw_214 : Cond.fieldLink RX7 21 "CureTown$Spring" "strength" "I" ∈ lw_tbl := List.mem_of_getElem? (i := 214) (by decide +kernel)
set_option maxRecDepth 100000 in
theorem tw_215 : Cond.fieldLink RX10 63 "CureTown$Spring" "strength" "I" ∈ lw_tbl := List.mem_of_getElem? (i := 215) (by decide +kernel)
set_option maxRecDepth 100000 in
theorem tw_216 : Cond.fieldLink RX3 156 "CureTown$Spring" "strength" "I" ∈ lw_tbl := List.mem_of_getElem? (i := 216) (by decide +kernel)
set_option maxRecDepth 100000 in
theorem tw_217 : Cond.fieldLink RX7 24 "CureTown$Spring" "allGiven" "I" ∈ lw_tbl := List.mem_of_getElem? (i := 217) (by decide +kernel)
set_option maxRecDepth 100000 in
theorem tw_218 : Cond.fieldLink RX10 179 "CureTown$Spring" "allGiven" "I" ∈ lw_tbl := List.mem_of_getElem? (i := 218) (by decide +kernel)
set_option maxRecDepth 100000 in
theorem tw_219 : Cond.fieldLink RX7 27 "CureTown$Spring" "allTaken" "I" ∈ lw_tbl := List.mem_of_getElem? (i := 219) (by decide +kernel)
set_option maxRecDepth 100000 in
theorem tw_220 : Cond.fieldLink RX10 182 "CureTown$Spring" "allTaken" "I" ∈ lw_tbl := List.mem_of_getElem? (i := 220) (by decide +kernel)
set_option maxRecDepth 100000 in
theorem tw_221 : Cond.fieldLink RX7 30 "CureTown$Spring" "allFilled" "I" ∈ lw_tbl := List.mem_of_getElem? (i := 221) (by decide +kernel)
set_option maxRecDepth 100000 in
theorem tw_222 : Cond.fieldLink RX10 185 "CureTown$Spring" "allFilled" "I" ∈ lw_tbl := List.mem_of_getElem? (i := 222) (by decide +kernel)
set_option maxRecDepth 100000 in
theorem tw_223 : Cond.fieldLink RX7 33 "CureTown$Spring" "allRunOff" "I" ∈ lw_tbl := List.mem_of_getElem? (i := 223) (by decide +kernel)
set_option maxRecDepth 100000 in
theorem tw_224 : Cond.fieldLink RX10 188 "CureTown$Spring" "allRunOff" "I" ∈ lw_tbl := List.mem_of_getElem? (i := 224) (by decide +kernel)
set_option maxRecDepth 100000 in
theorem tw_225 : Cond.fieldLink RX7 36 "CureTown$Spring" "bottlesOf" "[I" ∈ lw_tbl := List.mem_of_getElem? (i := 225) (by decide +kernel)
set_option maxRecDepth 100000 in
theorem tw_226 : Cond.fieldLink RX9 60 "CureTown$Spring" "bottlesOf" "[I" ∈ lw_tbl := List.mem_of_getElem? (i := 226) (by decide +kernel)
set_option maxRecDepth 100000 in
theorem tw_227 : Cond.fieldLink RX10 191 "CureTown$Spring" "bottlesOf" "[I" ∈ lw_tbl := List.mem_of_getElem? (i := 227) (by decide +kernel)
set_option maxRecDepth 100000 in
theorem tw_247 : Cond.instantiable RX0 2 ∈ lw_tbl := List.mem_of_getElem? (i := 247) (by decide +kernel)
set_option maxRecDepth 100000 in
theorem tw_249 : Cond.instanceMethod yX0_init ∈ lw_tbl := List.mem_of_getElem? (i := 249) (by decide +kernel)
set_option maxRecDepth 100000 in
theorem tw_250 : Cond.code yX0_init cX0_init 1 none ∈ lw_tbl := List.mem_of_getElem? (i := 250) (by decide +kernel)
set_option maxRecDepth 100000 in
theorem tw_251 : Cond.methodLink RX0 1 objectInit ∈ lw_tbl := List.mem_of_getElem? (i := 251) (by decide +kernel)
set_option maxRecDepth 100000 in
theorem tw_252 : Cond.fieldLink RX0 7 "CureTown$Bath" "kind" "I" ∈ lw_tbl := List.mem_of_getElem? (i := 252) (by decide +kernel)
set_option maxRecDepth 100000 in
theorem tw_253 : Cond.fieldLink RX10 70 "CureTown$Bath" "kind" "I" ∈ lw_tbl := List.mem_of_getElem? (i := 253) (by decide +kernel)
set_option maxRecDepth 100000 in
theorem tw_254 : Cond.fieldLink RX3 182 "CureTown$Bath" "kind" "I" ∈ lw_tbl := List.mem_of_getElem? (i := 254) (by decide +kernel)
set_option maxRecDepth 100000 in
theorem tw_255 : Cond.fieldLink RX0 13 "CureTown$Bath" "isOpen" "Z" ∈ lw_tbl := List.mem_of_getElem? (i := 255) (by decide +kernel)
set_option maxRecDepth 100000 in
theorem tw_256 : Cond.fieldLink RX10 75 "CureTown$Bath" "isOpen" "Z" ∈ lw_tbl := List.mem_of_getElem? (i := 256) (by decide +kernel)
set_option maxRecDepth 100000 in
theorem tw_257 : Cond.fieldLink RX3 177 "CureTown$Bath" "isOpen" "Z" ∈ lw_tbl := List.mem_of_getElem? (i := 257) (by decide +kernel)
set_option maxRecDepth 100000 in
theorem tw_263 : Cond.instantiable RX4 9 ∈ lw_tbl := List.mem_of_getElem? (i := 263) (by decide +kernel)
set_option maxRecDepth 100000 in
theorem tw_265 : Cond.instanceMethod yX4_init ∈ lw_tbl := List.mem_of_getElem? (i := 265) (by decide +kernel)
set_option maxRecDepth 100000 in
theorem tw_266 : Cond.code yX4_init cX4_init 1 none ∈ lw_tbl := List.mem_of_getElem? (i := 266) (by decide +kernel)
set_option maxRecDepth 100000 in
theorem tw_267 : Cond.methodLink RX4 1 objectInit ∈ lw_tbl := List.mem_of_getElem? (i := 267) (by decide +kernel)
set_option maxRecDepth 100000 in
theorem tw_268 : Cond.fieldLink RX4 7 "CureTown$Guest" "rank" "I" ∈ lw_tbl := List.mem_of_getElem? (i := 268) (by decide +kernel)
set_option maxRecDepth 100000 in
theorem tw_269 : Cond.fieldLink RX3 40 "CureTown$Guest" "rank" "I" ∈ lw_tbl := List.mem_of_getElem? (i := 269) (by decide +kernel)
set_option maxRecDepth 100000 in
theorem tw_270 : Cond.fieldLink RX10 210 "CureTown$Guest" "rank" "I" ∈ lw_tbl := List.mem_of_getElem? (i := 270) (by decide +kernel)
set_option maxRecDepth 100000 in
theorem tw_271 : Cond.fieldLink RX4 13 "CureTown$Guest" "regimen" "I" ∈ lw_tbl := List.mem_of_getElem? (i := 271) (by decide +kernel)
set_option maxRecDepth 100000 in
theorem tw_272 : Cond.fieldLink RX3 72 "CureTown$Guest" "regimen" "I" ∈ lw_tbl := List.mem_of_getElem? (i := 272) (by decide +kernel)
set_option maxRecDepth 100000 in
theorem tw_273 : Cond.fieldLink RX4 16 "CureTown$Guest" "from" "I" ∈ lw_tbl := List.mem_of_getElem? (i := 273) (by decide +kernel)
set_option maxRecDepth 100000 in
theorem tw_274 : Cond.fieldLink RX9 51 "CureTown$Guest" "from" "I" ∈ lw_tbl := List.mem_of_getElem? (i := 274) (by decide +kernel)
set_option maxRecDepth 100000 in
theorem tw_275 : Cond.fieldLink RX10 126 "CureTown$Guest" "from" "I" ∈ lw_tbl := List.mem_of_getElem? (i := 275) (by decide +kernel)
set_option maxRecDepth 100000 in
theorem tw_276 : Cond.fieldLink RX4 19 "CureTown$Guest" "to" "I" ∈ lw_tbl := List.mem_of_getElem? (i := 276) (by decide +kernel)
set_option maxRecDepth 100000 in
theorem tw_277 : Cond.fieldLink RX9 54 "CureTown$Guest" "to" "I" ∈ lw_tbl := List.mem_of_getElem? (i := 277) (by decide +kernel)
set_option maxRecDepth 100000 in
theorem tw_278 : Cond.fieldLink RX10 127 "CureTown$Guest" "to" "I" ∈ lw_tbl := List.mem_of_getElem? (i := 278) (by decide +kernel)
set_option maxRecDepth 100000 in
theorem tw_279 : Cond.fieldLink RX4 22 "CureTown$Guest" "bound" "I" ∈ lw_tbl := List.mem_of_getElem? (i := 279) (by decide +kernel)
set_option maxRecDepth 100000 in
theorem tw_280 : Cond.fieldLink RX3 98 "CureTown$Guest" "bound" "I" ∈ lw_tbl := List.mem_of_getElem? (i := 280) (by decide +kernel)
set_option maxRecDepth 100000 in
theorem tw_281 : Cond.fieldLink RX4 25 "CureTown$Guest" "nights" "I" ∈ lw_tbl := List.mem_of_getElem? (i := 281) (by decide +kernel)
set_option maxRecDepth 100000 in
theorem tw_282 : Cond.fieldLink RX10 200 "CureTown$Guest" "nights" "I" ∈ lw_tbl := List.mem_of_getElem? (i := 282) (by decide +kernel)
set_option maxRecDepth 100000 in
theorem tw_283 : Cond.fieldLink RX4 28 "CureTown$Guest" "tax" "I" ∈ lw_tbl := List.mem_of_getElem? (i := 283) (by decide +kernel)
set_option maxRecDepth 100000 in
theorem tw_284 : Cond.fieldLink RX10 203 "CureTown$Guest" "tax" "I" ∈ lw_tbl := List.mem_of_getElem? (i := 284) (by decide +kernel)
set_option maxRecDepth 100000 in
theorem tw_285 : Cond.fieldLink RX4 31 "CureTown$Guest" "glasses" "I" ∈ lw_tbl := List.mem_of_getElem? (i := 285) (by decide +kernel)
set_option maxRecDepth 100000 in
theorem tw_286 : Cond.fieldLink RX10 206 "CureTown$Guest" "glasses" "I" ∈ lw_tbl := List.mem_of_getElem? (i := 286) (by decide +kernel)
set_option maxRecDepth 100000 in
theorem tw_287 : Cond.fieldLink RX4 34 "CureTown$Guest" "done" "I" ∈ lw_tbl := List.mem_of_getElem? (i := 287) (by decide +kernel)
set_option maxRecDepth 100000 in
theorem tw_288 : Cond.fieldLink RX10 207 "CureTown$Guest" "done" "I" ∈ lw_tbl := List.mem_of_getElem? (i := 288) (by decide +kernel)
set_option maxRecDepth 100000 in
theorem tw_308 : Cond.fieldLink RX9 11 "CureTown$Town" "springs" "[LCureTown$Spring;" ∈ lw_tbl := List.mem_of_getElem? (i := 308) (by decide +kernel)
set_option maxRecDepth 100000 in
theorem tw_309 : Cond.fieldLink RX10 48 "CureTown$Town" "springs" "[LCureTown$Spring;" ∈ lw_tbl := List.mem_of_getElem? (i := 309) (by decide +kernel)
set_option maxRecDepth 100000 in
theorem tw_310 : Cond.fieldLink RX3 124 "CureTown$Town" "springs" "[LCureTown$Spring;" ∈ lw_tbl := List.mem_of_getElem? (i := 310) (by decide +kernel)
set_option maxRecDepth 100000 in
theorem tw_311 : Cond.fieldLink RX9 19 "CureTown$Town" "baths" "[LCureTown$Bath;" ∈ lw_tbl := List.mem_of_getElem? (i := 311) (by decide +kernel)
set_option maxRecDepth 100000 in
theorem tw_312 : Cond.fieldLink RX10 66 "CureTown$Town" "baths" "[LCureTown$Bath;" ∈ lw_tbl := List.mem_of_getElem? (i := 312) (by decide +kernel)
set_option maxRecDepth 100000 in
theorem tw_313 : Cond.fieldLink RX3 132 "CureTown$Town" "baths" "[LCureTown$Bath;" ∈ lw_tbl := List.mem_of_getElem? (i := 313) (by decide +kernel)
set_option maxRecDepth 100000 in
theorem tw_314 : Cond.fieldLink RX9 25 "CureTown$Town" "guests" "[LCureTown$Guest;" ∈ lw_tbl := List.mem_of_getElem? (i := 314) (by decide +kernel)
set_option maxRecDepth 100000 in
theorem tw_315 : Cond.fieldLink RX3 36 "CureTown$Town" "guests" "[LCureTown$Guest;" ∈ lw_tbl := List.mem_of_getElem? (i := 315) (by decide +kernel)
set_option maxRecDepth 100000 in
theorem tw_316 : Cond.fieldLink RX10 116 "CureTown$Town" "guests" "[LCureTown$Guest;" ∈ lw_tbl := List.mem_of_getElem? (i := 316) (by decide +kernel)
set_option maxRecDepth 100000 in
theorem tw_317 : Cond.fieldLink RX9 29 "CureTown$Town" "rates" "[I" ∈ lw_tbl := List.mem_of_getElem? (i := 317) (by decide +kernel)
set_option maxRecDepth 100000 in
theorem tw_318 : Cond.fieldLink RX10 78 "CureTown$Town" "rates" "[I" ∈ lw_tbl := List.mem_of_getElem? (i := 318) (by decide +kernel)
set_option maxRecDepth 100000 in
theorem tw_319 : Cond.fieldLink RX9 36 "CureTown$Town" "book" "LCureTown$Book;" ∈ lw_tbl := List.mem_of_getElem? (i := 319) (by decide +kernel)
set_option maxRecDepth 100000 in
theorem tw_320 : Cond.fieldLink RX3 62 "CureTown$Town" "book" "LCureTown$Book;" ∈ lw_tbl := List.mem_of_getElem? (i := 320) (by decide +kernel)
set_option maxRecDepth 100000 in
theorem tw_321 : Cond.fieldLink RX10 82 "CureTown$Town" "book" "LCureTown$Book;" ∈ lw_tbl := List.mem_of_getElem? (i := 321) (by decide +kernel)
set_option maxRecDepth 100000 in
theorem tw_322 : Cond.fieldLink RX9 40 "CureTown$Town" "guestCount" "I" ∈ lw_tbl := List.mem_of_getElem? (i := 322) (by decide +kernel)
set_option maxRecDepth 100000 in
theorem tw_323 : Cond.fieldLink RX3 30 "CureTown$Town" "guestCount" "I" ∈ lw_tbl := List.mem_of_getElem? (i := 323) (by decide +kernel)
set_option maxRecDepth 100000 in
theorem tw_324 : Cond.fieldLink RX1 64 "CureTown$Town" "guestCount" "I" ∈ lw_tbl := List.mem_of_getElem? (i := 324) (by decide +kernel)
set_option maxRecDepth 100000 in
theorem tw_325 : Cond.fieldLink RX10 113 "CureTown$Town" "guestCount" "I" ∈ lw_tbl := List.mem_of_getElem? (i := 325) (by decide +kernel)
set_option maxRecDepth 100000 in
theorem tw_339 : Cond.classLink RX10 16 RX3 ∈ lw_tbl := List.mem_of_getElem? (i := 339) (by decide +kernel)
set_option maxRecDepth 100000 in
theorem tw_340 : Cond.instantiable RX3 3 ∈ lw_tbl := List.mem_of_getElem? (i := 340) (by decide +kernel)
set_option maxRecDepth 100000 in
theorem tw_341 : Cond.methodLink RX10 18 yX3_init ∈ lw_tbl := List.mem_of_getElem? (i := 341) (by decide +kernel)
set_option maxRecDepth 100000 in
theorem tw_342 : Cond.instanceMethod yX3_init ∈ lw_tbl := List.mem_of_getElem? (i := 342) (by decide +kernel)
set_option maxRecDepth 100000 in
theorem tw_343 : Cond.code yX3_init cX3_init 2 none ∈ lw_tbl := List.mem_of_getElem? (i := 343) (by decide +kernel)
set_option maxRecDepth 100000 in
theorem tw_344 : Cond.methodLink RX3 3 objectInit ∈ lw_tbl := List.mem_of_getElem? (i := 344) (by decide +kernel)
set_option maxRecDepth 100000 in
theorem tw_345 : Cond.classLink RX3 9 RX5 ∈ lw_tbl := List.mem_of_getElem? (i := 345) (by decide +kernel)
set_option maxRecDepth 100000 in
theorem tw_347 : Cond.classLink RX3 17 "[[I" ∈ lw_tbl := List.mem_of_getElem? (i := 347) (by decide +kernel)
set_option maxRecDepth 100000 in
theorem tw_349 : Cond.instantiable RX5 10 ∈ lw_tbl := List.mem_of_getElem? (i := 349) (by decide +kernel)
set_option maxRecDepth 100000 in
theorem tw_351 : Cond.instanceMethod yX5_init ∈ lw_tbl := List.mem_of_getElem? (i := 351) (by decide +kernel)
set_option maxRecDepth 100000 in
theorem tw_352 : Cond.code yX5_init cX5_init 1 none ∈ lw_tbl := List.mem_of_getElem? (i := 352) (by decide +kernel)
set_option maxRecDepth 100000 in
theorem tw_353 : Cond.methodLink RX5 3 objectInit ∈ lw_tbl := List.mem_of_getElem? (i := 353) (by decide +kernel)
set_option maxRecDepth 100000 in
theorem tw_354 : Cond.fieldLink RX5 9 "CureTown$GuestDay" "now" "I" ∈ lw_tbl := List.mem_of_getElem? (i := 354) (by decide +kernel)
set_option maxRecDepth 100000 in
theorem tw_355 : Cond.fieldLink RX3 144 "CureTown$GuestDay" "now" "I" ∈ lw_tbl := List.mem_of_getElem? (i := 355) (by decide +kernel)
set_option maxRecDepth 100000 in
theorem tw_356 : Cond.fieldLink RX5 15 "CureTown$GuestDay" "strength" "I" ∈ lw_tbl := List.mem_of_getElem? (i := 356) (by decide +kernel)
set_option maxRecDepth 100000 in
theorem tw_357 : Cond.fieldLink RX3 153 "CureTown$GuestDay" "strength" "I" ∈ lw_tbl := List.mem_of_getElem? (i := 357) (by decide +kernel)
set_option maxRecDepth 100000 in
theorem tw_358 : Cond.fieldLink RX5 18 "CureTown$GuestDay" "done" "I" ∈ lw_tbl := List.mem_of_getElem? (i := 358) (by decide +kernel)
set_option maxRecDepth 100000 in
theorem tw_359 : Cond.fieldLink RX3 105 "CureTown$GuestDay" "done" "I" ∈ lw_tbl := List.mem_of_getElem? (i := 359) (by decide +kernel)
set_option maxRecDepth 100000 in
theorem tw_360 : Cond.fieldLink RX1 77 "CureTown$GuestDay" "done" "I" ∈ lw_tbl := List.mem_of_getElem? (i := 360) (by decide +kernel)
set_option maxRecDepth 100000 in
theorem tw_361 : Cond.fieldLink RX10 214 "CureTown$GuestDay" "done" "I" ∈ lw_tbl := List.mem_of_getElem? (i := 361) (by decide +kernel)
set_option maxRecDepth 100000 in
theorem tw_362 : Cond.fieldLink RX5 21 "CureTown$GuestDay" "over" "I" ∈ lw_tbl := List.mem_of_getElem? (i := 362) (by decide +kernel)
set_option maxRecDepth 100000 in
theorem tw_363 : Cond.fieldLink RX1 82 "CureTown$GuestDay" "over" "I" ∈ lw_tbl := List.mem_of_getElem? (i := 363) (by decide +kernel)
set_option maxRecDepth 100000 in
theorem tw_364 : Cond.fieldLink RX5 24 "CureTown$GuestDay" "glasses" "I" ∈ lw_tbl := List.mem_of_getElem? (i := 364) (by decide +kernel)
set_option maxRecDepth 100000 in
theorem tw_365 : Cond.fieldLink RX3 168 "CureTown$GuestDay" "glasses" "I" ∈ lw_tbl := List.mem_of_getElem? (i := 365) (by decide +kernel)
set_option maxRecDepth 100000 in
theorem tw_366 : Cond.fieldLink RX10 213 "CureTown$GuestDay" "glasses" "I" ∈ lw_tbl := List.mem_of_getElem? (i := 366) (by decide +kernel)
set_option maxRecDepth 100000 in
theorem tw_367 : Cond.fieldLink RX5 27 "CureTown$GuestDay" "isLost" "Z" ∈ lw_tbl := List.mem_of_getElem? (i := 367) (by decide +kernel)
set_option maxRecDepth 100000 in
theorem tw_368 : Cond.fieldLink RX3 81 "CureTown$GuestDay" "isLost" "Z" ∈ lw_tbl := List.mem_of_getElem? (i := 368) (by decide +kernel)
set_option maxRecDepth 100000 in
theorem tw_369 : Cond.fieldLink RX5 31 "CureTown$GuestDay" "begins" "[I" ∈ lw_tbl := List.mem_of_getElem? (i := 369) (by decide +kernel)
set_option maxRecDepth 100000 in
theorem tw_370 : Cond.fieldLink RX3 112 "CureTown$GuestDay" "begins" "[I" ∈ lw_tbl := List.mem_of_getElem? (i := 370) (by decide +kernel)
set_option maxRecDepth 100000 in
theorem tw_371 : Cond.fieldLink RX5 35 "CureTown$GuestDay" "quarters" "[I" ∈ lw_tbl := List.mem_of_getElem? (i := 371) (by decide +kernel)
set_option maxRecDepth 100000 in
theorem tw_372 : Cond.fieldLink RX3 115 "CureTown$GuestDay" "quarters" "[I" ∈ lw_tbl := List.mem_of_getElem? (i := 372) (by decide +kernel)
set_option maxRecDepth 100000 in
theorem tw_373 : Cond.fieldLink RX5 38 "CureTown$GuestDay" "kinds" "[I" ∈ lw_tbl := List.mem_of_getElem? (i := 373) (by decide +kernel)
set_option maxRecDepth 100000 in
theorem tw_374 : Cond.fieldLink RX3 108 "CureTown$GuestDay" "kinds" "[I" ∈ lw_tbl := List.mem_of_getElem? (i := 374) (by decide +kernel)
set_option maxRecDepth 100000 in
theorem tw_375 : Cond.fieldLink RX5 41 "CureTown$GuestDay" "places" "[I" ∈ lw_tbl := List.mem_of_getElem? (i := 375) (by decide +kernel)
set_option maxRecDepth 100000 in
theorem tw_376 : Cond.fieldLink RX3 109 "CureTown$GuestDay" "places" "[I" ∈ lw_tbl := List.mem_of_getElem? (i := 376) (by decide +kernel)
set_option maxRecDepth 100000 in
theorem tw_398 : Cond.arrayClass .long ∈ lw_tbl := List.mem_of_getElem? (i := 398) (by decide +kernel)
set_option maxRecDepth 100000 in
theorem tw_399 : Cond.fieldLink RX3 11 "CureTown$DayPlan" "rows" "[LCureTown$GuestDay;" ∈ lw_tbl := List.mem_of_getElem? (i := 399) (by decide +kernel)
set_option maxRecDepth 100000 in
theorem tw_400 : Cond.fieldLink RX1 73 "CureTown$DayPlan" "rows" "[LCureTown$GuestDay;" ∈ lw_tbl := List.mem_of_getElem? (i := 400) (by decide +kernel)
set_option maxRecDepth 100000 in
theorem tw_401 : Cond.fieldLink RX10 149 "CureTown$DayPlan" "rows" "[LCureTown$GuestDay;" ∈ lw_tbl := List.mem_of_getElem? (i := 401) (by decide +kernel)
set_option maxRecDepth 100000 in
theorem tw_402 : Cond.fieldLink RX3 19 "CureTown$DayPlan" "glassesTaken" "[[I" ∈ lw_tbl := List.mem_of_getElem? (i := 402) (by decide +kernel)
set_option maxRecDepth 100000 in
theorem tw_403 : Cond.fieldLink RX10 158 "CureTown$DayPlan" "glassesTaken" "[[I" ∈ lw_tbl := List.mem_of_getElem? (i := 403) (by decide +kernel)
set_option maxRecDepth 100000 in
theorem tw_404 : Cond.fieldLink RX3 22 "CureTown$DayPlan" "bathsLet" "[J" ∈ lw_tbl := List.mem_of_getElem? (i := 404) (by decide +kernel)
set_option maxRecDepth 100000 in
theorem tw_412 : Cond.classLink RX10 23 RX1 ∈ lw_tbl := List.mem_of_getElem? (i := 412) (by decide +kernel)
set_option maxRecDepth 100000 in
theorem tw_413 : Cond.instantiable RX1 11 ∈ lw_tbl := List.mem_of_getElem? (i := 413) (by decide +kernel)
set_option maxRecDepth 100000 in
theorem tw_415 : Cond.instanceMethod yX1_init ∈ lw_tbl := List.mem_of_getElem? (i := 415) (by decide +kernel)
set_option maxRecDepth 100000 in
theorem tw_416 : Cond.code yX1_init cX1_init 1 none ∈ lw_tbl := List.mem_of_getElem? (i := 416) (by decide +kernel)
set_option maxRecDepth 100000 in
theorem tw_417 : Cond.methodLink RX1 3 objectInit ∈ lw_tbl := List.mem_of_getElem? (i := 417) (by decide +kernel)
set_option maxRecDepth 100000 in
theorem tw_418 : Cond.fieldLink RX1 9 "CureTown$BestSearch" "guests" "[I" ∈ lw_tbl := List.mem_of_getElem? (i := 418) (by decide +kernel)
set_option maxRecDepth 100000 in
theorem tw_419 : Cond.fieldLink RX1 15 "CureTown$BestSearch" "doneAlone" "[I" ∈ lw_tbl := List.mem_of_getElem? (i := 419) (by decide +kernel)
set_option maxRecDepth 100000 in
theorem tw_420 : Cond.fieldLink RX1 18 "CureTown$BestSearch" "overAlone" "[I" ∈ lw_tbl := List.mem_of_getElem? (i := 420) (by decide +kernel)
set_option maxRecDepth 100000 in
theorem tw_421 : Cond.fieldLink RX1 21 "CureTown$BestSearch" "isPlaced" "[Z" ∈ lw_tbl := List.mem_of_getElem? (i := 421) (by decide +kernel)
set_option maxRecDepth 100000 in
theorem tw_422 : Cond.fieldLink RX1 25 "CureTown$BestSearch" "order" "[I" ∈ lw_tbl := List.mem_of_getElem? (i := 422) (by decide +kernel)
set_option maxRecDepth 100000 in
theorem tw_423 : Cond.fieldLink RX1 28 "CureTown$BestSearch" "bestOrder" "[I" ∈ lw_tbl := List.mem_of_getElem? (i := 423) (by decide +kernel)
set_option maxRecDepth 100000 in
theorem tw_424 : Cond.fieldLink RX1 31 "CureTown$BestSearch" "count" "I" ∈ lw_tbl := List.mem_of_getElem? (i := 424) (by decide +kernel)
set_option maxRecDepth 100000 in
theorem tw_425 : Cond.fieldLink RX1 35 "CureTown$BestSearch" "bestDone" "I" ∈ lw_tbl := List.mem_of_getElem? (i := 425) (by decide +kernel)
set_option maxRecDepth 100000 in
theorem tw_426 : Cond.fieldLink RX1 38 "CureTown$BestSearch" "bestOver" "I" ∈ lw_tbl := List.mem_of_getElem? (i := 426) (by decide +kernel)
set_option maxRecDepth 100000 in
theorem tw_427 : Cond.fieldLink RX1 41 "CureTown$BestSearch" "hopedDone" "I" ∈ lw_tbl := List.mem_of_getElem? (i := 427) (by decide +kernel)
set_option maxRecDepth 100000 in
theorem tw_428 : Cond.fieldLink RX1 44 "CureTown$BestSearch" "hopedOver" "I" ∈ lw_tbl := List.mem_of_getElem? (i := 428) (by decide +kernel)
set_option maxRecDepth 100000 in
theorem tw_452 : Cond.arrayClass .boolean ∈ lw_tbl := List.mem_of_getElem? (i := 452) (by decide +kernel)
set_option maxRecDepth 100000 in
theorem tw_453 : Cond.fieldLink RX10 10 "CureTown" "town" "LCureTown$Town;" ∈ lw_tbl := List.mem_of_getElem? (i := 453) (by decide +kernel)
set_option maxRecDepth 100000 in
theorem tw_454 : Cond.fieldLink RX10 19 "CureTown" "dayPlan" "LCureTown$DayPlan;" ∈ lw_tbl := List.mem_of_getElem? (i := 454) (by decide +kernel)
set_option maxRecDepth 100000 in
theorem tw_455 : Cond.fieldLink RX10 26 "CureTown" "search" "LCureTown$BestSearch;" ∈ lw_tbl := List.mem_of_getElem? (i := 455) (by decide +kernel)
set_option maxRecDepth 100000 in
theorem tw_456 : Cond.fieldLink RX10 30 "CureTown" "today" "I" ∈ lw_tbl := List.mem_of_getElem? (i := 456) (by decide +kernel)
set_option maxRecDepth 100000 in
theorem tw_457 : Cond.fieldLink RX10 34 "CureTown" "bestIsTold" "Z" ∈ lw_tbl := List.mem_of_getElem? (i := 457) (by decide +kernel)
set_option maxRecDepth 100000 in
theorem tw_458 : Cond.fieldLink RX10 38 "CureTown" "bottlesSold" "I" ∈ lw_tbl := List.mem_of_getElem? (i := 458) (by decide +kernel)
set_option maxRecDepth 100000 in
theorem tw_459 : Cond.fieldLink RX10 41 "CureTown" "bottlesPoured" "I" ∈ lw_tbl := List.mem_of_getElem? (i := 459) (by decide +kernel)
set_option maxRecDepth 100000 in
theorem tw_475 : Cond.methodLink RL 13 yX10_spring ∈ lw_tbl := List.mem_of_getElem? (i := 475) (by decide +kernel)
set_option maxRecDepth 100000 in
theorem tw_476 : Cond.instanceMethod yX10_spring ∈ lw_tbl := List.mem_of_getElem? (i := 476) (by decide +kernel)
set_option maxRecDepth 100000 in
theorem tw_477 : Cond.selects RX10 yX10_spring yX10_spring ∈ lw_tbl := List.mem_of_getElem? (i := 477) (by decide +kernel)
set_option maxRecDepth 100000 in
theorem tw_478 : Cond.code yX10_spring cX10_spring 7 (some .boolean) ∈ lw_tbl := List.mem_of_getElem? (i := 478) (by decide +kernel)
set_option maxRecDepth 100000 in
theorem tw_479 : Cond.methodLink RX10 44 yX10_isBelow ∈ lw_tbl := List.mem_of_getElem? (i := 479) (by decide +kernel)
set_option maxRecDepth 100000 in
theorem tw_480 : Cond.static yX10_isBelow ∈ lw_tbl := List.mem_of_getElem? (i := 480) (by decide +kernel)
set_option maxRecDepth 100000 in
theorem tw_481 : Cond.code yX10_isBelow cX10_isBelow 2 (some .boolean) ∈ lw_tbl := List.mem_of_getElem? (i := 481) (by decide +kernel)
set_option maxRecDepth 100000 in
theorem tw_482 : Cond.methodLink RL 18 yX10_bath ∈ lw_tbl := List.mem_of_getElem? (i := 482) (by decide +kernel)
set_option maxRecDepth 100000 in
theorem tw_483 : Cond.instanceMethod yX10_bath ∈ lw_tbl := List.mem_of_getElem? (i := 483) (by decide +kernel)
set_option maxRecDepth 100000 in
theorem tw_484 : Cond.selects RX10 yX10_bath yX10_bath ∈ lw_tbl := List.mem_of_getElem? (i := 484) (by decide +kernel)
set_option maxRecDepth 100000 in
theorem tw_485 : Cond.code yX10_bath cX10_bath 4 (some .boolean) ∈ lw_tbl := List.mem_of_getElem? (i := 485) (by decide +kernel)
set_option maxRecDepth 100000 in
theorem tw_486 : Cond.methodLink RL 23 yX10_rate ∈ lw_tbl := List.mem_of_getElem? (i := 486) (by decide +kernel)
