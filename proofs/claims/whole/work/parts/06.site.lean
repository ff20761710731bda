/-! methods, links, fields, constants: each by its place in the tables -/
theorem pv_memi {w : Cond} (i : Nat) (h : lw_tbl[i]? = some w) (g : goodWord w = true) : w ∈ pv_T := List.mem_filter.mpr ⟨List.mem_of_getElem? h, g⟩
abbrev vX0_init : pv_V := (yX0_init, cX0_init, 2, none, none)
abbrev vX0_stands : pv_V := (yX0_stands, cX0_stands, 1, (some .boolean), none)
set_option maxRecDepth 20000 in
theorem oX0_stands : pv_okV vX0_stands 0 := ⟨⟨pv_memi 286 rfl rfl, pv_memi 37 (by decide +kernel) (by decide +kernel), ⟨by decide +kernel, by decide +kernel, by decide +kernel⟩, by decide, by decide +kernel, rfl⟩, pv_memi 284 (by decide +kernel) (by decide +kernel), pv_memi 285 (by decide +kernel) (by decide +kernel)⟩
abbrev vX0_has : pv_V := (yX0_has, cX0_has, 2, (some .boolean), none)
set_option maxRecDepth 20000 in
theorem oX0_has : pv_okV vX0_has 1 := ⟨⟨pv_memi 274 rfl rfl, pv_memi 37 (by decide +kernel) (by decide +kernel), ⟨by decide +kernel, by decide +kernel, by decide +kernel⟩, by decide, by decide +kernel, rfl⟩, pv_memi 272 (by decide +kernel) (by decide +kernel), pv_memi 273 (by decide +kernel) (by decide +kernel)⟩
abbrev vX0_casesBy : pv_V := (yX0_casesBy, cX0_casesBy, 7, (some .int), none)
set_option maxRecDepth 20000 in
theorem oX0_casesBy : pv_okV vX0_casesBy 3 := ⟨⟨pv_memi 311 rfl rfl, pv_memi 37 (by decide +kernel) (by decide +kernel), ⟨by decide +kernel, by decide +kernel, by decide +kernel⟩, by decide, by decide +kernel, rfl⟩, pv_memi 309 (by decide +kernel) (by decide +kernel), pv_memi 310 (by decide +kernel) (by decide +kernel)⟩
abbrev vX0_firstWrong : pv_V := (yX0_firstWrong, cX0_firstWrong, 3, (some .int), none)
set_option maxRecDepth 20000 in
theorem oX0_firstWrong : pv_okV vX0_firstWrong 1 := ⟨⟨pv_memi 306 rfl rfl, pv_memi 37 (by decide +kernel) (by decide +kernel), ⟨by decide +kernel, by decide +kernel, by decide +kernel⟩, by decide, by decide +kernel, rfl⟩, pv_memi 304 (by decide +kernel) (by decide +kernel), pv_memi 305 (by decide +kernel) (by decide +kernel)⟩
abbrev vX0_takingsBy : pv_V := (yX0_takingsBy, cX0_takingsBy, 5, (some .int), none)
set_option maxRecDepth 20000 in
theorem oX0_takingsBy : pv_okV vX0_takingsBy 2 := ⟨⟨pv_memi 337 rfl rfl, pv_memi 37 (by decide +kernel) (by decide +kernel), ⟨by decide +kernel, by decide +kernel, by decide +kernel⟩, by decide, by decide +kernel, rfl⟩, pv_memi 335 (by decide +kernel) (by decide +kernel), pv_memi 336 (by decide +kernel) (by decide +kernel)⟩
abbrev vX0_missedBy : pv_V := (yX0_missedBy, cX0_missedBy, 4, (some .int), none)
set_option maxRecDepth 20000 in
theorem oX0_missedBy : pv_okV vX0_missedBy 1 := ⟨⟨pv_memi 319 rfl rfl, pv_memi 37 (by decide +kernel) (by decide +kernel), ⟨by decide +kernel, by decide +kernel, by decide +kernel⟩, by decide, by decide +kernel, rfl⟩, pv_memi 317 (by decide +kernel) (by decide +kernel), pv_memi 318 (by decide +kernel) (by decide +kernel)⟩
abbrev vX0_hoursInCase : pv_V := (yX0_hoursInCase, cX0_hoursInCase, 5, (some .int), none)
set_option maxRecDepth 20000 in
theorem oX0_hoursInCase : pv_okV vX0_hoursInCase 2 := ⟨⟨pv_memi 438 rfl rfl, pv_memi 37 (by decide +kernel) (by decide +kernel), ⟨by decide +kernel, by decide +kernel, by decide +kernel⟩, by decide, by decide +kernel, rfl⟩, pv_memi 436 (by decide +kernel) (by decide +kernel), pv_memi 437 (by decide +kernel) (by decide +kernel)⟩
abbrev vX0_gain : pv_V := (yX0_gain, cX0_gain, 7, (some .int), none)
set_option maxRecDepth 20000 in
theorem oX0_gain : pv_okV vX0_gain 4 := ⟨⟨pv_memi 341 rfl rfl, pv_memi 37 (by decide +kernel) (by decide +kernel), ⟨by decide +kernel, by decide +kernel, by decide +kernel⟩, by decide, by decide +kernel, rfl⟩, pv_memi 339 (by decide +kernel) (by decide +kernel), pv_memi 340 (by decide +kernel) (by decide +kernel)⟩
abbrev vX0_isLast : pv_V := (yX0_isLast, cX0_isLast, 4, (some .boolean), none)
set_option maxRecDepth 20000 in
theorem oX0_isLast : pv_okV vX0_isLast 2 := ⟨⟨pv_memi 346 rfl rfl, pv_memi 37 (by decide +kernel) (by decide +kernel), ⟨by decide +kernel, by decide +kernel, by decide +kernel⟩, by decide, by decide +kernel, rfl⟩, pv_memi 344 (by decide +kernel) (by decide +kernel), pv_memi 345 (by decide +kernel) (by decide +kernel)⟩
abbrev vX0_missedByTake : pv_V := (yX0_missedByTake, cX0_missedByTake, 3, (some .int), none)
set_option maxRecDepth 20000 in
theorem oX0_missedByTake : pv_okV vX0_missedByTake 2 := ⟨⟨pv_memi 323 rfl rfl, pv_memi 37 (by decide +kernel) (by decide +kernel), ⟨by decide +kernel, by decide +kernel, by decide +kernel⟩, by decide, by decide +kernel, rfl⟩, pv_memi 321 (by decide +kernel) (by decide +kernel), pv_memi 322 (by decide +kernel) (by decide +kernel)⟩
abbrev vX1_init : pv_V := (yX1_init, cX1_init, 1, none, none)
abbrev vX1_add : pv_V := (yX1_add, cX1_add, 4, (some .int), none)
set_option maxRecDepth 20000 in
theorem oX1_add : pv_okV vX1_add 3 := ⟨⟨pv_memi 406 rfl rfl, pv_memi 39 (by decide +kernel) (by decide +kernel), ⟨by decide +kernel, by decide +kernel, by decide +kernel⟩, by decide, by decide +kernel, rfl⟩, pv_memi 404 (by decide +kernel) (by decide +kernel), pv_memi 405 (by decide +kernel) (by decide +kernel)⟩
abbrev vX1_bind : pv_V := (yX1_bind, cX1_bind, 4, none, none)
set_option maxRecDepth 20000 in
theorem oX1_bind : pv_okV vX1_bind 1 := ⟨⟨pv_memi 422 rfl rfl, pv_memi 39 (by decide +kernel) (by decide +kernel), ⟨by decide +kernel, by decide +kernel, by decide +kernel⟩, by decide, by decide +kernel, rfl⟩, pv_memi 420 (by decide +kernel) (by decide +kernel), pv_memi 421 (by decide +kernel) (by decide +kernel)⟩
abbrev vX2_init : pv_V := (yX2_init, cX2_init, 1, none, none)
abbrev vX2_clear : pv_V := (yX2_clear, cX2_clear, 2, none, none)
set_option maxRecDepth 20000 in
theorem oX2_clear : pv_okV vX2_clear 0 := ⟨⟨pv_memi 358 rfl rfl, pv_memi 40 (by decide +kernel) (by decide +kernel), ⟨by decide +kernel, by decide +kernel, by decide +kernel⟩, by decide, by decide +kernel, rfl⟩, pv_memi 356 (by decide +kernel) (by decide +kernel), pv_memi 357 (by decide +kernel) (by decide +kernel)⟩
abbrev vX2_fits : pv_V := (yX2_fits, cX2_fits, 3, (some .boolean), none)
set_option maxRecDepth 20000 in
theorem oX2_fits : pv_okV vX2_fits 2 := ⟨⟨pv_memi 372 rfl rfl, pv_memi 40 (by decide +kernel) (by decide +kernel), ⟨by decide +kernel, by decide +kernel, by decide +kernel⟩, by decide, by decide +kernel, rfl⟩, pv_memi 370 (by decide +kernel) (by decide +kernel), pv_memi 371 (by decide +kernel) (by decide +kernel)⟩
abbrev vX2_arrive : pv_V := (yX2_arrive, cX2_arrive, 5, none, none)
set_option maxRecDepth 20000 in
theorem oX2_arrive : pv_okV vX2_arrive 3 := ⟨⟨pv_memi 365 rfl rfl, pv_memi 40 (by decide +kernel) (by decide +kernel), ⟨by decide +kernel, by decide +kernel, by decide +kernel⟩, by decide, by decide +kernel, rfl⟩, pv_memi 363 (by decide +kernel) (by decide +kernel), pv_memi 364 (by decide +kernel) (by decide +kernel)⟩
abbrev vX2_note : pv_V := (yX2_note, cX2_note, 4, none, none)
set_option maxRecDepth 20000 in
theorem oX2_note : pv_okV vX2_note 3 := ⟨⟨pv_memi 376 rfl rfl, pv_memi 40 (by decide +kernel) (by decide +kernel), ⟨by decide +kernel, by decide +kernel, by decide +kernel⟩, by decide, by decide +kernel, rfl⟩, pv_memi 374 (by decide +kernel) (by decide +kernel), pv_memi 375 (by decide +kernel) (by decide +kernel)⟩
abbrev vX3_init : pv_V := (yX3_init, cX3_init, 1, none, none)
abbrev vX3_begin : pv_V := (yX3_begin, cX3_begin, 4, none, none)
set_option maxRecDepth 20000 in
theorem oX3_begin : pv_okV vX3_begin 2 := ⟨⟨pv_memi 456 rfl rfl, pv_memi 36 (by decide +kernel) (by decide +kernel), ⟨by decide +kernel, by decide +kernel, by decide +kernel⟩, by decide, by decide +kernel, rfl⟩, pv_memi 454 (by decide +kernel) (by decide +kernel), pv_memi 455 (by decide +kernel) (by decide +kernel)⟩
abbrev vX3_holds : pv_V := (yX3_holds, cX3_holds, 3, (some .boolean), none)
set_option maxRecDepth 20000 in
theorem oX3_holds : pv_okV vX3_holds 2 := ⟨⟨pv_memi 247 rfl rfl, pv_memi 36 (by decide +kernel) (by decide +kernel), ⟨by decide +kernel, by decide +kernel, by decide +kernel⟩, by decide, by decide +kernel, rfl⟩, pv_memi 245 (by decide +kernel) (by decide +kernel), pv_memi 246 (by decide +kernel) (by decide +kernel)⟩
abbrev vX3_faultOfCells : pv_V := (yX3_faultOfCells, cX3_faultOfCells, 4, (some .int), none)
set_option maxRecDepth 20000 in
theorem oX3_faultOfCells : pv_okV vX3_faultOfCells 3 := ⟨⟨pv_memi 243 rfl rfl, pv_memi 36 (by decide +kernel) (by decide +kernel), ⟨by decide +kernel, by decide +kernel, by decide +kernel⟩, by decide, by decide +kernel, rfl⟩, pv_memi 241 (by decide +kernel) (by decide +kernel), pv_memi 242 (by decide +kernel) (by decide +kernel)⟩
abbrev vX3_cut : pv_V := (yX3_cut, cX3_cut, 2, (some .int), none)
set_option maxRecDepth 20000 in
theorem oX3_cut : pv_okV vX3_cut 1 := ⟨⟨pv_memi 468 rfl rfl, pv_memi 36 (by decide +kernel) (by decide +kernel), ⟨by decide +kernel, by decide +kernel, by decide +kernel⟩, by decide, by decide +kernel, rfl⟩, pv_memi 466 (by decide +kernel) (by decide +kernel), pv_memi 467 (by decide +kernel) (by decide +kernel)⟩
abbrev vX4_firstFault : pv_V := (yX4_firstFault, cX4_firstFault, 6, (some .int), none)
set_option maxRecDepth 20000 in
theorem oX4_firstFault : pv_okS vX4_firstFault 3 := ⟨⟨pv_memi 254 rfl rfl, pv_memi 42 (by decide +kernel) (by decide +kernel), ⟨by decide +kernel, by decide +kernel, by decide +kernel⟩, by decide, by decide +kernel, rfl⟩, pv_memi 253 (by decide +kernel) (by decide +kernel)⟩
abbrev vX4_goesOn : pv_V := (yX4_goesOn, cX4_goesOn, 3, (some .boolean), none)
set_option maxRecDepth 20000 in
theorem oX4_goesOn : pv_okS vX4_goesOn 3 := ⟨⟨pv_memi 257 rfl rfl, pv_memi 42 (by decide +kernel) (by decide +kernel), ⟨by decide +kernel, by decide +kernel, by decide +kernel⟩, by decide, by decide +kernel, rfl⟩, pv_memi 256 (by decide +kernel) (by decide +kernel)⟩
abbrev vX4_isDigit : pv_V := (yX4_isDigit, cX4_isDigit, 3, (some .boolean), none)
set_option maxRecDepth 20000 in
theorem oX4_isDigit : pv_okS vX4_isDigit 3 := ⟨⟨pv_memi 260 rfl rfl, pv_memi 42 (by decide +kernel) (by decide +kernel), ⟨by decide +kernel, by decide +kernel, by decide +kernel⟩, by decide, by decide +kernel, rfl⟩, pv_memi 259 (by decide +kernel) (by decide +kernel)⟩
abbrev vX4_fill : pv_V := (yX4_fill, cX4_fill, 7, none, none)
set_option maxRecDepth 20000 in
theorem oX4_fill : pv_okS vX4_fill 4 := ⟨⟨pv_memi 263 rfl rfl, pv_memi 42 (by decide +kernel) (by decide +kernel), ⟨by decide +kernel, by decide +kernel, by decide +kernel⟩, by decide, by decide +kernel, rfl⟩, pv_memi 262 (by decide +kernel) (by decide +kernel)⟩
abbrev vX4_kindOf : pv_V := (yX4_kindOf, cX4_kindOf, 1, (some .int), none)
set_option maxRecDepth 20000 in
theorem oX4_kindOf : pv_okS vX4_kindOf 1 := ⟨⟨pv_memi 266 rfl rfl, pv_memi 42 (by decide +kernel) (by decide +kernel), ⟨by decide +kernel, by decide +kernel, by decide +kernel⟩, by decide, by decide +kernel, rfl⟩, pv_memi 265 (by decide +kernel) (by decide +kernel)⟩
abbrev vX5_init : pv_V := (yX5_init, cX5_init, 1, none, none)
abbrev vX5_value : pv_V := (yX5_value, cX5_value, 1, (some .int), none)
set_option maxRecDepth 20000 in
theorem oX5_value : pv_okV vX5_value 0 := ⟨⟨pv_memi 278 rfl rfl, pv_memi 38 (by decide +kernel) (by decide +kernel), ⟨by decide +kernel, by decide +kernel, by decide +kernel⟩, by decide, by decide +kernel, rfl⟩, pv_memi 276 (by decide +kernel) (by decide +kernel), pv_memi 277 (by decide +kernel) (by decide +kernel)⟩
abbrev vX5_span : pv_V := (yX5_span, cX5_span, 2, (some .int), none)
set_option maxRecDepth 20000 in
theorem oX5_span : pv_okV vX5_span 1 := ⟨⟨pv_memi 327 rfl rfl, pv_memi 38 (by decide +kernel) (by decide +kernel), ⟨by decide +kernel, by decide +kernel, by decide +kernel⟩, by decide, by decide +kernel, rfl⟩, pv_memi 325 (by decide +kernel) (by decide +kernel), pv_memi 326 (by decide +kernel) (by decide +kernel)⟩
abbrev vX6_init : pv_V := (yX6_init, cX6_init, 2, none, none)
abbrev vX6_museum : pv_V := (yX6_museum, cX6_museum, 8, (some .int), none)
set_option maxRecDepth 20000 in
theorem oX6_museum : pv_okV vX6_museum 4 := ⟨⟨pv_memi 233 rfl rfl, pv_memi 35 (by decide +kernel) (by decide +kernel), ⟨by decide +kernel, by decide +kernel, by decide +kernel⟩, by decide, by decide +kernel, rfl⟩, pv_memi 231 (by decide +kernel) (by decide +kernel), pv_memi 232 (by decide +kernel) (by decide +kernel)⟩
abbrev vX6_ofThing : pv_V := (yX6_ofThing, cX6_ofThing, 4, (some .int), none)
set_option maxRecDepth 20000 in
theorem oX6_ofThing : pv_okV vX6_ofThing 2 := ⟨⟨pv_memi 270 rfl rfl, pv_memi 35 (by decide +kernel) (by decide +kernel), ⟨by decide +kernel, by decide +kernel, by decide +kernel⟩, by decide, by decide +kernel, rfl⟩, pv_memi 268 (by decide +kernel) (by decide +kernel), pv_memi 269 (by decide +kernel) (by decide +kernel)⟩
abbrev vX6_penalty : pv_V := (yX6_penalty, cX6_penalty, 3, (some .int), none)
set_option maxRecDepth 20000 in
theorem oX6_penalty : pv_okV vX6_penalty 1 := ⟨⟨pv_memi 282 rfl rfl, pv_memi 35 (by decide +kernel) (by decide +kernel), ⟨by decide +kernel, by decide +kernel, by decide +kernel⟩, by decide, by decide +kernel, rfl⟩, pv_memi 280 (by decide +kernel) (by decide +kernel), pv_memi 281 (by decide +kernel) (by decide +kernel)⟩
abbrev vX6_law : pv_V := (yX6_law, cX6_law, 3, (some .int), none)
set_option maxRecDepth 20000 in
theorem oX6_law : pv_okV vX6_law 1 := ⟨⟨pv_memi 290 rfl rfl, pv_memi 35 (by decide +kernel) (by decide +kernel), ⟨by decide +kernel, by decide +kernel, by decide +kernel⟩, by decide, by decide +kernel, rfl⟩, pv_memi 288 (by decide +kernel) (by decide +kernel), pv_memi 289 (by decide +kernel) (by decide +kernel)⟩
abbrev vX6_use : pv_V := (yX6_use, cX6_use, 4, (some .int), none)
set_option maxRecDepth 20000 in
theorem oX6_use : pv_okV vX6_use 2 := ⟨⟨pv_memi 294 rfl rfl, pv_memi 35 (by decide +kernel) (by decide +kernel), ⟨by decide +kernel, by decide +kernel, by decide +kernel⟩, by decide, by decide +kernel, rfl⟩, pv_memi 292 (by decide +kernel) (by decide +kernel), pv_memi 293 (by decide +kernel) (by decide +kernel)⟩
abbrev vX6_round : pv_V := (yX6_round, cX6_round, 10, (some .int), none)
set_option maxRecDepth 20000 in
theorem oX6_round : pv_okV vX6_round 4 := ⟨⟨pv_memi 298 rfl rfl, pv_memi 35 (by decide +kernel) (by decide +kernel), ⟨by decide +kernel, by decide +kernel, by decide +kernel⟩, by decide, by decide +kernel, rfl⟩, pv_memi 296 (by decide +kernel) (by decide +kernel), pv_memi 297 (by decide +kernel) (by decide +kernel)⟩
abbrev vX6_best : pv_V := (yX6_best, cX6_best, 2, (some .int), none)
set_option maxRecDepth 20000 in
theorem oX6_best : pv_okV vX6_best 1 := ⟨⟨pv_memi 350 rfl rfl, pv_memi 35 (by decide +kernel) (by decide +kernel), ⟨by decide +kernel, by decide +kernel, by decide +kernel⟩, by decide, by decide +kernel, rfl⟩, pv_memi 348 (by decide +kernel) (by decide +kernel), pv_memi 349 (by decide +kernel) (by decide +kernel)⟩
abbrev vX6_mild : pv_V := (yX6_mild, cX6_mild, 2, (some .int), none)
set_option maxRecDepth 20000 in
theorem oX6_mild : pv_okV vX6_mild 1 := ⟨⟨pv_memi 383 rfl rfl, pv_memi 35 (by decide +kernel) (by decide +kernel), ⟨by decide +kernel, by decide +kernel, by decide +kernel⟩, by decide, by decide +kernel, rfl⟩, pv_memi 381 (by decide +kernel) (by decide +kernel), pv_memi 382 (by decide +kernel) (by decide +kernel)⟩
abbrev vX6_worth : pv_V := (yX6_worth, cX6_worth, 3, (some .int), none)
set_option maxRecDepth 20000 in
theorem oX6_worth : pv_okV vX6_worth 1 := ⟨⟨pv_memi 387 rfl rfl, pv_memi 35 (by decide +kernel) (by decide +kernel), ⟨by decide +kernel, by decide +kernel, by decide +kernel⟩, by decide, by decide +kernel, rfl⟩, pv_memi 385 (by decide +kernel) (by decide +kernel), pv_memi 386 (by decide +kernel) (by decide +kernel)⟩
abbrev vX6_shift : pv_V := (yX6_shift, cX6_shift, 8, (some .int), none)
set_option maxRecDepth 20000 in
theorem oX6_shift : pv_okV vX6_shift 1 := ⟨⟨pv_memi 391 rfl rfl, pv_memi 35 (by decide +kernel) (by decide +kernel), ⟨by decide +kernel, by decide +kernel, by decide +kernel⟩, by decide, by decide +kernel, rfl⟩, pv_memi 389 (by decide +kernel) (by decide +kernel), pv_memi 390 (by decide +kernel) (by decide +kernel)⟩
abbrev vX6_reading : pv_V := (yX6_reading, cX6_reading, 4, (some .int), none)
set_option maxRecDepth 20000 in
theorem oX6_reading : pv_okV vX6_reading 3 := ⟨⟨pv_memi 399 rfl rfl, pv_memi 35 (by decide +kernel) (by decide +kernel), ⟨by decide +kernel, by decide +kernel, by decide +kernel⟩, by decide, by decide +kernel, rfl⟩, pv_memi 397 (by decide +kernel) (by decide +kernel), pv_memi 398 (by decide +kernel) (by decide +kernel)⟩
abbrev vX6_back : pv_V := (yX6_back, cX6_back, 2, (some .int), none)
set_option maxRecDepth 20000 in
theorem oX6_back : pv_okV vX6_back 1 := ⟨⟨pv_memi 410 rfl rfl, pv_memi 35 (by decide +kernel) (by decide +kernel), ⟨by decide +kernel, by decide +kernel, by decide +kernel⟩, by decide, by decide +kernel, rfl⟩, pv_memi 408 (by decide +kernel) (by decide +kernel), pv_memi 409 (by decide +kernel) (by decide +kernel)⟩
abbrev vX6_rounds : pv_V := (yX6_rounds, cX6_rounds, 2, (some .int), none)
set_option maxRecDepth 20000 in
theorem oX6_rounds : pv_okV vX6_rounds 1 := ⟨⟨pv_memi 414 rfl rfl, pv_memi 35 (by decide +kernel) (by decide +kernel), ⟨by decide +kernel, by decide +kernel, by decide +kernel⟩, by decide, by decide +kernel, rfl⟩, pv_memi 412 (by decide +kernel) (by decide +kernel), pv_memi 413 (by decide +kernel) (by decide +kernel)⟩
abbrev vX6_sure : pv_V := (yX6_sure, cX6_sure, 2, (some .int), none)
set_option maxRecDepth 20000 in
theorem oX6_sure : pv_okV vX6_sure 1 := ⟨⟨pv_memi 426 rfl rfl, pv_memi 35 (by decide +kernel) (by decide +kernel), ⟨by decide +kernel, by decide +kernel, by decide +kernel⟩, by decide, by decide +kernel, rfl⟩, pv_memi 424 (by decide +kernel) (by decide +kernel), pv_memi 425 (by decide +kernel) (by decide +kernel)⟩
abbrev vX6_laws : pv_V := (yX6_laws, cX6_laws, 9, (some .int), none)
set_option maxRecDepth 20000 in
theorem oX6_laws : pv_okV vX6_laws 4 := ⟨⟨pv_memi 430 rfl rfl, pv_memi 35 (by decide +kernel) (by decide +kernel), ⟨by decide +kernel, by decide +kernel, by decide +kernel⟩, by decide, by decide +kernel, rfl⟩, pv_memi 428 (by decide +kernel) (by decide +kernel), pv_memi 429 (by decide +kernel) (by decide +kernel)⟩
abbrev vX6_used : pv_V := (yX6_used, cX6_used, 12, (some .int), none)
set_option maxRecDepth 20000 in
theorem oX6_used : pv_okV vX6_used 5 := ⟨⟨pv_memi 434 rfl rfl, pv_memi 35 (by decide +kernel) (by decide +kernel), ⟨by decide +kernel, by decide +kernel, by decide +kernel⟩, by decide, by decide +kernel, rfl⟩, pv_memi 432 (by decide +kernel) (by decide +kernel), pv_memi 433 (by decide +kernel) (by decide +kernel)⟩
abbrev vX6_odds : pv_V := (yX6_odds, cX6_odds, 13, (some .long), none)
set_option maxRecDepth 20000 in
theorem oX6_odds : pv_okV vX6_odds 5 := ⟨⟨pv_memi 443 rfl rfl, pv_memi 35 (by decide +kernel) (by decide +kernel), ⟨by decide +kernel, by decide +kernel, by decide +kernel⟩, by decide, by decide +kernel, rfl⟩, pv_memi 441 (by decide +kernel) (by decide +kernel), pv_memi 442 (by decide +kernel) (by decide +kernel)⟩
abbrev vX6_sheet : pv_V := (yX6_sheet, cX6_sheet, 4, (some .int), none)
set_option maxRecDepth 20000 in
theorem oX6_sheet : pv_okV vX6_sheet 3 := ⟨⟨pv_memi 452 rfl rfl, pv_memi 35 (by decide +kernel) (by decide +kernel), ⟨by decide +kernel, by decide +kernel, by decide +kernel⟩, by decide, by decide +kernel, rfl⟩, pv_memi 450 (by decide +kernel) (by decide +kernel), pv_memi 451 (by decide +kernel) (by decide +kernel)⟩
abbrev vX6_lose : pv_V := (yX6_lose, cX6_lose, 3, (some .int), none)
set_option maxRecDepth 20000 in
theorem oX6_lose : pv_okV vX6_lose 1 := ⟨⟨pv_memi 460 rfl rfl, pv_memi 35 (by decide +kernel) (by decide +kernel), ⟨by decide +kernel, by decide +kernel, by decide +kernel⟩, by decide, by decide +kernel, rfl⟩, pv_memi 458 (by decide +kernel) (by decide +kernel), pv_memi 459 (by decide +kernel) (by decide +kernel)⟩
abbrev vX6_put : pv_V := (yX6_put, cX6_put, 6, (some .int), none)
set_option maxRecDepth 20000 in
theorem oX6_put : pv_okV vX6_put 3 := ⟨⟨pv_memi 464 rfl rfl, pv_memi 35 (by decide +kernel) (by decide +kernel), ⟨by decide +kernel, by decide +kernel, by decide +kernel⟩, by decide, by decide +kernel, rfl⟩, pv_memi 462 (by decide +kernel) (by decide +kernel), pv_memi 463 (by decide +kernel) (by decide +kernel)⟩
abbrev vX6_cell : pv_V := (yX6_cell, cX6_cell, 4, (some .long), none)
set_option maxRecDepth 20000 in
theorem oX6_cell : pv_okV vX6_cell 3 := ⟨⟨pv_memi 472 rfl rfl, pv_memi 35 (by decide +kernel) (by decide +kernel), ⟨by decide +kernel, by decide +kernel, by decide +kernel⟩, by decide, by decide +kernel, rfl⟩, pv_memi 470 (by decide +kernel) (by decide +kernel), pv_memi 471 (by decide +kernel) (by decide +kernel)⟩
abbrev vX6_copy : pv_V := (yX6_copy, cX6_copy, 8, (some .int), none)
set_option maxRecDepth 20000 in
theorem oX6_copy : pv_okV vX6_copy 5 := ⟨⟨pv_memi 476 rfl rfl, pv_memi 35 (by decide +kernel) (by decide +kernel), ⟨by decide +kernel, by decide +kernel, by decide +kernel⟩, by decide, by decide +kernel, rfl⟩, pv_memi 474 (by decide +kernel) (by decide +kernel), pv_memi 475 (by decide +kernel) (by decide +kernel)⟩
abbrev vX6_tell : pv_V := (yX6_tell, cX6_tell, 3, (some .int), none)
set_option maxRecDepth 20000 in
theorem oX6_tell : pv_okV vX6_tell 1 := ⟨⟨pv_memi 482 rfl rfl, pv_memi 35 (by decide +kernel) (by decide +kernel), ⟨by decide +kernel, by decide +kernel, by decide +kernel⟩, by decide, by decide +kernel, rfl⟩, pv_memi 480 (by decide +kernel) (by decide +kernel), pv_memi 481 (by decide +kernel) (by decide +kernel)⟩
abbrev vX6_label : pv_V := (yX6_label, cX6_label, 2, (some .int), none)
set_option maxRecDepth 20000 in
theorem oX6_label : pv_okV vX6_label 1 := ⟨⟨pv_memi 502 rfl rfl, pv_memi 35 (by decide +kernel) (by decide +kernel), ⟨by decide +kernel, by decide +kernel, by decide +kernel⟩, by decide, by decide +kernel, rfl⟩, pv_memi 500 (by decide +kernel) (by decide +kernel), pv_memi 501 (by decide +kernel) (by decide +kernel)⟩
abbrev vX6_as : pv_V := (yX6_as, cX6_as, 3, (some .int), none)
set_option maxRecDepth 20000 in
theorem oX6_as : pv_okV vX6_as 2 := ⟨⟨pv_memi 506 rfl rfl, pv_memi 35 (by decide +kernel) (by decide +kernel), ⟨by decide +kernel, by decide +kernel, by decide +kernel⟩, by decide, by decide +kernel, rfl⟩, pv_memi 504 (by decide +kernel) (by decide +kernel), pv_memi 505 (by decide +kernel) (by decide +kernel)⟩
abbrev vX6_trace : pv_V := (yX6_trace, cX6_trace, 1, (some .int), none)
set_option maxRecDepth 20000 in
theorem oX6_trace : pv_okV vX6_trace 0 := ⟨⟨pv_memi 510 rfl rfl, pv_memi 35 (by decide +kernel) (by decide +kernel), ⟨by decide +kernel, by decide +kernel, by decide +kernel⟩, by decide, by decide +kernel, rfl⟩, pv_memi 508 (by decide +kernel) (by decide +kernel), pv_memi 509 (by decide +kernel) (by decide +kernel)⟩
abbrev vX6_fault : pv_V := (yX6_fault, cX6_fault, 1, (some .int), none)
set_option maxRecDepth 20000 in
theorem oX6_fault : pv_okV vX6_fault 0 := ⟨⟨pv_memi 514 rfl rfl, pv_memi 35 (by decide +kernel) (by decide +kernel), ⟨by decide +kernel, by decide +kernel, by decide +kernel⟩, by decide, by decide +kernel, rfl⟩, pv_memi 512 (by decide +kernel) (by decide +kernel), pv_memi 513 (by decide +kernel) (by decide +kernel)⟩
abbrev vX6_many : pv_V := (yX6_many, cX6_many, 2, (some .int), none)
set_option maxRecDepth 20000 in
theorem oX6_many : pv_okV vX6_many 1 := ⟨⟨pv_memi 518 rfl rfl, pv_memi 35 (by decide +kernel) (by decide +kernel), ⟨by decide +kernel, by decide +kernel, by decide +kernel⟩, by decide, by decide +kernel, rfl⟩, pv_memi 516 (by decide +kernel) (by decide +kernel), pv_memi 517 (by decide +kernel) (by decide +kernel)⟩
abbrev vX6_isSheet : pv_V := (yX6_isSheet, cX6_isSheet, 1, (some .boolean), none)
set_option maxRecDepth 20000 in
theorem oX6_isSheet : pv_okS vX6_isSheet 1 := ⟨⟨pv_memi 236 rfl rfl, pv_memi 35 (by decide +kernel) (by decide +kernel), ⟨by decide +kernel, by decide +kernel, by decide +kernel⟩, by decide, by decide +kernel, rfl⟩, pv_memi 235 (by decide +kernel) (by decide +kernel)⟩
abbrev vX6_isLane : pv_V := (yX6_isLane, cX6_isLane, 1, (some .boolean), none)
set_option maxRecDepth 20000 in
theorem oX6_isLane : pv_okS vX6_isLane 1 := ⟨⟨pv_memi 239 rfl rfl, pv_memi 35 (by decide +kernel) (by decide +kernel), ⟨by decide +kernel, by decide +kernel, by decide +kernel⟩, by decide, by decide +kernel, rfl⟩, pv_memi 238 (by decide +kernel) (by decide +kernel)⟩
abbrev vX6_isHour : pv_V := (yX6_isHour, cX6_isHour, 1, (some .boolean), none)
set_option maxRecDepth 20000 in
theorem oX6_isHour : pv_okS vX6_isHour 1 := ⟨⟨pv_memi 402 rfl rfl, pv_memi 35 (by decide +kernel) (by decide +kernel), ⟨by decide +kernel, by decide +kernel, by decide +kernel⟩, by decide, by decide +kernel, rfl⟩, pv_memi 401 (by decide +kernel) (by decide +kernel)⟩
abbrev vX6_isIn : pv_V := (yX6_isIn, cX6_isIn, 2, (some .boolean), none)
set_option maxRecDepth 20000 in
theorem oX6_isIn : pv_okS vX6_isIn 2 := ⟨⟨pv_memi 314 rfl rfl, pv_memi 35 (by decide +kernel) (by decide +kernel), ⟨by decide +kernel, by decide +kernel, by decide +kernel⟩, by decide, by decide +kernel, rfl⟩, pv_memi 313 (by decide +kernel) (by decide +kernel)⟩
abbrev vX6_answerFault : pv_V := (yX6_answerFault, cX6_answerFault, 2, (some .int), none)
set_option maxRecDepth 20000 in
theorem oX6_answerFault : pv_okV vX6_answerFault 1 := ⟨⟨pv_memi 251 rfl rfl, pv_memi 35 (by decide +kernel) (by decide +kernel), ⟨by decide +kernel, by decide +kernel, by decide +kernel⟩, by decide, by decide +kernel, rfl⟩, pv_memi 250 (by decide +kernel) (by decide +kernel), pv_memi 0 (by decide +kernel) (by decide +kernel)⟩
abbrev vX6_hearRound : pv_V := (yX6_hearRound, cX6_hearRound, 8, (some .int), none)
set_option maxRecDepth 20000 in
theorem oX6_hearRound : pv_okV vX6_hearRound 4 := ⟨⟨pv_memi 302 rfl rfl, pv_memi 35 (by decide +kernel) (by decide +kernel), ⟨by decide +kernel, by decide +kernel, by decide +kernel⟩, by decide, by decide +kernel, rfl⟩, pv_memi 301 (by decide +kernel) (by decide +kernel), pv_memi 1 (by decide +kernel) (by decide +kernel)⟩
abbrev vX6_searchBest : pv_V := (yX6_searchBest, cX6_searchBest, 2, none, none)
set_option maxRecDepth 20000 in
theorem oX6_searchBest : pv_okV vX6_searchBest 1 := ⟨⟨pv_memi 354 rfl rfl, pv_memi 35 (by decide +kernel) (by decide +kernel), ⟨by decide +kernel, by decide +kernel, by decide +kernel⟩, by decide, by decide +kernel, rfl⟩, pv_memi 353 (by decide +kernel) (by decide +kernel), pv_memi 2 (by decide +kernel) (by decide +kernel)⟩
abbrev vX6_takesByBest : pv_V := (yX6_takesByBest, cX6_takesByBest, 4, (some .int), none)
set_option maxRecDepth 20000 in
theorem oX6_takesByBest : pv_okV vX6_takesByBest 1 := ⟨⟨pv_memi 395 rfl rfl, pv_memi 35 (by decide +kernel) (by decide +kernel), ⟨by decide +kernel, by decide +kernel, by decide +kernel⟩, by decide, by decide +kernel, rfl⟩, pv_memi 394 (by decide +kernel) (by decide +kernel), pv_memi 3 (by decide +kernel) (by decide +kernel)⟩
abbrev vX6_searchRead : pv_V := (yX6_searchRead, cX6_searchRead, 1, none, none)
set_option maxRecDepth 20000 in
theorem oX6_searchRead : pv_okV vX6_searchRead 0 := ⟨⟨pv_memi 418 rfl rfl, pv_memi 35 (by decide +kernel) (by decide +kernel), ⟨by decide +kernel, by decide +kernel, by decide +kernel⟩, by decide, by decide +kernel, rfl⟩, pv_memi 417 (by decide +kernel) (by decide +kernel), pv_memi 4 (by decide +kernel) (by decide +kernel)⟩
abbrev vX6_walk : pv_V := (yX6_walk, cX6_walk, 8, none, none)
set_option maxRecDepth 20000 in
theorem oX6_walk : pv_okS vX6_walk 5 := ⟨⟨pv_memi 361 rfl rfl, pv_memi 35 (by decide +kernel) (by decide +kernel), ⟨by decide +kernel, by decide +kernel, by decide +kernel⟩, by decide, by decide +kernel, rfl⟩, pv_memi 360 (by decide +kernel) (by decide +kernel)⟩
abbrev vX6_waysForAtMost : pv_V := (yX6_waysForAtMost, cX6_waysForAtMost, 7, (some .long), none)
set_option maxRecDepth 20000 in
theorem oX6_waysForAtMost : pv_okS vX6_waysForAtMost 2 := ⟨⟨pv_memi 447 rfl rfl, pv_memi 35 (by decide +kernel) (by decide +kernel), ⟨by decide +kernel, by decide +kernel, by decide +kernel⟩, by decide, by decide +kernel, rfl⟩, pv_memi 446 (by decide +kernel) (by decide +kernel)⟩
abbrev vX6_leave : pv_V := (yX6_leave, cX6_leave, 2, none, none)
set_option maxRecDepth 20000 in
theorem oX6_leave : pv_okV vX6_leave 1 := ⟨⟨pv_memi 490 rfl rfl, pv_memi 35 (by decide +kernel) (by decide +kernel), ⟨by decide +kernel, by decide +kernel, by decide +kernel⟩, by decide, by decide +kernel, rfl⟩, pv_memi 489 (by decide +kernel) (by decide +kernel), pv_memi 6 (by decide +kernel) (by decide +kernel)⟩
abbrev vX6_thingTells : pv_V := (yX6_thingTells, cX6_thingTells, 2, (some .int), none)
set_option maxRecDepth 20000 in
theorem oX6_thingTells : pv_okV vX6_thingTells 1 := ⟨⟨pv_memi 498 rfl rfl, pv_memi 35 (by decide +kernel) (by decide +kernel), ⟨by decide +kernel, by decide +kernel, by decide +kernel⟩, by decide, by decide +kernel, rfl⟩, pv_memi 497 (by decide +kernel) (by decide +kernel), pv_memi 8 (by decide +kernel) (by decide +kernel)⟩
abbrev vX6_heirloomTells : pv_V := (yX6_heirloomTells, cX6_heirloomTells, 2, (some .int), none)
set_option maxRecDepth 20000 in
theorem oX6_heirloomTells : pv_okV vX6_heirloomTells 1 := ⟨⟨pv_memi 494 rfl rfl, pv_memi 35 (by decide +kernel) (by decide +kernel), ⟨by decide +kernel, by decide +kernel, by decide +kernel⟩, by decide, by decide +kernel, rfl⟩, pv_memi 493 (by decide +kernel) (by decide +kernel), pv_memi 7 (by decide +kernel) (by decide +kernel)⟩
abbrev vX6_livingTells : pv_V := (yX6_livingTells, cX6_livingTells, 3, (some .int), none)
set_option maxRecDepth 20000 in
theorem oX6_livingTells : pv_okV vX6_livingTells 1 := ⟨⟨pv_memi 486 rfl rfl, pv_memi 35 (by decide +kernel) (by decide +kernel), ⟨by decide +kernel, by decide +kernel, by decide +kernel⟩, by decide, by decide +kernel, rfl⟩, pv_memi 485 (by decide +kernel) (by decide +kernel), pv_memi 5 (by decide +kernel) (by decide +kernel)⟩
abbrev vX7_init : pv_V := (yX7_init, cX7_init, 2, none, none)
abbrev vX7_in : pv_V := (yX7_in, cX7_in, 6, (some .boolean), none)
set_option maxRecDepth 20000 in
theorem oX7_in : pv_okS vX7_in 3 := ⟨⟨pv_memi 638 rfl rfl, pv_memi 41 (by decide +kernel) (by decide +kernel), ⟨by decide +kernel, by decide +kernel, by decide +kernel⟩, by decide, by decide +kernel, rfl⟩, pv_memi 637 (by decide +kernel) (by decide +kernel)⟩
abbrev vX7_lost : pv_V := (yX7_lost, cX7_lost, 0, (some .long), none)
set_option maxRecDepth 20000 in
theorem oX7_lost : pv_okS vX7_lost 0 := ⟨⟨pv_memi 809 rfl rfl, pv_memi 41 (by decide +kernel) (by decide +kernel), ⟨by decide +kernel, by decide +kernel, by decide +kernel⟩, by decide, by decide +kernel, rfl⟩, pv_memi 808 (by decide +kernel) (by decide +kernel)⟩
abbrev vX7_isIn : pv_V := (yX7_isIn, cX7_isIn, 2, (some .boolean), none)
set_option maxRecDepth 20000 in
theorem oX7_isIn : pv_okS vX7_isIn 2 := ⟨⟨pv_memi 722 rfl rfl, pv_memi 41 (by decide +kernel) (by decide +kernel), ⟨by decide +kernel, by decide +kernel, by decide +kernel⟩, by decide, by decide +kernel, rfl⟩, pv_memi 721 (by decide +kernel) (by decide +kernel)⟩
abbrev vX7_told : pv_V := (yX7_told, cX7_told, 11, (some .long), none)
set_option maxRecDepth 20000 in
theorem oX7_told : pv_okS vX7_told 3 := ⟨⟨pv_memi 813 rfl rfl, pv_memi 41 (by decide +kernel) (by decide +kernel), ⟨by decide +kernel, by decide +kernel, by decide +kernel⟩, by decide, by decide +kernel, rfl⟩, pv_memi 812 (by decide +kernel) (by decide +kernel)⟩
abbrev vX7_refused : pv_V := (yX7_refused, cX7_refused, 2, (some .int), none)
set_option maxRecDepth 20000 in
theorem oX7_refused : pv_okV vX7_refused 1 := ⟨⟨pv_memi 642 rfl rfl, pv_memi 41 (by decide +kernel) (by decide +kernel), ⟨by decide +kernel, by decide +kernel, by decide +kernel⟩, by decide, by decide +kernel, rfl⟩, pv_memi 641 (by decide +kernel) (by decide +kernel), pv_memi 9 (by decide +kernel) (by decide +kernel)⟩
abbrev vX7_failed : pv_V := (yX7_failed, cX7_failed, 2, (some .int), none)
set_option maxRecDepth 20000 in
theorem oX7_failed : pv_okV vX7_failed 1 := ⟨⟨pv_memi 651 rfl rfl, pv_memi 41 (by decide +kernel) (by decide +kernel), ⟨by decide +kernel, by decide +kernel, by decide +kernel⟩, by decide, by decide +kernel, rfl⟩, pv_memi 650 (by decide +kernel) (by decide +kernel), pv_memi 11 (by decide +kernel) (by decide +kernel)⟩
abbrev vX7_failedLong : pv_V := (yX7_failedLong, cX7_failedLong, 2, (some .long), none)
set_option maxRecDepth 20000 in
theorem oX7_failedLong : pv_okV vX7_failedLong 1 := ⟨⟨pv_memi 837 rfl rfl, pv_memi 41 (by decide +kernel) (by decide +kernel), ⟨by decide +kernel, by decide +kernel, by decide +kernel⟩, by decide, by decide +kernel, rfl⟩, pv_memi 836 (by decide +kernel) (by decide +kernel), pv_memi 32 (by decide +kernel) (by decide +kernel)⟩
abbrev vX7_noThing : pv_V := (yX7_noThing, cX7_noThing, 2, (some .boolean), none)
set_option maxRecDepth 20000 in
theorem oX7_noThing : pv_okV vX7_noThing 1 := ⟨⟨pv_memi 678 rfl rfl, pv_memi 41 (by decide +kernel) (by decide +kernel), ⟨by decide +kernel, by decide +kernel, by decide +kernel⟩, by decide, by decide +kernel, rfl⟩, pv_memi 677 (by decide +kernel) (by decide +kernel), pv_memi 16 (by decide +kernel) (by decide +kernel)⟩
abbrev vX7_codeAt : pv_V := (yX7_codeAt, cX7_codeAt, 3, (some .int), none)
set_option maxRecDepth 20000 in
theorem oX7_codeAt : pv_okV vX7_codeAt 2 := ⟨⟨pv_memi 662 rfl rfl, pv_memi 41 (by decide +kernel) (by decide +kernel), ⟨by decide +kernel, by decide +kernel, by decide +kernel⟩, by decide, by decide +kernel, rfl⟩, pv_memi 661 (by decide +kernel) (by decide +kernel), pv_memi 13 (by decide +kernel) (by decide +kernel)⟩
abbrev vX7_figure : pv_V := (yX7_figure, cX7_figure, 7, (some .int), none)
set_option maxRecDepth 20000 in
theorem oX7_figure : pv_okV vX7_figure 4 := ⟨⟨pv_memi 666 rfl rfl, pv_memi 41 (by decide +kernel) (by decide +kernel), ⟨by decide +kernel, by decide +kernel, by decide +kernel⟩, by decide, by decide +kernel, rfl⟩, pv_memi 665 (by decide +kernel) (by decide +kernel), pv_memi 14 (by decide +kernel) (by decide +kernel)⟩
abbrev vX7_readsThing : pv_V := (yX7_readsThing, cX7_readsThing, 9, (some .boolean), none)
set_option maxRecDepth 20000 in
theorem oX7_readsThing : pv_okV vX7_readsThing 2 := ⟨⟨pv_memi 670 rfl rfl, pv_memi 41 (by decide +kernel) (by decide +kernel), ⟨by decide +kernel, by decide +kernel, by decide +kernel⟩, by decide, by decide +kernel, rfl⟩, pv_memi 669 (by decide +kernel) (by decide +kernel), pv_memi 15 (by decide +kernel) (by decide +kernel)⟩
abbrev vX7_readsMuseum : pv_V := (yX7_readsMuseum, cX7_readsMuseum, 4, (some .boolean), none)
set_option maxRecDepth 20000 in
theorem oX7_readsMuseum : pv_okV vX7_readsMuseum 2 := ⟨⟨pv_memi 658 rfl rfl, pv_memi 41 (by decide +kernel) (by decide +kernel), ⟨by decide +kernel, by decide +kernel, by decide +kernel⟩, by decide, by decide +kernel, rfl⟩, pv_memi 657 (by decide +kernel) (by decide +kernel), pv_memi 12 (by decide +kernel) (by decide +kernel)⟩
abbrev vX7_cellsBarred : pv_V := (yX7_cellsBarred, cX7_cellsBarred, 6, (some .int), none)
set_option maxRecDepth 20000 in
theorem oX7_cellsBarred : pv_okV vX7_cellsBarred 4 := ⟨⟨pv_memi 647 rfl rfl, pv_memi 41 (by decide +kernel) (by decide +kernel), ⟨by decide +kernel, by decide +kernel, by decide +kernel⟩, by decide, by decide +kernel, rfl⟩, pv_memi 646 (by decide +kernel) (by decide +kernel), pv_memi 10 (by decide +kernel) (by decide +kernel)⟩
abbrev vX7_museum : pv_V := (yX7_museum, cX7_museum, 7, (some .int), none)
set_option maxRecDepth 20000 in
theorem oX7_museum : pv_okV vX7_museum 4 := ⟨⟨pv_memi 631 rfl rfl, pv_memi 41 (by decide +kernel) (by decide +kernel), ⟨by decide +kernel, by decide +kernel, by decide +kernel⟩, by decide, by decide +kernel, rfl⟩, pv_memi 629 (by decide +kernel) (by decide +kernel), pv_memi 630 (by decide +kernel) (by decide +kernel)⟩
abbrev vX7_valueOf : pv_V := (yX7_valueOf, cX7_valueOf, 3, (some .int), none)
set_option maxRecDepth 20000 in
theorem oX7_valueOf : pv_okV vX7_valueOf 1 := ⟨⟨pv_memi 682 rfl rfl, pv_memi 41 (by decide +kernel) (by decide +kernel), ⟨by decide +kernel, by decide +kernel, by decide +kernel⟩, by decide, by decide +kernel, rfl⟩, pv_memi 681 (by decide +kernel) (by decide +kernel), pv_memi 17 (by decide +kernel) (by decide +kernel)⟩
abbrev vX7_ofThing : pv_V := (yX7_ofThing, cX7_ofThing, 3, (some .int), none)
set_option maxRecDepth 20000 in
theorem oX7_ofThing : pv_okV vX7_ofThing 2 := ⟨⟨pv_memi 674 rfl rfl, pv_memi 41 (by decide +kernel) (by decide +kernel), ⟨by decide +kernel, by decide +kernel, by decide +kernel⟩, by decide, by decide +kernel, rfl⟩, pv_memi 672 (by decide +kernel) (by decide +kernel), pv_memi 673 (by decide +kernel) (by decide +kernel)⟩
abbrev vX7_penalty : pv_V := (yX7_penalty, cX7_penalty, 3, (some .int), none)
set_option maxRecDepth 20000 in
theorem oX7_penalty : pv_okV vX7_penalty 1 := ⟨⟨pv_memi 686 rfl rfl, pv_memi 41 (by decide +kernel) (by decide +kernel), ⟨by decide +kernel, by decide +kernel, by decide +kernel⟩, by decide, by decide +kernel, rfl⟩, pv_memi 684 (by decide +kernel) (by decide +kernel), pv_memi 685 (by decide +kernel) (by decide +kernel)⟩
abbrev vX7_law : pv_V := (yX7_law, cX7_law, 3, (some .int), none)
set_option maxRecDepth 20000 in
theorem oX7_law : pv_okV vX7_law 1 := ⟨⟨pv_memi 691 rfl rfl, pv_memi 41 (by decide +kernel) (by decide +kernel), ⟨by decide +kernel, by decide +kernel, by decide +kernel⟩, by decide, by decide +kernel, rfl⟩, pv_memi 689 (by decide +kernel) (by decide +kernel), pv_memi 690 (by decide +kernel) (by decide +kernel)⟩
abbrev vX7_use : pv_V := (yX7_use, cX7_use, 4, (some .int), none)
set_option maxRecDepth 20000 in
theorem oX7_use : pv_okV vX7_use 2 := ⟨⟨pv_memi 695 rfl rfl, pv_memi 41 (by decide +kernel) (by decide +kernel), ⟨by decide +kernel, by decide +kernel, by decide +kernel⟩, by decide, by decide +kernel, rfl⟩, pv_memi 693 (by decide +kernel) (by decide +kernel), pv_memi 694 (by decide +kernel) (by decide +kernel)⟩
abbrev vX7_casesOf : pv_V := (yX7_casesOf, cX7_casesOf, 4, (some .int), none)
set_option maxRecDepth 20000 in
theorem oX7_casesOf : pv_okV vX7_casesOf 1 := ⟨⟨pv_memi 715 rfl rfl, pv_memi 41 (by decide +kernel) (by decide +kernel), ⟨by decide +kernel, by decide +kernel, by decide +kernel⟩, by decide, by decide +kernel, rfl⟩, pv_memi 714 (by decide +kernel) (by decide +kernel), pv_memi 20 (by decide +kernel) (by decide +kernel)⟩
abbrev vX7_takingOf : pv_V := (yX7_takingOf, cX7_takingOf, 5, (some .int), none)
set_option maxRecDepth 20000 in
theorem oX7_takingOf : pv_okV vX7_takingOf 2 := ⟨⟨pv_memi 719 rfl rfl, pv_memi 41 (by decide +kernel) (by decide +kernel), ⟨by decide +kernel, by decide +kernel, by decide +kernel⟩, by decide, by decide +kernel, rfl⟩, pv_memi 718 (by decide +kernel) (by decide +kernel), pv_memi 21 (by decide +kernel) (by decide +kernel)⟩
abbrev vX7_missedIn : pv_V := (yX7_missedIn, cX7_missedIn, 4, (some .int), none)
set_option maxRecDepth 20000 in
theorem oX7_missedIn : pv_okV vX7_missedIn 1 := ⟨⟨pv_memi 726 rfl rfl, pv_memi 41 (by decide +kernel) (by decide +kernel), ⟨by decide +kernel, by decide +kernel, by decide +kernel⟩, by decide, by decide +kernel, rfl⟩, pv_memi 725 (by decide +kernel) (by decide +kernel), pv_memi 22 (by decide +kernel) (by decide +kernel)⟩
abbrev vX7_goRound : pv_V := (yX7_goRound, cX7_goRound, 4, (some .boolean), none)
set_option maxRecDepth 20000 in
theorem oX7_goRound : pv_okV vX7_goRound 0 := ⟨⟨pv_memi 711 rfl rfl, pv_memi 41 (by decide +kernel) (by decide +kernel), ⟨by decide +kernel, by decide +kernel, by decide +kernel⟩, by decide, by decide +kernel, rfl⟩, pv_memi 710 (by decide +kernel) (by decide +kernel), pv_memi 19 (by decide +kernel) (by decide +kernel)⟩
abbrev vX7_leftNow : pv_V := (yX7_leftNow, cX7_leftNow, 1, (some .int), none)
set_option maxRecDepth 20000 in
theorem oX7_leftNow : pv_okV vX7_leftNow 0 := ⟨⟨pv_memi 730 rfl rfl, pv_memi 41 (by decide +kernel) (by decide +kernel), ⟨by decide +kernel, by decide +kernel, by decide +kernel⟩, by decide, by decide +kernel, rfl⟩, pv_memi 729 (by decide +kernel) (by decide +kernel), pv_memi 23 (by decide +kernel) (by decide +kernel)⟩
abbrev vX7_roundBarred : pv_V := (yX7_roundBarred, cX7_roundBarred, 6, (some .int), none)
set_option maxRecDepth 20000 in
theorem oX7_roundBarred : pv_okV vX7_roundBarred 3 := ⟨⟨pv_memi 706 rfl rfl, pv_memi 41 (by decide +kernel) (by decide +kernel), ⟨by decide +kernel, by decide +kernel, by decide +kernel⟩, by decide, by decide +kernel, rfl⟩, pv_memi 705 (by decide +kernel) (by decide +kernel), pv_memi 18 (by decide +kernel) (by decide +kernel)⟩
abbrev vX7_round : pv_V := (yX7_round, cX7_round, 7, (some .int), none)
set_option maxRecDepth 20000 in
theorem oX7_round : pv_okV vX7_round 4 := ⟨⟨pv_memi 700 rfl rfl, pv_memi 41 (by decide +kernel) (by decide +kernel), ⟨by decide +kernel, by decide +kernel, by decide +kernel⟩, by decide, by decide +kernel, rfl⟩, pv_memi 698 (by decide +kernel) (by decide +kernel), pv_memi 699 (by decide +kernel) (by decide +kernel)⟩
abbrev vX7_rows : pv_V := (yX7_rows, cX7_rows, 3, (some .int), none)
set_option maxRecDepth 20000 in
theorem oX7_rows : pv_okV vX7_rows 0 := ⟨⟨pv_memi 744 rfl rfl, pv_memi 41 (by decide +kernel) (by decide +kernel), ⟨by decide +kernel, by decide +kernel, by decide +kernel⟩, by decide, by decide +kernel, rfl⟩, pv_memi 743 (by decide +kernel) (by decide +kernel), pv_memi 25 (by decide +kernel) (by decide +kernel)⟩
abbrev vX7_layRow : pv_V := (yX7_layRow, cX7_layRow, 5, none, none)
set_option maxRecDepth 20000 in
theorem oX7_layRow : pv_okV vX7_layRow 1 := ⟨⟨pv_memi 748 rfl rfl, pv_memi 41 (by decide +kernel) (by decide +kernel), ⟨by decide +kernel, by decide +kernel, by decide +kernel⟩, by decide, by decide +kernel, rfl⟩, pv_memi 747 (by decide +kernel) (by decide +kernel), pv_memi 26 (by decide +kernel) (by decide +kernel)⟩
abbrev vX7_bestRow : pv_V := (yX7_bestRow, cX7_bestRow, 3, (some .int), none)
set_option maxRecDepth 20000 in
theorem oX7_bestRow : pv_okV vX7_bestRow 0 := ⟨⟨pv_memi 740 rfl rfl, pv_memi 41 (by decide +kernel) (by decide +kernel), ⟨by decide +kernel, by decide +kernel, by decide +kernel⟩, by decide, by decide +kernel, rfl⟩, pv_memi 739 (by decide +kernel) (by decide +kernel), pv_memi 24 (by decide +kernel) (by decide +kernel)⟩
abbrev vX7_best : pv_V := (yX7_best, cX7_best, 3, (some .int), none)
set_option maxRecDepth 20000 in
theorem oX7_best : pv_okV vX7_best 1 := ⟨⟨pv_memi 734 rfl rfl, pv_memi 41 (by decide +kernel) (by decide +kernel), ⟨by decide +kernel, by decide +kernel, by decide +kernel⟩, by decide, by decide +kernel, rfl⟩, pv_memi 732 (by decide +kernel) (by decide +kernel), pv_memi 733 (by decide +kernel) (by decide +kernel)⟩
abbrev vX7_mild : pv_V := (yX7_mild, cX7_mild, 5, (some .int), none)
set_option maxRecDepth 20000 in
theorem oX7_mild : pv_okV vX7_mild 1 := ⟨⟨pv_memi 752 rfl rfl, pv_memi 41 (by decide +kernel) (by decide +kernel), ⟨by decide +kernel, by decide +kernel, by decide +kernel⟩, by decide, by decide +kernel, rfl⟩, pv_memi 750 (by decide +kernel) (by decide +kernel), pv_memi 751 (by decide +kernel) (by decide +kernel)⟩
abbrev vX7_worth : pv_V := (yX7_worth, cX7_worth, 3, (some .int), none)
set_option maxRecDepth 20000 in
theorem oX7_worth : pv_okV vX7_worth 1 := ⟨⟨pv_memi 757 rfl rfl, pv_memi 41 (by decide +kernel) (by decide +kernel), ⟨by decide +kernel, by decide +kernel, by decide +kernel⟩, by decide, by decide +kernel, rfl⟩, pv_memi 755 (by decide +kernel) (by decide +kernel), pv_memi 756 (by decide +kernel) (by decide +kernel)⟩
abbrev vX7_takesOf : pv_V := (yX7_takesOf, cX7_takesOf, 4, (some .int), none)
set_option maxRecDepth 20000 in
theorem oX7_takesOf : pv_okV vX7_takesOf 1 := ⟨⟨pv_memi 765 rfl rfl, pv_memi 41 (by decide +kernel) (by decide +kernel), ⟨by decide +kernel, by decide +kernel, by decide +kernel⟩, by decide, by decide +kernel, rfl⟩, pv_memi 764 (by decide +kernel) (by decide +kernel), pv_memi 27 (by decide +kernel) (by decide +kernel)⟩
abbrev vX7_shift : pv_V := (yX7_shift, cX7_shift, 7, (some .int), none)
set_option maxRecDepth 20000 in
theorem oX7_shift : pv_okV vX7_shift 1 := ⟨⟨pv_memi 761 rfl rfl, pv_memi 41 (by decide +kernel) (by decide +kernel), ⟨by decide +kernel, by decide +kernel, by decide +kernel⟩, by decide, by decide +kernel, rfl⟩, pv_memi 759 (by decide +kernel) (by decide +kernel), pv_memi 760 (by decide +kernel) (by decide +kernel)⟩
abbrev vX7_reading : pv_V := (yX7_reading, cX7_reading, 4, (some .int), none)
set_option maxRecDepth 20000 in
theorem oX7_reading : pv_okV vX7_reading 3 := ⟨⟨pv_memi 769 rfl rfl, pv_memi 41 (by decide +kernel) (by decide +kernel), ⟨by decide +kernel, by decide +kernel, by decide +kernel⟩, by decide, by decide +kernel, rfl⟩, pv_memi 767 (by decide +kernel) (by decide +kernel), pv_memi 768 (by decide +kernel) (by decide +kernel)⟩
abbrev vX7_back : pv_V := (yX7_back, cX7_back, 2, (some .int), none)
set_option maxRecDepth 20000 in
theorem oX7_back : pv_okV vX7_back 1 := ⟨⟨pv_memi 773 rfl rfl, pv_memi 41 (by decide +kernel) (by decide +kernel), ⟨by decide +kernel, by decide +kernel, by decide +kernel⟩, by decide, by decide +kernel, rfl⟩, pv_memi 771 (by decide +kernel) (by decide +kernel), pv_memi 772 (by decide +kernel) (by decide +kernel)⟩
abbrev vX7_isSo : pv_V := (yX7_isSo, cX7_isSo, 4, (some .boolean), none)
set_option maxRecDepth 20000 in
theorem oX7_isSo : pv_okV vX7_isSo 1 := ⟨⟨pv_memi 781 rfl rfl, pv_memi 41 (by decide +kernel) (by decide +kernel), ⟨by decide +kernel, by decide +kernel, by decide +kernel⟩, by decide, by decide +kernel, rfl⟩, pv_memi 780 (by decide +kernel) (by decide +kernel), pv_memi 28 (by decide +kernel) (by decide +kernel)⟩
abbrev vX7_rounds : pv_V := (yX7_rounds, cX7_rounds, 5, (some .int), none)
set_option maxRecDepth 20000 in
theorem oX7_rounds : pv_okV vX7_rounds 1 := ⟨⟨pv_memi 777 rfl rfl, pv_memi 41 (by decide +kernel) (by decide +kernel), ⟨by decide +kernel, by decide +kernel, by decide +kernel⟩, by decide, by decide +kernel, rfl⟩, pv_memi 775 (by decide +kernel) (by decide +kernel), pv_memi 776 (by decide +kernel) (by decide +kernel)⟩
abbrev vX7_sure : pv_V := (yX7_sure, cX7_sure, 4, (some .int), none)
set_option maxRecDepth 20000 in
theorem oX7_sure : pv_okV vX7_sure 1 := ⟨⟨pv_memi 785 rfl rfl, pv_memi 41 (by decide +kernel) (by decide +kernel), ⟨by decide +kernel, by decide +kernel, by decide +kernel⟩, by decide, by decide +kernel, rfl⟩, pv_memi 783 (by decide +kernel) (by decide +kernel), pv_memi 784 (by decide +kernel) (by decide +kernel)⟩
abbrev vX7_seenBarred : pv_V := (yX7_seenBarred, cX7_seenBarred, 6, (some .int), none)
set_option maxRecDepth 20000 in
theorem oX7_seenBarred : pv_okV vX7_seenBarred 4 := ⟨⟨pv_memi 793 rfl rfl, pv_memi 41 (by decide +kernel) (by decide +kernel), ⟨by decide +kernel, by decide +kernel, by decide +kernel⟩, by decide, by decide +kernel, rfl⟩, pv_memi 792 (by decide +kernel) (by decide +kernel), pv_memi 29 (by decide +kernel) (by decide +kernel)⟩
abbrev vX7_laws : pv_V := (yX7_laws, cX7_laws, 9, (some .int), none)
set_option maxRecDepth 20000 in
theorem oX7_laws : pv_okV vX7_laws 4 := ⟨⟨pv_memi 789 rfl rfl, pv_memi 41 (by decide +kernel) (by decide +kernel), ⟨by decide +kernel, by decide +kernel, by decide +kernel⟩, by decide, by decide +kernel, rfl⟩, pv_memi 787 (by decide +kernel) (by decide +kernel), pv_memi 788 (by decide +kernel) (by decide +kernel)⟩
abbrev vX7_used : pv_V := (yX7_used, cX7_used, 10, (some .int), none)
set_option maxRecDepth 20000 in
theorem oX7_used : pv_okV vX7_used 5 := ⟨⟨pv_memi 798 rfl rfl, pv_memi 41 (by decide +kernel) (by decide +kernel), ⟨by decide +kernel, by decide +kernel, by decide +kernel⟩, by decide, by decide +kernel, rfl⟩, pv_memi 796 (by decide +kernel) (by decide +kernel), pv_memi 797 (by decide +kernel) (by decide +kernel)⟩
abbrev vX7_refusedLong : pv_V := (yX7_refusedLong, cX7_refusedLong, 1, (some .long), none)
set_option maxRecDepth 20000 in
theorem oX7_refusedLong : pv_okV vX7_refusedLong 0 := ⟨⟨pv_memi 806 rfl rfl, pv_memi 41 (by decide +kernel) (by decide +kernel), ⟨by decide +kernel, by decide +kernel, by decide +kernel⟩, by decide, by decide +kernel, rfl⟩, pv_memi 805 (by decide +kernel) (by decide +kernel), pv_memi 30 (by decide +kernel) (by decide +kernel)⟩
abbrev vX7_odds : pv_V := (yX7_odds, cX7_odds, 11, (some .long), none)
set_option maxRecDepth 20000 in
theorem oX7_odds : pv_okV vX7_odds 5 := ⟨⟨pv_memi 802 rfl rfl, pv_memi 41 (by decide +kernel) (by decide +kernel), ⟨by decide +kernel, by decide +kernel, by decide +kernel⟩, by decide, by decide +kernel, rfl⟩, pv_memi 800 (by decide +kernel) (by decide +kernel), pv_memi 801 (by decide +kernel) (by decide +kernel)⟩
abbrev vX7_noSheet : pv_V := (yX7_noSheet, cX7_noSheet, 1, (some .boolean), none)
set_option maxRecDepth 20000 in
theorem oX7_noSheet : pv_okS vX7_noSheet 1 := ⟨⟨pv_memi 634 rfl rfl, pv_memi 41 (by decide +kernel) (by decide +kernel), ⟨by decide +kernel, by decide +kernel, by decide +kernel⟩, by decide, by decide +kernel, rfl⟩, pv_memi 633 (by decide +kernel) (by decide +kernel)⟩
abbrev vX7_sheet : pv_V := (yX7_sheet, cX7_sheet, 5, (some .int), none)
set_option maxRecDepth 20000 in
theorem oX7_sheet : pv_okV vX7_sheet 3 := ⟨⟨pv_memi 817 rfl rfl, pv_memi 41 (by decide +kernel) (by decide +kernel), ⟨by decide +kernel, by decide +kernel, by decide +kernel⟩, by decide, by decide +kernel, rfl⟩, pv_memi 815 (by decide +kernel) (by decide +kernel), pv_memi 816 (by decide +kernel) (by decide +kernel)⟩
abbrev vX7_lose : pv_V := (yX7_lose, cX7_lose, 3, (some .int), none)
set_option maxRecDepth 20000 in
theorem oX7_lose : pv_okV vX7_lose 1 := ⟨⟨pv_memi 821 rfl rfl, pv_memi 41 (by decide +kernel) (by decide +kernel), ⟨by decide +kernel, by decide +kernel, by decide +kernel⟩, by decide, by decide +kernel, rfl⟩, pv_memi 819 (by decide +kernel) (by decide +kernel), pv_memi 820 (by decide +kernel) (by decide +kernel)⟩
abbrev vX7_noCell : pv_V := (yX7_noCell, cX7_noCell, 3, (some .int), none)
set_option maxRecDepth 20000 in
theorem oX7_noCell : pv_okV vX7_noCell 2 := ⟨⟨pv_memi 829 rfl rfl, pv_memi 41 (by decide +kernel) (by decide +kernel), ⟨by decide +kernel, by decide +kernel, by decide +kernel⟩, by decide, by decide +kernel, rfl⟩, pv_memi 828 (by decide +kernel) (by decide +kernel), pv_memi 31 (by decide +kernel) (by decide +kernel)⟩
abbrev vX7_put : pv_V := (yX7_put, cX7_put, 4, (some .int), none)
set_option maxRecDepth 20000 in
theorem oX7_put : pv_okV vX7_put 3 := ⟨⟨pv_memi 825 rfl rfl, pv_memi 41 (by decide +kernel) (by decide +kernel), ⟨by decide +kernel, by decide +kernel, by decide +kernel⟩, by decide, by decide +kernel, rfl⟩, pv_memi 823 (by decide +kernel) (by decide +kernel), pv_memi 824 (by decide +kernel) (by decide +kernel)⟩
abbrev vX7_cell : pv_V := (yX7_cell, cX7_cell, 4, (some .long), none)
set_option maxRecDepth 20000 in
theorem oX7_cell : pv_okV vX7_cell 3 := ⟨⟨pv_memi 833 rfl rfl, pv_memi 41 (by decide +kernel) (by decide +kernel), ⟨by decide +kernel, by decide +kernel, by decide +kernel⟩, by decide, by decide +kernel, rfl⟩, pv_memi 831 (by decide +kernel) (by decide +kernel), pv_memi 832 (by decide +kernel) (by decide +kernel)⟩
abbrev vX7_isBeyond : pv_V := (yX7_isBeyond, cX7_isBeyond, 4, (some .boolean), none)
set_option maxRecDepth 20000 in
theorem oX7_isBeyond : pv_okS vX7_isBeyond 3 := ⟨⟨pv_memi 654 rfl rfl, pv_memi 41 (by decide +kernel) (by decide +kernel), ⟨by decide +kernel, by decide +kernel, by decide +kernel⟩, by decide, by decide +kernel, rfl⟩, pv_memi 653 (by decide +kernel) (by decide +kernel)⟩
abbrev vX7_copy : pv_V := (yX7_copy, cX7_copy, 7, (some .int), none)
set_option maxRecDepth 20000 in
theorem oX7_copy : pv_okV vX7_copy 5 := ⟨⟨pv_memi 841 rfl rfl, pv_memi 41 (by decide +kernel) (by decide +kernel), ⟨by decide +kernel, by decide +kernel, by decide +kernel⟩, by decide, by decide +kernel, rfl⟩, pv_memi 839 (by decide +kernel) (by decide +kernel), pv_memi 840 (by decide +kernel) (by decide +kernel)⟩
abbrev vX7_traced : pv_V := (yX7_traced, cX7_traced, 2, none, none)
set_option maxRecDepth 20000 in
theorem oX7_traced : pv_okV vX7_traced 1 := ⟨⟨pv_memi 849 rfl rfl, pv_memi 41 (by decide +kernel) (by decide +kernel), ⟨by decide +kernel, by decide +kernel, by decide +kernel⟩, by decide, by decide +kernel, rfl⟩, pv_memi 848 (by decide +kernel) (by decide +kernel), pv_memi 33 (by decide +kernel) (by decide +kernel)⟩
abbrev vX7_tell : pv_V := (yX7_tell, cX7_tell, 4, (some .int), none)
set_option maxRecDepth 20000 in
theorem oX7_tell : pv_okV vX7_tell 1 := ⟨⟨pv_memi 845 rfl rfl, pv_memi 41 (by decide +kernel) (by decide +kernel), ⟨by decide +kernel, by decide +kernel, by decide +kernel⟩, by decide, by decide +kernel, rfl⟩, pv_memi 843 (by decide +kernel) (by decide +kernel), pv_memi 844 (by decide +kernel) (by decide +kernel)⟩
abbrev vX7_label : pv_V := (yX7_label, cX7_label, 2, (some .int), none)
set_option maxRecDepth 20000 in
theorem oX7_label : pv_okV vX7_label 1 := ⟨⟨pv_memi 853 rfl rfl, pv_memi 41 (by decide +kernel) (by decide +kernel), ⟨by decide +kernel, by decide +kernel, by decide +kernel⟩, by decide, by decide +kernel, rfl⟩, pv_memi 851 (by decide +kernel) (by decide +kernel), pv_memi 852 (by decide +kernel) (by decide +kernel)⟩
abbrev vX7_as : pv_V := (yX7_as, cX7_as, 3, (some .int), none)
set_option maxRecDepth 20000 in
theorem oX7_as : pv_okV vX7_as 2 := ⟨⟨pv_memi 857 rfl rfl, pv_memi 41 (by decide +kernel) (by decide +kernel), ⟨by decide +kernel, by decide +kernel, by decide +kernel⟩, by decide, by decide +kernel, rfl⟩, pv_memi 855 (by decide +kernel) (by decide +kernel), pv_memi 856 (by decide +kernel) (by decide +kernel)⟩
abbrev vX7_trace : pv_V := (yX7_trace, cX7_trace, 1, (some .int), none)
set_option maxRecDepth 20000 in
theorem oX7_trace : pv_okV vX7_trace 0 := ⟨⟨pv_memi 861 rfl rfl, pv_memi 41 (by decide +kernel) (by decide +kernel), ⟨by decide +kernel, by decide +kernel, by decide +kernel⟩, by decide, by decide +kernel, rfl⟩, pv_memi 859 (by decide +kernel) (by decide +kernel), pv_memi 860 (by decide +kernel) (by decide +kernel)⟩
abbrev vX7_fault : pv_V := (yX7_fault, cX7_fault, 1, (some .int), none)
set_option maxRecDepth 20000 in
theorem oX7_fault : pv_okV vX7_fault 0 := ⟨⟨pv_memi 865 rfl rfl, pv_memi 41 (by decide +kernel) (by decide +kernel), ⟨by decide +kernel, by decide +kernel, by decide +kernel⟩, by decide, by decide +kernel, rfl⟩, pv_memi 863 (by decide +kernel) (by decide +kernel), pv_memi 864 (by decide +kernel) (by decide +kernel)⟩
abbrev vX7_many : pv_V := (yX7_many, cX7_many, 2, (some .int), none)
set_option maxRecDepth 20000 in
theorem oX7_many : pv_okV vX7_many 1 := ⟨⟨pv_memi 869 rfl rfl, pv_memi 41 (by decide +kernel) (by decide +kernel), ⟨by decide +kernel, by decide +kernel, by decide +kernel⟩, by decide, by decide +kernel, rfl⟩, pv_memi 867 (by decide +kernel) (by decide +kernel), pv_memi 868 (by decide +kernel) (by decide +kernel)⟩
abbrev vJ6_bitCount_0f7a4 : pv_V := (yJ6_bitCount_0f7a4, cJ6_bitCount_0f7a4, 1, (some .int), none)
set_option maxRecDepth 20000 in
theorem oJ6_bitCount_0f7a4 : pv_okS vJ6_bitCount_0f7a4 1 := ⟨⟨pv_memi 330 rfl rfl, pv_memi 43 (by decide +kernel) (by decide +kernel), ⟨by decide +kernel, by decide +kernel, by decide +kernel⟩, by decide, by decide +kernel, rfl⟩, pv_memi 329 (by decide +kernel) (by decide +kernel)⟩
theorem lL_9 : Cond.methodLink RL 9 yX6_init ∈ pv_T := pv_memi 47 (by decide +kernel) (by decide +kernel)
theorem lX6_20 : Cond.methodLink RX6 20 yX0_init ∈ pv_T := pv_memi 79 (by decide +kernel) (by decide +kernel)
theorem lL_13 : Cond.methodLink RL 13 yX6_museum ∈ pv_T := pv_memi 230 (by decide +kernel) (by decide +kernel)
theorem lX6_47 : Cond.methodLink RX6 47 yX6_isSheet ∈ pv_T := pv_memi 234 (by decide +kernel) (by decide +kernel)
theorem lX6_51 : Cond.methodLink RX6 51 yX6_isLane ∈ pv_T := pv_memi 237 (by decide +kernel) (by decide +kernel)
theorem lX6_54 : Cond.methodLink RX6 54 yX3_faultOfCells ∈ pv_T := pv_memi 240 (by decide +kernel) (by decide +kernel)
theorem lX3_26 : Cond.methodLink RX3 26 yX3_holds ∈ pv_T := pv_memi 244 (by decide +kernel) (by decide +kernel)
theorem lX6_58 : Cond.methodLink RX6 58 yX6_answerFault ∈ pv_T := pv_memi 248 (by decide +kernel) (by decide +kernel)
theorem lX6_65 : Cond.methodLink RX6 65 yX4_firstFault ∈ pv_T := pv_memi 252 (by decide +kernel) (by decide +kernel)
theorem lX4_11 : Cond.methodLink RX4 11 yX4_goesOn ∈ pv_T := pv_memi 255 (by decide +kernel) (by decide +kernel)
theorem lX4_15 : Cond.methodLink RX4 15 yX4_isDigit ∈ pv_T := pv_memi 258 (by decide +kernel) (by decide +kernel)
theorem lX6_71 : Cond.methodLink RX6 71 yX4_fill ∈ pv_T := pv_memi 261 (by decide +kernel) (by decide +kernel)
theorem lX4_34 : Cond.methodLink RX4 34 yX4_kindOf ∈ pv_T := pv_memi 264 (by decide +kernel) (by decide +kernel)
theorem lL_18 : Cond.methodLink RL 18 yX6_ofThing ∈ pv_T := pv_memi 267 (by decide +kernel) (by decide +kernel)
theorem lX6_79 : Cond.methodLink RX6 79 yX0_has ∈ pv_T := pv_memi 271 (by decide +kernel) (by decide +kernel)
theorem lX6_103 : Cond.methodLink RX6 103 yX5_value ∈ pv_T := pv_memi 275 (by decide +kernel) (by decide +kernel)
theorem lL_23 : Cond.methodLink RL 23 yX6_penalty ∈ pv_T := pv_memi 279 (by decide +kernel) (by decide +kernel)
theorem lX6_107 : Cond.methodLink RX6 107 yX0_stands ∈ pv_T := pv_memi 283 (by decide +kernel) (by decide +kernel)
theorem lL_28 : Cond.methodLink RL 28 yX6_law ∈ pv_T := pv_memi 287 (by decide +kernel) (by decide +kernel)
theorem lL_32 : Cond.methodLink RL 32 yX6_use ∈ pv_T := pv_memi 291 (by decide +kernel) (by decide +kernel)
theorem lL_36 : Cond.methodLink RL 36 yX6_round ∈ pv_T := pv_memi 295 (by decide +kernel) (by decide +kernel)
theorem lX6_117 : Cond.methodLink RX6 117 yX6_hearRound ∈ pv_T := pv_memi 299 (by decide +kernel) (by decide +kernel)
theorem lX6_121 : Cond.methodLink RX6 121 yX0_firstWrong ∈ pv_T := pv_memi 303 (by decide +kernel) (by decide +kernel)
theorem lX0_22 : Cond.methodLink RX0 22 yX0_has ∈ pv_T := pv_memi 307 (by decide +kernel) (by decide +kernel)
theorem lX0_29 : Cond.methodLink RX0 29 yX0_casesBy ∈ pv_T := pv_memi 308 (by decide +kernel) (by decide +kernel)
theorem lX6_125 : Cond.methodLink RX6 125 yX0_casesBy ∈ pv_T := pv_memi 315 (by decide +kernel) (by decide +kernel)
theorem lX6_128 : Cond.methodLink RX6 128 yX0_missedBy ∈ pv_T := pv_memi 316 (by decide +kernel) (by decide +kernel)
theorem lX0_41 : Cond.methodLink RX0 41 yX0_missedByTake ∈ pv_T := pv_memi 320 (by decide +kernel) (by decide +kernel)
theorem lX0_45 : Cond.methodLink RX0 45 yX5_span ∈ pv_T := pv_memi 324 (by decide +kernel) (by decide +kernel)
theorem lX0_62 : Cond.methodLink RX0 62 yJ6_bitCount_0f7a4 ∈ pv_T := pv_memi 328 (by decide +kernel) (by decide +kernel)
theorem lX6_131 : Cond.methodLink RX6 131 yX0_takingsBy ∈ pv_T := pv_memi 334 (by decide +kernel) (by decide +kernel)
theorem lX0_37 : Cond.methodLink RX0 37 yX0_gain ∈ pv_T := pv_memi 338 (by decide +kernel) (by decide +kernel)
theorem lX0_49 : Cond.methodLink RX0 49 yX5_value ∈ pv_T := pv_memi 342 (by decide +kernel) (by decide +kernel)
theorem lX0_56 : Cond.methodLink RX0 56 yX0_isLast ∈ pv_T := pv_memi 343 (by decide +kernel) (by decide +kernel)
theorem lL_40 : Cond.methodLink RL 40 yX6_best ∈ pv_T := pv_memi 347 (by decide +kernel) (by decide +kernel)
theorem lX6_135 : Cond.methodLink RX6 135 yX6_searchBest ∈ pv_T := pv_memi 351 (by decide +kernel) (by decide +kernel)
theorem lX6_145 : Cond.methodLink RX6 145 yX2_clear ∈ pv_T := pv_memi 355 (by decide +kernel) (by decide +kernel)
theorem lX6_151 : Cond.methodLink RX6 151 yX6_walk ∈ pv_T := pv_memi 359 (by decide +kernel) (by decide +kernel)
theorem lX6_244 : Cond.methodLink RX6 244 yX2_arrive ∈ pv_T := pv_memi 362 (by decide +kernel) (by decide +kernel)
theorem lX2_46 : Cond.methodLink RX2 46 arraycopyName ∈ pv_T := pv_memi 366 (by decide +kernel) (by decide +kernel)
theorem lX6_251 : Cond.methodLink RX6 251 yX2_fits ∈ pv_T := pv_memi 369 (by decide +kernel) (by decide +kernel)
theorem lX6_254 : Cond.methodLink RX6 254 yX2_note ∈ pv_T := pv_memi 373 (by decide +kernel) (by decide +kernel)
theorem lX6_161 : Cond.methodLink RX6 161 yX6_isIn ∈ pv_T := pv_memi 377 (by decide +kernel) (by decide +kernel)
theorem lX6_257 : Cond.methodLink RX6 257 yX0_gain ∈ pv_T := pv_memi 378 (by decide +kernel) (by decide +kernel)
theorem lX6_261 : Cond.methodLink RX6 261 yX0_missedByTake ∈ pv_T := pv_memi 379 (by decide +kernel) (by decide +kernel)
theorem lL_44 : Cond.methodLink RL 44 yX6_mild ∈ pv_T := pv_memi 380 (by decide +kernel) (by decide +kernel)
theorem lL_48 : Cond.methodLink RL 48 yX6_worth ∈ pv_T := pv_memi 384 (by decide +kernel) (by decide +kernel)
theorem lL_52 : Cond.methodLink RL 52 yX6_shift ∈ pv_T := pv_memi 388 (by decide +kernel) (by decide +kernel)
theorem lX6_158 : Cond.methodLink RX6 158 yX6_takesByBest ∈ pv_T := pv_memi 392 (by decide +kernel) (by decide +kernel)
theorem lL_56 : Cond.methodLink RL 56 yX6_reading ∈ pv_T := pv_memi 396 (by decide +kernel) (by decide +kernel)
theorem lX6_165 : Cond.methodLink RX6 165 yX6_isHour ∈ pv_T := pv_memi 400 (by decide +kernel) (by decide +kernel)
theorem lX6_168 : Cond.methodLink RX6 168 yX1_add ∈ pv_T := pv_memi 403 (by decide +kernel) (by decide +kernel)
theorem lL_61 : Cond.methodLink RL 61 yX6_back ∈ pv_T := pv_memi 407 (by decide +kernel) (by decide +kernel)
theorem lL_65 : Cond.methodLink RL 65 yX6_rounds ∈ pv_T := pv_memi 411 (by decide +kernel) (by decide +kernel)
theorem lX6_172 : Cond.methodLink RX6 172 yX6_searchRead ∈ pv_T := pv_memi 415 (by decide +kernel) (by decide +kernel)
theorem lX6_240 : Cond.methodLink RX6 240 yX1_bind ∈ pv_T := pv_memi 419 (by decide +kernel) (by decide +kernel)
theorem lL_69 : Cond.methodLink RL 69 yX6_sure ∈ pv_T := pv_memi 423 (by decide +kernel) (by decide +kernel)
theorem lL_73 : Cond.methodLink RL 73 yX6_laws ∈ pv_T := pv_memi 427 (by decide +kernel) (by decide +kernel)
theorem lL_77 : Cond.methodLink RL 77 yX6_used ∈ pv_T := pv_memi 431 (by decide +kernel) (by decide +kernel)
theorem lX6_182 : Cond.methodLink RX6 182 yX0_hoursInCase ∈ pv_T := pv_memi 435 (by decide +kernel) (by decide +kernel)
theorem lX6_185 : Cond.methodLink RX6 185 yJ6_bitCount_0f7a4 ∈ pv_T := pv_memi 439 (by decide +kernel) (by decide +kernel)
theorem lL_82 : Cond.methodLink RL 82 yX6_odds ∈ pv_T := pv_memi 440 (by decide +kernel) (by decide +kernel)
theorem lX6_192 : Cond.methodLink RX6 192 yX6_waysForAtMost ∈ pv_T := pv_memi 445 (by decide +kernel) (by decide +kernel)
theorem lL_87 : Cond.methodLink RL 87 yX6_sheet ∈ pv_T := pv_memi 449 (by decide +kernel) (by decide +kernel)
theorem lX6_198 : Cond.methodLink RX6 198 yX3_begin ∈ pv_T := pv_memi 453 (by decide +kernel) (by decide +kernel)
theorem lL_92 : Cond.methodLink RL 92 yX6_lose ∈ pv_T := pv_memi 457 (by decide +kernel) (by decide +kernel)
theorem lL_96 : Cond.methodLink RL 96 yX6_put ∈ pv_T := pv_memi 461 (by decide +kernel) (by decide +kernel)
theorem lX6_209 : Cond.methodLink RX6 209 yX3_cut ∈ pv_T := pv_memi 465 (by decide +kernel) (by decide +kernel)
theorem lL_100 : Cond.methodLink RL 100 yX6_cell ∈ pv_T := pv_memi 469 (by decide +kernel) (by decide +kernel)
theorem lL_105 : Cond.methodLink RL 105 yX6_copy ∈ pv_T := pv_memi 473 (by decide +kernel) (by decide +kernel)
theorem lX6_212 : Cond.methodLink RX6 212 yX3_holds ∈ pv_T := pv_memi 477 (by decide +kernel) (by decide +kernel)
theorem lX6_215 : Cond.methodLink RX6 215 arraycopyName ∈ pv_T := pv_memi 478 (by decide +kernel) (by decide +kernel)
theorem lL_109 : Cond.methodLink RL 109 yX6_tell ∈ pv_T := pv_memi 479 (by decide +kernel) (by decide +kernel)
theorem lX6_221 : Cond.methodLink RX6 221 yX6_livingTells ∈ pv_T := pv_memi 483 (by decide +kernel) (by decide +kernel)
theorem lX6_231 : Cond.methodLink RX6 231 yX6_leave ∈ pv_T := pv_memi 487 (by decide +kernel) (by decide +kernel)
theorem lX6_225 : Cond.methodLink RX6 225 yX6_heirloomTells ∈ pv_T := pv_memi 491 (by decide +kernel) (by decide +kernel)
theorem lX6_228 : Cond.methodLink RX6 228 yX6_thingTells ∈ pv_T := pv_memi 495 (by decide +kernel) (by decide +kernel)
theorem lL_113 : Cond.methodLink RL 113 yX6_label ∈ pv_T := pv_memi 499 (by decide +kernel) (by decide +kernel)
theorem lL_117 : Cond.methodLink RL 117 yX6_as ∈ pv_T := pv_memi 503 (by decide +kernel) (by decide +kernel)
theorem lL_121 : Cond.methodLink RL 121 yX6_trace ∈ pv_T := pv_memi 507 (by decide +kernel) (by decide +kernel)
theorem lL_126 : Cond.methodLink RL 126 yX6_fault ∈ pv_T := pv_memi 511 (by decide +kernel) (by decide +kernel)
theorem lL_130 : Cond.methodLink RL 130 yX6_many ∈ pv_T := pv_memi 515 (by decide +kernel) (by decide +kernel)
theorem lL_12 : Cond.methodLink RL 12 yX7_init ∈ pv_T := pv_memi 521 (by decide +kernel) (by decide +kernel)
theorem lL_17 : Cond.methodLink RL 17 yX7_museum ∈ pv_T := pv_memi 628 (by decide +kernel) (by decide +kernel)
theorem lX7_120 : Cond.methodLink RX7 120 yX7_noSheet ∈ pv_T := pv_memi 632 (by decide +kernel) (by decide +kernel)
theorem lX7_87 : Cond.methodLink RX7 87 yX7_in ∈ pv_T := pv_memi 636 (by decide +kernel) (by decide +kernel)
theorem lX7_124 : Cond.methodLink RX7 124 yX7_refused ∈ pv_T := pv_memi 639 (by decide +kernel) (by decide +kernel)
theorem lX7_129 : Cond.methodLink RX7 129 yX7_cellsBarred ∈ pv_T := pv_memi 644 (by decide +kernel) (by decide +kernel)
theorem lX7_112 : Cond.methodLink RX7 112 yX7_failed ∈ pv_T := pv_memi 648 (by decide +kernel) (by decide +kernel)
theorem lX7_116 : Cond.methodLink RX7 116 yX7_isBeyond ∈ pv_T := pv_memi 652 (by decide +kernel) (by decide +kernel)
theorem lX7_133 : Cond.methodLink RX7 133 yX7_readsMuseum ∈ pv_T := pv_memi 655 (by decide +kernel) (by decide +kernel)
theorem lX7_94 : Cond.methodLink RX7 94 yX7_codeAt ∈ pv_T := pv_memi 659 (by decide +kernel) (by decide +kernel)
theorem lX7_101 : Cond.methodLink RX7 101 yX7_figure ∈ pv_T := pv_memi 663 (by decide +kernel) (by decide +kernel)
theorem lX7_108 : Cond.methodLink RX7 108 yX7_readsThing ∈ pv_T := pv_memi 667 (by decide +kernel) (by decide +kernel)
theorem lL_22 : Cond.methodLink RL 22 yX7_ofThing ∈ pv_T := pv_memi 671 (by decide +kernel) (by decide +kernel)
theorem lX7_145 : Cond.methodLink RX7 145 yX7_noThing ∈ pv_T := pv_memi 675 (by decide +kernel) (by decide +kernel)
theorem lX7_148 : Cond.methodLink RX7 148 yX7_valueOf ∈ pv_T := pv_memi 679 (by decide +kernel) (by decide +kernel)
theorem lL_27 : Cond.methodLink RL 27 yX7_penalty ∈ pv_T := pv_memi 683 (by decide +kernel) (by decide +kernel)
theorem lL_31 : Cond.methodLink RL 31 yX7_law ∈ pv_T := pv_memi 688 (by decide +kernel) (by decide +kernel)
theorem lL_35 : Cond.methodLink RL 35 yX7_use ∈ pv_T := pv_memi 692 (by decide +kernel) (by decide +kernel)
theorem lL_39 : Cond.methodLink RL 39 yX7_round ∈ pv_T := pv_memi 697 (by decide +kernel) (by decide +kernel)
theorem lX7_184 : Cond.methodLink RX7 184 yX7_roundBarred ∈ pv_T := pv_memi 703 (by decide +kernel) (by decide +kernel)
theorem lX7_188 : Cond.methodLink RX7 188 yX7_goRound ∈ pv_T := pv_memi 708 (by decide +kernel) (by decide +kernel)
theorem lX7_169 : Cond.methodLink RX7 169 yX7_casesOf ∈ pv_T := pv_memi 712 (by decide +kernel) (by decide +kernel)
theorem lX7_172 : Cond.methodLink RX7 172 yX7_takingOf ∈ pv_T := pv_memi 716 (by decide +kernel) (by decide +kernel)
theorem lX7_157 : Cond.methodLink RX7 157 yX7_isIn ∈ pv_T := pv_memi 720 (by decide +kernel) (by decide +kernel)
theorem lX7_175 : Cond.methodLink RX7 175 yX7_missedIn ∈ pv_T := pv_memi 723 (by decide +kernel) (by decide +kernel)
theorem lX7_192 : Cond.methodLink RX7 192 yX7_leftNow ∈ pv_T := pv_memi 727 (by decide +kernel) (by decide +kernel)
theorem lL_43 : Cond.methodLink RL 43 yX7_best ∈ pv_T := pv_memi 731 (by decide +kernel) (by decide +kernel)
theorem lX7_210 : Cond.methodLink RX7 210 yX7_bestRow ∈ pv_T := pv_memi 737 (by decide +kernel) (by decide +kernel)
theorem lX7_196 : Cond.methodLink RX7 196 yX7_rows ∈ pv_T := pv_memi 741 (by decide +kernel) (by decide +kernel)
theorem lX7_199 : Cond.methodLink RX7 199 yX7_layRow ∈ pv_T := pv_memi 745 (by decide +kernel) (by decide +kernel)
theorem lL_47 : Cond.methodLink RL 47 yX7_mild ∈ pv_T := pv_memi 749 (by decide +kernel) (by decide +kernel)
theorem lL_51 : Cond.methodLink RL 51 yX7_worth ∈ pv_T := pv_memi 754 (by decide +kernel) (by decide +kernel)
theorem lL_55 : Cond.methodLink RL 55 yX7_shift ∈ pv_T := pv_memi 758 (by decide +kernel) (by decide +kernel)
theorem lX7_215 : Cond.methodLink RX7 215 yX7_takesOf ∈ pv_T := pv_memi 762 (by decide +kernel) (by decide +kernel)
theorem lL_60 : Cond.methodLink RL 60 yX7_reading ∈ pv_T := pv_memi 766 (by decide +kernel) (by decide +kernel)
theorem lL_64 : Cond.methodLink RL 64 yX7_back ∈ pv_T := pv_memi 770 (by decide +kernel) (by decide +kernel)
theorem lL_68 : Cond.methodLink RL 68 yX7_rounds ∈ pv_T := pv_memi 774 (by decide +kernel) (by decide +kernel)
theorem lX7_218 : Cond.methodLink RX7 218 yX7_isSo ∈ pv_T := pv_memi 778 (by decide +kernel) (by decide +kernel)
theorem lL_72 : Cond.methodLink RL 72 yX7_sure ∈ pv_T := pv_memi 782 (by decide +kernel) (by decide +kernel)
theorem lL_76 : Cond.methodLink RL 76 yX7_laws ∈ pv_T := pv_memi 786 (by decide +kernel) (by decide +kernel)
theorem lX7_223 : Cond.methodLink RX7 223 yX7_seenBarred ∈ pv_T := pv_memi 790 (by decide +kernel) (by decide +kernel)
theorem lL_81 : Cond.methodLink RL 81 yX7_used ∈ pv_T := pv_memi 795 (by decide +kernel) (by decide +kernel)
theorem lL_86 : Cond.methodLink RL 86 yX7_odds ∈ pv_T := pv_memi 799 (by decide +kernel) (by decide +kernel)
theorem lX7_226 : Cond.methodLink RX7 226 yX7_refusedLong ∈ pv_T := pv_memi 803 (by decide +kernel) (by decide +kernel)
theorem lX7_80 : Cond.methodLink RX7 80 yX7_lost ∈ pv_T := pv_memi 807 (by decide +kernel) (by decide +kernel)
theorem lX7_229 : Cond.methodLink RX7 229 yX7_told ∈ pv_T := pv_memi 811 (by decide +kernel) (by decide +kernel)
theorem lL_91 : Cond.methodLink RL 91 yX7_sheet ∈ pv_T := pv_memi 814 (by decide +kernel) (by decide +kernel)
theorem lL_95 : Cond.methodLink RL 95 yX7_lose ∈ pv_T := pv_memi 818 (by decide +kernel) (by decide +kernel)
theorem lL_99 : Cond.methodLink RL 99 yX7_put ∈ pv_T := pv_memi 822 (by decide +kernel) (by decide +kernel)
theorem lX7_233 : Cond.methodLink RX7 233 yX7_noCell ∈ pv_T := pv_memi 826 (by decide +kernel) (by decide +kernel)
theorem lL_104 : Cond.methodLink RL 104 yX7_cell ∈ pv_T := pv_memi 830 (by decide +kernel) (by decide +kernel)
theorem lX7_236 : Cond.methodLink RX7 236 yX7_failedLong ∈ pv_T := pv_memi 834 (by decide +kernel) (by decide +kernel)
theorem lL_108 : Cond.methodLink RL 108 yX7_copy ∈ pv_T := pv_memi 838 (by decide +kernel) (by decide +kernel)
theorem lL_112 : Cond.methodLink RL 112 yX7_tell ∈ pv_T := pv_memi 842 (by decide +kernel) (by decide +kernel)
theorem lX7_243 : Cond.methodLink RX7 243 yX7_traced ∈ pv_T := pv_memi 846 (by decide +kernel) (by decide +kernel)
theorem lL_116 : Cond.methodLink RL 116 yX7_label ∈ pv_T := pv_memi 850 (by decide +kernel) (by decide +kernel)
theorem lL_120 : Cond.methodLink RL 120 yX7_as ∈ pv_T := pv_memi 854 (by decide +kernel) (by decide +kernel)
theorem lL_125 : Cond.methodLink RL 125 yX7_trace ∈ pv_T := pv_memi 858 (by decide +kernel) (by decide +kernel)
theorem lL_129 : Cond.methodLink RL 129 yX7_fault ∈ pv_T := pv_memi 862 (by decide +kernel) (by decide +kernel)
theorem lL_133 : Cond.methodLink RL 133 yX7_many ∈ pv_T := pv_memi 866 (by decide +kernel) (by decide +kernel)
theorem fX3_9 : pv_fld RX3 9 3 0 := ⟨by decide, pv_memi 60 (by decide +kernel) (by decide +kernel)⟩
theorem fX6_62 : pv_fld RX6 62 3 0 := ⟨by decide, pv_memi 61 (by decide +kernel) (by decide +kernel)⟩
theorem fX3_15 : pv_fld RX3 15 3 1 := ⟨by decide, pv_memi 62 (by decide +kernel) (by decide +kernel)⟩
theorem w3_1 : pv_wr 3 1 .boolean := ⟨by decide +kernel, by decide +kernel⟩
theorem fX6_202 : pv_fld RX6 202 3 1 := ⟨by decide, pv_memi 63 (by decide +kernel) (by decide +kernel)⟩
theorem fX3_19 : pv_fld RX3 19 3 2 := ⟨by decide, pv_memi 64 (by decide +kernel) (by decide +kernel)⟩
theorem w3_2 : pv_wr 3 2 .int := ⟨by decide +kernel, by decide +kernel⟩
theorem fX6_206 : pv_fld RX6 206 3 2 := ⟨by decide, pv_memi 65 (by decide +kernel) (by decide +kernel)⟩
theorem fX3_23 : pv_fld RX3 23 3 3 := ⟨by decide, pv_memi 66 (by decide +kernel) (by decide +kernel)⟩
theorem w3_3 : pv_wr 3 3 .int := ⟨by decide +kernel, by decide +kernel⟩
theorem fX5_9 : pv_fld RX5 9 4 0 := ⟨by decide, pv_memi 90 (by decide +kernel) (by decide +kernel)⟩
theorem w4_0 : pv_wr 4 0 .int := ⟨by decide +kernel, by decide +kernel⟩
theorem fX6_86 : pv_fld RX6 86 4 0 := ⟨by decide, pv_memi 91 (by decide +kernel) (by decide +kernel)⟩
theorem fX4_38 : pv_fld RX4 38 4 0 := ⟨by decide, pv_memi 92 (by decide +kernel) (by decide +kernel)⟩
theorem fX6_91 : pv_fld RX6 91 4 1 := ⟨by decide, pv_memi 93 (by decide +kernel) (by decide +kernel)⟩
theorem w4_1 : pv_wr 4 1 .int := ⟨by decide +kernel, by decide +kernel⟩
theorem fX4_43 : pv_fld RX4 43 4 1 := ⟨by decide, pv_memi 94 (by decide +kernel) (by decide +kernel)⟩
theorem fX0_59 : pv_fld RX0 59 4 1 := ⟨by decide, pv_memi 95 (by decide +kernel) (by decide +kernel)⟩
theorem fX5_15 : pv_fld RX5 15 4 2 := ⟨by decide, pv_memi 96 (by decide +kernel) (by decide +kernel)⟩
theorem w4_2 : pv_wr 4 2 .int := ⟨by decide +kernel, by decide +kernel⟩
theorem fX6_94 : pv_fld RX6 94 4 2 := ⟨by decide, pv_memi 97 (by decide +kernel) (by decide +kernel)⟩
theorem fX4_46 : pv_fld RX4 46 4 2 := ⟨by decide, pv_memi 98 (by decide +kernel) (by decide +kernel)⟩
theorem fX5_18 : pv_fld RX5 18 4 3 := ⟨by decide, pv_memi 99 (by decide +kernel) (by decide +kernel)⟩
theorem w4_3 : pv_wr 4 3 .int := ⟨by decide +kernel, by decide +kernel⟩
theorem fX6_97 : pv_fld RX6 97 4 3 := ⟨by decide, pv_memi 100 (by decide +kernel) (by decide +kernel)⟩
theorem fX0_26 : pv_fld RX0 26 4 3 := ⟨by decide, pv_memi 101 (by decide +kernel) (by decide +kernel)⟩
theorem fX4_49 : pv_fld RX4 49 4 3 := ⟨by decide, pv_memi 102 (by decide +kernel) (by decide +kernel)⟩
theorem fX6_100 : pv_fld RX6 100 4 4 := ⟨by decide, pv_memi 103 (by decide +kernel) (by decide +kernel)⟩
theorem w4_4 : pv_wr 4 4 .int := ⟨by decide +kernel, by decide +kernel⟩
theorem fX4_52 : pv_fld RX4 52 4 4 := ⟨by decide, pv_memi 104 (by decide +kernel) (by decide +kernel)⟩
theorem fX0_53 : pv_fld RX0 53 4 4 := ⟨by decide, pv_memi 105 (by decide +kernel) (by decide +kernel)⟩
theorem fX0_11 : pv_fld RX0 11 0 0 := ⟨by decide, pv_memi 117 (by decide +kernel) (by decide +kernel)⟩
theorem fX6_82 : pv_fld RX6 82 0 0 := ⟨by decide, pv_memi 118 (by decide +kernel) (by decide +kernel)⟩
theorem fX4_30 : pv_fld RX4 30 0 0 := ⟨by decide, pv_memi 119 (by decide +kernel) (by decide +kernel)⟩
theorem fX0_18 : pv_fld RX0 18 0 1 := ⟨by decide, pv_memi 120 (by decide +kernel) (by decide +kernel)⟩
theorem w0_1 : pv_wr 0 1 .int := ⟨by decide +kernel, by decide +kernel⟩
theorem fX6_78 : pv_fld RX6 78 0 1 := ⟨by decide, pv_memi 121 (by decide +kernel) (by decide +kernel)⟩
theorem fX4_18 : pv_fld RX4 18 0 1 := ⟨by decide, pv_memi 122 (by decide +kernel) (by decide +kernel)⟩
theorem fX6_111 : pv_fld RX6 111 0 2 := ⟨by decide, pv_memi 123 (by decide +kernel) (by decide +kernel)⟩
theorem w0_2 : pv_wr 0 2 .int := ⟨by decide +kernel, by decide +kernel⟩
theorem fX4_24 : pv_fld RX4 24 0 2 := ⟨by decide, pv_memi 124 (by decide +kernel) (by decide +kernel)⟩
theorem fX4_27 : pv_fld RX4 27 0 3 := ⟨by decide, pv_memi 125 (by decide +kernel) (by decide +kernel)⟩
theorem w0_3 : pv_wr 0 3 .int := ⟨by decide +kernel, by decide +kernel⟩
theorem fX6_114 : pv_fld RX6 114 0 3 := ⟨by decide, pv_memi 126 (by decide +kernel) (by decide +kernel)⟩
theorem fX1_9 : pv_fld RX1 9 1 0 := ⟨by decide, pv_memi 142 (by decide +kernel) (by decide +kernel)⟩
theorem fX1_15 : pv_fld RX1 15 1 1 := ⟨by decide, pv_memi 143 (by decide +kernel) (by decide +kernel)⟩
theorem fX1_18 : pv_fld RX1 18 1 2 := ⟨by decide, pv_memi 144 (by decide +kernel) (by decide +kernel)⟩
theorem fX1_22 : pv_fld RX1 22 1 3 := ⟨by decide, pv_memi 145 (by decide +kernel) (by decide +kernel)⟩
theorem w1_3 : pv_wr 1 3 .int := ⟨by decide +kernel, by decide +kernel⟩
theorem fX6_75 : pv_fld RX6 75 1 3 := ⟨by decide, pv_memi 146 (by decide +kernel) (by decide +kernel)⟩
theorem fX2_9 : pv_fld RX2 9 2 0 := ⟨by decide, pv_memi 163 (by decide +kernel) (by decide +kernel)⟩
theorem fX6_248 : pv_fld RX6 248 2 0 := ⟨by decide, pv_memi 164 (by decide +kernel) (by decide +kernel)⟩
theorem fX2_15 : pv_fld RX2 15 2 1 := ⟨by decide, pv_memi 165 (by decide +kernel) (by decide +kernel)⟩
theorem fX6_176 : pv_fld RX6 176 2 1 := ⟨by decide, pv_memi 166 (by decide +kernel) (by decide +kernel)⟩
theorem fX2_18 : pv_fld RX2 18 2 2 := ⟨by decide, pv_memi 167 (by decide +kernel) (by decide +kernel)⟩
theorem fX6_142 : pv_fld RX6 142 2 2 := ⟨by decide, pv_memi 168 (by decide +kernel) (by decide +kernel)⟩
theorem fX2_21 : pv_fld RX2 21 2 3 := ⟨by decide, pv_memi 169 (by decide +kernel) (by decide +kernel)⟩
theorem fX6_179 : pv_fld RX6 179 2 3 := ⟨by decide, pv_memi 170 (by decide +kernel) (by decide +kernel)⟩
theorem fX2_24 : pv_fld RX2 24 2 4 := ⟨by decide, pv_memi 171 (by decide +kernel) (by decide +kernel)⟩
theorem fX1_26 : pv_fld RX1 26 2 4 := ⟨by decide, pv_memi 172 (by decide +kernel) (by decide +kernel)⟩
theorem fX2_27 : pv_fld RX2 27 2 5 := ⟨by decide, pv_memi 173 (by decide +kernel) (by decide +kernel)⟩
theorem fX1_31 : pv_fld RX1 31 2 5 := ⟨by decide, pv_memi 174 (by decide +kernel) (by decide +kernel)⟩
theorem fX2_30 : pv_fld RX2 30 2 6 := ⟨by decide, pv_memi 175 (by decide +kernel) (by decide +kernel)⟩
theorem w2_6 : pv_wr 2 6 .int := ⟨by decide +kernel, by decide +kernel⟩
theorem fX6_237 : pv_fld RX6 237 2 6 := ⟨by decide, pv_memi 176 (by decide +kernel) (by decide +kernel)⟩
theorem fX2_34 : pv_fld RX2 34 2 7 := ⟨by decide, pv_memi 177 (by decide +kernel) (by decide +kernel)⟩
theorem w2_7 : pv_wr 2 7 .int := ⟨by decide +kernel, by decide +kernel⟩
theorem fX6_148 : pv_fld RX6 148 2 7 := ⟨by decide, pv_memi 178 (by decide +kernel) (by decide +kernel)⟩
theorem fX2_37 : pv_fld RX2 37 2 8 := ⟨by decide, pv_memi 179 (by decide +kernel) (by decide +kernel)⟩
theorem w2_8 : pv_wr 2 8 .int := ⟨by decide +kernel, by decide +kernel⟩
theorem fX6_175 : pv_fld RX6 175 2 8 := ⟨by decide, pv_memi 180 (by decide +kernel) (by decide +kernel)⟩
theorem fX2_40 : pv_fld RX2 40 2 9 := ⟨by decide, pv_memi 181 (by decide +kernel) (by decide +kernel)⟩
theorem w2_9 : pv_wr 2 9 .int := ⟨by decide +kernel, by decide +kernel⟩
theorem fX6_139 : pv_fld RX6 139 2 9 := ⟨by decide, pv_memi 182 (by decide +kernel) (by decide +kernel)⟩
theorem fX2_43 : pv_fld RX2 43 2 10 := ⟨by decide, pv_memi 183 (by decide +kernel) (by decide +kernel)⟩
theorem w2_10 : pv_wr 2 10 .int := ⟨by decide +kernel, by decide +kernel⟩
theorem fX6_155 : pv_fld RX6 155 2 10 := ⟨by decide, pv_memi 184 (by decide +kernel) (by decide +kernel)⟩
theorem fX6_13 : pv_fld RX6 13 5 0 := ⟨by decide, pv_memi 208 (by decide +kernel) (by decide +kernel)⟩
theorem fX6_21 : pv_fld RX6 21 5 1 := ⟨by decide, pv_memi 209 (by decide +kernel) (by decide +kernel)⟩
theorem fX6_28 : pv_fld RX6 28 5 2 := ⟨by decide, pv_memi 210 (by decide +kernel) (by decide +kernel)⟩
theorem fX6_35 : pv_fld RX6 35 5 3 := ⟨by decide, pv_memi 211 (by decide +kernel) (by decide +kernel)⟩
theorem fX6_39 : pv_fld RX6 39 5 4 := ⟨by decide, pv_memi 212 (by decide +kernel) (by decide +kernel)⟩
theorem fX6_43 : pv_fld RX6 43 5 5 := ⟨by decide, pv_memi 213 (by decide +kernel) (by decide +kernel)⟩
theorem w5_5 : pv_wr 5 5 .int := ⟨by decide +kernel, by decide +kernel⟩
theorem fX6_234 : pv_fld RX6 234 5 6 := ⟨by decide, pv_memi 214 (by decide +kernel) (by decide +kernel)⟩
theorem w5_6 : pv_wr 5 6 .int := ⟨by decide +kernel, by decide +kernel⟩
theorem fX7_77 : pv_fld RX7 77 6 0 := ⟨by decide, pv_memi 525 (by decide +kernel) (by decide +kernel)⟩
theorem w6_0 : pv_wr 6 0 .int := ⟨by decide +kernel, by decide +kernel⟩
theorem fX7_136 : pv_fld RX7 136 6 1 := ⟨by decide, pv_memi 526 (by decide +kernel) (by decide +kernel)⟩
theorem w6_1 : pv_wr 6 1 .int := ⟨by decide +kernel, by decide +kernel⟩
theorem fX7_139 : pv_fld RX7 139 6 2 := ⟨by decide, pv_memi 527 (by decide +kernel) (by decide +kernel)⟩
theorem w6_2 : pv_wr 6 2 .int := ⟨by decide +kernel, by decide +kernel⟩
theorem fX7_84 : pv_fld RX7 84 6 3 := ⟨by decide, pv_memi 528 (by decide +kernel) (by decide +kernel)⟩
theorem w6_3 : pv_wr 6 3 .int := ⟨by decide +kernel, by decide +kernel⟩
theorem fX7_7 : pv_fld RX7 7 6 4 := ⟨by decide, pv_memi 529 (by decide +kernel) (by decide +kernel)⟩
theorem fX7_13 : pv_fld RX7 13 6 5 := ⟨by decide, pv_memi 530 (by decide +kernel) (by decide +kernel)⟩
theorem fX7_16 : pv_fld RX7 16 6 6 := ⟨by decide, pv_memi 531 (by decide +kernel) (by decide +kernel)⟩
theorem fX7_19 : pv_fld RX7 19 6 7 := ⟨by decide, pv_memi 532 (by decide +kernel) (by decide +kernel)⟩
theorem fX7_22 : pv_fld RX7 22 6 8 := ⟨by decide, pv_memi 533 (by decide +kernel) (by decide +kernel)⟩
theorem fX7_71 : pv_fld RX7 71 6 9 := ⟨by decide, pv_memi 534 (by decide +kernel) (by decide +kernel)⟩
theorem w6_9 : pv_wr 6 9 .int := ⟨by decide +kernel, by decide +kernel⟩
theorem fX7_91 : pv_fld RX7 91 6 10 := ⟨by decide, pv_memi 535 (by decide +kernel) (by decide +kernel)⟩
theorem w6_10 : pv_wr 6 10 .int := ⟨by decide +kernel, by decide +kernel⟩
theorem fX7_105 : pv_fld RX7 105 6 11 := ⟨by decide, pv_memi 536 (by decide +kernel) (by decide +kernel)⟩
theorem w6_11 : pv_wr 6 11 .int := ⟨by decide +kernel, by decide +kernel⟩
theorem fX7_98 : pv_fld RX7 98 6 12 := ⟨by decide, pv_memi 537 (by decide +kernel) (by decide +kernel)⟩
theorem w6_12 : pv_wr 6 12 .int := ⟨by decide +kernel, by decide +kernel⟩
theorem fX7_25 : pv_fld RX7 25 6 13 := ⟨by decide, pv_memi 538 (by decide +kernel) (by decide +kernel)⟩
theorem fX7_28 : pv_fld RX7 28 6 14 := ⟨by decide, pv_memi 539 (by decide +kernel) (by decide +kernel)⟩
theorem fX7_31 : pv_fld RX7 31 6 15 := ⟨by decide, pv_memi 540 (by decide +kernel) (by decide +kernel)⟩
theorem fX7_34 : pv_fld RX7 34 6 16 := ⟨by decide, pv_memi 541 (by decide +kernel) (by decide +kernel)⟩
theorem fX7_37 : pv_fld RX7 37 6 17 := ⟨by decide, pv_memi 542 (by decide +kernel) (by decide +kernel)⟩
theorem fX7_40 : pv_fld RX7 40 6 18 := ⟨by decide, pv_memi 543 (by decide +kernel) (by decide +kernel)⟩
theorem fX7_43 : pv_fld RX7 43 6 19 := ⟨by decide, pv_memi 544 (by decide +kernel) (by decide +kernel)⟩
theorem fX7_46 : pv_fld RX7 46 6 20 := ⟨by decide, pv_memi 545 (by decide +kernel) (by decide +kernel)⟩
theorem fX7_160 : pv_fld RX7 160 6 21 := ⟨by decide, pv_memi 546 (by decide +kernel) (by decide +kernel)⟩
theorem w6_21 : pv_wr 6 21 .int := ⟨by decide +kernel, by decide +kernel⟩
theorem fX7_163 : pv_fld RX7 163 6 22 := ⟨by decide, pv_memi 547 (by decide +kernel) (by decide +kernel)⟩
theorem w6_22 : pv_wr 6 22 .int := ⟨by decide +kernel, by decide +kernel⟩
theorem fX7_166 : pv_fld RX7 166 6 23 := ⟨by decide, pv_memi 548 (by decide +kernel) (by decide +kernel)⟩
theorem w6_23 : pv_wr 6 23 .int := ⟨by decide +kernel, by decide +kernel⟩
theorem fX7_203 : pv_fld RX7 203 6 24 := ⟨by decide, pv_memi 549 (by decide +kernel) (by decide +kernel)⟩
theorem w6_24 : pv_wr 6 24 .int := ⟨by decide +kernel, by decide +kernel⟩
theorem fX7_142 : pv_fld RX7 142 6 25 := ⟨by decide, pv_memi 550 (by decide +kernel) (by decide +kernel)⟩
theorem w6_25 : pv_wr 6 25 .int := ⟨by decide +kernel, by decide +kernel⟩
theorem fX7_49 : pv_fld RX7 49 6 26 := ⟨by decide, pv_memi 551 (by decide +kernel) (by decide +kernel)⟩
theorem fX7_52 : pv_fld RX7 52 6 27 := ⟨by decide, pv_memi 552 (by decide +kernel) (by decide +kernel)⟩
theorem fX7_55 : pv_fld RX7 55 6 28 := ⟨by decide, pv_memi 553 (by decide +kernel) (by decide +kernel)⟩
theorem fX7_59 : pv_fld RX7 59 6 29 := ⟨by decide, pv_memi 554 (by decide +kernel) (by decide +kernel)⟩
theorem fX7_62 : pv_fld RX7 62 6 30 := ⟨by decide, pv_memi 555 (by decide +kernel) (by decide +kernel)⟩
theorem fX7_65 : pv_fld RX7 65 6 31 := ⟨by decide, pv_memi 556 (by decide +kernel) (by decide +kernel)⟩
theorem fX7_68 : pv_fld RX7 68 6 32 := ⟨by decide, pv_memi 557 (by decide +kernel) (by decide +kernel)⟩
theorem fX7_240 : pv_fld RX7 240 6 33 := ⟨by decide, pv_memi 558 (by decide +kernel) (by decide +kernel)⟩
theorem w6_33 : pv_wr 6 33 .int := ⟨by decide +kernel, by decide +kernel⟩
theorem qJ6_265 : Cond.constant RJ6 265 (1431655765) ∈ pv_T := pv_memi 331 (by decide +kernel) (by decide +kernel)
theorem qJ6_266 : Cond.constant RJ6 266 (858993459) ∈ pv_T := pv_memi 332 (by decide +kernel) (by decide +kernel)
theorem qJ6_267 : Cond.constant RJ6 267 (252645135) ∈ pv_T := pv_memi 333 (by decide +kernel) (by decide +kernel)
theorem qX6_190 : Cond.constantLong RX6 190 (-9223372036854775808) ∈ pv_T := pv_memi 444 (by decide +kernel) (by decide +kernel)
theorem qX6_196 : Cond.constantLong RX6 196 (2) ∈ pv_T := pv_memi 448 (by decide +kernel) (by decide +kernel)
theorem qX7_153 : Cond.constantLong RX7 153 (3) ∈ pv_T := pv_memi 635 (by decide +kernel) (by decide +kernel)
theorem qX7_127 : Cond.constantLong RX7 127 (2) ∈ pv_T := pv_memi 643 (by decide +kernel) (by decide +kernel)
theorem qX7_151 : Cond.constantLong RX7 151 (9) ∈ pv_T := pv_memi 687 (by decide +kernel) (by decide +kernel)
theorem qX7_155 : Cond.constantLong RX7 155 (63) ∈ pv_T := pv_memi 696 (by decide +kernel) (by decide +kernel)
theorem qX7_180 : Cond.constantLong RX7 180 (10) ∈ pv_T := pv_memi 701 (by decide +kernel) (by decide +kernel)
theorem qX7_182 : Cond.constantLong RX7 182 (15) ∈ pv_T := pv_memi 702 (by decide +kernel) (by decide +kernel)
theorem qX7_178 : Cond.constantLong RX7 178 (6) ∈ pv_T := pv_memi 707 (by decide +kernel) (by decide +kernel)
theorem qX7_206 : Cond.constantLong RX7 206 (-1) ∈ pv_T := pv_memi 735 (by decide +kernel) (by decide +kernel)
theorem qX7_208 : Cond.constantLong RX7 208 (5) ∈ pv_T := pv_memi 736 (by decide +kernel) (by decide +kernel)
theorem qX7_213 : Cond.constantLong RX7 213 (30) ∈ pv_T := pv_memi 753 (by decide +kernel) (by decide +kernel)
theorem qX7_221 : Cond.constantLong RX7 221 (999) ∈ pv_T := pv_memi 794 (by decide +kernel) (by decide +kernel)
theorem qX7_75 : Cond.constantLong RX7 75 (-9223372036854775808) ∈ pv_T := pv_memi 810 (by decide +kernel) (by decide +kernel)
