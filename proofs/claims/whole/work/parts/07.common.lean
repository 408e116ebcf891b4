theorem fl_X2_15_2 : FL RX2 15 2 2 := ⟨RX2, TX2, 11, rfl, by decide, uw_X2, (tb_t 100 (by decide +kernel) rfl)⟩
theorem fl_X2_18_2 : FL RX2 18 2 3 := ⟨RX2, TX2, 11, rfl, by decide, uw_X2, (tb_t 103 (by decide +kernel) rfl)⟩
theorem fl_X2_21_2 : FL RX2 21 2 4 := ⟨RX2, TX2, 11, rfl, by decide, uw_X2, (tb_t 105 (by decide +kernel) rfl)⟩
theorem fl_X2_24_2 : FL RX2 24 2 5 := ⟨RX2, TX2, 11, rfl, by decide, uw_X2, (tb_t 107 (by decide +kernel) rfl)⟩
theorem fl_X2_27_2 : FL RX2 27 2 6 := ⟨RX2, TX2, 11, rfl, by decide, uw_X2, (tb_t 109 (by decide +kernel) rfl)⟩
theorem fl_X2_30_2 : FL RX2 30 2 7 := ⟨RX2, TX2, 11, rfl, by decide, uw_X2, (tb_t 111 (by decide +kernel) rfl)⟩
theorem fl_X2_33_2 : FL RX2 33 2 8 := ⟨RX2, TX2, 11, rfl, by decide, uw_X2, (tb_t 113 (by decide +kernel) rfl)⟩
theorem fl_X2_36_2 : FL RX2 36 2 0 := ⟨RX2, TX2, 11, rfl, by decide, uw_X2, (tb_t 96 (by decide +kernel) rfl)⟩
theorem fl_X2_52_2 : FL RX2 52 2 9 := ⟨RX2, TX2, 11, rfl, by decide, uw_X2, (tb_t 114 (by decide +kernel) rfl)⟩
theorem fl_X2_56_2 : FL RX2 56 2 10 := ⟨RX2, TX2, 11, rfl, by decide, uw_X2, (tb_t 116 (by decide +kernel) rfl)⟩
theorem fl_X2_9_2 : FL RX2 9 2 1 := ⟨RX2, TX2, 11, rfl, by decide, uw_X2, (tb_t 97 (by decide +kernel) rfl)⟩
theorem fw_X2_52_2 : FW RX2 52 2 9 false .int := ⟨RX2, TX2, 11, tyX2, rfl, by decide, uw_X2, (tb_t 114 (by decide +kernel) rfl), tyX2_ok, nmX2, rfl, by decide +kernel, fun h => by cases h⟩
theorem fw_X2_56_2 : FW RX2 56 2 10 false .int := ⟨RX2, TX2, 11, tyX2, rfl, by decide, uw_X2, (tb_t 116 (by decide +kernel) rfl), tyX2_ok, nmX2, rfl, by decide +kernel, fun h => by cases h⟩
theorem lc_X2_46 : Cond.methodLink RX2 46 arraycopyName ∈ TB ∧ Cond.native arraycopyName ∈ TB ∧ Cond.static arraycopyName ∈ TB ∧ Cond.initialized "java/lang/System" ∈ TB := ⟨(tb_t 475 (by decide +kernel) rfl), (tb_t 477 (by decide +kernel) rfl), (tb_t 476 (by decide +kernel) rfl), (tb_t 15 (by decide +kernel) rfl)⟩
theorem lkO_X2_102_X0 : LkO RX2 102 RX0 "UnfinishedFair$Kind" ⟨"UnfinishedFair$Kind", "tires", "()I"⟩ yX0_tires cX0_tires 1 (some .int) 0 := ⟨⟨(tb_t 443 (by decide +kernel) rfl), (tb_t 283 (by decide +kernel) rfl), (tb_t 281 (by decide +kernel) rfl), (tb_t 284 (by decide +kernel) rfl), (tb_t 285 (by decide +kernel) rfl), (tb_t 3 (by decide +kernel) rfl), (tb_t 286 (by decide +kernel) rfl), by decide, by decide, by decide +kernel⟩, cX4_tires, 1, (some .int), (tb_t 299 (by decide +kernel) rfl)⟩
theorem lkO_X2_102_X1 : LkO RX2 102 RX1 "UnfinishedFair$Kind" ⟨"UnfinishedFair$Kind", "tires", "()I"⟩ yX0_tires cX0_tires 1 (some .int) 0 := ⟨⟨(tb_t 443 (by decide +kernel) rfl), (tb_t 283 (by decide +kernel) rfl), (tb_t 281 (by decide +kernel) rfl), (tb_t 288 (by decide +kernel) rfl), (tb_t 285 (by decide +kernel) rfl), (tb_t 3 (by decide +kernel) rfl), (tb_t 286 (by decide +kernel) rfl), by decide, by decide, by decide +kernel⟩, cX4_tires, 1, (some .int), (tb_t 299 (by decide +kernel) rfl)⟩
theorem lkO_X2_102_X3 : LkO RX2 102 RX3 "UnfinishedFair$Kind" ⟨"UnfinishedFair$Kind", "tires", "()I"⟩ yX4_tires cX4_tires 1 (some .int) 0 := ⟨⟨(tb_t 443 (by decide +kernel) rfl), (tb_t 283 (by decide +kernel) rfl), (tb_t 281 (by decide +kernel) rfl), (tb_t 289 (by decide +kernel) rfl), (tb_t 281 (by decide +kernel) rfl), (tb_t 2 (by decide +kernel) rfl), (tb_t 299 (by decide +kernel) rfl), by decide, by decide, by decide +kernel⟩, cX4_tires, 1, (some .int), (tb_t 299 (by decide +kernel) rfl)⟩
theorem lkO_X2_102_X4 : LkO RX2 102 RX4 "UnfinishedFair$Kind" ⟨"UnfinishedFair$Kind", "tires", "()I"⟩ yX4_tires cX4_tires 1 (some .int) 0 := ⟨⟨(tb_t 443 (by decide +kernel) rfl), (tb_t 283 (by decide +kernel) rfl), (tb_t 281 (by decide +kernel) rfl), (tb_t 282 (by decide +kernel) rfl), (tb_t 281 (by decide +kernel) rfl), (tb_t 2 (by decide +kernel) rfl), (tb_t 299 (by decide +kernel) rfl), by decide, by decide, by decide +kernel⟩, cX4_tires, 1, (some .int), (tb_t 299 (by decide +kernel) rfl)⟩
theorem lkO_X2_102_X5 : LkO RX2 102 RX5 "UnfinishedFair$Kind" ⟨"UnfinishedFair$Kind", "tires", "()I"⟩ yX5_tires cX5_tires 1 (some .int) 0 := ⟨⟨(tb_t 443 (by decide +kernel) rfl), (tb_t 283 (by decide +kernel) rfl), (tb_t 281 (by decide +kernel) rfl), (tb_t 290 (by decide +kernel) rfl), (tb_t 291 (by decide +kernel) rfl), (tb_t 7 (by decide +kernel) rfl), (tb_t 292 (by decide +kernel) rfl), by decide, by decide, by decide +kernel⟩, cX4_tires, 1, (some .int), (tb_t 299 (by decide +kernel) rfl)⟩
theorem lkO_X2_102_X6 : LkO RX2 102 RX6 "UnfinishedFair$Kind" ⟨"UnfinishedFair$Kind", "tires", "()I"⟩ yX6_tires cX6_tires 1 (some .int) 0 := ⟨⟨(tb_t 443 (by decide +kernel) rfl), (tb_t 283 (by decide +kernel) rfl), (tb_t 281 (by decide +kernel) rfl), (tb_t 296 (by decide +kernel) rfl), (tb_t 297 (by decide +kernel) rfl), (tb_t 5 (by decide +kernel) rfl), (tb_t 298 (by decide +kernel) rfl), by decide, by decide, by decide +kernel⟩, cX4_tires, 1, (some .int), (tb_t 299 (by decide +kernel) rfl)⟩
theorem lkO_X2_113_X0 : LkO RX2 113 RX0 "UnfinishedFair$Kind" ⟨"UnfinishedFair$Kind", "bid", "(III)I"⟩ yX0_bid cX0_bid 4 (some .int) 3 := ⟨⟨(tb_t 420 (by decide +kernel) rfl), (tb_t 354 (by decide +kernel) rfl), (tb_t 352 (by decide +kernel) rfl), (tb_t 355 (by decide +kernel) rfl), (tb_t 356 (by decide +kernel) rfl), (tb_t 3 (by decide +kernel) rfl), (tb_t 357 (by decide +kernel) rfl), by decide, by decide, by decide +kernel⟩, cX4_bid, 4, (some .int), (tb_t 370 (by decide +kernel) rfl)⟩
theorem lkO_X2_113_X1 : LkO RX2 113 RX1 "UnfinishedFair$Kind" ⟨"UnfinishedFair$Kind", "bid", "(III)I"⟩ yX1_bid cX1_bid 4 (some .int) 3 := ⟨⟨(tb_t 420 (by decide +kernel) rfl), (tb_t 354 (by decide +kernel) rfl), (tb_t 352 (by decide +kernel) rfl), (tb_t 358 (by decide +kernel) rfl), (tb_t 359 (by decide +kernel) rfl), (tb_t 6 (by decide +kernel) rfl), (tb_t 360 (by decide +kernel) rfl), by decide, by decide, by decide +kernel⟩, cX4_bid, 4, (some .int), (tb_t 370 (by decide +kernel) rfl)⟩
theorem lkO_X2_113_X3 : LkO RX2 113 RX3 "UnfinishedFair$Kind" ⟨"UnfinishedFair$Kind", "bid", "(III)I"⟩ yX3_bid cX3_bid 4 (some .int) 3 := ⟨⟨(tb_t 420 (by decide +kernel) rfl), (tb_t 354 (by decide +kernel) rfl), (tb_t 352 (by decide +kernel) rfl), (tb_t 362 (by decide +kernel) rfl), (tb_t 363 (by decide +kernel) rfl), (tb_t 4 (by decide +kernel) rfl), (tb_t 364 (by decide +kernel) rfl), by decide, by decide, by decide +kernel⟩, cX4_bid, 4, (some .int), (tb_t 370 (by decide +kernel) rfl)⟩
theorem lkO_X2_113_X4 : LkO RX2 113 RX4 "UnfinishedFair$Kind" ⟨"UnfinishedFair$Kind", "bid", "(III)I"⟩ yX4_bid cX4_bid 4 (some .int) 3 := ⟨⟨(tb_t 420 (by decide +kernel) rfl), (tb_t 354 (by decide +kernel) rfl), (tb_t 352 (by decide +kernel) rfl), (tb_t 353 (by decide +kernel) rfl), (tb_t 352 (by decide +kernel) rfl), (tb_t 2 (by decide +kernel) rfl), (tb_t 370 (by decide +kernel) rfl), by decide, by decide, by decide +kernel⟩, cX4_bid, 4, (some .int), (tb_t 370 (by decide +kernel) rfl)⟩
theorem lkO_X2_113_X5 : LkO RX2 113 RX5 "UnfinishedFair$Kind" ⟨"UnfinishedFair$Kind", "bid", "(III)I"⟩ yX3_bid cX3_bid 4 (some .int) 3 := ⟨⟨(tb_t 420 (by decide +kernel) rfl), (tb_t 354 (by decide +kernel) rfl), (tb_t 352 (by decide +kernel) rfl), (tb_t 366 (by decide +kernel) rfl), (tb_t 363 (by decide +kernel) rfl), (tb_t 4 (by decide +kernel) rfl), (tb_t 364 (by decide +kernel) rfl), by decide, by decide, by decide +kernel⟩, cX4_bid, 4, (some .int), (tb_t 370 (by decide +kernel) rfl)⟩
theorem lkO_X2_113_X6 : LkO RX2 113 RX6 "UnfinishedFair$Kind" ⟨"UnfinishedFair$Kind", "bid", "(III)I"⟩ yX6_bid cX6_bid 4 (some .int) 3 := ⟨⟨(tb_t 420 (by decide +kernel) rfl), (tb_t 354 (by decide +kernel) rfl), (tb_t 352 (by decide +kernel) rfl), (tb_t 367 (by decide +kernel) rfl), (tb_t 368 (by decide +kernel) rfl), (tb_t 5 (by decide +kernel) rfl), (tb_t 369 (by decide +kernel) rfl), by decide, by decide, by decide +kernel⟩, cX4_bid, 4, (some .int), (tb_t 370 (by decide +kernel) rfl)⟩
theorem lkO_X2_116_X0 : LkO RX2 116 RX0 "UnfinishedFair$Kind" ⟨"UnfinishedFair$Kind", "asked", "(II)I"⟩ yX0_asked cX0_asked 3 (some .int) 2 := ⟨⟨(tb_t 421 (by decide +kernel) rfl), (tb_t 303 (by decide +kernel) rfl), (tb_t 301 (by decide +kernel) rfl), (tb_t 304 (by decide +kernel) rfl), (tb_t 305 (by decide +kernel) rfl), (tb_t 3 (by decide +kernel) rfl), (tb_t 306 (by decide +kernel) rfl), by decide, by decide, by decide +kernel⟩, cX4_asked, 3, (some .int), (tb_t 322 (by decide +kernel) rfl)⟩
theorem lkO_X2_116_X1 : LkO RX2 116 RX1 "UnfinishedFair$Kind" ⟨"UnfinishedFair$Kind", "asked", "(II)I"⟩ yX0_asked cX0_asked 3 (some .int) 2 := ⟨⟨(tb_t 421 (by decide +kernel) rfl), (tb_t 303 (by decide +kernel) rfl), (tb_t 301 (by decide +kernel) rfl), (tb_t 311 (by decide +kernel) rfl), (tb_t 305 (by decide +kernel) rfl), (tb_t 3 (by decide +kernel) rfl), (tb_t 306 (by decide +kernel) rfl), by decide, by decide, by decide +kernel⟩, cX4_asked, 3, (some .int), (tb_t 322 (by decide +kernel) rfl)⟩
theorem lkO_X2_116_X3 : LkO RX2 116 RX3 "UnfinishedFair$Kind" ⟨"UnfinishedFair$Kind", "asked", "(II)I"⟩ yX4_asked cX4_asked 3 (some .int) 2 := ⟨⟨(tb_t 421 (by decide +kernel) rfl), (tb_t 303 (by decide +kernel) rfl), (tb_t 301 (by decide +kernel) rfl), (tb_t 312 (by decide +kernel) rfl), (tb_t 301 (by decide +kernel) rfl), (tb_t 2 (by decide +kernel) rfl), (tb_t 322 (by decide +kernel) rfl), by decide, by decide, by decide +kernel⟩, cX4_asked, 3, (some .int), (tb_t 322 (by decide +kernel) rfl)⟩
theorem lkO_X2_116_X4 : LkO RX2 116 RX4 "UnfinishedFair$Kind" ⟨"UnfinishedFair$Kind", "asked", "(II)I"⟩ yX4_asked cX4_asked 3 (some .int) 2 := ⟨⟨(tb_t 421 (by decide +kernel) rfl), (tb_t 303 (by decide +kernel) rfl), (tb_t 301 (by decide +kernel) rfl), (tb_t 302 (by decide +kernel) rfl), (tb_t 301 (by decide +kernel) rfl), (tb_t 2 (by decide +kernel) rfl), (tb_t 322 (by decide +kernel) rfl), by decide, by decide, by decide +kernel⟩, cX4_asked, 3, (some .int), (tb_t 322 (by decide +kernel) rfl)⟩
theorem lkO_X2_116_X5 : LkO RX2 116 RX5 "UnfinishedFair$Kind" ⟨"UnfinishedFair$Kind", "asked", "(II)I"⟩ yX5_asked cX5_asked 3 (some .int) 2 := ⟨⟨(tb_t 421 (by decide +kernel) rfl), (tb_t 303 (by decide +kernel) rfl), (tb_t 301 (by decide +kernel) rfl), (tb_t 313 (by decide +kernel) rfl), (tb_t 314 (by decide +kernel) rfl), (tb_t 7 (by decide +kernel) rfl), (tb_t 315 (by decide +kernel) rfl), by decide, by decide, by decide +kernel⟩, cX4_asked, 3, (some .int), (tb_t 322 (by decide +kernel) rfl)⟩
theorem lkO_X2_116_X6 : LkO RX2 116 RX6 "UnfinishedFair$Kind" ⟨"UnfinishedFair$Kind", "asked", "(II)I"⟩ yX6_asked cX6_asked 3 (some .int) 2 := ⟨⟨(tb_t 421 (by decide +kernel) rfl), (tb_t 303 (by decide +kernel) rfl), (tb_t 301 (by decide +kernel) rfl), (tb_t 319 (by decide +kernel) rfl), (tb_t 320 (by decide +kernel) rfl), (tb_t 5 (by decide +kernel) rfl), (tb_t 321 (by decide +kernel) rfl), by decide, by decide, by decide +kernel⟩, cX4_asked, 3, (some .int), (tb_t 322 (by decide +kernel) rfl)⟩
theorem lkO_X2_90_X0 : LkO RX2 90 RX0 "UnfinishedFair$Kind" ⟨"UnfinishedFair$Kind", "goesOn", "(III)I"⟩ yX0_goesOn cX0_goesOn 4 (some .int) 3 := ⟨⟨(tb_t 439 (by decide +kernel) rfl), (tb_t 330 (by decide +kernel) rfl), (tb_t 328 (by decide +kernel) rfl), (tb_t 331 (by decide +kernel) rfl), (tb_t 332 (by decide +kernel) rfl), (tb_t 3 (by decide +kernel) rfl), (tb_t 333 (by decide +kernel) rfl), by decide, by decide, by decide +kernel⟩, cX4_goesOn, 4, (some .int), (tb_t 350 (by decide +kernel) rfl)⟩
theorem lkO_X2_90_X1 : LkO RX2 90 RX1 "UnfinishedFair$Kind" ⟨"UnfinishedFair$Kind", "goesOn", "(III)I"⟩ yX1_goesOn cX1_goesOn 4 (some .int) 3 := ⟨⟨(tb_t 439 (by decide +kernel) rfl), (tb_t 330 (by decide +kernel) rfl), (tb_t 328 (by decide +kernel) rfl), (tb_t 335 (by decide +kernel) rfl), (tb_t 336 (by decide +kernel) rfl), (tb_t 6 (by decide +kernel) rfl), (tb_t 337 (by decide +kernel) rfl), by decide, by decide, by decide +kernel⟩, cX4_goesOn, 4, (some .int), (tb_t 350 (by decide +kernel) rfl)⟩
theorem lkO_X2_90_X3 : LkO RX2 90 RX3 "UnfinishedFair$Kind" ⟨"UnfinishedFair$Kind", "goesOn", "(III)I"⟩ yX3_goesOn cX3_goesOn 4 (some .int) 3 := ⟨⟨(tb_t 439 (by decide +kernel) rfl), (tb_t 330 (by decide +kernel) rfl), (tb_t 328 (by decide +kernel) rfl), (tb_t 339 (by decide +kernel) rfl), (tb_t 340 (by decide +kernel) rfl), (tb_t 4 (by decide +kernel) rfl), (tb_t 341 (by decide +kernel) rfl), by decide, by decide, by decide +kernel⟩, cX4_goesOn, 4, (some .int), (tb_t 350 (by decide +kernel) rfl)⟩
theorem lkO_X2_90_X4 : LkO RX2 90 RX4 "UnfinishedFair$Kind" ⟨"UnfinishedFair$Kind", "goesOn", "(III)I"⟩ yX4_goesOn cX4_goesOn 4 (some .int) 3 := ⟨⟨(tb_t 439 (by decide +kernel) rfl), (tb_t 330 (by decide +kernel) rfl), (tb_t 328 (by decide +kernel) rfl), (tb_t 329 (by decide +kernel) rfl), (tb_t 328 (by decide +kernel) rfl), (tb_t 2 (by decide +kernel) rfl), (tb_t 350 (by decide +kernel) rfl), by decide, by decide, by decide +kernel⟩, cX4_goesOn, 4, (some .int), (tb_t 350 (by decide +kernel) rfl)⟩
theorem lkO_X2_90_X5 : LkO RX2 90 RX5 "UnfinishedFair$Kind" ⟨"UnfinishedFair$Kind", "goesOn", "(III)I"⟩ yX5_goesOn cX5_goesOn 5 (some .int) 3 := ⟨⟨(tb_t 439 (by decide +kernel) rfl), (tb_t 330 (by decide +kernel) rfl), (tb_t 328 (by decide +kernel) rfl), (tb_t 343 (by decide +kernel) rfl), (tb_t 344 (by decide +kernel) rfl), (tb_t 7 (by decide +kernel) rfl), (tb_t 345 (by decide +kernel) rfl), by decide, by decide, by decide +kernel⟩, cX4_goesOn, 4, (some .int), (tb_t 350 (by decide +kernel) rfl)⟩
theorem lkO_X2_90_X6 : LkO RX2 90 RX6 "UnfinishedFair$Kind" ⟨"UnfinishedFair$Kind", "goesOn", "(III)I"⟩ yX6_goesOn cX6_goesOn 4 (some .int) 3 := ⟨⟨(tb_t 439 (by decide +kernel) rfl), (tb_t 330 (by decide +kernel) rfl), (tb_t 328 (by decide +kernel) rfl), (tb_t 347 (by decide +kernel) rfl), (tb_t 348 (by decide +kernel) rfl), (tb_t 5 (by decide +kernel) rfl), (tb_t 349 (by decide +kernel) rfl), by decide, by decide, by decide +kernel⟩, cX4_goesOn, 4, (some .int), (tb_t 350 (by decide +kernel) rfl)⟩
theorem lkSN_X2_122 : Cond.initialized yX9_sum.cls ∈ TB ∧ Cond.static yX9_sum ∈ TB ∧ Cond.code yX9_sum cX9_sum 4 (some .int) ∈ TB ∧ yX9_sum.cls ≠ "java/lang/invoke/MethodHandle" ∧ yX9_sum.cls ≠ "java/lang/invoke/VarHandle" ∧ (parseMethodDescriptor yX9_sum.desc).map (fun d => d.parameters.length) = some 2 := ⟨(tb_t 1 (by decide +kernel) rfl), (tb_t 461 (by decide +kernel) rfl), (tb_t 462 (by decide +kernel) rfl), by decide, by decide, by decide +kernel⟩
theorem lkS_X2_40 : LkS RX2 40 yJ7_fill_53178 cJ7_fill_53178 4 none 2 := ⟨(tb_t 93 (by decide +kernel) rfl), (tb_t 94 (by decide +kernel) rfl), (tb_t 9 (by decide +kernel) rfl), (tb_t 95 (by decide +kernel) rfl), by decide, by decide, by decide +kernel⟩
theorem lkV_X2_106 : LkV RX2 106 RX2 yX2_letGo cX2_letGo 2 none 1 := ⟨(tb_t 444 (by decide +kernel) rfl), (tb_t 399 (by decide +kernel) rfl), (tb_t 400 (by decide +kernel) rfl), (tb_t 8 (by decide +kernel) rfl), (tb_t 401 (by decide +kernel) rfl), rfl, by decide, by decide, by decide +kernel⟩
theorem lkV_X2_109 : LkV RX2 109 RX2 yX2_takerOf cX2_takerOf 9 (some .int) 1 := ⟨(tb_t 451 (by decide +kernel) rfl), (tb_t 416 (by decide +kernel) rfl), (tb_t 417 (by decide +kernel) rfl), (tb_t 8 (by decide +kernel) rfl), (tb_t 418 (by decide +kernel) rfl), rfl, by decide, by decide, by decide +kernel⟩
theorem lkV_X2_119 : LkV RX2 119 RX2 yX2_finishedSet cX2_finishedSet 3 (some .int) 0 := ⟨(tb_t 504 (by decide +kernel) rfl), (tb_t 238 (by decide +kernel) rfl), (tb_t 239 (by decide +kernel) rfl), (tb_t 8 (by decide +kernel) rfl), (tb_t 240 (by decide +kernel) rfl), rfl, by decide, by decide, by decide +kernel⟩
theorem lkV_X2_59 : LkV RX2 59 RX2 yX2_isFull cX2_isFull 1 (some .boolean) 0 := ⟨(tb_t 267 (by decide +kernel) rfl), (tb_t 259 (by decide +kernel) rfl), (tb_t 260 (by decide +kernel) rfl), (tb_t 8 (by decide +kernel) rfl), (tb_t 261 (by decide +kernel) rfl), rfl, by decide, by decide, by decide +kernel⟩
theorem lkV_X2_63 : LkV RX2 63 RX2 yX2_isFinished cX2_isFinished 2 (some .boolean) 1 := ⟨(tb_t 241 (by decide +kernel) rfl), (tb_t 242 (by decide +kernel) rfl), (tb_t 243 (by decide +kernel) rfl), (tb_t 8 (by decide +kernel) rfl), (tb_t 244 (by decide +kernel) rfl), rfl, by decide, by decide, by decide +kernel⟩
theorem lkV_X2_67 : LkV RX2 67 RX2 yX2_goYear cX2_goYear 2 none 0 := ⟨(tb_t 431 (by decide +kernel) rfl), (tb_t 432 (by decide +kernel) rfl), (tb_t 433 (by decide +kernel) rfl), (tb_t 8 (by decide +kernel) rfl), (tb_t 434 (by decide +kernel) rfl), rfl, by decide, by decide, by decide +kernel⟩
theorem lkV_X2_70 : LkV RX2 70 RX2 yX2_canBeLeft cX2_canBeLeft 2 (some .boolean) 1 := ⟨(tb_t 414 (by decide +kernel) rfl), (tb_t 394 (by decide +kernel) rfl), (tb_t 395 (by decide +kernel) rfl), (tb_t 8 (by decide +kernel) rfl), (tb_t 396 (by decide +kernel) rfl), rfl, by decide, by decide, by decide +kernel⟩
theorem lkV_X2_73 : LkV RX2 73 RX2 yX2_workOn cX2_workOn 5 none 1 := ⟨(tb_t 435 (by decide +kernel) rfl), (tb_t 436 (by decide +kernel) rfl), (tb_t 437 (by decide +kernel) rfl), (tb_t 8 (by decide +kernel) rfl), (tb_t 438 (by decide +kernel) rfl), rfl, by decide, by decide, by decide +kernel⟩
theorem lkV_X2_77 : LkV RX2 77 RX2 yX2_countHeld cX2_countHeld 2 none 0 := ⟨(tb_t 445 (by decide +kernel) rfl), (tb_t 411 (by decide +kernel) rfl), (tb_t 412 (by decide +kernel) rfl), (tb_t 8 (by decide +kernel) rfl), (tb_t 413 (by decide +kernel) rfl), rfl, by decide, by decide, by decide +kernel⟩
theorem lkV_X2_80 : LkV RX2 80 RX2 yX2_isForTheFair cX2_isForTheFair 2 (some .boolean) 1 := ⟨(tb_t 446 (by decide +kernel) rfl), (tb_t 407 (by decide +kernel) rfl), (tb_t 408 (by decide +kernel) rfl), (tb_t 8 (by decide +kernel) rfl), (tb_t 409 (by decide +kernel) rfl), rfl, by decide, by decide, by decide +kernel⟩
theorem lkV_X2_83 : LkV RX2 83 RX2 yX2_offer cX2_offer 3 none 1 := ⟨(tb_t 447 (by decide +kernel) rfl), (tb_t 448 (by decide +kernel) rfl), (tb_t 449 (by decide +kernel) rfl), (tb_t 8 (by decide +kernel) rfl), (tb_t 450 (by decide +kernel) rfl), rfl, by decide, by decide, by decide +kernel⟩
theorem lkV_X2_86 : LkV RX2 86 RX2 yX2_natureOf cX2_natureOf 2 (some (.object "UnfinishedFair$Kind")) 1 := ⟨(tb_t 419 (by decide +kernel) rfl), (tb_t 277 (by decide +kernel) rfl), (tb_t 278 (by decide +kernel) rfl), (tb_t 8 (by decide +kernel) rfl), (tb_t 279 (by decide +kernel) rfl), rfl, by decide, by decide, by decide +kernel⟩
theorem lm_X2_96 : Cond.methodLink RX2 96 Lib.Math.min.name ∈ TB ∧ Cond.static Lib.Math.min.name ∈ TB ∧ Cond.initialized "java/lang/Math" ∈ TB ∧ Cond.code Lib.Math.min.name Lib.Math.min.code 2 (some .int) ∈ TB := ⟨(tb_t 440 (by decide +kernel) rfl), (tb_t 441 (by decide +kernel) rfl), (tb_t 14 (by decide +kernel) rfl), (tb_t 442 (by decide +kernel) rfl)⟩
theorem jk_X2_102 {l : Launch} {D : va_G} {ca : Nat → ClassId} {sd : Nat → Nat} {cc : ByteArray} {ret : Option FieldType} {R0 : Room} {k : Kx} {nL cells slots pc : Nat} {ws : va_W} {lv : List (Nat × Value)} {st : List Value} (C : Cx D ca sd cc RX2 ret R0 k nL) (nd : Nat → Nat) (p0 kk : Nat) (Q : Int32 → Prop) (hw : wpv_tires kk  Q) (hN : ∀ j, j < 6 → ws[p0 + j]? = some (nd (j + 1), .inr (ciK j, [.ref (sd (2 + j))]))) (hf : 3 ≤ R0.frames ∧ 80 ≤ R0.locals) (hc : cells ≤ R0.cells ∧ slots ≤ R0.slots) (hst : (st.map fun v => v.category).sum ≤ 8) (d : decode cc pc = .ok (.invokevirtual 102, 3)) : JR l D k nL cells slots pc ws lv ( .ref (nd (kk + 1)) :: st) st [] 0 0 (Ri D (fun (r : Int32) (_ : Unit) => Q r) (fun _ => [])) [.ref (nd (kk + 1))] := by
  match kk, hw with
  | 0, hw => exact jr_O C lkO_X2_102_X4 (c_X4_tires (nd 1) 4 (sd 2) rfl  hw) ⟨rfl, rfl, Nat.le_trans (by decide) hf.1, Nat.le_trans (by decide) hf.2, hc.1, hc.2⟩ [p0 + 0] (by simp [va_nd]) (by show [ws[p0 + 0]?] = _; rw [hN 0 (by decide)]; rfl) (fx_ro C) (p0 + 0) 4 (hN 0 (by decide)) rfl rfl rfl hst d
  | 1, hw => exact jr_O C lkO_X2_102_X0 (c_X0_tires (nd 2) 0 (sd 3) rfl  hw) ⟨rfl, rfl, Nat.le_trans (by decide) hf.1, Nat.le_trans (by decide) hf.2, hc.1, hc.2⟩ [p0 + 1] (by simp [va_nd]) (by show [ws[p0 + 1]?] = _; rw [hN 1 (by decide)]; rfl) (fx_ro C) (p0 + 1) 0 (hN 1 (by decide)) rfl rfl rfl hst d
  | 2, hw => exact jr_O C lkO_X2_102_X3 (c_X4_tires (nd 3) 3 (sd 4) rfl  hw) ⟨rfl, rfl, Nat.le_trans (by decide) hf.1, Nat.le_trans (by decide) hf.2, hc.1, hc.2⟩ [p0 + 2] (by simp [va_nd]) (by show [ws[p0 + 2]?] = _; rw [hN 2 (by decide)]; rfl) (fx_ro C) (p0 + 2) 3 (hN 2 (by decide)) rfl rfl rfl hst d
  | 3, hw => exact jr_O C lkO_X2_102_X6 (c_X6_tires (nd 4) 6 (sd 5) rfl  hw) ⟨rfl, rfl, Nat.le_trans (by decide) hf.1, Nat.le_trans (by decide) hf.2, hc.1, hc.2⟩ [p0 + 3] (by simp [va_nd]) (by show [ws[p0 + 3]?] = _; rw [hN 3 (by decide)]; rfl) (fx_ro C) (p0 + 3) 6 (hN 3 (by decide)) rfl rfl rfl hst d
  | 4, hw => exact jr_O C lkO_X2_102_X1 (c_X0_tires (nd 5) 1 (sd 6) rfl  hw) ⟨rfl, rfl, Nat.le_trans (by decide) hf.1, Nat.le_trans (by decide) hf.2, hc.1, hc.2⟩ [p0 + 4] (by simp [va_nd]) (by show [ws[p0 + 4]?] = _; rw [hN 4 (by decide)]; rfl) (fx_ro C) (p0 + 4) 1 (hN 4 (by decide)) rfl rfl rfl hst d
  | 5, hw => exact jr_O C lkO_X2_102_X5 (c_X5_tires (nd 6) 5 (sd 7) rfl  hw) ⟨rfl, rfl, Nat.le_trans (by decide) hf.1, Nat.le_trans (by decide) hf.2, hc.1, hc.2⟩ [p0 + 5] (by simp [va_nd]) (by show [ws[p0 + 5]?] = _; rw [hN 5 (by decide)]; rfl) (fx_ro C) (p0 + 5) 5 (hN 5 (by decide)) rfl rfl rfl hst d
  | n + 6, hw => exact hw.elim
theorem jk_X2_113 {l : Launch} {D : va_G} {ca : Nat → ClassId} {sd : Nat → Nat} {cc : ByteArray} {ret : Option FieldType} {R0 : Room} {k : Kx} {nL cells slots pc : Nat} {ws : va_W} {lv : List (Nat × Value)} {st : List Value} (C : Cx D ca sd cc RX2 ret R0 k nL) (nd : Nat → Nat) (p0 kk : Nat) (a1 a2 a3 : Int32) (Q : Int32 → Prop) (hw : wpv_bid kk a1 a2 a3 Q) (hN : ∀ j, j < 6 → ws[p0 + j]? = some (nd (j + 1), .inr (ciK j, [.ref (sd (2 + j))]))) (hf : 3 ≤ R0.frames ∧ 80 ≤ R0.locals) (hc : cells ≤ R0.cells ∧ slots ≤ R0.slots) (hst : (st.map fun v => v.category).sum ≤ 8) (d : decode cc pc = .ok (.invokevirtual 113, 3)) : JR l D k nL cells slots pc ws lv (.int a3 :: .int a2 :: .int a1 :: .ref (nd (kk + 1)) :: st) st [] 0 0 (Ri D (fun (r : Int32) (_ : Unit) => Q r) (fun _ => [])) [.ref (nd (kk + 1)), .int a1, .int a2, .int a3] := by
  match kk, hw with
  | 0, hw => exact jr_O C lkO_X2_113_X4 (c_X4_bid (nd 1) 4 (sd 2) rfl a1 a2 a3 hw) ⟨rfl, rfl, Nat.le_trans (by decide) hf.1, Nat.le_trans (by decide) hf.2, hc.1, hc.2⟩ [p0 + 0] (by simp [va_nd]) (by show [ws[p0 + 0]?] = _; rw [hN 0 (by decide)]; rfl) (fx_ro C) (p0 + 0) 4 (hN 0 (by decide)) rfl rfl rfl hst d
  | 1, hw => exact jr_O C lkO_X2_113_X0 (c_X0_bid (nd 2) 0 (sd 3) rfl a1 a2 a3 hw) ⟨rfl, rfl, Nat.le_trans (by decide) hf.1, Nat.le_trans (by decide) hf.2, hc.1, hc.2⟩ [p0 + 1] (by simp [va_nd]) (by show [ws[p0 + 1]?] = _; rw [hN 1 (by decide)]; rfl) (fx_ro C) (p0 + 1) 0 (hN 1 (by decide)) rfl rfl rfl hst d
  | 2, hw => exact jr_O C lkO_X2_113_X3 (c_X3_bid (nd 3) 3 (sd 4) rfl a1 a2 a3 hw) ⟨rfl, rfl, Nat.le_trans (by decide) hf.1, Nat.le_trans (by decide) hf.2, hc.1, hc.2⟩ [p0 + 2] (by simp [va_nd]) (by show [ws[p0 + 2]?] = _; rw [hN 2 (by decide)]; rfl) (fx_ro C) (p0 + 2) 3 (hN 2 (by decide)) rfl rfl rfl hst d
  | 3, hw => exact jr_O C lkO_X2_113_X6 (c_X6_bid (nd 4) 6 (sd 5) rfl a1 a2 a3 hw) ⟨rfl, rfl, Nat.le_trans (by decide) hf.1, Nat.le_trans (by decide) hf.2, hc.1, hc.2⟩ [p0 + 3] (by simp [va_nd]) (by show [ws[p0 + 3]?] = _; rw [hN 3 (by decide)]; rfl) (fx_ro C) (p0 + 3) 6 (hN 3 (by decide)) rfl rfl rfl hst d
  | 4, hw => exact jr_O C lkO_X2_113_X1 (c_X1_bid (nd 5) 1 (sd 6) rfl a1 a2 a3 hw) ⟨rfl, rfl, Nat.le_trans (by decide) hf.1, Nat.le_trans (by decide) hf.2, hc.1, hc.2⟩ [p0 + 4] (by simp [va_nd]) (by show [ws[p0 + 4]?] = _; rw [hN 4 (by decide)]; rfl) (fx_ro C) (p0 + 4) 1 (hN 4 (by decide)) rfl rfl rfl hst d
  | 5, hw => exact jr_O C lkO_X2_113_X5 (c_X3_bid (nd 6) 5 (sd 7) rfl a1 a2 a3 hw) ⟨rfl, rfl, Nat.le_trans (by decide) hf.1, Nat.le_trans (by decide) hf.2, hc.1, hc.2⟩ [p0 + 5] (by simp [va_nd]) (by show [ws[p0 + 5]?] = _; rw [hN 5 (by decide)]; rfl) (fx_ro C) (p0 + 5) 5 (hN 5 (by decide)) rfl rfl rfl hst d
  | n + 6, hw => exact hw.elim
theorem jk_X2_116 {l : Launch} {D : va_G} {ca : Nat → ClassId} {sd : Nat → Nat} {cc : ByteArray} {ret : Option FieldType} {R0 : Room} {k : Kx} {nL cells slots pc : Nat} {ws : va_W} {lv : List (Nat × Value)} {st : List Value} (C : Cx D ca sd cc RX2 ret R0 k nL) (nd : Nat → Nat) (p0 kk : Nat) (a1 a2 : Int32) (Q : Int32 → Prop) (hw : wpv_asked kk a1 a2 Q) (hN : ∀ j, j < 6 → ws[p0 + j]? = some (nd (j + 1), .inr (ciK j, [.ref (sd (2 + j))]))) (hf : 3 ≤ R0.frames ∧ 80 ≤ R0.locals) (hc : cells ≤ R0.cells ∧ slots ≤ R0.slots) (hst : (st.map fun v => v.category).sum ≤ 8) (d : decode cc pc = .ok (.invokevirtual 116, 3)) : JR l D k nL cells slots pc ws lv (.int a2 :: .int a1 :: .ref (nd (kk + 1)) :: st) st [] 0 0 (Ri D (fun (r : Int32) (_ : Unit) => Q r) (fun _ => [])) [.ref (nd (kk + 1)), .int a1, .int a2] := by
  match kk, hw with
  | 0, hw => exact jr_O C lkO_X2_116_X4 (c_X4_asked (nd 1) 4 (sd 2) rfl a1 a2 hw) ⟨rfl, rfl, Nat.le_trans (by decide) hf.1, Nat.le_trans (by decide) hf.2, hc.1, hc.2⟩ [p0 + 0] (by simp [va_nd]) (by show [ws[p0 + 0]?] = _; rw [hN 0 (by decide)]; rfl) (fx_ro C) (p0 + 0) 4 (hN 0 (by decide)) rfl rfl rfl hst d
  | 1, hw => exact jr_O C lkO_X2_116_X0 (c_X0_asked (nd 2) 0 (sd 3) rfl a1 a2 hw) ⟨rfl, rfl, Nat.le_trans (by decide) hf.1, Nat.le_trans (by decide) hf.2, hc.1, hc.2⟩ [p0 + 1] (by simp [va_nd]) (by show [ws[p0 + 1]?] = _; rw [hN 1 (by decide)]; rfl) (fx_ro C) (p0 + 1) 0 (hN 1 (by decide)) rfl rfl rfl hst d
  | 2, hw => exact jr_O C lkO_X2_116_X3 (c_X4_asked (nd 3) 3 (sd 4) rfl a1 a2 hw) ⟨rfl, rfl, Nat.le_trans (by decide) hf.1, Nat.le_trans (by decide) hf.2, hc.1, hc.2⟩ [p0 + 2] (by simp [va_nd]) (by show [ws[p0 + 2]?] = _; rw [hN 2 (by decide)]; rfl) (fx_ro C) (p0 + 2) 3 (hN 2 (by decide)) rfl rfl rfl hst d
  | 3, hw => exact jr_O C lkO_X2_116_X6 (c_X6_asked (nd 4) 6 (sd 5) rfl a1 a2 hw) ⟨rfl, rfl, Nat.le_trans (by decide) hf.1, Nat.le_trans (by decide) hf.2, hc.1, hc.2⟩ [p0 + 3] (by simp [va_nd]) (by show [ws[p0 + 3]?] = _; rw [hN 3 (by decide)]; rfl) (fx_ro C) (p0 + 3) 6 (hN 3 (by decide)) rfl rfl rfl hst d
  | 4, hw => exact jr_O C lkO_X2_116_X1 (c_X0_asked (nd 5) 1 (sd 6) rfl a1 a2 hw) ⟨rfl, rfl, Nat.le_trans (by decide) hf.1, Nat.le_trans (by decide) hf.2, hc.1, hc.2⟩ [p0 + 4] (by simp [va_nd]) (by show [ws[p0 + 4]?] = _; rw [hN 4 (by decide)]; rfl) (fx_ro C) (p0 + 4) 1 (hN 4 (by decide)) rfl rfl rfl hst d
  | 5, hw => exact jr_O C lkO_X2_116_X5 (c_X5_asked (nd 6) 5 (sd 7) rfl a1 a2 hw) ⟨rfl, rfl, Nat.le_trans (by decide) hf.1, Nat.le_trans (by decide) hf.2, hc.1, hc.2⟩ [p0 + 5] (by simp [va_nd]) (by show [ws[p0 + 5]?] = _; rw [hN 5 (by decide)]; rfl) (fx_ro C) (p0 + 5) 5 (hN 5 (by decide)) rfl rfl rfl hst d
  | n + 6, hw => exact hw.elim
theorem jk_X2_90 {l : Launch} {D : va_G} {ca : Nat → ClassId} {sd : Nat → Nat} {cc : ByteArray} {ret : Option FieldType} {R0 : Room} {k : Kx} {nL cells slots pc : Nat} {ws : va_W} {lv : List (Nat × Value)} {st : List Value} (C : Cx D ca sd cc RX2 ret R0 k nL) (nd : Nat → Nat) (p0 kk : Nat) (a1 a2 a3 : Int32) (Q : Int32 → Prop) (hw : wpv_goesOn kk a1 a2 a3 Q) (hN : ∀ j, j < 6 → ws[p0 + j]? = some (nd (j + 1), .inr (ciK j, [.ref (sd (2 + j))]))) (hf : 3 ≤ R0.frames ∧ 80 ≤ R0.locals) (hc : cells ≤ R0.cells ∧ slots ≤ R0.slots) (hst : (st.map fun v => v.category).sum ≤ 8) (d : decode cc pc = .ok (.invokevirtual 90, 3)) : JR l D k nL cells slots pc ws lv (.int a3 :: .int a2 :: .int a1 :: .ref (nd (kk + 1)) :: st) st [] 0 0 (Ri D (fun (r : Int32) (_ : Unit) => Q r) (fun _ => [])) [.ref (nd (kk + 1)), .int a1, .int a2, .int a3] := by
  match kk, hw with
  | 0, hw => exact jr_O C lkO_X2_90_X4 (c_X4_goesOn (nd 1) 4 (sd 2) rfl a1 a2 a3 hw) ⟨rfl, rfl, Nat.le_trans (by decide) hf.1, Nat.le_trans (by decide) hf.2, hc.1, hc.2⟩ [p0 + 0] (by simp [va_nd]) (by show [ws[p0 + 0]?] = _; rw [hN 0 (by decide)]; rfl) (fx_ro C) (p0 + 0) 4 (hN 0 (by decide)) rfl rfl rfl hst d
  | 1, hw => exact jr_O C lkO_X2_90_X0 (c_X0_goesOn (nd 2) 0 (sd 3) rfl a1 a2 a3 hw) ⟨rfl, rfl, Nat.le_trans (by decide) hf.1, Nat.le_trans (by decide) hf.2, hc.1, hc.2⟩ [p0 + 1] (by simp [va_nd]) (by show [ws[p0 + 1]?] = _; rw [hN 1 (by decide)]; rfl) (fx_ro C) (p0 + 1) 0 (hN 1 (by decide)) rfl rfl rfl hst d
  | 2, hw => exact jr_O C lkO_X2_90_X3 (c_X3_goesOn (nd 3) 3 (sd 4) rfl a1 a2 a3 hw) ⟨rfl, rfl, Nat.le_trans (by decide) hf.1, Nat.le_trans (by decide) hf.2, hc.1, hc.2⟩ [p0 + 2] (by simp [va_nd]) (by show [ws[p0 + 2]?] = _; rw [hN 2 (by decide)]; rfl) (fx_ro C) (p0 + 2) 3 (hN 2 (by decide)) rfl rfl rfl hst d
  | 3, hw => exact jr_O C lkO_X2_90_X6 (c_X6_goesOn (nd 4) 6 (sd 5) rfl a1 a2 a3 hw) ⟨rfl, rfl, Nat.le_trans (by decide) hf.1, Nat.le_trans (by decide) hf.2, hc.1, hc.2⟩ [p0 + 3] (by simp [va_nd]) (by show [ws[p0 + 3]?] = _; rw [hN 3 (by decide)]; rfl) (fx_ro C) (p0 + 3) 6 (hN 3 (by decide)) rfl rfl rfl hst d
  | 4, hw => exact jr_O C lkO_X2_90_X1 (c_X1_goesOn (nd 5) 1 (sd 6) rfl a1 a2 a3 hw) ⟨rfl, rfl, Nat.le_trans (by decide) hf.1, Nat.le_trans (by decide) hf.2, hc.1, hc.2⟩ [p0 + 4] (by simp [va_nd]) (by show [ws[p0 + 4]?] = _; rw [hN 4 (by decide)]; rfl) (fx_ro C) (p0 + 4) 1 (hN 4 (by decide)) rfl rfl rfl hst d
  | 5, hw => exact jr_O C lkO_X2_90_X5 (c_X5_goesOn (nd 6) 5 (sd 7) rfl a1 a2 a3 hw) ⟨rfl, rfl, Nat.le_trans (by decide) hf.1, Nat.le_trans (by decide) hf.2, hc.1, hc.2⟩ [p0 + 5] (by simp [va_nd]) (by show [ws[p0 + 5]?] = _; rw [hN 5 (by decide)]; rfl) (fx_ro C) (p0 + 5) 5 (hN 5 (by decide)) rfl rfl rfl hst d
  | n + 6, hw => exact hw.elim
def wp_X2_isFull (sz : Int32)   (Q : (Int32) → Prop) : Prop := (sz < 8 → Q 0) ∧ (¬ (sz < 8) → Q 1)
set_option maxRecDepth 100000 in
set_option maxHeartbeats 8000000 in
theorem c_X2_isFull {l : Launch} {D : va_G} {ca : Nat → ClassId} {sd : Nat → Nat}  (ad : Nat → Nat) (n0 : Nat) (sk : Nat → Int32) (ze : Nat → Int32) (ma : Nat → Int32) (ki : Nat → Int32) (dn : Nat → Int32) (wi : Nat → Int32) (du : Nat → Int32) (he : Nat → Int32) (yr : Int32) (sz : Int32)    {Q : (Int32) → Prop} (hw : wp_X2_isFull sz   Q) : Cn l D ca sd yX2_isFull cX2_isFull 1 (some .boolean) { frames := 0, cells := 0, slots := 0, locals := 0 } [.ref (ad 0)] (wC ca ad n0 sk ze ma ki dn wi du he yr sz) [] 0 0 (Ri D (fun (r : Int32) (u : Unit) => Q r ) (fun _ => [])) := by
  refine cn_ofR (by decide) (Nat.le_of_ble_eq_true rfl) (fun k C hR => ?_)
  have C : Cx D ca sd cX2_isFull RX2 (some .boolean) { frames := 0, cells := 0, slots := 0, locals := 0 } k 1 := C
  unfold wp_X2_isFull at hw
  show J l D k 1 0 0 0 (wC ca ad n0 sk ze ma ki dn wi du he yr sz) [(0, .ref (ad 0))] []
  refine j_aload_n C 0 dX2_isFull_0 rfl ?_
  refine j_get C fl_X2_56_2 0 dX2_isFull_1 rfl rfl ?_
  refine j_bipush C 8 dX2_isFull_4 (by decide) ?_
  refine j_icmp_lt C 13 dX2_isFull_6 (by decide) (fun z => ?_) (fun z => ?_)
  · replace hw := hw.1 z
    refine j_iconst C 0 dX2_isFull_13 (by decide) ?_
    exact j_zretR C hR (by decide) () rfl dX2_isFull_14 hw
  · replace hw := hw.2 z
    refine j_iconst C 1 dX2_isFull_9 (by decide) ?_
    refine j_goto C 14 dX2_isFull_10 (by decide) ?_
    exact j_zretR C hR (by decide) () rfl dX2_isFull_14 hw
def wp_X2_add (ki : Nat → Int32) (dn : Nat → Int32) (wi : Nat → Int32) (du : Nat → Int32) (sz : Int32)  (a1 : Int32) (a2 : Int32) (a3 : Int32) (a4 : Int32) (Q : (Nat → Int32) → (Nat → Int32) → (Nat → Int32) → (Nat → Int32) → (Int32) → Prop) : Prop := wp_X2_isFull sz (fun r1 => (r1 = 0 → vp_in sz 8 ∧ (vp_in sz 8 ∧ (vp_in sz 8 ∧ (vp_in sz 8 ∧ (Q (upd ki (sz.toNatClampNeg) a1) (upd dn (sz.toNatClampNeg) a2) (upd wi (sz.toNatClampNeg) a3) (upd du (sz.toNatClampNeg) a4) (sz + 1)))))) ∧ (¬ (r1 = 0) → Q ki dn wi du sz))
set_option maxRecDepth 100000 in
set_option maxHeartbeats 8000000 in
theorem c_X2_add {l : Launch} {D : va_G} {ca : Nat → ClassId} {sd : Nat → Nat}  (ad : Nat → Nat) (n0 : Nat) (sk : Nat → Int32) (ze : Nat → Int32) (ma : Nat → Int32) (ki : Nat → Int32) (dn : Nat → Int32) (wi : Nat → Int32) (du : Nat → Int32) (he : Nat → Int32) (yr : Int32) (sz : Int32)  (a1 : Int32) (a2 : Int32) (a3 : Int32) (a4 : Int32)  {Q : (Nat → Int32) → (Nat → Int32) → (Nat → Int32) → (Nat → Int32) → (Int32) → Prop} (hw : wp_X2_add ki dn wi du sz  a1 a2 a3 a4 Q) : Cn l D ca sd yX2_add cX2_add 5 none { frames := 1, cells := 0, slots := 0, locals := 20 } [.ref (ad 0), .int a1, .int a2, .int a3, .int a4] (wC ca ad n0 sk ze ma ki dn wi du he yr sz) (wC ca ad n0 sk ze ma ki dn wi du he yr sz) 0 0 (Rv D (fun u : (Nat → Int32) × (Nat → Int32) × (Nat → Int32) × (Nat → Int32) × (Int32) => Q u.1 u.2.1 u.2.2.1 u.2.2.2.1 u.2.2.2.2) (fun u => (wC ca ad n0 sk ze ma u.1 u.2.1 u.2.2.1 u.2.2.2.1 he yr u.2.2.2.2))) := by
  refine cn_of (by decide) (Nat.le_of_ble_eq_true rfl) (fun k C hR hB _ => ?_)
  have C : Cx D ca sd cX2_add RX2 none { frames := 1, cells := 0, slots := 0, locals := 20 } k 5 := C
  unfold wp_X2_add at hw
  show J l D k 5 0 0 0 (wC ca ad n0 sk ze ma ki dn wi du he yr sz) [(0, .ref (ad 0)), (1, .int a1), (2, .int a2), (3, .int a3), (4, .int a4)] []
  refine j_aload_n C 0 dX2_add_0 rfl ?_
  refine j_ciZ C (jr_V C lkV_X2_59 (c_X2_isFull ad n0 sk ze ma ki dn wi du he yr sz hw) ⟨rfl, rfl, by decide, by decide, by decide, by decide⟩ [0, 1, 2, 3, 4, 5, 6, 7, 8] (by decide) rfl (fx_ro C) 0 2 rfl rfl rfl rfl (Nat.le_of_ble_eq_true rfl) dX2_add_1) (fun r1 u1 hw => ?_)
  refine j_if_eq C 8 dX2_add_4 (by decide) (fun z => ?_) (fun z => ?_)
  · replace hw := hw.1 z
    refine j_aload_n C 0 dX2_add_8 rfl ?_
    refine j_get C fl_X2_21_2 0 dX2_add_9 rfl rfl ?_
    refine j_aload_n C 0 dX2_add_12 rfl ?_
    refine j_get C fl_X2_56_2 0 dX2_add_13 rfl rfl ?_
    refine j_iload_n C 1 dX2_add_16 rfl ?_
    have hi2 := hw.1
    replace hw := hw.2
    refine j_iast C hB 4 (wC ca ad n0 sk ze ma (upd ki (sz.toNatClampNeg) a1) dn wi du he yr sz) dX2_add_17 rfl hi2 rfl ?_
    refine j_aload_n C 0 dX2_add_18 rfl ?_
    refine j_get C fl_X2_24_2 0 dX2_add_19 rfl rfl ?_
    refine j_aload_n C 0 dX2_add_22 rfl ?_
    refine j_get C fl_X2_56_2 0 dX2_add_23 rfl rfl ?_
    refine j_iload_n C 2 dX2_add_26 rfl ?_
    have hi3 := hw.1
    replace hw := hw.2
    refine j_iast C hB 5 (wC ca ad n0 sk ze ma (upd ki (sz.toNatClampNeg) a1) (upd dn (sz.toNatClampNeg) a2) wi du he yr sz) dX2_add_27 rfl hi3 rfl ?_
    refine j_aload_n C 0 dX2_add_28 rfl ?_
    refine j_get C fl_X2_27_2 0 dX2_add_29 rfl rfl ?_
    refine j_aload_n C 0 dX2_add_32 rfl ?_
    refine j_get C fl_X2_56_2 0 dX2_add_33 rfl rfl ?_
    refine j_iload_n C 3 dX2_add_36 rfl ?_
    have hi4 := hw.1
    replace hw := hw.2
    refine j_iast C hB 6 (wC ca ad n0 sk ze ma (upd ki (sz.toNatClampNeg) a1) (upd dn (sz.toNatClampNeg) a2) (upd wi (sz.toNatClampNeg) a3) du he yr sz) dX2_add_37 rfl hi4 rfl ?_
    refine j_aload_n C 0 dX2_add_38 rfl ?_
    refine j_get C fl_X2_30_2 0 dX2_add_39 rfl rfl ?_
    refine j_aload_n C 0 dX2_add_42 rfl ?_
    refine j_get C fl_X2_56_2 0 dX2_add_43 rfl rfl ?_
    refine j_iload C 4 dX2_add_46 rfl ?_
    have hi5 := hw.1
    replace hw := hw.2
    refine j_iast C hB 7 (wC ca ad n0 sk ze ma (upd ki (sz.toNatClampNeg) a1) (upd dn (sz.toNatClampNeg) a2) (upd wi (sz.toNatClampNeg) a3) (upd du (sz.toNatClampNeg) a4) he yr sz) dX2_add_48 rfl hi5 rfl ?_
    refine j_aload_n C 0 dX2_add_49 rfl ?_
    refine j_dup C dX2_add_50 rfl ?_
    refine j_get C fl_X2_56_2 0 dX2_add_51 rfl rfl ?_
    refine j_iconst C 1 dX2_add_54 (by decide) ?_
    refine j_iadd C dX2_add_55 ?_
    refine j_put C hB fw_X2_56_2 0 (wC ca ad n0 sk ze ma (upd ki (sz.toNatClampNeg) a1) (upd dn (sz.toNatClampNeg) a2) (upd wi (sz.toNatClampNeg) a3) (upd du (sz.toNatClampNeg) a4) he yr (sz + 1)) dX2_add_56 rfl rfl rfl (Nat.le_of_ble_eq_true rfl) rfl ?_
    exact j_vret C hB hR (upd ki (sz.toNatClampNeg) a1, upd dn (sz.toNatClampNeg) a2, upd wi (sz.toNatClampNeg) a3, upd du (sz.toNatClampNeg) a4, sz + 1) rfl dX2_add_59 hw rfl
  · replace hw := hw.2 z
    exact j_vret C hB hR (ki, dn, wi, du, sz) rfl dX2_add_7 hw rfl
def wp_X2_isFinished (dn : Nat → Int32)  (a1 : Int32) (Q : (Int32) → Prop) : Prop := vp_in a1 8 ∧ (((dn (a1.toNatClampNeg)) < 100 → Q 0) ∧ (¬ ((dn (a1.toNatClampNeg)) < 100) → Q 1))
set_option maxRecDepth 100000 in
set_option maxHeartbeats 8000000 in
theorem c_X2_isFinished {l : Launch} {D : va_G} {ca : Nat → ClassId} {sd : Nat → Nat}  (ad : Nat → Nat) (n0 : Nat) (sk : Nat → Int32) (ze : Nat → Int32) (ma : Nat → Int32) (ki : Nat → Int32) (dn : Nat → Int32) (wi : Nat → Int32) (du : Nat → Int32) (he : Nat → Int32) (yr : Int32) (sz : Int32)  (a1 : Int32)  {Q : (Int32) → Prop} (hw : wp_X2_isFinished dn  a1 Q) : Cn l D ca sd yX2_isFinished cX2_isFinished 2 (some .boolean) { frames := 0, cells := 0, slots := 0, locals := 0 } [.ref (ad 0), .int a1] (wC ca ad n0 sk ze ma ki dn wi du he yr sz) [] 0 0 (Ri D (fun (r : Int32) (u : Unit) => Q r ) (fun _ => [])) := by
  refine cn_ofR (by decide) (Nat.le_of_ble_eq_true rfl) (fun k C hR => ?_)
  have C : Cx D ca sd cX2_isFinished RX2 (some .boolean) { frames := 0, cells := 0, slots := 0, locals := 0 } k 2 := C
  unfold wp_X2_isFinished at hw
  show J l D k 2 0 0 0 (wC ca ad n0 sk ze ma ki dn wi du he yr sz) [(0, .ref (ad 0)), (1, .int a1)] []
  refine j_aload_n C 0 dX2_isFinished_0 rfl ?_
  refine j_get C fl_X2_24_2 0 dX2_isFinished_1 rfl rfl ?_
  refine j_iload_n C 1 dX2_isFinished_4 rfl ?_
  have hi1 := hw.1
  replace hw := hw.2
  refine j_iald C 5 dX2_isFinished_5 rfl hi1 ?_
  refine j_bipush C 100 dX2_isFinished_6 (by decide) ?_
  refine j_icmp_lt C 15 dX2_isFinished_8 (by decide) (fun z => ?_) (fun z => ?_)
  · replace hw := hw.1 z
    refine j_iconst C 0 dX2_isFinished_15 (by decide) ?_
    exact j_zretR C hR (by decide) () rfl dX2_isFinished_16 hw
  · replace hw := hw.2 z
    refine j_iconst C 1 dX2_isFinished_11 (by decide) ?_
    refine j_goto C 16 dX2_isFinished_12 (by decide) ?_
    exact j_zretR C hR (by decide) () rfl dX2_isFinished_16 hw
def wp_X2_canBeLeft (dn : Nat → Int32) (wi : Nat → Int32)  (a1 : Int32) (Q : (Int32) → Prop) : Prop := vp_in a1 8 ∧ (((wi (a1.toNatClampNeg)) = (-1) → Q 0) ∧ (¬ ((wi (a1.toNatClampNeg)) = (-1)) → wp_X2_isFinished dn a1 (fun r2 => (r2 = 0 → Q 1) ∧ (¬ (r2 = 0) → Q 0))))
set_option maxRecDepth 100000 in
set_option maxHeartbeats 8000000 in
theorem c_X2_canBeLeft {l : Launch} {D : va_G} {ca : Nat → ClassId} {sd : Nat → Nat}  (ad : Nat → Nat) (n0 : Nat) (sk : Nat → Int32) (ze : Nat → Int32) (ma : Nat → Int32) (ki : Nat → Int32) (dn : Nat → Int32) (wi : Nat → Int32) (du : Nat → Int32) (he : Nat → Int32) (yr : Int32) (sz : Int32)  (a1 : Int32)  {Q : (Int32) → Prop} (hw : wp_X2_canBeLeft dn wi  a1 Q) : Cn l D ca sd yX2_canBeLeft cX2_canBeLeft 2 (some .boolean) { frames := 1, cells := 0, slots := 0, locals := 21 } [.ref (ad 0), .int a1] (wC ca ad n0 sk ze ma ki dn wi du he yr sz) [] 0 0 (Ri D (fun (r : Int32) (u : Unit) => Q r ) (fun _ => [])) := by
  refine cn_ofR (by decide) (Nat.le_of_ble_eq_true rfl) (fun k C hR => ?_)
  have C : Cx D ca sd cX2_canBeLeft RX2 (some .boolean) { frames := 1, cells := 0, slots := 0, locals := 21 } k 2 := C
  unfold wp_X2_canBeLeft at hw
  show J l D k 2 0 0 0 (wC ca ad n0 sk ze ma ki dn wi du he yr sz) [(0, .ref (ad 0)), (1, .int a1)] []
  refine j_aload_n C 0 dX2_canBeLeft_0 rfl ?_
  refine j_get C fl_X2_27_2 0 dX2_canBeLeft_1 rfl rfl ?_
  refine j_iload_n C 1 dX2_canBeLeft_4 rfl ?_
  have hi1 := hw.1
  replace hw := hw.2
  refine j_iald C 6 dX2_canBeLeft_5 rfl hi1 ?_
  refine j_iconst C (-1) dX2_canBeLeft_6 (by decide) ?_
  refine j_icmp_eq C 22 dX2_canBeLeft_7 (by decide) (fun z => ?_) (fun z => ?_)
  · replace hw := hw.1 z
    refine j_iconst C 0 dX2_canBeLeft_22 (by decide) ?_
    exact j_zretR C hR (by decide) () rfl dX2_canBeLeft_23 hw
  · replace hw := hw.2 z
    refine j_aload_n C 0 dX2_canBeLeft_10 rfl ?_
    refine j_iload_n C 1 dX2_canBeLeft_11 rfl ?_
    refine j_ciZ C (jr_V C lkV_X2_63 (c_X2_isFinished ad n0 sk ze ma ki dn wi du he yr sz a1 hw) ⟨rfl, rfl, by decide, by decide, by decide, by decide⟩ [0, 1, 2, 3, 4, 5, 6, 7, 8] (by decide) rfl (fx_ro C) 0 2 rfl rfl rfl rfl (Nat.le_of_ble_eq_true rfl) dX2_canBeLeft_12) (fun r2 u2 hw => ?_)
    refine j_if_ne C 22 dX2_canBeLeft_15 (by decide) (fun z => ?_) (fun z => ?_)
    · replace hw := hw.2 z
      refine j_iconst C 0 dX2_canBeLeft_22 (by decide) ?_
      exact j_zretR C hR (by decide) () rfl dX2_canBeLeft_23 hw
    · replace hw := hw.1 z
      refine j_iconst C 1 dX2_canBeLeft_18 (by decide) ?_
      refine j_goto C 23 dX2_canBeLeft_19 (by decide) ?_
      exact j_zretR C hR (by decide) () rfl dX2_canBeLeft_23 hw
def wp_X2_isForTheFair (dn : Nat → Int32) (wi : Nat → Int32)  (a1 : Int32) (Q : (Int32) → Prop) : Prop := vp_in a1 8 ∧ (((wi (a1.toNatClampNeg)) = (-1) → wp_X2_isFinished dn a1 (fun r2 => (r2 = 0 → Q 1) ∧ (¬ (r2 = 0) → Q 0))) ∧ (¬ ((wi (a1.toNatClampNeg)) = (-1)) → Q 0))
set_option maxRecDepth 100000 in
set_option maxHeartbeats 8000000 in
theorem c_X2_isForTheFair {l : Launch} {D : va_G} {ca : Nat → ClassId} {sd : Nat → Nat}  (ad : Nat → Nat) (n0 : Nat) (sk : Nat → Int32) (ze : Nat → Int32) (ma : Nat → Int32) (ki : Nat → Int32) (dn : Nat → Int32) (wi : Nat → Int32) (du : Nat → Int32) (he : Nat → Int32) (yr : Int32) (sz : Int32)  (a1 : Int32)  {Q : (Int32) → Prop} (hw : wp_X2_isForTheFair dn wi  a1 Q) : Cn l D ca sd yX2_isForTheFair cX2_isForTheFair 2 (some .boolean) { frames := 1, cells := 0, slots := 0, locals := 21 } [.ref (ad 0), .int a1] (wC ca ad n0 sk ze ma ki dn wi du he yr sz) [] 0 0 (Ri D (fun (r : Int32) (u : Unit) => Q r ) (fun _ => [])) := by
  refine cn_ofR (by decide) (Nat.le_of_ble_eq_true rfl) (fun k C hR => ?_)
  have C : Cx D ca sd cX2_isForTheFair RX2 (some .boolean) { frames := 1, cells := 0, slots := 0, locals := 21 } k 2 := C
  unfold wp_X2_isForTheFair at hw
  show J l D k 2 0 0 0 (wC ca ad n0 sk ze ma ki dn wi du he yr sz) [(0, .ref (ad 0)), (1, .int a1)] []
  refine j_aload_n C 0 dX2_isForTheFair_0 rfl ?_
  refine j_get C fl_X2_27_2 0 dX2_isForTheFair_1 rfl rfl ?_
  refine j_iload_n C 1 dX2_isForTheFair_4 rfl ?_
  have hi1 := hw.1
  replace hw := hw.2
  refine j_iald C 6 dX2_isForTheFair_5 rfl hi1 ?_
  refine j_iconst C (-1) dX2_isForTheFair_6 (by decide) ?_
  refine j_icmp_ne C 22 dX2_isForTheFair_7 (by decide) (fun z => ?_) (fun z => ?_)
  · replace hw := hw.2 z
    refine j_iconst C 0 dX2_isForTheFair_22 (by decide) ?_
    exact j_zretR C hR (by decide) () rfl dX2_isForTheFair_23 hw
  · replace hw := hw.1 z
    refine j_aload_n C 0 dX2_isForTheFair_10 rfl ?_
    refine j_iload_n C 1 dX2_isForTheFair_11 rfl ?_
    refine j_ciZ C (jr_V C lkV_X2_63 (c_X2_isFinished ad n0 sk ze ma ki dn wi du he yr sz a1 hw) ⟨rfl, rfl, by decide, by decide, by decide, by decide⟩ [0, 1, 2, 3, 4, 5, 6, 7, 8] (by decide) rfl (fx_ro C) 0 2 rfl rfl rfl rfl (Nat.le_of_ble_eq_true rfl) dX2_isForTheFair_12) (fun r2 u2 hw => ?_)
    refine j_if_ne C 22 dX2_isForTheFair_15 (by decide) (fun z => ?_) (fun z => ?_)
    · replace hw := hw.2 z
      refine j_iconst C 0 dX2_isForTheFair_22 (by decide) ?_
      exact j_zretR C hR (by decide) () rfl dX2_isForTheFair_23 hw
    · replace hw := hw.1 z
      refine j_iconst C 1 dX2_isForTheFair_18 (by decide) ?_
      refine j_goto C 23 dX2_isForTheFair_19 (by decide) ?_
      exact j_zretR C hR (by decide) () rfl dX2_isForTheFair_23 hw
def wp_X2_letGo (ze : Nat → Int32) (wi : Nat → Int32) (du : Nat → Int32)  (a1 : Int32) (Q : (Nat → Int32) → (Nat → Int32) → (Nat → Int32) → Prop) : Prop := vp_in a1 8 ∧ (vp_in (wi (a1.toNatClampNeg)) 6 ∧ (vp_in a1 8 ∧ (vp_in a1 8 ∧ (Q (upd ze ((wi (a1.toNatClampNeg)).toNatClampNeg) 4) (upd wi (a1.toNatClampNeg) (-1)) (upd du (a1.toNatClampNeg) 0)))))
set_option maxRecDepth 100000 in
set_option maxHeartbeats 8000000 in
theorem c_X2_letGo {l : Launch} {D : va_G} {ca : Nat → ClassId} {sd : Nat → Nat}  (ad : Nat → Nat) (n0 : Nat) (sk : Nat → Int32) (ze : Nat → Int32) (ma : Nat → Int32) (ki : Nat → Int32) (dn : Nat → Int32) (wi : Nat → Int32) (du : Nat → Int32) (he : Nat → Int32) (yr : Int32) (sz : Int32)  (a1 : Int32)  {Q : (Nat → Int32) → (Nat → Int32) → (Nat → Int32) → Prop} (hw : wp_X2_letGo ze wi du  a1 Q) : Cn l D ca sd yX2_letGo cX2_letGo 2 none { frames := 0, cells := 0, slots := 0, locals := 0 } [.ref (ad 0), .int a1] (wC ca ad n0 sk ze ma ki dn wi du he yr sz) (wC ca ad n0 sk ze ma ki dn wi du he yr sz) 0 0 (Rv D (fun u : (Nat → Int32) × (Nat → Int32) × (Nat → Int32) => Q u.1 u.2.1 u.2.2) (fun u => (wC ca ad n0 sk u.1 ma ki dn u.2.1 u.2.2 he yr sz))) := by
  refine cn_of (by decide) (Nat.le_of_ble_eq_true rfl) (fun k C hR hB _ => ?_)
  have C : Cx D ca sd cX2_letGo RX2 none { frames := 0, cells := 0, slots := 0, locals := 0 } k 2 := C
  unfold wp_X2_letGo at hw
  show J l D k 2 0 0 0 (wC ca ad n0 sk ze ma ki dn wi du he yr sz) [(0, .ref (ad 0)), (1, .int a1)] []
  refine j_aload_n C 0 dX2_letGo_0 rfl ?_
  refine j_get C fl_X2_15_2 0 dX2_letGo_1 rfl rfl ?_
  refine j_aload_n C 0 dX2_letGo_4 rfl ?_
  refine j_get C fl_X2_27_2 0 dX2_letGo_5 rfl rfl ?_
  refine j_iload_n C 1 dX2_letGo_8 rfl ?_
  have hi1 := hw.1
  replace hw := hw.2
  refine j_iald C 6 dX2_letGo_9 rfl hi1 ?_
  refine j_iconst C 4 dX2_letGo_10 (by decide) ?_
  have hi2 := hw.1
  replace hw := hw.2
  refine j_iast C hB 2 (wC ca ad n0 sk (upd ze ((wi (a1.toNatClampNeg)).toNatClampNeg) 4) ma ki dn wi du he yr sz) dX2_letGo_11 rfl hi2 rfl ?_
  refine j_aload_n C 0 dX2_letGo_12 rfl ?_
  refine j_get C fl_X2_27_2 0 dX2_letGo_13 rfl rfl ?_
  refine j_iload_n C 1 dX2_letGo_16 rfl ?_
  refine j_iconst C (-1) dX2_letGo_17 (by decide) ?_
  have hi3 := hw.1
  replace hw := hw.2
  refine j_iast C hB 6 (wC ca ad n0 sk (upd ze ((wi (a1.toNatClampNeg)).toNatClampNeg) 4) ma ki dn (upd wi (a1.toNatClampNeg) (-1)) du he yr sz) dX2_letGo_18 rfl hi3 rfl ?_
  refine j_aload_n C 0 dX2_letGo_19 rfl ?_
  refine j_get C fl_X2_30_2 0 dX2_letGo_20 rfl rfl ?_
  refine j_iload_n C 1 dX2_letGo_23 rfl ?_
  refine j_iconst C 0 dX2_letGo_24 (by decide) ?_
  have hi4 := hw.1
  replace hw := hw.2
  refine j_iast C hB 7 (wC ca ad n0 sk (upd ze ((wi (a1.toNatClampNeg)).toNatClampNeg) 4) ma ki dn (upd wi (a1.toNatClampNeg) (-1)) (upd du (a1.toNatClampNeg) 0) he yr sz) dX2_letGo_25 rfl hi4 rfl ?_
  exact j_vret C hB hR (upd ze ((wi (a1.toNatClampNeg)).toNatClampNeg) 4, upd wi (a1.toNatClampNeg) (-1), upd du (a1.toNatClampNeg) 0) rfl dX2_letGo_26 hw rfl
def wpl_X2_countHeld_10 (dn : Nat → Int32) (wi : Nat → Int32) (sz : Int32) (K : (Int32) → (Nat → Int32) → Prop) : Nat → (Int32) → (Nat → Int32) → Prop
  | 0, _, _ => False
  | n + 1, x1, he => (sz ≤ x1 → K x1 he) ∧ (¬ (sz ≤ x1) → wp_X2_canBeLeft dn wi x1 (fun r2 => (r2 = 0 → wpl_X2_countHeld_10 dn wi sz  K n (x1 + 1) he) ∧ (¬ (r2 = 0) → vp_in x1 8 ∧ (vp_in (wi (x1.toNatClampNeg)) 6 ∧ (vp_in (wi (x1.toNatClampNeg)) 6 ∧ (wpl_X2_countHeld_10 dn wi sz  K n (x1 + 1) (upd he ((wi (x1.toNatClampNeg)).toNatClampNeg) ((he ((wi (x1.toNatClampNeg)).toNatClampNeg)) + 1))))))))
def wp_X2_countHeld (dn : Nat → Int32) (wi : Nat → Int32) (he : Nat → Int32) (sz : Int32)   (Q : (Nat → Int32) → Prop) : Prop := wp_J7_fill_53178 he 6 0 (fun c1_0 => ∃ n6 : Nat, wpl_X2_countHeld_10 dn wi sz  (fun y6_1 y6_he => Q y6_he) n6 0 c1_0)
set_option maxRecDepth 100000 in
set_option maxHeartbeats 8000000 in
theorem ml_X2_countHeld_10 {l : Launch} {D : va_G} {ca : Nat → ClassId} {sd : Nat → Nat}  {k : Kx} (ad : Nat → Nat) (n0 : Nat)  (sk : Nat → Int32) (ze : Nat → Int32) (ma : Nat → Int32) (ki : Nat → Int32) (dn : Nat → Int32) (wi : Nat → Int32) (du : Nat → Int32) (yr : Int32) (sz : Int32) (C : Cx D ca sd cX2_countHeld RX2 none { frames := 2, cells := 0, slots := 0, locals := 42 } k 2) {Q : (Nat → Int32) → Prop} (hR : Rx (Rv D (fun u : (Nat → Int32) => Q u) (fun u => (wC ca ad n0 sk ze ma ki dn wi du u yr sz))) 0 0 k) (hB : Wx k) {K : (Int32) → (Nat → Int32) → Prop} (hK : ∀ (x1' : Int32) (he' : Nat → Int32), K x1' he' → J l D k 2 0 0 47 (wC ca ad n0 sk ze ma ki dn wi du he' yr sz) [(0, .ref (ad 0)), (1, .int x1')] []) : ∀ (n : Nat) (x1 : Int32) (he : Nat → Int32), wpl_X2_countHeld_10 dn wi sz  K n x1 he → J l D k 2 0 0 10 (wC ca ad n0 sk ze ma ki dn wi du he yr sz) [(0, .ref (ad 0)), (1, .int x1)] [] := by
  intro n
  induction n with
  | zero =>
    intro x1 he hw
    rw [wpl_X2_countHeld_10] at hw
    exact hw.elim
  | succ n ih =>
    intro x1 he hw
    rw [wpl_X2_countHeld_10] at hw
    refine j_iload_n C 1 dX2_countHeld_10 rfl ?_
    refine j_aload_n C 0 dX2_countHeld_11 rfl ?_
    refine j_get C fl_X2_56_2 0 dX2_countHeld_12 rfl rfl ?_
    refine j_icmp_ge C 47 dX2_countHeld_15 (by decide) (fun z => ?_) (fun z => ?_)
    · replace hw := hw.1 z
      exact hK x1 he hw
    · replace hw := hw.2 z
      refine j_aload_n C 0 dX2_countHeld_18 rfl ?_
      refine j_iload_n C 1 dX2_countHeld_19 rfl ?_
      refine j_ciZ C (jr_V C lkV_X2_70 (c_X2_canBeLeft ad n0 sk ze ma ki dn wi du he yr sz x1 hw) ⟨rfl, rfl, by decide, by decide, by decide, by decide⟩ [0, 1, 2, 3, 4, 5, 6, 7, 8] (by decide) rfl (fx_ro C) 0 2 rfl rfl rfl rfl (Nat.le_of_ble_eq_true rfl) dX2_countHeld_20) (fun r2 u2 hw => ?_)
      refine j_if_eq C 41 dX2_countHeld_23 (by decide) (fun z => ?_) (fun z => ?_)
      · replace hw := hw.1 z
        refine j_iinc C 1 (x1 + 1) [(1, .int (x1 + 1)), (0, .ref (ad 0))] dX2_countHeld_41 rfl rfl (by decide) rfl ?_
        refine j_goto C 10 dX2_countHeld_44 (by decide) ?_
        refine j_lsub [1, 0] [(0, .ref (ad 0)), (1, .int (x1 + 1))] rfl ?_
        exact ih (x1 + 1) he hw
      · replace hw := hw.2 z
        refine j_aload_n C 0 dX2_countHeld_26 rfl ?_
        refine j_get C fl_X2_33_2 0 dX2_countHeld_27 rfl rfl ?_
        refine j_aload_n C 0 dX2_countHeld_30 rfl ?_
        refine j_get C fl_X2_27_2 0 dX2_countHeld_31 rfl rfl ?_
        refine j_iload_n C 1 dX2_countHeld_34 rfl ?_
        have hi3 := hw.1
        replace hw := hw.2
        refine j_iald C 6 dX2_countHeld_35 rfl hi3 ?_
        refine j_dup2 C dX2_countHeld_36 rfl rfl ?_
        have hi4 := hw.1
        replace hw := hw.2
        refine j_iald C 8 dX2_countHeld_37 rfl hi4 ?_
        refine j_iconst C 1 dX2_countHeld_38 (by decide) ?_
        refine j_iadd C dX2_countHeld_39 ?_
        have hi5 := hw.1
        replace hw := hw.2
        refine j_iast C hB 8 (wC ca ad n0 sk ze ma ki dn wi du (upd he ((wi (x1.toNatClampNeg)).toNatClampNeg) ((he ((wi (x1.toNatClampNeg)).toNatClampNeg)) + 1)) yr sz) dX2_countHeld_40 rfl hi5 rfl ?_
        refine j_iinc C 1 (x1 + 1) [(1, .int (x1 + 1)), (0, .ref (ad 0))] dX2_countHeld_41 rfl rfl (by decide) rfl ?_
        refine j_goto C 10 dX2_countHeld_44 (by decide) ?_
        refine j_lsub [1, 0] [(0, .ref (ad 0)), (1, .int (x1 + 1))] rfl ?_
        exact ih (x1 + 1) (upd he ((wi (x1.toNatClampNeg)).toNatClampNeg) ((he ((wi (x1.toNatClampNeg)).toNatClampNeg)) + 1)) hw
set_option maxRecDepth 100000 in
set_option maxHeartbeats 8000000 in
theorem c_X2_countHeld {l : Launch} {D : va_G} {ca : Nat → ClassId} {sd : Nat → Nat}  (ad : Nat → Nat) (n0 : Nat) (sk : Nat → Int32) (ze : Nat → Int32) (ma : Nat → Int32) (ki : Nat → Int32) (dn : Nat → Int32) (wi : Nat → Int32) (du : Nat → Int32) (he : Nat → Int32) (yr : Int32) (sz : Int32)    {Q : (Nat → Int32) → Prop} (hw : wp_X2_countHeld dn wi he sz   Q) : Cn l D ca sd yX2_countHeld cX2_countHeld 2 none { frames := 2, cells := 0, slots := 0, locals := 42 } [.ref (ad 0)] (wC ca ad n0 sk ze ma ki dn wi du he yr sz) (wC ca ad n0 sk ze ma ki dn wi du he yr sz) 0 0 (Rv D (fun u : (Nat → Int32) => Q u) (fun u => (wC ca ad n0 sk ze ma ki dn wi du u yr sz))) := by
  refine cn_of (by decide) (Nat.le_of_ble_eq_true rfl) (fun k C hR hB _ => ?_)
  have C : Cx D ca sd cX2_countHeld RX2 none { frames := 2, cells := 0, slots := 0, locals := 42 } k 2 := C
  unfold wp_X2_countHeld at hw
  show J l D k 2 0 0 0 (wC ca ad n0 sk ze ma ki dn wi du he yr sz) [(0, .ref (ad 0))] []
  refine j_aload_n C 0 dX2_countHeld_0 rfl ?_
  refine j_get C fl_X2_33_2 0 dX2_countHeld_1 rfl rfl ?_
  refine j_iconst C 0 dX2_countHeld_4 (by decide) ?_
  refine j_cvT C hB 8 9 (fun u1 : (Nat → Int32) => (wC ca ad n0 sk ze ma ki dn wi du u1 yr sz)) rfl (fun _ => rfl) (jr_S C lkS_X2_40 (c_J7_fill_53178 (ad 8) 6 he 0 hw) ⟨rfl, rfl, by decide, by decide, by decide, by decide⟩ [8] (by decide) rfl (fx_rw C hB [8] rfl) rfl rfl (Nat.le_of_ble_eq_true rfl) dX2_countHeld_5) (fun u1 hw => ?_)
  refine j_iconst C 0 dX2_countHeld_8 (by decide) ?_
  refine j_istore_n C [(1, .int 0), (0, .ref (ad 0))] dX2_countHeld_9 (by decide) rfl ?_
  refine j_lsub [1, 0] [(0, .ref (ad 0)), (1, .int 0)] rfl ?_
  obtain ⟨n6, hw⟩ := hw
  refine ml_X2_countHeld_10 ad n0  sk ze ma ki dn wi du yr sz C hR hB (fun y6_1 y6_he hw => ?_) n6 0 u1 hw
  exact j_vret C hB hR y6_he rfl dX2_countHeld_47 hw rfl
def wpl_X2_finishedSet_4 (dn : Nat → Int32) (sz : Int32) (K : (Int32) → (Int32) → Prop) : Nat → (Int32) → (Int32) → Prop
  | 0, _, _ => False
  | n + 1, x1, x2 => (sz ≤ x2 → K x1 x2) ∧ (¬ (sz ≤ x2) → wp_X2_isFinished dn x2 (fun r1 => (r1 = 0 → wpl_X2_finishedSet_4 dn sz  K n x1 (x2 + 1)) ∧ (¬ (r1 = 0) → wpl_X2_finishedSet_4 dn sz  K n (x1 ||| (1 <<< (x2 &&& 31))) (x2 + 1))))
def wp_X2_finishedSet (dn : Nat → Int32) (sz : Int32)   (Q : (Int32) → Prop) : Prop := ∃ n2 : Nat, wpl_X2_finishedSet_4 dn sz  (fun y2_1 y2_2 => Q y2_1) n2 0 0
set_option maxRecDepth 100000 in
set_option maxHeartbeats 8000000 in
theorem ml_X2_finishedSet_4 {l : Launch} {D : va_G} {ca : Nat → ClassId} {sd : Nat → Nat}  {k : Kx} (ad : Nat → Nat) (n0 : Nat)  (sk : Nat → Int32) (ze : Nat → Int32) (ma : Nat → Int32) (ki : Nat → Int32) (dn : Nat → Int32) (wi : Nat → Int32) (du : Nat → Int32) (he : Nat → Int32) (yr : Int32) (sz : Int32) (C : Cx D ca sd cX2_finishedSet RX2 (some .int) { frames := 1, cells := 0, slots := 0, locals := 21 } k 3) {Q : (Int32) → Prop} (hR : Rx (Ri D (fun (r : Int32) (u : Unit) => Q r ) (fun _ => [])) 0 0 k) {K : (Int32) → (Int32) → Prop} (hK : ∀ (x1' : Int32) (x2' : Int32), K x1' x2' → J l D k 3 0 0 32 (wC ca ad n0 sk ze ma ki dn wi du he yr sz) [(0, .ref (ad 0)), (1, .int x1'), (2, .int x2')] []) : ∀ (n : Nat) (x1 : Int32) (x2 : Int32), wpl_X2_finishedSet_4 dn sz  K n x1 x2 → J l D k 3 0 0 4 (wC ca ad n0 sk ze ma ki dn wi du he yr sz) [(0, .ref (ad 0)), (1, .int x1), (2, .int x2)] [] := by
  intro n
  induction n with
  | zero =>
    intro x1 x2 hw
    rw [wpl_X2_finishedSet_4] at hw
    exact hw.elim
  | succ n ih =>
    intro x1 x2 hw
    rw [wpl_X2_finishedSet_4] at hw
    refine j_iload_n C 2 dX2_finishedSet_4 rfl ?_
    refine j_aload_n C 0 dX2_finishedSet_5 rfl ?_
    refine j_get C fl_X2_56_2 0 dX2_finishedSet_6 rfl rfl ?_
    refine j_icmp_ge C 32 dX2_finishedSet_9 (by decide) (fun z => ?_) (fun z => ?_)
    · replace hw := hw.1 z
      exact hK x1 x2 hw
    · replace hw := hw.2 z
      refine j_aload_n C 0 dX2_finishedSet_12 rfl ?_
      refine j_iload_n C 2 dX2_finishedSet_13 rfl ?_
      refine j_ciZ C (jr_V C lkV_X2_63 (c_X2_isFinished ad n0 sk ze ma ki dn wi du he yr sz x2 hw) ⟨rfl, rfl, by decide, by decide, by decide, by decide⟩ [0, 1, 2, 3, 4, 5, 6, 7, 8] (by decide) rfl (fx_ro C) 0 2 rfl rfl rfl rfl (Nat.le_of_ble_eq_true rfl) dX2_finishedSet_14) (fun r1 u1 hw => ?_)
      refine j_if_eq C 26 dX2_finishedSet_17 (by decide) (fun z => ?_) (fun z => ?_)
      · replace hw := hw.1 z
        refine j_iinc C 2 (x2 + 1) [(2, .int (x2 + 1)), (0, .ref (ad 0)), (1, .int x1)] dX2_finishedSet_26 rfl rfl (by decide) rfl ?_
        refine j_goto C 4 dX2_finishedSet_29 (by decide) ?_
        refine j_lsub [1, 2, 0] [(0, .ref (ad 0)), (1, .int x1), (2, .int (x2 + 1))] rfl ?_
        exact ih x1 (x2 + 1) hw
      · replace hw := hw.2 z
        refine j_iload_n C 1 dX2_finishedSet_20 rfl ?_
        refine j_iconst C 1 dX2_finishedSet_21 (by decide) ?_
        refine j_iload_n C 2 dX2_finishedSet_22 rfl ?_
        refine j_ishl C dX2_finishedSet_23 ?_
        refine j_ior C dX2_finishedSet_24 ?_
        refine j_istore_n C [(1, .int (x1 ||| (1 <<< (x2 &&& 31)))), (0, .ref (ad 0)), (2, .int x2)] dX2_finishedSet_25 (by decide) rfl ?_
        refine j_iinc C 2 (x2 + 1) [(2, .int (x2 + 1)), (1, .int (x1 ||| (1 <<< (x2 &&& 31)))), (0, .ref (ad 0))] dX2_finishedSet_26 rfl rfl (by decide) rfl ?_
        refine j_goto C 4 dX2_finishedSet_29 (by decide) ?_
        refine j_lsub [2, 1, 0] [(0, .ref (ad 0)), (1, .int (x1 ||| (1 <<< (x2 &&& 31)))), (2, .int (x2 + 1))] rfl ?_
        exact ih (x1 ||| (1 <<< (x2 &&& 31))) (x2 + 1) hw
set_option maxRecDepth 100000 in
set_option maxHeartbeats 8000000 in
theorem c_X2_finishedSet {l : Launch} {D : va_G} {ca : Nat → ClassId} {sd : Nat → Nat}  (ad : Nat → Nat) (n0 : Nat) (sk : Nat → Int32) (ze : Nat → Int32) (ma : Nat → Int32) (ki : Nat → Int32) (dn : Nat → Int32) (wi : Nat → Int32) (du : Nat → Int32) (he : Nat → Int32) (yr : Int32) (sz : Int32)    {Q : (Int32) → Prop} (hw : wp_X2_finishedSet dn sz   Q) : Cn l D ca sd yX2_finishedSet cX2_finishedSet 3 (some .int) { frames := 1, cells := 0, slots := 0, locals := 21 } [.ref (ad 0)] (wC ca ad n0 sk ze ma ki dn wi du he yr sz) [] 0 0 (Ri D (fun (r : Int32) (u : Unit) => Q r ) (fun _ => [])) := by
  refine cn_ofR (by decide) (Nat.le_of_ble_eq_true rfl) (fun k C hR => ?_)
  have C : Cx D ca sd cX2_finishedSet RX2 (some .int) { frames := 1, cells := 0, slots := 0, locals := 21 } k 3 := C
  unfold wp_X2_finishedSet at hw
  show J l D k 3 0 0 0 (wC ca ad n0 sk ze ma ki dn wi du he yr sz) [(0, .ref (ad 0))] []
  refine j_iconst C 0 dX2_finishedSet_0 (by decide) ?_
  refine j_istore_n C [(1, .int 0), (0, .ref (ad 0))] dX2_finishedSet_1 (by decide) rfl ?_
  refine j_iconst C 0 dX2_finishedSet_2 (by decide) ?_
  refine j_istore_n C [(2, .int 0), (1, .int 0), (0, .ref (ad 0))] dX2_finishedSet_3 (by decide) rfl ?_
  refine j_lsub [2, 1, 0] [(0, .ref (ad 0)), (1, .int 0), (2, .int 0)] rfl ?_
  obtain ⟨n2, hw⟩ := hw
  refine ml_X2_finishedSet_4 ad n0  sk ze ma ki dn wi du he yr sz C hR (fun y2_1 y2_2 hw => ?_) n2 0 0 hw
  refine j_iload_n C 1 dX2_finishedSet_32 rfl ?_
  exact j_iretR C hR () rfl dX2_finishedSet_33 hw
def wp_X2_isAllFinished (dn : Nat → Int32) (sz : Int32)   (Q : (Int32) → Prop) : Prop := wp_X2_finishedSet dn sz (fun r1 => (r1 = ((1 <<< (sz &&& 31)) - 1) → Q 1) ∧ (¬ (r1 = ((1 <<< (sz &&& 31)) - 1)) → Q 0))
set_option maxRecDepth 100000 in
set_option maxHeartbeats 8000000 in
theorem c_X2_isAllFinished {l : Launch} {D : va_G} {ca : Nat → ClassId} {sd : Nat → Nat}  (ad : Nat → Nat) (n0 : Nat) (sk : Nat → Int32) (ze : Nat → Int32) (ma : Nat → Int32) (ki : Nat → Int32) (dn : Nat → Int32) (wi : Nat → Int32) (du : Nat → Int32) (he : Nat → Int32) (yr : Int32) (sz : Int32)    {Q : (Int32) → Prop} (hw : wp_X2_isAllFinished dn sz   Q) : Cn l D ca sd yX2_isAllFinished cX2_isAllFinished 1 (some .boolean) { frames := 2, cells := 0, slots := 0, locals := 43 } [.ref (ad 0)] (wC ca ad n0 sk ze ma ki dn wi du he yr sz) [] 0 0 (Ri D (fun (r : Int32) (u : Unit) => Q r ) (fun _ => [])) := by
  refine cn_ofR (by decide) (Nat.le_of_ble_eq_true rfl) (fun k C hR => ?_)
  have C : Cx D ca sd cX2_isAllFinished RX2 (some .boolean) { frames := 2, cells := 0, slots := 0, locals := 43 } k 1 := C
  unfold wp_X2_isAllFinished at hw
  show J l D k 1 0 0 0 (wC ca ad n0 sk ze ma ki dn wi du he yr sz) [(0, .ref (ad 0))] []
  refine j_aload_n C 0 dX2_isAllFinished_0 rfl ?_
  refine j_ciZ C (jr_V C lkV_X2_119 (c_X2_finishedSet ad n0 sk ze ma ki dn wi du he yr sz hw) ⟨rfl, rfl, by decide, by decide, by decide, by decide⟩ [0, 1, 2, 3, 4, 5, 6, 7, 8] (by decide) rfl (fx_ro C) 0 2 rfl rfl rfl rfl (Nat.le_of_ble_eq_true rfl) dX2_isAllFinished_1) (fun r1 u1 hw => ?_)
  refine j_iconst C 1 dX2_isAllFinished_4 (by decide) ?_
  refine j_aload_n C 0 dX2_isAllFinished_5 rfl ?_
  refine j_get C fl_X2_56_2 0 dX2_isAllFinished_6 rfl rfl ?_
  refine j_ishl C dX2_isAllFinished_9 ?_
  refine j_iconst C 1 dX2_isAllFinished_10 (by decide) ?_
  refine j_isub C dX2_isAllFinished_11 ?_
  refine j_icmp_ne C 19 dX2_isAllFinished_12 (by decide) (fun z => ?_) (fun z => ?_)
  · replace hw := hw.2 z
    refine j_iconst C 0 dX2_isAllFinished_19 (by decide) ?_
    exact j_zretR C hR (by decide) () rfl dX2_isAllFinished_20 hw
  · replace hw := hw.1 z
    refine j_iconst C 1 dX2_isAllFinished_15 (by decide) ?_
    refine j_goto C 20 dX2_isAllFinished_16 (by decide) ?_
    exact j_zretR C hR (by decide) () rfl dX2_isAllFinished_20 hw
def wpl_X2_heldSet_4 (wi : Nat → Int32) (sz : Int32) (x1 : Int32) (K : (Int32) → (Int32) → Prop) : Nat → (Int32) → (Int32) → Prop
  | 0, _, _ => False
  | n + 1, x2, x3 => (sz ≤ x3 → K x2 x3) ∧ (¬ (sz ≤ x3) → vp_in x3 8 ∧ (((wi (x3.toNatClampNeg)) = x1 → wpl_X2_heldSet_4 wi sz x1  K n (x2 ||| (1 <<< (x3 &&& 31))) (x3 + 1)) ∧ (¬ ((wi (x3.toNatClampNeg)) = x1) → wpl_X2_heldSet_4 wi sz x1  K n x2 (x3 + 1))))
def wp_X2_heldSet (wi : Nat → Int32) (sz : Int32)  (a1 : Int32) (Q : (Int32) → Prop) : Prop := ∃ n2 : Nat, wpl_X2_heldSet_4 wi sz a1  (fun y2_2 y2_3 => Q y2_2) n2 0 0
set_option maxRecDepth 100000 in
set_option maxHeartbeats 8000000 in
theorem ml_X2_heldSet_4 {l : Launch} {D : va_G} {ca : Nat → ClassId} {sd : Nat → Nat}  {k : Kx} (ad : Nat → Nat) (n0 : Nat)  (sk : Nat → Int32) (ze : Nat → Int32) (ma : Nat → Int32) (ki : Nat → Int32) (dn : Nat → Int32) (wi : Nat → Int32) (du : Nat → Int32) (he : Nat → Int32) (yr : Int32) (sz : Int32) (x1 : Int32) (C : Cx D ca sd cX2_heldSet RX2 (some .int) { frames := 0, cells := 0, slots := 0, locals := 0 } k 4) {Q : (Int32) → Prop} (hR : Rx (Ri D (fun (r : Int32) (u : Unit) => Q r ) (fun _ => [])) 0 0 k) {K : (Int32) → (Int32) → Prop} (hK : ∀ (x2' : Int32) (x3' : Int32), K x2' x3' → J l D k 4 0 0 34 (wC ca ad n0 sk ze ma ki dn wi du he yr sz) [(0, .ref (ad 0)), (1, .int x1), (2, .int x2'), (3, .int x3')] []) : ∀ (n : Nat) (x2 : Int32) (x3 : Int32), wpl_X2_heldSet_4 wi sz x1  K n x2 x3 → J l D k 4 0 0 4 (wC ca ad n0 sk ze ma ki dn wi du he yr sz) [(0, .ref (ad 0)), (1, .int x1), (2, .int x2), (3, .int x3)] [] := by
  intro n
  induction n with
  | zero =>
    intro x2 x3 hw
    rw [wpl_X2_heldSet_4] at hw
    exact hw.elim
  | succ n ih =>
    intro x2 x3 hw
    rw [wpl_X2_heldSet_4] at hw
    refine j_iload_n C 3 dX2_heldSet_4 rfl ?_
    refine j_aload_n C 0 dX2_heldSet_5 rfl ?_
    refine j_get C fl_X2_56_2 0 dX2_heldSet_6 rfl rfl ?_
    refine j_icmp_ge C 34 dX2_heldSet_9 (by decide) (fun z => ?_) (fun z => ?_)
    · replace hw := hw.1 z
      exact hK x2 x3 hw
    · replace hw := hw.2 z
      refine j_aload_n C 0 dX2_heldSet_12 rfl ?_
      refine j_get C fl_X2_27_2 0 dX2_heldSet_13 rfl rfl ?_
      refine j_iload_n C 3 dX2_heldSet_16 rfl ?_
      have hi1 := hw.1
      replace hw := hw.2
      refine j_iald C 6 dX2_heldSet_17 rfl hi1 ?_
      refine j_iload_n C 1 dX2_heldSet_18 rfl ?_
      refine j_icmp_ne C 28 dX2_heldSet_19 (by decide) (fun z => ?_) (fun z => ?_)
      · replace hw := hw.2 z
        refine j_iinc C 3 (x3 + 1) [(3, .int (x3 + 1)), (0, .ref (ad 0)), (1, .int x1), (2, .int x2)] dX2_heldSet_28 rfl rfl (by decide) rfl ?_
        refine j_goto C 4 dX2_heldSet_31 (by decide) ?_
        refine j_lsub [1, 2, 3, 0] [(0, .ref (ad 0)), (1, .int x1), (2, .int x2), (3, .int (x3 + 1))] rfl ?_
        exact ih x2 (x3 + 1) hw
      · replace hw := hw.1 z
        refine j_iload_n C 2 dX2_heldSet_22 rfl ?_
        refine j_iconst C 1 dX2_heldSet_23 (by decide) ?_
        refine j_iload_n C 3 dX2_heldSet_24 rfl ?_
        refine j_ishl C dX2_heldSet_25 ?_
        refine j_ior C dX2_heldSet_26 ?_
        refine j_istore_n C [(2, .int (x2 ||| (1 <<< (x3 &&& 31)))), (0, .ref (ad 0)), (1, .int x1), (3, .int x3)] dX2_heldSet_27 (by decide) rfl ?_
        refine j_iinc C 3 (x3 + 1) [(3, .int (x3 + 1)), (2, .int (x2 ||| (1 <<< (x3 &&& 31)))), (0, .ref (ad 0)), (1, .int x1)] dX2_heldSet_28 rfl rfl (by decide) rfl ?_
        refine j_goto C 4 dX2_heldSet_31 (by decide) ?_
        refine j_lsub [2, 3, 1, 0] [(0, .ref (ad 0)), (1, .int x1), (2, .int (x2 ||| (1 <<< (x3 &&& 31)))), (3, .int (x3 + 1))] rfl ?_
        exact ih (x2 ||| (1 <<< (x3 &&& 31))) (x3 + 1) hw
set_option maxRecDepth 100000 in
set_option maxHeartbeats 8000000 in
theorem c_X2_heldSet {l : Launch} {D : va_G} {ca : Nat → ClassId} {sd : Nat → Nat}  (ad : Nat → Nat) (n0 : Nat) (sk : Nat → Int32) (ze : Nat → Int32) (ma : Nat → Int32) (ki : Nat → Int32) (dn : Nat → Int32) (wi : Nat → Int32) (du : Nat → Int32) (he : Nat → Int32) (yr : Int32) (sz : Int32)  (a1 : Int32)  {Q : (Int32) → Prop} (hw : wp_X2_heldSet wi sz  a1 Q) : Cn l D ca sd yX2_heldSet cX2_heldSet 4 (some .int) { frames := 0, cells := 0, slots := 0, locals := 0 } [.ref (ad 0), .int a1] (wC ca ad n0 sk ze ma ki dn wi du he yr sz) [] 0 0 (Ri D (fun (r : Int32) (u : Unit) => Q r ) (fun _ => [])) := by
  refine cn_ofR (by decide) (Nat.le_of_ble_eq_true rfl) (fun k C hR => ?_)
  have C : Cx D ca sd cX2_heldSet RX2 (some .int) { frames := 0, cells := 0, slots := 0, locals := 0 } k 4 := C
  unfold wp_X2_heldSet at hw
  show J l D k 4 0 0 0 (wC ca ad n0 sk ze ma ki dn wi du he yr sz) [(0, .ref (ad 0)), (1, .int a1)] []
  refine j_iconst C 0 dX2_heldSet_0 (by decide) ?_
  refine j_istore_n C [(2, .int 0), (0, .ref (ad 0)), (1, .int a1)] dX2_heldSet_1 (by decide) rfl ?_
  refine j_iconst C 0 dX2_heldSet_2 (by decide) ?_
  refine j_istore_n C [(3, .int 0), (2, .int 0), (0, .ref (ad 0)), (1, .int a1)] dX2_heldSet_3 (by decide) rfl ?_
  refine j_lsub [2, 3, 1, 0] [(0, .ref (ad 0)), (1, .int a1), (2, .int 0), (3, .int 0)] rfl ?_
  obtain ⟨n2, hw⟩ := hw
  refine ml_X2_heldSet_4 ad n0  sk ze ma ki dn wi du he yr sz a1 C hR (fun y2_2 y2_3 hw => ?_) n2 0 0 hw
  refine j_iload_n C 2 dX2_heldSet_34 rfl ?_
  exact j_iretR C hR () rfl dX2_heldSet_35 hw
def wp_X2_doneOfAll (dn : Nat → Int32) (sz : Int32)   (Q : (Int32) → Prop) : Prop := wp_X9_sum dn 8 sz (fun r1 => Q r1)
set_option maxRecDepth 100000 in
set_option maxHeartbeats 8000000 in
theorem c_X2_doneOfAll {l : Launch} {D : va_G} {ca : Nat → ClassId} {sd : Nat → Nat}  (ad : Nat → Nat) (n0 : Nat) (sk : Nat → Int32) (ze : Nat → Int32) (ma : Nat → Int32) (ki : Nat → Int32) (dn : Nat → Int32) (wi : Nat → Int32) (du : Nat → Int32) (he : Nat → Int32) (yr : Int32) (sz : Int32)    {Q : (Int32) → Prop} (hw : wp_X2_doneOfAll dn sz   Q) : Cn l D ca sd yX2_doneOfAll cX2_doneOfAll 1 (some .int) { frames := 1, cells := 0, slots := 0, locals := 23 } [.ref (ad 0)] (wC ca ad n0 sk ze ma ki dn wi du he yr sz) [] 0 0 (Ri D (fun (r : Int32) (u : Unit) => Q r ) (fun _ => [])) := by
  refine cn_ofR (by decide) (Nat.le_of_ble_eq_true rfl) (fun k C hR => ?_)
  have C : Cx D ca sd cX2_doneOfAll RX2 (some .int) { frames := 1, cells := 0, slots := 0, locals := 23 } k 1 := C
  unfold wp_X2_doneOfAll at hw
  show J l D k 1 0 0 0 (wC ca ad n0 sk ze ma ki dn wi du he yr sz) [(0, .ref (ad 0))] []
  refine j_aload_n C 0 dX2_doneOfAll_0 rfl ?_
  refine j_get C fl_X2_24_2 0 dX2_doneOfAll_1 rfl rfl ?_
  refine j_aload_n C 0 dX2_doneOfAll_4 rfl ?_
  refine j_get C fl_X2_56_2 0 dX2_doneOfAll_5 rfl rfl ?_
  refine j_ciZ C (jr_SN C (host := "UnfinishedFair") (by decide +kernel) lkSN_X2_122 (c_X9_sum (ad 5) 8 dn sz hw) ⟨rfl, rfl, by decide, by decide, by decide, by decide⟩ [5] (by decide) rfl (fx_ro C) rfl rfl (Nat.le_of_ble_eq_true rfl) dX2_doneOfAll_8) (fun r1 u1 hw => ?_)
  exact j_iretR C hR () rfl dX2_doneOfAll_11 hw
def wp_X2_dustOfAll (du : Nat → Int32) (sz : Int32)   (Q : (Int32) → Prop) : Prop := wp_X9_sum du 8 sz (fun r1 => Q r1)
set_option maxRecDepth 100000 in
set_option maxHeartbeats 8000000 in
theorem c_X2_dustOfAll {l : Launch} {D : va_G} {ca : Nat → ClassId} {sd : Nat → Nat}  (ad : Nat → Nat) (n0 : Nat) (sk : Nat → Int32) (ze : Nat → Int32) (ma : Nat → Int32) (ki : Nat → Int32) (dn : Nat → Int32) (wi : Nat → Int32) (du : Nat → Int32) (he : Nat → Int32) (yr : Int32) (sz : Int32)    {Q : (Int32) → Prop} (hw : wp_X2_dustOfAll du sz   Q) : Cn l D ca sd yX2_dustOfAll cX2_dustOfAll 1 (some .int) { frames := 1, cells := 0, slots := 0, locals := 23 } [.ref (ad 0)] (wC ca ad n0 sk ze ma ki dn wi du he yr sz) [] 0 0 (Ri D (fun (r : Int32) (u : Unit) => Q r ) (fun _ => [])) := by
  refine cn_ofR (by decide) (Nat.le_of_ble_eq_true rfl) (fun k C hR => ?_)
  have C : Cx D ca sd cX2_dustOfAll RX2 (some .int) { frames := 1, cells := 0, slots := 0, locals := 23 } k 1 := C
  unfold wp_X2_dustOfAll at hw
  show J l D k 1 0 0 0 (wC ca ad n0 sk ze ma ki dn wi du he yr sz) [(0, .ref (ad 0))] []
  refine j_aload_n C 0 dX2_dustOfAll_0 rfl ?_
  refine j_get C fl_X2_30_2 0 dX2_dustOfAll_1 rfl rfl ?_
  refine j_aload_n C 0 dX2_dustOfAll_4 rfl ?_
  refine j_get C fl_X2_56_2 0 dX2_dustOfAll_5 rfl rfl ?_
  refine j_ciZ C (jr_SN C (host := "UnfinishedFair") (by decide +kernel) lkSN_X2_122 (c_X9_sum (ad 7) 8 du sz hw) ⟨rfl, rfl, by decide, by decide, by decide, by decide⟩ [7] (by decide) rfl (fx_ro C) rfl rfl (Nat.le_of_ble_eq_true rfl) dX2_dustOfAll_8) (fun r1 u1 hw => ?_)
  exact j_iretR C hR () rfl dX2_dustOfAll_11 hw
def wp_X2_madeOfAll (ma : Nat → Int32)   (Q : (Int32) → Prop) : Prop := wp_X9_sum ma 6 6 (fun r1 => Q r1)
set_option maxRecDepth 100000 in
set_option maxHeartbeats 8000000 in
theorem c_X2_madeOfAll {l : Launch} {D : va_G} {ca : Nat → ClassId} {sd : Nat → Nat}  (ad : Nat → Nat) (n0 : Nat) (sk : Nat → Int32) (ze : Nat → Int32) (ma : Nat → Int32) (ki : Nat → Int32) (dn : Nat → Int32) (wi : Nat → Int32) (du : Nat → Int32) (he : Nat → Int32) (yr : Int32) (sz : Int32)    {Q : (Int32) → Prop} (hw : wp_X2_madeOfAll ma   Q) : Cn l D ca sd yX2_madeOfAll cX2_madeOfAll 1 (some .int) { frames := 1, cells := 0, slots := 0, locals := 23 } [.ref (ad 0)] (wC ca ad n0 sk ze ma ki dn wi du he yr sz) [] 0 0 (Ri D (fun (r : Int32) (u : Unit) => Q r ) (fun _ => [])) := by
  refine cn_ofR (by decide) (Nat.le_of_ble_eq_true rfl) (fun k C hR => ?_)
  have C : Cx D ca sd cX2_madeOfAll RX2 (some .int) { frames := 1, cells := 0, slots := 0, locals := 23 } k 1 := C
  unfold wp_X2_madeOfAll at hw
  show J l D k 1 0 0 0 (wC ca ad n0 sk ze ma ki dn wi du he yr sz) [(0, .ref (ad 0))] []
  refine j_aload_n C 0 dX2_madeOfAll_0 rfl ?_
  refine j_get C fl_X2_18_2 0 dX2_madeOfAll_1 rfl rfl ?_
  refine j_bipush C 6 dX2_madeOfAll_4 (by decide) ?_
  refine j_ciZ C (jr_SN C (host := "UnfinishedFair") (by decide +kernel) lkSN_X2_122 (c_X9_sum (ad 3) 6 ma 6 hw) ⟨rfl, rfl, by decide, by decide, by decide, by decide⟩ [3] (by decide) rfl (fx_ro C) rfl rfl (Nat.le_of_ble_eq_true rfl) dX2_madeOfAll_6) (fun r1 u1 hw => ?_)
  exact j_iretR C hR () rfl dX2_madeOfAll_9 hw
def wp_X2_natureOf (ki : Nat → Int32)  (a1 : Int32) (Q : (Nat) → Prop) : Prop := vp_in a1 8 ∧ (vp_in (ki (a1.toNatClampNeg)) 6 ∧ (Q ((ki (a1.toNatClampNeg)).toNatClampNeg)))
set_option maxRecDepth 100000 in
set_option maxHeartbeats 8000000 in
theorem c_X2_natureOf {l : Launch} {D : va_G} {ca : Nat → ClassId} {sd : Nat → Nat}  (nd : Nat → Nat) (ad : Nat → Nat) (sk : Nat → Int32) (ze : Nat → Int32) (ma : Nat → Int32) (ki : Nat → Int32) (dn : Nat → Int32) (wi : Nat → Int32) (du : Nat → Int32) (he : Nat → Int32) (yr : Int32) (sz : Int32)  (a1 : Int32)  {Q : (Nat) → Prop} (hw : wp_X2_natureOf ki  a1 Q) : Cn l D ca sd yX2_natureOf cX2_natureOf 2 (some (.object "UnfinishedFair$Kind")) { frames := 0, cells := 0, slots := 0, locals := 0 } [.ref (ad 0), .int a1] ((wN ca nd sd) ++ (wC ca ad (nd 0) sk ze ma ki dn wi du he yr sz)) [] 0 0 (Rr D (fun u : Nat => Q u) (fun u => nd (u + 1)) (fun _ => [])) := by
  refine cn_ofR (by decide) (Nat.le_of_ble_eq_true rfl) (fun k C hR => ?_)
  have C : Cx D ca sd cX2_natureOf RX2 (some (.object "UnfinishedFair$Kind")) { frames := 0, cells := 0, slots := 0, locals := 0 } k 2 := C
  unfold wp_X2_natureOf at hw
  show J l D k 2 0 0 0 ((wN ca nd sd) ++ (wC ca ad (nd 0) sk ze ma ki dn wi du he yr sz)) [(0, .ref (ad 0)), (1, .int a1)] []
  refine j_aload_n C 0 dX2_natureOf_0 rfl ?_
  refine j_get C fl_X2_36_2 7 dX2_natureOf_1 rfl rfl ?_
  refine j_aload_n C 0 dX2_natureOf_4 rfl ?_
  refine j_get C fl_X2_21_2 7 dX2_natureOf_5 rfl rfl ?_
  refine j_iload_n C 1 dX2_natureOf_8 rfl ?_
  have hi1 := hw.1
  replace hw := hw.2
  refine j_iald C 11 dX2_natureOf_9 rfl hi1 ?_
  have hi2 := hw.1
  replace hw := hw.2
  refine j_aald C (E := "UnfinishedFair$Kind") 0 dX2_natureOf_10 rfl rfl hi2 rfl ?_
  exact j_aretR C hR ((ki (a1.toNatClampNeg)).toNatClampNeg) rfl dX2_natureOf_11 hw rfl
def wpl_X2_takerOf_30 (sk : Nat → Int32) (he : Nat → Int32) (kk2 : Nat) (x3 : Int32) (x4 : Int32) (K : (Int32) → (Int32) → (Int32) → Prop) : Nat → (Int32) → (Int32) → (Int32) → Prop
  | 0, _, _, _ => False
  | n + 1, x5, x6, x7 => (6 ≤ x7 → K x5 x6 x7) ∧ (¬ (6 ≤ x7) → vp_in x7 6 ∧ ((2 ≤ (he (x7.toNatClampNeg)) → ((-1) ≤ x6 → wpl_X2_takerOf_30 sk he kk2 x3 x4  K n x5 x6 (x7 + 1)) ∧ (¬ ((-1) ≤ x6) → wpl_X2_takerOf_30 sk he kk2 x3 x4  K n x7 (-1) (x7 + 1))) ∧ (¬ (2 ≤ (he (x7.toNatClampNeg))) → vp_in x7 6 ∧ (wpv_bid kk2 (sk (x7.toNatClampNeg)) x3 x4 (fun r6 => (r6 ≤ x6 → wpl_X2_takerOf_30 sk he kk2 x3 x4  K n x5 x6 (x7 + 1)) ∧ (¬ (r6 ≤ x6) → wpl_X2_takerOf_30 sk he kk2 x3 x4  K n x7 r6 (x7 + 1)))))))
def wp_X2_takerOf (sk : Nat → Int32) (ki : Nat → Int32) (dn : Nat → Int32) (du : Nat → Int32) (he : Nat → Int32)  (a1 : Int32) (Q : (Int32) → Prop) : Prop := wp_X2_natureOf ki a1 (fun c1_0 => vp_in a1 8 ∧ (vp_in a1 8 ∧ (∃ n7 : Nat, wpl_X2_takerOf_30 sk he c1_0 (dn (a1.toNatClampNeg)) (du (a1.toNatClampNeg))  (fun y7_5 y7_6 y7_7 => wpv_asked c1_0 (dn (a1.toNatClampNeg)) (du (a1.toNatClampNeg)) (fun r8 => (y7_6 < r8 → Q (-1)) ∧ (¬ (y7_6 < r8) → Q y7_5))) n7 (-1) (-1) 0)))
set_option maxRecDepth 100000 in
set_option maxHeartbeats 8000000 in
theorem ml_X2_takerOf_30 {l : Launch} {D : va_G} {ca : Nat → ClassId} {sd : Nat → Nat}  {k : Kx} (nd : Nat → Nat) (ad : Nat → Nat)  (sk : Nat → Int32) (ze : Nat → Int32) (ma : Nat → Int32) (ki : Nat → Int32) (dn : Nat → Int32) (wi : Nat → Int32) (du : Nat → Int32) (he : Nat → Int32) (yr : Int32) (sz : Int32) (x1 : Int32) (kk2 : Nat) (x3 : Int32) (x4 : Int32) (C : Cx D ca sd cX2_takerOf RX2 (some .int) { frames := 4, cells := 0, slots := 0, locals := 110 } k 9) {Q : (Int32) → Prop} (hR : Rx (Ri D (fun (r : Int32) (u : Unit) => Q r ) (fun _ => [])) 0 0 k) {K : (Int32) → (Int32) → (Int32) → Prop} (hK : ∀ (x5' : Int32) (x6' : Int32) (x7' : Int32), K x5' x6' x7' → J l D k 9 0 0 89 ((wN ca nd sd) ++ (wC ca ad (nd 0) sk ze ma ki dn wi du he yr sz)) [(0, .ref (ad 0)), (1, .int x1), (2, .ref (nd (kk2 + 1))), (3, .int x3), (4, .int x4), (5, .int x5'), (6, .int x6'), (7, .int x7')] []) : ∀ (n : Nat) (x5 : Int32) (x6 : Int32) (x7 : Int32), wpl_X2_takerOf_30 sk he kk2 x3 x4  K n x5 x6 x7 → J l D k 9 0 0 30 ((wN ca nd sd) ++ (wC ca ad (nd 0) sk ze ma ki dn wi du he yr sz)) [(0, .ref (ad 0)), (1, .int x1), (2, .ref (nd (kk2 + 1))), (3, .int x3), (4, .int x4), (5, .int x5), (6, .int x6), (7, .int x7)] [] := by
  intro n
  induction n with
  | zero =>
    intro x5 x6 x7 hw
    rw [wpl_X2_takerOf_30] at hw
    exact hw.elim
  | succ n ih =>
    intro x5 x6 x7 hw
    rw [wpl_X2_takerOf_30] at hw
    refine j_iload C 7 dX2_takerOf_30 rfl ?_
    refine j_bipush C 6 dX2_takerOf_32 (by decide) ?_
    refine j_icmp_ge C 89 dX2_takerOf_34 (by decide) (fun z => ?_) (fun z => ?_)
    · replace hw := hw.1 z
      exact hK x5 x6 x7 hw
    · replace hw := hw.2 z
      refine j_aload_n C 0 dX2_takerOf_37 rfl ?_
      refine j_get C fl_X2_33_2 7 dX2_takerOf_38 rfl rfl ?_
      refine j_iload C 7 dX2_takerOf_41 rfl ?_
      have hi4 := hw.1
      replace hw := hw.2
      refine j_iald C 15 dX2_takerOf_43 rfl hi4 ?_
      refine j_iconst C 2 dX2_takerOf_44 (by decide) ?_
      refine j_icmp_ge C 65 dX2_takerOf_45 (by decide) (fun z => ?_) (fun z => ?_)
      · replace hw := hw.1 z
        refine j_iconst C (-1) dX2_takerOf_65 (by decide) ?_
        refine j_istore C [(8, .int (-1)), (0, .ref (ad 0)), (1, .int x1), (2, .ref (nd (kk2 + 1))), (3, .int x3), (4, .int x4), (5, .int x5), (6, .int x6), (7, .int x7)] dX2_takerOf_66 (by decide) rfl ?_
        refine j_iload C 0 dX2_takerOf_68 rfl ?_
        refine j_iload C 7 dX2_takerOf_70 rfl ?_
        refine j_icmp_le C 83 dX2_takerOf_72 (by decide) (fun z => ?_) (fun z => ?_)
        · replace hw := hw.1 z
          refine j_iinc C 8 (x7 + 1) [(7, .int (x7 + 1)), (8, .int (-1)), (0, .ref (ad 0)), (1, .int x1), (2, .ref (nd (kk2 + 1))), (3, .int x3), (4, .int x4), (5, .int x5), (6, .int x6)] dX2_takerOf_83 rfl rfl (by decide) rfl ?_
          refine j_goto C 30 dX2_takerOf_86 (by decide) ?_
          refine j_lsub [2, 3, 4, 5, 6, 7, 8, 0] [(0, .ref (ad 0)), (1, .int x1), (2, .ref (nd (kk2 + 1))), (3, .int x3), (4, .int x4), (5, .int x5), (6, .int x6), (7, .int (x7 + 1))] rfl ?_
          exact ih x5 x6 (x7 + 1) hw
        · replace hw := hw.2 z
          refine j_iload C 8 dX2_takerOf_75 rfl ?_
          refine j_istore C [(5, .int x7), (8, .int (-1)), (0, .ref (ad 0)), (1, .int x1), (2, .ref (nd (kk2 + 1))), (3, .int x3), (4, .int x4), (6, .int x6), (7, .int x7)] dX2_takerOf_77 (by decide) rfl ?_
          refine j_iload C 1 dX2_takerOf_79 rfl ?_
          refine j_istore C [(6, .int (-1)), (5, .int x7), (8, .int (-1)), (0, .ref (ad 0)), (1, .int x1), (2, .ref (nd (kk2 + 1))), (3, .int x3), (4, .int x4), (7, .int x7)] dX2_takerOf_81 (by decide) rfl ?_
          refine j_iinc C 8 (x7 + 1) [(7, .int (x7 + 1)), (6, .int (-1)), (5, .int x7), (8, .int (-1)), (0, .ref (ad 0)), (1, .int x1), (2, .ref (nd (kk2 + 1))), (3, .int x3), (4, .int x4)] dX2_takerOf_83 rfl rfl (by decide) rfl ?_
          refine j_goto C 30 dX2_takerOf_86 (by decide) ?_
          refine j_lsub [4, 5, 6, 7, 8, 2, 1, 0] [(0, .ref (ad 0)), (1, .int x1), (2, .ref (nd (kk2 + 1))), (3, .int x3), (4, .int x4), (5, .int x7), (6, .int (-1)), (7, .int (x7 + 1))] rfl ?_
          exact ih x7 (-1) (x7 + 1) hw
      · replace hw := hw.2 z
        refine j_aload_n C 2 dX2_takerOf_48 rfl ?_
        refine j_aload_n C 0 dX2_takerOf_49 rfl ?_
        refine j_get C fl_X2_9_2 7 dX2_takerOf_50 rfl rfl ?_
        refine j_iload C 7 dX2_takerOf_53 rfl ?_
        have hi5 := hw.1
        replace hw := hw.2
        refine j_iald C 8 dX2_takerOf_55 rfl hi5 ?_
        refine j_iload_n C 3 dX2_takerOf_56 rfl ?_
        refine j_iload C 4 dX2_takerOf_57 rfl ?_
        refine j_ciZ C (jk_X2_113 C nd 1 kk2 (sk (x7.toNatClampNeg)) x3 x4 _ hw (by intro j hj; match j, hj with | 0, _ => rfl | 1, _ => rfl | 2, _ => rfl | 3, _ => rfl | 4, _ => rfl | 5, _ => rfl) (by decide) (by decide) (Nat.le_of_ble_eq_true rfl) dX2_takerOf_59) (fun r6 u6 hw => ?_)
        refine j_goto C 66 dX2_takerOf_62 (by decide) ?_
        refine j_istore C [(8, .int r6), (0, .ref (ad 0)), (1, .int x1), (2, .ref (nd (kk2 + 1))), (3, .int x3), (4, .int x4), (5, .int x5), (6, .int x6), (7, .int x7)] dX2_takerOf_66 (by decide) rfl ?_
        refine j_iload C 0 dX2_takerOf_68 rfl ?_
        refine j_iload C 7 dX2_takerOf_70 rfl ?_
        refine j_icmp_le C 83 dX2_takerOf_72 (by decide) (fun z => ?_) (fun z => ?_)
        · replace hw := hw.1 z
          refine j_iinc C 8 (x7 + 1) [(7, .int (x7 + 1)), (8, .int r6), (0, .ref (ad 0)), (1, .int x1), (2, .ref (nd (kk2 + 1))), (3, .int x3), (4, .int x4), (5, .int x5), (6, .int x6)] dX2_takerOf_83 rfl rfl (by decide) rfl ?_
          refine j_goto C 30 dX2_takerOf_86 (by decide) ?_
          refine j_lsub [2, 3, 4, 5, 6, 7, 8, 0] [(0, .ref (ad 0)), (1, .int x1), (2, .ref (nd (kk2 + 1))), (3, .int x3), (4, .int x4), (5, .int x5), (6, .int x6), (7, .int (x7 + 1))] rfl ?_
          exact ih x5 x6 (x7 + 1) hw
        · replace hw := hw.2 z
          refine j_iload C 8 dX2_takerOf_75 rfl ?_
          refine j_istore C [(5, .int x7), (8, .int r6), (0, .ref (ad 0)), (1, .int x1), (2, .ref (nd (kk2 + 1))), (3, .int x3), (4, .int x4), (6, .int x6), (7, .int x7)] dX2_takerOf_77 (by decide) rfl ?_
          refine j_iload C 1 dX2_takerOf_79 rfl ?_
          refine j_istore C [(6, .int r6), (5, .int x7), (8, .int r6), (0, .ref (ad 0)), (1, .int x1), (2, .ref (nd (kk2 + 1))), (3, .int x3), (4, .int x4), (7, .int x7)] dX2_takerOf_81 (by decide) rfl ?_
          refine j_iinc C 8 (x7 + 1) [(7, .int (x7 + 1)), (6, .int r6), (5, .int x7), (8, .int r6), (0, .ref (ad 0)), (1, .int x1), (2, .ref (nd (kk2 + 1))), (3, .int x3), (4, .int x4)] dX2_takerOf_83 rfl rfl (by decide) rfl ?_
          refine j_goto C 30 dX2_takerOf_86 (by decide) ?_
          refine j_lsub [4, 5, 6, 7, 8, 2, 1, 0] [(0, .ref (ad 0)), (1, .int x1), (2, .ref (nd (kk2 + 1))), (3, .int x3), (4, .int x4), (5, .int x7), (6, .int r6), (7, .int (x7 + 1))] rfl ?_
          exact ih x7 r6 (x7 + 1) hw
set_option maxRecDepth 100000 in
set_option maxHeartbeats 8000000 in
theorem c_X2_takerOf {l : Launch} {D : va_G} {ca : Nat → ClassId} {sd : Nat → Nat}  (nd : Nat → Nat) (ad : Nat → Nat) (sk : Nat → Int32) (ze : Nat → Int32) (ma : Nat → Int32) (ki : Nat → Int32) (dn : Nat → Int32) (wi : Nat → Int32) (du : Nat → Int32) (he : Nat → Int32) (yr : Int32) (sz : Int32)  (a1 : Int32)  {Q : (Int32) → Prop} (hw : wp_X2_takerOf sk ki dn du he  a1 Q) : Cn l D ca sd yX2_takerOf cX2_takerOf 9 (some .int) { frames := 4, cells := 0, slots := 0, locals := 110 } [.ref (ad 0), .int a1] ((wN ca nd sd) ++ (wC ca ad (nd 0) sk ze ma ki dn wi du he yr sz)) [] 0 0 (Ri D (fun (r : Int32) (u : Unit) => Q r ) (fun _ => [])) := by
  refine cn_ofR (by decide) (Nat.le_of_ble_eq_true rfl) (fun k C hR => ?_)
  have C : Cx D ca sd cX2_takerOf RX2 (some .int) { frames := 4, cells := 0, slots := 0, locals := 110 } k 9 := C
  unfold wp_X2_takerOf at hw
  show J l D k 9 0 0 0 ((wN ca nd sd) ++ (wC ca ad (nd 0) sk ze ma ki dn wi du he yr sz)) [(0, .ref (ad 0)), (1, .int a1)] []
  refine j_aload_n C 0 dX2_takerOf_0 rfl ?_
  refine j_iload_n C 1 dX2_takerOf_1 rfl ?_
  refine j_crZ C (jr_V C lkV_X2_86 (c_X2_natureOf nd ad sk ze ma ki dn wi du he yr sz a1 hw) ⟨rfl, rfl, by decide, by decide, by decide, by decide⟩ [0, 1, 2, 3, 4, 5, 6, 7, 8, 9, 10, 11, 12, 13, 14, 15] rfl rfl (fx_ro C) 7 2 rfl rfl rfl rfl (Nat.le_of_ble_eq_true rfl) dX2_takerOf_2) (fun u1 hw => ?_)
  refine j_astore_n C [(2, .ref (nd (u1 + 1))), (0, .ref (ad 0)), (1, .int a1)] dX2_takerOf_5 (by decide) rfl ?_
  refine j_aload_n C 1 dX2_takerOf_6 rfl ?_
  refine j_get C fl_X2_24_2 7 dX2_takerOf_7 rfl rfl ?_
  refine j_iload_n C 2 dX2_takerOf_10 rfl ?_
  have hi2 := hw.1
  replace hw := hw.2
  refine j_iald C 12 dX2_takerOf_11 rfl hi2 ?_
  refine j_istore_n C [(3, .int (dn (a1.toNatClampNeg))), (2, .ref (nd (u1 + 1))), (0, .ref (ad 0)), (1, .int a1)] dX2_takerOf_12 (by decide) rfl ?_
  refine j_aload_n C 2 dX2_takerOf_13 rfl ?_
  refine j_get C fl_X2_30_2 7 dX2_takerOf_14 rfl rfl ?_
  refine j_iload_n C 3 dX2_takerOf_17 rfl ?_
  have hi3 := hw.1
  replace hw := hw.2
  refine j_iald C 14 dX2_takerOf_18 rfl hi3 ?_
  refine j_istore C [(4, .int (du (a1.toNatClampNeg))), (3, .int (dn (a1.toNatClampNeg))), (2, .ref (nd (u1 + 1))), (0, .ref (ad 0)), (1, .int a1)] dX2_takerOf_19 (by decide) rfl ?_
  refine j_iconst C (-1) dX2_takerOf_21 (by decide) ?_
  refine j_istore C [(5, .int (-1)), (4, .int (du (a1.toNatClampNeg))), (3, .int (dn (a1.toNatClampNeg))), (2, .ref (nd (u1 + 1))), (0, .ref (ad 0)), (1, .int a1)] dX2_takerOf_22 (by decide) rfl ?_
  refine j_iconst C (-1) dX2_takerOf_24 (by decide) ?_
  refine j_istore C [(6, .int (-1)), (5, .int (-1)), (4, .int (du (a1.toNatClampNeg))), (3, .int (dn (a1.toNatClampNeg))), (2, .ref (nd (u1 + 1))), (0, .ref (ad 0)), (1, .int a1)] dX2_takerOf_25 (by decide) rfl ?_
  refine j_iconst C 0 dX2_takerOf_27 (by decide) ?_
  refine j_istore C [(7, .int 0), (6, .int (-1)), (5, .int (-1)), (4, .int (du (a1.toNatClampNeg))), (3, .int (dn (a1.toNatClampNeg))), (2, .ref (nd (u1 + 1))), (0, .ref (ad 0)), (1, .int a1)] dX2_takerOf_28 (by decide) rfl ?_
  refine j_lsub [6, 7, 5, 4, 3, 2, 1, 0] [(0, .ref (ad 0)), (1, .int a1), (2, .ref (nd (u1 + 1))), (3, .int (dn (a1.toNatClampNeg))), (4, .int (du (a1.toNatClampNeg))), (5, .int (-1)), (6, .int (-1)), (7, .int 0)] rfl ?_
  obtain ⟨n7, hw⟩ := hw
  refine ml_X2_takerOf_30 nd ad  sk ze ma ki dn wi du he yr sz a1 u1 (dn (a1.toNatClampNeg)) (du (a1.toNatClampNeg)) C hR (fun y7_5 y7_6 y7_7 hw => ?_) n7 (-1) (-1) 0 hw
  refine j_iload C 6 dX2_takerOf_89 rfl ?_
  refine j_aload_n C 2 dX2_takerOf_91 rfl ?_
  refine j_iload_n C 3 dX2_takerOf_92 rfl ?_
  refine j_iload C 4 dX2_takerOf_93 rfl ?_
  refine j_ciZ C (jk_X2_116 C nd 1 u1 (dn (a1.toNatClampNeg)) (du (a1.toNatClampNeg)) _ hw (by intro j hj; match j, hj with | 0, _ => rfl | 1, _ => rfl | 2, _ => rfl | 3, _ => rfl | 4, _ => rfl | 5, _ => rfl) (by decide) (by decide) (Nat.le_of_ble_eq_true rfl) dX2_takerOf_95) (fun r8 u8 hw => ?_)
  refine j_icmp_lt C 106 dX2_takerOf_98 (by decide) (fun z => ?_) (fun z => ?_)
  · replace hw := hw.1 z
    refine j_iconst C (-1) dX2_takerOf_106 (by decide) ?_
    exact j_iretR C hR () rfl dX2_takerOf_107 hw
  · replace hw := hw.2 z
    refine j_iload C 5 dX2_takerOf_101 rfl ?_
    refine j_goto C 107 dX2_takerOf_103 (by decide) ?_
    exact j_iretR C hR () rfl dX2_takerOf_107 hw
def wp_X2_workOn (sk : Nat → Int32) (ze : Nat → Int32) (ma : Nat → Int32) (ki : Nat → Int32) (dn : Nat → Int32) (wi : Nat → Int32) (du : Nat → Int32)  (a1 : Int32) (Q : (Nat → Int32) → (Nat → Int32) → (Nat → Int32) → (Nat → Int32) → (Nat → Int32) → Prop) : Prop := vp_in a1 8 ∧ (wp_X2_natureOf ki a1 (fun c2_0 => vp_in (wi (a1.toNatClampNeg)) 6 ∧ (vp_in a1 8 ∧ (vp_in a1 8 ∧ (wpv_goesOn c2_0 (sk ((wi (a1.toNatClampNeg)).toNatClampNeg)) (dn (a1.toNatClampNeg)) (du (a1.toNatClampNeg)) (fun r6 => vp_in a1 8 ∧ (vp_in a1 8 ∧ (wp_X2_isFinished (upd dn (a1.toNatClampNeg) (if ((dn (a1.toNatClampNeg)) + r6) < 100 then ((dn (a1.toNatClampNeg)) + r6) else 100)) a1 (fun r9 => (r9 = 0 → vp_in (wi (a1.toNatClampNeg)) 6 ∧ (wpv_tires c2_0 (fun r11 => vp_in (wi (a1.toNatClampNeg)) 6 ∧ (vp_in (wi (a1.toNatClampNeg)) 6 ∧ ((0 < ((upd ze ((wi (a1.toNatClampNeg)).toNatClampNeg) ((ze ((wi (a1.toNatClampNeg)).toNatClampNeg)) - r11)) ((wi (a1.toNatClampNeg)).toNatClampNeg)) → Q (upd ze ((wi (a1.toNatClampNeg)).toNatClampNeg) ((ze ((wi (a1.toNatClampNeg)).toNatClampNeg)) - r11)) ma (upd dn (a1.toNatClampNeg) (if ((dn (a1.toNatClampNeg)) + r6) < 100 then ((dn (a1.toNatClampNeg)) + r6) else 100)) wi du) ∧ (¬ (0 < ((upd ze ((wi (a1.toNatClampNeg)).toNatClampNeg) ((ze ((wi (a1.toNatClampNeg)).toNatClampNeg)) - r11)) ((wi (a1.toNatClampNeg)).toNatClampNeg))) → wp_X2_letGo (upd ze ((wi (a1.toNatClampNeg)).toNatClampNeg) ((ze ((wi (a1.toNatClampNeg)).toNatClampNeg)) - r11)) wi du a1 (fun c14_0 c14_1 c14_2 => Q c14_0 ma (upd dn (a1.toNatClampNeg) (if ((dn (a1.toNatClampNeg)) + r6) < 100 then ((dn (a1.toNatClampNeg)) + r6) else 100)) c14_1 c14_2))))))) ∧ (¬ (r9 = 0) → vp_in (wi (a1.toNatClampNeg)) 6 ∧ (vp_in (wi (a1.toNatClampNeg)) 6 ∧ (vp_in (wi (a1.toNatClampNeg)) 6 ∧ (vp_in (wi (a1.toNatClampNeg)) 6 ∧ (Q (upd ze ((wi (a1.toNatClampNeg)).toNatClampNeg) (if ((ze ((wi (a1.toNatClampNeg)).toNatClampNeg)) + 2) < 9 then ((ze ((wi (a1.toNatClampNeg)).toNatClampNeg)) + 2) else 9)) (upd ma ((wi (a1.toNatClampNeg)).toNatClampNeg) (if ((ma ((wi (a1.toNatClampNeg)).toNatClampNeg)) + 1) < 999 then ((ma ((wi (a1.toNatClampNeg)).toNatClampNeg)) + 1) else 999)) (upd dn (a1.toNatClampNeg) (if ((dn (a1.toNatClampNeg)) + r6) < 100 then ((dn (a1.toNatClampNeg)) + r6) else 100)) wi du))))))))))))))
set_option maxRecDepth 100000 in
set_option maxHeartbeats 8000000 in
theorem c_X2_workOn {l : Launch} {D : va_G} {ca : Nat → ClassId} {sd : Nat → Nat}  (nd : Nat → Nat) (ad : Nat → Nat) (sk : Nat → Int32) (ze : Nat → Int32) (ma : Nat → Int32) (ki : Nat → Int32) (dn : Nat → Int32) (wi : Nat → Int32) (du : Nat → Int32) (he : Nat → Int32) (yr : Int32) (sz : Int32)  (a1 : Int32)  {Q : (Nat → Int32) → (Nat → Int32) → (Nat → Int32) → (Nat → Int32) → (Nat → Int32) → Prop} (hw : wp_X2_workOn sk ze ma ki dn wi du  a1 Q) : Cn l D ca sd yX2_workOn cX2_workOn 5 none { frames := 4, cells := 0, slots := 0, locals := 110 } [.ref (ad 0), .int a1] ((wN ca nd sd) ++ (wC ca ad (nd 0) sk ze ma ki dn wi du he yr sz)) ((wN ca nd sd) ++ (wC ca ad (nd 0) sk ze ma ki dn wi du he yr sz)) 0 0 (Rv D (fun u : (Nat → Int32) × (Nat → Int32) × (Nat → Int32) × (Nat → Int32) × (Nat → Int32) => Q u.1 u.2.1 u.2.2.1 u.2.2.2.1 u.2.2.2.2) (fun u => ((wN ca nd sd) ++ (wC ca ad (nd 0) sk u.1 u.2.1 ki u.2.2.1 u.2.2.2.1 u.2.2.2.2 he yr sz)))) := by
  refine cn_of (by decide) (Nat.le_of_ble_eq_true rfl) (fun k C hR hB _ => ?_)
  have C : Cx D ca sd cX2_workOn RX2 none { frames := 4, cells := 0, slots := 0, locals := 110 } k 5 := C
  unfold wp_X2_workOn at hw
  show J l D k 5 0 0 0 ((wN ca nd sd) ++ (wC ca ad (nd 0) sk ze ma ki dn wi du he yr sz)) [(0, .ref (ad 0)), (1, .int a1)] []
  refine j_aload_n C 0 dX2_workOn_0 rfl ?_
  refine j_get C fl_X2_27_2 7 dX2_workOn_1 rfl rfl ?_
  refine j_iload_n C 1 dX2_workOn_4 rfl ?_
  have hi1 := hw.1
  replace hw := hw.2
  refine j_iald C 13 dX2_workOn_5 rfl hi1 ?_
  refine j_istore_n C [(2, .int (wi (a1.toNatClampNeg))), (0, .ref (ad 0)), (1, .int a1)] dX2_workOn_6 (by decide) rfl ?_
  refine j_aload_n C 1 dX2_workOn_7 rfl ?_
  refine j_iload_n C 2 dX2_workOn_8 rfl ?_
  refine j_crZ C (jr_V C lkV_X2_86 (c_X2_natureOf nd ad sk ze ma ki dn wi du he yr sz a1 hw) ⟨rfl, rfl, by decide, by decide, by decide, by decide⟩ [0, 1, 2, 3, 4, 5, 6, 7, 8, 9, 10, 11, 12, 13, 14, 15] rfl rfl (fx_ro C) 7 2 rfl rfl rfl rfl (Nat.le_of_ble_eq_true rfl) dX2_workOn_9) (fun u2 hw => ?_)
  refine j_astore_n C [(3, .ref (nd (u2 + 1))), (2, .int (wi (a1.toNatClampNeg))), (0, .ref (ad 0)), (1, .int a1)] dX2_workOn_12 (by decide) rfl ?_
  refine j_aload_n C 0 dX2_workOn_13 rfl ?_
  refine j_aload_n C 2 dX2_workOn_14 rfl ?_
  refine j_get C fl_X2_9_2 7 dX2_workOn_15 rfl rfl ?_
  refine j_iload_n C 1 dX2_workOn_18 rfl ?_
  have hi3 := hw.1
  replace hw := hw.2
  refine j_iald C 8 dX2_workOn_19 rfl hi3 ?_
  refine j_aload_n C 2 dX2_workOn_20 rfl ?_
  refine j_get C fl_X2_24_2 7 dX2_workOn_21 rfl rfl ?_
  refine j_iload_n C 3 dX2_workOn_24 rfl ?_
  have hi4 := hw.1
  replace hw := hw.2
  refine j_iald C 12 dX2_workOn_25 rfl hi4 ?_
  refine j_aload_n C 2 dX2_workOn_26 rfl ?_
  refine j_get C fl_X2_30_2 7 dX2_workOn_27 rfl rfl ?_
  refine j_iload_n C 3 dX2_workOn_30 rfl ?_
  have hi5 := hw.1
  replace hw := hw.2
  refine j_iald C 14 dX2_workOn_31 rfl hi5 ?_
  refine j_ciZ C (jk_X2_90 C nd 1 u2 (sk ((wi (a1.toNatClampNeg)).toNatClampNeg)) (dn (a1.toNatClampNeg)) (du (a1.toNatClampNeg)) _ hw (by intro j hj; match j, hj with | 0, _ => rfl | 1, _ => rfl | 2, _ => rfl | 3, _ => rfl | 4, _ => rfl | 5, _ => rfl) (by decide) (by decide) (Nat.le_of_ble_eq_true rfl) dX2_workOn_32) (fun r6 u6 hw => ?_)
  refine j_istore C [(4, .int r6), (3, .ref (nd (u2 + 1))), (2, .int (wi (a1.toNatClampNeg))), (0, .ref (ad 0)), (1, .int a1)] dX2_workOn_35 (by decide) rfl ?_
  refine j_aload_n C 3 dX2_workOn_37 rfl ?_
  refine j_get C fl_X2_24_2 7 dX2_workOn_38 rfl rfl ?_
  refine j_iload_n C 4 dX2_workOn_41 rfl ?_
  refine j_bipush C 100 dX2_workOn_42 (by decide) ?_
  refine j_aload_n C 3 dX2_workOn_44 rfl ?_
  refine j_get C fl_X2_24_2 7 dX2_workOn_45 rfl rfl ?_
  refine j_iload_n C 4 dX2_workOn_48 rfl ?_
  have hi7 := hw.1
  replace hw := hw.2
  refine j_iald C 12 dX2_workOn_49 rfl hi7 ?_
  refine j_iload C 0 dX2_workOn_50 rfl ?_
  refine j_iadd C dX2_workOn_52 ?_
  refine j_min C lm_X2_96 (by decide) (Nat.le_of_ble_eq_true rfl) (by decide) (by decide) dX2_workOn_53 ?_
  have hi8 := hw.1
  replace hw := hw.2
  refine j_iast C hB 12 ((wN ca nd sd) ++ (wC ca ad (nd 0) sk ze ma ki (upd dn (a1.toNatClampNeg) (if ((dn (a1.toNatClampNeg)) + r6) < 100 then ((dn (a1.toNatClampNeg)) + r6) else 100)) wi du he yr sz)) dX2_workOn_56 rfl hi8 rfl ?_
  refine j_aload_n C 3 dX2_workOn_57 rfl ?_
  refine j_iload_n C 4 dX2_workOn_58 rfl ?_
  refine j_ciZ C (jr_V C lkV_X2_63 (c_X2_isFinished ad (nd 0) sk ze ma ki (upd dn (a1.toNatClampNeg) (if ((dn (a1.toNatClampNeg)) + r6) < 100 then ((dn (a1.toNatClampNeg)) + r6) else 100)) wi du he yr sz a1 hw) ⟨rfl, rfl, by decide, by decide, by decide, by decide⟩ [7, 8, 9, 10, 11, 12, 13, 14, 15] (by decide) rfl (fx_ro C) 7 2 rfl rfl rfl rfl (Nat.le_of_ble_eq_true rfl) dX2_workOn_59) (fun r9 u9 hw => ?_)
  refine j_if_eq C 105 dX2_workOn_62 (by decide) (fun z => ?_) (fun z => ?_)
  · replace hw := hw.1 z
    refine j_aload_n C 3 dX2_workOn_105 rfl ?_
    refine j_get C fl_X2_15_2 7 dX2_workOn_106 rfl rfl ?_
    refine j_iload_n C 2 dX2_workOn_109 rfl ?_
    refine j_dup2 C dX2_workOn_110 rfl rfl ?_
    have hi10 := hw.1
    replace hw := hw.2
    refine j_iald C 9 dX2_workOn_111 rfl hi10 ?_
    refine j_aload_n C 1 dX2_workOn_112 rfl ?_
    refine j_ciZ C (jk_X2_102 C nd 1 u2  _ hw (by intro j hj; match j, hj with | 0, _ => rfl | 1, _ => rfl | 2, _ => rfl | 3, _ => rfl | 4, _ => rfl | 5, _ => rfl) (by decide) (by decide) (Nat.le_of_ble_eq_true rfl) dX2_workOn_113) (fun r11 u11 hw => ?_)
    refine j_isub C dX2_workOn_116 ?_
    have hi12 := hw.1
    replace hw := hw.2
    refine j_iast C hB 9 ((wN ca nd sd) ++ (wC ca ad (nd 0) sk (upd ze ((wi (a1.toNatClampNeg)).toNatClampNeg) ((ze ((wi (a1.toNatClampNeg)).toNatClampNeg)) - r11)) ma ki (upd dn (a1.toNatClampNeg) (if ((dn (a1.toNatClampNeg)) + r6) < 100 then ((dn (a1.toNatClampNeg)) + r6) else 100)) wi du he yr sz)) dX2_workOn_117 rfl hi12 rfl ?_
    refine j_aload_n C 3 dX2_workOn_118 rfl ?_
    refine j_get C fl_X2_15_2 7 dX2_workOn_119 rfl rfl ?_
    refine j_iload_n C 2 dX2_workOn_122 rfl ?_
    have hi13 := hw.1
    replace hw := hw.2
    refine j_iald C 9 dX2_workOn_123 rfl hi13 ?_
    refine j_if_gt C 132 dX2_workOn_124 (by decide) (fun z => ?_) (fun z => ?_)
    · replace hw := hw.1 z
      exact j_vret C hB hR (upd ze ((wi (a1.toNatClampNeg)).toNatClampNeg) ((ze ((wi (a1.toNatClampNeg)).toNatClampNeg)) - r11), ma, upd dn (a1.toNatClampNeg) (if ((dn (a1.toNatClampNeg)) + r6) < 100 then ((dn (a1.toNatClampNeg)) + r6) else 100), wi, du) rfl dX2_workOn_132 hw rfl
    · replace hw := hw.2 z
      refine j_aload_n C 3 dX2_workOn_127 rfl ?_
      refine j_iload_n C 4 dX2_workOn_128 rfl ?_
      refine j_cvT C hB 7 16 (fun u14 : (Nat → Int32) × (Nat → Int32) × (Nat → Int32) => ((wN ca nd sd) ++ (wC ca ad (nd 0) sk u14.1 ma ki (upd dn (a1.toNatClampNeg) (if ((dn (a1.toNatClampNeg)) + r6) < 100 then ((dn (a1.toNatClampNeg)) + r6) else 100)) u14.2.1 u14.2.2 he yr sz))) rfl (fun _ => rfl) (jr_V C lkV_X2_106 (c_X2_letGo ad (nd 0) sk (upd ze ((wi (a1.toNatClampNeg)).toNatClampNeg) ((ze ((wi (a1.toNatClampNeg)).toNatClampNeg)) - r11)) ma ki (upd dn (a1.toNatClampNeg) (if ((dn (a1.toNatClampNeg)) + r6) < 100 then ((dn (a1.toNatClampNeg)) + r6) else 100)) wi du he yr sz a1 hw) ⟨rfl, rfl, by decide, by decide, by decide, by decide⟩ [7, 8, 9, 10, 11, 12, 13, 14, 15] (by decide) rfl (fx_rw C hB [7, 8, 9, 10, 11, 12, 13, 14, 15] rfl) 7 2 rfl rfl rfl rfl (Nat.le_of_ble_eq_true rfl) dX2_workOn_129) (fun u14 hw => ?_)
      exact j_vret C hB hR (u14.1, ma, upd dn (a1.toNatClampNeg) (if ((dn (a1.toNatClampNeg)) + r6) < 100 then ((dn (a1.toNatClampNeg)) + r6) else 100), u14.2.1, u14.2.2) rfl dX2_workOn_132 hw rfl
  · replace hw := hw.2 z
    refine j_aload_n C 3 dX2_workOn_65 rfl ?_
    refine j_get C fl_X2_18_2 7 dX2_workOn_66 rfl rfl ?_
    refine j_iload_n C 2 dX2_workOn_69 rfl ?_
    refine j_sipush C 999 dX2_workOn_70 (by decide) ?_
    refine j_aload_n C 3 dX2_workOn_73 rfl ?_
    refine j_get C fl_X2_18_2 7 dX2_workOn_74 rfl rfl ?_
    refine j_iload_n C 2 dX2_workOn_77 rfl ?_
    have hi15 := hw.1
    replace hw := hw.2
    refine j_iald C 10 dX2_workOn_78 rfl hi15 ?_
    refine j_iconst C 1 dX2_workOn_79 (by decide) ?_
    refine j_iadd C dX2_workOn_80 ?_
    refine j_min C lm_X2_96 (by decide) (Nat.le_of_ble_eq_true rfl) (by decide) (by decide) dX2_workOn_81 ?_
    have hi16 := hw.1
    replace hw := hw.2
    refine j_iast C hB 10 ((wN ca nd sd) ++ (wC ca ad (nd 0) sk ze (upd ma ((wi (a1.toNatClampNeg)).toNatClampNeg) (if ((ma ((wi (a1.toNatClampNeg)).toNatClampNeg)) + 1) < 999 then ((ma ((wi (a1.toNatClampNeg)).toNatClampNeg)) + 1) else 999)) ki (upd dn (a1.toNatClampNeg) (if ((dn (a1.toNatClampNeg)) + r6) < 100 then ((dn (a1.toNatClampNeg)) + r6) else 100)) wi du he yr sz)) dX2_workOn_84 rfl hi16 rfl ?_
    refine j_aload_n C 3 dX2_workOn_85 rfl ?_
    refine j_get C fl_X2_15_2 7 dX2_workOn_86 rfl rfl ?_
    refine j_iload_n C 2 dX2_workOn_89 rfl ?_
    refine j_bipush C 9 dX2_workOn_90 (by decide) ?_
    refine j_aload_n C 3 dX2_workOn_92 rfl ?_
    refine j_get C fl_X2_15_2 7 dX2_workOn_93 rfl rfl ?_
    refine j_iload_n C 2 dX2_workOn_96 rfl ?_
    have hi17 := hw.1
    replace hw := hw.2
    refine j_iald C 9 dX2_workOn_97 rfl hi17 ?_
    refine j_iconst C 2 dX2_workOn_98 (by decide) ?_
    refine j_iadd C dX2_workOn_99 ?_
    refine j_min C lm_X2_96 (by decide) (Nat.le_of_ble_eq_true rfl) (by decide) (by decide) dX2_workOn_100 ?_
    have hi18 := hw.1
    replace hw := hw.2
    refine j_iast C hB 9 ((wN ca nd sd) ++ (wC ca ad (nd 0) sk (upd ze ((wi (a1.toNatClampNeg)).toNatClampNeg) (if ((ze ((wi (a1.toNatClampNeg)).toNatClampNeg)) + 2) < 9 then ((ze ((wi (a1.toNatClampNeg)).toNatClampNeg)) + 2) else 9)) (upd ma ((wi (a1.toNatClampNeg)).toNatClampNeg) (if ((ma ((wi (a1.toNatClampNeg)).toNatClampNeg)) + 1) < 999 then ((ma ((wi (a1.toNatClampNeg)).toNatClampNeg)) + 1) else 999)) ki (upd dn (a1.toNatClampNeg) (if ((dn (a1.toNatClampNeg)) + r6) < 100 then ((dn (a1.toNatClampNeg)) + r6) else 100)) wi du he yr sz)) dX2_workOn_103 rfl hi18 rfl ?_
    exact j_vret C hB hR (upd ze ((wi (a1.toNatClampNeg)).toNatClampNeg) (if ((ze ((wi (a1.toNatClampNeg)).toNatClampNeg)) + 2) < 9 then ((ze ((wi (a1.toNatClampNeg)).toNatClampNeg)) + 2) else 9), upd ma ((wi (a1.toNatClampNeg)).toNatClampNeg) (if ((ma ((wi (a1.toNatClampNeg)).toNatClampNeg)) + 1) < 999 then ((ma ((wi (a1.toNatClampNeg)).toNatClampNeg)) + 1) else 999), upd dn (a1.toNatClampNeg) (if ((dn (a1.toNatClampNeg)) + r6) < 100 then ((dn (a1.toNatClampNeg)) + r6) else 100), wi, du) rfl dX2_workOn_104 hw rfl
def wp_X2_offer (sk : Nat → Int32) (ki : Nat → Int32) (dn : Nat → Int32) (wi : Nat → Int32) (du : Nat → Int32) (he : Nat → Int32)  (a1 : Int32) (Q : (Nat → Int32) → (Nat → Int32) → (Nat → Int32) → Prop) : Prop := vp_in a1 8 ∧ (vp_in a1 8 ∧ (wp_X2_takerOf sk ki dn (upd du (a1.toNatClampNeg) (if ((du (a1.toNatClampNeg)) + 1) < 999 then ((du (a1.toNatClampNeg)) + 1) else 999)) he a1 (fun r3 => (r3 = (-1) → Q wi (upd du (a1.toNatClampNeg) (if ((du (a1.toNatClampNeg)) + 1) < 999 then ((du (a1.toNatClampNeg)) + 1) else 999)) he) ∧ (¬ (r3 = (-1)) → vp_in a1 8 ∧ (vp_in r3 6 ∧ (vp_in r3 6 ∧ (Q (upd wi (a1.toNatClampNeg) r3) (upd du (a1.toNatClampNeg) (if ((du (a1.toNatClampNeg)) + 1) < 999 then ((du (a1.toNatClampNeg)) + 1) else 999)) (upd he (r3.toNatClampNeg) ((he (r3.toNatClampNeg)) + 1)))))))))
set_option maxRecDepth 100000 in
set_option maxHeartbeats 8000000 in
theorem c_X2_offer {l : Launch} {D : va_G} {ca : Nat → ClassId} {sd : Nat → Nat}  (nd : Nat → Nat) (ad : Nat → Nat) (sk : Nat → Int32) (ze : Nat → Int32) (ma : Nat → Int32) (ki : Nat → Int32) (dn : Nat → Int32) (wi : Nat → Int32) (du : Nat → Int32) (he : Nat → Int32) (yr : Int32) (sz : Int32)  (a1 : Int32)  {Q : (Nat → Int32) → (Nat → Int32) → (Nat → Int32) → Prop} (hw : wp_X2_offer sk ki dn wi du he  a1 Q) : Cn l D ca sd yX2_offer cX2_offer 3 none { frames := 5, cells := 0, slots := 0, locals := 138 } [.ref (ad 0), .int a1] ((wN ca nd sd) ++ (wC ca ad (nd 0) sk ze ma ki dn wi du he yr sz)) ((wN ca nd sd) ++ (wC ca ad (nd 0) sk ze ma ki dn wi du he yr sz)) 0 0 (Rv D (fun u : (Nat → Int32) × (Nat → Int32) × (Nat → Int32) => Q u.1 u.2.1 u.2.2) (fun u => ((wN ca nd sd) ++ (wC ca ad (nd 0) sk ze ma ki dn u.1 u.2.1 u.2.2 yr sz)))) := by
  refine cn_of (by decide) (Nat.le_of_ble_eq_true rfl) (fun k C hR hB _ => ?_)
  have C : Cx D ca sd cX2_offer RX2 none { frames := 5, cells := 0, slots := 0, locals := 138 } k 3 := C
  unfold wp_X2_offer at hw
  show J l D k 3 0 0 0 ((wN ca nd sd) ++ (wC ca ad (nd 0) sk ze ma ki dn wi du he yr sz)) [(0, .ref (ad 0)), (1, .int a1)] []
  refine j_aload_n C 0 dX2_offer_0 rfl ?_
  refine j_get C fl_X2_30_2 7 dX2_offer_1 rfl rfl ?_
  refine j_iload_n C 1 dX2_offer_4 rfl ?_
  refine j_sipush C 999 dX2_offer_5 (by decide) ?_
  refine j_aload_n C 0 dX2_offer_8 rfl ?_
  refine j_get C fl_X2_30_2 7 dX2_offer_9 rfl rfl ?_
  refine j_iload_n C 1 dX2_offer_12 rfl ?_
  have hi1 := hw.1
  replace hw := hw.2
  refine j_iald C 14 dX2_offer_13 rfl hi1 ?_
  refine j_iconst C 1 dX2_offer_14 (by decide) ?_
  refine j_iadd C dX2_offer_15 ?_
  refine j_min C lm_X2_96 (by decide) (Nat.le_of_ble_eq_true rfl) (by decide) (by decide) dX2_offer_16 ?_
  have hi2 := hw.1
  replace hw := hw.2
  refine j_iast C hB 14 ((wN ca nd sd) ++ (wC ca ad (nd 0) sk ze ma ki dn wi (upd du (a1.toNatClampNeg) (if ((du (a1.toNatClampNeg)) + 1) < 999 then ((du (a1.toNatClampNeg)) + 1) else 999)) he yr sz)) dX2_offer_19 rfl hi2 rfl ?_
  refine j_aload_n C 0 dX2_offer_20 rfl ?_
  refine j_iload_n C 1 dX2_offer_21 rfl ?_
  refine j_ciZ C (jr_V C lkV_X2_109 (c_X2_takerOf nd ad sk ze ma ki dn wi (upd du (a1.toNatClampNeg) (if ((du (a1.toNatClampNeg)) + 1) < 999 then ((du (a1.toNatClampNeg)) + 1) else 999)) he yr sz a1 hw) ⟨rfl, rfl, by decide, by decide, by decide, by decide⟩ [0, 1, 2, 3, 4, 5, 6, 7, 8, 9, 10, 11, 12, 13, 14, 15] rfl rfl (fx_ro C) 7 2 rfl rfl rfl rfl (Nat.le_of_ble_eq_true rfl) dX2_offer_22) (fun r3 u3 hw => ?_)
  refine j_istore_n C [(2, .int r3), (0, .ref (ad 0)), (1, .int a1)] dX2_offer_25 (by decide) rfl ?_
  refine j_iload_n C 0 dX2_offer_26 rfl ?_
  refine j_iconst C (-1) dX2_offer_27 (by decide) ?_
  refine j_icmp_eq C 48 dX2_offer_28 (by decide) (fun z => ?_) (fun z => ?_)
  · replace hw := hw.1 z
    exact j_vret C hB hR (wi, upd du (a1.toNatClampNeg) (if ((du (a1.toNatClampNeg)) + 1) < 999 then ((du (a1.toNatClampNeg)) + 1) else 999), he) rfl dX2_offer_48 hw rfl
  · replace hw := hw.2 z
    refine j_aload_n C 1 dX2_offer_31 rfl ?_
    refine j_get C fl_X2_27_2 7 dX2_offer_32 rfl rfl ?_
    refine j_iload_n C 2 dX2_offer_35 rfl ?_
    refine j_iload_n C 0 dX2_offer_36 rfl ?_
    have hi4 := hw.1
    replace hw := hw.2
    refine j_iast C hB 13 ((wN ca nd sd) ++ (wC ca ad (nd 0) sk ze ma ki dn (upd wi (a1.toNatClampNeg) r3) (upd du (a1.toNatClampNeg) (if ((du (a1.toNatClampNeg)) + 1) < 999 then ((du (a1.toNatClampNeg)) + 1) else 999)) he yr sz)) dX2_offer_37 rfl hi4 rfl ?_
    refine j_aload_n C 1 dX2_offer_38 rfl ?_
    refine j_get C fl_X2_33_2 7 dX2_offer_39 rfl rfl ?_
    refine j_iload_n C 0 dX2_offer_42 rfl ?_
    refine j_dup2 C dX2_offer_43 rfl rfl ?_
    have hi5 := hw.1
    replace hw := hw.2
    refine j_iald C 15 dX2_offer_44 rfl hi5 ?_
    refine j_iconst C 1 dX2_offer_45 (by decide) ?_
    refine j_iadd C dX2_offer_46 ?_
    have hi6 := hw.1
    replace hw := hw.2
    refine j_iast C hB 15 ((wN ca nd sd) ++ (wC ca ad (nd 0) sk ze ma ki dn (upd wi (a1.toNatClampNeg) r3) (upd du (a1.toNatClampNeg) (if ((du (a1.toNatClampNeg)) + 1) < 999 then ((du (a1.toNatClampNeg)) + 1) else 999)) (upd he (r3.toNatClampNeg) ((he (r3.toNatClampNeg)) + 1)) yr sz)) dX2_offer_47 rfl hi6 rfl ?_
    exact j_vret C hB hR (upd wi (a1.toNatClampNeg) r3, upd du (a1.toNatClampNeg) (if ((du (a1.toNatClampNeg)) + 1) < 999 then ((du (a1.toNatClampNeg)) + 1) else 999), upd he (r3.toNatClampNeg) ((he (r3.toNatClampNeg)) + 1)) rfl dX2_offer_48 hw rfl
def wpl_X2_goYear_2 (sk : Nat → Int32) (ki : Nat → Int32) (sz : Int32) (K : (Int32) → (Nat → Int32) → (Nat → Int32) → (Nat → Int32) → (Nat → Int32) → (Nat → Int32) → Prop) : Nat → (Int32) → (Nat → Int32) → (Nat → Int32) → (Nat → Int32) → (Nat → Int32) → (Nat → Int32) → Prop
  | 0, _, _, _, _, _, _ => False
  | n + 1, x1, ze, ma, dn, wi, du => (sz ≤ x1 → K x1 ze ma dn wi du) ∧ (¬ (sz ≤ x1) → wp_X2_canBeLeft dn wi x1 (fun r1 => (r1 = 0 → wpl_X2_goYear_2 sk ki sz  K n (x1 + 1) ze ma dn wi du) ∧ (¬ (r1 = 0) → wp_X2_workOn sk ze ma ki dn wi du x1 (fun c2_0 c2_1 c2_2 c2_3 c2_4 => wpl_X2_goYear_2 sk ki sz  K n (x1 + 1) c2_0 c2_1 c2_2 c2_3 c2_4))))
def wpl_X2_goYear_35 (sk : Nat → Int32) (ki : Nat → Int32) (dn : Nat → Int32) (sz : Int32) (K : (Int32) → (Nat → Int32) → (Nat → Int32) → (Nat → Int32) → Prop) : Nat → (Int32) → (Nat → Int32) → (Nat → Int32) → (Nat → Int32) → Prop
  | 0, _, _, _, _ => False
  | n + 1, x1, wi, du, he => (sz ≤ x1 → K x1 wi du he) ∧ (¬ (sz ≤ x1) → wp_X2_isForTheFair dn wi x1 (fun r5 => (r5 = 0 → wpl_X2_goYear_35 sk ki dn sz  K n (x1 + 1) wi du he) ∧ (¬ (r5 = 0) → wp_X2_offer sk ki dn wi du he x1 (fun c6_0 c6_1 c6_2 => wpl_X2_goYear_35 sk ki dn sz  K n (x1 + 1) c6_0 c6_1 c6_2))))
def wp_X2_goYear (sk : Nat → Int32) (ze : Nat → Int32) (ma : Nat → Int32) (ki : Nat → Int32) (dn : Nat → Int32) (wi : Nat → Int32) (du : Nat → Int32) (he : Nat → Int32) (yr : Int32) (sz : Int32)   (Q : (Nat → Int32) → (Nat → Int32) → (Nat → Int32) → (Nat → Int32) → (Nat → Int32) → (Nat → Int32) → (Int32) → Prop) : Prop := ∃ n3 : Nat, wpl_X2_goYear_2 sk ki sz  (fun y3_1 y3_ze y3_ma y3_dn y3_wi y3_du => wp_X2_countHeld y3_dn y3_wi he sz (fun c4_0 => ∃ n7 : Nat, wpl_X2_goYear_35 sk ki y3_dn sz  (fun y7_1 y7_wi y7_du y7_he => Q y3_ze y3_ma y3_dn y7_wi y7_du y7_he (yr + 1)) n7 0 y3_wi y3_du c4_0)) n3 0 ze ma dn wi du
set_option maxRecDepth 100000 in
set_option maxHeartbeats 8000000 in
theorem ml_X2_goYear_2 {l : Launch} {D : va_G} {ca : Nat → ClassId} {sd : Nat → Nat}  {k : Kx} (nd : Nat → Nat) (ad : Nat → Nat)  (sk : Nat → Int32) (ki : Nat → Int32) (he : Nat → Int32) (yr : Int32) (sz : Int32) (C : Cx D ca sd cX2_goYear RX2 none { frames := 6, cells := 0, slots := 0, locals := 160 } k 2) {Q : (Nat → Int32) → (Nat → Int32) → (Nat → Int32) → (Nat → Int32) → (Nat → Int32) → (Nat → Int32) → (Int32) → Prop} (hR : Rx (Rv D (fun u : (Nat → Int32) × (Nat → Int32) × (Nat → Int32) × (Nat → Int32) × (Nat → Int32) × (Nat → Int32) × (Int32) => Q u.1 u.2.1 u.2.2.1 u.2.2.2.1 u.2.2.2.2.1 u.2.2.2.2.2.1 u.2.2.2.2.2.2) (fun u => ((wN ca nd sd) ++ (wC ca ad (nd 0) sk u.1 u.2.1 ki u.2.2.1 u.2.2.2.1 u.2.2.2.2.1 u.2.2.2.2.2.1 u.2.2.2.2.2.2 sz)))) 0 0 k) (hB : Wx k) {K : (Int32) → (Nat → Int32) → (Nat → Int32) → (Nat → Int32) → (Nat → Int32) → (Nat → Int32) → Prop} (hK : ∀ (x1' : Int32) (ze' : Nat → Int32) (ma' : Nat → Int32) (dn' : Nat → Int32) (wi' : Nat → Int32) (du' : Nat → Int32), K x1' ze' ma' dn' wi' du' → J l D k 2 0 0 29 ((wN ca nd sd) ++ (wC ca ad (nd 0) sk ze' ma' ki dn' wi' du' he yr sz)) [(0, .ref (ad 0)), (1, .int x1')] []) : ∀ (n : Nat) (x1 : Int32) (ze : Nat → Int32) (ma : Nat → Int32) (dn : Nat → Int32) (wi : Nat → Int32) (du : Nat → Int32), wpl_X2_goYear_2 sk ki sz  K n x1 ze ma dn wi du → J l D k 2 0 0 2 ((wN ca nd sd) ++ (wC ca ad (nd 0) sk ze ma ki dn wi du he yr sz)) [(0, .ref (ad 0)), (1, .int x1)] [] := by
  intro n
  induction n with
  | zero =>
    intro x1 ze ma dn wi du hw
    rw [wpl_X2_goYear_2] at hw
    exact hw.elim
  | succ n ih =>
    intro x1 ze ma dn wi du hw
    rw [wpl_X2_goYear_2] at hw
    refine j_iload_n C 1 dX2_goYear_2 rfl ?_
    refine j_aload_n C 0 dX2_goYear_3 rfl ?_
    refine j_get C fl_X2_56_2 7 dX2_goYear_4 rfl rfl ?_
    refine j_icmp_ge C 29 dX2_goYear_7 (by decide) (fun z => ?_) (fun z => ?_)
    · replace hw := hw.1 z
      exact hK x1 ze ma dn wi du hw
    · replace hw := hw.2 z
      refine j_aload_n C 0 dX2_goYear_10 rfl ?_
      refine j_iload_n C 1 dX2_goYear_11 rfl ?_
      refine j_ciZ C (jr_V C lkV_X2_70 (c_X2_canBeLeft ad (nd 0) sk ze ma ki dn wi du he yr sz x1 hw) ⟨rfl, rfl, by decide, by decide, by decide, by decide⟩ [7, 8, 9, 10, 11, 12, 13, 14, 15] (by decide) rfl (fx_ro C) 7 2 rfl rfl rfl rfl (Nat.le_of_ble_eq_true rfl) dX2_goYear_12) (fun r1 u1 hw => ?_)
      refine j_if_eq C 23 dX2_goYear_15 (by decide) (fun z => ?_) (fun z => ?_)
      · replace hw := hw.1 z
        refine j_iinc C 1 (x1 + 1) [(1, .int (x1 + 1)), (0, .ref (ad 0))] dX2_goYear_23 rfl rfl (by decide) rfl ?_
        refine j_goto C 2 dX2_goYear_26 (by decide) ?_
        refine j_lsub [1, 0] [(0, .ref (ad 0)), (1, .int (x1 + 1))] rfl ?_
        exact ih (x1 + 1) ze ma dn wi du hw
      · replace hw := hw.2 z
        refine j_aload_n C 0 dX2_goYear_18 rfl ?_
        refine j_iload_n C 1 dX2_goYear_19 rfl ?_
        refine j_cvT C hB 0 16 (fun u2 : (Nat → Int32) × (Nat → Int32) × (Nat → Int32) × (Nat → Int32) × (Nat → Int32) => ((wN ca nd sd) ++ (wC ca ad (nd 0) sk u2.1 u2.2.1 ki u2.2.2.1 u2.2.2.2.1 u2.2.2.2.2 he yr sz))) rfl (fun _ => rfl) (jr_V C lkV_X2_73 (c_X2_workOn nd ad sk ze ma ki dn wi du he yr sz x1 hw) ⟨rfl, rfl, by decide, by decide, by decide, by decide⟩ [0, 1, 2, 3, 4, 5, 6, 7, 8, 9, 10, 11, 12, 13, 14, 15] rfl rfl (fx_rw C hB [0, 1, 2, 3, 4, 5, 6, 7, 8, 9, 10, 11, 12, 13, 14, 15] rfl) 7 2 rfl rfl rfl rfl (Nat.le_of_ble_eq_true rfl) dX2_goYear_20) (fun u2 hw => ?_)
        refine j_iinc C 1 (x1 + 1) [(1, .int (x1 + 1)), (0, .ref (ad 0))] dX2_goYear_23 rfl rfl (by decide) rfl ?_
        refine j_goto C 2 dX2_goYear_26 (by decide) ?_
        refine j_lsub [1, 0] [(0, .ref (ad 0)), (1, .int (x1 + 1))] rfl ?_
        exact ih (x1 + 1) u2.1 u2.2.1 u2.2.2.1 u2.2.2.2.1 u2.2.2.2.2 hw
set_option maxRecDepth 100000 in
set_option maxHeartbeats 8000000 in
theorem ml_X2_goYear_35 {l : Launch} {D : va_G} {ca : Nat → ClassId} {sd : Nat → Nat}  {k : Kx} (nd : Nat → Nat) (ad : Nat → Nat)  (sk : Nat → Int32) (ze : Nat → Int32) (ma : Nat → Int32) (ki : Nat → Int32) (dn : Nat → Int32) (yr : Int32) (sz : Int32) (C : Cx D ca sd cX2_goYear RX2 none { frames := 6, cells := 0, slots := 0, locals := 160 } k 2) {Q : (Nat → Int32) → (Nat → Int32) → (Nat → Int32) → (Nat → Int32) → (Nat → Int32) → (Nat → Int32) → (Int32) → Prop} (hR : Rx (Rv D (fun u : (Nat → Int32) × (Nat → Int32) × (Nat → Int32) × (Nat → Int32) × (Nat → Int32) × (Nat → Int32) × (Int32) => Q u.1 u.2.1 u.2.2.1 u.2.2.2.1 u.2.2.2.2.1 u.2.2.2.2.2.1 u.2.2.2.2.2.2) (fun u => ((wN ca nd sd) ++ (wC ca ad (nd 0) sk u.1 u.2.1 ki u.2.2.1 u.2.2.2.1 u.2.2.2.2.1 u.2.2.2.2.2.1 u.2.2.2.2.2.2 sz)))) 0 0 k) (hB : Wx k) {K : (Int32) → (Nat → Int32) → (Nat → Int32) → (Nat → Int32) → Prop} (hK : ∀ (x1' : Int32) (wi' : Nat → Int32) (du' : Nat → Int32) (he' : Nat → Int32), K x1' wi' du' he' → J l D k 2 0 0 62 ((wN ca nd sd) ++ (wC ca ad (nd 0) sk ze ma ki dn wi' du' he' yr sz)) [(0, .ref (ad 0)), (1, .int x1')] []) : ∀ (n : Nat) (x1 : Int32) (wi : Nat → Int32) (du : Nat → Int32) (he : Nat → Int32), wpl_X2_goYear_35 sk ki dn sz  K n x1 wi du he → J l D k 2 0 0 35 ((wN ca nd sd) ++ (wC ca ad (nd 0) sk ze ma ki dn wi du he yr sz)) [(0, .ref (ad 0)), (1, .int x1)] [] := by
  intro n
  induction n with
  | zero =>
    intro x1 wi du he hw
    rw [wpl_X2_goYear_35] at hw
    exact hw.elim
  | succ n ih =>
    intro x1 wi du he hw
    rw [wpl_X2_goYear_35] at hw
    refine j_iload_n C 1 dX2_goYear_35 rfl ?_
    refine j_aload_n C 0 dX2_goYear_36 rfl ?_
    refine j_get C fl_X2_56_2 7 dX2_goYear_37 rfl rfl ?_
    refine j_icmp_ge C 62 dX2_goYear_40 (by decide) (fun z => ?_) (fun z => ?_)
    · replace hw := hw.1 z
      exact hK x1 wi du he hw
    · replace hw := hw.2 z
      refine j_aload_n C 0 dX2_goYear_43 rfl ?_
      refine j_iload_n C 1 dX2_goYear_44 rfl ?_
      refine j_ciZ C (jr_V C lkV_X2_80 (c_X2_isForTheFair ad (nd 0) sk ze ma ki dn wi du he yr sz x1 hw) ⟨rfl, rfl, by decide, by decide, by decide, by decide⟩ [7, 8, 9, 10, 11, 12, 13, 14, 15] (by decide) rfl (fx_ro C) 7 2 rfl rfl rfl rfl (Nat.le_of_ble_eq_true rfl) dX2_goYear_45) (fun r5 u5 hw => ?_)
      refine j_if_eq C 56 dX2_goYear_48 (by decide) (fun z => ?_) (fun z => ?_)
      · replace hw := hw.1 z
        refine j_iinc C 1 (x1 + 1) [(1, .int (x1 + 1)), (0, .ref (ad 0))] dX2_goYear_56 rfl rfl (by decide) rfl ?_
        refine j_goto C 35 dX2_goYear_59 (by decide) ?_
        refine j_lsub [1, 0] [(0, .ref (ad 0)), (1, .int (x1 + 1))] rfl ?_
        exact ih (x1 + 1) wi du he hw
      · replace hw := hw.2 z
        refine j_aload_n C 0 dX2_goYear_51 rfl ?_
        refine j_iload_n C 1 dX2_goYear_52 rfl ?_
        refine j_cvT C hB 0 16 (fun u6 : (Nat → Int32) × (Nat → Int32) × (Nat → Int32) => ((wN ca nd sd) ++ (wC ca ad (nd 0) sk ze ma ki dn u6.1 u6.2.1 u6.2.2 yr sz))) rfl (fun _ => rfl) (jr_V C lkV_X2_83 (c_X2_offer nd ad sk ze ma ki dn wi du he yr sz x1 hw) ⟨rfl, rfl, by decide, by decide, by decide, by decide⟩ [0, 1, 2, 3, 4, 5, 6, 7, 8, 9, 10, 11, 12, 13, 14, 15] rfl rfl (fx_rw C hB [0, 1, 2, 3, 4, 5, 6, 7, 8, 9, 10, 11, 12, 13, 14, 15] rfl) 7 2 rfl rfl rfl rfl (Nat.le_of_ble_eq_true rfl) dX2_goYear_53) (fun u6 hw => ?_)
        refine j_iinc C 1 (x1 + 1) [(1, .int (x1 + 1)), (0, .ref (ad 0))] dX2_goYear_56 rfl rfl (by decide) rfl ?_
        refine j_goto C 35 dX2_goYear_59 (by decide) ?_
        refine j_lsub [1, 0] [(0, .ref (ad 0)), (1, .int (x1 + 1))] rfl ?_
        exact ih (x1 + 1) u6.1 u6.2.1 u6.2.2 hw
set_option maxRecDepth 100000 in
set_option maxHeartbeats 8000000 in
theorem c_X2_goYear {l : Launch} {D : va_G} {ca : Nat → ClassId} {sd : Nat → Nat}  (nd : Nat → Nat) (ad : Nat → Nat) (sk : Nat → Int32) (ze : Nat → Int32) (ma : Nat → Int32) (ki : Nat → Int32) (dn : Nat → Int32) (wi : Nat → Int32) (du : Nat → Int32) (he : Nat → Int32) (yr : Int32) (sz : Int32)    {Q : (Nat → Int32) → (Nat → Int32) → (Nat → Int32) → (Nat → Int32) → (Nat → Int32) → (Nat → Int32) → (Int32) → Prop} (hw : wp_X2_goYear sk ze ma ki dn wi du he yr sz   Q) : Cn l D ca sd yX2_goYear cX2_goYear 2 none { frames := 6, cells := 0, slots := 0, locals := 160 } [.ref (ad 0)] ((wN ca nd sd) ++ (wC ca ad (nd 0) sk ze ma ki dn wi du he yr sz)) ((wN ca nd sd) ++ (wC ca ad (nd 0) sk ze ma ki dn wi du he yr sz)) 0 0 (Rv D (fun u : (Nat → Int32) × (Nat → Int32) × (Nat → Int32) × (Nat → Int32) × (Nat → Int32) × (Nat → Int32) × (Int32) => Q u.1 u.2.1 u.2.2.1 u.2.2.2.1 u.2.2.2.2.1 u.2.2.2.2.2.1 u.2.2.2.2.2.2) (fun u => ((wN ca nd sd) ++ (wC ca ad (nd 0) sk u.1 u.2.1 ki u.2.2.1 u.2.2.2.1 u.2.2.2.2.1 u.2.2.2.2.2.1 u.2.2.2.2.2.2 sz)))) := by
  refine cn_of (by decide) (Nat.le_of_ble_eq_true rfl) (fun k C hR hB _ => ?_)
  have C : Cx D ca sd cX2_goYear RX2 none { frames := 6, cells := 0, slots := 0, locals := 160 } k 2 := C
  unfold wp_X2_goYear at hw
  show J l D k 2 0 0 0 ((wN ca nd sd) ++ (wC ca ad (nd 0) sk ze ma ki dn wi du he yr sz)) [(0, .ref (ad 0))] []
  refine j_iconst C 0 dX2_goYear_0 (by decide) ?_
  refine j_istore_n C [(1, .int 0), (0, .ref (ad 0))] dX2_goYear_1 (by decide) rfl ?_
  refine j_lsub [1, 0] [(0, .ref (ad 0)), (1, .int 0)] rfl ?_
  obtain ⟨n3, hw⟩ := hw
  refine ml_X2_goYear_2 nd ad  sk ki he yr sz C hR hB (fun y3_1 y3_ze y3_ma y3_dn y3_wi y3_du hw => ?_) n3 0 ze ma dn wi du hw
  refine j_aload_n C 0 dX2_goYear_29 rfl ?_
  refine j_cvT C hB 7 16 (fun u4 : (Nat → Int32) => ((wN ca nd sd) ++ (wC ca ad (nd 0) sk y3_ze y3_ma ki y3_dn y3_wi y3_du u4 yr sz))) rfl (fun _ => rfl) (jr_V C lkV_X2_77 (c_X2_countHeld ad (nd 0) sk y3_ze y3_ma ki y3_dn y3_wi y3_du he yr sz hw) ⟨rfl, rfl, by decide, by decide, by decide, by decide⟩ [7, 8, 9, 10, 11, 12, 13, 14, 15] (by decide) rfl (fx_rw C hB [7, 8, 9, 10, 11, 12, 13, 14, 15] rfl) 7 2 rfl rfl rfl rfl (Nat.le_of_ble_eq_true rfl) dX2_goYear_30) (fun u4 hw => ?_)
  refine j_iconst C 0 dX2_goYear_33 (by decide) ?_
  refine j_istore_n C [(1, .int 0), (0, .ref (ad 0))] dX2_goYear_34 (by decide) rfl ?_
  refine j_lsub [1, 0] [(0, .ref (ad 0)), (1, .int 0)] rfl ?_
  obtain ⟨n7, hw⟩ := hw
  refine ml_X2_goYear_35 nd ad  sk y3_ze y3_ma ki y3_dn yr sz C hR hB (fun y7_1 y7_wi y7_du y7_he hw => ?_) n7 0 y3_wi y3_du u4 hw
  refine j_aload_n C 0 dX2_goYear_62 rfl ?_
  refine j_dup C dX2_goYear_63 rfl ?_
  refine j_get C fl_X2_52_2 7 dX2_goYear_64 rfl rfl ?_
  refine j_iconst C 1 dX2_goYear_67 (by decide) ?_
  refine j_iadd C dX2_goYear_68 ?_
  refine j_put C hB fw_X2_52_2 7 ((wN ca nd sd) ++ (wC ca ad (nd 0) sk y3_ze y3_ma ki y3_dn y7_wi y7_du y7_he (yr + 1) sz)) dX2_goYear_69 rfl rfl rfl (Nat.le_of_ble_eq_true rfl) rfl ?_
  exact j_vret C hB hR (y3_ze, y3_ma, y3_dn, y7_wi, y7_du, y7_he, yr + 1) rfl dX2_goYear_72 hw rfl
def wpl_X2_goYears_2 (sk : Nat → Int32) (ki : Nat → Int32) (sz : Int32) (x1 : Int32) (K : (Int32) → (Nat → Int32) → (Nat → Int32) → (Nat → Int32) → (Nat → Int32) → (Nat → Int32) → (Nat → Int32) → (Int32) → Prop) : Nat → (Int32) → (Nat → Int32) → (Nat → Int32) → (Nat → Int32) → (Nat → Int32) → (Nat → Int32) → (Nat → Int32) → (Int32) → Prop
  | 0, _, _, _, _, _, _, _, _ => False
  | n + 1, x2, ze, ma, dn, wi, du, he, yr => (x1 ≤ x2 → K x2 ze ma dn wi du he yr) ∧ (¬ (x1 ≤ x2) → wp_X2_goYear sk ze ma ki dn wi du he yr sz (fun c1_0 c1_1 c1_2 c1_3 c1_4 c1_5 c1_6 => wpl_X2_goYears_2 sk ki sz x1  K n (x2 + 1) c1_0 c1_1 c1_2 c1_3 c1_4 c1_5 c1_6))
def wp_X2_goYears (sk : Nat → Int32) (ze : Nat → Int32) (ma : Nat → Int32) (ki : Nat → Int32) (dn : Nat → Int32) (wi : Nat → Int32) (du : Nat → Int32) (he : Nat → Int32) (yr : Int32) (sz : Int32)  (a1 : Int32) (Q : (Nat → Int32) → (Nat → Int32) → (Nat → Int32) → (Nat → Int32) → (Nat → Int32) → (Nat → Int32) → (Int32) → Prop) : Prop := ∃ n2 : Nat, wpl_X2_goYears_2 sk ki sz a1  (fun y2_2 y2_ze y2_ma y2_dn y2_wi y2_du y2_he y2_yr => Q y2_ze y2_ma y2_dn y2_wi y2_du y2_he y2_yr) n2 0 ze ma dn wi du he yr
set_option maxRecDepth 100000 in
set_option maxHeartbeats 8000000 in
theorem ml_X2_goYears_2 {l : Launch} {D : va_G} {ca : Nat → ClassId} {sd : Nat → Nat}  {k : Kx} (nd : Nat → Nat) (ad : Nat → Nat)  (sk : Nat → Int32) (ki : Nat → Int32) (sz : Int32) (x1 : Int32) (C : Cx D ca sd cX2_goYears RX2 none { frames := 7, cells := 0, slots := 0, locals := 181 } k 3) {Q : (Nat → Int32) → (Nat → Int32) → (Nat → Int32) → (Nat → Int32) → (Nat → Int32) → (Nat → Int32) → (Int32) → Prop} (hR : Rx (Rv D (fun u : (Nat → Int32) × (Nat → Int32) × (Nat → Int32) × (Nat → Int32) × (Nat → Int32) × (Nat → Int32) × (Int32) => Q u.1 u.2.1 u.2.2.1 u.2.2.2.1 u.2.2.2.2.1 u.2.2.2.2.2.1 u.2.2.2.2.2.2) (fun u => ((wN ca nd sd) ++ (wC ca ad (nd 0) sk u.1 u.2.1 ki u.2.2.1 u.2.2.2.1 u.2.2.2.2.1 u.2.2.2.2.2.1 u.2.2.2.2.2.2 sz)))) 0 0 k) (hB : Wx k) {K : (Int32) → (Nat → Int32) → (Nat → Int32) → (Nat → Int32) → (Nat → Int32) → (Nat → Int32) → (Nat → Int32) → (Int32) → Prop} (hK : ∀ (x2' : Int32) (ze' : Nat → Int32) (ma' : Nat → Int32) (dn' : Nat → Int32) (wi' : Nat → Int32) (du' : Nat → Int32) (he' : Nat → Int32) (yr' : Int32), K x2' ze' ma' dn' wi' du' he' yr' → J l D k 3 0 0 17 ((wN ca nd sd) ++ (wC ca ad (nd 0) sk ze' ma' ki dn' wi' du' he' yr' sz)) [(0, .ref (ad 0)), (1, .int x1), (2, .int x2')] []) : ∀ (n : Nat) (x2 : Int32) (ze : Nat → Int32) (ma : Nat → Int32) (dn : Nat → Int32) (wi : Nat → Int32) (du : Nat → Int32) (he : Nat → Int32) (yr : Int32), wpl_X2_goYears_2 sk ki sz x1  K n x2 ze ma dn wi du he yr → J l D k 3 0 0 2 ((wN ca nd sd) ++ (wC ca ad (nd 0) sk ze ma ki dn wi du he yr sz)) [(0, .ref (ad 0)), (1, .int x1), (2, .int x2)] [] := by
  intro n
  induction n with
  | zero =>
    intro x2 ze ma dn wi du he yr hw
    rw [wpl_X2_goYears_2] at hw
    exact hw.elim
  | succ n ih =>
    intro x2 ze ma dn wi du he yr hw
    rw [wpl_X2_goYears_2] at hw
    refine j_iload_n C 2 dX2_goYears_2 rfl ?_
    refine j_iload_n C 1 dX2_goYears_3 rfl ?_
    refine j_icmp_ge C 17 dX2_goYears_4 (by decide) (fun z => ?_) (fun z => ?_)
    · replace hw := hw.1 z
      exact hK x2 ze ma dn wi du he yr hw
    · replace hw := hw.2 z
      refine j_aload_n C 0 dX2_goYears_7 rfl ?_
      refine j_cvT C hB 0 16 (fun u1 : (Nat → Int32) × (Nat → Int32) × (Nat → Int32) × (Nat → Int32) × (Nat → Int32) × (Nat → Int32) × (Int32) => ((wN ca nd sd) ++ (wC ca ad (nd 0) sk u1.1 u1.2.1 ki u1.2.2.1 u1.2.2.2.1 u1.2.2.2.2.1 u1.2.2.2.2.2.1 u1.2.2.2.2.2.2 sz))) rfl (fun _ => rfl) (jr_V C lkV_X2_67 (c_X2_goYear nd ad sk ze ma ki dn wi du he yr sz hw) ⟨rfl, rfl, by decide, by decide, by decide, by decide⟩ [0, 1, 2, 3, 4, 5, 6, 7, 8, 9, 10, 11, 12, 13, 14, 15] rfl rfl (fx_rw C hB [0, 1, 2, 3, 4, 5, 6, 7, 8, 9, 10, 11, 12, 13, 14, 15] rfl) 7 2 rfl rfl rfl rfl (Nat.le_of_ble_eq_true rfl) dX2_goYears_8) (fun u1 hw => ?_)
      refine j_iinc C 2 (x2 + 1) [(2, .int (x2 + 1)), (0, .ref (ad 0)), (1, .int x1)] dX2_goYears_11 rfl rfl (by decide) rfl ?_
      refine j_goto C 2 dX2_goYears_14 (by decide) ?_
      refine j_lsub [1, 2, 0] [(0, .ref (ad 0)), (1, .int x1), (2, .int (x2 + 1))] rfl ?_
      exact ih (x2 + 1) u1.1 u1.2.1 u1.2.2.1 u1.2.2.2.1 u1.2.2.2.2.1 u1.2.2.2.2.2.1 u1.2.2.2.2.2.2 hw
set_option maxRecDepth 100000 in
set_option maxHeartbeats 8000000 in
theorem c_X2_goYears {l : Launch} {D : va_G} {ca : Nat → ClassId} {sd : Nat → Nat}  (nd : Nat → Nat) (ad : Nat → Nat) (sk : Nat → Int32) (ze : Nat → Int32) (ma : Nat → Int32) (ki : Nat → Int32) (dn : Nat → Int32) (wi : Nat → Int32) (du : Nat → Int32) (he : Nat → Int32) (yr : Int32) (sz : Int32)  (a1 : Int32)  {Q : (Nat → Int32) → (Nat → Int32) → (Nat → Int32) → (Nat → Int32) → (Nat → Int32) → (Nat → Int32) → (Int32) → Prop} (hw : wp_X2_goYears sk ze ma ki dn wi du he yr sz  a1 Q) : Cn l D ca sd yX2_goYears cX2_goYears 3 none { frames := 7, cells := 0, slots := 0, locals := 181 } [.ref (ad 0), .int a1] ((wN ca nd sd) ++ (wC ca ad (nd 0) sk ze ma ki dn wi du he yr sz)) ((wN ca nd sd) ++ (wC ca ad (nd 0) sk ze ma ki dn wi du he yr sz)) 0 0 (Rv D (fun u : (Nat → Int32) × (Nat → Int32) × (Nat → Int32) × (Nat → Int32) × (Nat → Int32) × (Nat → Int32) × (Int32) => Q u.1 u.2.1 u.2.2.1 u.2.2.2.1 u.2.2.2.2.1 u.2.2.2.2.2.1 u.2.2.2.2.2.2) (fun u => ((wN ca nd sd) ++ (wC ca ad (nd 0) sk u.1 u.2.1 ki u.2.2.1 u.2.2.2.1 u.2.2.2.2.1 u.2.2.2.2.2.1 u.2.2.2.2.2.2 sz)))) := by
  refine cn_of (by decide) (Nat.le_of_ble_eq_true rfl) (fun k C hR hB _ => ?_)
  have C : Cx D ca sd cX2_goYears RX2 none { frames := 7, cells := 0, slots := 0, locals := 181 } k 3 := C
  unfold wp_X2_goYears at hw
  show J l D k 3 0 0 0 ((wN ca nd sd) ++ (wC ca ad (nd 0) sk ze ma ki dn wi du he yr sz)) [(0, .ref (ad 0)), (1, .int a1)] []
  refine j_iconst C 0 dX2_goYears_0 (by decide) ?_
  refine j_istore_n C [(2, .int 0), (0, .ref (ad 0)), (1, .int a1)] dX2_goYears_1 (by decide) rfl ?_
  refine j_lsub [1, 2, 0] [(0, .ref (ad 0)), (1, .int a1), (2, .int 0)] rfl ?_
  obtain ⟨n2, hw⟩ := hw
  refine ml_X2_goYears_2 nd ad  sk ki sz a1 C hR hB (fun y2_2 y2_ze y2_ma y2_dn y2_wi y2_du y2_he y2_yr hw => ?_) n2 0 ze ma dn wi du he yr hw
  exact j_vret C hB hR (y2_ze, y2_ma, y2_dn, y2_wi, y2_du, y2_he, y2_yr) rfl dX2_goYears_17 hw rfl
def wp_X2_become (sk : Nat → Int32) (ze : Nat → Int32) (ma : Nat → Int32) (ki : Nat → Int32) (dn : Nat → Int32) (wi : Nat → Int32) (du : Nat → Int32) (osk : Nat → Int32) (oze : Nat → Int32) (oma : Nat → Int32) (oki : Nat → Int32) (odn : Nat → Int32) (owi : Nat → Int32) (odu : Nat → Int32) (oyr : Int32) (osz : Int32)   (Q : (Nat → Int32) → (Nat → Int32) → (Nat → Int32) → (Nat → Int32) → (Nat → Int32) → (Nat → Int32) → (Nat → Int32) → (Int32) → (Int32) → Prop) : Prop := Q (va_cpy osk sk 0 0 6) (va_cpy oze ze 0 0 6) (va_cpy oma ma 0 0 6) (va_cpy oki ki 0 0 8) (va_cpy odn dn 0 0 8) (va_cpy owi wi 0 0 8) (va_cpy odu du 0 0 8) oyr osz
set_option maxRecDepth 100000 in
set_option maxHeartbeats 8000000 in
theorem c_X2_become {l : Launch} {D : va_G} {ca : Nat → ClassId} {sd : Nat → Nat}  (ad : Nat → Nat) (bd : Nat → Nat) (n0 : Nat) (sk : Nat → Int32) (ze : Nat → Int32) (ma : Nat → Int32) (ki : Nat → Int32) (dn : Nat → Int32) (wi : Nat → Int32) (du : Nat → Int32) (he : Nat → Int32) (yr : Int32) (sz : Int32) (osk : Nat → Int32) (oze : Nat → Int32) (oma : Nat → Int32) (oki : Nat → Int32) (odn : Nat → Int32) (owi : Nat → Int32) (odu : Nat → Int32) (ohe : Nat → Int32) (oyr : Int32) (osz : Int32)    {Q : (Nat → Int32) → (Nat → Int32) → (Nat → Int32) → (Nat → Int32) → (Nat → Int32) → (Nat → Int32) → (Nat → Int32) → (Int32) → (Int32) → Prop} (hw : wp_X2_become sk ze ma ki dn wi du osk oze oma oki odn owi odu oyr osz   Q) : Cn l D ca sd yX2_become cX2_become 2 none { frames := 1, cells := 0, slots := 0, locals := 60 } [.ref (ad 0), .ref (bd 0)] ((wC ca ad n0 sk ze ma ki dn wi du he yr sz) ++ (wC ca bd n0 osk oze oma oki odn owi odu ohe oyr osz)) ((wC ca ad n0 sk ze ma ki dn wi du he yr sz) ++ (wC ca bd n0 osk oze oma oki odn owi odu ohe oyr osz)) 0 0 (Rv D (fun u : (Nat → Int32) × (Nat → Int32) × (Nat → Int32) × (Nat → Int32) × (Nat → Int32) × (Nat → Int32) × (Nat → Int32) × (Int32) × (Int32) => Q u.1 u.2.1 u.2.2.1 u.2.2.2.1 u.2.2.2.2.1 u.2.2.2.2.2.1 u.2.2.2.2.2.2.1 u.2.2.2.2.2.2.2.1 u.2.2.2.2.2.2.2.2) (fun u => ((wC ca ad n0 u.1 u.2.1 u.2.2.1 u.2.2.2.1 u.2.2.2.2.1 u.2.2.2.2.2.1 u.2.2.2.2.2.2.1 he u.2.2.2.2.2.2.2.1 u.2.2.2.2.2.2.2.2) ++ (wC ca bd n0 osk oze oma oki odn owi odu ohe oyr osz)))) := by
  refine cn_of (by decide) (Nat.le_of_ble_eq_true rfl) (fun k C hR hB _ => ?_)
  have C : Cx D ca sd cX2_become RX2 none { frames := 1, cells := 0, slots := 0, locals := 60 } k 2 := C
  unfold wp_X2_become at hw
  show J l D k 2 0 0 0 ((wC ca ad n0 sk ze ma ki dn wi du he yr sz) ++ (wC ca bd n0 osk oze oma oki odn owi odu ohe oyr osz)) [(0, .ref (ad 0)), (1, .ref (bd 0))] []
  refine j_aload_n C 1 dX2_become_0 rfl ?_
  refine j_get C fl_X2_9_2 9 dX2_become_1 rfl rfl ?_
  refine j_iconst C 0 dX2_become_4 (by decide) ?_
  refine j_aload_n C 0 dX2_become_5 rfl ?_
  refine j_get C fl_X2_9_2 0 dX2_become_6 rfl rfl ?_
  refine j_iconst C 0 dX2_become_9 (by decide) ?_
  refine j_bipush C 6 dX2_become_10 (by decide) ?_
  refine j_copyi C hB lc_X2_46 10 1 0 0 6 ((wC ca ad n0 (va_cpy osk sk 0 0 6) ze ma ki dn wi du he yr sz) ++ (wC ca bd n0 osk oze oma oki odn owi odu ohe oyr osz)) rfl rfl (by decide) (by decide) (by decide) (by decide) (by decide) (by decide) (by decide) (by decide) (by decide) (Nat.le_of_ble_eq_true rfl) dX2_become_12 rfl ?_
  refine j_aload_n C 1 dX2_become_15 rfl ?_
  refine j_get C fl_X2_15_2 9 dX2_become_16 rfl rfl ?_
  refine j_iconst C 0 dX2_become_19 (by decide) ?_
  refine j_aload_n C 0 dX2_become_20 rfl ?_
  refine j_get C fl_X2_15_2 0 dX2_become_21 rfl rfl ?_
  refine j_iconst C 0 dX2_become_24 (by decide) ?_
  refine j_bipush C 6 dX2_become_25 (by decide) ?_
  refine j_copyi C hB lc_X2_46 11 2 0 0 6 ((wC ca ad n0 (va_cpy osk sk 0 0 6) (va_cpy oze ze 0 0 6) ma ki dn wi du he yr sz) ++ (wC ca bd n0 osk oze oma oki odn owi odu ohe oyr osz)) rfl rfl (by decide) (by decide) (by decide) (by decide) (by decide) (by decide) (by decide) (by decide) (by decide) (Nat.le_of_ble_eq_true rfl) dX2_become_27 rfl ?_
  refine j_aload_n C 1 dX2_become_30 rfl ?_
  refine j_get C fl_X2_18_2 9 dX2_become_31 rfl rfl ?_
  refine j_iconst C 0 dX2_become_34 (by decide) ?_
  refine j_aload_n C 0 dX2_become_35 rfl ?_
  refine j_get C fl_X2_18_2 0 dX2_become_36 rfl rfl ?_
  refine j_iconst C 0 dX2_become_39 (by decide) ?_
  refine j_bipush C 6 dX2_become_40 (by decide) ?_
  refine j_copyi C hB lc_X2_46 12 3 0 0 6 ((wC ca ad n0 (va_cpy osk sk 0 0 6) (va_cpy oze ze 0 0 6) (va_cpy oma ma 0 0 6) ki dn wi du he yr sz) ++ (wC ca bd n0 osk oze oma oki odn owi odu ohe oyr osz)) rfl rfl (by decide) (by decide) (by decide) (by decide) (by decide) (by decide) (by decide) (by decide) (by decide) (Nat.le_of_ble_eq_true rfl) dX2_become_42 rfl ?_
  refine j_aload_n C 1 dX2_become_45 rfl ?_
  refine j_get C fl_X2_21_2 9 dX2_become_46 rfl rfl ?_
  refine j_iconst C 0 dX2_become_49 (by decide) ?_
  refine j_aload_n C 0 dX2_become_50 rfl ?_
  refine j_get C fl_X2_21_2 0 dX2_become_51 rfl rfl ?_
  refine j_iconst C 0 dX2_become_54 (by decide) ?_
  refine j_bipush C 8 dX2_become_55 (by decide) ?_
  refine j_copyi C hB lc_X2_46 13 4 0 0 8 ((wC ca ad n0 (va_cpy osk sk 0 0 6) (va_cpy oze ze 0 0 6) (va_cpy oma ma 0 0 6) (va_cpy oki ki 0 0 8) dn wi du he yr sz) ++ (wC ca bd n0 osk oze oma oki odn owi odu ohe oyr osz)) rfl rfl (by decide) (by decide) (by decide) (by decide) (by decide) (by decide) (by decide) (by decide) (by decide) (Nat.le_of_ble_eq_true rfl) dX2_become_57 rfl ?_
  refine j_aload_n C 1 dX2_become_60 rfl ?_
  refine j_get C fl_X2_24_2 9 dX2_become_61 rfl rfl ?_
  refine j_iconst C 0 dX2_become_64 (by decide) ?_
  refine j_aload_n C 0 dX2_become_65 rfl ?_
  refine j_get C fl_X2_24_2 0 dX2_become_66 rfl rfl ?_
  refine j_iconst C 0 dX2_become_69 (by decide) ?_
  refine j_bipush C 8 dX2_become_70 (by decide) ?_
  refine j_copyi C hB lc_X2_46 14 5 0 0 8 ((wC ca ad n0 (va_cpy osk sk 0 0 6) (va_cpy oze ze 0 0 6) (va_cpy oma ma 0 0 6) (va_cpy oki ki 0 0 8) (va_cpy odn dn 0 0 8) wi du he yr sz) ++ (wC ca bd n0 osk oze oma oki odn owi odu ohe oyr osz)) rfl rfl (by decide) (by decide) (by decide) (by decide) (by decide) (by decide) (by decide) (by decide) (by decide) (Nat.le_of_ble_eq_true rfl) dX2_become_72 rfl ?_
  refine j_aload_n C 1 dX2_become_75 rfl ?_
  refine j_get C fl_X2_27_2 9 dX2_become_76 rfl rfl ?_
  refine j_iconst C 0 dX2_become_79 (by decide) ?_
  refine j_aload_n C 0 dX2_become_80 rfl ?_
  refine j_get C fl_X2_27_2 0 dX2_become_81 rfl rfl ?_
  refine j_iconst C 0 dX2_become_84 (by decide) ?_
  refine j_bipush C 8 dX2_become_85 (by decide) ?_
  refine j_copyi C hB lc_X2_46 15 6 0 0 8 ((wC ca ad n0 (va_cpy osk sk 0 0 6) (va_cpy oze ze 0 0 6) (va_cpy oma ma 0 0 6) (va_cpy oki ki 0 0 8) (va_cpy odn dn 0 0 8) (va_cpy owi wi 0 0 8) du he yr sz) ++ (wC ca bd n0 osk oze oma oki odn owi odu ohe oyr osz)) rfl rfl (by decide) (by decide) (by decide) (by decide) (by decide) (by decide) (by decide) (by decide) (by decide) (Nat.le_of_ble_eq_true rfl) dX2_become_87 rfl ?_
  refine j_aload_n C 1 dX2_become_90 rfl ?_
  refine j_get C fl_X2_30_2 9 dX2_become_91 rfl rfl ?_
  refine j_iconst C 0 dX2_become_94 (by decide) ?_
  refine j_aload_n C 0 dX2_become_95 rfl ?_
  refine j_get C fl_X2_30_2 0 dX2_become_96 rfl rfl ?_
  refine j_iconst C 0 dX2_become_99 (by decide) ?_
  refine j_bipush C 8 dX2_become_100 (by decide) ?_
  refine j_copyi C hB lc_X2_46 16 7 0 0 8 ((wC ca ad n0 (va_cpy osk sk 0 0 6) (va_cpy oze ze 0 0 6) (va_cpy oma ma 0 0 6) (va_cpy oki ki 0 0 8) (va_cpy odn dn 0 0 8) (va_cpy owi wi 0 0 8) (va_cpy odu du 0 0 8) he yr sz) ++ (wC ca bd n0 osk oze oma oki odn owi odu ohe oyr osz)) rfl rfl (by decide) (by decide) (by decide) (by decide) (by decide) (by decide) (by decide) (by decide) (by decide) (Nat.le_of_ble_eq_true rfl) dX2_become_102 rfl ?_
  refine j_aload_n C 0 dX2_become_105 rfl ?_
  refine j_aload_n C 1 dX2_become_106 rfl ?_
  refine j_get C fl_X2_52_2 9 dX2_become_107 rfl rfl ?_
  refine j_put C hB fw_X2_52_2 0 ((wC ca ad n0 (va_cpy osk sk 0 0 6) (va_cpy oze ze 0 0 6) (va_cpy oma ma 0 0 6) (va_cpy oki ki 0 0 8) (va_cpy odn dn 0 0 8) (va_cpy owi wi 0 0 8) (va_cpy odu du 0 0 8) he oyr sz) ++ (wC ca bd n0 osk oze oma oki odn owi odu ohe oyr osz)) dX2_become_110 rfl rfl rfl (Nat.le_of_ble_eq_true rfl) rfl ?_
  refine j_aload_n C 0 dX2_become_113 rfl ?_
  refine j_aload_n C 1 dX2_become_114 rfl ?_
  refine j_get C fl_X2_56_2 9 dX2_become_115 rfl rfl ?_
  refine j_put C hB fw_X2_56_2 0 ((wC ca ad n0 (va_cpy osk sk 0 0 6) (va_cpy oze ze 0 0 6) (va_cpy oma ma 0 0 6) (va_cpy oki ki 0 0 8) (va_cpy odn dn 0 0 8) (va_cpy owi wi 0 0 8) (va_cpy odu du 0 0 8) he oyr osz) ++ (wC ca bd n0 osk oze oma oki odn owi odu ohe oyr osz)) dX2_become_118 rfl rfl rfl (Nat.le_of_ble_eq_true rfl) rfl ?_
  exact j_vret C hB hR (va_cpy osk sk 0 0 6, va_cpy oze ze 0 0 6, va_cpy oma ma 0 0 6, va_cpy oki ki 0 0 8, va_cpy odn dn 0 0 8, va_cpy owi wi 0 0 8, va_cpy odu du 0 0 8, oyr, osz) rfl dX2_become_121 hw rfl
def wp_X2_becomeR (osk : Nat → Int32) (oze : Nat → Int32) (oma : Nat → Int32) (oki : Nat → Int32) (odn : Nat → Int32) (owi : Nat → Int32) (odu : Nat → Int32) (oyr : Int32) (osz : Int32) (sk : Nat → Int32) (ze : Nat → Int32) (ma : Nat → Int32) (ki : Nat → Int32) (dn : Nat → Int32) (wi : Nat → Int32) (du : Nat → Int32)   (Q : (Nat → Int32) → (Nat → Int32) → (Nat → Int32) → (Nat → Int32) → (Nat → Int32) → (Nat → Int32) → (Nat → Int32) → (Int32) → (Int32) → Prop) : Prop := Q (va_cpy osk sk 0 0 6) (va_cpy oze ze 0 0 6) (va_cpy oma ma 0 0 6) (va_cpy oki ki 0 0 8) (va_cpy odn dn 0 0 8) (va_cpy owi wi 0 0 8) (va_cpy odu du 0 0 8) oyr osz
set_option maxRecDepth 100000 in
set_option maxHeartbeats 8000000 in
theorem c_X2_becomeR {l : Launch} {D : va_G} {ca : Nat → ClassId} {sd : Nat → Nat}  (ad : Nat → Nat) (bd : Nat → Nat) (n0 : Nat) (osk : Nat → Int32) (oze : Nat → Int32) (oma : Nat → Int32) (oki : Nat → Int32) (odn : Nat → Int32) (owi : Nat → Int32) (odu : Nat → Int32) (ohe : Nat → Int32) (oyr : Int32) (osz : Int32) (sk : Nat → Int32) (ze : Nat → Int32) (ma : Nat → Int32) (ki : Nat → Int32) (dn : Nat → Int32) (wi : Nat → Int32) (du : Nat → Int32) (he : Nat → Int32) (yr : Int32) (sz : Int32)    {Q : (Nat → Int32) → (Nat → Int32) → (Nat → Int32) → (Nat → Int32) → (Nat → Int32) → (Nat → Int32) → (Nat → Int32) → (Int32) → (Int32) → Prop} (hw : wp_X2_becomeR osk oze oma oki odn owi odu oyr osz sk ze ma ki dn wi du   Q) : Cn l D ca sd yX2_become cX2_become 2 none { frames := 1, cells := 0, slots := 0, locals := 60 } [.ref (ad 0), .ref (bd 0)] ((wC ca bd n0 osk oze oma oki odn owi odu ohe oyr osz) ++ (wC ca ad n0 sk ze ma ki dn wi du he yr sz)) ((wC ca bd n0 osk oze oma oki odn owi odu ohe oyr osz) ++ (wC ca ad n0 sk ze ma ki dn wi du he yr sz)) 0 0 (Rv D (fun u : (Nat → Int32) × (Nat → Int32) × (Nat → Int32) × (Nat → Int32) × (Nat → Int32) × (Nat → Int32) × (Nat → Int32) × (Int32) × (Int32) => Q u.1 u.2.1 u.2.2.1 u.2.2.2.1 u.2.2.2.2.1 u.2.2.2.2.2.1 u.2.2.2.2.2.2.1 u.2.2.2.2.2.2.2.1 u.2.2.2.2.2.2.2.2) (fun u => ((wC ca bd n0 osk oze oma oki odn owi odu ohe oyr osz) ++ (wC ca ad n0 u.1 u.2.1 u.2.2.1 u.2.2.2.1 u.2.2.2.2.1 u.2.2.2.2.2.1 u.2.2.2.2.2.2.1 he u.2.2.2.2.2.2.2.1 u.2.2.2.2.2.2.2.2)))) := by
  refine cn_of (by decide) (Nat.le_of_ble_eq_true rfl) (fun k C hR hB _ => ?_)
  have C : Cx D ca sd cX2_become RX2 none { frames := 1, cells := 0, slots := 0, locals := 60 } k 2 := C
  unfold wp_X2_becomeR at hw
  show J l D k 2 0 0 0 ((wC ca bd n0 osk oze oma oki odn owi odu ohe oyr osz) ++ (wC ca ad n0 sk ze ma ki dn wi du he yr sz)) [(0, .ref (ad 0)), (1, .ref (bd 0))] []
  refine j_aload_n C 1 dX2_become_0 rfl ?_
  refine j_get C fl_X2_9_2 0 dX2_become_1 rfl rfl ?_
  refine j_iconst C 0 dX2_become_4 (by decide) ?_
  refine j_aload_n C 0 dX2_become_5 rfl ?_
  refine j_get C fl_X2_9_2 9 dX2_become_6 rfl rfl ?_
  refine j_iconst C 0 dX2_become_9 (by decide) ?_
  refine j_bipush C 6 dX2_become_10 (by decide) ?_
  refine j_copyi C hB lc_X2_46 1 10 0 0 6 ((wC ca bd n0 osk oze oma oki odn owi odu ohe oyr osz) ++ (wC ca ad n0 (va_cpy osk sk 0 0 6) ze ma ki dn wi du he yr sz)) rfl rfl (by decide) (by decide) (by decide) (by decide) (by decide) (by decide) (by decide) (by decide) (by decide) (Nat.le_of_ble_eq_true rfl) dX2_become_12 rfl ?_
  refine j_aload_n C 1 dX2_become_15 rfl ?_
  refine j_get C fl_X2_15_2 0 dX2_become_16 rfl rfl ?_
  refine j_iconst C 0 dX2_become_19 (by decide) ?_
  refine j_aload_n C 0 dX2_become_20 rfl ?_
  refine j_get C fl_X2_15_2 9 dX2_become_21 rfl rfl ?_
  refine j_iconst C 0 dX2_become_24 (by decide) ?_
  refine j_bipush C 6 dX2_become_25 (by decide) ?_
  refine j_copyi C hB lc_X2_46 2 11 0 0 6 ((wC ca bd n0 osk oze oma oki odn owi odu ohe oyr osz) ++ (wC ca ad n0 (va_cpy osk sk 0 0 6) (va_cpy oze ze 0 0 6) ma ki dn wi du he yr sz)) rfl rfl (by decide) (by decide) (by decide) (by decide) (by decide) (by decide) (by decide) (by decide) (by decide) (Nat.le_of_ble_eq_true rfl) dX2_become_27 rfl ?_
  refine j_aload_n C 1 dX2_become_30 rfl ?_
  refine j_get C fl_X2_18_2 0 dX2_become_31 rfl rfl ?_
  refine j_iconst C 0 dX2_become_34 (by decide) ?_
  refine j_aload_n C 0 dX2_become_35 rfl ?_
  refine j_get C fl_X2_18_2 9 dX2_become_36 rfl rfl ?_
  refine j_iconst C 0 dX2_become_39 (by decide) ?_
  refine j_bipush C 6 dX2_become_40 (by decide) ?_
  refine j_copyi C hB lc_X2_46 3 12 0 0 6 ((wC ca bd n0 osk oze oma oki odn owi odu ohe oyr osz) ++ (wC ca ad n0 (va_cpy osk sk 0 0 6) (va_cpy oze ze 0 0 6) (va_cpy oma ma 0 0 6) ki dn wi du he yr sz)) rfl rfl (by decide) (by decide) (by decide) (by decide) (by decide) (by decide) (by decide) (by decide) (by decide) (Nat.le_of_ble_eq_true rfl) dX2_become_42 rfl ?_
  refine j_aload_n C 1 dX2_become_45 rfl ?_
  refine j_get C fl_X2_21_2 0 dX2_become_46 rfl rfl ?_
  refine j_iconst C 0 dX2_become_49 (by decide) ?_
  refine j_aload_n C 0 dX2_become_50 rfl ?_
  refine j_get C fl_X2_21_2 9 dX2_become_51 rfl rfl ?_
  refine j_iconst C 0 dX2_become_54 (by decide) ?_
  refine j_bipush C 8 dX2_become_55 (by decide) ?_
  refine j_copyi C hB lc_X2_46 4 13 0 0 8 ((wC ca bd n0 osk oze oma oki odn owi odu ohe oyr osz) ++ (wC ca ad n0 (va_cpy osk sk 0 0 6) (va_cpy oze ze 0 0 6) (va_cpy oma ma 0 0 6) (va_cpy oki ki 0 0 8) dn wi du he yr sz)) rfl rfl (by decide) (by decide) (by decide) (by decide) (by decide) (by decide) (by decide) (by decide) (by decide) (Nat.le_of_ble_eq_true rfl) dX2_become_57 rfl ?_
  refine j_aload_n C 1 dX2_become_60 rfl ?_
  refine j_get C fl_X2_24_2 0 dX2_become_61 rfl rfl ?_
  refine j_iconst C 0 dX2_become_64 (by decide) ?_
  refine j_aload_n C 0 dX2_become_65 rfl ?_
  refine j_get C fl_X2_24_2 9 dX2_become_66 rfl rfl ?_
  refine j_iconst C 0 dX2_become_69 (by decide) ?_
  refine j_bipush C 8 dX2_become_70 (by decide) ?_
  refine j_copyi C hB lc_X2_46 5 14 0 0 8 ((wC ca bd n0 osk oze oma oki odn owi odu ohe oyr osz) ++ (wC ca ad n0 (va_cpy osk sk 0 0 6) (va_cpy oze ze 0 0 6) (va_cpy oma ma 0 0 6) (va_cpy oki ki 0 0 8) (va_cpy odn dn 0 0 8) wi du he yr sz)) rfl rfl (by decide) (by decide) (by decide) (by decide) (by decide) (by decide) (by decide) (by decide) (by decide) (Nat.le_of_ble_eq_true rfl) dX2_become_72 rfl ?_
  refine j_aload_n C 1 dX2_become_75 rfl ?_
  refine j_get C fl_X2_27_2 0 dX2_become_76 rfl rfl ?_
  refine j_iconst C 0 dX2_become_79 (by decide) ?_
  refine j_aload_n C 0 dX2_become_80 rfl ?_
  refine j_get C fl_X2_27_2 9 dX2_become_81 rfl rfl ?_
  refine j_iconst C 0 dX2_become_84 (by decide) ?_
  refine j_bipush C 8 dX2_become_85 (by decide) ?_
  refine j_copyi C hB lc_X2_46 6 15 0 0 8 ((wC ca bd n0 osk oze oma oki odn owi odu ohe oyr osz) ++ (wC ca ad n0 (va_cpy osk sk 0 0 6) (va_cpy oze ze 0 0 6) (va_cpy oma ma 0 0 6) (va_cpy oki ki 0 0 8) (va_cpy odn dn 0 0 8) (va_cpy owi wi 0 0 8) du he yr sz)) rfl rfl (by decide) (by decide) (by decide) (by decide) (by decide) (by decide) (by decide) (by decide) (by decide) (Nat.le_of_ble_eq_true rfl) dX2_become_87 rfl ?_
  refine j_aload_n C 1 dX2_become_90 rfl ?_
  refine j_get C fl_X2_30_2 0 dX2_become_91 rfl rfl ?_
  refine j_iconst C 0 dX2_become_94 (by decide) ?_
  refine j_aload_n C 0 dX2_become_95 rfl ?_
  refine j_get C fl_X2_30_2 9 dX2_become_96 rfl rfl ?_
  refine j_iconst C 0 dX2_become_99 (by decide) ?_
  refine j_bipush C 8 dX2_become_100 (by decide) ?_
  refine j_copyi C hB lc_X2_46 7 16 0 0 8 ((wC ca bd n0 osk oze oma oki odn owi odu ohe oyr osz) ++ (wC ca ad n0 (va_cpy osk sk 0 0 6) (va_cpy oze ze 0 0 6) (va_cpy oma ma 0 0 6) (va_cpy oki ki 0 0 8) (va_cpy odn dn 0 0 8) (va_cpy owi wi 0 0 8) (va_cpy odu du 0 0 8) he yr sz)) rfl rfl (by decide) (by decide) (by decide) (by decide) (by decide) (by decide) (by decide) (by decide) (by decide) (Nat.le_of_ble_eq_true rfl) dX2_become_102 rfl ?_
  refine j_aload_n C 0 dX2_become_105 rfl ?_
  refine j_aload_n C 1 dX2_become_106 rfl ?_
  refine j_get C fl_X2_52_2 0 dX2_become_107 rfl rfl ?_
  refine j_put C hB fw_X2_52_2 9 ((wC ca bd n0 osk oze oma oki odn owi odu ohe oyr osz) ++ (wC ca ad n0 (va_cpy osk sk 0 0 6) (va_cpy oze ze 0 0 6) (va_cpy oma ma 0 0 6) (va_cpy oki ki 0 0 8) (va_cpy odn dn 0 0 8) (va_cpy owi wi 0 0 8) (va_cpy odu du 0 0 8) he oyr sz)) dX2_become_110 rfl rfl rfl (Nat.le_of_ble_eq_true rfl) rfl ?_
  refine j_aload_n C 0 dX2_become_113 rfl ?_
  refine j_aload_n C 1 dX2_become_114 rfl ?_
  refine j_get C fl_X2_56_2 0 dX2_become_115 rfl rfl ?_
  refine j_put C hB fw_X2_56_2 9 ((wC ca bd n0 osk oze oma oki odn owi odu ohe oyr osz) ++ (wC ca ad n0 (va_cpy osk sk 0 0 6) (va_cpy oze ze 0 0 6) (va_cpy oma ma 0 0 6) (va_cpy oki ki 0 0 8) (va_cpy odn dn 0 0 8) (va_cpy owi wi 0 0 8) (va_cpy odu du 0 0 8) he oyr osz)) dX2_become_118 rfl rfl rfl (Nat.le_of_ble_eq_true rfl) rfl ?_
  exact j_vret C hB hR (va_cpy osk sk 0 0 6, va_cpy oze ze 0 0 6, va_cpy oma ma 0 0 6, va_cpy oki ki 0 0 8, va_cpy odn dn 0 0 8, va_cpy owi wi 0 0 8, va_cpy odu du 0 0 8, oyr, osz) rfl dX2_become_121 hw rfl
