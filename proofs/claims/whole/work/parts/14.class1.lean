theorem ct_X9_123 : Cond.constant RX9 123 (-1000000002) ∈ TB := (tb_t 262 (by decide +kernel) rfl)
theorem ct_X9_169 : Cond.constant RX9 169 (-1000000003) ∈ TB := (tb_t 388 (by decide +kernel) rfl)
theorem ct_X9_173 : Cond.constant RX9 173 (-1000000005) ∈ TB := (tb_t 397 (by decide +kernel) rfl)
theorem ct_X9_187 : Cond.constant RX9 187 (-1000000004) ∈ TB := (tb_t 422 (by decide +kernel) rfl)
theorem ct_X9_82 : Cond.constant RX9 82 (-1000000001) ∈ TB := (tb_t 221 (by decide +kernel) rfl)
theorem fl_X9_101_2 : FL RX9 101 2 3 := ⟨RX2, TX2, 11, rfl, by decide, uw_X2, (tb_t 104 (by decide +kernel) rfl)⟩
theorem fl_X9_124_2 : FL RX9 124 2 10 := ⟨RX2, TX2, 11, rfl, by decide, uw_X2, (tb_t 117 (by decide +kernel) rfl)⟩
theorem fl_X9_135_2 : FL RX9 135 2 4 := ⟨RX2, TX2, 11, rfl, by decide, uw_X2, (tb_t 106 (by decide +kernel) rfl)⟩
theorem fl_X9_138_2 : FL RX9 138 2 5 := ⟨RX2, TX2, 11, rfl, by decide, uw_X2, (tb_t 108 (by decide +kernel) rfl)⟩
theorem fl_X9_141_2 : FL RX9 141 2 6 := ⟨RX2, TX2, 11, rfl, by decide, uw_X2, (tb_t 110 (by decide +kernel) rfl)⟩
theorem fl_X9_144_2 : FL RX9 144 2 7 := ⟨RX2, TX2, 11, rfl, by decide, uw_X2, (tb_t 112 (by decide +kernel) rfl)⟩
theorem fl_X9_188_2 : FL RX9 188 2 9 := ⟨RX2, TX2, 11, rfl, by decide, uw_X2, (tb_t 115 (by decide +kernel) rfl)⟩
theorem fl_X9_240_7 : FL RX9 240 7 2 := ⟨RX7, TX7, 3, rfl, by decide, uw_X7, (tb_t 180 (by decide +kernel) rfl)⟩
theorem fl_X9_245_7 : FL RX9 245 7 0 := ⟨RX7, TX7, 3, rfl, by decide, uw_X7, (tb_t 176 (by decide +kernel) rfl)⟩
theorem fl_X9_44_9 : FL RX9 44 9 0 := ⟨RX9, TX9, 7, rfl, by decide, uw_X9, (tb_t 189 (by decide +kernel) rfl)⟩
theorem fl_X9_50_9 : FL RX9 50 9 1 := ⟨RX9, TX9, 7, rfl, by decide, uw_X9, (tb_t 190 (by decide +kernel) rfl)⟩
theorem fl_X9_74_9 : FL RX9 74 9 6 := ⟨RX9, TX9, 7, rfl, by decide, uw_X9, (tb_t 195 (by decide +kernel) rfl)⟩
theorem fl_X9_91_2 : FL RX9 91 2 1 := ⟨RX2, TX2, 11, rfl, by decide, uw_X2, (tb_t 98 (by decide +kernel) rfl)⟩
theorem fl_X9_98_2 : FL RX9 98 2 2 := ⟨RX2, TX2, 11, rfl, by decide, uw_X2, (tb_t 101 (by decide +kernel) rfl)⟩
theorem lkO_X9_151_X0 : LkO RX9 151 RX0 "UnfinishedFair$Kind" ⟨"UnfinishedFair$Kind", "tires", "()I"⟩ yX0_tires cX0_tires 1 (some .int) 0 := ⟨⟨(tb_t 280 (by decide +kernel) rfl), (tb_t 283 (by decide +kernel) rfl), (tb_t 281 (by decide +kernel) rfl), (tb_t 284 (by decide +kernel) rfl), (tb_t 285 (by decide +kernel) rfl), (tb_t 3 (by decide +kernel) rfl), (tb_t 286 (by decide +kernel) rfl), by decide, by decide, by decide +kernel⟩, cX4_tires, 1, (some .int), (tb_t 299 (by decide +kernel) rfl)⟩
theorem lkO_X9_151_X1 : LkO RX9 151 RX1 "UnfinishedFair$Kind" ⟨"UnfinishedFair$Kind", "tires", "()I"⟩ yX0_tires cX0_tires 1 (some .int) 0 := ⟨⟨(tb_t 280 (by decide +kernel) rfl), (tb_t 283 (by decide +kernel) rfl), (tb_t 281 (by decide +kernel) rfl), (tb_t 288 (by decide +kernel) rfl), (tb_t 285 (by decide +kernel) rfl), (tb_t 3 (by decide +kernel) rfl), (tb_t 286 (by decide +kernel) rfl), by decide, by decide, by decide +kernel⟩, cX4_tires, 1, (some .int), (tb_t 299 (by decide +kernel) rfl)⟩
theorem lkO_X9_151_X3 : LkO RX9 151 RX3 "UnfinishedFair$Kind" ⟨"UnfinishedFair$Kind", "tires", "()I"⟩ yX4_tires cX4_tires 1 (some .int) 0 := ⟨⟨(tb_t 280 (by decide +kernel) rfl), (tb_t 283 (by decide +kernel) rfl), (tb_t 281 (by decide +kernel) rfl), (tb_t 289 (by decide +kernel) rfl), (tb_t 281 (by decide +kernel) rfl), (tb_t 2 (by decide +kernel) rfl), (tb_t 299 (by decide +kernel) rfl), by decide, by decide, by decide +kernel⟩, cX4_tires, 1, (some .int), (tb_t 299 (by decide +kernel) rfl)⟩
theorem lkO_X9_151_X4 : LkO RX9 151 RX4 "UnfinishedFair$Kind" ⟨"UnfinishedFair$Kind", "tires", "()I"⟩ yX4_tires cX4_tires 1 (some .int) 0 := ⟨⟨(tb_t 280 (by decide +kernel) rfl), (tb_t 283 (by decide +kernel) rfl), (tb_t 281 (by decide +kernel) rfl), (tb_t 282 (by decide +kernel) rfl), (tb_t 281 (by decide +kernel) rfl), (tb_t 2 (by decide +kernel) rfl), (tb_t 299 (by decide +kernel) rfl), by decide, by decide, by decide +kernel⟩, cX4_tires, 1, (some .int), (tb_t 299 (by decide +kernel) rfl)⟩
theorem lkO_X9_151_X5 : LkO RX9 151 RX5 "UnfinishedFair$Kind" ⟨"UnfinishedFair$Kind", "tires", "()I"⟩ yX5_tires cX5_tires 1 (some .int) 0 := ⟨⟨(tb_t 280 (by decide +kernel) rfl), (tb_t 283 (by decide +kernel) rfl), (tb_t 281 (by decide +kernel) rfl), (tb_t 290 (by decide +kernel) rfl), (tb_t 291 (by decide +kernel) rfl), (tb_t 7 (by decide +kernel) rfl), (tb_t 292 (by decide +kernel) rfl), by decide, by decide, by decide +kernel⟩, cX4_tires, 1, (some .int), (tb_t 299 (by decide +kernel) rfl)⟩
theorem lkO_X9_151_X6 : LkO RX9 151 RX6 "UnfinishedFair$Kind" ⟨"UnfinishedFair$Kind", "tires", "()I"⟩ yX6_tires cX6_tires 1 (some .int) 0 := ⟨⟨(tb_t 280 (by decide +kernel) rfl), (tb_t 283 (by decide +kernel) rfl), (tb_t 281 (by decide +kernel) rfl), (tb_t 296 (by decide +kernel) rfl), (tb_t 297 (by decide +kernel) rfl), (tb_t 5 (by decide +kernel) rfl), (tb_t 298 (by decide +kernel) rfl), by decide, by decide, by decide +kernel⟩, cX4_tires, 1, (some .int), (tb_t 299 (by decide +kernel) rfl)⟩
theorem lkO_X9_154_X0 : LkO RX9 154 RX0 "UnfinishedFair$Kind" ⟨"UnfinishedFair$Kind", "asked", "(II)I"⟩ yX0_asked cX0_asked 3 (some .int) 2 := ⟨⟨(tb_t 300 (by decide +kernel) rfl), (tb_t 303 (by decide +kernel) rfl), (tb_t 301 (by decide +kernel) rfl), (tb_t 304 (by decide +kernel) rfl), (tb_t 305 (by decide +kernel) rfl), (tb_t 3 (by decide +kernel) rfl), (tb_t 306 (by decide +kernel) rfl), by decide, by decide, by decide +kernel⟩, cX4_asked, 3, (some .int), (tb_t 322 (by decide +kernel) rfl)⟩
theorem lkO_X9_154_X1 : LkO RX9 154 RX1 "UnfinishedFair$Kind" ⟨"UnfinishedFair$Kind", "asked", "(II)I"⟩ yX0_asked cX0_asked 3 (some .int) 2 := ⟨⟨(tb_t 300 (by decide +kernel) rfl), (tb_t 303 (by decide +kernel) rfl), (tb_t 301 (by decide +kernel) rfl), (tb_t 311 (by decide +kernel) rfl), (tb_t 305 (by decide +kernel) rfl), (tb_t 3 (by decide +kernel) rfl), (tb_t 306 (by decide +kernel) rfl), by decide, by decide, by decide +kernel⟩, cX4_asked, 3, (some .int), (tb_t 322 (by decide +kernel) rfl)⟩
theorem lkO_X9_154_X3 : LkO RX9 154 RX3 "UnfinishedFair$Kind" ⟨"UnfinishedFair$Kind", "asked", "(II)I"⟩ yX4_asked cX4_asked 3 (some .int) 2 := ⟨⟨(tb_t 300 (by decide +kernel) rfl), (tb_t 303 (by decide +kernel) rfl), (tb_t 301 (by decide +kernel) rfl), (tb_t 312 (by decide +kernel) rfl), (tb_t 301 (by decide +kernel) rfl), (tb_t 2 (by decide +kernel) rfl), (tb_t 322 (by decide +kernel) rfl), by decide, by decide, by decide +kernel⟩, cX4_asked, 3, (some .int), (tb_t 322 (by decide +kernel) rfl)⟩
theorem lkO_X9_154_X4 : LkO RX9 154 RX4 "UnfinishedFair$Kind" ⟨"UnfinishedFair$Kind", "asked", "(II)I"⟩ yX4_asked cX4_asked 3 (some .int) 2 := ⟨⟨(tb_t 300 (by decide +kernel) rfl), (tb_t 303 (by decide +kernel) rfl), (tb_t 301 (by decide +kernel) rfl), (tb_t 302 (by decide +kernel) rfl), (tb_t 301 (by decide +kernel) rfl), (tb_t 2 (by decide +kernel) rfl), (tb_t 322 (by decide +kernel) rfl), by decide, by decide, by decide +kernel⟩, cX4_asked, 3, (some .int), (tb_t 322 (by decide +kernel) rfl)⟩
theorem lkO_X9_154_X5 : LkO RX9 154 RX5 "UnfinishedFair$Kind" ⟨"UnfinishedFair$Kind", "asked", "(II)I"⟩ yX5_asked cX5_asked 3 (some .int) 2 := ⟨⟨(tb_t 300 (by decide +kernel) rfl), (tb_t 303 (by decide +kernel) rfl), (tb_t 301 (by decide +kernel) rfl), (tb_t 313 (by decide +kernel) rfl), (tb_t 314 (by decide +kernel) rfl), (tb_t 7 (by decide +kernel) rfl), (tb_t 315 (by decide +kernel) rfl), by decide, by decide, by decide +kernel⟩, cX4_asked, 3, (some .int), (tb_t 322 (by decide +kernel) rfl)⟩
theorem lkO_X9_154_X6 : LkO RX9 154 RX6 "UnfinishedFair$Kind" ⟨"UnfinishedFair$Kind", "asked", "(II)I"⟩ yX6_asked cX6_asked 3 (some .int) 2 := ⟨⟨(tb_t 300 (by decide +kernel) rfl), (tb_t 303 (by decide +kernel) rfl), (tb_t 301 (by decide +kernel) rfl), (tb_t 319 (by decide +kernel) rfl), (tb_t 320 (by decide +kernel) rfl), (tb_t 5 (by decide +kernel) rfl), (tb_t 321 (by decide +kernel) rfl), by decide, by decide, by decide +kernel⟩, cX4_asked, 3, (some .int), (tb_t 322 (by decide +kernel) rfl)⟩
theorem lkO_X9_158_X0 : LkO RX9 158 RX0 "UnfinishedFair$Kind" ⟨"UnfinishedFair$Kind", "goesOn", "(III)I"⟩ yX0_goesOn cX0_goesOn 4 (some .int) 3 := ⟨⟨(tb_t 327 (by decide +kernel) rfl), (tb_t 330 (by decide +kernel) rfl), (tb_t 328 (by decide +kernel) rfl), (tb_t 331 (by decide +kernel) rfl), (tb_t 332 (by decide +kernel) rfl), (tb_t 3 (by decide +kernel) rfl), (tb_t 333 (by decide +kernel) rfl), by decide, by decide, by decide +kernel⟩, cX4_goesOn, 4, (some .int), (tb_t 350 (by decide +kernel) rfl)⟩
theorem lkO_X9_158_X1 : LkO RX9 158 RX1 "UnfinishedFair$Kind" ⟨"UnfinishedFair$Kind", "goesOn", "(III)I"⟩ yX1_goesOn cX1_goesOn 4 (some .int) 3 := ⟨⟨(tb_t 327 (by decide +kernel) rfl), (tb_t 330 (by decide +kernel) rfl), (tb_t 328 (by decide +kernel) rfl), (tb_t 335 (by decide +kernel) rfl), (tb_t 336 (by decide +kernel) rfl), (tb_t 6 (by decide +kernel) rfl), (tb_t 337 (by decide +kernel) rfl), by decide, by decide, by decide +kernel⟩, cX4_goesOn, 4, (some .int), (tb_t 350 (by decide +kernel) rfl)⟩
theorem lkO_X9_158_X3 : LkO RX9 158 RX3 "UnfinishedFair$Kind" ⟨"UnfinishedFair$Kind", "goesOn", "(III)I"⟩ yX3_goesOn cX3_goesOn 4 (some .int) 3 := ⟨⟨(tb_t 327 (by decide +kernel) rfl), (tb_t 330 (by decide +kernel) rfl), (tb_t 328 (by decide +kernel) rfl), (tb_t 339 (by decide +kernel) rfl), (tb_t 340 (by decide +kernel) rfl), (tb_t 4 (by decide +kernel) rfl), (tb_t 341 (by decide +kernel) rfl), by decide, by decide, by decide +kernel⟩, cX4_goesOn, 4, (some .int), (tb_t 350 (by decide +kernel) rfl)⟩
theorem lkO_X9_158_X4 : LkO RX9 158 RX4 "UnfinishedFair$Kind" ⟨"UnfinishedFair$Kind", "goesOn", "(III)I"⟩ yX4_goesOn cX4_goesOn 4 (some .int) 3 := ⟨⟨(tb_t 327 (by decide +kernel) rfl), (tb_t 330 (by decide +kernel) rfl), (tb_t 328 (by decide +kernel) rfl), (tb_t 329 (by decide +kernel) rfl), (tb_t 328 (by decide +kernel) rfl), (tb_t 2 (by decide +kernel) rfl), (tb_t 350 (by decide +kernel) rfl), by decide, by decide, by decide +kernel⟩, cX4_goesOn, 4, (some .int), (tb_t 350 (by decide +kernel) rfl)⟩
theorem lkO_X9_158_X5 : LkO RX9 158 RX5 "UnfinishedFair$Kind" ⟨"UnfinishedFair$Kind", "goesOn", "(III)I"⟩ yX5_goesOn cX5_goesOn 5 (some .int) 3 := ⟨⟨(tb_t 327 (by decide +kernel) rfl), (tb_t 330 (by decide +kernel) rfl), (tb_t 328 (by decide +kernel) rfl), (tb_t 343 (by decide +kernel) rfl), (tb_t 344 (by decide +kernel) rfl), (tb_t 7 (by decide +kernel) rfl), (tb_t 345 (by decide +kernel) rfl), by decide, by decide, by decide +kernel⟩, cX4_goesOn, 4, (some .int), (tb_t 350 (by decide +kernel) rfl)⟩
theorem lkO_X9_158_X6 : LkO RX9 158 RX6 "UnfinishedFair$Kind" ⟨"UnfinishedFair$Kind", "goesOn", "(III)I"⟩ yX6_goesOn cX6_goesOn 4 (some .int) 3 := ⟨⟨(tb_t 327 (by decide +kernel) rfl), (tb_t 330 (by decide +kernel) rfl), (tb_t 328 (by decide +kernel) rfl), (tb_t 347 (by decide +kernel) rfl), (tb_t 348 (by decide +kernel) rfl), (tb_t 5 (by decide +kernel) rfl), (tb_t 349 (by decide +kernel) rfl), by decide, by decide, by decide +kernel⟩, cX4_goesOn, 4, (some .int), (tb_t 350 (by decide +kernel) rfl)⟩
theorem lkO_X9_162_X0 : LkO RX9 162 RX0 "UnfinishedFair$Kind" ⟨"UnfinishedFair$Kind", "bid", "(III)I"⟩ yX0_bid cX0_bid 4 (some .int) 3 := ⟨⟨(tb_t 351 (by decide +kernel) rfl), (tb_t 354 (by decide +kernel) rfl), (tb_t 352 (by decide +kernel) rfl), (tb_t 355 (by decide +kernel) rfl), (tb_t 356 (by decide +kernel) rfl), (tb_t 3 (by decide +kernel) rfl), (tb_t 357 (by decide +kernel) rfl), by decide, by decide, by decide +kernel⟩, cX4_bid, 4, (some .int), (tb_t 370 (by decide +kernel) rfl)⟩
theorem lkO_X9_162_X1 : LkO RX9 162 RX1 "UnfinishedFair$Kind" ⟨"UnfinishedFair$Kind", "bid", "(III)I"⟩ yX1_bid cX1_bid 4 (some .int) 3 := ⟨⟨(tb_t 351 (by decide +kernel) rfl), (tb_t 354 (by decide +kernel) rfl), (tb_t 352 (by decide +kernel) rfl), (tb_t 358 (by decide +kernel) rfl), (tb_t 359 (by decide +kernel) rfl), (tb_t 6 (by decide +kernel) rfl), (tb_t 360 (by decide +kernel) rfl), by decide, by decide, by decide +kernel⟩, cX4_bid, 4, (some .int), (tb_t 370 (by decide +kernel) rfl)⟩
theorem lkO_X9_162_X3 : LkO RX9 162 RX3 "UnfinishedFair$Kind" ⟨"UnfinishedFair$Kind", "bid", "(III)I"⟩ yX3_bid cX3_bid 4 (some .int) 3 := ⟨⟨(tb_t 351 (by decide +kernel) rfl), (tb_t 354 (by decide +kernel) rfl), (tb_t 352 (by decide +kernel) rfl), (tb_t 362 (by decide +kernel) rfl), (tb_t 363 (by decide +kernel) rfl), (tb_t 4 (by decide +kernel) rfl), (tb_t 364 (by decide +kernel) rfl), by decide, by decide, by decide +kernel⟩, cX4_bid, 4, (some .int), (tb_t 370 (by decide +kernel) rfl)⟩
theorem lkO_X9_162_X4 : LkO RX9 162 RX4 "UnfinishedFair$Kind" ⟨"UnfinishedFair$Kind", "bid", "(III)I"⟩ yX4_bid cX4_bid 4 (some .int) 3 := ⟨⟨(tb_t 351 (by decide +kernel) rfl), (tb_t 354 (by decide +kernel) rfl), (tb_t 352 (by decide +kernel) rfl), (tb_t 353 (by decide +kernel) rfl), (tb_t 352 (by decide +kernel) rfl), (tb_t 2 (by decide +kernel) rfl), (tb_t 370 (by decide +kernel) rfl), by decide, by decide, by decide +kernel⟩, cX4_bid, 4, (some .int), (tb_t 370 (by decide +kernel) rfl)⟩
theorem lkO_X9_162_X5 : LkO RX9 162 RX5 "UnfinishedFair$Kind" ⟨"UnfinishedFair$Kind", "bid", "(III)I"⟩ yX3_bid cX3_bid 4 (some .int) 3 := ⟨⟨(tb_t 351 (by decide +kernel) rfl), (tb_t 354 (by decide +kernel) rfl), (tb_t 352 (by decide +kernel) rfl), (tb_t 366 (by decide +kernel) rfl), (tb_t 363 (by decide +kernel) rfl), (tb_t 4 (by decide +kernel) rfl), (tb_t 364 (by decide +kernel) rfl), by decide, by decide, by decide +kernel⟩, cX4_bid, 4, (some .int), (tb_t 370 (by decide +kernel) rfl)⟩
theorem lkO_X9_162_X6 : LkO RX9 162 RX6 "UnfinishedFair$Kind" ⟨"UnfinishedFair$Kind", "bid", "(III)I"⟩ yX6_bid cX6_bid 4 (some .int) 3 := ⟨⟨(tb_t 351 (by decide +kernel) rfl), (tb_t 354 (by decide +kernel) rfl), (tb_t 352 (by decide +kernel) rfl), (tb_t 367 (by decide +kernel) rfl), (tb_t 368 (by decide +kernel) rfl), (tb_t 5 (by decide +kernel) rfl), (tb_t 369 (by decide +kernel) rfl), by decide, by decide, by decide +kernel⟩, cX4_bid, 4, (some .int), (tb_t 370 (by decide +kernel) rfl)⟩
theorem lkS_X9_111 : LkS RX9 111 yJ6_bitCount_0f7a4 cJ6_bitCount_0f7a4 1 (some .int) 1 := ⟨(tb_t 245 (by decide +kernel) rfl), (tb_t 246 (by decide +kernel) rfl), (tb_t 13 (by decide +kernel) rfl), (tb_t 247 (by decide +kernel) rfl), by decide, by decide, by decide +kernel⟩
theorem lkS_X9_165 : LkS RX9 165 yX9_isOrIsUnder cX9_isOrIsUnder 4 (some .boolean) 2 := ⟨(tb_t 383 (by decide +kernel) rfl), (tb_t 384 (by decide +kernel) rfl), (tb_t 1 (by decide +kernel) rfl), (tb_t 385 (by decide +kernel) rfl), by decide, by decide, by decide +kernel⟩
theorem lkS_X9_78 : LkS RX9 78 yX9_isPerson cX9_isPerson 1 (some .boolean) 1 := ⟨(tb_t 215 (by decide +kernel) rfl), (tb_t 216 (by decide +kernel) rfl), (tb_t 1 (by decide +kernel) rfl), (tb_t 217 (by decide +kernel) rfl), by decide, by decide, by decide +kernel⟩
theorem lkS_X9_94 : LkS RX9 94 yX9_exchange cX9_exchange 4 (some .int) 3 := ⟨(tb_t 226 (by decide +kernel) rfl), (tb_t 227 (by decide +kernel) rfl), (tb_t 1 (by decide +kernel) rfl), (tb_t 228 (by decide +kernel) rfl), by decide, by decide, by decide +kernel⟩
theorem lkV_X9_104 : LkV RX9 104 RX2 yX2_heldSet cX2_heldSet 4 (some .int) 1 := ⟨(tb_t 233 (by decide +kernel) rfl), (tb_t 234 (by decide +kernel) rfl), (tb_t 235 (by decide +kernel) rfl), (tb_t 8 (by decide +kernel) rfl), (tb_t 236 (by decide +kernel) rfl), rfl, by decide, by decide, by decide +kernel⟩
theorem lkV_X9_107 : LkV RX9 107 RX2 yX2_finishedSet cX2_finishedSet 3 (some .int) 0 := ⟨(tb_t 237 (by decide +kernel) rfl), (tb_t 238 (by decide +kernel) rfl), (tb_t 239 (by decide +kernel) rfl), (tb_t 8 (by decide +kernel) rfl), (tb_t 240 (by decide +kernel) rfl), rfl, by decide, by decide, by decide +kernel⟩
theorem lkV_X9_119 : LkV RX9 119 RX2 yX2_isFull cX2_isFull 1 (some .boolean) 0 := ⟨(tb_t 258 (by decide +kernel) rfl), (tb_t 259 (by decide +kernel) rfl), (tb_t 260 (by decide +kernel) rfl), (tb_t 8 (by decide +kernel) rfl), (tb_t 261 (by decide +kernel) rfl), rfl, by decide, by decide, by decide +kernel⟩
theorem lkV_X9_128 : LkV RX9 128 RX2 yX2_add cX2_add 5 none 4 := ⟨(tb_t 263 (by decide +kernel) rfl), (tb_t 264 (by decide +kernel) rfl), (tb_t 265 (by decide +kernel) rfl), (tb_t 8 (by decide +kernel) rfl), (tb_t 266 (by decide +kernel) rfl), rfl, by decide, by decide, by decide +kernel⟩
theorem lkV_X9_132 : LkV RX9 132 RX9 yX9_isThing cX9_isThing 2 (some .boolean) 1 := ⟨(tb_t 272 (by decide +kernel) rfl), (tb_t 274 (by decide +kernel) rfl), (tb_in 1 (by decide +kernel) rfl), (tb_t 1 (by decide +kernel) rfl), (tb_t 275 (by decide +kernel) rfl), rfl, by decide, by decide, by decide +kernel⟩
theorem lkV_X9_147 : LkV RX9 147 RX2 yX2_natureOf cX2_natureOf 2 (some (.object "UnfinishedFair$Kind")) 1 := ⟨(tb_t 276 (by decide +kernel) rfl), (tb_t 277 (by decide +kernel) rfl), (tb_t 278 (by decide +kernel) rfl), (tb_t 8 (by decide +kernel) rfl), (tb_t 279 (by decide +kernel) rfl), rfl, by decide, by decide, by decide +kernel⟩
theorem lkV_X9_170 : LkV RX9 170 RX2 yX2_canBeLeft cX2_canBeLeft 2 (some .boolean) 1 := ⟨(tb_t 393 (by decide +kernel) rfl), (tb_t 394 (by decide +kernel) rfl), (tb_t 395 (by decide +kernel) rfl), (tb_t 8 (by decide +kernel) rfl), (tb_t 396 (by decide +kernel) rfl), rfl, by decide, by decide, by decide +kernel⟩
theorem lkV_X9_174 : LkV RX9 174 RX2 yX2_letGo cX2_letGo 2 none 1 := ⟨(tb_t 398 (by decide +kernel) rfl), (tb_t 399 (by decide +kernel) rfl), (tb_t 400 (by decide +kernel) rfl), (tb_t 8 (by decide +kernel) rfl), (tb_t 401 (by decide +kernel) rfl), rfl, by decide, by decide, by decide +kernel⟩
theorem lkV_X9_178 : LkV RX9 178 RX2 yX2_isForTheFair cX2_isForTheFair 2 (some .boolean) 1 := ⟨(tb_t 406 (by decide +kernel) rfl), (tb_t 407 (by decide +kernel) rfl), (tb_t 408 (by decide +kernel) rfl), (tb_t 8 (by decide +kernel) rfl), (tb_t 409 (by decide +kernel) rfl), rfl, by decide, by decide, by decide +kernel⟩
theorem lkV_X9_181 : LkV RX9 181 RX2 yX2_countHeld cX2_countHeld 2 none 0 := ⟨(tb_t 410 (by decide +kernel) rfl), (tb_t 411 (by decide +kernel) rfl), (tb_t 412 (by decide +kernel) rfl), (tb_t 8 (by decide +kernel) rfl), (tb_t 413 (by decide +kernel) rfl), rfl, by decide, by decide, by decide +kernel⟩
theorem lkV_X9_184 : LkV RX9 184 RX2 yX2_takerOf cX2_takerOf 9 (some .int) 1 := ⟨(tb_t 415 (by decide +kernel) rfl), (tb_t 416 (by decide +kernel) rfl), (tb_t 417 (by decide +kernel) rfl), (tb_t 8 (by decide +kernel) rfl), (tb_t 418 (by decide +kernel) rfl), rfl, by decide, by decide, by decide +kernel⟩
theorem lkV_X9_191 : LkV RX9 191 RX2 yX2_goYears cX2_goYears 3 none 1 := ⟨(tb_t 427 (by decide +kernel) rfl), (tb_t 428 (by decide +kernel) rfl), (tb_t 429 (by decide +kernel) rfl), (tb_t 8 (by decide +kernel) rfl), (tb_t 430 (by decide +kernel) rfl), rfl, by decide, by decide, by decide +kernel⟩
theorem lkV_X9_194 : LkV RX9 194 RX2 yX2_doneOfAll cX2_doneOfAll 1 (some .int) 0 := ⟨(tb_t 456 (by decide +kernel) rfl), (tb_t 457 (by decide +kernel) rfl), (tb_t 458 (by decide +kernel) rfl), (tb_t 8 (by decide +kernel) rfl), (tb_t 459 (by decide +kernel) rfl), rfl, by decide, by decide, by decide +kernel⟩
theorem lkV_X9_197 : LkV RX9 197 RX2 yX2_madeOfAll cX2_madeOfAll 1 (some .int) 0 := ⟨(tb_t 463 (by decide +kernel) rfl), (tb_t 464 (by decide +kernel) rfl), (tb_t 465 (by decide +kernel) rfl), (tb_t 8 (by decide +kernel) rfl), (tb_t 466 (by decide +kernel) rfl), rfl, by decide, by decide, by decide +kernel⟩
theorem lkV_X9_207 : LkV RX9 207 RX2 yX2_goYear cX2_goYear 2 none 0 := ⟨(tb_t 491 (by decide +kernel) rfl), (tb_t 432 (by decide +kernel) rfl), (tb_t 433 (by decide +kernel) rfl), (tb_t 8 (by decide +kernel) rfl), (tb_t 434 (by decide +kernel) rfl), rfl, by decide, by decide, by decide +kernel⟩
theorem lkV_X9_213 : LkV RX9 213 RX2 yX2_isFinished cX2_isFinished 2 (some .boolean) 1 := ⟨(tb_t 490 (by decide +kernel) rfl), (tb_t 242 (by decide +kernel) rfl), (tb_t 243 (by decide +kernel) rfl), (tb_t 8 (by decide +kernel) rfl), (tb_t 244 (by decide +kernel) rfl), rfl, by decide, by decide, by decide +kernel⟩
theorem lkV_X9_83 : LkV RX9 83 RX9 yX9_found cX9_found 3 (some .int) 1 := ⟨(tb_t 222 (by decide +kernel) rfl), (tb_t 224 (by decide +kernel) rfl), (tb_in 0 (by decide +kernel) rfl), (tb_t 1 (by decide +kernel) rfl), (tb_t 225 (by decide +kernel) rfl), rfl, by decide, by decide, by decide +kernel⟩
theorem jk_X9_151 {l : Launch} {D : va_G} {ca : Nat → ClassId} {sd : Nat → Nat} {cc : ByteArray} {ret : Option FieldType} {R0 : Room} {k : Kx} {nL cells slots pc : Nat} {ws : va_W} {lv : List (Nat × Value)} {st : List Value} (C : Cx D ca sd cc RX9 ret R0 k nL) (nd : Nat → Nat) (p0 kk : Nat) (Q : Int32 → Prop) (hw : wpv_tires kk  Q) (hN : ∀ j, j < 6 → ws[p0 + j]? = some (nd (j + 1), .inr (ciK j, [.ref (sd (2 + j))]))) (hf : 3 ≤ R0.frames ∧ 80 ≤ R0.locals) (hc : cells ≤ R0.cells ∧ slots ≤ R0.slots) (hst : (st.map fun v => v.category).sum ≤ 8) (d : decode cc pc = .ok (.invokevirtual 151, 3)) : JR l D k nL cells slots pc ws lv ( .ref (nd (kk + 1)) :: st) st [] 0 0 (Ri D (fun (r : Int32) (_ : Unit) => Q r) (fun _ => [])) [.ref (nd (kk + 1))] := by
  match kk, hw with
  | 0, hw => exact jr_O C lkO_X9_151_X4 (c_X4_tires (nd 1) 4 (sd 2) rfl  hw) ⟨rfl, rfl, Nat.le_trans (by decide) hf.1, Nat.le_trans (by decide) hf.2, hc.1, hc.2⟩ [p0 + 0] (by simp [va_nd]) (by show [ws[p0 + 0]?] = _; rw [hN 0 (by decide)]; rfl) (fx_ro C) (p0 + 0) 4 (hN 0 (by decide)) rfl rfl rfl hst d
  | 1, hw => exact jr_O C lkO_X9_151_X0 (c_X0_tires (nd 2) 0 (sd 3) rfl  hw) ⟨rfl, rfl, Nat.le_trans (by decide) hf.1, Nat.le_trans (by decide) hf.2, hc.1, hc.2⟩ [p0 + 1] (by simp [va_nd]) (by show [ws[p0 + 1]?] = _; rw [hN 1 (by decide)]; rfl) (fx_ro C) (p0 + 1) 0 (hN 1 (by decide)) rfl rfl rfl hst d
  | 2, hw => exact jr_O C lkO_X9_151_X3 (c_X4_tires (nd 3) 3 (sd 4) rfl  hw) ⟨rfl, rfl, Nat.le_trans (by decide) hf.1, Nat.le_trans (by decide) hf.2, hc.1, hc.2⟩ [p0 + 2] (by simp [va_nd]) (by show [ws[p0 + 2]?] = _; rw [hN 2 (by decide)]; rfl) (fx_ro C) (p0 + 2) 3 (hN 2 (by decide)) rfl rfl rfl hst d
  | 3, hw => exact jr_O C lkO_X9_151_X6 (c_X6_tires (nd 4) 6 (sd 5) rfl  hw) ⟨rfl, rfl, Nat.le_trans (by decide) hf.1, Nat.le_trans (by decide) hf.2, hc.1, hc.2⟩ [p0 + 3] (by simp [va_nd]) (by show [ws[p0 + 3]?] = _; rw [hN 3 (by decide)]; rfl) (fx_ro C) (p0 + 3) 6 (hN 3 (by decide)) rfl rfl rfl hst d
  | 4, hw => exact jr_O C lkO_X9_151_X1 (c_X0_tires (nd 5) 1 (sd 6) rfl  hw) ⟨rfl, rfl, Nat.le_trans (by decide) hf.1, Nat.le_trans (by decide) hf.2, hc.1, hc.2⟩ [p0 + 4] (by simp [va_nd]) (by show [ws[p0 + 4]?] = _; rw [hN 4 (by decide)]; rfl) (fx_ro C) (p0 + 4) 1 (hN 4 (by decide)) rfl rfl rfl hst d
  | 5, hw => exact jr_O C lkO_X9_151_X5 (c_X5_tires (nd 6) 5 (sd 7) rfl  hw) ⟨rfl, rfl, Nat.le_trans (by decide) hf.1, Nat.le_trans (by decide) hf.2, hc.1, hc.2⟩ [p0 + 5] (by simp [va_nd]) (by show [ws[p0 + 5]?] = _; rw [hN 5 (by decide)]; rfl) (fx_ro C) (p0 + 5) 5 (hN 5 (by decide)) rfl rfl rfl hst d
  | n + 6, hw => exact hw.elim
theorem jk_X9_154 {l : Launch} {D : va_G} {ca : Nat → ClassId} {sd : Nat → Nat} {cc : ByteArray} {ret : Option FieldType} {R0 : Room} {k : Kx} {nL cells slots pc : Nat} {ws : va_W} {lv : List (Nat × Value)} {st : List Value} (C : Cx D ca sd cc RX9 ret R0 k nL) (nd : Nat → Nat) (p0 kk : Nat) (a1 a2 : Int32) (Q : Int32 → Prop) (hw : wpv_asked kk a1 a2 Q) (hN : ∀ j, j < 6 → ws[p0 + j]? = some (nd (j + 1), .inr (ciK j, [.ref (sd (2 + j))]))) (hf : 3 ≤ R0.frames ∧ 80 ≤ R0.locals) (hc : cells ≤ R0.cells ∧ slots ≤ R0.slots) (hst : (st.map fun v => v.category).sum ≤ 8) (d : decode cc pc = .ok (.invokevirtual 154, 3)) : JR l D k nL cells slots pc ws lv (.int a2 :: .int a1 :: .ref (nd (kk + 1)) :: st) st [] 0 0 (Ri D (fun (r : Int32) (_ : Unit) => Q r) (fun _ => [])) [.ref (nd (kk + 1)), .int a1, .int a2] := by
  match kk, hw with
  | 0, hw => exact jr_O C lkO_X9_154_X4 (c_X4_asked (nd 1) 4 (sd 2) rfl a1 a2 hw) ⟨rfl, rfl, Nat.le_trans (by decide) hf.1, Nat.le_trans (by decide) hf.2, hc.1, hc.2⟩ [p0 + 0] (by simp [va_nd]) (by show [ws[p0 + 0]?] = _; rw [hN 0 (by decide)]; rfl) (fx_ro C) (p0 + 0) 4 (hN 0 (by decide)) rfl rfl rfl hst d
  | 1, hw => exact jr_O C lkO_X9_154_X0 (c_X0_asked (nd 2) 0 (sd 3) rfl a1 a2 hw) ⟨rfl, rfl, Nat.le_trans (by decide) hf.1, Nat.le_trans (by decide) hf.2, hc.1, hc.2⟩ [p0 + 1] (by simp [va_nd]) (by show [ws[p0 + 1]?] = _; rw [hN 1 (by decide)]; rfl) (fx_ro C) (p0 + 1) 0 (hN 1 (by decide)) rfl rfl rfl hst d
  | 2, hw => exact jr_O C lkO_X9_154_X3 (c_X4_asked (nd 3) 3 (sd 4) rfl a1 a2 hw) ⟨rfl, rfl, Nat.le_trans (by decide) hf.1, Nat.le_trans (by decide) hf.2, hc.1, hc.2⟩ [p0 + 2] (by simp [va_nd]) (by show [ws[p0 + 2]?] = _; rw [hN 2 (by decide)]; rfl) (fx_ro C) (p0 + 2) 3 (hN 2 (by decide)) rfl rfl rfl hst d
  | 3, hw => exact jr_O C lkO_X9_154_X6 (c_X6_asked (nd 4) 6 (sd 5) rfl a1 a2 hw) ⟨rfl, rfl, Nat.le_trans (by decide) hf.1, Nat.le_trans (by decide) hf.2, hc.1, hc.2⟩ [p0 + 3] (by simp [va_nd]) (by show [ws[p0 + 3]?] = _; rw [hN 3 (by decide)]; rfl) (fx_ro C) (p0 + 3) 6 (hN 3 (by decide)) rfl rfl rfl hst d
  | 4, hw => exact jr_O C lkO_X9_154_X1 (c_X0_asked (nd 5) 1 (sd 6) rfl a1 a2 hw) ⟨rfl, rfl, Nat.le_trans (by decide) hf.1, Nat.le_trans (by decide) hf.2, hc.1, hc.2⟩ [p0 + 4] (by simp [va_nd]) (by show [ws[p0 + 4]?] = _; rw [hN 4 (by decide)]; rfl) (fx_ro C) (p0 + 4) 1 (hN 4 (by decide)) rfl rfl rfl hst d
  | 5, hw => exact jr_O C lkO_X9_154_X5 (c_X5_asked (nd 6) 5 (sd 7) rfl a1 a2 hw) ⟨rfl, rfl, Nat.le_trans (by decide) hf.1, Nat.le_trans (by decide) hf.2, hc.1, hc.2⟩ [p0 + 5] (by simp [va_nd]) (by show [ws[p0 + 5]?] = _; rw [hN 5 (by decide)]; rfl) (fx_ro C) (p0 + 5) 5 (hN 5 (by decide)) rfl rfl rfl hst d
  | n + 6, hw => exact hw.elim
theorem jk_X9_158 {l : Launch} {D : va_G} {ca : Nat → ClassId} {sd : Nat → Nat} {cc : ByteArray} {ret : Option FieldType} {R0 : Room} {k : Kx} {nL cells slots pc : Nat} {ws : va_W} {lv : List (Nat × Value)} {st : List Value} (C : Cx D ca sd cc RX9 ret R0 k nL) (nd : Nat → Nat) (p0 kk : Nat) (a1 a2 a3 : Int32) (Q : Int32 → Prop) (hw : wpv_goesOn kk a1 a2 a3 Q) (hN : ∀ j, j < 6 → ws[p0 + j]? = some (nd (j + 1), .inr (ciK j, [.ref (sd (2 + j))]))) (hf : 3 ≤ R0.frames ∧ 80 ≤ R0.locals) (hc : cells ≤ R0.cells ∧ slots ≤ R0.slots) (hst : (st.map fun v => v.category).sum ≤ 8) (d : decode cc pc = .ok (.invokevirtual 158, 3)) : JR l D k nL cells slots pc ws lv (.int a3 :: .int a2 :: .int a1 :: .ref (nd (kk + 1)) :: st) st [] 0 0 (Ri D (fun (r : Int32) (_ : Unit) => Q r) (fun _ => [])) [.ref (nd (kk + 1)), .int a1, .int a2, .int a3] := by
  match kk, hw with
  | 0, hw => exact jr_O C lkO_X9_158_X4 (c_X4_goesOn (nd 1) 4 (sd 2) rfl a1 a2 a3 hw) ⟨rfl, rfl, Nat.le_trans (by decide) hf.1, Nat.le_trans (by decide) hf.2, hc.1, hc.2⟩ [p0 + 0] (by simp [va_nd]) (by show [ws[p0 + 0]?] = _; rw [hN 0 (by decide)]; rfl) (fx_ro C) (p0 + 0) 4 (hN 0 (by decide)) rfl rfl rfl hst d
  | 1, hw => exact jr_O C lkO_X9_158_X0 (c_X0_goesOn (nd 2) 0 (sd 3) rfl a1 a2 a3 hw) ⟨rfl, rfl, Nat.le_trans (by decide) hf.1, Nat.le_trans (by decide) hf.2, hc.1, hc.2⟩ [p0 + 1] (by simp [va_nd]) (by show [ws[p0 + 1]?] = _; rw [hN 1 (by decide)]; rfl) (fx_ro C) (p0 + 1) 0 (hN 1 (by decide)) rfl rfl rfl hst d
  | 2, hw => exact jr_O C lkO_X9_158_X3 (c_X3_goesOn (nd 3) 3 (sd 4) rfl a1 a2 a3 hw) ⟨rfl, rfl, Nat.le_trans (by decide) hf.1, Nat.le_trans (by decide) hf.2, hc.1, hc.2⟩ [p0 + 2] (by simp [va_nd]) (by show [ws[p0 + 2]?] = _; rw [hN 2 (by decide)]; rfl) (fx_ro C) (p0 + 2) 3 (hN 2 (by decide)) rfl rfl rfl hst d
  | 3, hw => exact jr_O C lkO_X9_158_X6 (c_X6_goesOn (nd 4) 6 (sd 5) rfl a1 a2 a3 hw) ⟨rfl, rfl, Nat.le_trans (by decide) hf.1, Nat.le_trans (by decide) hf.2, hc.1, hc.2⟩ [p0 + 3] (by simp [va_nd]) (by show [ws[p0 + 3]?] = _; rw [hN 3 (by decide)]; rfl) (fx_ro C) (p0 + 3) 6 (hN 3 (by decide)) rfl rfl rfl hst d
  | 4, hw => exact jr_O C lkO_X9_158_X1 (c_X1_goesOn (nd 5) 1 (sd 6) rfl a1 a2 a3 hw) ⟨rfl, rfl, Nat.le_trans (by decide) hf.1, Nat.le_trans (by decide) hf.2, hc.1, hc.2⟩ [p0 + 4] (by simp [va_nd]) (by show [ws[p0 + 4]?] = _; rw [hN 4 (by decide)]; rfl) (fx_ro C) (p0 + 4) 1 (hN 4 (by decide)) rfl rfl rfl hst d
  | 5, hw => exact jr_O C lkO_X9_158_X5 (c_X5_goesOn (nd 6) 5 (sd 7) rfl a1 a2 a3 hw) ⟨rfl, rfl, Nat.le_trans (by decide) hf.1, Nat.le_trans (by decide) hf.2, hc.1, hc.2⟩ [p0 + 5] (by simp [va_nd]) (by show [ws[p0 + 5]?] = _; rw [hN 5 (by decide)]; rfl) (fx_ro C) (p0 + 5) 5 (hN 5 (by decide)) rfl rfl rfl hst d
  | n + 6, hw => exact hw.elim
theorem jk_X9_162 {l : Launch} {D : va_G} {ca : Nat → ClassId} {sd : Nat → Nat} {cc : ByteArray} {ret : Option FieldType} {R0 : Room} {k : Kx} {nL cells slots pc : Nat} {ws : va_W} {lv : List (Nat × Value)} {st : List Value} (C : Cx D ca sd cc RX9 ret R0 k nL) (nd : Nat → Nat) (p0 kk : Nat) (a1 a2 a3 : Int32) (Q : Int32 → Prop) (hw : wpv_bid kk a1 a2 a3 Q) (hN : ∀ j, j < 6 → ws[p0 + j]? = some (nd (j + 1), .inr (ciK j, [.ref (sd (2 + j))]))) (hf : 3 ≤ R0.frames ∧ 80 ≤ R0.locals) (hc : cells ≤ R0.cells ∧ slots ≤ R0.slots) (hst : (st.map fun v => v.category).sum ≤ 8) (d : decode cc pc = .ok (.invokevirtual 162, 3)) : JR l D k nL cells slots pc ws lv (.int a3 :: .int a2 :: .int a1 :: .ref (nd (kk + 1)) :: st) st [] 0 0 (Ri D (fun (r : Int32) (_ : Unit) => Q r) (fun _ => [])) [.ref (nd (kk + 1)), .int a1, .int a2, .int a3] := by
  match kk, hw with
  | 0, hw => exact jr_O C lkO_X9_162_X4 (c_X4_bid (nd 1) 4 (sd 2) rfl a1 a2 a3 hw) ⟨rfl, rfl, Nat.le_trans (by decide) hf.1, Nat.le_trans (by decide) hf.2, hc.1, hc.2⟩ [p0 + 0] (by simp [va_nd]) (by show [ws[p0 + 0]?] = _; rw [hN 0 (by decide)]; rfl) (fx_ro C) (p0 + 0) 4 (hN 0 (by decide)) rfl rfl rfl hst d
  | 1, hw => exact jr_O C lkO_X9_162_X0 (c_X0_bid (nd 2) 0 (sd 3) rfl a1 a2 a3 hw) ⟨rfl, rfl, Nat.le_trans (by decide) hf.1, Nat.le_trans (by decide) hf.2, hc.1, hc.2⟩ [p0 + 1] (by simp [va_nd]) (by show [ws[p0 + 1]?] = _; rw [hN 1 (by decide)]; rfl) (fx_ro C) (p0 + 1) 0 (hN 1 (by decide)) rfl rfl rfl hst d
  | 2, hw => exact jr_O C lkO_X9_162_X3 (c_X3_bid (nd 3) 3 (sd 4) rfl a1 a2 a3 hw) ⟨rfl, rfl, Nat.le_trans (by decide) hf.1, Nat.le_trans (by decide) hf.2, hc.1, hc.2⟩ [p0 + 2] (by simp [va_nd]) (by show [ws[p0 + 2]?] = _; rw [hN 2 (by decide)]; rfl) (fx_ro C) (p0 + 2) 3 (hN 2 (by decide)) rfl rfl rfl hst d
  | 3, hw => exact jr_O C lkO_X9_162_X6 (c_X6_bid (nd 4) 6 (sd 5) rfl a1 a2 a3 hw) ⟨rfl, rfl, Nat.le_trans (by decide) hf.1, Nat.le_trans (by decide) hf.2, hc.1, hc.2⟩ [p0 + 3] (by simp [va_nd]) (by show [ws[p0 + 3]?] = _; rw [hN 3 (by decide)]; rfl) (fx_ro C) (p0 + 3) 6 (hN 3 (by decide)) rfl rfl rfl hst d
  | 4, hw => exact jr_O C lkO_X9_162_X1 (c_X1_bid (nd 5) 1 (sd 6) rfl a1 a2 a3 hw) ⟨rfl, rfl, Nat.le_trans (by decide) hf.1, Nat.le_trans (by decide) hf.2, hc.1, hc.2⟩ [p0 + 4] (by simp [va_nd]) (by show [ws[p0 + 4]?] = _; rw [hN 4 (by decide)]; rfl) (fx_ro C) (p0 + 4) 1 (hN 4 (by decide)) rfl rfl rfl hst d
  | 5, hw => exact jr_O C lkO_X9_162_X5 (c_X3_bid (nd 6) 5 (sd 7) rfl a1 a2 a3 hw) ⟨rfl, rfl, Nat.le_trans (by decide) hf.1, Nat.le_trans (by decide) hf.2, hc.1, hc.2⟩ [p0 + 5] (by simp [va_nd]) (by show [ws[p0 + 5]?] = _; rw [hN 5 (by decide)]; rfl) (fx_ro C) (p0 + 5) 5 (hN 5 (by decide)) rfl rfl rfl hst d
  | n + 6, hw => exact hw.elim
def wp_X9_found (fd : Nat → Int32)  (a1 : Int32) (Q : (Int32) → (Nat → Int32) → Prop) : Prop := wp_X9_isWithin ((-1000000001) - a1) 0 6 (fun r1 => (r1 = 0 → Q a1 fd) ∧ (¬ (r1 = 0) → vp_in ((-1000000001) - a1) 7 ∧ (vp_in ((-1000000001) - a1) 7 ∧ (Q a1 (upd fd (((-1000000001) - a1).toNatClampNeg) ((fd (((-1000000001) - a1).toNatClampNeg)) + 1))))))
set_option maxRecDepth 100000 in
set_option maxHeartbeats 8000000 in
theorem c_X9_found {l : Launch} {D : va_G} {ca : Nat → ClassId} {sd : Nat → Nat}  (aF : Nat → Nat) (aL : Nat → Nat) (aT : Nat → Nat) (aK : Nat → Nat) (nd : Nat → Nat) (tp : Nat → Nat) (fd : Nat → Int32) (ik : Int32)  (a1 : Int32)  {Q : (Int32) → (Nat → Int32) → Prop} (hw : wp_X9_found fd  a1 Q) : Cn l D ca sd yX9_found cX9_found 3 (some .int) { frames := 1, cells := 0, slots := 0, locals := 22 } [.ref (aF 0), .int a1] ((wD ca (aF 2) fd) ++ (wF (aF 0) (aL 0) (aT 0) (aK 0) (tp 0) (aF 1) (aF 2) ik)) ((wD ca (aF 2) fd) ++ (wF (aF 0) (aL 0) (aT 0) (aK 0) (tp 0) (aF 1) (aF 2) ik)) 0 0 (Ri D (fun (r : Int32) (u : (Nat → Int32)) => Q r u) (fun u => ((wD ca (aF 2) u) ++ (wF (aF 0) (aL 0) (aT 0) (aK 0) (tp 0) (aF 1) (aF 2) ik)))) := by
  refine cn_of (by decide) (Nat.le_of_ble_eq_true rfl) (fun k C hR hB _ => ?_)
  have C : Cx D ca sd cX9_found RX9 (some .int) { frames := 1, cells := 0, slots := 0, locals := 22 } k 3 := C
  unfold wp_X9_found at hw
  show J l D k 3 0 0 0 ((wD ca (aF 2) fd) ++ (wF (aF 0) (aL 0) (aT 0) (aK 0) (tp 0) (aF 1) (aF 2) ik)) [(0, .ref (aF 0)), (1, .int a1)] []
  refine j_ldc C dX9_found_0 ct_X9_82 ?_
  refine j_iload_n C 1 dX9_found_2 rfl ?_
  refine j_isub C dX9_found_3 ?_
  refine j_istore_n C [(2, .int ((-1000000001) - a1)), (0, .ref (aF 0)), (1, .int a1)] dX9_found_4 (by decide) rfl ?_
  refine j_iload_n C 0 dX9_found_5 rfl ?_
  refine j_iconst C 0 dX9_found_6 (by decide) ?_
  refine j_bipush C 6 dX9_found_7 (by decide) ?_
  refine j_ciZ C (jr_S C lkS_X9_87 (c_X9_isWithin ((-1000000001) - a1) 0 6 hw) ⟨rfl, rfl, by decide, by decide, by decide, by decide⟩ [] (by decide) rfl (fx_ro C) rfl rfl (Nat.le_of_ble_eq_true rfl) dX9_found_9) (fun r1 u1 hw => ?_)
  refine j_if_eq C 25 dX9_found_12 (by decide) (fun z => ?_) (fun z => ?_)
  · replace hw := hw.1 z
    refine j_iload_n C 2 dX9_found_25 rfl ?_
    exact j_iret C hB hR fd rfl dX9_found_26 hw rfl
  · replace hw := hw.2 z
    refine j_aload_n C 1 dX9_found_15 rfl ?_
    refine j_get C fl_X9_74_9 1 dX9_found_16 rfl rfl ?_
    refine j_iload_n C 0 dX9_found_19 rfl ?_
    refine j_dup2 C dX9_found_20 rfl rfl ?_
    have hi2 := hw.1
    replace hw := hw.2
    refine j_iald C 0 dX9_found_21 rfl hi2 ?_
    refine j_iconst C 1 dX9_found_22 (by decide) ?_
    refine j_iadd C dX9_found_23 ?_
    have hi3 := hw.1
    replace hw := hw.2
    refine j_iast C hB 0 ((wD ca (aF 2) (upd fd (((-1000000001) - a1).toNatClampNeg) ((fd (((-1000000001) - a1).toNatClampNeg)) + 1))) ++ (wF (aF 0) (aL 0) (aT 0) (aK 0) (tp 0) (aF 1) (aF 2) ik)) dX9_found_24 rfl hi3 rfl ?_
    refine j_iload_n C 2 dX9_found_25 rfl ?_
    exact j_iret C hB hR (upd fd (((-1000000001) - a1).toNatClampNeg) ((fd (((-1000000001) - a1).toNatClampNeg)) + 1)) rfl dX9_found_26 hw rfl
def wp_X9_isThing (lsz : Int32)  (a1 : Int32) (Q : (Int32) → Prop) : Prop := wp_X9_isWithin a1 0 (lsz - 1) (fun r1 => (narrow .boolean (.int r1) = .int r1) ∧ Q r1)
set_option maxRecDepth 100000 in
set_option maxHeartbeats 8000000 in
theorem c_X9_isThing {l : Launch} {D : va_G} {ca : Nat → ClassId} {sd : Nat → Nat}  (aF : Nat → Nat) (aL : Nat → Nat) (aT : Nat → Nat) (aK : Nat → Nat) (nd : Nat → Nat) (tp : Nat → Nat) (ik : Int32) (lsk : Nat → Int32) (lze : Nat → Int32) (lma : Nat → Int32) (lki : Nat → Int32) (ldn : Nat → Int32) (lwi : Nat → Int32) (ldu : Nat → Int32) (lhe : Nat → Int32) (lyr : Int32) (lsz : Int32)  (a1 : Int32)  {Q : (Int32) → Prop} (hw : wp_X9_isThing lsz  a1 Q) : Cn l D ca sd yX9_isThing cX9_isThing 2 (some .boolean) { frames := 1, cells := 0, slots := 0, locals := 22 } [.ref (aF 0), .int a1] ((wF (aF 0) (aL 0) (aT 0) (aK 0) (tp 0) (aF 1) (aF 2) ik) ++ (wC ca aL (nd 0) lsk lze lma lki ldn lwi ldu lhe lyr lsz)) [] 0 0 (Ri D (fun (r : Int32) (u : Unit) => Q r ) (fun _ => [])) := by
  refine cn_ofR (by decide) (Nat.le_of_ble_eq_true rfl) (fun k C hR => ?_)
  have C : Cx D ca sd cX9_isThing RX9 (some .boolean) { frames := 1, cells := 0, slots := 0, locals := 22 } k 2 := C
  unfold wp_X9_isThing at hw
  show J l D k 2 0 0 0 ((wF (aF 0) (aL 0) (aT 0) (aK 0) (tp 0) (aF 1) (aF 2) ik) ++ (wC ca aL (nd 0) lsk lze lma lki ldn lwi ldu lhe lyr lsz)) [(0, .ref (aF 0)), (1, .int a1)] []
  refine j_iload_n C 1 dX9_isThing_0 rfl ?_
  refine j_iconst C 0 dX9_isThing_1 (by decide) ?_
  refine j_aload_n C 0 dX9_isThing_2 rfl ?_
  refine j_get C fl_X9_44_9 0 dX9_isThing_3 rfl rfl ?_
  refine j_get C fl_X9_124_2 1 dX9_isThing_6 rfl rfl ?_
  refine j_iconst C 1 dX9_isThing_9 (by decide) ?_
  refine j_isub C dX9_isThing_10 ?_
  refine j_ciZ C (jr_S C lkS_X9_87 (c_X9_isWithin a1 0 (lsz - 1) hw) ⟨rfl, rfl, by decide, by decide, by decide, by decide⟩ [] (by decide) rfl (fx_ro C) rfl rfl (Nat.le_of_ble_eq_true rfl) dX9_isThing_11) (fun r1 u1 hw => ?_)
  exact j_zretR C hR hw.1 () rfl dX9_isThing_14 hw.2
def wpl_X9_trialYearsToFinish_2 (tsk : Nat → Int32) (tki : Nat → Int32) (tsz : Int32) (x1 : Int32) (x2 : Int32) (Q : (Int32) → (Nat → Int32) → (Nat → Int32) → (Nat → Int32) → (Nat → Int32) → (Nat → Int32) → (Nat → Int32) → (Int32) → Prop) (K : (Int32) → (Nat → Int32) → (Nat → Int32) → (Nat → Int32) → (Nat → Int32) → (Nat → Int32) → (Nat → Int32) → (Int32) → Prop) : Nat → (Int32) → (Nat → Int32) → (Nat → Int32) → (Nat → Int32) → (Nat → Int32) → (Nat → Int32) → (Nat → Int32) → (Int32) → Prop
  | 0, _, _, _, _, _, _, _, _ => False
  | n + 1, x3, tze, tma, tdn, twi, tdu, the, tyr => (x2 < x3 → K x3 tze tma tdn twi tdu the tyr) ∧ (¬ (x2 < x3) → wp_X2_isFinished tdn x1 (fun r1 => (r1 = 0 → wp_X2_goYear tsk tze tma tki tdn twi tdu the tyr tsz (fun c2_0 c2_1 c2_2 c2_3 c2_4 c2_5 c2_6 => wpl_X9_trialYearsToFinish_2 tsk tki tsz x1 x2 Q K n (x3 + 1) c2_0 c2_1 c2_2 c2_3 c2_4 c2_5 c2_6)) ∧ (¬ (r1 = 0) → Q x3 tze tma tdn twi tdu the tyr)))
def wp_X9_trialYearsToFinish (tsk : Nat → Int32) (tze : Nat → Int32) (tma : Nat → Int32) (tki : Nat → Int32) (tdn : Nat → Int32) (twi : Nat → Int32) (tdu : Nat → Int32) (the : Nat → Int32) (tyr : Int32) (tsz : Int32)  (a1 : Int32) (a2 : Int32) (Q : (Int32) → (Nat → Int32) → (Nat → Int32) → (Nat → Int32) → (Nat → Int32) → (Nat → Int32) → (Nat → Int32) → (Int32) → Prop) : Prop := ∃ n3 : Nat, wpl_X9_trialYearsToFinish_2 tsk tki tsz a1 a2 Q (fun y3_3 y3_tze y3_tma y3_tdn y3_twi y3_tdu y3_the y3_tyr => Q (-1) y3_tze y3_tma y3_tdn y3_twi y3_tdu y3_the y3_tyr) n3 0 tze tma tdn twi tdu the tyr
set_option maxRecDepth 100000 in
set_option maxHeartbeats 8000000 in
theorem ml_X9_trialYearsToFinish_2 {l : Launch} {D : va_G} {ca : Nat → ClassId} {sd : Nat → Nat}  {k : Kx} (aF : Nat → Nat) (aL : Nat → Nat) (aT : Nat → Nat) (aK : Nat → Nat) (nd : Nat → Nat) (tp : Nat → Nat)  (ik : Int32) (tsk : Nat → Int32) (tki : Nat → Int32) (tsz : Int32) (x1 : Int32) (x2 : Int32) (C : Cx D ca sd cX9_trialYearsToFinish RX9 (some .int) { frames := 7, cells := 0, slots := 0, locals := 181 } k 4) {Q : (Int32) → (Nat → Int32) → (Nat → Int32) → (Nat → Int32) → (Nat → Int32) → (Nat → Int32) → (Nat → Int32) → (Int32) → Prop} (hR : Rx (Ri D (fun (r : Int32) (u : (Nat → Int32) × (Nat → Int32) × (Nat → Int32) × (Nat → Int32) × (Nat → Int32) × (Nat → Int32) × (Int32)) => Q r u.1 u.2.1 u.2.2.1 u.2.2.2.1 u.2.2.2.2.1 u.2.2.2.2.2.1 u.2.2.2.2.2.2) (fun u => ((wF (aF 0) (aL 0) (aT 0) (aK 0) (tp 0) (aF 1) (aF 2) ik) ++ ((wN ca nd sd) ++ (wC ca aT (nd 0) tsk u.1 u.2.1 tki u.2.2.1 u.2.2.2.1 u.2.2.2.2.1 u.2.2.2.2.2.1 u.2.2.2.2.2.2 tsz))))) 0 0 k) (hB : Wx k) {K : (Int32) → (Nat → Int32) → (Nat → Int32) → (Nat → Int32) → (Nat → Int32) → (Nat → Int32) → (Nat → Int32) → (Int32) → Prop} (hK : ∀ (x3' : Int32) (tze' : Nat → Int32) (tma' : Nat → Int32) (tdn' : Nat → Int32) (twi' : Nat → Int32) (tdu' : Nat → Int32) (the' : Nat → Int32) (tyr' : Int32), K x3' tze' tma' tdn' twi' tdu' the' tyr' → J l D k 4 0 0 33 ((wF (aF 0) (aL 0) (aT 0) (aK 0) (tp 0) (aF 1) (aF 2) ik) ++ ((wN ca nd sd) ++ (wC ca aT (nd 0) tsk tze' tma' tki tdn' twi' tdu' the' tyr' tsz))) [(0, .ref (aF 0)), (1, .int x1), (2, .int x2), (3, .int x3')] []) : ∀ (n : Nat) (x3 : Int32) (tze : Nat → Int32) (tma : Nat → Int32) (tdn : Nat → Int32) (twi : Nat → Int32) (tdu : Nat → Int32) (the : Nat → Int32) (tyr : Int32), wpl_X9_trialYearsToFinish_2 tsk tki tsz x1 x2 Q K n x3 tze tma tdn twi tdu the tyr → J l D k 4 0 0 2 ((wF (aF 0) (aL 0) (aT 0) (aK 0) (tp 0) (aF 1) (aF 2) ik) ++ ((wN ca nd sd) ++ (wC ca aT (nd 0) tsk tze tma tki tdn twi tdu the tyr tsz))) [(0, .ref (aF 0)), (1, .int x1), (2, .int x2), (3, .int x3)] [] := by
  intro n
  induction n with
  | zero =>
    intro x3 tze tma tdn twi tdu the tyr hw
    rw [wpl_X9_trialYearsToFinish_2] at hw
    exact hw.elim
  | succ n ih =>
    intro x3 tze tma tdn twi tdu the tyr hw
    rw [wpl_X9_trialYearsToFinish_2] at hw
    refine j_iload_n C 3 dX9_trialYearsToFinish_2 rfl ?_
    refine j_iload_n C 2 dX9_trialYearsToFinish_3 rfl ?_
    refine j_icmp_gt C 33 dX9_trialYearsToFinish_4 (by decide) (fun z => ?_) (fun z => ?_)
    · replace hw := hw.1 z
      exact hK x3 tze tma tdn twi tdu the tyr hw
    · replace hw := hw.2 z
      refine j_aload_n C 0 dX9_trialYearsToFinish_7 rfl ?_
      refine j_get C fl_X9_50_9 0 dX9_trialYearsToFinish_8 rfl rfl ?_
      refine j_iload_n C 1 dX9_trialYearsToFinish_11 rfl ?_
      refine j_ciZ C (jr_V C lkV_X9_213 (c_X2_isFinished aT (nd 0) tsk tze tma tki tdn twi tdu the tyr tsz x1 hw) ⟨rfl, rfl, by decide, by decide, by decide, by decide⟩ [8, 9, 10, 11, 12, 13, 14, 15, 16] (by decide) rfl (fx_ro C) 8 2 rfl rfl rfl rfl (Nat.le_of_ble_eq_true rfl) dX9_trialYearsToFinish_12) (fun r1 u1 hw => ?_)
      refine j_if_eq C 20 dX9_trialYearsToFinish_15 (by decide) (fun z => ?_) (fun z => ?_)
      · replace hw := hw.1 z
        refine j_aload_n C 0 dX9_trialYearsToFinish_20 rfl ?_
        refine j_get C fl_X9_50_9 0 dX9_trialYearsToFinish_21 rfl rfl ?_
        refine j_cvT C hB 1 17 (fun u2 : (Nat → Int32) × (Nat → Int32) × (Nat → Int32) × (Nat → Int32) × (Nat → Int32) × (Nat → Int32) × (Int32) => ((wF (aF 0) (aL 0) (aT 0) (aK 0) (tp 0) (aF 1) (aF 2) ik) ++ ((wN ca nd sd) ++ (wC ca aT (nd 0) tsk u2.1 u2.2.1 tki u2.2.2.1 u2.2.2.2.1 u2.2.2.2.2.1 u2.2.2.2.2.2.1 u2.2.2.2.2.2.2 tsz)))) rfl (fun _ => rfl) (jr_V C lkV_X9_207 (c_X2_goYear nd aT tsk tze tma tki tdn twi tdu the tyr tsz hw) ⟨rfl, rfl, by decide, by decide, by decide, by decide⟩ [1, 2, 3, 4, 5, 6, 7, 8, 9, 10, 11, 12, 13, 14, 15, 16] rfl rfl (fx_rw C hB [1, 2, 3, 4, 5, 6, 7, 8, 9, 10, 11, 12, 13, 14, 15, 16] rfl) 8 2 rfl rfl rfl rfl (Nat.le_of_ble_eq_true rfl) dX9_trialYearsToFinish_24) (fun u2 hw => ?_)
        refine j_iinc C 3 (x3 + 1) [(3, .int (x3 + 1)), (0, .ref (aF 0)), (1, .int x1), (2, .int x2)] dX9_trialYearsToFinish_27 rfl rfl (by decide) rfl ?_
        refine j_goto C 2 dX9_trialYearsToFinish_30 (by decide) ?_
        refine j_lsub [1, 2, 3, 0] [(0, .ref (aF 0)), (1, .int x1), (2, .int x2), (3, .int (x3 + 1))] rfl ?_
        exact ih (x3 + 1) u2.1 u2.2.1 u2.2.2.1 u2.2.2.2.1 u2.2.2.2.2.1 u2.2.2.2.2.2.1 u2.2.2.2.2.2.2 hw
      · replace hw := hw.2 z
        refine j_iload_n C 3 dX9_trialYearsToFinish_18 rfl ?_
        exact j_iret C hB hR (tze, tma, tdn, twi, tdu, the, tyr) rfl dX9_trialYearsToFinish_19 hw rfl
set_option maxRecDepth 100000 in
set_option maxHeartbeats 8000000 in
theorem c_X9_trialYearsToFinish {l : Launch} {D : va_G} {ca : Nat → ClassId} {sd : Nat → Nat}  (aF : Nat → Nat) (aL : Nat → Nat) (aT : Nat → Nat) (aK : Nat → Nat) (nd : Nat → Nat) (tp : Nat → Nat) (ik : Int32) (tsk : Nat → Int32) (tze : Nat → Int32) (tma : Nat → Int32) (tki : Nat → Int32) (tdn : Nat → Int32) (twi : Nat → Int32) (tdu : Nat → Int32) (the : Nat → Int32) (tyr : Int32) (tsz : Int32)  (a1 : Int32) (a2 : Int32)  {Q : (Int32) → (Nat → Int32) → (Nat → Int32) → (Nat → Int32) → (Nat → Int32) → (Nat → Int32) → (Nat → Int32) → (Int32) → Prop} (hw : wp_X9_trialYearsToFinish tsk tze tma tki tdn twi tdu the tyr tsz  a1 a2 Q) : Cn l D ca sd yX9_trialYearsToFinish cX9_trialYearsToFinish 4 (some .int) { frames := 7, cells := 0, slots := 0, locals := 181 } [.ref (aF 0), .int a1, .int a2] ((wF (aF 0) (aL 0) (aT 0) (aK 0) (tp 0) (aF 1) (aF 2) ik) ++ ((wN ca nd sd) ++ (wC ca aT (nd 0) tsk tze tma tki tdn twi tdu the tyr tsz))) ((wF (aF 0) (aL 0) (aT 0) (aK 0) (tp 0) (aF 1) (aF 2) ik) ++ ((wN ca nd sd) ++ (wC ca aT (nd 0) tsk tze tma tki tdn twi tdu the tyr tsz))) 0 0 (Ri D (fun (r : Int32) (u : (Nat → Int32) × (Nat → Int32) × (Nat → Int32) × (Nat → Int32) × (Nat → Int32) × (Nat → Int32) × (Int32)) => Q r u.1 u.2.1 u.2.2.1 u.2.2.2.1 u.2.2.2.2.1 u.2.2.2.2.2.1 u.2.2.2.2.2.2) (fun u => ((wF (aF 0) (aL 0) (aT 0) (aK 0) (tp 0) (aF 1) (aF 2) ik) ++ ((wN ca nd sd) ++ (wC ca aT (nd 0) tsk u.1 u.2.1 tki u.2.2.1 u.2.2.2.1 u.2.2.2.2.1 u.2.2.2.2.2.1 u.2.2.2.2.2.2 tsz))))) := by
  refine cn_of (by decide) (Nat.le_of_ble_eq_true rfl) (fun k C hR hB _ => ?_)
  have C : Cx D ca sd cX9_trialYearsToFinish RX9 (some .int) { frames := 7, cells := 0, slots := 0, locals := 181 } k 4 := C
  unfold wp_X9_trialYearsToFinish at hw
  show J l D k 4 0 0 0 ((wF (aF 0) (aL 0) (aT 0) (aK 0) (tp 0) (aF 1) (aF 2) ik) ++ ((wN ca nd sd) ++ (wC ca aT (nd 0) tsk tze tma tki tdn twi tdu the tyr tsz))) [(0, .ref (aF 0)), (1, .int a1), (2, .int a2)] []
  refine j_iconst C 0 dX9_trialYearsToFinish_0 (by decide) ?_
  refine j_istore_n C [(3, .int 0), (0, .ref (aF 0)), (1, .int a1), (2, .int a2)] dX9_trialYearsToFinish_1 (by decide) rfl ?_
  refine j_lsub [1, 2, 3, 0] [(0, .ref (aF 0)), (1, .int a1), (2, .int a2), (3, .int 0)] rfl ?_
  obtain ⟨n3, hw⟩ := hw
  refine ml_X9_trialYearsToFinish_2 aF aL aT aK nd tp  ik tsk tki tsz a1 a2 C hR hB (fun y3_3 y3_tze y3_tma y3_tdn y3_twi y3_tdu y3_the y3_tyr hw => ?_) n3 0 tze tma tdn twi tdu the tyr hw
  refine j_iconst C (-1) dX9_trialYearsToFinish_33 (by decide) ?_
  exact j_iret C hB hR (y3_tze, y3_tma, y3_tdn, y3_twi, y3_tdu, y3_the, y3_tyr) rfl dX9_trialYearsToFinish_34 hw rfl
def wpl_X9_trialGoesAsTold_2 (tsk : Nat → Int32) (tki : Nat → Int32) (tsz : Int32) (nu : Nat → Int64) (le : Int32) (x2 : Int32) (Q : (Int32) → (Nat → Int32) → (Nat → Int32) → (Nat → Int32) → (Nat → Int32) → (Nat → Int32) → (Nat → Int32) → (Int32) → Prop) (K : (Int32) → (Nat → Int32) → (Nat → Int32) → (Nat → Int32) → (Nat → Int32) → (Nat → Int32) → (Nat → Int32) → (Int32) → Prop) : Nat → (Int32) → (Nat → Int32) → (Nat → Int32) → (Nat → Int32) → (Nat → Int32) → (Nat → Int32) → (Nat → Int32) → (Int32) → Prop
  | 0, _, _, _, _, _, _, _, _ => False
  | n + 1, x3, tze, tma, tdn, twi, tdu, the, tyr => (le ≤ x3 → K x3 tze tma tdn twi tdu the tyr) ∧ (¬ (le ≤ x3) → vp_in x3 40 ∧ (vp_in x2 8 ∧ (((lg_cmp (nu (x3.toNatClampNeg)) ((tdn (x2.toNatClampNeg)).toInt64)) = 0 → wp_X2_goYear tsk tze tma tki tdn twi tdu the tyr tsz (fun c3_0 c3_1 c3_2 c3_3 c3_4 c3_5 c3_6 => wpl_X9_trialGoesAsTold_2 tsk tki tsz nu le x2 Q K n (x3 + 1) c3_0 c3_1 c3_2 c3_3 c3_4 c3_5 c3_6)) ∧ (¬ ((lg_cmp (nu (x3.toNatClampNeg)) ((tdn (x2.toNatClampNeg)).toInt64)) = 0) → Q 0 tze tma tdn twi tdu the tyr))))
def wp_X9_trialGoesAsTold (tsk : Nat → Int32) (tze : Nat → Int32) (tma : Nat → Int32) (tki : Nat → Int32) (tdn : Nat → Int32) (twi : Nat → Int32) (tdu : Nat → Int32) (the : Nat → Int32) (tyr : Int32) (tsz : Int32) (nu : Nat → Int64) (le : Int32)  (a2 : Int32) (Q : (Int32) → (Nat → Int32) → (Nat → Int32) → (Nat → Int32) → (Nat → Int32) → (Nat → Int32) → (Nat → Int32) → (Int32) → Prop) : Prop := ∃ n4 : Nat, wpl_X9_trialGoesAsTold_2 tsk tki tsz nu le a2 Q (fun y4_3 y4_tze y4_tma y4_tdn y4_twi y4_tdu y4_the y4_tyr => Q 1 y4_tze y4_tma y4_tdn y4_twi y4_tdu y4_the y4_tyr) n4 0 tze tma tdn twi tdu the tyr
set_option maxRecDepth 100000 in
set_option maxHeartbeats 8000000 in
theorem ml_X9_trialGoesAsTold_2 {l : Launch} {D : va_G} {ca : Nat → ClassId} {sd : Nat → Nat}  {k : Kx} (aF : Nat → Nat) (aL : Nat → Nat) (aT : Nat → Nat) (aK : Nat → Nat) (nd : Nat → Nat) (tp : Nat → Nat) (qb : Nat) (qn : Nat)  (ik : Int32) (tsk : Nat → Int32) (tki : Nat → Int32) (tsz : Int32) (nu : Nat → Int64) (bi : Int32) (le : Int32) (x2 : Int32) (C : Cx D ca sd cX9_trialGoesAsTold RX9 (some .boolean) { frames := 7, cells := 0, slots := 0, locals := 181 } k 4) {Q : (Int32) → (Nat → Int32) → (Nat → Int32) → (Nat → Int32) → (Nat → Int32) → (Nat → Int32) → (Nat → Int32) → (Int32) → Prop} (hR : Rx (Ri D (fun (r : Int32) (u : (Nat → Int32) × (Nat → Int32) × (Nat → Int32) × (Nat → Int32) × (Nat → Int32) × (Nat → Int32) × (Int32)) => Q r u.1 u.2.1 u.2.2.1 u.2.2.2.1 u.2.2.2.2.1 u.2.2.2.2.2.1 u.2.2.2.2.2.2) (fun u => ((wF (aF 0) (aL 0) (aT 0) (aK 0) (tp 0) (aF 1) (aF 2) ik) ++ ((wN ca nd sd) ++ ((wC ca aT (nd 0) tsk u.1 u.2.1 tki u.2.2.1 u.2.2.2.1 u.2.2.2.2.1 u.2.2.2.2.2.1 u.2.2.2.2.2.2 tsz) ++ (wS ca qb qn nu bi le)))))) 0 0 k) (hB : Wx k) {K : (Int32) → (Nat → Int32) → (Nat → Int32) → (Nat → Int32) → (Nat → Int32) → (Nat → Int32) → (Nat → Int32) → (Int32) → Prop} (hK : ∀ (x3' : Int32) (tze' : Nat → Int32) (tma' : Nat → Int32) (tdn' : Nat → Int32) (twi' : Nat → Int32) (tdu' : Nat → Int32) (the' : Nat → Int32) (tyr' : Int32), K x3' tze' tma' tdn' twi' tdu' the' tyr' → J l D k 4 0 0 45 ((wF (aF 0) (aL 0) (aT 0) (aK 0) (tp 0) (aF 1) (aF 2) ik) ++ ((wN ca nd sd) ++ ((wC ca aT (nd 0) tsk tze' tma' tki tdn' twi' tdu' the' tyr' tsz) ++ (wS ca qb qn nu bi le)))) [(0, .ref (aF 0)), (1, .ref qb), (2, .int x2), (3, .int x3')] []) : ∀ (n : Nat) (x3 : Int32) (tze : Nat → Int32) (tma : Nat → Int32) (tdn : Nat → Int32) (twi : Nat → Int32) (tdu : Nat → Int32) (the : Nat → Int32) (tyr : Int32), wpl_X9_trialGoesAsTold_2 tsk tki tsz nu le x2 Q K n x3 tze tma tdn twi tdu the tyr → J l D k 4 0 0 2 ((wF (aF 0) (aL 0) (aT 0) (aK 0) (tp 0) (aF 1) (aF 2) ik) ++ ((wN ca nd sd) ++ ((wC ca aT (nd 0) tsk tze tma tki tdn twi tdu the tyr tsz) ++ (wS ca qb qn nu bi le)))) [(0, .ref (aF 0)), (1, .ref qb), (2, .int x2), (3, .int x3)] [] := by
  intro n
  induction n with
  | zero =>
    intro x3 tze tma tdn twi tdu the tyr hw
    rw [wpl_X9_trialGoesAsTold_2] at hw
    exact hw.elim
  | succ n ih =>
    intro x3 tze tma tdn twi tdu the tyr hw
    rw [wpl_X9_trialGoesAsTold_2] at hw
    refine j_iload_n C 3 dX9_trialGoesAsTold_2 rfl ?_
    refine j_aload_n C 1 dX9_trialGoesAsTold_3 rfl ?_
    refine j_get C fl_X9_240_7 17 dX9_trialGoesAsTold_4 rfl rfl ?_
    refine j_icmp_ge C 45 dX9_trialGoesAsTold_7 (by decide) (fun z => ?_) (fun z => ?_)
    · replace hw := hw.1 z
      exact hK x3 tze tma tdn twi tdu the tyr hw
    · replace hw := hw.2 z
      refine j_aload_n C 1 dX9_trialGoesAsTold_10 rfl ?_
      refine j_get C fl_X9_245_7 17 dX9_trialGoesAsTold_11 rfl rfl ?_
      refine j_iload_n C 3 dX9_trialGoesAsTold_14 rfl ?_
      have hi1 := hw.1
      replace hw := hw.2
      refine j_lald C 18 dX9_trialGoesAsTold_15 rfl hi1 ?_
      refine j_aload_n C 0 dX9_trialGoesAsTold_16 rfl ?_
      refine j_get C fl_X9_50_9 0 dX9_trialGoesAsTold_17 rfl rfl ?_
      refine j_get C fl_X9_138_2 8 dX9_trialGoesAsTold_20 rfl rfl ?_
      refine j_iload_n C 2 dX9_trialGoesAsTold_23 rfl ?_
      have hi2 := hw.1
      replace hw := hw.2
      refine j_iald C 13 dX9_trialGoesAsTold_24 rfl hi2 ?_
      refine j_i2l C dX9_trialGoesAsTold_25 ?_
      refine j_lcmp C dX9_trialGoesAsTold_26 ?_
      refine j_if_eq C 32 dX9_trialGoesAsTold_27 (by decide) (fun z => ?_) (fun z => ?_)
      · replace hw := hw.1 z
        refine j_aload_n C 0 dX9_trialGoesAsTold_32 rfl ?_
        refine j_get C fl_X9_50_9 0 dX9_trialGoesAsTold_33 rfl rfl ?_
        refine j_cvT C hB 1 17 (fun u3 : (Nat → Int32) × (Nat → Int32) × (Nat → Int32) × (Nat → Int32) × (Nat → Int32) × (Nat → Int32) × (Int32) => ((wF (aF 0) (aL 0) (aT 0) (aK 0) (tp 0) (aF 1) (aF 2) ik) ++ ((wN ca nd sd) ++ ((wC ca aT (nd 0) tsk u3.1 u3.2.1 tki u3.2.2.1 u3.2.2.2.1 u3.2.2.2.2.1 u3.2.2.2.2.2.1 u3.2.2.2.2.2.2 tsz) ++ (wS ca qb qn nu bi le))))) rfl (fun _ => rfl) (jr_V C lkV_X9_207 (c_X2_goYear nd aT tsk tze tma tki tdn twi tdu the tyr tsz hw) ⟨rfl, rfl, by decide, by decide, by decide, by decide⟩ [1, 2, 3, 4, 5, 6, 7, 8, 9, 10, 11, 12, 13, 14, 15, 16] rfl rfl (fx_rw C hB [1, 2, 3, 4, 5, 6, 7, 8, 9, 10, 11, 12, 13, 14, 15, 16] rfl) 8 2 rfl rfl rfl rfl (Nat.le_of_ble_eq_true rfl) dX9_trialGoesAsTold_36) (fun u3 hw => ?_)
        refine j_iinc C 3 (x3 + 1) [(3, .int (x3 + 1)), (0, .ref (aF 0)), (1, .ref qb), (2, .int x2)] dX9_trialGoesAsTold_39 rfl rfl (by decide) rfl ?_
        refine j_goto C 2 dX9_trialGoesAsTold_42 (by decide) ?_
        refine j_lsub [1, 2, 3, 0] [(0, .ref (aF 0)), (1, .ref qb), (2, .int x2), (3, .int (x3 + 1))] rfl ?_
        exact ih (x3 + 1) u3.1 u3.2.1 u3.2.2.1 u3.2.2.2.1 u3.2.2.2.2.1 u3.2.2.2.2.2.1 u3.2.2.2.2.2.2 hw
      · replace hw := hw.2 z
        refine j_iconst C 0 dX9_trialGoesAsTold_30 (by decide) ?_
        exact j_zret C hB hR (by decide) (tze, tma, tdn, twi, tdu, the, tyr) rfl dX9_trialGoesAsTold_31 hw rfl
set_option maxRecDepth 100000 in
set_option maxHeartbeats 8000000 in
theorem c_X9_trialGoesAsTold {l : Launch} {D : va_G} {ca : Nat → ClassId} {sd : Nat → Nat}  (aF : Nat → Nat) (aL : Nat → Nat) (aT : Nat → Nat) (aK : Nat → Nat) (nd : Nat → Nat) (tp : Nat → Nat) (qb : Nat) (qn : Nat) (ik : Int32) (tsk : Nat → Int32) (tze : Nat → Int32) (tma : Nat → Int32) (tki : Nat → Int32) (tdn : Nat → Int32) (twi : Nat → Int32) (tdu : Nat → Int32) (the : Nat → Int32) (tyr : Int32) (tsz : Int32) (nu : Nat → Int64) (bi : Int32) (le : Int32)  (a2 : Int32)  {Q : (Int32) → (Nat → Int32) → (Nat → Int32) → (Nat → Int32) → (Nat → Int32) → (Nat → Int32) → (Nat → Int32) → (Int32) → Prop} (hw : wp_X9_trialGoesAsTold tsk tze tma tki tdn twi tdu the tyr tsz nu le  a2 Q) : Cn l D ca sd yX9_trialGoesAsTold cX9_trialGoesAsTold 4 (some .boolean) { frames := 7, cells := 0, slots := 0, locals := 181 } [.ref (aF 0), .ref qb, .int a2] ((wF (aF 0) (aL 0) (aT 0) (aK 0) (tp 0) (aF 1) (aF 2) ik) ++ ((wN ca nd sd) ++ ((wC ca aT (nd 0) tsk tze tma tki tdn twi tdu the tyr tsz) ++ (wS ca qb qn nu bi le)))) ((wF (aF 0) (aL 0) (aT 0) (aK 0) (tp 0) (aF 1) (aF 2) ik) ++ ((wN ca nd sd) ++ ((wC ca aT (nd 0) tsk tze tma tki tdn twi tdu the tyr tsz) ++ (wS ca qb qn nu bi le)))) 0 0 (Ri D (fun (r : Int32) (u : (Nat → Int32) × (Nat → Int32) × (Nat → Int32) × (Nat → Int32) × (Nat → Int32) × (Nat → Int32) × (Int32)) => Q r u.1 u.2.1 u.2.2.1 u.2.2.2.1 u.2.2.2.2.1 u.2.2.2.2.2.1 u.2.2.2.2.2.2) (fun u => ((wF (aF 0) (aL 0) (aT 0) (aK 0) (tp 0) (aF 1) (aF 2) ik) ++ ((wN ca nd sd) ++ ((wC ca aT (nd 0) tsk u.1 u.2.1 tki u.2.2.1 u.2.2.2.1 u.2.2.2.2.1 u.2.2.2.2.2.1 u.2.2.2.2.2.2 tsz) ++ (wS ca qb qn nu bi le)))))) := by
  refine cn_of (by decide) (Nat.le_of_ble_eq_true rfl) (fun k C hR hB _ => ?_)
  have C : Cx D ca sd cX9_trialGoesAsTold RX9 (some .boolean) { frames := 7, cells := 0, slots := 0, locals := 181 } k 4 := C
  unfold wp_X9_trialGoesAsTold at hw
  show J l D k 4 0 0 0 ((wF (aF 0) (aL 0) (aT 0) (aK 0) (tp 0) (aF 1) (aF 2) ik) ++ ((wN ca nd sd) ++ ((wC ca aT (nd 0) tsk tze tma tki tdn twi tdu the tyr tsz) ++ (wS ca qb qn nu bi le)))) [(0, .ref (aF 0)), (1, .ref qb), (2, .int a2)] []
  refine j_iconst C 0 dX9_trialGoesAsTold_0 (by decide) ?_
  refine j_istore_n C [(3, .int 0), (0, .ref (aF 0)), (1, .ref qb), (2, .int a2)] dX9_trialGoesAsTold_1 (by decide) rfl ?_
  refine j_lsub [1, 2, 3, 0] [(0, .ref (aF 0)), (1, .ref qb), (2, .int a2), (3, .int 0)] rfl ?_
  obtain ⟨n4, hw⟩ := hw
  refine ml_X9_trialGoesAsTold_2 aF aL aT aK nd tp qb qn  ik tsk tki tsz nu bi le a2 C hR hB (fun y4_3 y4_tze y4_tma y4_tdn y4_twi y4_tdu y4_the y4_tyr hw => ?_) n4 0 tze tma tdn twi tdu the tyr hw
  refine j_iconst C 1 dX9_trialGoesAsTold_45 (by decide) ?_
  exact j_zret C hB hR (by decide) (y4_tze, y4_tma, y4_tdn, y4_twi, y4_tdu, y4_the, y4_tyr) rfl dX9_trialGoesAsTold_46 hw rfl
def wp_X9_person (fd : Nat → Int32) (lsk : Nat → Int32) (lze : Nat → Int32) (lma : Nat → Int32)  (a1 : Int32) (a2 : Int32) (a3 : Int32) (Q : (Int32) → (Nat → Int32) → (Nat → Int32) → (Nat → Int32) → (Nat → Int32) → Prop) : Prop := wp_X9_isPerson a1 (fun r1 => (r1 = 0 → wp_X9_found fd (-1000000001) (fun r12 c12_0 => Q r12 c12_0 lsk lze lma)) ∧ (¬ (r1 = 0) → (a2 = 0 → wp_X9_isWithin a3 0 20 (fun r2 => (r2 = 0 → wp_X9_found fd (-1000000001) (fun r3 c3_0 => Q r3 c3_0 lsk lze lma)) ∧ (¬ (r2 = 0) → wp_X9_exchange lsk 6 a1 a3 (fun r4 c4_0 => Q r4 fd c4_0 lze lma)))) ∧ (¬ (a2 = 0) → (a2 = 1 → wp_X9_isWithin a3 0 9 (fun r5 => (r5 = 0 → wp_X9_found fd (-1000000001) (fun r6 c6_0 => Q r6 c6_0 lsk lze lma)) ∧ (¬ (r5 = 0) → wp_X9_exchange lze 6 a1 a3 (fun r7 c7_0 => Q r7 fd lsk c7_0 lma)))) ∧ (¬ (a2 = 1) → (a2 = 2 → wp_X9_isWithin a3 0 999 (fun r8 => (r8 = 0 → wp_X9_found fd (-1000000001) (fun r9 c9_0 => Q r9 c9_0 lsk lze lma)) ∧ (¬ (r8 = 0) → wp_X9_exchange lma 6 a1 a3 (fun r10 c10_0 => Q r10 fd lsk lze c10_0)))) ∧ (¬ (a2 = 2) → wp_X9_found fd (-1000000001) (fun r11 c11_0 => Q r11 c11_0 lsk lze lma))))))
set_option maxRecDepth 100000 in
set_option maxHeartbeats 8000000 in
theorem c_X9_person {l : Launch} {D : va_G} {ca : Nat → ClassId} {sd : Nat → Nat}  (aF : Nat → Nat) (aL : Nat → Nat) (aT : Nat → Nat) (aK : Nat → Nat) (nd : Nat → Nat) (tp : Nat → Nat) (fd : Nat → Int32) (ik : Int32) (lsk : Nat → Int32) (lze : Nat → Int32) (lma : Nat → Int32) (lki : Nat → Int32) (ldn : Nat → Int32) (lwi : Nat → Int32) (ldu : Nat → Int32) (lhe : Nat → Int32) (lyr : Int32) (lsz : Int32)  (a1 : Int32) (a2 : Int32) (a3 : Int32)  {Q : (Int32) → (Nat → Int32) → (Nat → Int32) → (Nat → Int32) → (Nat → Int32) → Prop} (hw : wp_X9_person fd lsk lze lma  a1 a2 a3 Q) : Cn l D ca sd yX9_person cX9_person 4 (some .int) { frames := 2, cells := 0, slots := 0, locals := 44 } [.ref (aF 0), .int a1, .int a2, .int a3] ((wD ca (aF 2) fd) ++ ((wF (aF 0) (aL 0) (aT 0) (aK 0) (tp 0) (aF 1) (aF 2) ik) ++ (wC ca aL (nd 0) lsk lze lma lki ldn lwi ldu lhe lyr lsz))) ((wD ca (aF 2) fd) ++ ((wF (aF 0) (aL 0) (aT 0) (aK 0) (tp 0) (aF 1) (aF 2) ik) ++ (wC ca aL (nd 0) lsk lze lma lki ldn lwi ldu lhe lyr lsz))) 0 0 (Ri D (fun (r : Int32) (u : (Nat → Int32) × (Nat → Int32) × (Nat → Int32) × (Nat → Int32)) => Q r u.1 u.2.1 u.2.2.1 u.2.2.2) (fun u => ((wD ca (aF 2) u.1) ++ ((wF (aF 0) (aL 0) (aT 0) (aK 0) (tp 0) (aF 1) (aF 2) ik) ++ (wC ca aL (nd 0) u.2.1 u.2.2.1 u.2.2.2 lki ldn lwi ldu lhe lyr lsz))))) := by
  refine cn_of (by decide) (Nat.le_of_ble_eq_true rfl) (fun k C hR hB _ => ?_)
  have C : Cx D ca sd cX9_person RX9 (some .int) { frames := 2, cells := 0, slots := 0, locals := 44 } k 4 := C
  unfold wp_X9_person at hw
  show J l D k 4 0 0 0 ((wD ca (aF 2) fd) ++ ((wF (aF 0) (aL 0) (aT 0) (aK 0) (tp 0) (aF 1) (aF 2) ik) ++ (wC ca aL (nd 0) lsk lze lma lki ldn lwi ldu lhe lyr lsz))) [(0, .ref (aF 0)), (1, .int a1), (2, .int a2), (3, .int a3)] []
  refine j_iload_n C 1 dX9_person_0 rfl ?_
  refine j_ciZ C (jr_S C lkS_X9_78 (c_X9_isPerson a1 hw) ⟨rfl, rfl, by decide, by decide, by decide, by decide⟩ [] (by decide) rfl (fx_ro C) rfl rfl (Nat.le_of_ble_eq_true rfl) dX9_person_1) (fun r1 u1 hw => ?_)
  refine j_if_ne C 14 dX9_person_4 (by decide) (fun z => ?_) (fun z => ?_)
  · replace hw := hw.2 z
    refine j_iload_n C 2 dX9_person_14 rfl ?_
    by_cases z1 : a2 = 0
    · replace hw := hw.1 z1
      refine j_tabIn (off := 25) C 0 40 dX9_person_15 z1 (by decide) (by decide) (by decide) (by decide) ?_
      refine j_iload_n C 3 dX9_person_40 rfl ?_
      refine j_iconst C 0 dX9_person_41 (by decide) ?_
      refine j_bipush C 20 dX9_person_42 (by decide) ?_
      refine j_ciZ C (jr_S C lkS_X9_87 (c_X9_isWithin a3 0 20 hw) ⟨rfl, rfl, by decide, by decide, by decide, by decide⟩ [] (by decide) rfl (fx_ro C) rfl rfl (Nat.le_of_ble_eq_true rfl) dX9_person_44) (fun r2 u2 hw => ?_)
      refine j_if_eq C 65 dX9_person_47 (by decide) (fun z => ?_) (fun z => ?_)
      · replace hw := hw.1 z
        refine j_aload_n C 0 dX9_person_65 rfl ?_
        refine j_ldc C dX9_person_66 ct_X9_82 ?_
        refine j_ciT C hB 0 2 (fun u3 : (Nat → Int32) => ((wD ca (aF 2) u3) ++ ((wF (aF 0) (aL 0) (aT 0) (aK 0) (tp 0) (aF 1) (aF 2) ik) ++ (wC ca aL (nd 0) lsk lze lma lki ldn lwi ldu lhe lyr lsz)))) rfl (fun _ => rfl) (jr_V C lkV_X9_83 (c_X9_found aF aL aT aK nd tp fd ik (-1000000001) hw) ⟨rfl, rfl, by decide, by decide, by decide, by decide⟩ [0, 1] (by decide) rfl (fx_rw C hB [0, 1] rfl) 1 9 rfl rfl rfl rfl (Nat.le_of_ble_eq_true rfl) dX9_person_68) (fun r3 u3 hw => ?_)
        exact j_iret C hB hR (u3, lsk, lze, lma) rfl dX9_person_71 hw rfl
      · replace hw := hw.2 z
        refine j_aload_n C 0 dX9_person_50 rfl ?_
        refine j_get C fl_X9_44_9 1 dX9_person_51 rfl rfl ?_
        refine j_get C fl_X9_91_2 2 dX9_person_54 rfl rfl ?_
        refine j_iload_n C 1 dX9_person_57 rfl ?_
        refine j_iload_n C 3 dX9_person_58 rfl ?_
        refine j_ciT C hB 3 4 (fun u4 : (Nat → Int32) => ((wD ca (aF 2) fd) ++ ((wF (aF 0) (aL 0) (aT 0) (aK 0) (tp 0) (aF 1) (aF 2) ik) ++ (wC ca aL (nd 0) u4 lze lma lki ldn lwi ldu lhe lyr lsz)))) rfl (fun _ => rfl) (jr_S C lkS_X9_94 (c_X9_exchange (aL 1) 6 lsk a1 a3 hw) ⟨rfl, rfl, by decide, by decide, by decide, by decide⟩ [3] (by decide) rfl (fx_rw C hB [3] rfl) rfl rfl (Nat.le_of_ble_eq_true rfl) dX9_person_59) (fun r4 u4 hw => ?_)
        refine j_goto C 71 dX9_person_62 (by decide) ?_
        exact j_iret C hB hR (fd, u4, lze, lma) rfl dX9_person_71 hw rfl
    · replace hw := hw.2 z1
      by_cases z2 : a2 = 1
      · replace hw := hw.1 z2
        refine j_tabIn (off := 57) C 1 72 dX9_person_15 z2 (by decide) (by decide) (by decide) (by decide) ?_
        refine j_iload_n C 3 dX9_person_72 rfl ?_
        refine j_iconst C 0 dX9_person_73 (by decide) ?_
        refine j_bipush C 9 dX9_person_74 (by decide) ?_
        refine j_ciZ C (jr_S C lkS_X9_87 (c_X9_isWithin a3 0 9 hw) ⟨rfl, rfl, by decide, by decide, by decide, by decide⟩ [] (by decide) rfl (fx_ro C) rfl rfl (Nat.le_of_ble_eq_true rfl) dX9_person_76) (fun r5 u5 hw => ?_)
        refine j_if_eq C 97 dX9_person_79 (by decide) (fun z => ?_) (fun z => ?_)
        · replace hw := hw.1 z
          refine j_aload_n C 0 dX9_person_97 rfl ?_
          refine j_ldc C dX9_person_98 ct_X9_82 ?_
          refine j_ciT C hB 0 2 (fun u6 : (Nat → Int32) => ((wD ca (aF 2) u6) ++ ((wF (aF 0) (aL 0) (aT 0) (aK 0) (tp 0) (aF 1) (aF 2) ik) ++ (wC ca aL (nd 0) lsk lze lma lki ldn lwi ldu lhe lyr lsz)))) rfl (fun _ => rfl) (jr_V C lkV_X9_83 (c_X9_found aF aL aT aK nd tp fd ik (-1000000001) hw) ⟨rfl, rfl, by decide, by decide, by decide, by decide⟩ [0, 1] (by decide) rfl (fx_rw C hB [0, 1] rfl) 1 9 rfl rfl rfl rfl (Nat.le_of_ble_eq_true rfl) dX9_person_100) (fun r6 u6 hw => ?_)
          exact j_iret C hB hR (u6, lsk, lze, lma) rfl dX9_person_103 hw rfl
        · replace hw := hw.2 z
          refine j_aload_n C 0 dX9_person_82 rfl ?_
          refine j_get C fl_X9_44_9 1 dX9_person_83 rfl rfl ?_
          refine j_get C fl_X9_98_2 2 dX9_person_86 rfl rfl ?_
          refine j_iload_n C 1 dX9_person_89 rfl ?_
          refine j_iload_n C 3 dX9_person_90 rfl ?_
          refine j_ciT C hB 4 5 (fun u7 : (Nat → Int32) => ((wD ca (aF 2) fd) ++ ((wF (aF 0) (aL 0) (aT 0) (aK 0) (tp 0) (aF 1) (aF 2) ik) ++ (wC ca aL (nd 0) lsk u7 lma lki ldn lwi ldu lhe lyr lsz)))) rfl (fun _ => rfl) (jr_S C lkS_X9_94 (c_X9_exchange (aL 2) 6 lze a1 a3 hw) ⟨rfl, rfl, by decide, by decide, by decide, by decide⟩ [4] (by decide) rfl (fx_rw C hB [4] rfl) rfl rfl (Nat.le_of_ble_eq_true rfl) dX9_person_91) (fun r7 u7 hw => ?_)
          refine j_goto C 103 dX9_person_94 (by decide) ?_
          exact j_iret C hB hR (fd, lsk, u7, lma) rfl dX9_person_103 hw rfl
      · replace hw := hw.2 z2
        by_cases z3 : a2 = 2
        · replace hw := hw.1 z3
          refine j_tabIn (off := 89) C 2 104 dX9_person_15 z3 (by decide) (by decide) (by decide) (by decide) ?_
          refine j_iload_n C 3 dX9_person_104 rfl ?_
          refine j_iconst C 0 dX9_person_105 (by decide) ?_
          refine j_sipush C 999 dX9_person_106 (by decide) ?_
          refine j_ciZ C (jr_S C lkS_X9_87 (c_X9_isWithin a3 0 999 hw) ⟨rfl, rfl, by decide, by decide, by decide, by decide⟩ [] (by decide) rfl (fx_ro C) rfl rfl (Nat.le_of_ble_eq_true rfl) dX9_person_109) (fun r8 u8 hw => ?_)
          refine j_if_eq C 130 dX9_person_112 (by decide) (fun z => ?_) (fun z => ?_)
          · replace hw := hw.1 z
            refine j_aload_n C 0 dX9_person_130 rfl ?_
            refine j_ldc C dX9_person_131 ct_X9_82 ?_
            refine j_ciT C hB 0 2 (fun u9 : (Nat → Int32) => ((wD ca (aF 2) u9) ++ ((wF (aF 0) (aL 0) (aT 0) (aK 0) (tp 0) (aF 1) (aF 2) ik) ++ (wC ca aL (nd 0) lsk lze lma lki ldn lwi ldu lhe lyr lsz)))) rfl (fun _ => rfl) (jr_V C lkV_X9_83 (c_X9_found aF aL aT aK nd tp fd ik (-1000000001) hw) ⟨rfl, rfl, by decide, by decide, by decide, by decide⟩ [0, 1] (by decide) rfl (fx_rw C hB [0, 1] rfl) 1 9 rfl rfl rfl rfl (Nat.le_of_ble_eq_true rfl) dX9_person_133) (fun r9 u9 hw => ?_)
            exact j_iret C hB hR (u9, lsk, lze, lma) rfl dX9_person_136 hw rfl
          · replace hw := hw.2 z
            refine j_aload_n C 0 dX9_person_115 rfl ?_
            refine j_get C fl_X9_44_9 1 dX9_person_116 rfl rfl ?_
            refine j_get C fl_X9_101_2 2 dX9_person_119 rfl rfl ?_
            refine j_iload_n C 1 dX9_person_122 rfl ?_
            refine j_iload_n C 3 dX9_person_123 rfl ?_
            refine j_ciT C hB 5 6 (fun u10 : (Nat → Int32) => ((wD ca (aF 2) fd) ++ ((wF (aF 0) (aL 0) (aT 0) (aK 0) (tp 0) (aF 1) (aF 2) ik) ++ (wC ca aL (nd 0) lsk lze u10 lki ldn lwi ldu lhe lyr lsz)))) rfl (fun _ => rfl) (jr_S C lkS_X9_94 (c_X9_exchange (aL 3) 6 lma a1 a3 hw) ⟨rfl, rfl, by decide, by decide, by decide, by decide⟩ [5] (by decide) rfl (fx_rw C hB [5] rfl) rfl rfl (Nat.le_of_ble_eq_true rfl) dX9_person_124) (fun r10 u10 hw => ?_)
            refine j_goto C 136 dX9_person_127 (by decide) ?_
            exact j_iret C hB hR (fd, lsk, lze, u10) rfl dX9_person_136 hw rfl
        · replace hw := hw.2 z3
          refine j_tabOut C 137 dX9_person_15 (by have qz1 := lv_neT z1 (show (0 : Int32).toInt = 0 from rfl); have qz2 := lv_neT z2 (show (1 : Int32).toInt = 1 from rfl); have qz3 := lv_neT z3 (show (2 : Int32).toInt = 2 from rfl); omega) (by decide) ?_
          refine j_aload_n C 0 dX9_person_137 rfl ?_
          refine j_ldc C dX9_person_138 ct_X9_82 ?_
          refine j_ciT C hB 0 2 (fun u11 : (Nat → Int32) => ((wD ca (aF 2) u11) ++ ((wF (aF 0) (aL 0) (aT 0) (aK 0) (tp 0) (aF 1) (aF 2) ik) ++ (wC ca aL (nd 0) lsk lze lma lki ldn lwi ldu lhe lyr lsz)))) rfl (fun _ => rfl) (jr_V C lkV_X9_83 (c_X9_found aF aL aT aK nd tp fd ik (-1000000001) hw) ⟨rfl, rfl, by decide, by decide, by decide, by decide⟩ [0, 1] (by decide) rfl (fx_rw C hB [0, 1] rfl) 1 9 rfl rfl rfl rfl (Nat.le_of_ble_eq_true rfl) dX9_person_140) (fun r11 u11 hw => ?_)
          exact j_iret C hB hR (u11, lsk, lze, lma) rfl dX9_person_143 hw rfl
  · replace hw := hw.1 z
    refine j_aload_n C 0 dX9_person_7 rfl ?_
    refine j_ldc C dX9_person_8 ct_X9_82 ?_
    refine j_ciT C hB 0 2 (fun u12 : (Nat → Int32) => ((wD ca (aF 2) u12) ++ ((wF (aF 0) (aL 0) (aT 0) (aK 0) (tp 0) (aF 1) (aF 2) ik) ++ (wC ca aL (nd 0) lsk lze lma lki ldn lwi ldu lhe lyr lsz)))) rfl (fun _ => rfl) (jr_V C lkV_X9_83 (c_X9_found aF aL aT aK nd tp fd ik (-1000000001) hw) ⟨rfl, rfl, by decide, by decide, by decide, by decide⟩ [0, 1] (by decide) rfl (fx_rw C hB [0, 1] rfl) 1 9 rfl rfl rfl rfl (Nat.le_of_ble_eq_true rfl) dX9_person_10) (fun r12 u12 hw => ?_)
    exact j_iret C hB hR (u12, lsk, lze, lma) rfl dX9_person_13 hw rfl
def wp_X9_personOf (fd : Nat → Int32) (lsk : Nat → Int32) (lze : Nat → Int32) (lma : Nat → Int32) (ldn : Nat → Int32) (lwi : Nat → Int32) (lsz : Int32)  (a1 : Int32) (a2 : Int32) (Q : (Int32) → (Nat → Int32) → Prop) : Prop := wp_X9_isPerson a1 (fun r1 => (r1 = 0 → wp_X9_found fd (-1000000001) (fun r10 c10_0 => Q r10 c10_0)) ∧ (¬ (r1 = 0) → (a2 = 0 → vp_in a1 6 ∧ (Q (lsk (a1.toNatClampNeg)) fd)) ∧ (¬ (a2 = 0) → (a2 = 1 → vp_in a1 6 ∧ (Q (lze (a1.toNatClampNeg)) fd)) ∧ (¬ (a2 = 1) → (a2 = 2 → vp_in a1 6 ∧ (Q (lma (a1.toNatClampNeg)) fd)) ∧ (¬ (a2 = 2) → (a2 = 3 → wp_X2_heldSet lwi lsz a1 (fun r5 => Q r5 fd)) ∧ (¬ (a2 = 3) → (a2 = 4 → wp_X2_heldSet lwi lsz a1 (fun r6 => wp_X2_finishedSet ldn lsz (fun r7 => wp_J6_bitCount_0f7a4 (r6 &&& (r7 ^^^ (-1))) (fun r8 => Q r8 fd)))) ∧ (¬ (a2 = 4) → wp_X9_found fd (-1000000001) (fun r9 c9_0 => Q r9 c9_0))))))))
set_option maxRecDepth 100000 in
set_option maxHeartbeats 8000000 in
theorem c_X9_personOf {l : Launch} {D : va_G} {ca : Nat → ClassId} {sd : Nat → Nat}  (aF : Nat → Nat) (aL : Nat → Nat) (aT : Nat → Nat) (aK : Nat → Nat) (nd : Nat → Nat) (tp : Nat → Nat) (fd : Nat → Int32) (ik : Int32) (lsk : Nat → Int32) (lze : Nat → Int32) (lma : Nat → Int32) (lki : Nat → Int32) (ldn : Nat → Int32) (lwi : Nat → Int32) (ldu : Nat → Int32) (lhe : Nat → Int32) (lyr : Int32) (lsz : Int32)  (a1 : Int32) (a2 : Int32)  {Q : (Int32) → (Nat → Int32) → Prop} (hw : wp_X9_personOf fd lsk lze lma ldn lwi lsz  a1 a2 Q) : Cn l D ca sd yX9_personOf cX9_personOf 3 (some .int) { frames := 2, cells := 0, slots := 0, locals := 44 } [.ref (aF 0), .int a1, .int a2] ((wD ca (aF 2) fd) ++ ((wF (aF 0) (aL 0) (aT 0) (aK 0) (tp 0) (aF 1) (aF 2) ik) ++ (wC ca aL (nd 0) lsk lze lma lki ldn lwi ldu lhe lyr lsz))) ((wD ca (aF 2) fd) ++ ((wF (aF 0) (aL 0) (aT 0) (aK 0) (tp 0) (aF 1) (aF 2) ik) ++ (wC ca aL (nd 0) lsk lze lma lki ldn lwi ldu lhe lyr lsz))) 0 0 (Ri D (fun (r : Int32) (u : (Nat → Int32)) => Q r u) (fun u => ((wD ca (aF 2) u) ++ ((wF (aF 0) (aL 0) (aT 0) (aK 0) (tp 0) (aF 1) (aF 2) ik) ++ (wC ca aL (nd 0) lsk lze lma lki ldn lwi ldu lhe lyr lsz))))) := by
  refine cn_of (by decide) (Nat.le_of_ble_eq_true rfl) (fun k C hR hB _ => ?_)
  have C : Cx D ca sd cX9_personOf RX9 (some .int) { frames := 2, cells := 0, slots := 0, locals := 44 } k 3 := C
  unfold wp_X9_personOf at hw
  show J l D k 3 0 0 0 ((wD ca (aF 2) fd) ++ ((wF (aF 0) (aL 0) (aT 0) (aK 0) (tp 0) (aF 1) (aF 2) ik) ++ (wC ca aL (nd 0) lsk lze lma lki ldn lwi ldu lhe lyr lsz))) [(0, .ref (aF 0)), (1, .int a1), (2, .int a2)] []
  refine j_iload_n C 1 dX9_personOf_0 rfl ?_
  refine j_ciZ C (jr_S C lkS_X9_78 (c_X9_isPerson a1 hw) ⟨rfl, rfl, by decide, by decide, by decide, by decide⟩ [] (by decide) rfl (fx_ro C) rfl rfl (Nat.le_of_ble_eq_true rfl) dX9_personOf_1) (fun r1 u1 hw => ?_)
  refine j_if_ne C 14 dX9_personOf_4 (by decide) (fun z => ?_) (fun z => ?_)
  · replace hw := hw.2 z
    refine j_iload_n C 2 dX9_personOf_14 rfl ?_
    by_cases z1 : a2 = 0
    · replace hw := hw.1 z1
      refine j_tabIn (off := 33) C 0 48 dX9_personOf_15 z1 (by decide) (by decide) (by decide) (by decide) ?_
      refine j_aload_n C 0 dX9_personOf_48 rfl ?_
      refine j_get C fl_X9_44_9 1 dX9_personOf_49 rfl rfl ?_
      refine j_get C fl_X9_91_2 2 dX9_personOf_52 rfl rfl ?_
      refine j_iload_n C 1 dX9_personOf_55 rfl ?_
      have hi2 := hw.1
      replace hw := hw.2
      refine j_iald C 3 dX9_personOf_56 rfl hi2 ?_
      exact j_iret C hB hR fd rfl dX9_personOf_57 hw rfl
    · replace hw := hw.2 z1
      by_cases z2 : a2 = 1
      · replace hw := hw.1 z2
        refine j_tabIn (off := 43) C 1 58 dX9_personOf_15 z2 (by decide) (by decide) (by decide) (by decide) ?_
        refine j_aload_n C 0 dX9_personOf_58 rfl ?_
        refine j_get C fl_X9_44_9 1 dX9_personOf_59 rfl rfl ?_
        refine j_get C fl_X9_98_2 2 dX9_personOf_62 rfl rfl ?_
        refine j_iload_n C 1 dX9_personOf_65 rfl ?_
        have hi3 := hw.1
        replace hw := hw.2
        refine j_iald C 4 dX9_personOf_66 rfl hi3 ?_
        exact j_iret C hB hR fd rfl dX9_personOf_67 hw rfl
      · replace hw := hw.2 z2
        by_cases z3 : a2 = 2
        · replace hw := hw.1 z3
          refine j_tabIn (off := 53) C 2 68 dX9_personOf_15 z3 (by decide) (by decide) (by decide) (by decide) ?_
          refine j_aload_n C 0 dX9_personOf_68 rfl ?_
          refine j_get C fl_X9_44_9 1 dX9_personOf_69 rfl rfl ?_
          refine j_get C fl_X9_101_2 2 dX9_personOf_72 rfl rfl ?_
          refine j_iload_n C 1 dX9_personOf_75 rfl ?_
          have hi4 := hw.1
          replace hw := hw.2
          refine j_iald C 5 dX9_personOf_76 rfl hi4 ?_
          exact j_iret C hB hR fd rfl dX9_personOf_77 hw rfl
        · replace hw := hw.2 z3
          by_cases z4 : a2 = 3
          · replace hw := hw.1 z4
            refine j_tabIn (off := 63) C 3 78 dX9_personOf_15 z4 (by decide) (by decide) (by decide) (by decide) ?_
            refine j_aload_n C 0 dX9_personOf_78 rfl ?_
            refine j_get C fl_X9_44_9 1 dX9_personOf_79 rfl rfl ?_
            refine j_iload_n C 1 dX9_personOf_82 rfl ?_
            refine j_ciZ C (jr_V C lkV_X9_104 (c_X2_heldSet aL (nd 0) lsk lze lma lki ldn lwi ldu lhe lyr lsz a1 hw) ⟨rfl, rfl, by decide, by decide, by decide, by decide⟩ [2, 3, 4, 5, 6, 7, 8, 9, 10] (by decide) rfl (fx_ro C) 2 2 rfl rfl rfl rfl (Nat.le_of_ble_eq_true rfl) dX9_personOf_83) (fun r5 u5 hw => ?_)
            exact j_iret C hB hR fd rfl dX9_personOf_86 hw rfl
          · replace hw := hw.2 z4
            by_cases z5 : a2 = 4
            · replace hw := hw.1 z5
              refine j_tabIn (off := 72) C 4 87 dX9_personOf_15 z5 (by decide) (by decide) (by decide) (by decide) ?_
              refine j_aload_n C 0 dX9_personOf_87 rfl ?_
              refine j_get C fl_X9_44_9 1 dX9_personOf_88 rfl rfl ?_
              refine j_iload_n C 1 dX9_personOf_91 rfl ?_
              refine j_ciZ C (jr_V C lkV_X9_104 (c_X2_heldSet aL (nd 0) lsk lze lma lki ldn lwi ldu lhe lyr lsz a1 hw) ⟨rfl, rfl, by decide, by decide, by decide, by decide⟩ [2, 3, 4, 5, 6, 7, 8, 9, 10] (by decide) rfl (fx_ro C) 2 2 rfl rfl rfl rfl (Nat.le_of_ble_eq_true rfl) dX9_personOf_92) (fun r6 u6 hw => ?_)
              refine j_aload_n C 0 dX9_personOf_95 rfl ?_
              refine j_get C fl_X9_44_9 1 dX9_personOf_96 rfl rfl ?_
              refine j_ciZ C (jr_V C lkV_X9_107 (c_X2_finishedSet aL (nd 0) lsk lze lma lki ldn lwi ldu lhe lyr lsz hw) ⟨rfl, rfl, by decide, by decide, by decide, by decide⟩ [2, 3, 4, 5, 6, 7, 8, 9, 10] (by decide) rfl (fx_ro C) 2 2 rfl rfl rfl rfl (Nat.le_of_ble_eq_true rfl) dX9_personOf_99) (fun r7 u7 hw => ?_)
              refine j_iconst C (-1) dX9_personOf_102 (by decide) ?_
              refine j_ixor C dX9_personOf_103 ?_
              refine j_iand C dX9_personOf_104 ?_
              refine j_ciZ C (jr_S C lkS_X9_111 (c_J6_bitCount_0f7a4 (r6 &&& (r7 ^^^ (-1))) hw) ⟨rfl, rfl, by decide, by decide, by decide, by decide⟩ [] (by decide) rfl (fx_ro C) rfl rfl (Nat.le_of_ble_eq_true rfl) dX9_personOf_105) (fun r8 u8 hw => ?_)
              exact j_iret C hB hR fd rfl dX9_personOf_108 hw rfl
            · replace hw := hw.2 z5
              refine j_tabOut C 109 dX9_personOf_15 (by have qz1 := lv_neT z1 (show (0 : Int32).toInt = 0 from rfl); have qz2 := lv_neT z2 (show (1 : Int32).toInt = 1 from rfl); have qz3 := lv_neT z3 (show (2 : Int32).toInt = 2 from rfl); have qz4 := lv_neT z4 (show (3 : Int32).toInt = 3 from rfl); have qz5 := lv_neT z5 (show (4 : Int32).toInt = 4 from rfl); omega) (by decide) ?_
              refine j_aload_n C 0 dX9_personOf_109 rfl ?_
              refine j_ldc C dX9_personOf_110 ct_X9_82 ?_
              refine j_ciT C hB 0 2 (fun u9 : (Nat → Int32) => ((wD ca (aF 2) u9) ++ ((wF (aF 0) (aL 0) (aT 0) (aK 0) (tp 0) (aF 1) (aF 2) ik) ++ (wC ca aL (nd 0) lsk lze lma lki ldn lwi ldu lhe lyr lsz)))) rfl (fun _ => rfl) (jr_V C lkV_X9_83 (c_X9_found aF aL aT aK nd tp fd ik (-1000000001) hw) ⟨rfl, rfl, by decide, by decide, by decide, by decide⟩ [0, 1] (by decide) rfl (fx_rw C hB [0, 1] rfl) 1 9 rfl rfl rfl rfl (Nat.le_of_ble_eq_true rfl) dX9_personOf_112) (fun r9 u9 hw => ?_)
              exact j_iret C hB hR u9 rfl dX9_personOf_115 hw rfl
  · replace hw := hw.1 z
    refine j_aload_n C 0 dX9_personOf_7 rfl ?_
    refine j_ldc C dX9_personOf_8 ct_X9_82 ?_
    refine j_ciT C hB 0 2 (fun u10 : (Nat → Int32) => ((wD ca (aF 2) u10) ++ ((wF (aF 0) (aL 0) (aT 0) (aK 0) (tp 0) (aF 1) (aF 2) ik) ++ (wC ca aL (nd 0) lsk lze lma lki ldn lwi ldu lhe lyr lsz)))) rfl (fun _ => rfl) (jr_V C lkV_X9_83 (c_X9_found aF aL aT aK nd tp fd ik (-1000000001) hw) ⟨rfl, rfl, by decide, by decide, by decide, by decide⟩ [0, 1] (by decide) rfl (fx_rw C hB [0, 1] rfl) 1 9 rfl rfl rfl rfl (Nat.le_of_ble_eq_true rfl) dX9_personOf_10) (fun r10 u10 hw => ?_)
    exact j_iret C hB hR u10 rfl dX9_personOf_13 hw rfl
def wp_X9_thing (fd : Nat → Int32) (lki : Nat → Int32) (ldn : Nat → Int32) (lwi : Nat → Int32) (ldu : Nat → Int32) (lsz : Int32)  (a1 : Int32) (a2 : Int32) (Q : (Int32) → (Nat → Int32) → (Nat → Int32) → (Nat → Int32) → (Nat → Int32) → (Nat → Int32) → (Int32) → Prop) : Prop := wp_X9_isKind a1 (fun r1 => (r1 = 0 → wp_X9_found fd (-1000000001) (fun r2 c2_0 => Q r2 c2_0 lki ldn lwi ldu lsz)) ∧ (¬ (r1 = 0) → wp_X9_isWithin a2 0 99 (fun r3 => (r3 = 0 → wp_X9_found fd (-1000000001) (fun r7 c7_0 => Q r7 c7_0 lki ldn lwi ldu lsz)) ∧ (¬ (r3 = 0) → wp_X2_isFull lsz (fun r4 => (r4 = 0 → wp_X2_add lki ldn lwi ldu lsz a1 a2 (-1) 0 (fun c5_0 c5_1 c5_2 c5_3 c5_4 => Q lsz fd c5_0 c5_1 c5_2 c5_3 c5_4)) ∧ (¬ (r4 = 0) → wp_X9_found fd (-1000000002) (fun r6 c6_0 => Q r6 c6_0 lki ldn lwi ldu lsz)))))))
set_option maxRecDepth 100000 in
set_option maxHeartbeats 8000000 in
theorem c_X9_thing {l : Launch} {D : va_G} {ca : Nat → ClassId} {sd : Nat → Nat}  (aF : Nat → Nat) (aL : Nat → Nat) (aT : Nat → Nat) (aK : Nat → Nat) (nd : Nat → Nat) (tp : Nat → Nat) (fd : Nat → Int32) (ik : Int32) (lsk : Nat → Int32) (lze : Nat → Int32) (lma : Nat → Int32) (lki : Nat → Int32) (ldn : Nat → Int32) (lwi : Nat → Int32) (ldu : Nat → Int32) (lhe : Nat → Int32) (lyr : Int32) (lsz : Int32)  (a1 : Int32) (a2 : Int32)  {Q : (Int32) → (Nat → Int32) → (Nat → Int32) → (Nat → Int32) → (Nat → Int32) → (Nat → Int32) → (Int32) → Prop} (hw : wp_X9_thing fd lki ldn lwi ldu lsz  a1 a2 Q) : Cn l D ca sd yX9_thing cX9_thing 4 (some .int) { frames := 2, cells := 0, slots := 0, locals := 44 } [.ref (aF 0), .int a1, .int a2] ((wD ca (aF 2) fd) ++ ((wF (aF 0) (aL 0) (aT 0) (aK 0) (tp 0) (aF 1) (aF 2) ik) ++ (wC ca aL (nd 0) lsk lze lma lki ldn lwi ldu lhe lyr lsz))) ((wD ca (aF 2) fd) ++ ((wF (aF 0) (aL 0) (aT 0) (aK 0) (tp 0) (aF 1) (aF 2) ik) ++ (wC ca aL (nd 0) lsk lze lma lki ldn lwi ldu lhe lyr lsz))) 0 0 (Ri D (fun (r : Int32) (u : (Nat → Int32) × (Nat → Int32) × (Nat → Int32) × (Nat → Int32) × (Nat → Int32) × (Int32)) => Q r u.1 u.2.1 u.2.2.1 u.2.2.2.1 u.2.2.2.2.1 u.2.2.2.2.2) (fun u => ((wD ca (aF 2) u.1) ++ ((wF (aF 0) (aL 0) (aT 0) (aK 0) (tp 0) (aF 1) (aF 2) ik) ++ (wC ca aL (nd 0) lsk lze lma u.2.1 u.2.2.1 u.2.2.2.1 u.2.2.2.2.1 lhe lyr u.2.2.2.2.2))))) := by
  refine cn_of (by decide) (Nat.le_of_ble_eq_true rfl) (fun k C hR hB _ => ?_)
  have C : Cx D ca sd cX9_thing RX9 (some .int) { frames := 2, cells := 0, slots := 0, locals := 44 } k 4 := C
  unfold wp_X9_thing at hw
  show J l D k 4 0 0 0 ((wD ca (aF 2) fd) ++ ((wF (aF 0) (aL 0) (aT 0) (aK 0) (tp 0) (aF 1) (aF 2) ik) ++ (wC ca aL (nd 0) lsk lze lma lki ldn lwi ldu lhe lyr lsz))) [(0, .ref (aF 0)), (1, .int a1), (2, .int a2)] []
  refine j_iload_n C 1 dX9_thing_0 rfl ?_
  refine j_ciZ C (jr_S C lkS_X9_116 (c_X9_isKind a1 hw) ⟨rfl, rfl, by decide, by decide, by decide, by decide⟩ [] (by decide) rfl (fx_ro C) rfl rfl (Nat.le_of_ble_eq_true rfl) dX9_thing_1) (fun r1 u1 hw => ?_)
  refine j_if_eq C 17 dX9_thing_4 (by decide) (fun z => ?_) (fun z => ?_)
  · replace hw := hw.1 z
    refine j_aload_n C 0 dX9_thing_17 rfl ?_
    refine j_ldc C dX9_thing_18 ct_X9_82 ?_
    refine j_ciT C hB 0 2 (fun u2 : (Nat → Int32) => ((wD ca (aF 2) u2) ++ ((wF (aF 0) (aL 0) (aT 0) (aK 0) (tp 0) (aF 1) (aF 2) ik) ++ (wC ca aL (nd 0) lsk lze lma lki ldn lwi ldu lhe lyr lsz)))) rfl (fun _ => rfl) (jr_V C lkV_X9_83 (c_X9_found aF aL aT aK nd tp fd ik (-1000000001) hw) ⟨rfl, rfl, by decide, by decide, by decide, by decide⟩ [0, 1] (by decide) rfl (fx_rw C hB [0, 1] rfl) 1 9 rfl rfl rfl rfl (Nat.le_of_ble_eq_true rfl) dX9_thing_20) (fun r2 u2 hw => ?_)
    exact j_iret C hB hR (u2, lki, ldn, lwi, ldu, lsz) rfl dX9_thing_23 hw rfl
  · replace hw := hw.2 z
    refine j_iload_n C 2 dX9_thing_7 rfl ?_
    refine j_iconst C 0 dX9_thing_8 (by decide) ?_
    refine j_bipush C 99 dX9_thing_9 (by decide) ?_
    refine j_ciZ C (jr_S C lkS_X9_87 (c_X9_isWithin a2 0 99 hw) ⟨rfl, rfl, by decide, by decide, by decide, by decide⟩ [] (by decide) rfl (fx_ro C) rfl rfl (Nat.le_of_ble_eq_true rfl) dX9_thing_11) (fun r3 u3 hw => ?_)
    refine j_if_ne C 24 dX9_thing_14 (by decide) (fun z => ?_) (fun z => ?_)
    · replace hw := hw.2 z
      refine j_aload_n C 0 dX9_thing_24 rfl ?_
      refine j_get C fl_X9_44_9 1 dX9_thing_25 rfl rfl ?_
      refine j_ciZ C (jr_V C lkV_X9_119 (c_X2_isFull aL (nd 0) lsk lze lma lki ldn lwi ldu lhe lyr lsz hw) ⟨rfl, rfl, by decide, by decide, by decide, by decide⟩ [2, 3, 4, 5, 6, 7, 8, 9, 10] (by decide) rfl (fx_ro C) 2 2 rfl rfl rfl rfl (Nat.le_of_ble_eq_true rfl) dX9_thing_28) (fun r4 u4 hw => ?_)
      refine j_if_eq C 41 dX9_thing_31 (by decide) (fun z => ?_) (fun z => ?_)
      · replace hw := hw.1 z
        refine j_aload_n C 0 dX9_thing_41 rfl ?_
        refine j_get C fl_X9_44_9 1 dX9_thing_42 rfl rfl ?_
        refine j_get C fl_X9_124_2 2 dX9_thing_45 rfl rfl ?_
        refine j_istore_n C [(3, .int lsz), (0, .ref (aF 0)), (1, .int a1), (2, .int a2)] dX9_thing_48 (by decide) rfl ?_
        refine j_aload_n C 1 dX9_thing_49 rfl ?_
        refine j_get C fl_X9_44_9 1 dX9_thing_50 rfl rfl ?_
        refine j_iload_n C 2 dX9_thing_53 rfl ?_
        refine j_iload_n C 3 dX9_thing_54 rfl ?_
        refine j_iconst C (-1) dX9_thing_55 (by decide) ?_
        refine j_iconst C 0 dX9_thing_56 (by decide) ?_
        refine j_cvT C hB 2 11 (fun u5 : (Nat → Int32) × (Nat → Int32) × (Nat → Int32) × (Nat → Int32) × (Int32) => ((wD ca (aF 2) fd) ++ ((wF (aF 0) (aL 0) (aT 0) (aK 0) (tp 0) (aF 1) (aF 2) ik) ++ (wC ca aL (nd 0) lsk lze lma u5.1 u5.2.1 u5.2.2.1 u5.2.2.2.1 lhe lyr u5.2.2.2.2)))) rfl (fun _ => rfl) (jr_V C lkV_X9_128 (c_X2_add aL (nd 0) lsk lze lma lki ldn lwi ldu lhe lyr lsz a1 a2 (-1) 0 hw) ⟨rfl, rfl, by decide, by decide, by decide, by decide⟩ [2, 3, 4, 5, 6, 7, 8, 9, 10] (by decide) rfl (fx_rw C hB [2, 3, 4, 5, 6, 7, 8, 9, 10] rfl) 2 2 rfl rfl rfl rfl (Nat.le_of_ble_eq_true rfl) dX9_thing_57) (fun u5 hw => ?_)
        refine j_iload_n C 0 dX9_thing_60 rfl ?_
        exact j_iret C hB hR (fd, u5.1, u5.2.1, u5.2.2.1, u5.2.2.2.1, u5.2.2.2.2) rfl dX9_thing_61 hw rfl
      · replace hw := hw.2 z
        refine j_aload_n C 0 dX9_thing_34 rfl ?_
        refine j_ldc C dX9_thing_35 ct_X9_123 ?_
        refine j_ciT C hB 0 2 (fun u6 : (Nat → Int32) => ((wD ca (aF 2) u6) ++ ((wF (aF 0) (aL 0) (aT 0) (aK 0) (tp 0) (aF 1) (aF 2) ik) ++ (wC ca aL (nd 0) lsk lze lma lki ldn lwi ldu lhe lyr lsz)))) rfl (fun _ => rfl) (jr_V C lkV_X9_83 (c_X9_found aF aL aT aK nd tp fd ik (-1000000002) hw) ⟨rfl, rfl, by decide, by decide, by decide, by decide⟩ [0, 1] (by decide) rfl (fx_rw C hB [0, 1] rfl) 1 9 rfl rfl rfl rfl (Nat.le_of_ble_eq_true rfl) dX9_thing_37) (fun r6 u6 hw => ?_)
        exact j_iret C hB hR (u6, lki, ldn, lwi, ldu, lsz) rfl dX9_thing_40 hw rfl
    · replace hw := hw.1 z
      refine j_aload_n C 0 dX9_thing_17 rfl ?_
      refine j_ldc C dX9_thing_18 ct_X9_82 ?_
      refine j_ciT C hB 0 2 (fun u7 : (Nat → Int32) => ((wD ca (aF 2) u7) ++ ((wF (aF 0) (aL 0) (aT 0) (aK 0) (tp 0) (aF 1) (aF 2) ik) ++ (wC ca aL (nd 0) lsk lze lma lki ldn lwi ldu lhe lyr lsz)))) rfl (fun _ => rfl) (jr_V C lkV_X9_83 (c_X9_found aF aL aT aK nd tp fd ik (-1000000001) hw) ⟨rfl, rfl, by decide, by decide, by decide, by decide⟩ [0, 1] (by decide) rfl (fx_rw C hB [0, 1] rfl) 1 9 rfl rfl rfl rfl (Nat.le_of_ble_eq_true rfl) dX9_thing_20) (fun r7 u7 hw => ?_)
      exact j_iret C hB hR (u7, lki, ldn, lwi, ldu, lsz) rfl dX9_thing_23 hw rfl
def wp_X9_of (fd : Nat → Int32) (lki : Nat → Int32) (ldn : Nat → Int32) (lwi : Nat → Int32) (ldu : Nat → Int32) (lsz : Int32)  (a1 : Int32) (a2 : Int32) (Q : (Int32) → (Nat → Int32) → Prop) : Prop := wp_X9_isThing lsz a1 (fun r1 => (r1 = 0 → wp_X9_found fd (-1000000001) (fun r13 c13_0 => Q r13 c13_0)) ∧ (¬ (r1 = 0) → (a2 = 0 → vp_in a1 8 ∧ (Q (lki (a1.toNatClampNeg)) fd)) ∧ (¬ (a2 = 0) → (a2 = 1 → vp_in a1 8 ∧ (Q (ldn (a1.toNatClampNeg)) fd)) ∧ (¬ (a2 = 1) → (a2 = 2 → vp_in a1 8 ∧ (Q (lwi (a1.toNatClampNeg)) fd)) ∧ (¬ (a2 = 2) → (a2 = 3 → vp_in a1 8 ∧ (Q (ldu (a1.toNatClampNeg)) fd)) ∧ (¬ (a2 = 3) → (a2 = 4 → wp_X2_natureOf lki a1 (fun c6_0 => wpv_tires c6_0 (fun r7 => Q r7 fd))) ∧ (¬ (a2 = 4) → (a2 = 5 → wp_X2_natureOf lki a1 (fun c8_0 => vp_in a1 8 ∧ (vp_in a1 8 ∧ (wpv_asked c8_0 (ldn (a1.toNatClampNeg)) (ldu (a1.toNatClampNeg)) (fun r11 => Q r11 fd))))) ∧ (¬ (a2 = 5) → wp_X9_found fd (-1000000001) (fun r12 c12_0 => Q r12 c12_0)))))))))
set_option maxRecDepth 100000 in
set_option maxHeartbeats 8000000 in
theorem c_X9_of {l : Launch} {D : va_G} {ca : Nat → ClassId} {sd : Nat → Nat}  (aF : Nat → Nat) (aL : Nat → Nat) (aT : Nat → Nat) (aK : Nat → Nat) (nd : Nat → Nat) (tp : Nat → Nat) (fd : Nat → Int32) (ik : Int32) (lsk : Nat → Int32) (lze : Nat → Int32) (lma : Nat → Int32) (lki : Nat → Int32) (ldn : Nat → Int32) (lwi : Nat → Int32) (ldu : Nat → Int32) (lhe : Nat → Int32) (lyr : Int32) (lsz : Int32)  (a1 : Int32) (a2 : Int32)  {Q : (Int32) → (Nat → Int32) → Prop} (hw : wp_X9_of fd lki ldn lwi ldu lsz  a1 a2 Q) : Cn l D ca sd yX9_of cX9_of 3 (some .int) { frames := 4, cells := 0, slots := 0, locals := 110 } [.ref (aF 0), .int a1, .int a2] ((wD ca (aF 2) fd) ++ ((wF (aF 0) (aL 0) (aT 0) (aK 0) (tp 0) (aF 1) (aF 2) ik) ++ ((wN ca nd sd) ++ (wC ca aL (nd 0) lsk lze lma lki ldn lwi ldu lhe lyr lsz)))) ((wD ca (aF 2) fd) ++ ((wF (aF 0) (aL 0) (aT 0) (aK 0) (tp 0) (aF 1) (aF 2) ik) ++ ((wN ca nd sd) ++ (wC ca aL (nd 0) lsk lze lma lki ldn lwi ldu lhe lyr lsz)))) 0 0 (Ri D (fun (r : Int32) (u : (Nat → Int32)) => Q r u) (fun u => ((wD ca (aF 2) u) ++ ((wF (aF 0) (aL 0) (aT 0) (aK 0) (tp 0) (aF 1) (aF 2) ik) ++ ((wN ca nd sd) ++ (wC ca aL (nd 0) lsk lze lma lki ldn lwi ldu lhe lyr lsz)))))) := by
  refine cn_of (by decide) (Nat.le_of_ble_eq_true rfl) (fun k C hR hB _ => ?_)
  have C : Cx D ca sd cX9_of RX9 (some .int) { frames := 4, cells := 0, slots := 0, locals := 110 } k 3 := C
  unfold wp_X9_of at hw
  show J l D k 3 0 0 0 ((wD ca (aF 2) fd) ++ ((wF (aF 0) (aL 0) (aT 0) (aK 0) (tp 0) (aF 1) (aF 2) ik) ++ ((wN ca nd sd) ++ (wC ca aL (nd 0) lsk lze lma lki ldn lwi ldu lhe lyr lsz)))) [(0, .ref (aF 0)), (1, .int a1), (2, .int a2)] []
  refine j_aload_n C 0 dX9_of_0 rfl ?_
  refine j_iload_n C 1 dX9_of_1 rfl ?_
  refine j_ciZ C (jr_V C lkV_X9_132 (c_X9_isThing aF aL aT aK nd tp ik lsk lze lma lki ldn lwi ldu lhe lyr lsz a1 hw) ⟨rfl, rfl, by decide, by decide, by decide, by decide⟩ [1, 9, 10, 11, 12, 13, 14, 15, 16, 17] (by decide) rfl (fx_ro C) 1 9 rfl rfl rfl rfl (Nat.le_of_ble_eq_true rfl) dX9_of_2) (fun r1 u1 hw => ?_)
  refine j_if_ne C 15 dX9_of_5 (by decide) (fun z => ?_) (fun z => ?_)
  · replace hw := hw.2 z
    refine j_iload_n C 2 dX9_of_15 rfl ?_
    by_cases z1 : a2 = 0
    · replace hw := hw.1 z1
      refine j_tabIn (off := 40) C 0 56 dX9_of_16 z1 (by decide) (by decide) (by decide) (by decide) ?_
      refine j_aload_n C 0 dX9_of_56 rfl ?_
      refine j_get C fl_X9_44_9 1 dX9_of_57 rfl rfl ?_
      refine j_get C fl_X9_135_2 9 dX9_of_60 rfl rfl ?_
      refine j_iload_n C 1 dX9_of_63 rfl ?_
      have hi2 := hw.1
      replace hw := hw.2
      refine j_iald C 13 dX9_of_64 rfl hi2 ?_
      exact j_iret C hB hR fd rfl dX9_of_65 hw rfl
    · replace hw := hw.2 z1
      by_cases z2 : a2 = 1
      · replace hw := hw.1 z2
        refine j_tabIn (off := 50) C 1 66 dX9_of_16 z2 (by decide) (by decide) (by decide) (by decide) ?_
        refine j_aload_n C 0 dX9_of_66 rfl ?_
        refine j_get C fl_X9_44_9 1 dX9_of_67 rfl rfl ?_
        refine j_get C fl_X9_138_2 9 dX9_of_70 rfl rfl ?_
        refine j_iload_n C 1 dX9_of_73 rfl ?_
        have hi3 := hw.1
        replace hw := hw.2
        refine j_iald C 14 dX9_of_74 rfl hi3 ?_
        exact j_iret C hB hR fd rfl dX9_of_75 hw rfl
      · replace hw := hw.2 z2
        by_cases z3 : a2 = 2
        · replace hw := hw.1 z3
          refine j_tabIn (off := 60) C 2 76 dX9_of_16 z3 (by decide) (by decide) (by decide) (by decide) ?_
          refine j_aload_n C 0 dX9_of_76 rfl ?_
          refine j_get C fl_X9_44_9 1 dX9_of_77 rfl rfl ?_
          refine j_get C fl_X9_141_2 9 dX9_of_80 rfl rfl ?_
          refine j_iload_n C 1 dX9_of_83 rfl ?_
          have hi4 := hw.1
          replace hw := hw.2
          refine j_iald C 15 dX9_of_84 rfl hi4 ?_
          exact j_iret C hB hR fd rfl dX9_of_85 hw rfl
        · replace hw := hw.2 z3
          by_cases z4 : a2 = 3
          · replace hw := hw.1 z4
            refine j_tabIn (off := 70) C 3 86 dX9_of_16 z4 (by decide) (by decide) (by decide) (by decide) ?_
            refine j_aload_n C 0 dX9_of_86 rfl ?_
            refine j_get C fl_X9_44_9 1 dX9_of_87 rfl rfl ?_
            refine j_get C fl_X9_144_2 9 dX9_of_90 rfl rfl ?_
            refine j_iload_n C 1 dX9_of_93 rfl ?_
            have hi5 := hw.1
            replace hw := hw.2
            refine j_iald C 16 dX9_of_94 rfl hi5 ?_
            exact j_iret C hB hR fd rfl dX9_of_95 hw rfl
          · replace hw := hw.2 z4
            by_cases z5 : a2 = 4
            · replace hw := hw.1 z5
              refine j_tabIn (off := 80) C 4 96 dX9_of_16 z5 (by decide) (by decide) (by decide) (by decide) ?_
              refine j_aload_n C 0 dX9_of_96 rfl ?_
              refine j_get C fl_X9_44_9 1 dX9_of_97 rfl rfl ?_
              refine j_iload_n C 1 dX9_of_100 rfl ?_
              refine j_crZ C (jr_V C lkV_X9_147 (c_X2_natureOf nd aL lsk lze lma lki ldn lwi ldu lhe lyr lsz a1 hw) ⟨rfl, rfl, by decide, by decide, by decide, by decide⟩ [2, 3, 4, 5, 6, 7, 8, 9, 10, 11, 12, 13, 14, 15, 16, 17] rfl rfl (fx_ro C) 9 2 rfl rfl rfl rfl (Nat.le_of_ble_eq_true rfl) dX9_of_101) (fun u6 hw => ?_)
              refine j_ciZ C (jk_X9_151 C nd 3 u6  _ hw (by intro j hj; match j, hj with | 0, _ => rfl | 1, _ => rfl | 2, _ => rfl | 3, _ => rfl | 4, _ => rfl | 5, _ => rfl) (by decide) (by decide) (Nat.le_of_ble_eq_true rfl) dX9_of_104) (fun r7 u7 hw => ?_)
              exact j_iret C hB hR fd rfl dX9_of_107 hw rfl
            · replace hw := hw.2 z5
              by_cases z6 : a2 = 5
              · replace hw := hw.1 z6
                refine j_tabIn (off := 92) C 5 108 dX9_of_16 z6 (by decide) (by decide) (by decide) (by decide) ?_
                refine j_aload_n C 0 dX9_of_108 rfl ?_
                refine j_get C fl_X9_44_9 1 dX9_of_109 rfl rfl ?_
                refine j_iload_n C 1 dX9_of_112 rfl ?_
                refine j_crZ C (jr_V C lkV_X9_147 (c_X2_natureOf nd aL lsk lze lma lki ldn lwi ldu lhe lyr lsz a1 hw) ⟨rfl, rfl, by decide, by decide, by decide, by decide⟩ [2, 3, 4, 5, 6, 7, 8, 9, 10, 11, 12, 13, 14, 15, 16, 17] rfl rfl (fx_ro C) 9 2 rfl rfl rfl rfl (Nat.le_of_ble_eq_true rfl) dX9_of_113) (fun u8 hw => ?_)
                refine j_aload_n C 0 dX9_of_116 rfl ?_
                refine j_get C fl_X9_44_9 1 dX9_of_117 rfl rfl ?_
                refine j_get C fl_X9_138_2 9 dX9_of_120 rfl rfl ?_
                refine j_iload_n C 1 dX9_of_123 rfl ?_
                have hi9 := hw.1
                replace hw := hw.2
                refine j_iald C 14 dX9_of_124 rfl hi9 ?_
                refine j_aload_n C 0 dX9_of_125 rfl ?_
                refine j_get C fl_X9_44_9 1 dX9_of_126 rfl rfl ?_
                refine j_get C fl_X9_144_2 9 dX9_of_129 rfl rfl ?_
                refine j_iload_n C 1 dX9_of_132 rfl ?_
                have hi10 := hw.1
                replace hw := hw.2
                refine j_iald C 16 dX9_of_133 rfl hi10 ?_
                refine j_ciZ C (jk_X9_154 C nd 3 u8 (ldn (a1.toNatClampNeg)) (ldu (a1.toNatClampNeg)) _ hw (by intro j hj; match j, hj with | 0, _ => rfl | 1, _ => rfl | 2, _ => rfl | 3, _ => rfl | 4, _ => rfl | 5, _ => rfl) (by decide) (by decide) (Nat.le_of_ble_eq_true rfl) dX9_of_134) (fun r11 u11 hw => ?_)
                exact j_iret C hB hR fd rfl dX9_of_137 hw rfl
              · replace hw := hw.2 z6
                refine j_tabOut C 138 dX9_of_16 (by have qz1 := lv_neT z1 (show (0 : Int32).toInt = 0 from rfl); have qz2 := lv_neT z2 (show (1 : Int32).toInt = 1 from rfl); have qz3 := lv_neT z3 (show (2 : Int32).toInt = 2 from rfl); have qz4 := lv_neT z4 (show (3 : Int32).toInt = 3 from rfl); have qz5 := lv_neT z5 (show (4 : Int32).toInt = 4 from rfl); have qz6 := lv_neT z6 (show (5 : Int32).toInt = 5 from rfl); omega) (by decide) ?_
                refine j_aload_n C 0 dX9_of_138 rfl ?_
                refine j_ldc C dX9_of_139 ct_X9_82 ?_
                refine j_ciT C hB 0 2 (fun u12 : (Nat → Int32) => ((wD ca (aF 2) u12) ++ ((wF (aF 0) (aL 0) (aT 0) (aK 0) (tp 0) (aF 1) (aF 2) ik) ++ ((wN ca nd sd) ++ (wC ca aL (nd 0) lsk lze lma lki ldn lwi ldu lhe lyr lsz))))) rfl (fun _ => rfl) (jr_V C lkV_X9_83 (c_X9_found aF aL aT aK nd tp fd ik (-1000000001) hw) ⟨rfl, rfl, by decide, by decide, by decide, by decide⟩ [0, 1] (by decide) rfl (fx_rw C hB [0, 1] rfl) 1 9 rfl rfl rfl rfl (Nat.le_of_ble_eq_true rfl) dX9_of_141) (fun r12 u12 hw => ?_)
                exact j_iret C hB hR u12 rfl dX9_of_144 hw rfl
  · replace hw := hw.1 z
    refine j_aload_n C 0 dX9_of_8 rfl ?_
    refine j_ldc C dX9_of_9 ct_X9_82 ?_
    refine j_ciT C hB 0 2 (fun u13 : (Nat → Int32) => ((wD ca (aF 2) u13) ++ ((wF (aF 0) (aL 0) (aT 0) (aK 0) (tp 0) (aF 1) (aF 2) ik) ++ ((wN ca nd sd) ++ (wC ca aL (nd 0) lsk lze lma lki ldn lwi ldu lhe lyr lsz))))) rfl (fun _ => rfl) (jr_V C lkV_X9_83 (c_X9_found aF aL aT aK nd tp fd ik (-1000000001) hw) ⟨rfl, rfl, by decide, by decide, by decide, by decide⟩ [0, 1] (by decide) rfl (fx_rw C hB [0, 1] rfl) 1 9 rfl rfl rfl rfl (Nat.le_of_ble_eq_true rfl) dX9_of_11) (fun r13 u13 hw => ?_)
    exact j_iret C hB hR u13 rfl dX9_of_14 hw rfl
def wp_X9_by (fd : Nat → Int32) (lsk : Nat → Int32) (lki : Nat → Int32) (ldn : Nat → Int32) (ldu : Nat → Int32) (lsz : Int32)  (a1 : Int32) (a2 : Int32) (a3 : Int32) (Q : (Int32) → (Nat → Int32) → Prop) : Prop := wp_X9_isThing lsz a1 (fun r1 => (r1 = 0 → wp_X9_found fd (-1000000001) (fun r2 c2_0 => Q r2 c2_0)) ∧ (¬ (r1 = 0) → wp_X9_isPerson a2 (fun r3 => (r3 = 0 → wp_X9_found fd (-1000000001) (fun r13 c13_0 => Q r13 c13_0)) ∧ (¬ (r3 = 0) → wp_X2_natureOf lki a1 (fun c4_0 => vp_in a2 6 ∧ ((a3 = 0 → vp_in a1 8 ∧ (vp_in a1 8 ∧ (wpv_goesOn c4_0 (lsk (a2.toNatClampNeg)) (ldn (a1.toNatClampNeg)) (ldu (a1.toNatClampNeg)) (fun r8 => Q r8 fd)))) ∧ (¬ (a3 = 0) → (a3 = 1 → vp_in a1 8 ∧ (vp_in a1 8 ∧ (wpv_bid c4_0 (lsk (a2.toNatClampNeg)) (ldn (a1.toNatClampNeg)) (ldu (a1.toNatClampNeg)) (fun r11 => Q r11 fd)))) ∧ (¬ (a3 = 1) → wp_X9_found fd (-1000000001) (fun r12 c12_0 => Q r12 c12_0)))))))))
set_option maxRecDepth 100000 in
set_option maxHeartbeats 8000000 in
theorem c_X9_by {l : Launch} {D : va_G} {ca : Nat → ClassId} {sd : Nat → Nat}  (aF : Nat → Nat) (aL : Nat → Nat) (aT : Nat → Nat) (aK : Nat → Nat) (nd : Nat → Nat) (tp : Nat → Nat) (fd : Nat → Int32) (ik : Int32) (lsk : Nat → Int32) (lze : Nat → Int32) (lma : Nat → Int32) (lki : Nat → Int32) (ldn : Nat → Int32) (lwi : Nat → Int32) (ldu : Nat → Int32) (lhe : Nat → Int32) (lyr : Int32) (lsz : Int32)  (a1 : Int32) (a2 : Int32) (a3 : Int32)  {Q : (Int32) → (Nat → Int32) → Prop} (hw : wp_X9_by fd lsk lki ldn ldu lsz  a1 a2 a3 Q) : Cn l D ca sd yX9_by cX9_by 6 (some .int) { frames := 4, cells := 0, slots := 0, locals := 110 } [.ref (aF 0), .int a1, .int a2, .int a3] ((wD ca (aF 2) fd) ++ ((wF (aF 0) (aL 0) (aT 0) (aK 0) (tp 0) (aF 1) (aF 2) ik) ++ ((wN ca nd sd) ++ (wC ca aL (nd 0) lsk lze lma lki ldn lwi ldu lhe lyr lsz)))) ((wD ca (aF 2) fd) ++ ((wF (aF 0) (aL 0) (aT 0) (aK 0) (tp 0) (aF 1) (aF 2) ik) ++ ((wN ca nd sd) ++ (wC ca aL (nd 0) lsk lze lma lki ldn lwi ldu lhe lyr lsz)))) 0 0 (Ri D (fun (r : Int32) (u : (Nat → Int32)) => Q r u) (fun u => ((wD ca (aF 2) u) ++ ((wF (aF 0) (aL 0) (aT 0) (aK 0) (tp 0) (aF 1) (aF 2) ik) ++ ((wN ca nd sd) ++ (wC ca aL (nd 0) lsk lze lma lki ldn lwi ldu lhe lyr lsz)))))) := by
  refine cn_of (by decide) (Nat.le_of_ble_eq_true rfl) (fun k C hR hB _ => ?_)
  have C : Cx D ca sd cX9_by RX9 (some .int) { frames := 4, cells := 0, slots := 0, locals := 110 } k 6 := C
  unfold wp_X9_by at hw
  show J l D k 6 0 0 0 ((wD ca (aF 2) fd) ++ ((wF (aF 0) (aL 0) (aT 0) (aK 0) (tp 0) (aF 1) (aF 2) ik) ++ ((wN ca nd sd) ++ (wC ca aL (nd 0) lsk lze lma lki ldn lwi ldu lhe lyr lsz)))) [(0, .ref (aF 0)), (1, .int a1), (2, .int a2), (3, .int a3)] []
  refine j_aload_n C 0 dX9_by_0 rfl ?_
  refine j_iload_n C 1 dX9_by_1 rfl ?_
  refine j_ciZ C (jr_V C lkV_X9_132 (c_X9_isThing aF aL aT aK nd tp ik lsk lze lma lki ldn lwi ldu lhe lyr lsz a1 hw) ⟨rfl, rfl, by decide, by decide, by decide, by decide⟩ [1, 9, 10, 11, 12, 13, 14, 15, 16, 17] (by decide) rfl (fx_ro C) 1 9 rfl rfl rfl rfl (Nat.le_of_ble_eq_true rfl) dX9_by_2) (fun r1 u1 hw => ?_)
  refine j_if_eq C 15 dX9_by_5 (by decide) (fun z => ?_) (fun z => ?_)
  · replace hw := hw.1 z
    refine j_aload_n C 0 dX9_by_15 rfl ?_
    refine j_ldc C dX9_by_16 ct_X9_82 ?_
    refine j_ciT C hB 0 2 (fun u2 : (Nat → Int32) => ((wD ca (aF 2) u2) ++ ((wF (aF 0) (aL 0) (aT 0) (aK 0) (tp 0) (aF 1) (aF 2) ik) ++ ((wN ca nd sd) ++ (wC ca aL (nd 0) lsk lze lma lki ldn lwi ldu lhe lyr lsz))))) rfl (fun _ => rfl) (jr_V C lkV_X9_83 (c_X9_found aF aL aT aK nd tp fd ik (-1000000001) hw) ⟨rfl, rfl, by decide, by decide, by decide, by decide⟩ [0, 1] (by decide) rfl (fx_rw C hB [0, 1] rfl) 1 9 rfl rfl rfl rfl (Nat.le_of_ble_eq_true rfl) dX9_by_18) (fun r2 u2 hw => ?_)
    exact j_iret C hB hR u2 rfl dX9_by_21 hw rfl
  · replace hw := hw.2 z
    refine j_iload_n C 2 dX9_by_8 rfl ?_
    refine j_ciZ C (jr_S C lkS_X9_78 (c_X9_isPerson a2 hw) ⟨rfl, rfl, by decide, by decide, by decide, by decide⟩ [] (by decide) rfl (fx_ro C) rfl rfl (Nat.le_of_ble_eq_true rfl) dX9_by_9) (fun r3 u3 hw => ?_)
    refine j_if_ne C 22 dX9_by_12 (by decide) (fun z => ?_) (fun z => ?_)
    · replace hw := hw.2 z
      refine j_aload_n C 0 dX9_by_22 rfl ?_
      refine j_get C fl_X9_44_9 1 dX9_by_23 rfl rfl ?_
      refine j_iload_n C 1 dX9_by_26 rfl ?_
      refine j_crZ C (jr_V C lkV_X9_147 (c_X2_natureOf nd aL lsk lze lma lki ldn lwi ldu lhe lyr lsz a1 hw) ⟨rfl, rfl, by decide, by decide, by decide, by decide⟩ [2, 3, 4, 5, 6, 7, 8, 9, 10, 11, 12, 13, 14, 15, 16, 17] rfl rfl (fx_ro C) 9 2 rfl rfl rfl rfl (Nat.le_of_ble_eq_true rfl) dX9_by_27) (fun u4 hw => ?_)
      refine j_astore C [(4, .ref (nd (u4 + 1))), (0, .ref (aF 0)), (1, .int a1), (2, .int a2), (3, .int a3)] dX9_by_30 (by decide) rfl ?_
      refine j_aload_n C 1 dX9_by_32 rfl ?_
      refine j_get C fl_X9_44_9 1 dX9_by_33 rfl rfl ?_
      refine j_get C fl_X9_91_2 9 dX9_by_36 rfl rfl ?_
      refine j_iload_n C 3 dX9_by_39 rfl ?_
      have hi5 := hw.1
      replace hw := hw.2
      refine j_iald C 10 dX9_by_40 rfl hi5 ?_
      refine j_istore C [(5, .int (lsk (a2.toNatClampNeg))), (4, .ref (nd (u4 + 1))), (0, .ref (aF 0)), (1, .int a1), (2, .int a2), (3, .int a3)] dX9_by_41 (by decide) rfl ?_
      refine j_iload_n C 5 dX9_by_43 rfl ?_
      by_cases z1 : a3 = 0
      · replace hw := hw.1 z1
        refine j_look (off := 28) C 72 dX9_by_44 (by decide) (by rw [z1]; rfl) (by decide) ?_
        refine j_aload C 1 dX9_by_72 rfl ?_
        refine j_iload C 0 dX9_by_74 rfl ?_
        refine j_aload_n C 2 dX9_by_76 rfl ?_
        refine j_get C fl_X9_44_9 1 dX9_by_77 rfl rfl ?_
        refine j_get C fl_X9_138_2 9 dX9_by_80 rfl rfl ?_
        refine j_iload_n C 3 dX9_by_83 rfl ?_
        have hi6 := hw.1
        replace hw := hw.2
        refine j_iald C 14 dX9_by_84 rfl hi6 ?_
        refine j_aload_n C 2 dX9_by_85 rfl ?_
        refine j_get C fl_X9_44_9 1 dX9_by_86 rfl rfl ?_
        refine j_get C fl_X9_144_2 9 dX9_by_89 rfl rfl ?_
        refine j_iload_n C 3 dX9_by_92 rfl ?_
        have hi7 := hw.1
        replace hw := hw.2
        refine j_iald C 16 dX9_by_93 rfl hi7 ?_
        refine j_ciZ C (jk_X9_158 C nd 3 u4 (lsk (a2.toNatClampNeg)) (ldn (a1.toNatClampNeg)) (ldu (a1.toNatClampNeg)) _ hw (by intro j hj; match j, hj with | 0, _ => rfl | 1, _ => rfl | 2, _ => rfl | 3, _ => rfl | 4, _ => rfl | 5, _ => rfl) (by decide) (by decide) (Nat.le_of_ble_eq_true rfl) dX9_by_94) (fun r8 u8 hw => ?_)
        exact j_iret C hB hR fd rfl dX9_by_97 hw rfl
      · replace hw := hw.2 z1
        by_cases z2 : a3 = 1
        · replace hw := hw.1 z2
          refine j_look (off := 54) C 98 dX9_by_44 (by decide) (by rw [z2]; rfl) (by decide) ?_
          refine j_aload C 1 dX9_by_98 rfl ?_
          refine j_iload C 0 dX9_by_100 rfl ?_
          refine j_aload_n C 2 dX9_by_102 rfl ?_
          refine j_get C fl_X9_44_9 1 dX9_by_103 rfl rfl ?_
          refine j_get C fl_X9_138_2 9 dX9_by_106 rfl rfl ?_
          refine j_iload_n C 3 dX9_by_109 rfl ?_
          have hi9 := hw.1
          replace hw := hw.2
          refine j_iald C 14 dX9_by_110 rfl hi9 ?_
          refine j_aload_n C 2 dX9_by_111 rfl ?_
          refine j_get C fl_X9_44_9 1 dX9_by_112 rfl rfl ?_
          refine j_get C fl_X9_144_2 9 dX9_by_115 rfl rfl ?_
          refine j_iload_n C 3 dX9_by_118 rfl ?_
          have hi10 := hw.1
          replace hw := hw.2
          refine j_iald C 16 dX9_by_119 rfl hi10 ?_
          refine j_ciZ C (jk_X9_162 C nd 3 u4 (lsk (a2.toNatClampNeg)) (ldn (a1.toNatClampNeg)) (ldu (a1.toNatClampNeg)) _ hw (by intro j hj; match j, hj with | 0, _ => rfl | 1, _ => rfl | 2, _ => rfl | 3, _ => rfl | 4, _ => rfl | 5, _ => rfl) (by decide) (by decide) (Nat.le_of_ble_eq_true rfl) dX9_by_120) (fun r11 u11 hw => ?_)
          exact j_iret C hB hR fd rfl dX9_by_123 hw rfl
        · replace hw := hw.2 z2
          refine j_look (off := 80) C 124 dX9_by_44 (by decide) (Eq.trans (lv_osw (a := 0) (o := 28) (d := 80) (r := [(1, 54)]) z1 rfl) (Eq.trans (lv_osw (a := 1) (o := 54) (d := 80) (r := []) z2 rfl) rfl)) (by decide) ?_
          refine j_aload_n C 2 dX9_by_124 rfl ?_
          refine j_ldc C dX9_by_125 ct_X9_82 ?_
          refine j_ciT C hB 0 2 (fun u12 : (Nat → Int32) => ((wD ca (aF 2) u12) ++ ((wF (aF 0) (aL 0) (aT 0) (aK 0) (tp 0) (aF 1) (aF 2) ik) ++ ((wN ca nd sd) ++ (wC ca aL (nd 0) lsk lze lma lki ldn lwi ldu lhe lyr lsz))))) rfl (fun _ => rfl) (jr_V C lkV_X9_83 (c_X9_found aF aL aT aK nd tp fd ik (-1000000001) hw) ⟨rfl, rfl, by decide, by decide, by decide, by decide⟩ [0, 1] (by decide) rfl (fx_rw C hB [0, 1] rfl) 1 9 rfl rfl rfl rfl (Nat.le_of_ble_eq_true rfl) dX9_by_127) (fun r12 u12 hw => ?_)
          exact j_iret C hB hR u12 rfl dX9_by_130 hw rfl
    · replace hw := hw.1 z
      refine j_aload_n C 0 dX9_by_15 rfl ?_
      refine j_ldc C dX9_by_16 ct_X9_82 ?_
      refine j_ciT C hB 0 2 (fun u13 : (Nat → Int32) => ((wD ca (aF 2) u13) ++ ((wF (aF 0) (aL 0) (aT 0) (aK 0) (tp 0) (aF 1) (aF 2) ik) ++ ((wN ca nd sd) ++ (wC ca aL (nd 0) lsk lze lma lki ldn lwi ldu lhe lyr lsz))))) rfl (fun _ => rfl) (jr_V C lkV_X9_83 (c_X9_found aF aL aT aK nd tp fd ik (-1000000001) hw) ⟨rfl, rfl, by decide, by decide, by decide, by decide⟩ [0, 1] (by decide) rfl (fx_rw C hB [0, 1] rfl) 1 9 rfl rfl rfl rfl (Nat.le_of_ble_eq_true rfl) dX9_by_18) (fun r13 u13 hw => ?_)
      exact j_iret C hB hR u13 rfl dX9_by_21 hw rfl
def wp_X9_set (fd : Nat → Int32) (ldn : Nat → Int32) (lwi : Nat → Int32) (ldu : Nat → Int32) (lsz : Int32)  (a1 : Int32) (a2 : Int32) (a3 : Int32) (Q : (Int32) → (Nat → Int32) → (Nat → Int32) → (Nat → Int32) → (Nat → Int32) → Prop) : Prop := wp_X9_isThing lsz a1 (fun r1 => (r1 = 0 → wp_X9_found fd (-1000000001) (fun r12 c12_0 => Q r12 c12_0 ldn lwi ldu)) ∧ (¬ (r1 = 0) → (a2 = 1 → wp_X9_isWithin a3 0 100 (fun r2 => (r2 = 0 → wp_X9_found fd (-1000000001) (fun r3 c3_0 => Q r3 c3_0 ldn lwi ldu)) ∧ (¬ (r2 = 0) → wp_X9_exchange ldn 8 a1 a3 (fun r4 c4_0 => Q r4 fd c4_0 lwi ldu)))) ∧ (¬ (a2 = 1) → (a2 = 2 → wp_X9_isWithin a3 (-1) 5 (fun r5 => (r5 = 0 → wp_X9_found fd (-1000000001) (fun r6 c6_0 => Q r6 c6_0 ldn lwi ldu)) ∧ (¬ (r5 = 0) → wp_X9_exchange lwi 8 a1 a3 (fun r7 c7_0 => Q r7 fd ldn c7_0 ldu)))) ∧ (¬ (a2 = 2) → (a2 = 3 → wp_X9_isWithin a3 0 999 (fun r8 => (r8 = 0 → wp_X9_found fd (-1000000001) (fun r9 c9_0 => Q r9 c9_0 ldn lwi ldu)) ∧ (¬ (r8 = 0) → wp_X9_exchange ldu 8 a1 a3 (fun r10 c10_0 => Q r10 fd ldn lwi c10_0)))) ∧ (¬ (a2 = 3) → wp_X9_found fd (-1000000001) (fun r11 c11_0 => Q r11 c11_0 ldn lwi ldu))))))
set_option maxRecDepth 100000 in
set_option maxHeartbeats 8000000 in
theorem c_X9_set {l : Launch} {D : va_G} {ca : Nat → ClassId} {sd : Nat → Nat}  (aF : Nat → Nat) (aL : Nat → Nat) (aT : Nat → Nat) (aK : Nat → Nat) (nd : Nat → Nat) (tp : Nat → Nat) (fd : Nat → Int32) (ik : Int32) (lsk : Nat → Int32) (lze : Nat → Int32) (lma : Nat → Int32) (lki : Nat → Int32) (ldn : Nat → Int32) (lwi : Nat → Int32) (ldu : Nat → Int32) (lhe : Nat → Int32) (lyr : Int32) (lsz : Int32)  (a1 : Int32) (a2 : Int32) (a3 : Int32)  {Q : (Int32) → (Nat → Int32) → (Nat → Int32) → (Nat → Int32) → (Nat → Int32) → Prop} (hw : wp_X9_set fd ldn lwi ldu lsz  a1 a2 a3 Q) : Cn l D ca sd yX9_set cX9_set 4 (some .int) { frames := 2, cells := 0, slots := 0, locals := 44 } [.ref (aF 0), .int a1, .int a2, .int a3] ((wD ca (aF 2) fd) ++ ((wF (aF 0) (aL 0) (aT 0) (aK 0) (tp 0) (aF 1) (aF 2) ik) ++ (wC ca aL (nd 0) lsk lze lma lki ldn lwi ldu lhe lyr lsz))) ((wD ca (aF 2) fd) ++ ((wF (aF 0) (aL 0) (aT 0) (aK 0) (tp 0) (aF 1) (aF 2) ik) ++ (wC ca aL (nd 0) lsk lze lma lki ldn lwi ldu lhe lyr lsz))) 0 0 (Ri D (fun (r : Int32) (u : (Nat → Int32) × (Nat → Int32) × (Nat → Int32) × (Nat → Int32)) => Q r u.1 u.2.1 u.2.2.1 u.2.2.2) (fun u => ((wD ca (aF 2) u.1) ++ ((wF (aF 0) (aL 0) (aT 0) (aK 0) (tp 0) (aF 1) (aF 2) ik) ++ (wC ca aL (nd 0) lsk lze lma lki u.2.1 u.2.2.1 u.2.2.2 lhe lyr lsz))))) := by
  refine cn_of (by decide) (Nat.le_of_ble_eq_true rfl) (fun k C hR hB _ => ?_)
  have C : Cx D ca sd cX9_set RX9 (some .int) { frames := 2, cells := 0, slots := 0, locals := 44 } k 4 := C
  unfold wp_X9_set at hw
  show J l D k 4 0 0 0 ((wD ca (aF 2) fd) ++ ((wF (aF 0) (aL 0) (aT 0) (aK 0) (tp 0) (aF 1) (aF 2) ik) ++ (wC ca aL (nd 0) lsk lze lma lki ldn lwi ldu lhe lyr lsz))) [(0, .ref (aF 0)), (1, .int a1), (2, .int a2), (3, .int a3)] []
  refine j_aload_n C 0 dX9_set_0 rfl ?_
  refine j_iload_n C 1 dX9_set_1 rfl ?_
  refine j_ciZ C (jr_V C lkV_X9_132 (c_X9_isThing aF aL aT aK nd tp ik lsk lze lma lki ldn lwi ldu lhe lyr lsz a1 hw) ⟨rfl, rfl, by decide, by decide, by decide, by decide⟩ [1, 2, 3, 4, 5, 6, 7, 8, 9, 10] (by decide) rfl (fx_ro C) 1 9 rfl rfl rfl rfl (Nat.le_of_ble_eq_true rfl) dX9_set_2) (fun r1 u1 hw => ?_)
  refine j_if_ne C 15 dX9_set_5 (by decide) (fun z => ?_) (fun z => ?_)
  · replace hw := hw.2 z
    refine j_iload_n C 2 dX9_set_15 rfl ?_
    by_cases z1 : a2 = 1
    · replace hw := hw.1 z1
      refine j_tabIn (off := 28) C 1 44 dX9_set_16 z1 (by decide) (by decide) (by decide) (by decide) ?_
      refine j_iload_n C 3 dX9_set_44 rfl ?_
      refine j_iconst C 0 dX9_set_45 (by decide) ?_
      refine j_bipush C 100 dX9_set_46 (by decide) ?_
      refine j_ciZ C (jr_S C lkS_X9_87 (c_X9_isWithin a3 0 100 hw) ⟨rfl, rfl, by decide, by decide, by decide, by decide⟩ [] (by decide) rfl (fx_ro C) rfl rfl (Nat.le_of_ble_eq_true rfl) dX9_set_48) (fun r2 u2 hw => ?_)
      refine j_if_eq C 69 dX9_set_51 (by decide) (fun z => ?_) (fun z => ?_)
      · replace hw := hw.1 z
        refine j_aload_n C 0 dX9_set_69 rfl ?_
        refine j_ldc C dX9_set_70 ct_X9_82 ?_
        refine j_ciT C hB 0 2 (fun u3 : (Nat → Int32) => ((wD ca (aF 2) u3) ++ ((wF (aF 0) (aL 0) (aT 0) (aK 0) (tp 0) (aF 1) (aF 2) ik) ++ (wC ca aL (nd 0) lsk lze lma lki ldn lwi ldu lhe lyr lsz)))) rfl (fun _ => rfl) (jr_V C lkV_X9_83 (c_X9_found aF aL aT aK nd tp fd ik (-1000000001) hw) ⟨rfl, rfl, by decide, by decide, by decide, by decide⟩ [0, 1] (by decide) rfl (fx_rw C hB [0, 1] rfl) 1 9 rfl rfl rfl rfl (Nat.le_of_ble_eq_true rfl) dX9_set_72) (fun r3 u3 hw => ?_)
        exact j_iret C hB hR (u3, ldn, lwi, ldu) rfl dX9_set_75 hw rfl
      · replace hw := hw.2 z
        refine j_aload_n C 0 dX9_set_54 rfl ?_
        refine j_get C fl_X9_44_9 1 dX9_set_55 rfl rfl ?_
        refine j_get C fl_X9_138_2 2 dX9_set_58 rfl rfl ?_
        refine j_iload_n C 1 dX9_set_61 rfl ?_
        refine j_iload_n C 3 dX9_set_62 rfl ?_
        refine j_ciT C hB 7 8 (fun u4 : (Nat → Int32) => ((wD ca (aF 2) fd) ++ ((wF (aF 0) (aL 0) (aT 0) (aK 0) (tp 0) (aF 1) (aF 2) ik) ++ (wC ca aL (nd 0) lsk lze lma lki u4 lwi ldu lhe lyr lsz)))) rfl (fun _ => rfl) (jr_S C lkS_X9_94 (c_X9_exchange (aL 5) 8 ldn a1 a3 hw) ⟨rfl, rfl, by decide, by decide, by decide, by decide⟩ [7] (by decide) rfl (fx_rw C hB [7] rfl) rfl rfl (Nat.le_of_ble_eq_true rfl) dX9_set_63) (fun r4 u4 hw => ?_)
        refine j_goto C 75 dX9_set_66 (by decide) ?_
        exact j_iret C hB hR (fd, u4, lwi, ldu) rfl dX9_set_75 hw rfl
    · replace hw := hw.2 z1
      by_cases z2 : a2 = 2
      · replace hw := hw.1 z2
        refine j_tabIn (off := 60) C 2 76 dX9_set_16 z2 (by decide) (by decide) (by decide) (by decide) ?_
        refine j_iload_n C 3 dX9_set_76 rfl ?_
        refine j_iconst C (-1) dX9_set_77 (by decide) ?_
        refine j_iconst C 5 dX9_set_78 (by decide) ?_
        refine j_ciZ C (jr_S C lkS_X9_87 (c_X9_isWithin a3 (-1) 5 hw) ⟨rfl, rfl, by decide, by decide, by decide, by decide⟩ [] (by decide) rfl (fx_ro C) rfl rfl (Nat.le_of_ble_eq_true rfl) dX9_set_79) (fun r5 u5 hw => ?_)
        refine j_if_eq C 100 dX9_set_82 (by decide) (fun z => ?_) (fun z => ?_)
        · replace hw := hw.1 z
          refine j_aload_n C 0 dX9_set_100 rfl ?_
          refine j_ldc C dX9_set_101 ct_X9_82 ?_
          refine j_ciT C hB 0 2 (fun u6 : (Nat → Int32) => ((wD ca (aF 2) u6) ++ ((wF (aF 0) (aL 0) (aT 0) (aK 0) (tp 0) (aF 1) (aF 2) ik) ++ (wC ca aL (nd 0) lsk lze lma lki ldn lwi ldu lhe lyr lsz)))) rfl (fun _ => rfl) (jr_V C lkV_X9_83 (c_X9_found aF aL aT aK nd tp fd ik (-1000000001) hw) ⟨rfl, rfl, by decide, by decide, by decide, by decide⟩ [0, 1] (by decide) rfl (fx_rw C hB [0, 1] rfl) 1 9 rfl rfl rfl rfl (Nat.le_of_ble_eq_true rfl) dX9_set_103) (fun r6 u6 hw => ?_)
          exact j_iret C hB hR (u6, ldn, lwi, ldu) rfl dX9_set_106 hw rfl
        · replace hw := hw.2 z
          refine j_aload_n C 0 dX9_set_85 rfl ?_
          refine j_get C fl_X9_44_9 1 dX9_set_86 rfl rfl ?_
          refine j_get C fl_X9_141_2 2 dX9_set_89 rfl rfl ?_
          refine j_iload_n C 1 dX9_set_92 rfl ?_
          refine j_iload_n C 3 dX9_set_93 rfl ?_
          refine j_ciT C hB 8 9 (fun u7 : (Nat → Int32) => ((wD ca (aF 2) fd) ++ ((wF (aF 0) (aL 0) (aT 0) (aK 0) (tp 0) (aF 1) (aF 2) ik) ++ (wC ca aL (nd 0) lsk lze lma lki ldn u7 ldu lhe lyr lsz)))) rfl (fun _ => rfl) (jr_S C lkS_X9_94 (c_X9_exchange (aL 6) 8 lwi a1 a3 hw) ⟨rfl, rfl, by decide, by decide, by decide, by decide⟩ [8] (by decide) rfl (fx_rw C hB [8] rfl) rfl rfl (Nat.le_of_ble_eq_true rfl) dX9_set_94) (fun r7 u7 hw => ?_)
          refine j_goto C 106 dX9_set_97 (by decide) ?_
          exact j_iret C hB hR (fd, ldn, u7, ldu) rfl dX9_set_106 hw rfl
      · replace hw := hw.2 z2
        by_cases z3 : a2 = 3
        · replace hw := hw.1 z3
          refine j_tabIn (off := 91) C 3 107 dX9_set_16 z3 (by decide) (by decide) (by decide) (by decide) ?_
          refine j_iload_n C 3 dX9_set_107 rfl ?_
          refine j_iconst C 0 dX9_set_108 (by decide) ?_
          refine j_sipush C 999 dX9_set_109 (by decide) ?_
          refine j_ciZ C (jr_S C lkS_X9_87 (c_X9_isWithin a3 0 999 hw) ⟨rfl, rfl, by decide, by decide, by decide, by decide⟩ [] (by decide) rfl (fx_ro C) rfl rfl (Nat.le_of_ble_eq_true rfl) dX9_set_112) (fun r8 u8 hw => ?_)
          refine j_if_eq C 133 dX9_set_115 (by decide) (fun z => ?_) (fun z => ?_)
          · replace hw := hw.1 z
            refine j_aload_n C 0 dX9_set_133 rfl ?_
            refine j_ldc C dX9_set_134 ct_X9_82 ?_
            refine j_ciT C hB 0 2 (fun u9 : (Nat → Int32) => ((wD ca (aF 2) u9) ++ ((wF (aF 0) (aL 0) (aT 0) (aK 0) (tp 0) (aF 1) (aF 2) ik) ++ (wC ca aL (nd 0) lsk lze lma lki ldn lwi ldu lhe lyr lsz)))) rfl (fun _ => rfl) (jr_V C lkV_X9_83 (c_X9_found aF aL aT aK nd tp fd ik (-1000000001) hw) ⟨rfl, rfl, by decide, by decide, by decide, by decide⟩ [0, 1] (by decide) rfl (fx_rw C hB [0, 1] rfl) 1 9 rfl rfl rfl rfl (Nat.le_of_ble_eq_true rfl) dX9_set_136) (fun r9 u9 hw => ?_)
            exact j_iret C hB hR (u9, ldn, lwi, ldu) rfl dX9_set_139 hw rfl
          · replace hw := hw.2 z
            refine j_aload_n C 0 dX9_set_118 rfl ?_
            refine j_get C fl_X9_44_9 1 dX9_set_119 rfl rfl ?_
            refine j_get C fl_X9_144_2 2 dX9_set_122 rfl rfl ?_
            refine j_iload_n C 1 dX9_set_125 rfl ?_
            refine j_iload_n C 3 dX9_set_126 rfl ?_
            refine j_ciT C hB 9 10 (fun u10 : (Nat → Int32) => ((wD ca (aF 2) fd) ++ ((wF (aF 0) (aL 0) (aT 0) (aK 0) (tp 0) (aF 1) (aF 2) ik) ++ (wC ca aL (nd 0) lsk lze lma lki ldn lwi u10 lhe lyr lsz)))) rfl (fun _ => rfl) (jr_S C lkS_X9_94 (c_X9_exchange (aL 7) 8 ldu a1 a3 hw) ⟨rfl, rfl, by decide, by decide, by decide, by decide⟩ [9] (by decide) rfl (fx_rw C hB [9] rfl) rfl rfl (Nat.le_of_ble_eq_true rfl) dX9_set_127) (fun r10 u10 hw => ?_)
            refine j_goto C 139 dX9_set_130 (by decide) ?_
            exact j_iret C hB hR (fd, ldn, lwi, u10) rfl dX9_set_139 hw rfl
        · replace hw := hw.2 z3
          refine j_tabOut C 140 dX9_set_16 (by have qz1 := lv_neT z1 (show (1 : Int32).toInt = 1 from rfl); have qz2 := lv_neT z2 (show (2 : Int32).toInt = 2 from rfl); have qz3 := lv_neT z3 (show (3 : Int32).toInt = 3 from rfl); omega) (by decide) ?_
          refine j_aload_n C 0 dX9_set_140 rfl ?_
          refine j_ldc C dX9_set_141 ct_X9_82 ?_
          refine j_ciT C hB 0 2 (fun u11 : (Nat → Int32) => ((wD ca (aF 2) u11) ++ ((wF (aF 0) (aL 0) (aT 0) (aK 0) (tp 0) (aF 1) (aF 2) ik) ++ (wC ca aL (nd 0) lsk lze lma lki ldn lwi ldu lhe lyr lsz)))) rfl (fun _ => rfl) (jr_V C lkV_X9_83 (c_X9_found aF aL aT aK nd tp fd ik (-1000000001) hw) ⟨rfl, rfl, by decide, by decide, by decide, by decide⟩ [0, 1] (by decide) rfl (fx_rw C hB [0, 1] rfl) 1 9 rfl rfl rfl rfl (Nat.le_of_ble_eq_true rfl) dX9_set_143) (fun r11 u11 hw => ?_)
          exact j_iret C hB hR (u11, ldn, lwi, ldu) rfl dX9_set_146 hw rfl
  · replace hw := hw.1 z
    refine j_aload_n C 0 dX9_set_8 rfl ?_
    refine j_ldc C dX9_set_9 ct_X9_82 ?_
    refine j_ciT C hB 0 2 (fun u12 : (Nat → Int32) => ((wD ca (aF 2) u12) ++ ((wF (aF 0) (aL 0) (aT 0) (aK 0) (tp 0) (aF 1) (aF 2) ik) ++ (wC ca aL (nd 0) lsk lze lma lki ldn lwi ldu lhe lyr lsz)))) rfl (fun _ => rfl) (jr_V C lkV_X9_83 (c_X9_found aF aL aT aK nd tp fd ik (-1000000001) hw) ⟨rfl, rfl, by decide, by decide, by decide, by decide⟩ [0, 1] (by decide) rfl (fx_rw C hB [0, 1] rfl) 1 9 rfl rfl rfl rfl (Nat.le_of_ble_eq_true rfl) dX9_set_11) (fun r12 u12 hw => ?_)
    exact j_iret C hB hR (u12, ldn, lwi, ldu) rfl dX9_set_14 hw rfl
def wp_X9_turn (fd : Nat → Int32) (lki : Nat → Int32) (lsz : Int32)  (a1 : Int32) (a2 : Int32) (Q : (Int32) → (Nat → Int32) → (Nat → Int32) → Prop) : Prop := wp_X9_isThing lsz a1 (fun r1 => (r1 = 0 → wp_X9_found fd (-1000000001) (fun r2 c2_0 => Q r2 c2_0 lki)) ∧ (¬ (r1 = 0) → wp_X9_isKind a2 (fun r3 => (r3 = 0 → wp_X9_found fd (-1000000001) (fun r5 c5_0 => Q r5 c5_0 lki)) ∧ (¬ (r3 = 0) → wp_X9_exchange lki 8 a1 a2 (fun r4 c4_0 => Q r4 fd c4_0)))))
set_option maxRecDepth 100000 in
set_option maxHeartbeats 8000000 in
theorem c_X9_turn {l : Launch} {D : va_G} {ca : Nat → ClassId} {sd : Nat → Nat}  (aF : Nat → Nat) (aL : Nat → Nat) (aT : Nat → Nat) (aK : Nat → Nat) (nd : Nat → Nat) (tp : Nat → Nat) (fd : Nat → Int32) (ik : Int32) (lsk : Nat → Int32) (lze : Nat → Int32) (lma : Nat → Int32) (lki : Nat → Int32) (ldn : Nat → Int32) (lwi : Nat → Int32) (ldu : Nat → Int32) (lhe : Nat → Int32) (lyr : Int32) (lsz : Int32)  (a1 : Int32) (a2 : Int32)  {Q : (Int32) → (Nat → Int32) → (Nat → Int32) → Prop} (hw : wp_X9_turn fd lki lsz  a1 a2 Q) : Cn l D ca sd yX9_turn cX9_turn 3 (some .int) { frames := 2, cells := 0, slots := 0, locals := 44 } [.ref (aF 0), .int a1, .int a2] ((wD ca (aF 2) fd) ++ ((wF (aF 0) (aL 0) (aT 0) (aK 0) (tp 0) (aF 1) (aF 2) ik) ++ (wC ca aL (nd 0) lsk lze lma lki ldn lwi ldu lhe lyr lsz))) ((wD ca (aF 2) fd) ++ ((wF (aF 0) (aL 0) (aT 0) (aK 0) (tp 0) (aF 1) (aF 2) ik) ++ (wC ca aL (nd 0) lsk lze lma lki ldn lwi ldu lhe lyr lsz))) 0 0 (Ri D (fun (r : Int32) (u : (Nat → Int32) × (Nat → Int32)) => Q r u.1 u.2) (fun u => ((wD ca (aF 2) u.1) ++ ((wF (aF 0) (aL 0) (aT 0) (aK 0) (tp 0) (aF 1) (aF 2) ik) ++ (wC ca aL (nd 0) lsk lze lma u.2 ldn lwi ldu lhe lyr lsz))))) := by
  refine cn_of (by decide) (Nat.le_of_ble_eq_true rfl) (fun k C hR hB _ => ?_)
  have C : Cx D ca sd cX9_turn RX9 (some .int) { frames := 2, cells := 0, slots := 0, locals := 44 } k 3 := C
  unfold wp_X9_turn at hw
  show J l D k 3 0 0 0 ((wD ca (aF 2) fd) ++ ((wF (aF 0) (aL 0) (aT 0) (aK 0) (tp 0) (aF 1) (aF 2) ik) ++ (wC ca aL (nd 0) lsk lze lma lki ldn lwi ldu lhe lyr lsz))) [(0, .ref (aF 0)), (1, .int a1), (2, .int a2)] []
  refine j_aload_n C 0 dX9_turn_0 rfl ?_
  refine j_iload_n C 1 dX9_turn_1 rfl ?_
  refine j_ciZ C (jr_V C lkV_X9_132 (c_X9_isThing aF aL aT aK nd tp ik lsk lze lma lki ldn lwi ldu lhe lyr lsz a1 hw) ⟨rfl, rfl, by decide, by decide, by decide, by decide⟩ [1, 2, 3, 4, 5, 6, 7, 8, 9, 10] (by decide) rfl (fx_ro C) 1 9 rfl rfl rfl rfl (Nat.le_of_ble_eq_true rfl) dX9_turn_2) (fun r1 u1 hw => ?_)
  refine j_if_eq C 15 dX9_turn_5 (by decide) (fun z => ?_) (fun z => ?_)
  · replace hw := hw.1 z
    refine j_aload_n C 0 dX9_turn_15 rfl ?_
    refine j_ldc C dX9_turn_16 ct_X9_82 ?_
    refine j_ciT C hB 0 2 (fun u2 : (Nat → Int32) => ((wD ca (aF 2) u2) ++ ((wF (aF 0) (aL 0) (aT 0) (aK 0) (tp 0) (aF 1) (aF 2) ik) ++ (wC ca aL (nd 0) lsk lze lma lki ldn lwi ldu lhe lyr lsz)))) rfl (fun _ => rfl) (jr_V C lkV_X9_83 (c_X9_found aF aL aT aK nd tp fd ik (-1000000001) hw) ⟨rfl, rfl, by decide, by decide, by decide, by decide⟩ [0, 1] (by decide) rfl (fx_rw C hB [0, 1] rfl) 1 9 rfl rfl rfl rfl (Nat.le_of_ble_eq_true rfl) dX9_turn_18) (fun r2 u2 hw => ?_)
    exact j_iret C hB hR (u2, lki) rfl dX9_turn_21 hw rfl
  · replace hw := hw.2 z
    refine j_iload_n C 2 dX9_turn_8 rfl ?_
    refine j_ciZ C (jr_S C lkS_X9_116 (c_X9_isKind a2 hw) ⟨rfl, rfl, by decide, by decide, by decide, by decide⟩ [] (by decide) rfl (fx_ro C) rfl rfl (Nat.le_of_ble_eq_true rfl) dX9_turn_9) (fun r3 u3 hw => ?_)
    refine j_if_ne C 22 dX9_turn_12 (by decide) (fun z => ?_) (fun z => ?_)
    · replace hw := hw.2 z
      refine j_aload_n C 0 dX9_turn_22 rfl ?_
      refine j_get C fl_X9_44_9 1 dX9_turn_23 rfl rfl ?_
      refine j_get C fl_X9_135_2 2 dX9_turn_26 rfl rfl ?_
      refine j_iload_n C 1 dX9_turn_29 rfl ?_
      refine j_iload_n C 2 dX9_turn_30 rfl ?_
      refine j_ciT C hB 6 7 (fun u4 : (Nat → Int32) => ((wD ca (aF 2) fd) ++ ((wF (aF 0) (aL 0) (aT 0) (aK 0) (tp 0) (aF 1) (aF 2) ik) ++ (wC ca aL (nd 0) lsk lze lma u4 ldn lwi ldu lhe lyr lsz)))) rfl (fun _ => rfl) (jr_S C lkS_X9_94 (c_X9_exchange (aL 4) 8 lki a1 a2 hw) ⟨rfl, rfl, by decide, by decide, by decide, by decide⟩ [6] (by decide) rfl (fx_rw C hB [6] rfl) rfl rfl (Nat.le_of_ble_eq_true rfl) dX9_turn_31) (fun r4 u4 hw => ?_)
      exact j_iret C hB hR (fd, u4) rfl dX9_turn_34 hw rfl
    · replace hw := hw.1 z
      refine j_aload_n C 0 dX9_turn_15 rfl ?_
      refine j_ldc C dX9_turn_16 ct_X9_82 ?_
      refine j_ciT C hB 0 2 (fun u5 : (Nat → Int32) => ((wD ca (aF 2) u5) ++ ((wF (aF 0) (aL 0) (aT 0) (aK 0) (tp 0) (aF 1) (aF 2) ik) ++ (wC ca aL (nd 0) lsk lze lma lki ldn lwi ldu lhe lyr lsz)))) rfl (fun _ => rfl) (jr_V C lkV_X9_83 (c_X9_found aF aL aT aK nd tp fd ik (-1000000001) hw) ⟨rfl, rfl, by decide, by decide, by decide, by decide⟩ [0, 1] (by decide) rfl (fx_rw C hB [0, 1] rfl) 1 9 rfl rfl rfl rfl (Nat.le_of_ble_eq_true rfl) dX9_turn_18) (fun r5 u5 hw => ?_)
      exact j_iret C hB hR (u5, lki) rfl dX9_turn_21 hw rfl
def wp_X9_as (fd : Nat → Int32) (lki : Nat → Int32) (ldn : Nat → Int32) (lsz : Int32)  (a1 : Int32) (a2 : Int32) (Q : (Int32) → (Nat → Int32) → Prop) : Prop := wp_X9_isThing lsz a1 (fun r1 => (r1 = 0 → wp_X9_found fd (-1000000001) (fun r2 c2_0 => Q r2 c2_0)) ∧ (¬ (r1 = 0) → wp_X9_isKind a2 (fun r3 => (r3 = 0 → wp_X9_found fd (-1000000001) (fun r8 c8_0 => Q r8 c8_0)) ∧ (¬ (r3 = 0) → vp_in a1 8 ∧ (wp_X9_isOrIsUnder (lki (a1.toNatClampNeg)) a2 (fun r5 => (r5 = 0 → wp_X9_found fd (-1000000003) (fun r7 c7_0 => Q r7 c7_0)) ∧ (¬ (r5 = 0) → vp_in a1 8 ∧ (Q (ldn (a1.toNatClampNeg)) fd))))))))
set_option maxRecDepth 100000 in
set_option maxHeartbeats 8000000 in
theorem c_X9_as {l : Launch} {D : va_G} {ca : Nat → ClassId} {sd : Nat → Nat}  (aF : Nat → Nat) (aL : Nat → Nat) (aT : Nat → Nat) (aK : Nat → Nat) (nd : Nat → Nat) (tp : Nat → Nat) (fd : Nat → Int32) (ik : Int32) (lsk : Nat → Int32) (lze : Nat → Int32) (lma : Nat → Int32) (lki : Nat → Int32) (ldn : Nat → Int32) (lwi : Nat → Int32) (ldu : Nat → Int32) (lhe : Nat → Int32) (lyr : Int32) (lsz : Int32)  (a1 : Int32) (a2 : Int32)  {Q : (Int32) → (Nat → Int32) → Prop} (hw : wp_X9_as fd lki ldn lsz  a1 a2 Q) : Cn l D ca sd yX9_as cX9_as 3 (some .int) { frames := 3, cells := 0, slots := 0, locals := 65 } [.ref (aF 0), .int a1, .int a2] ((wD ca (aF 2) fd) ++ ((wF (aF 0) (aL 0) (aT 0) (aK 0) (tp 0) (aF 1) (aF 2) ik) ++ (wC ca aL (nd 0) lsk lze lma lki ldn lwi ldu lhe lyr lsz))) ((wD ca (aF 2) fd) ++ ((wF (aF 0) (aL 0) (aT 0) (aK 0) (tp 0) (aF 1) (aF 2) ik) ++ (wC ca aL (nd 0) lsk lze lma lki ldn lwi ldu lhe lyr lsz))) 0 0 (Ri D (fun (r : Int32) (u : (Nat → Int32)) => Q r u) (fun u => ((wD ca (aF 2) u) ++ ((wF (aF 0) (aL 0) (aT 0) (aK 0) (tp 0) (aF 1) (aF 2) ik) ++ (wC ca aL (nd 0) lsk lze lma lki ldn lwi ldu lhe lyr lsz))))) := by
  refine cn_of (by decide) (Nat.le_of_ble_eq_true rfl) (fun k C hR hB _ => ?_)
  have C : Cx D ca sd cX9_as RX9 (some .int) { frames := 3, cells := 0, slots := 0, locals := 65 } k 3 := C
  unfold wp_X9_as at hw
  show J l D k 3 0 0 0 ((wD ca (aF 2) fd) ++ ((wF (aF 0) (aL 0) (aT 0) (aK 0) (tp 0) (aF 1) (aF 2) ik) ++ (wC ca aL (nd 0) lsk lze lma lki ldn lwi ldu lhe lyr lsz))) [(0, .ref (aF 0)), (1, .int a1), (2, .int a2)] []
  refine j_aload_n C 0 dX9_as_0 rfl ?_
  refine j_iload_n C 1 dX9_as_1 rfl ?_
  refine j_ciZ C (jr_V C lkV_X9_132 (c_X9_isThing aF aL aT aK nd tp ik lsk lze lma lki ldn lwi ldu lhe lyr lsz a1 hw) ⟨rfl, rfl, by decide, by decide, by decide, by decide⟩ [1, 2, 3, 4, 5, 6, 7, 8, 9, 10] (by decide) rfl (fx_ro C) 1 9 rfl rfl rfl rfl (Nat.le_of_ble_eq_true rfl) dX9_as_2) (fun r1 u1 hw => ?_)
  refine j_if_eq C 15 dX9_as_5 (by decide) (fun z => ?_) (fun z => ?_)
  · replace hw := hw.1 z
    refine j_aload_n C 0 dX9_as_15 rfl ?_
    refine j_ldc C dX9_as_16 ct_X9_82 ?_
    refine j_ciT C hB 0 2 (fun u2 : (Nat → Int32) => ((wD ca (aF 2) u2) ++ ((wF (aF 0) (aL 0) (aT 0) (aK 0) (tp 0) (aF 1) (aF 2) ik) ++ (wC ca aL (nd 0) lsk lze lma lki ldn lwi ldu lhe lyr lsz)))) rfl (fun _ => rfl) (jr_V C lkV_X9_83 (c_X9_found aF aL aT aK nd tp fd ik (-1000000001) hw) ⟨rfl, rfl, by decide, by decide, by decide, by decide⟩ [0, 1] (by decide) rfl (fx_rw C hB [0, 1] rfl) 1 9 rfl rfl rfl rfl (Nat.le_of_ble_eq_true rfl) dX9_as_18) (fun r2 u2 hw => ?_)
    exact j_iret C hB hR u2 rfl dX9_as_21 hw rfl
  · replace hw := hw.2 z
    refine j_iload_n C 2 dX9_as_8 rfl ?_
    refine j_ciZ C (jr_S C lkS_X9_116 (c_X9_isKind a2 hw) ⟨rfl, rfl, by decide, by decide, by decide, by decide⟩ [] (by decide) rfl (fx_ro C) rfl rfl (Nat.le_of_ble_eq_true rfl) dX9_as_9) (fun r3 u3 hw => ?_)
    refine j_if_ne C 22 dX9_as_12 (by decide) (fun z => ?_) (fun z => ?_)
    · replace hw := hw.2 z
      refine j_aload_n C 0 dX9_as_22 rfl ?_
      refine j_get C fl_X9_44_9 1 dX9_as_23 rfl rfl ?_
      refine j_get C fl_X9_135_2 2 dX9_as_26 rfl rfl ?_
      refine j_iload_n C 1 dX9_as_29 rfl ?_
      have hi4 := hw.1
      replace hw := hw.2
      refine j_iald C 6 dX9_as_30 rfl hi4 ?_
      refine j_iload_n C 2 dX9_as_31 rfl ?_
      refine j_ciZ C (jr_S C lkS_X9_165 (c_X9_isOrIsUnder (lki (a1.toNatClampNeg)) a2 hw) ⟨rfl, rfl, by decide, by decide, by decide, by decide⟩ [] (by decide) rfl (fx_ro C) rfl rfl (Nat.le_of_ble_eq_true rfl) dX9_as_32) (fun r5 u5 hw => ?_)
      refine j_if_ne C 45 dX9_as_35 (by decide) (fun z => ?_) (fun z => ?_)
      · replace hw := hw.2 z
        refine j_aload_n C 0 dX9_as_45 rfl ?_
        refine j_get C fl_X9_44_9 1 dX9_as_46 rfl rfl ?_
        refine j_get C fl_X9_138_2 2 dX9_as_49 rfl rfl ?_
        refine j_iload_n C 1 dX9_as_52 rfl ?_
        have hi6 := hw.1
        replace hw := hw.2
        refine j_iald C 7 dX9_as_53 rfl hi6 ?_
        exact j_iret C hB hR fd rfl dX9_as_54 hw rfl
      · replace hw := hw.1 z
        refine j_aload_n C 0 dX9_as_38 rfl ?_
        refine j_ldc C dX9_as_39 ct_X9_169 ?_
        refine j_ciT C hB 0 2 (fun u7 : (Nat → Int32) => ((wD ca (aF 2) u7) ++ ((wF (aF 0) (aL 0) (aT 0) (aK 0) (tp 0) (aF 1) (aF 2) ik) ++ (wC ca aL (nd 0) lsk lze lma lki ldn lwi ldu lhe lyr lsz)))) rfl (fun _ => rfl) (jr_V C lkV_X9_83 (c_X9_found aF aL aT aK nd tp fd ik (-1000000003) hw) ⟨rfl, rfl, by decide, by decide, by decide, by decide⟩ [0, 1] (by decide) rfl (fx_rw C hB [0, 1] rfl) 1 9 rfl rfl rfl rfl (Nat.le_of_ble_eq_true rfl) dX9_as_41) (fun r7 u7 hw => ?_)
        exact j_iret C hB hR u7 rfl dX9_as_44 hw rfl
    · replace hw := hw.1 z
      refine j_aload_n C 0 dX9_as_15 rfl ?_
      refine j_ldc C dX9_as_16 ct_X9_82 ?_
      refine j_ciT C hB 0 2 (fun u8 : (Nat → Int32) => ((wD ca (aF 2) u8) ++ ((wF (aF 0) (aL 0) (aT 0) (aK 0) (tp 0) (aF 1) (aF 2) ik) ++ (wC ca aL (nd 0) lsk lze lma lki ldn lwi ldu lhe lyr lsz)))) rfl (fun _ => rfl) (jr_V C lkV_X9_83 (c_X9_found aF aL aT aK nd tp fd ik (-1000000001) hw) ⟨rfl, rfl, by decide, by decide, by decide, by decide⟩ [0, 1] (by decide) rfl (fx_rw C hB [0, 1] rfl) 1 9 rfl rfl rfl rfl (Nat.le_of_ble_eq_true rfl) dX9_as_18) (fun r8 u8 hw => ?_)
      exact j_iret C hB hR u8 rfl dX9_as_21 hw rfl
def wp_X9_leave (fd : Nat → Int32) (lze : Nat → Int32) (ldn : Nat → Int32) (lwi : Nat → Int32) (ldu : Nat → Int32) (lsz : Int32)  (a1 : Int32) (Q : (Int32) → (Nat → Int32) → (Nat → Int32) → (Nat → Int32) → (Nat → Int32) → Prop) : Prop := wp_X9_isThing lsz a1 (fun r1 => (r1 = 0 → wp_X9_found fd (-1000000001) (fun r6 c6_0 => Q r6 c6_0 lze lwi ldu)) ∧ (¬ (r1 = 0) → wp_X2_canBeLeft ldn lwi a1 (fun r2 => (r2 = 0 → wp_X9_found fd (-1000000005) (fun r5 c5_0 => Q r5 c5_0 lze lwi ldu)) ∧ (¬ (r2 = 0) → vp_in a1 8 ∧ (wp_X2_letGo lze lwi ldu a1 (fun c4_0 c4_1 c4_2 => Q (lwi (a1.toNatClampNeg)) fd c4_0 c4_1 c4_2))))))
set_option maxRecDepth 100000 in
set_option maxHeartbeats 8000000 in
theorem c_X9_leave {l : Launch} {D : va_G} {ca : Nat → ClassId} {sd : Nat → Nat}  (aF : Nat → Nat) (aL : Nat → Nat) (aT : Nat → Nat) (aK : Nat → Nat) (nd : Nat → Nat) (tp : Nat → Nat) (fd : Nat → Int32) (ik : Int32) (lsk : Nat → Int32) (lze : Nat → Int32) (lma : Nat → Int32) (lki : Nat → Int32) (ldn : Nat → Int32) (lwi : Nat → Int32) (ldu : Nat → Int32) (lhe : Nat → Int32) (lyr : Int32) (lsz : Int32)  (a1 : Int32)  {Q : (Int32) → (Nat → Int32) → (Nat → Int32) → (Nat → Int32) → (Nat → Int32) → Prop} (hw : wp_X9_leave fd lze ldn lwi ldu lsz  a1 Q) : Cn l D ca sd yX9_leave cX9_leave 3 (some .int) { frames := 2, cells := 0, slots := 0, locals := 44 } [.ref (aF 0), .int a1] ((wD ca (aF 2) fd) ++ ((wF (aF 0) (aL 0) (aT 0) (aK 0) (tp 0) (aF 1) (aF 2) ik) ++ (wC ca aL (nd 0) lsk lze lma lki ldn lwi ldu lhe lyr lsz))) ((wD ca (aF 2) fd) ++ ((wF (aF 0) (aL 0) (aT 0) (aK 0) (tp 0) (aF 1) (aF 2) ik) ++ (wC ca aL (nd 0) lsk lze lma lki ldn lwi ldu lhe lyr lsz))) 0 0 (Ri D (fun (r : Int32) (u : (Nat → Int32) × (Nat → Int32) × (Nat → Int32) × (Nat → Int32)) => Q r u.1 u.2.1 u.2.2.1 u.2.2.2) (fun u => ((wD ca (aF 2) u.1) ++ ((wF (aF 0) (aL 0) (aT 0) (aK 0) (tp 0) (aF 1) (aF 2) ik) ++ (wC ca aL (nd 0) lsk u.2.1 lma lki ldn u.2.2.1 u.2.2.2 lhe lyr lsz))))) := by
  refine cn_of (by decide) (Nat.le_of_ble_eq_true rfl) (fun k C hR hB _ => ?_)
  have C : Cx D ca sd cX9_leave RX9 (some .int) { frames := 2, cells := 0, slots := 0, locals := 44 } k 3 := C
  unfold wp_X9_leave at hw
  show J l D k 3 0 0 0 ((wD ca (aF 2) fd) ++ ((wF (aF 0) (aL 0) (aT 0) (aK 0) (tp 0) (aF 1) (aF 2) ik) ++ (wC ca aL (nd 0) lsk lze lma lki ldn lwi ldu lhe lyr lsz))) [(0, .ref (aF 0)), (1, .int a1)] []
  refine j_aload_n C 0 dX9_leave_0 rfl ?_
  refine j_iload_n C 1 dX9_leave_1 rfl ?_
  refine j_ciZ C (jr_V C lkV_X9_132 (c_X9_isThing aF aL aT aK nd tp ik lsk lze lma lki ldn lwi ldu lhe lyr lsz a1 hw) ⟨rfl, rfl, by decide, by decide, by decide, by decide⟩ [1, 2, 3, 4, 5, 6, 7, 8, 9, 10] (by decide) rfl (fx_ro C) 1 9 rfl rfl rfl rfl (Nat.le_of_ble_eq_true rfl) dX9_leave_2) (fun r1 u1 hw => ?_)
  refine j_if_ne C 15 dX9_leave_5 (by decide) (fun z => ?_) (fun z => ?_)
  · replace hw := hw.2 z
    refine j_aload_n C 0 dX9_leave_15 rfl ?_
    refine j_get C fl_X9_44_9 1 dX9_leave_16 rfl rfl ?_
    refine j_iload_n C 1 dX9_leave_19 rfl ?_
    refine j_ciZ C (jr_V C lkV_X9_170 (c_X2_canBeLeft aL (nd 0) lsk lze lma lki ldn lwi ldu lhe lyr lsz a1 hw) ⟨rfl, rfl, by decide, by decide, by decide, by decide⟩ [2, 3, 4, 5, 6, 7, 8, 9, 10] (by decide) rfl (fx_ro C) 2 2 rfl rfl rfl rfl (Nat.le_of_ble_eq_true rfl) dX9_leave_20) (fun r2 u2 hw => ?_)
    refine j_if_ne C 33 dX9_leave_23 (by decide) (fun z => ?_) (fun z => ?_)
    · replace hw := hw.2 z
      refine j_aload_n C 0 dX9_leave_33 rfl ?_
      refine j_get C fl_X9_44_9 1 dX9_leave_34 rfl rfl ?_
      refine j_get C fl_X9_141_2 2 dX9_leave_37 rfl rfl ?_
      refine j_iload_n C 1 dX9_leave_40 rfl ?_
      have hi3 := hw.1
      replace hw := hw.2
      refine j_iald C 8 dX9_leave_41 rfl hi3 ?_
      refine j_istore_n C [(2, .int (lwi (a1.toNatClampNeg))), (0, .ref (aF 0)), (1, .int a1)] dX9_leave_42 (by decide) rfl ?_
      refine j_aload_n C 1 dX9_leave_43 rfl ?_
      refine j_get C fl_X9_44_9 1 dX9_leave_44 rfl rfl ?_
      refine j_iload_n C 2 dX9_leave_47 rfl ?_
      refine j_cvT C hB 2 11 (fun u4 : (Nat → Int32) × (Nat → Int32) × (Nat → Int32) => ((wD ca (aF 2) fd) ++ ((wF (aF 0) (aL 0) (aT 0) (aK 0) (tp 0) (aF 1) (aF 2) ik) ++ (wC ca aL (nd 0) lsk u4.1 lma lki ldn u4.2.1 u4.2.2 lhe lyr lsz)))) rfl (fun _ => rfl) (jr_V C lkV_X9_174 (c_X2_letGo aL (nd 0) lsk lze lma lki ldn lwi ldu lhe lyr lsz a1 hw) ⟨rfl, rfl, by decide, by decide, by decide, by decide⟩ [2, 3, 4, 5, 6, 7, 8, 9, 10] (by decide) rfl (fx_rw C hB [2, 3, 4, 5, 6, 7, 8, 9, 10] rfl) 2 2 rfl rfl rfl rfl (Nat.le_of_ble_eq_true rfl) dX9_leave_48) (fun u4 hw => ?_)
      refine j_iload_n C 0 dX9_leave_51 rfl ?_
      exact j_iret C hB hR (fd, u4.1, u4.2.1, u4.2.2) rfl dX9_leave_52 hw rfl
    · replace hw := hw.1 z
      refine j_aload_n C 0 dX9_leave_26 rfl ?_
      refine j_ldc C dX9_leave_27 ct_X9_173 ?_
      refine j_ciT C hB 0 2 (fun u5 : (Nat → Int32) => ((wD ca (aF 2) u5) ++ ((wF (aF 0) (aL 0) (aT 0) (aK 0) (tp 0) (aF 1) (aF 2) ik) ++ (wC ca aL (nd 0) lsk lze lma lki ldn lwi ldu lhe lyr lsz)))) rfl (fun _ => rfl) (jr_V C lkV_X9_83 (c_X9_found aF aL aT aK nd tp fd ik (-1000000005) hw) ⟨rfl, rfl, by decide, by decide, by decide, by decide⟩ [0, 1] (by decide) rfl (fx_rw C hB [0, 1] rfl) 1 9 rfl rfl rfl rfl (Nat.le_of_ble_eq_true rfl) dX9_leave_29) (fun r5 u5 hw => ?_)
      exact j_iret C hB hR (u5, lze, lwi, ldu) rfl dX9_leave_32 hw rfl
  · replace hw := hw.1 z
    refine j_aload_n C 0 dX9_leave_8 rfl ?_
    refine j_ldc C dX9_leave_9 ct_X9_82 ?_
    refine j_ciT C hB 0 2 (fun u6 : (Nat → Int32) => ((wD ca (aF 2) u6) ++ ((wF (aF 0) (aL 0) (aT 0) (aK 0) (tp 0) (aF 1) (aF 2) ik) ++ (wC ca aL (nd 0) lsk lze lma lki ldn lwi ldu lhe lyr lsz)))) rfl (fun _ => rfl) (jr_V C lkV_X9_83 (c_X9_found aF aL aT aK nd tp fd ik (-1000000001) hw) ⟨rfl, rfl, by decide, by decide, by decide, by decide⟩ [0, 1] (by decide) rfl (fx_rw C hB [0, 1] rfl) 1 9 rfl rfl rfl rfl (Nat.le_of_ble_eq_true rfl) dX9_leave_11) (fun r6 u6 hw => ?_)
    exact j_iret C hB hR (u6, lze, lwi, ldu) rfl dX9_leave_14 hw rfl
def wp_X9_goesTo (fd : Nat → Int32) (lsk : Nat → Int32) (lki : Nat → Int32) (ldn : Nat → Int32) (lwi : Nat → Int32) (ldu : Nat → Int32) (lhe : Nat → Int32) (lsz : Int32)  (a1 : Int32) (Q : (Int32) → (Nat → Int32) → (Nat → Int32) → Prop) : Prop := wp_X9_isThing lsz a1 (fun r1 => (r1 = 0 → wp_X9_found fd (-1000000001) (fun r7 c7_0 => Q r7 c7_0 lhe)) ∧ (¬ (r1 = 0) → wp_X2_isForTheFair ldn lwi a1 (fun r2 => (r2 = 0 → wp_X9_found fd (-1000000005) (fun r6 c6_0 => Q r6 c6_0 lhe)) ∧ (¬ (r2 = 0) → wp_X2_countHeld ldn lwi lhe lsz (fun c3_0 => wp_X2_takerOf lsk lki ldn ldu c3_0 a1 (fun r4 => (r4 = (-1) → wp_X9_found fd (-1000000004) (fun r5 c5_0 => Q r5 c5_0 c3_0)) ∧ (¬ (r4 = (-1)) → Q r4 fd c3_0)))))))
set_option maxRecDepth 100000 in
set_option maxHeartbeats 8000000 in
theorem c_X9_goesTo {l : Launch} {D : va_G} {ca : Nat → ClassId} {sd : Nat → Nat}  (aF : Nat → Nat) (aL : Nat → Nat) (aT : Nat → Nat) (aK : Nat → Nat) (nd : Nat → Nat) (tp : Nat → Nat) (fd : Nat → Int32) (ik : Int32) (lsk : Nat → Int32) (lze : Nat → Int32) (lma : Nat → Int32) (lki : Nat → Int32) (ldn : Nat → Int32) (lwi : Nat → Int32) (ldu : Nat → Int32) (lhe : Nat → Int32) (lyr : Int32) (lsz : Int32)  (a1 : Int32)  {Q : (Int32) → (Nat → Int32) → (Nat → Int32) → Prop} (hw : wp_X9_goesTo fd lsk lki ldn lwi ldu lhe lsz  a1 Q) : Cn l D ca sd yX9_goesTo cX9_goesTo 3 (some .int) { frames := 5, cells := 0, slots := 0, locals := 138 } [.ref (aF 0), .int a1] ((wD ca (aF 2) fd) ++ ((wF (aF 0) (aL 0) (aT 0) (aK 0) (tp 0) (aF 1) (aF 2) ik) ++ ((wN ca nd sd) ++ (wC ca aL (nd 0) lsk lze lma lki ldn lwi ldu lhe lyr lsz)))) ((wD ca (aF 2) fd) ++ ((wF (aF 0) (aL 0) (aT 0) (aK 0) (tp 0) (aF 1) (aF 2) ik) ++ ((wN ca nd sd) ++ (wC ca aL (nd 0) lsk lze lma lki ldn lwi ldu lhe lyr lsz)))) 0 0 (Ri D (fun (r : Int32) (u : (Nat → Int32) × (Nat → Int32)) => Q r u.1 u.2) (fun u => ((wD ca (aF 2) u.1) ++ ((wF (aF 0) (aL 0) (aT 0) (aK 0) (tp 0) (aF 1) (aF 2) ik) ++ ((wN ca nd sd) ++ (wC ca aL (nd 0) lsk lze lma lki ldn lwi ldu u.2 lyr lsz)))))) := by
  refine cn_of (by decide) (Nat.le_of_ble_eq_true rfl) (fun k C hR hB _ => ?_)
  have C : Cx D ca sd cX9_goesTo RX9 (some .int) { frames := 5, cells := 0, slots := 0, locals := 138 } k 3 := C
  unfold wp_X9_goesTo at hw
  show J l D k 3 0 0 0 ((wD ca (aF 2) fd) ++ ((wF (aF 0) (aL 0) (aT 0) (aK 0) (tp 0) (aF 1) (aF 2) ik) ++ ((wN ca nd sd) ++ (wC ca aL (nd 0) lsk lze lma lki ldn lwi ldu lhe lyr lsz)))) [(0, .ref (aF 0)), (1, .int a1)] []
  refine j_aload_n C 0 dX9_goesTo_0 rfl ?_
  refine j_iload_n C 1 dX9_goesTo_1 rfl ?_
  refine j_ciZ C (jr_V C lkV_X9_132 (c_X9_isThing aF aL aT aK nd tp ik lsk lze lma lki ldn lwi ldu lhe lyr lsz a1 hw) ⟨rfl, rfl, by decide, by decide, by decide, by decide⟩ [1, 9, 10, 11, 12, 13, 14, 15, 16, 17] (by decide) rfl (fx_ro C) 1 9 rfl rfl rfl rfl (Nat.le_of_ble_eq_true rfl) dX9_goesTo_2) (fun r1 u1 hw => ?_)
  refine j_if_ne C 15 dX9_goesTo_5 (by decide) (fun z => ?_) (fun z => ?_)
  · replace hw := hw.2 z
    refine j_aload_n C 0 dX9_goesTo_15 rfl ?_
    refine j_get C fl_X9_44_9 1 dX9_goesTo_16 rfl rfl ?_
    refine j_iload_n C 1 dX9_goesTo_19 rfl ?_
    refine j_ciZ C (jr_V C lkV_X9_178 (c_X2_isForTheFair aL (nd 0) lsk lze lma lki ldn lwi ldu lhe lyr lsz a1 hw) ⟨rfl, rfl, by decide, by decide, by decide, by decide⟩ [9, 10, 11, 12, 13, 14, 15, 16, 17] (by decide) rfl (fx_ro C) 9 2 rfl rfl rfl rfl (Nat.le_of_ble_eq_true rfl) dX9_goesTo_20) (fun r2 u2 hw => ?_)
    refine j_if_ne C 33 dX9_goesTo_23 (by decide) (fun z => ?_) (fun z => ?_)
    · replace hw := hw.2 z
      refine j_aload_n C 0 dX9_goesTo_33 rfl ?_
      refine j_get C fl_X9_44_9 1 dX9_goesTo_34 rfl rfl ?_
      refine j_cvT C hB 9 18 (fun u3 : (Nat → Int32) => ((wD ca (aF 2) fd) ++ ((wF (aF 0) (aL 0) (aT 0) (aK 0) (tp 0) (aF 1) (aF 2) ik) ++ ((wN ca nd sd) ++ (wC ca aL (nd 0) lsk lze lma lki ldn lwi ldu u3 lyr lsz))))) rfl (fun _ => rfl) (jr_V C lkV_X9_181 (c_X2_countHeld aL (nd 0) lsk lze lma lki ldn lwi ldu lhe lyr lsz hw) ⟨rfl, rfl, by decide, by decide, by decide, by decide⟩ [9, 10, 11, 12, 13, 14, 15, 16, 17] (by decide) rfl (fx_rw C hB [9, 10, 11, 12, 13, 14, 15, 16, 17] rfl) 9 2 rfl rfl rfl rfl (Nat.le_of_ble_eq_true rfl) dX9_goesTo_37) (fun u3 hw => ?_)
      refine j_aload_n C 0 dX9_goesTo_40 rfl ?_
      refine j_get C fl_X9_44_9 1 dX9_goesTo_41 rfl rfl ?_
      refine j_iload_n C 1 dX9_goesTo_44 rfl ?_
      refine j_ciZ C (jr_V C lkV_X9_184 (c_X2_takerOf nd aL lsk lze lma lki ldn lwi ldu u3 lyr lsz a1 hw) ⟨rfl, rfl, by decide, by decide, by decide, by decide⟩ [2, 3, 4, 5, 6, 7, 8, 9, 10, 11, 12, 13, 14, 15, 16, 17] rfl rfl (fx_ro C) 9 2 rfl rfl rfl rfl (Nat.le_of_ble_eq_true rfl) dX9_goesTo_45) (fun r4 u4 hw => ?_)
      refine j_istore_n C [(2, .int r4), (0, .ref (aF 0)), (1, .int a1)] dX9_goesTo_48 (by decide) rfl ?_
      refine j_iload_n C 0 dX9_goesTo_49 rfl ?_
      refine j_iconst C (-1) dX9_goesTo_50 (by decide) ?_
      refine j_icmp_ne C 63 dX9_goesTo_51 (by decide) (fun z => ?_) (fun z => ?_)
      · replace hw := hw.2 z
        refine j_iload_n C 0 dX9_goesTo_63 rfl ?_
        exact j_iret C hB hR (fd, u3) rfl dX9_goesTo_64 hw rfl
      · replace hw := hw.1 z
        refine j_aload_n C 1 dX9_goesTo_54 rfl ?_
        refine j_ldc C dX9_goesTo_55 ct_X9_187 ?_
        refine j_ciT C hB 0 2 (fun u5 : (Nat → Int32) => ((wD ca (aF 2) u5) ++ ((wF (aF 0) (aL 0) (aT 0) (aK 0) (tp 0) (aF 1) (aF 2) ik) ++ ((wN ca nd sd) ++ (wC ca aL (nd 0) lsk lze lma lki ldn lwi ldu u3 lyr lsz))))) rfl (fun _ => rfl) (jr_V C lkV_X9_83 (c_X9_found aF aL aT aK nd tp fd ik (-1000000004) hw) ⟨rfl, rfl, by decide, by decide, by decide, by decide⟩ [0, 1] (by decide) rfl (fx_rw C hB [0, 1] rfl) 1 9 rfl rfl rfl rfl (Nat.le_of_ble_eq_true rfl) dX9_goesTo_57) (fun r5 u5 hw => ?_)
        refine j_goto C 64 dX9_goesTo_60 (by decide) ?_
        exact j_iret C hB hR (u5, u3) rfl dX9_goesTo_64 hw rfl
    · replace hw := hw.1 z
      refine j_aload_n C 0 dX9_goesTo_26 rfl ?_
      refine j_ldc C dX9_goesTo_27 ct_X9_173 ?_
      refine j_ciT C hB 0 2 (fun u6 : (Nat → Int32) => ((wD ca (aF 2) u6) ++ ((wF (aF 0) (aL 0) (aT 0) (aK 0) (tp 0) (aF 1) (aF 2) ik) ++ ((wN ca nd sd) ++ (wC ca aL (nd 0) lsk lze lma lki ldn lwi ldu lhe lyr lsz))))) rfl (fun _ => rfl) (jr_V C lkV_X9_83 (c_X9_found aF aL aT aK nd tp fd ik (-1000000005) hw) ⟨rfl, rfl, by decide, by decide, by decide, by decide⟩ [0, 1] (by decide) rfl (fx_rw C hB [0, 1] rfl) 1 9 rfl rfl rfl rfl (Nat.le_of_ble_eq_true rfl) dX9_goesTo_29) (fun r6 u6 hw => ?_)
      exact j_iret C hB hR (u6, lhe) rfl dX9_goesTo_32 hw rfl
  · replace hw := hw.1 z
    refine j_aload_n C 0 dX9_goesTo_8 rfl ?_
    refine j_ldc C dX9_goesTo_9 ct_X9_82 ?_
    refine j_ciT C hB 0 2 (fun u7 : (Nat → Int32) => ((wD ca (aF 2) u7) ++ ((wF (aF 0) (aL 0) (aT 0) (aK 0) (tp 0) (aF 1) (aF 2) ik) ++ ((wN ca nd sd) ++ (wC ca aL (nd 0) lsk lze lma lki ldn lwi ldu lhe lyr lsz))))) rfl (fun _ => rfl) (jr_V C lkV_X9_83 (c_X9_found aF aL aT aK nd tp fd ik (-1000000001) hw) ⟨rfl, rfl, by decide, by decide, by decide, by decide⟩ [0, 1] (by decide) rfl (fx_rw C hB [0, 1] rfl) 1 9 rfl rfl rfl rfl (Nat.le_of_ble_eq_true rfl) dX9_goesTo_11) (fun r7 u7 hw => ?_)
    exact j_iret C hB hR (u7, lhe) rfl dX9_goesTo_14 hw rfl
def wp_X9_years (fd : Nat → Int32) (lsk : Nat → Int32) (lze : Nat → Int32) (lma : Nat → Int32) (lki : Nat → Int32) (ldn : Nat → Int32) (lwi : Nat → Int32) (ldu : Nat → Int32) (lhe : Nat → Int32) (lyr : Int32) (lsz : Int32)  (a1 : Int32) (Q : (Int32) → (Nat → Int32) → (Nat → Int32) → (Nat → Int32) → (Nat → Int32) → (Nat → Int32) → (Nat → Int32) → (Nat → Int32) → (Int32) → Prop) : Prop := wp_X9_isWithin a1 1 60 (fun r1 => (r1 = 0 → wp_X9_found fd (-1000000001) (fun r5 c5_0 => Q r5 c5_0 lze lma ldn lwi ldu lhe lyr)) ∧ (¬ (r1 = 0) → ((lyr + a1) ≤ 9999 → wp_X2_goYears lsk lze lma lki ldn lwi ldu lhe lyr lsz a1 (fun c2_0 c2_1 c2_2 c2_3 c2_4 c2_5 c2_6 => wp_X2_finishedSet c2_2 lsz (fun r3 => Q r3 fd c2_0 c2_1 c2_2 c2_3 c2_4 c2_5 c2_6))) ∧ (¬ ((lyr + a1) ≤ 9999) → wp_X9_found fd (-1000000005) (fun r4 c4_0 => Q r4 c4_0 lze lma ldn lwi ldu lhe lyr))))
set_option maxRecDepth 100000 in
set_option maxHeartbeats 8000000 in
theorem c_X9_years {l : Launch} {D : va_G} {ca : Nat → ClassId} {sd : Nat → Nat}  (aF : Nat → Nat) (aL : Nat → Nat) (aT : Nat → Nat) (aK : Nat → Nat) (nd : Nat → Nat) (tp : Nat → Nat) (fd : Nat → Int32) (ik : Int32) (lsk : Nat → Int32) (lze : Nat → Int32) (lma : Nat → Int32) (lki : Nat → Int32) (ldn : Nat → Int32) (lwi : Nat → Int32) (ldu : Nat → Int32) (lhe : Nat → Int32) (lyr : Int32) (lsz : Int32)  (a1 : Int32)  {Q : (Int32) → (Nat → Int32) → (Nat → Int32) → (Nat → Int32) → (Nat → Int32) → (Nat → Int32) → (Nat → Int32) → (Nat → Int32) → (Int32) → Prop} (hw : wp_X9_years fd lsk lze lma lki ldn lwi ldu lhe lyr lsz  a1 Q) : Cn l D ca sd yX9_years cX9_years 2 (some .int) { frames := 8, cells := 0, slots := 0, locals := 203 } [.ref (aF 0), .int a1] ((wD ca (aF 2) fd) ++ ((wF (aF 0) (aL 0) (aT 0) (aK 0) (tp 0) (aF 1) (aF 2) ik) ++ ((wN ca nd sd) ++ (wC ca aL (nd 0) lsk lze lma lki ldn lwi ldu lhe lyr lsz)))) ((wD ca (aF 2) fd) ++ ((wF (aF 0) (aL 0) (aT 0) (aK 0) (tp 0) (aF 1) (aF 2) ik) ++ ((wN ca nd sd) ++ (wC ca aL (nd 0) lsk lze lma lki ldn lwi ldu lhe lyr lsz)))) 0 0 (Ri D (fun (r : Int32) (u : (Nat → Int32) × (Nat → Int32) × (Nat → Int32) × (Nat → Int32) × (Nat → Int32) × (Nat → Int32) × (Nat → Int32) × (Int32)) => Q r u.1 u.2.1 u.2.2.1 u.2.2.2.1 u.2.2.2.2.1 u.2.2.2.2.2.1 u.2.2.2.2.2.2.1 u.2.2.2.2.2.2.2) (fun u => ((wD ca (aF 2) u.1) ++ ((wF (aF 0) (aL 0) (aT 0) (aK 0) (tp 0) (aF 1) (aF 2) ik) ++ ((wN ca nd sd) ++ (wC ca aL (nd 0) lsk u.2.1 u.2.2.1 lki u.2.2.2.1 u.2.2.2.2.1 u.2.2.2.2.2.1 u.2.2.2.2.2.2.1 u.2.2.2.2.2.2.2 lsz)))))) := by
  refine cn_of (by decide) (Nat.le_of_ble_eq_true rfl) (fun k C hR hB _ => ?_)
  have C : Cx D ca sd cX9_years RX9 (some .int) { frames := 8, cells := 0, slots := 0, locals := 203 } k 2 := C
  unfold wp_X9_years at hw
  show J l D k 2 0 0 0 ((wD ca (aF 2) fd) ++ ((wF (aF 0) (aL 0) (aT 0) (aK 0) (tp 0) (aF 1) (aF 2) ik) ++ ((wN ca nd sd) ++ (wC ca aL (nd 0) lsk lze lma lki ldn lwi ldu lhe lyr lsz)))) [(0, .ref (aF 0)), (1, .int a1)] []
  refine j_iload_n C 1 dX9_years_0 rfl ?_
  refine j_iconst C 1 dX9_years_1 (by decide) ?_
  refine j_bipush C 60 dX9_years_2 (by decide) ?_
  refine j_ciZ C (jr_S C lkS_X9_87 (c_X9_isWithin a1 1 60 hw) ⟨rfl, rfl, by decide, by decide, by decide, by decide⟩ [] (by decide) rfl (fx_ro C) rfl rfl (Nat.le_of_ble_eq_true rfl) dX9_years_4) (fun r1 u1 hw => ?_)
  refine j_if_ne C 17 dX9_years_7 (by decide) (fun z => ?_) (fun z => ?_)
  · replace hw := hw.2 z
    refine j_aload_n C 0 dX9_years_17 rfl ?_
    refine j_get C fl_X9_44_9 1 dX9_years_18 rfl rfl ?_
    refine j_get C fl_X9_188_2 9 dX9_years_21 rfl rfl ?_
    refine j_iload_n C 1 dX9_years_24 rfl ?_
    refine j_iadd C dX9_years_25 ?_
    refine j_sipush C 9999 dX9_years_26 (by decide) ?_
    refine j_icmp_le C 39 dX9_years_29 (by decide) (fun z => ?_) (fun z => ?_)
    · replace hw := hw.1 z
      refine j_aload_n C 0 dX9_years_39 rfl ?_
      refine j_get C fl_X9_44_9 1 dX9_years_40 rfl rfl ?_
      refine j_iload_n C 1 dX9_years_43 rfl ?_
      refine j_cvT C hB 2 18 (fun u2 : (Nat → Int32) × (Nat → Int32) × (Nat → Int32) × (Nat → Int32) × (Nat → Int32) × (Nat → Int32) × (Int32) => ((wD ca (aF 2) fd) ++ ((wF (aF 0) (aL 0) (aT 0) (aK 0) (tp 0) (aF 1) (aF 2) ik) ++ ((wN ca nd sd) ++ (wC ca aL (nd 0) lsk u2.1 u2.2.1 lki u2.2.2.1 u2.2.2.2.1 u2.2.2.2.2.1 u2.2.2.2.2.2.1 u2.2.2.2.2.2.2 lsz))))) rfl (fun _ => rfl) (jr_V C lkV_X9_191 (c_X2_goYears nd aL lsk lze lma lki ldn lwi ldu lhe lyr lsz a1 hw) ⟨rfl, rfl, by decide, by decide, by decide, by decide⟩ [2, 3, 4, 5, 6, 7, 8, 9, 10, 11, 12, 13, 14, 15, 16, 17] rfl rfl (fx_rw C hB [2, 3, 4, 5, 6, 7, 8, 9, 10, 11, 12, 13, 14, 15, 16, 17] rfl) 9 2 rfl rfl rfl rfl (Nat.le_of_ble_eq_true rfl) dX9_years_44) (fun u2 hw => ?_)
      refine j_aload_n C 0 dX9_years_47 rfl ?_
      refine j_get C fl_X9_44_9 1 dX9_years_48 rfl rfl ?_
      refine j_ciZ C (jr_V C lkV_X9_107 (c_X2_finishedSet aL (nd 0) lsk u2.1 u2.2.1 lki u2.2.2.1 u2.2.2.2.1 u2.2.2.2.2.1 u2.2.2.2.2.2.1 u2.2.2.2.2.2.2 lsz hw) ⟨rfl, rfl, by decide, by decide, by decide, by decide⟩ [9, 10, 11, 12, 13, 14, 15, 16, 17] (by decide) rfl (fx_ro C) 9 2 rfl rfl rfl rfl (Nat.le_of_ble_eq_true rfl) dX9_years_51) (fun r3 u3 hw => ?_)
      exact j_iret C hB hR (fd, u2.1, u2.2.1, u2.2.2.1, u2.2.2.2.1, u2.2.2.2.2.1, u2.2.2.2.2.2.1, u2.2.2.2.2.2.2) rfl dX9_years_54 hw rfl
    · replace hw := hw.2 z
      refine j_aload_n C 0 dX9_years_32 rfl ?_
      refine j_ldc C dX9_years_33 ct_X9_173 ?_
      refine j_ciT C hB 0 2 (fun u4 : (Nat → Int32) => ((wD ca (aF 2) u4) ++ ((wF (aF 0) (aL 0) (aT 0) (aK 0) (tp 0) (aF 1) (aF 2) ik) ++ ((wN ca nd sd) ++ (wC ca aL (nd 0) lsk lze lma lki ldn lwi ldu lhe lyr lsz))))) rfl (fun _ => rfl) (jr_V C lkV_X9_83 (c_X9_found aF aL aT aK nd tp fd ik (-1000000005) hw) ⟨rfl, rfl, by decide, by decide, by decide, by decide⟩ [0, 1] (by decide) rfl (fx_rw C hB [0, 1] rfl) 1 9 rfl rfl rfl rfl (Nat.le_of_ble_eq_true rfl) dX9_years_35) (fun r4 u4 hw => ?_)
      exact j_iret C hB hR (u4, lze, lma, ldn, lwi, ldu, lhe, lyr) rfl dX9_years_38 hw rfl
  · replace hw := hw.1 z
    refine j_aload_n C 0 dX9_years_10 rfl ?_
    refine j_ldc C dX9_years_11 ct_X9_82 ?_
    refine j_ciT C hB 0 2 (fun u5 : (Nat → Int32) => ((wD ca (aF 2) u5) ++ ((wF (aF 0) (aL 0) (aT 0) (aK 0) (tp 0) (aF 1) (aF 2) ik) ++ ((wN ca nd sd) ++ (wC ca aL (nd 0) lsk lze lma lki ldn lwi ldu lhe lyr lsz))))) rfl (fun _ => rfl) (jr_V C lkV_X9_83 (c_X9_found aF aL aT aK nd tp fd ik (-1000000001) hw) ⟨rfl, rfl, by decide, by decide, by decide, by decide⟩ [0, 1] (by decide) rfl (fx_rw C hB [0, 1] rfl) 1 9 rfl rfl rfl rfl (Nat.le_of_ble_eq_true rfl) dX9_years_13) (fun r5 u5 hw => ?_)
    exact j_iret C hB hR (u5, lze, lma, ldn, lwi, ldu, lhe, lyr) rfl dX9_years_16 hw rfl
def wp_X9_now (fd : Nat → Int32) (lma : Nat → Int32) (ldn : Nat → Int32) (lwi : Nat → Int32) (lyr : Int32) (lsz : Int32)  (a1 : Int32) (Q : (Int32) → (Nat → Int32) → Prop) : Prop := (a1 = 0 → Q lyr fd) ∧ (¬ (a1 = 0) → (a1 = 1 → wp_X2_finishedSet ldn lsz (fun r1 => Q r1 fd)) ∧ (¬ (a1 = 1) → (a1 = 2 → wp_X2_heldSet lwi lsz (-1) (fun r2 => Q r2 fd)) ∧ (¬ (a1 = 2) → (a1 = 3 → wp_X2_doneOfAll ldn lsz (fun r3 => Q r3 fd)) ∧ (¬ (a1 = 3) → (a1 = 4 → wp_X2_madeOfAll lma (fun r4 => Q r4 fd)) ∧ (¬ (a1 = 4) → wp_X9_found fd (-1000000001) (fun r5 c5_0 => Q r5 c5_0))))))
set_option maxRecDepth 100000 in
set_option maxHeartbeats 8000000 in
theorem c_X9_now {l : Launch} {D : va_G} {ca : Nat → ClassId} {sd : Nat → Nat}  (aF : Nat → Nat) (aL : Nat → Nat) (aT : Nat → Nat) (aK : Nat → Nat) (nd : Nat → Nat) (tp : Nat → Nat) (fd : Nat → Int32) (ik : Int32) (lsk : Nat → Int32) (lze : Nat → Int32) (lma : Nat → Int32) (lki : Nat → Int32) (ldn : Nat → Int32) (lwi : Nat → Int32) (ldu : Nat → Int32) (lhe : Nat → Int32) (lyr : Int32) (lsz : Int32)  (a1 : Int32)  {Q : (Int32) → (Nat → Int32) → Prop} (hw : wp_X9_now fd lma ldn lwi lyr lsz  a1 Q) : Cn l D ca sd yX9_now cX9_now 2 (some .int) { frames := 2, cells := 0, slots := 0, locals := 44 } [.ref (aF 0), .int a1] ((wD ca (aF 2) fd) ++ ((wF (aF 0) (aL 0) (aT 0) (aK 0) (tp 0) (aF 1) (aF 2) ik) ++ (wC ca aL (nd 0) lsk lze lma lki ldn lwi ldu lhe lyr lsz))) ((wD ca (aF 2) fd) ++ ((wF (aF 0) (aL 0) (aT 0) (aK 0) (tp 0) (aF 1) (aF 2) ik) ++ (wC ca aL (nd 0) lsk lze lma lki ldn lwi ldu lhe lyr lsz))) 0 0 (Ri D (fun (r : Int32) (u : (Nat → Int32)) => Q r u) (fun u => ((wD ca (aF 2) u) ++ ((wF (aF 0) (aL 0) (aT 0) (aK 0) (tp 0) (aF 1) (aF 2) ik) ++ (wC ca aL (nd 0) lsk lze lma lki ldn lwi ldu lhe lyr lsz))))) := by
  refine cn_of (by decide) (Nat.le_of_ble_eq_true rfl) (fun k C hR hB _ => ?_)
  have C : Cx D ca sd cX9_now RX9 (some .int) { frames := 2, cells := 0, slots := 0, locals := 44 } k 2 := C
  unfold wp_X9_now at hw
  show J l D k 2 0 0 0 ((wD ca (aF 2) fd) ++ ((wF (aF 0) (aL 0) (aT 0) (aK 0) (tp 0) (aF 1) (aF 2) ik) ++ (wC ca aL (nd 0) lsk lze lma lki ldn lwi ldu lhe lyr lsz))) [(0, .ref (aF 0)), (1, .int a1)] []
  refine j_iload_n C 1 dX9_now_0 rfl ?_
  by_cases z1 : a1 = 0
  · replace hw := hw.1 z1
    refine j_tabIn (off := 35) C 0 36 dX9_now_1 z1 (by decide) (by decide) (by decide) (by decide) ?_
    refine j_aload_n C 0 dX9_now_36 rfl ?_
    refine j_get C fl_X9_44_9 1 dX9_now_37 rfl rfl ?_
    refine j_get C fl_X9_188_2 2 dX9_now_40 rfl rfl ?_
    exact j_iret C hB hR fd rfl dX9_now_43 hw rfl
  · replace hw := hw.2 z1
    by_cases z2 : a1 = 1
    · replace hw := hw.1 z2
      refine j_tabIn (off := 43) C 1 44 dX9_now_1 z2 (by decide) (by decide) (by decide) (by decide) ?_
      refine j_aload_n C 0 dX9_now_44 rfl ?_
      refine j_get C fl_X9_44_9 1 dX9_now_45 rfl rfl ?_
      refine j_ciZ C (jr_V C lkV_X9_107 (c_X2_finishedSet aL (nd 0) lsk lze lma lki ldn lwi ldu lhe lyr lsz hw) ⟨rfl, rfl, by decide, by decide, by decide, by decide⟩ [2, 3, 4, 5, 6, 7, 8, 9, 10] (by decide) rfl (fx_ro C) 2 2 rfl rfl rfl rfl (Nat.le_of_ble_eq_true rfl) dX9_now_48) (fun r1 u1 hw => ?_)
      exact j_iret C hB hR fd rfl dX9_now_51 hw rfl
    · replace hw := hw.2 z2
      by_cases z3 : a1 = 2
      · replace hw := hw.1 z3
        refine j_tabIn (off := 51) C 2 52 dX9_now_1 z3 (by decide) (by decide) (by decide) (by decide) ?_
        refine j_aload_n C 0 dX9_now_52 rfl ?_
        refine j_get C fl_X9_44_9 1 dX9_now_53 rfl rfl ?_
        refine j_iconst C (-1) dX9_now_56 (by decide) ?_
        refine j_ciZ C (jr_V C lkV_X9_104 (c_X2_heldSet aL (nd 0) lsk lze lma lki ldn lwi ldu lhe lyr lsz (-1) hw) ⟨rfl, rfl, by decide, by decide, by decide, by decide⟩ [2, 3, 4, 5, 6, 7, 8, 9, 10] (by decide) rfl (fx_ro C) 2 2 rfl rfl rfl rfl (Nat.le_of_ble_eq_true rfl) dX9_now_57) (fun r2 u2 hw => ?_)
        exact j_iret C hB hR fd rfl dX9_now_60 hw rfl
      · replace hw := hw.2 z3
        by_cases z4 : a1 = 3
        · replace hw := hw.1 z4
          refine j_tabIn (off := 60) C 3 61 dX9_now_1 z4 (by decide) (by decide) (by decide) (by decide) ?_
          refine j_aload_n C 0 dX9_now_61 rfl ?_
          refine j_get C fl_X9_44_9 1 dX9_now_62 rfl rfl ?_
          refine j_ciZ C (jr_V C lkV_X9_194 (c_X2_doneOfAll aL (nd 0) lsk lze lma lki ldn lwi ldu lhe lyr lsz hw) ⟨rfl, rfl, by decide, by decide, by decide, by decide⟩ [2, 3, 4, 5, 6, 7, 8, 9, 10] (by decide) rfl (fx_ro C) 2 2 rfl rfl rfl rfl (Nat.le_of_ble_eq_true rfl) dX9_now_65) (fun r3 u3 hw => ?_)
          exact j_iret C hB hR fd rfl dX9_now_68 hw rfl
        · replace hw := hw.2 z4
          by_cases z5 : a1 = 4
          · replace hw := hw.1 z5
            refine j_tabIn (off := 68) C 4 69 dX9_now_1 z5 (by decide) (by decide) (by decide) (by decide) ?_
            refine j_aload_n C 0 dX9_now_69 rfl ?_
            refine j_get C fl_X9_44_9 1 dX9_now_70 rfl rfl ?_
            refine j_ciZ C (jr_V C lkV_X9_197 (c_X2_madeOfAll aL (nd 0) lsk lze lma lki ldn lwi ldu lhe lyr lsz hw) ⟨rfl, rfl, by decide, by decide, by decide, by decide⟩ [2, 3, 4, 5, 6, 7, 8, 9, 10] (by decide) rfl (fx_ro C) 2 2 rfl rfl rfl rfl (Nat.le_of_ble_eq_true rfl) dX9_now_73) (fun r4 u4 hw => ?_)
            exact j_iret C hB hR fd rfl dX9_now_76 hw rfl
          · replace hw := hw.2 z5
            refine j_tabOut C 77 dX9_now_1 (by have qz1 := lv_neT z1 (show (0 : Int32).toInt = 0 from rfl); have qz2 := lv_neT z2 (show (1 : Int32).toInt = 1 from rfl); have qz3 := lv_neT z3 (show (2 : Int32).toInt = 2 from rfl); have qz4 := lv_neT z4 (show (3 : Int32).toInt = 3 from rfl); have qz5 := lv_neT z5 (show (4 : Int32).toInt = 4 from rfl); omega) (by decide) ?_
            refine j_aload_n C 0 dX9_now_77 rfl ?_
            refine j_ldc C dX9_now_78 ct_X9_82 ?_
            refine j_ciT C hB 0 2 (fun u5 : (Nat → Int32) => ((wD ca (aF 2) u5) ++ ((wF (aF 0) (aL 0) (aT 0) (aK 0) (tp 0) (aF 1) (aF 2) ik) ++ (wC ca aL (nd 0) lsk lze lma lki ldn lwi ldu lhe lyr lsz)))) rfl (fun _ => rfl) (jr_V C lkV_X9_83 (c_X9_found aF aL aT aK nd tp fd ik (-1000000001) hw) ⟨rfl, rfl, by decide, by decide, by decide, by decide⟩ [0, 1] (by decide) rfl (fx_rw C hB [0, 1] rfl) 1 9 rfl rfl rfl rfl (Nat.le_of_ble_eq_true rfl) dX9_now_80) (fun r5 u5 hw => ?_)
            exact j_iret C hB hR u5 rfl dX9_now_83 hw rfl
