/-! facts of this class: methods, links, fields, by their places in the tables -/
def mX0_init : MD := (yX0_init, cX0_init, 1, none)
theorem vX0_init : MF mX0_init 2 0 0 := ⟨by decide, (inA 47 (by decide +kernel) rfl), (inA 152 (by decide +kernel) rfl), ⟨by decide +kernel, by decide +kernel⟩, by decide +kernel, rfl, rfl, (inA 151 (by decide +kernel) rfl)⟩
def mX0_clear : MD := (yX0_clear, cX0_clear, 1, none)
theorem vX0_clear : MF mX0_clear 0 0 0 := ⟨by decide, (inA 47 (by decide +kernel) rfl), (inA 364 (by decide +kernel) rfl), ⟨by decide +kernel, by decide +kernel⟩, by decide +kernel, by decide, rfl, (inA 362 (by decide +kernel) rfl), (inA 363 (by decide +kernel) rfl)⟩
def mX0_copyFrom : MD := (yX0_copyFrom, cX0_copyFrom, 3, none)
theorem vX0_copyFrom : MF mX0_copyFrom 0 0 1 := ⟨by decide, (inA 47 (by decide +kernel) rfl), (inA 621 (by decide +kernel) rfl), ⟨by decide +kernel, by decide +kernel⟩, by decide +kernel, by decide, rfl, (inA 619 (by decide +kernel) rfl), (inA 620 (by decide +kernel) rfl)⟩
def mX0_has : MD := (yX0_has, cX0_has, 2, (some .boolean))
theorem vX0_has : MF mX0_has 0 0 1 := ⟨by decide, (inA 47 (by decide +kernel) rfl), (inA 404 (by decide +kernel) rfl), ⟨by decide +kernel, by decide +kernel⟩, by decide +kernel, by decide, rfl, (inA 402 (by decide +kernel) rfl), (inA 403 (by decide +kernel) rfl)⟩
def mX0_high : MD := (yX0_high, cX0_high, 3, (some .int))
theorem vX0_high : MF mX0_high 0 0 0 := ⟨by decide, (inA 47 (by decide +kernel) rfl), (inA 384 (by decide +kernel) rfl), ⟨by decide +kernel, by decide +kernel⟩, by decide +kernel, by decide, rfl, (inA 382 (by decide +kernel) rfl), (inA 383 (by decide +kernel) rfl)⟩
def mX0_load : MD := (yX0_load, cX0_load, 4, (some .int))
theorem vX0_load : MF mX0_load 0 0 1 := ⟨by decide, (inA 47 (by decide +kernel) rfl), (inA 388 (by decide +kernel) rfl), ⟨by decide +kernel, by decide +kernel⟩, by decide +kernel, by decide, rfl, (inA 386 (by decide +kernel) rfl), (inA 387 (by decide +kernel) rfl)⟩
def mX0_comeIn : MD := (yX0_comeIn, cX0_comeIn, 3, none)
theorem vX0_comeIn : MF mX0_comeIn 0 0 2 := ⟨by decide, (inA 47 (by decide +kernel) rfl), (inA 396 (by decide +kernel) rfl), ⟨by decide +kernel, by decide +kernel⟩, by decide +kernel, by decide, rfl, (inA 394 (by decide +kernel) rfl), (inA 395 (by decide +kernel) rfl)⟩
def mX0_doorOf : MD := (yX0_doorOf, cX0_doorOf, 2, (some .int))
theorem vX0_doorOf : MF mX0_doorOf 0 0 1 := ⟨by decide, (inA 47 (by decide +kernel) rfl), (inA 409 (by decide +kernel) rfl), ⟨by decide +kernel, by decide +kernel⟩, by decide +kernel, by decide, rfl, (inA 407 (by decide +kernel) rfl), (inA 408 (by decide +kernel) rfl)⟩
def mX0_melt : MD := (yX0_melt, cX0_melt, 6, (some .int))
theorem vX0_melt : MF mX0_melt 0 0 2 := ⟨by decide, (inA 47 (by decide +kernel) rfl), (inA 436 (by decide +kernel) rfl), ⟨by decide +kernel, by decide +kernel⟩, by decide +kernel, by decide, rfl, (inA 434 (by decide +kernel) rfl), (inA 435 (by decide +kernel) rfl)⟩
def mX0_addSale : MD := (yX0_addSale, cX0_addSale, 4, none)
theorem vX0_addSale : MF mX0_addSale 0 0 3 := ⟨by decide, (inA 47 (by decide +kernel) rfl), (inA 467 (by decide +kernel) rfl), ⟨by decide +kernel, by decide +kernel⟩, by decide +kernel, by decide, rfl, (inA 465 (by decide +kernel) rfl), (inA 466 (by decide +kernel) rfl)⟩
def mX0_forgetOldestSale : MD := (yX0_forgetOldestSale, cX0_forgetOldestSale, 2, none)
theorem vX0_forgetOldestSale : MF mX0_forgetOldestSale 0 0 0 := ⟨by decide, (inA 47 (by decide +kernel) rfl), (inA 471 (by decide +kernel) rfl), ⟨by decide +kernel, by decide +kernel⟩, by decide +kernel, by decide, rfl, (inA 470 (by decide +kernel) rfl), (inA 9 (by decide +kernel) rfl)⟩
def mX0_takeSaleBack : MD := (yX0_takeSaleBack, cX0_takeSaleBack, 1, (some .int))
theorem vX0_takeSaleBack : MF mX0_takeSaleBack 0 0 0 := ⟨by decide, (inA 47 (by decide +kernel) rfl), (inA 479 (by decide +kernel) rfl), ⟨by decide +kernel, by decide +kernel⟩, by decide +kernel, by decide, rfl, (inA 477 (by decide +kernel) rfl), (inA 478 (by decide +kernel) rfl)⟩
def mX1_init : MD := (yX1_init, cX1_init, 1, none)
theorem vX1_init : MF mX1_init 2 0 0 := ⟨by decide, (inA 50 (by decide +kernel) rfl), (inA 234 (by decide +kernel) rfl), ⟨by decide +kernel, by decide +kernel⟩, by decide +kernel, rfl, rfl, (inA 233 (by decide +kernel) rfl)⟩
def mX1_choose : MD := (yX1_choose, cX1_choose, 6, none)
theorem vX1_choose : MF mX1_choose 0 1 4 := ⟨by decide, (inA 50 (by decide +kernel) rfl), (inA 491 (by decide +kernel) rfl), ⟨by decide +kernel, by decide +kernel⟩, by decide +kernel, by decide, rfl, (inA 489 (by decide +kernel) rfl), (inA 490 (by decide +kernel) rfl)⟩
def mX1_startWithAll : MD := (yX1_startWithAll, cX1_startWithAll, 4, none)
theorem vX1_startWithAll : MF mX1_startWithAll 0 1 2 := ⟨by decide, (inA 50 (by decide +kernel) rfl), (inA 495 (by decide +kernel) rfl), ⟨by decide +kernel, by decide +kernel⟩, by decide +kernel, by decide, rfl, (inA 494 (by decide +kernel) rfl), (inA 10 (by decide +kernel) rfl)⟩
def mX1_isBetter : MD := (yX1_isBetter, cX1_isBetter, 1, (some .boolean))
theorem vX1_isBetter : MF mX1_isBetter 0 1 0 := ⟨by decide, (inA 50 (by decide +kernel) rfl), (inA 504 (by decide +kernel) rfl), ⟨by decide +kernel, by decide +kernel⟩, by decide +kernel, by decide, rfl, (inA 503 (by decide +kernel) rfl), (inA 12 (by decide +kernel) rfl)⟩
def mX1_goOn : MD := (yX1_goOn, cX1_goOn, 5, none)
theorem vX1_goOn : MF mX1_goOn 0 1 3 := ⟨by decide, (inA 50 (by decide +kernel) rfl), (inA 508 (by decide +kernel) rfl), ⟨by decide +kernel, by decide +kernel⟩, by decide +kernel, by decide, rfl, (inA 507 (by decide +kernel) rfl), (inA 13 (by decide +kernel) rfl)⟩
def mX1_putBack : MD := (yX1_putBack, cX1_putBack, 4, none)
theorem vX1_putBack : MF mX1_putBack 0 1 3 := ⟨by decide, (inA 50 (by decide +kernel) rfl), (inA 500 (by decide +kernel) rfl), ⟨by decide +kernel, by decide +kernel⟩, by decide +kernel, by decide, rfl, (inA 499 (by decide +kernel) rfl), (inA 11 (by decide +kernel) rfl)⟩
def mX1_takeOut : MD := (yX1_takeOut, cX1_takeOut, 4, none)
theorem vX1_takeOut : MF mX1_takeOut 0 1 3 := ⟨by decide, (inA 50 (by decide +kernel) rfl), (inA 512 (by decide +kernel) rfl), ⟨by decide +kernel, by decide +kernel⟩, by decide +kernel, by decide, rfl, (inA 511 (by decide +kernel) rfl), (inA 14 (by decide +kernel) rfl)⟩
def mX2_init : MD := (yX2_init, cX2_init, 1, none)
theorem vX2_init : MF mX2_init 2 0 0 := ⟨by decide, (inA 48 (by decide +kernel) rfl), (inA 195 (by decide +kernel) rfl), ⟨by decide +kernel, by decide +kernel⟩, by decide +kernel, rfl, rfl, (inA 194 (by decide +kernel) rfl)⟩
def mX2_add : MD := (yX2_add, cX2_add, 2, (some .boolean))
theorem vX2_add : MF mX2_add 0 2 1 := ⟨by decide, (inA 48 (by decide +kernel) rfl), (inA 547 (by decide +kernel) rfl), ⟨by decide +kernel, by decide +kernel⟩, by decide +kernel, by decide, rfl, (inA 545 (by decide +kernel) rfl), (inA 546 (by decide +kernel) rfl)⟩
def mX2_clear : MD := (yX2_clear, cX2_clear, 2, (some .int))
theorem vX2_clear : MF mX2_clear 0 2 0 := ⟨by decide, (inA 48 (by decide +kernel) rfl), (inA 368 (by decide +kernel) rfl), ⟨by decide +kernel, by decide +kernel⟩, by decide +kernel, by decide, rfl, (inA 366 (by decide +kernel) rfl), (inA 367 (by decide +kernel) rfl)⟩
def mX2_changesTo : MD := (yX2_changesTo, cX2_changesTo, 3, (some .int))
theorem vX2_changesTo : MF mX2_changesTo 0 2 1 := ⟨by decide, (inA 48 (by decide +kernel) rfl), (inA 559 (by decide +kernel) rfl), ⟨by decide +kernel, by decide +kernel⟩, by decide +kernel, by decide, rfl, (inA 557 (by decide +kernel) rfl), (inA 558 (by decide +kernel) rfl)⟩
def mX2_addLayer : MD := (yX2_addLayer, cX2_addLayer, 5, none)
theorem vX2_addLayer : MF mX2_addLayer 0 2 1 := ⟨by decide, (inA 48 (by decide +kernel) rfl), (inA 563 (by decide +kernel) rfl), ⟨by decide +kernel, by decide +kernel⟩, by decide +kernel, by decide, rfl, (inA 562 (by decide +kernel) rfl), (inA 18 (by decide +kernel) rfl)⟩
def mX2_firstUnlike : MD := (yX2_firstUnlike, cX2_firstUnlike, 4, (some .int))
theorem vX2_firstUnlike : MF mX2_firstUnlike 0 2 1 := ⟨by decide, (inA 48 (by decide +kernel) rfl), (inA 572 (by decide +kernel) rfl), ⟨by decide +kernel, by decide +kernel⟩, by decide +kernel, by decide, rfl, (inA 570 (by decide +kernel) rfl), (inA 571 (by decide +kernel) rfl)⟩
def mX3_init : MD := (yX3_init, cX3_init, 1, none)
theorem vX3_init : MF mX3_init 2 0 0 := ⟨by decide, (inA 44 (by decide +kernel) rfl), (inA 65 (by decide +kernel) rfl), ⟨by decide +kernel, by decide +kernel⟩, by decide +kernel, rfl, rfl, (inA 64 (by decide +kernel) rfl)⟩
def mX3_append : MD := (yX3_append, cX3_append, 5, (some .boolean))
theorem vX3_append : MF mX3_append 0 3 2 := ⟨by decide, (inA 44 (by decide +kernel) rfl), (inA 310 (by decide +kernel) rfl), ⟨by decide +kernel, by decide +kernel⟩, by decide +kernel, by decide, rfl, (inA 308 (by decide +kernel) rfl), (inA 309 (by decide +kernel) rfl)⟩
def mX3_clear : MD := (yX3_clear, cX3_clear, 2, (some .int))
theorem vX3_clear : MF mX3_clear 0 3 0 := ⟨by decide, (inA 44 (by decide +kernel) rfl), (inA 318 (by decide +kernel) rfl), ⟨by decide +kernel, by decide +kernel⟩, by decide +kernel, by decide, rfl, (inA 316 (by decide +kernel) rfl), (inA 317 (by decide +kernel) rfl)⟩
def mX3_tellTo : MD := (yX3_tellTo, cX3_tellTo, 5, (some .int))
theorem vX3_tellTo : MF mX3_tellTo 0 3 1 := ⟨by decide, (inA 44 (by decide +kernel) rfl), (inA 326 (by decide +kernel) rfl), ⟨by decide +kernel, by decide +kernel⟩, by decide +kernel, by decide, rfl, (inA 324 (by decide +kernel) rfl), (inA 325 (by decide +kernel) rfl)⟩
def mX3_startItem : MD := (yX3_startItem, cX3_startItem, 1, none)
theorem vX3_startItem : MF mX3_startItem 0 3 0 := ⟨by decide, (inA 44 (by decide +kernel) rfl), (inA 331 (by decide +kernel) rfl), ⟨by decide +kernel, by decide +kernel⟩, by decide +kernel, by decide, rfl, (inA 330 (by decide +kernel) rfl), (inA 0 (by decide +kernel) rfl)⟩
def mX3_addFigure : MD := (yX3_addFigure, cX3_addFigure, 2, (some .boolean))
theorem vX3_addFigure : MF mX3_addFigure 0 3 1 := ⟨by decide, (inA 44 (by decide +kernel) rfl), (inA 335 (by decide +kernel) rfl), ⟨by decide +kernel, by decide +kernel⟩, by decide +kernel, by decide, rfl, (inA 334 (by decide +kernel) rfl), (inA 1 (by decide +kernel) rfl)⟩
def mX3_endNumber : MD := (yX3_endNumber, cX3_endNumber, 1, (some .boolean))
theorem vX3_endNumber : MF mX3_endNumber 0 3 0 := ⟨by decide, (inA 44 (by decide +kernel) rfl), (inA 339 (by decide +kernel) rfl), ⟨by decide +kernel, by decide +kernel⟩, by decide +kernel, by decide, rfl, (inA 338 (by decide +kernel) rfl), (inA 2 (by decide +kernel) rfl)⟩
def mX4_init : MD := (yX4_init, cX4_init, 1, none)
theorem vX4_init : MF mX4_init 2 0 0 := ⟨by decide, (inA 49 (by decide +kernel) rfl), (inA 212 (by decide +kernel) rfl), ⟨by decide +kernel, by decide +kernel⟩, by decide +kernel, rfl, rfl, (inA 211 (by decide +kernel) rfl)⟩
def mX4_choose : MD := (yX4_choose, cX4_choose, 7, none)
theorem vX4_choose : MF mX4_choose 0 4 3 := ⟨by decide, (inA 49 (by decide +kernel) rfl), (inA 448 (by decide +kernel) rfl), ⟨by decide +kernel, by decide +kernel⟩, by decide +kernel, by decide, rfl, (inA 446 (by decide +kernel) rfl), (inA 447 (by decide +kernel) rfl)⟩
def mX4_doorAt : MD := (yX4_doorAt, cX4_doorAt, 2, (some .int))
theorem vX4_doorAt : MF mX4_doorAt 0 4 1 := ⟨by decide, (inA 49 (by decide +kernel) rfl), (inA 459 (by decide +kernel) rfl), ⟨by decide +kernel, by decide +kernel⟩, by decide +kernel, by decide, rfl, (inA 457 (by decide +kernel) rfl), (inA 458 (by decide +kernel) rfl)⟩
def mX4_weigh : MD := (yX4_weigh, cX4_weigh, 7, none)
theorem vX4_weigh : MF mX4_weigh 0 4 3 := ⟨by decide, (inA 49 (by decide +kernel) rfl), (inA 452 (by decide +kernel) rfl), ⟨by decide +kernel, by decide +kernel⟩, by decide +kernel, by decide, rfl, (inA 451 (by decide +kernel) rfl), (inA 8 (by decide +kernel) rfl)⟩
def mX5_init : MD := (yX5_init, cX5_init, 1, none)
theorem vX5_init : MF mX5_init 2 0 0 := ⟨by decide, (inA 45 (by decide +kernel) rfl), (inA 93 (by decide +kernel) rfl), ⟨by decide +kernel, by decide +kernel⟩, by decide +kernel, rfl, rfl, (inA 92 (by decide +kernel) rfl)⟩
def mX5_forget : MD := (yX5_forget, cX5_forget, 1, none)
theorem vX5_forget : MF mX5_forget 0 5 0 := ⟨by decide, (inA 45 (by decide +kernel) rfl), (inA 98 (by decide +kernel) rfl), ⟨by decide +kernel, by decide +kernel⟩, by decide +kernel, by decide, rfl, (inA 96 (by decide +kernel) rfl), (inA 97 (by decide +kernel) rfl)⟩
def mX5_take : MD := (yX5_take, cX5_take, 4, (some .boolean))
theorem vX5_take : MF mX5_take 0 5 3 := ⟨by decide, (inA 45 (by decide +kernel) rfl), (inA 343 (by decide +kernel) rfl), ⟨by decide +kernel, by decide +kernel⟩, by decide +kernel, by decide, rfl, (inA 341 (by decide +kernel) rfl), (inA 342 (by decide +kernel) rfl)⟩
def mX5_setBarn : MD := (yX5_setBarn, cX5_setBarn, 3, (some .boolean))
theorem vX5_setBarn : MF mX5_setBarn 0 5 2 := ⟨by decide, (inA 45 (by decide +kernel) rfl), (inA 347 (by decide +kernel) rfl), ⟨by decide +kernel, by decide +kernel⟩, by decide +kernel, by decide, rfl, (inA 346 (by decide +kernel) rfl), (inA 3 (by decide +kernel) rfl)⟩
def mX5_addFall : MD := (yX5_addFall, cX5_addFall, 6, (some .boolean))
theorem vX5_addFall : MF mX5_addFall 0 5 4 := ⟨by decide, (inA 45 (by decide +kernel) rfl), (inA 264 (by decide +kernel) rfl), ⟨by decide +kernel, by decide +kernel⟩, by decide +kernel, by decide, rfl, (inA 262 (by decide +kernel) rfl), (inA 263 (by decide +kernel) rfl)⟩
def mX5_setCost : MD := (yX5_setCost, cX5_setCost, 3, (some .boolean))
theorem vX5_setCost : MF mX5_setCost 0 5 2 := ⟨by decide, (inA 45 (by decide +kernel) rfl), (inA 352 (by decide +kernel) rfl), ⟨by decide +kernel, by decide +kernel⟩, by decide +kernel, by decide, rfl, (inA 351 (by decide +kernel) rfl), (inA 4 (by decide +kernel) rfl)⟩
def mX5_setOne : MD := (yX5_setOne, cX5_setOne, 3, (some .boolean))
theorem vX5_setOne : MF mX5_setOne 0 5 2 := ⟨by decide, (inA 45 (by decide +kernel) rfl), (inA 356 (by decide +kernel) rfl), ⟨by decide +kernel, by decide +kernel⟩, by decide +kernel, by decide, rfl, (inA 355 (by decide +kernel) rfl), (inA 5 (by decide +kernel) rfl)⟩
def mX5_costOf : MD := (yX5_costOf, cX5_costOf, 2, (some .int))
theorem vX5_costOf : MF mX5_costOf 0 5 1 := ⟨by decide, (inA 45 (by decide +kernel) rfl), (inA 376 (by decide +kernel) rfl), ⟨by decide +kernel, by decide +kernel⟩, by decide +kernel, by decide, rfl, (inA 374 (by decide +kernel) rfl), (inA 375 (by decide +kernel) rfl)⟩
def mX5_bears : MD := (yX5_bears, cX5_bears, 3, (some .boolean))
theorem vX5_bears : MF mX5_bears 0 5 2 := ⟨by decide, (inA 45 (by decide +kernel) rfl), (inA 392 (by decide +kernel) rfl), ⟨by decide +kernel, by decide +kernel⟩, by decide +kernel, by decide, rfl, (inA 390 (by decide +kernel) rfl), (inA 391 (by decide +kernel) rfl)⟩
def mX6_init : MD := (yX6_init, cX6_init, 1, none)
theorem vX6_init : MF mX6_init 2 0 0 := ⟨by decide, (inA 43 (by decide +kernel) rfl), (inA 57 (by decide +kernel) rfl), ⟨by decide +kernel, by decide +kernel⟩, by decide +kernel, rfl, rfl, (inA 56 (by decide +kernel) rfl)⟩
def mX6_write : MD := (yX6_write, cX6_write, 4, (some .int))
theorem vX6_write : MF mX6_write 0 6 2 := ⟨by decide, (inA 43 (by decide +kernel) rfl), (inA 306 (by decide +kernel) rfl), ⟨by decide +kernel, by decide +kernel⟩, by decide +kernel, by decide, rfl, (inA 304 (by decide +kernel) rfl), (inA 305 (by decide +kernel) rfl)⟩
def mX6_wipe : MD := (yX6_wipe, cX6_wipe, 1, (some .int))
theorem vX6_wipe : MF mX6_wipe 0 6 0 := ⟨by decide, (inA 43 (by decide +kernel) rfl), (inA 314 (by decide +kernel) rfl), ⟨by decide +kernel, by decide +kernel⟩, by decide +kernel, by decide, rfl, (inA 312 (by decide +kernel) rfl), (inA 313 (by decide +kernel) rfl)⟩
def mX6_fault : MD := (yX6_fault, cX6_fault, 1, (some .int))
theorem vX6_fault : MF mX6_fault 0 6 0 := ⟨by decide, (inA 43 (by decide +kernel) rfl), (inA 322 (by decide +kernel) rfl), ⟨by decide +kernel, by decide +kernel⟩, by decide +kernel, by decide, rfl, (inA 320 (by decide +kernel) rfl), (inA 321 (by decide +kernel) rfl)⟩
def mX6_lay : MD := (yX6_lay, cX6_lay, 2, (some .int))
theorem vX6_lay : MF mX6_lay 0 6 0 := ⟨by decide, (inA 43 (by decide +kernel) rfl), (inA 360 (by decide +kernel) rfl), ⟨by decide +kernel, by decide +kernel⟩, by decide +kernel, by decide, rfl, (inA 358 (by decide +kernel) rfl), (inA 359 (by decide +kernel) rfl)⟩
def mX6_falls : MD := (yX6_falls, cX6_falls, 3, (some .int))
theorem vX6_falls : MF mX6_falls 0 6 2 := ⟨by decide, (inA 43 (by decide +kernel) rfl), (inA 372 (by decide +kernel) rfl), ⟨by decide +kernel, by decide +kernel⟩, by decide +kernel, by decide, rfl, (inA 370 (by decide +kernel) rfl), (inA 371 (by decide +kernel) rfl)⟩
def mX6_fall : MD := (yX6_fall, cX6_fall, 3, (some .int))
theorem vX6_fall : MF mX6_fall 0 6 0 := ⟨by decide, (inA 43 (by decide +kernel) rfl), (inA 380 (by decide +kernel) rfl), ⟨by decide +kernel, by decide +kernel⟩, by decide +kernel, by decide, rfl, (inA 378 (by decide +kernel) rfl), (inA 379 (by decide +kernel) rfl)⟩
def mX6_layer : MD := (yX6_layer, cX6_layer, 3, (some .int))
theorem vX6_layer : MF mX6_layer 0 6 2 := ⟨by decide, (inA 43 (by decide +kernel) rfl), (inA 400 (by decide +kernel) rfl), ⟨by decide +kernel, by decide +kernel⟩, by decide +kernel, by decide, rfl, (inA 398 (by decide +kernel) rfl), (inA 399 (by decide +kernel) rfl)⟩
def mX6_firstOut : MD := (yX6_firstOut, cX6_firstOut, 2, (some .int))
theorem vX6_firstOut : MF mX6_firstOut 0 6 0 := ⟨by decide, (inA 43 (by decide +kernel) rfl), (inA 416 (by decide +kernel) rfl), ⟨by decide +kernel, by decide +kernel⟩, by decide +kernel, by decide, rfl, (inA 414 (by decide +kernel) rfl), (inA 415 (by decide +kernel) rfl)⟩
def mX6_thaw : MD := (yX6_thaw, cX6_thaw, 2, (some .int))
theorem vX6_thaw : MF mX6_thaw 0 6 1 := ⟨by decide, (inA 43 (by decide +kernel) rfl), (inA 432 (by decide +kernel) rfl), ⟨by decide +kernel, by decide +kernel⟩, by decide +kernel, by decide, rfl, (inA 430 (by decide +kernel) rfl), (inA 431 (by decide +kernel) rfl)⟩
def mX6_doors : MD := (yX6_doors, cX6_doors, 3, (some .int))
theorem vX6_doors : MF mX6_doors 0 6 2 := ⟨by decide, (inA 43 (by decide +kernel) rfl), (inA 444 (by decide +kernel) rfl), ⟨by decide +kernel, by decide +kernel⟩, by decide +kernel, by decide, rfl, (inA 442 (by decide +kernel) rfl), (inA 443 (by decide +kernel) rfl)⟩
def mX6_sell : MD := (yX6_sell, cX6_sell, 4, (some .int))
theorem vX6_sell : MF mX6_sell 0 6 2 := ⟨by decide, (inA 43 (by decide +kernel) rfl), (inA 463 (by decide +kernel) rfl), ⟨by decide +kernel, by decide +kernel⟩, by decide +kernel, by decide, rfl, (inA 461 (by decide +kernel) rfl), (inA 462 (by decide +kernel) rfl)⟩
def mX6_undo : MD := (yX6_undo, cX6_undo, 1, (some .int))
theorem vX6_undo : MF mX6_undo 0 6 0 := ⟨by decide, (inA 43 (by decide +kernel) rfl), (inA 475 (by decide +kernel) rfl), ⟨by decide +kernel, by decide +kernel⟩, by decide +kernel, by decide, rfl, (inA 473 (by decide +kernel) rfl), (inA 474 (by decide +kernel) rfl)⟩
def mX6_swap : MD := (yX6_swap, cX6_swap, 4, (some .int))
theorem vX6_swap : MF mX6_swap 0 6 2 := ⟨by decide, (inA 43 (by decide +kernel) rfl), (inA 483 (by decide +kernel) rfl), ⟨by decide +kernel, by decide +kernel⟩, by decide +kernel, by decide, rfl, (inA 481 (by decide +kernel) rfl), (inA 482 (by decide +kernel) rfl)⟩
def mX6_letGo : MD := (yX6_letGo, cX6_letGo, 4, (some .int))
theorem vX6_letGo : MF mX6_letGo 0 6 3 := ⟨by decide, (inA 43 (by decide +kernel) rfl), (inA 487 (by decide +kernel) rfl), ⟨by decide +kernel, by decide +kernel⟩, by decide +kernel, by decide, rfl, (inA 485 (by decide +kernel) rfl), (inA 486 (by decide +kernel) rfl)⟩
def mX6_odds : MD := (yX6_odds, cX6_odds, 8, (some .int))
theorem vX6_odds : MF mX6_odds 0 6 4 := ⟨by decide, (inA 43 (by decide +kernel) rfl), (inA 516 (by decide +kernel) rfl), ⟨by decide +kernel, by decide +kernel⟩, by decide +kernel, by decide, rfl, (inA 514 (by decide +kernel) rfl), (inA 515 (by decide +kernel) rfl)⟩
def mX6_likeliest : MD := (yX6_likeliest, cX6_likeliest, 7, (some .int))
theorem vX6_likeliest : MF mX6_likeliest 0 6 2 := ⟨by decide, (inA 43 (by decide +kernel) rfl), (inA 539 (by decide +kernel) rfl), ⟨by decide +kernel, by decide +kernel⟩, by decide +kernel, by decide, rfl, (inA 537 (by decide +kernel) rfl), (inA 538 (by decide +kernel) rfl)⟩
def mX6_mark : MD := (yX6_mark, cX6_mark, 2, (some .int))
theorem vX6_mark : MF mX6_mark 0 6 1 := ⟨by decide, (inA 43 (by decide +kernel) rfl), (inA 543 (by decide +kernel) rfl), ⟨by decide +kernel, by decide +kernel⟩, by decide +kernel, by decide, rfl, (inA 541 (by decide +kernel) rfl), (inA 542 (by decide +kernel) rfl)⟩
def mX6_noMarks : MD := (yX6_noMarks, cX6_noMarks, 1, (some .int))
theorem vX6_noMarks : MF mX6_noMarks 0 6 0 := ⟨by decide, (inA 43 (by decide +kernel) rfl), (inA 551 (by decide +kernel) rfl), ⟨by decide +kernel, by decide +kernel⟩, by decide +kernel, by decide, rfl, (inA 549 (by decide +kernel) rfl), (inA 550 (by decide +kernel) rfl)⟩
def mX6_far : MD := (yX6_far, cX6_far, 1, (some .int))
theorem vX6_far : MF mX6_far 0 6 0 := ⟨by decide, (inA 43 (by decide +kernel) rfl), (inA 555 (by decide +kernel) rfl), ⟨by decide +kernel, by decide +kernel⟩, by decide +kernel, by decide, rfl, (inA 553 (by decide +kernel) rfl), (inA 554 (by decide +kernel) rfl)⟩
def mX6_odd : MD := (yX6_odd, cX6_odd, 1, (some .int))
theorem vX6_odd : MF mX6_odd 0 6 0 := ⟨by decide, (inA 43 (by decide +kernel) rfl), (inA 568 (by decide +kernel) rfl), ⟨by decide +kernel, by decide +kernel⟩, by decide +kernel, by decide, rfl, (inA 566 (by decide +kernel) rfl), (inA 567 (by decide +kernel) rfl)⟩
def mX6_wish : MD := (yX6_wish, cX6_wish, 2, (some .int))
theorem vX6_wish : MF mX6_wish 0 6 1 := ⟨by decide, (inA 43 (by decide +kernel) rfl), (inA 576 (by decide +kernel) rfl), ⟨by decide +kernel, by decide +kernel⟩, by decide +kernel, by decide, rfl, (inA 574 (by decide +kernel) rfl), (inA 575 (by decide +kernel) rfl)⟩
def mX6_nearest : MD := (yX6_nearest, cX6_nearest, 7, (some .int))
theorem vX6_nearest : MF mX6_nearest 0 6 2 := ⟨by decide, (inA 43 (by decide +kernel) rfl), (inA 584 (by decide +kernel) rfl), ⟨by decide +kernel, by decide +kernel⟩, by decide +kernel, by decide, rfl, (inA 582 (by decide +kernel) rfl), (inA 583 (by decide +kernel) rfl)⟩
def mX6_moved : MD := (yX6_moved, cX6_moved, 6, (some .int))
theorem vX6_moved : MF mX6_moved 0 6 1 := ⟨by decide, (inA 43 (by decide +kernel) rfl), (inA 591 (by decide +kernel) rfl), ⟨by decide +kernel, by decide +kernel⟩, by decide +kernel, by decide, rfl, (inA 589 (by decide +kernel) rfl), (inA 590 (by decide +kernel) rfl)⟩
def mX6_rent : MD := (yX6_rent, cX6_rent, 5, (some .long))
theorem vX6_rent : MF mX6_rent 0 6 1 := ⟨by decide, (inA 43 (by decide +kernel) rfl), (inA 595 (by decide +kernel) rfl), ⟨by decide +kernel, by decide +kernel⟩, by decide +kernel, by decide, rfl, (inA 593 (by decide +kernel) rfl), (inA 594 (by decide +kernel) rfl)⟩
def mX6_winter : MD := (yX6_winter, cX6_winter, 2, (some .int))
theorem vX6_winter : MF mX6_winter 0 6 1 := ⟨by decide, (inA 43 (by decide +kernel) rfl), (inA 602 (by decide +kernel) rfl), ⟨by decide +kernel, by decide +kernel⟩, by decide +kernel, by decide, rfl, (inA 600 (by decide +kernel) rfl), (inA 601 (by decide +kernel) rfl)⟩
def mX6_ten : MD := (yX6_ten, cX6_ten, 4, (some .int))
theorem vX6_ten : MF mX6_ten 0 6 1 := ⟨by decide, (inA 43 (by decide +kernel) rfl), (inA 609 (by decide +kernel) rfl), ⟨by decide +kernel, by decide +kernel⟩, by decide +kernel, by decide, rfl, (inA 607 (by decide +kernel) rfl), (inA 608 (by decide +kernel) rfl)⟩
def mX6_keep : MD := (yX6_keep, cX6_keep, 1, (some .int))
theorem vX6_keep : MF mX6_keep 0 6 0 := ⟨by decide, (inA 43 (by decide +kernel) rfl), (inA 613 (by decide +kernel) rfl), ⟨by decide +kernel, by decide +kernel⟩, by decide +kernel, by decide, rfl, (inA 611 (by decide +kernel) rfl), (inA 612 (by decide +kernel) rfl)⟩
def mX6_back : MD := (yX6_back, cX6_back, 1, (some .int))
theorem vX6_back : MF mX6_back 0 6 0 := ⟨by decide, (inA 43 (by decide +kernel) rfl), (inA 625 (by decide +kernel) rfl), ⟨by decide +kernel, by decide +kernel⟩, by decide +kernel, by decide, rfl, (inA 623 (by decide +kernel) rfl), (inA 624 (by decide +kernel) rfl)⟩
def mX6_count : MD := (yX6_count, cX6_count, 2, (some .int))
theorem vX6_count : MF mX6_count 0 6 1 := ⟨by decide, (inA 43 (by decide +kernel) rfl), (inA 629 (by decide +kernel) rfl), ⟨by decide +kernel, by decide +kernel⟩, by decide +kernel, by decide, rfl, (inA 627 (by decide +kernel) rfl), (inA 628 (by decide +kernel) rfl)⟩
def mX6_inside : MD := (yX6_inside, cX6_inside, 3, (some .boolean))
theorem vX6_inside : MF mX6_inside 1 0 3 := ⟨by decide, (inA 43 (by decide +kernel) rfl), (inA 270 (by decide +kernel) rfl), ⟨by decide +kernel, by decide +kernel⟩, by decide +kernel, (inA 269 (by decide +kernel) rfl)⟩
def mX6_isYear : MD := (yX6_isYear, cX6_isYear, 1, (some .boolean))
theorem vX6_isYear : MF mX6_isYear 1 0 1 := ⟨by decide, (inA 43 (by decide +kernel) rfl), (inA 267 (by decide +kernel) rfl), ⟨by decide +kernel, by decide +kernel⟩, by decide +kernel, (inA 266 (by decide +kernel) rfl)⟩
def mX6_isWinter : MD := (yX6_isWinter, cX6_isWinter, 1, (some .boolean))
theorem vX6_isWinter : MF mX6_isWinter 1 0 1 := ⟨by decide, (inA 43 (by decide +kernel) rfl), (inA 605 (by decide +kernel) rfl), ⟨by decide +kernel, by decide +kernel⟩, by decide +kernel, (inA 604 (by decide +kernel) rfl)⟩
def mX6_isPiece : MD := (yX6_isPiece, cX6_isPiece, 2, (some .boolean))
theorem vX6_isPiece : MF mX6_isPiece 1 0 2 := ⟨by decide, (inA 43 (by decide +kernel) rfl), (inA 519 (by decide +kernel) rfl), ⟨by decide +kernel, by decide +kernel⟩, by decide +kernel, (inA 518 (by decide +kernel) rfl)⟩
def mX6_keptAt : MD := (yX6_keptAt, cX6_keptAt, 2, (some (.object "SnowByNumber$Barn")))
theorem vX6_keptAt : MF mX6_keptAt 0 6 1 := ⟨by decide, (inA 43 (by decide +kernel) rfl), (inA 617 (by decide +kernel) rfl), ⟨by decide +kernel, by decide +kernel⟩, by decide +kernel, by decide, rfl, (inA 616 (by decide +kernel) rfl), (inA 20 (by decide +kernel) rfl)⟩
def mX6_firstThatCannot : MD := (yX6_firstThatCannot, cX6_firstThatCannot, 7, (some .int))
theorem vX6_firstThatCannot : MF mX6_firstThatCannot 0 6 4 := ⟨by decide, (inA 43 (by decide +kernel) rfl), (inA 420 (by decide +kernel) rfl), ⟨by decide +kernel, by decide +kernel⟩, by decide +kernel, by decide, rfl, (inA 419 (by decide +kernel) rfl), (inA 6 (by decide +kernel) rfl)⟩
def mX6_moreInches : MD := (yX6_moreInches, cX6_moreInches, 6, (some .int))
theorem vX6_moreInches : MF mX6_moreInches 0 6 2 := ⟨by decide, (inA 43 (by decide +kernel) rfl), (inA 424 (by decide +kernel) rfl), ⟨by decide +kernel, by decide +kernel⟩, by decide +kernel, by decide, rfl, (inA 423 (by decide +kernel) rfl), (inA 7 (by decide +kernel) rfl)⟩
def mX6_weightOf : MD := (yX6_weightOf, cX6_weightOf, 6, (some .int))
theorem vX6_weightOf : MF mX6_weightOf 0 6 3 := ⟨by decide, (inA 43 (by decide +kernel) rfl), (inA 528 (by decide +kernel) rfl), ⟨by decide +kernel, by decide +kernel⟩, by decide +kernel, by decide, rfl, (inA 527 (by decide +kernel) rfl), (inA 16 (by decide +kernel) rfl)⟩
def mX6_weightOfAll : MD := (yX6_weightOfAll, cX6_weightOfAll, 5, (some .int))
theorem vX6_weightOfAll : MF mX6_weightOfAll 0 6 2 := ⟨by decide, (inA 43 (by decide +kernel) rfl), (inA 524 (by decide +kernel) rfl), ⟨by decide +kernel, by decide +kernel⟩, by decide +kernel, by decide, rfl, (inA 523 (by decide +kernel) rfl), (inA 15 (by decide +kernel) rfl)⟩
def mX6_weightOfYear : MD := (yX6_weightOfYear, cX6_weightOfYear, 6, (some .int))
theorem vX6_weightOfYear : MF mX6_weightOfYear 0 6 3 := ⟨by decide, (inA 43 (by decide +kernel) rfl), (inA 532 (by decide +kernel) rfl), ⟨by decide +kernel, by decide +kernel⟩, by decide +kernel, by decide, rfl, (inA 531 (by decide +kernel) rfl), (inA 17 (by decide +kernel) rfl)⟩
def mX6_tenthsOfYear : MD := (yX6_tenthsOfYear, cX6_tenthsOfYear, 4, (some .int))
theorem vX6_tenthsOfYear : MF mX6_tenthsOfYear 0 6 1 := ⟨by decide, (inA 43 (by decide +kernel) rfl), (inA 580 (by decide +kernel) rfl), ⟨by decide +kernel, by decide +kernel⟩, by decide +kernel, by decide, rfl, (inA 579 (by decide +kernel) rfl), (inA 19 (by decide +kernel) rfl)⟩
def mX6_commonDivisor : MD := (yX6_commonDivisor, cX6_commonDivisor, 4, (some .int))
theorem vX6_commonDivisor : MF mX6_commonDivisor 1 0 2 := ⟨by decide, (inA 43 (by decide +kernel) rfl), (inA 535 (by decide +kernel) rfl), ⟨by decide +kernel, by decide +kernel⟩, by decide +kernel, (inA 534 (by decide +kernel) rfl)⟩
def mX7_init : MD := (yX7_init, cX7_init, 1, none)
theorem vX7_init : MF mX7_init 2 0 0 := ⟨by decide, (inA 51 (by decide +kernel) rfl), (inA 634 (by decide +kernel) rfl), ⟨by decide +kernel, by decide +kernel⟩, by decide +kernel, rfl, rfl, (inA 633 (by decide +kernel) rfl)⟩
def mX7_in : MD := (yX7_in, cX7_in, 6, (some .boolean))
theorem vX7_in : MF mX7_in 1 0 3 := ⟨by decide, (inA 51 (by decide +kernel) rfl), (inA 728 (by decide +kernel) rfl), ⟨by decide +kernel, by decide +kernel⟩, by decide +kernel, (inA 727 (by decide +kernel) rfl)⟩
def mX7_write : MD := (yX7_write, cX7_write, 5, (some .int))
theorem vX7_write : MF mX7_write 0 7 2 := ⟨by decide, (inA 51 (by decide +kernel) rfl), (inA 724 (by decide +kernel) rfl), ⟨by decide +kernel, by decide +kernel⟩, by decide +kernel, by decide, rfl, (inA 722 (by decide +kernel) rfl), (inA 723 (by decide +kernel) rfl)⟩
def mX7_wipe : MD := (yX7_wipe, cX7_wipe, 2, (some .int))
theorem vX7_wipe : MF mX7_wipe 0 7 0 := ⟨by decide, (inA 51 (by decide +kernel) rfl), (inA 732 (by decide +kernel) rfl), ⟨by decide +kernel, by decide +kernel⟩, by decide +kernel, by decide, rfl, (inA 730 (by decide +kernel) rfl), (inA 731 (by decide +kernel) rfl)⟩
def mX7_number : MD := (yX7_number, cX7_number, 3, (some .int))
theorem vX7_number : MF mX7_number 0 7 0 := ⟨by decide, (inA 51 (by decide +kernel) rfl), (inA 747 (by decide +kernel) rfl), ⟨by decide +kernel, by decide +kernel⟩, by decide +kernel, by decide, rfl, (inA 746 (by decide +kernel) rfl), (inA 24 (by decide +kernel) rfl)⟩
def mX7_parts : MD := (yX7_parts, cX7_parts, 1, (some .int))
theorem vX7_parts : MF mX7_parts 1 0 1 := ⟨by decide, (inA 51 (by decide +kernel) rfl), (inA 743 (by decide +kernel) rfl), ⟨by decide +kernel, by decide +kernel⟩, by decide +kernel, (inA 742 (by decide +kernel) rfl)⟩
def mX7_isIn : MD := (yX7_isIn, cX7_isIn, 4, (some .boolean))
theorem vX7_isIn : MF mX7_isIn 0 7 3 := ⟨by decide, (inA 51 (by decide +kernel) rfl), (inA 758 (by decide +kernel) rfl), ⟨by decide +kernel, by decide +kernel⟩, by decide +kernel, by decide, rfl, (inA 757 (by decide +kernel) rfl), (inA 26 (by decide +kernel) rfl)⟩
def mX7_isItem : MD := (yX7_isItem, cX7_isItem, 5, (some .boolean))
theorem vX7_isItem : MF mX7_isItem 0 7 0 := ⟨by decide, (inA 51 (by decide +kernel) rfl), (inA 740 (by decide +kernel) rfl), ⟨by decide +kernel, by decide +kernel⟩, by decide +kernel, by decide, rfl, (inA 739 (by decide +kernel) rfl), (inA 23 (by decide +kernel) rfl)⟩
def mX7_isGood : MD := (yX7_isGood, cX7_isGood, 5, (some .boolean))
theorem vX7_isGood : MF mX7_isGood 0 7 1 := ⟨by decide, (inA 51 (by decide +kernel) rfl), (inA 754 (by decide +kernel) rfl), ⟨by decide +kernel, by decide +kernel⟩, by decide +kernel, by decide, rfl, (inA 753 (by decide +kernel) rfl), (inA 25 (by decide +kernel) rfl)⟩
def mX7_begins : MD := (yX7_begins, cX7_begins, 2, none)
theorem vX7_begins : MF mX7_begins 0 7 0 := ⟨by decide, (inA 51 (by decide +kernel) rfl), (inA 639 (by decide +kernel) rfl), ⟨by decide +kernel, by decide +kernel⟩, by decide +kernel, by decide, rfl, (inA 638 (by decide +kernel) rfl), (inA 21 (by decide +kernel) rfl)⟩
def mX7_takes : MD := (yX7_takes, cX7_takes, 2, none)
theorem vX7_takes : MF mX7_takes 0 7 0 := ⟨by decide, (inA 51 (by decide +kernel) rfl), (inA 643 (by decide +kernel) rfl), ⟨by decide +kernel, by decide +kernel⟩, by decide +kernel, by decide, rfl, (inA 642 (by decide +kernel) rfl), (inA 22 (by decide +kernel) rfl)⟩
def mX7_fault : MD := (yX7_fault, cX7_fault, 2, (some .int))
theorem vX7_fault : MF mX7_fault 0 7 0 := ⟨by decide, (inA 51 (by decide +kernel) rfl), (inA 736 (by decide +kernel) rfl), ⟨by decide +kernel, by decide +kernel⟩, by decide +kernel, by decide, rfl, (inA 734 (by decide +kernel) rfl), (inA 735 (by decide +kernel) rfl)⟩
def mX7_lay : MD := (yX7_lay, cX7_lay, 1, (some .int))
theorem vX7_lay : MF mX7_lay 0 7 0 := ⟨by decide, (inA 51 (by decide +kernel) rfl), (inA 762 (by decide +kernel) rfl), ⟨by decide +kernel, by decide +kernel⟩, by decide +kernel, by decide, rfl, (inA 760 (by decide +kernel) rfl), (inA 761 (by decide +kernel) rfl)⟩
def mX7_of : MD := (yX7_of, cX7_of, 3, (some .int))
theorem vX7_of : MF mX7_of 0 7 2 := ⟨by decide, (inA 51 (by decide +kernel) rfl), (inA 772 (by decide +kernel) rfl), ⟨by decide +kernel, by decide +kernel⟩, by decide +kernel, by decide, rfl, (inA 771 (by decide +kernel) rfl), (inA 27 (by decide +kernel) rfl)⟩
def mX7_costOf : MD := (yX7_costOf, cX7_costOf, 2, (some .int))
theorem vX7_costOf : MF mX7_costOf 0 7 1 := ⟨by decide, (inA 51 (by decide +kernel) rfl), (inA 776 (by decide +kernel) rfl), ⟨by decide +kernel, by decide +kernel⟩, by decide +kernel, by decide, rfl, (inA 775 (by decide +kernel) rfl), (inA 28 (by decide +kernel) rfl)⟩
def mX7_isLayer : MD := (yX7_isLayer, cX7_isLayer, 2, (some .boolean))
theorem vX7_isLayer : MF mX7_isLayer 0 7 1 := ⟨by decide, (inA 51 (by decide +kernel) rfl), (inA 800 (by decide +kernel) rfl), ⟨by decide +kernel, by decide +kernel⟩, by decide +kernel, by decide, rfl, (inA 799 (by decide +kernel) rfl), (inA 32 (by decide +kernel) rfl)⟩
def mX7_isYear : MD := (yX7_isYear, cX7_isYear, 1, (some .boolean))
theorem vX7_isYear : MF mX7_isYear 1 0 1 := ⟨by decide, (inA 51 (by decide +kernel) rfl), (inA 856 (by decide +kernel) rfl), ⟨by decide +kernel, by decide +kernel⟩, by decide +kernel, (inA 855 (by decide +kernel) rfl)⟩
def mX7_falls : MD := (yX7_falls, cX7_falls, 3, (some .int))
theorem vX7_falls : MF mX7_falls 0 7 2 := ⟨by decide, (inA 51 (by decide +kernel) rfl), (inA 767 (by decide +kernel) rfl), ⟨by decide +kernel, by decide +kernel⟩, by decide +kernel, by decide, rfl, (inA 765 (by decide +kernel) rfl), (inA 766 (by decide +kernel) rfl)⟩
def mX7_high : MD := (yX7_high, cX7_high, 3, (some .int))
theorem vX7_high : MF mX7_high 0 7 0 := ⟨by decide, (inA 51 (by decide +kernel) rfl), (inA 784 (by decide +kernel) rfl), ⟨by decide +kernel, by decide +kernel⟩, by decide +kernel, by decide, rfl, (inA 783 (by decide +kernel) rfl), (inA 29 (by decide +kernel) rfl)⟩
def mX7_load : MD := (yX7_load, cX7_load, 3, (some .int))
theorem vX7_load : MF mX7_load 0 7 0 := ⟨by decide, (inA 51 (by decide +kernel) rfl), (inA 788 (by decide +kernel) rfl), ⟨by decide +kernel, by decide +kernel⟩, by decide +kernel, by decide, rfl, (inA 787 (by decide +kernel) rfl), (inA 30 (by decide +kernel) rfl)⟩
def mX7_fits : MD := (yX7_fits, cX7_fits, 3, (some .boolean))
theorem vX7_fits : MF mX7_fits 0 7 2 := ⟨by decide, (inA 51 (by decide +kernel) rfl), (inA 792 (by decide +kernel) rfl), ⟨by decide +kernel, by decide +kernel⟩, by decide +kernel, by decide, rfl, (inA 791 (by decide +kernel) rfl), (inA 31 (by decide +kernel) rfl)⟩
def mX7_fall : MD := (yX7_fall, cX7_fall, 3, (some .int))
theorem vX7_fall : MF mX7_fall 0 7 0 := ⟨by decide, (inA 51 (by decide +kernel) rfl), (inA 780 (by decide +kernel) rfl), ⟨by decide +kernel, by decide +kernel⟩, by decide +kernel, by decide, rfl, (inA 778 (by decide +kernel) rfl), (inA 779 (by decide +kernel) rfl)⟩
def mX7_doorOf : MD := (yX7_doorOf, cX7_doorOf, 2, (some .int))
theorem vX7_doorOf : MF mX7_doorOf 1 0 2 := ⟨by decide, (inA 51 (by decide +kernel) rfl), (inA 804 (by decide +kernel) rfl), ⟨by decide +kernel, by decide +kernel⟩, by decide +kernel, (inA 803 (by decide +kernel) rfl)⟩
def mX7_layer : MD := (yX7_layer, cX7_layer, 3, (some .int))
theorem vX7_layer : MF mX7_layer 0 7 2 := ⟨by decide, (inA 51 (by decide +kernel) rfl), (inA 796 (by decide +kernel) rfl), ⟨by decide +kernel, by decide +kernel⟩, by decide +kernel, by decide, rfl, (inA 794 (by decide +kernel) rfl), (inA 795 (by decide +kernel) rfl)⟩
def mX7_firstOut : MD := (yX7_firstOut, cX7_firstOut, 4, (some .int))
theorem vX7_firstOut : MF mX7_firstOut 0 7 0 := ⟨by decide, (inA 51 (by decide +kernel) rfl), (inA 808 (by decide +kernel) rfl), ⟨by decide +kernel, by decide +kernel⟩, by decide +kernel, by decide, rfl, (inA 806 (by decide +kernel) rfl), (inA 807 (by decide +kernel) rfl)⟩
def mX7_thaw : MD := (yX7_thaw, cX7_thaw, 5, (some .int))
theorem vX7_thaw : MF mX7_thaw 0 7 1 := ⟨by decide, (inA 51 (by decide +kernel) rfl), (inA 812 (by decide +kernel) rfl), ⟨by decide +kernel, by decide +kernel⟩, by decide +kernel, by decide, rfl, (inA 810 (by decide +kernel) rfl), (inA 811 (by decide +kernel) rfl)⟩
def mX7_lostBy : MD := (yX7_lostBy, cX7_lostBy, 6, (some .int))
theorem vX7_lostBy : MF mX7_lostBy 0 7 1 := ⟨by decide, (inA 51 (by decide +kernel) rfl), (inA 822 (by decide +kernel) rfl), ⟨by decide +kernel, by decide +kernel⟩, by decide +kernel, by decide, rfl, (inA 821 (by decide +kernel) rfl), (inA 33 (by decide +kernel) rfl)⟩
def mX7_doors : MD := (yX7_doors, cX7_doors, 9, (some .int))
theorem vX7_doors : MF mX7_doors 0 7 2 := ⟨by decide, (inA 51 (by decide +kernel) rfl), (inA 816 (by decide +kernel) rfl), ⟨by decide +kernel, by decide +kernel⟩, by decide +kernel, by decide, rfl, (inA 814 (by decide +kernel) rfl), (inA 815 (by decide +kernel) rfl)⟩
def mX7_sell : MD := (yX7_sell, cX7_sell, 5, (some .int))
theorem vX7_sell : MF mX7_sell 0 7 2 := ⟨by decide, (inA 51 (by decide +kernel) rfl), (inA 826 (by decide +kernel) rfl), ⟨by decide +kernel, by decide +kernel⟩, by decide +kernel, by decide, rfl, (inA 824 (by decide +kernel) rfl), (inA 825 (by decide +kernel) rfl)⟩
def mX7_undo : MD := (yX7_undo, cX7_undo, 2, (some .int))
theorem vX7_undo : MF mX7_undo 0 7 0 := ⟨by decide, (inA 51 (by decide +kernel) rfl), (inA 831 (by decide +kernel) rfl), ⟨by decide +kernel, by decide +kernel⟩, by decide +kernel, by decide, rfl, (inA 829 (by decide +kernel) rfl), (inA 830 (by decide +kernel) rfl)⟩
def mX7_swap : MD := (yX7_swap, cX7_swap, 4, (some .int))
theorem vX7_swap : MF mX7_swap 0 7 2 := ⟨by decide, (inA 51 (by decide +kernel) rfl), (inA 835 (by decide +kernel) rfl), ⟨by decide +kernel, by decide +kernel⟩, by decide +kernel, by decide, rfl, (inA 833 (by decide +kernel) rfl), (inA 834 (by decide +kernel) rfl)⟩
def mX7_years : MD := (yX7_years, cX7_years, 5, (some .int))
theorem vX7_years : MF mX7_years 0 7 1 := ⟨by decide, (inA 51 (by decide +kernel) rfl), (inA 846 (by decide +kernel) rfl), ⟨by decide +kernel, by decide +kernel⟩, by decide +kernel, by decide, rfl, (inA 845 (by decide +kernel) rfl), (inA 34 (by decide +kernel) rfl)⟩
def mX7_letGo : MD := (yX7_letGo, cX7_letGo, 12, (some .int))
theorem vX7_letGo : MF mX7_letGo 0 7 3 := ⟨by decide, (inA 51 (by decide +kernel) rfl), (inA 840 (by decide +kernel) rfl), ⟨by decide +kernel, by decide +kernel⟩, by decide +kernel, by decide, rfl, (inA 838 (by decide +kernel) rfl), (inA 839 (by decide +kernel) rfl)⟩
def mX7_weight : MD := (yX7_weight, cX7_weight, 4, (some .long))
theorem vX7_weight : MF mX7_weight 0 7 3 := ⟨by decide, (inA 51 (by decide +kernel) rfl), (inA 864 (by decide +kernel) rfl), ⟨by decide +kernel, by decide +kernel⟩, by decide +kernel, by decide, rfl, (inA 863 (by decide +kernel) rfl), (inA 36 (by decide +kernel) rfl)⟩
def mX7_weights : MD := (yX7_weights, cX7_weights, 7, (some .long))
theorem vX7_weights : MF mX7_weights 0 7 3 := ⟨by decide, (inA 51 (by decide +kernel) rfl), (inA 860 (by decide +kernel) rfl), ⟨by decide +kernel, by decide +kernel⟩, by decide +kernel, by decide, rfl, (inA 859 (by decide +kernel) rfl), (inA 35 (by decide +kernel) rfl)⟩
def mX7_isPiece : MD := (yX7_isPiece, cX7_isPiece, 2, (some .boolean))
theorem vX7_isPiece : MF mX7_isPiece 1 0 2 := ⟨by decide, (inA 51 (by decide +kernel) rfl), (inA 853 (by decide +kernel) rfl), ⟨by decide +kernel, by decide +kernel⟩, by decide +kernel, (inA 852 (by decide +kernel) rfl)⟩
def mX7_lowest : MD := (yX7_lowest, cX7_lowest, 11, none)
theorem vX7_lowest : MF mX7_lowest 0 7 2 := ⟨by decide, (inA 51 (by decide +kernel) rfl), (inA 868 (by decide +kernel) rfl), ⟨by decide +kernel, by decide +kernel⟩, by decide +kernel, by decide, rfl, (inA 867 (by decide +kernel) rfl), (inA 37 (by decide +kernel) rfl)⟩
def mX7_odds : MD := (yX7_odds, cX7_odds, 7, (some .int))
theorem vX7_odds : MF mX7_odds 0 7 4 := ⟨by decide, (inA 51 (by decide +kernel) rfl), (inA 850 (by decide +kernel) rfl), ⟨by decide +kernel, by decide +kernel⟩, by decide +kernel, by decide, rfl, (inA 848 (by decide +kernel) rfl), (inA 849 (by decide +kernel) rfl)⟩
def mX7_likeliest : MD := (yX7_likeliest, cX7_likeliest, 9, (some .int))
theorem vX7_likeliest : MF mX7_likeliest 0 7 2 := ⟨by decide, (inA 51 (by decide +kernel) rfl), (inA 872 (by decide +kernel) rfl), ⟨by decide +kernel, by decide +kernel⟩, by decide +kernel, by decide, rfl, (inA 870 (by decide +kernel) rfl), (inA 871 (by decide +kernel) rfl)⟩
def mX7_mark : MD := (yX7_mark, cX7_mark, 2, (some .int))
theorem vX7_mark : MF mX7_mark 0 7 1 := ⟨by decide, (inA 51 (by decide +kernel) rfl), (inA 876 (by decide +kernel) rfl), ⟨by decide +kernel, by decide +kernel⟩, by decide +kernel, by decide, rfl, (inA 874 (by decide +kernel) rfl), (inA 875 (by decide +kernel) rfl)⟩
def mX7_noMarks : MD := (yX7_noMarks, cX7_noMarks, 2, (some .int))
theorem vX7_noMarks : MF mX7_noMarks 0 7 0 := ⟨by decide, (inA 51 (by decide +kernel) rfl), (inA 880 (by decide +kernel) rfl), ⟨by decide +kernel, by decide +kernel⟩, by decide +kernel, by decide, rfl, (inA 878 (by decide +kernel) rfl), (inA 879 (by decide +kernel) rfl)⟩
def mX7_shows : MD := (yX7_shows, cX7_shows, 3, (some .int))
theorem vX7_shows : MF mX7_shows 0 7 0 := ⟨by decide, (inA 51 (by decide +kernel) rfl), (inA 888 (by decide +kernel) rfl), ⟨by decide +kernel, by decide +kernel⟩, by decide +kernel, by decide, rfl, (inA 887 (by decide +kernel) rfl), (inA 38 (by decide +kernel) rfl)⟩
def mX7_far : MD := (yX7_far, cX7_far, 5, (some .int))
theorem vX7_far : MF mX7_far 0 7 0 := ⟨by decide, (inA 51 (by decide +kernel) rfl), (inA 884 (by decide +kernel) rfl), ⟨by decide +kernel, by decide +kernel⟩, by decide +kernel, by decide, rfl, (inA 882 (by decide +kernel) rfl), (inA 883 (by decide +kernel) rfl)⟩
def mX7_odd : MD := (yX7_odd, cX7_odd, 3, (some .int))
theorem vX7_odd : MF mX7_odd 0 7 0 := ⟨by decide, (inA 51 (by decide +kernel) rfl), (inA 892 (by decide +kernel) rfl), ⟨by decide +kernel, by decide +kernel⟩, by decide +kernel, by decide, rfl, (inA 890 (by decide +kernel) rfl), (inA 891 (by decide +kernel) rfl)⟩
def mX7_tenthsOf : MD := (yX7_tenthsOf, cX7_tenthsOf, 4, (some .int))
theorem vX7_tenthsOf : MF mX7_tenthsOf 0 7 1 := ⟨by decide, (inA 51 (by decide +kernel) rfl), (inA 901 (by decide +kernel) rfl), ⟨by decide +kernel, by decide +kernel⟩, by decide +kernel, by decide, rfl, (inA 900 (by decide +kernel) rfl), (inA 39 (by decide +kernel) rfl)⟩
def mX7_wish : MD := (yX7_wish, cX7_wish, 2, (some .int))
theorem vX7_wish : MF mX7_wish 0 7 1 := ⟨by decide, (inA 51 (by decide +kernel) rfl), (inA 897 (by decide +kernel) rfl), ⟨by decide +kernel, by decide +kernel⟩, by decide +kernel, by decide, rfl, (inA 895 (by decide +kernel) rfl), (inA 896 (by decide +kernel) rfl)⟩
def mX7_nearest : MD := (yX7_nearest, cX7_nearest, 4, (some .int))
theorem vX7_nearest : MF mX7_nearest 0 7 2 := ⟨by decide, (inA 51 (by decide +kernel) rfl), (inA 905 (by decide +kernel) rfl), ⟨by decide +kernel, by decide +kernel⟩, by decide +kernel, by decide, rfl, (inA 903 (by decide +kernel) rfl), (inA 904 (by decide +kernel) rfl)⟩
def mX7_moved : MD := (yX7_moved, cX7_moved, 6, (some .int))
theorem vX7_moved : MF mX7_moved 0 7 1 := ⟨by decide, (inA 51 (by decide +kernel) rfl), (inA 909 (by decide +kernel) rfl), ⟨by decide +kernel, by decide +kernel⟩, by decide +kernel, by decide, rfl, (inA 907 (by decide +kernel) rfl), (inA 908 (by decide +kernel) rfl)⟩
def mX7_rent : MD := (yX7_rent, cX7_rent, 5, (some .long))
theorem vX7_rent : MF mX7_rent 0 7 1 := ⟨by decide, (inA 51 (by decide +kernel) rfl), (inA 915 (by decide +kernel) rfl), ⟨by decide +kernel, by decide +kernel⟩, by decide +kernel, by decide, rfl, (inA 913 (by decide +kernel) rfl), (inA 914 (by decide +kernel) rfl)⟩
def mX7_comes : MD := (yX7_comes, cX7_comes, 8, (some .int))
theorem vX7_comes : MF mX7_comes 0 7 1 := ⟨by decide, (inA 51 (by decide +kernel) rfl), (inA 929 (by decide +kernel) rfl), ⟨by decide +kernel, by decide +kernel⟩, by decide +kernel, by decide, rfl, (inA 928 (by decide +kernel) rfl), (inA 40 (by decide +kernel) rfl)⟩
def mX7_isSeed : MD := (yX7_isSeed, cX7_isSeed, 1, (some .boolean))
theorem vX7_isSeed : MF mX7_isSeed 1 0 1 := ⟨by decide, (inA 51 (by decide +kernel) rfl), (inA 924 (by decide +kernel) rfl), ⟨by decide +kernel, by decide +kernel⟩, by decide +kernel, (inA 923 (by decide +kernel) rfl)⟩
def mX7_winter : MD := (yX7_winter, cX7_winter, 2, (some .int))
theorem vX7_winter : MF mX7_winter 0 7 1 := ⟨by decide, (inA 51 (by decide +kernel) rfl), (inA 921 (by decide +kernel) rfl), ⟨by decide +kernel, by decide +kernel⟩, by decide +kernel, by decide, rfl, (inA 919 (by decide +kernel) rfl), (inA 920 (by decide +kernel) rfl)⟩
def mX7_ten : MD := (yX7_ten, cX7_ten, 4, (some .int))
theorem vX7_ten : MF mX7_ten 0 7 1 := ⟨by decide, (inA 51 (by decide +kernel) rfl), (inA 936 (by decide +kernel) rfl), ⟨by decide +kernel, by decide +kernel⟩, by decide +kernel, by decide, rfl, (inA 934 (by decide +kernel) rfl), (inA 935 (by decide +kernel) rfl)⟩
def mX7_copies : MD := (yX7_copies, cX7_copies, 4, none)
theorem vX7_copies : MF mX7_copies 0 7 2 := ⟨by decide, (inA 51 (by decide +kernel) rfl), (inA 944 (by decide +kernel) rfl), ⟨by decide +kernel, by decide +kernel⟩, by decide +kernel, by decide, rfl, (inA 943 (by decide +kernel) rfl), (inA 41 (by decide +kernel) rfl)⟩
def mX7_keep : MD := (yX7_keep, cX7_keep, 1, (some .int))
theorem vX7_keep : MF mX7_keep 0 7 0 := ⟨by decide, (inA 51 (by decide +kernel) rfl), (inA 940 (by decide +kernel) rfl), ⟨by decide +kernel, by decide +kernel⟩, by decide +kernel, by decide, rfl, (inA 938 (by decide +kernel) rfl), (inA 939 (by decide +kernel) rfl)⟩
def mX7_back : MD := (yX7_back, cX7_back, 1, (some .int))
theorem vX7_back : MF mX7_back 0 7 0 := ⟨by decide, (inA 51 (by decide +kernel) rfl), (inA 948 (by decide +kernel) rfl), ⟨by decide +kernel, by decide +kernel⟩, by decide +kernel, by decide, rfl, (inA 946 (by decide +kernel) rfl), (inA 947 (by decide +kernel) rfl)⟩
def mX7_count : MD := (yX7_count, cX7_count, 2, (some .int))
theorem vX7_count : MF mX7_count 0 7 1 := ⟨by decide, (inA 51 (by decide +kernel) rfl), (inA 952 (by decide +kernel) rfl), ⟨by decide +kernel, by decide +kernel⟩, by decide +kernel, by decide, rfl, (inA 950 (by decide +kernel) rfl), (inA 951 (by decide +kernel) rfl)⟩
def mJ9_abs : MD := (yJ9_abs_0f7a4, cJ9_abs_0f7a4, 1, (some .int))
theorem vJ9_abs : MF mJ9_abs 1 0 1 := ⟨by decide, (inA 52 (by decide +kernel) rfl), (inA 587 (by decide +kernel) rfl), ⟨by decide +kernel, by decide +kernel⟩, by decide +kernel, (inA 586 (by decide +kernel) rfl)⟩
def mJ9_max : MD := (yJ9_max_7cf53, cJ9_max_7cf53, 2, (some .int))
theorem vJ9_max : MF mJ9_max 1 0 2 := ⟨by decide, (inA 52 (by decide +kernel) rfl), (inA 412 (by decide +kernel) rfl), ⟨by decide +kernel, by decide +kernel⟩, by decide +kernel, (inA 411 (by decide +kernel) rfl)⟩
def mJ9_min : MD := (yJ9_min_7cf53, cJ9_min_7cf53, 2, (some .int))
theorem vJ9_min : MF mJ9_min 1 0 2 := ⟨by decide, (inA 52 (by decide +kernel) rfl), (inA 440 (by decide +kernel) rfl), ⟨by decide +kernel, by decide +kernel⟩, by decide +kernel, (inA 439 (by decide +kernel) rfl)⟩
def mJ7_fill : MD := (yJ7_fill_53178, cJ7_fill_53178, 4, none)
theorem vJ7_fill : MF mJ7_fill 1 0 2 := ⟨by decide, (inA 46 (by decide +kernel) rfl), (inA 101 (by decide +kernel) rfl), ⟨by decide +kernel, by decide +kernel⟩, by decide +kernel, (inA 100 (by decide +kernel) rfl)⟩
def mL_law : MD := (yL_law, cL_law, 4, some .boolean)
theorem lL_9 : ML RL 9 mX6_init := Or.inl (inA 55 (by decide +kernel) rfl)
theorem lX6_1 : Cond.methodLink RX6 1 objectInit ∈ ALLW := (inA 58 (by decide +kernel) rfl)
theorem lX6_9 : ML RX6 9 mX3_init := Or.inr ⟨"SnowByNumber", (inN 63 (by decide +kernel) rfl)⟩
theorem lX3_3 : Cond.methodLink RX3 3 objectInit ∈ ALLW := (inA 66 (by decide +kernel) rfl)
theorem lX6_18 : ML RX6 18 mX5_init := Or.inl (inA 91 (by decide +kernel) rfl)
theorem lX5_3 : Cond.methodLink RX5 3 objectInit ∈ ALLW := (inA 94 (by decide +kernel) rfl)
theorem lX5_27 : ML RX5 27 mX5_forget := Or.inl (inA 95 (by decide +kernel) rfl)
theorem lX5_49 : ML RX5 49 mJ7_fill := Or.inl (inA 99 (by decide +kernel) rfl)
theorem lX6_28 : ML RX6 28 mX0_init := Or.inr ⟨"SnowByNumber", (inN 150 (by decide +kernel) rfl)⟩
theorem lX0_3 : Cond.methodLink RX0 3 objectInit ∈ ALLW := (inA 153 (by decide +kernel) rfl)
theorem lX6_45 : ML RX6 45 mX2_init := Or.inr ⟨"SnowByNumber", (inN 193 (by decide +kernel) rfl)⟩
theorem lX2_3 : Cond.methodLink RX2 3 objectInit ∈ ALLW := (inA 196 (by decide +kernel) rfl)
theorem lX6_52 : ML RX6 52 mX4_init := Or.inr ⟨"SnowByNumber", (inN 210 (by decide +kernel) rfl)⟩
theorem lX4_3 : Cond.methodLink RX4 3 objectInit ∈ ALLW := (inA 213 (by decide +kernel) rfl)
theorem lX6_59 : ML RX6 59 mX1_init := Or.inr ⟨"SnowByNumber", (inN 232 (by decide +kernel) rfl)⟩
theorem lX1_3 : Cond.methodLink RX1 3 objectInit ∈ ALLW := (inA 235 (by decide +kernel) rfl)
theorem lX6_64 : ML RX6 64 mX5_addFall := Or.inl (inA 261 (by decide +kernel) rfl)
theorem lX5_73 : ML RX5 73 mX6_isYear := Or.inr ⟨"SnowByNumber", (inN 265 (by decide +kernel) rfl)⟩
theorem lX6_68 : ML RX6 68 mX6_inside := Or.inl (inA 268 (by decide +kernel) rfl)
theorem lX5_69 : ML RX5 69 mX6_inside := Or.inr ⟨"SnowByNumber", (inN 271 (by decide +kernel) rfl)⟩
theorem lL_15 : ML RL 15 mX6_write := Or.inl (inA 303 (by decide +kernel) rfl)
theorem lX6_72 : ML RX6 72 mX3_append := Or.inl (inA 307 (by decide +kernel) rfl)
theorem lL_20 : ML RL 20 mX6_wipe := Or.inl (inA 311 (by decide +kernel) rfl)
theorem lX6_79 : ML RX6 79 mX3_clear := Or.inl (inA 315 (by decide +kernel) rfl)
theorem lL_25 : ML RL 25 mX6_fault := Or.inl (inA 319 (by decide +kernel) rfl)
theorem lX6_83 : ML RX6 83 mX3_tellTo := Or.inl (inA 323 (by decide +kernel) rfl)
theorem lX3_32 : ML RX3 32 mX5_forget := Or.inl (inA 327 (by decide +kernel) rfl)
theorem lX3_37 : ML RX3 37 mX3_startItem := Or.inl (inA 328 (by decide +kernel) rfl)
theorem lX3_40 : ML RX3 40 mX3_addFigure := Or.inl (inA 332 (by decide +kernel) rfl)
theorem lX3_44 : ML RX3 44 mX3_endNumber := Or.inl (inA 336 (by decide +kernel) rfl)
theorem lX3_48 : ML RX3 48 mX5_take := Or.inl (inA 340 (by decide +kernel) rfl)
theorem lX5_55 : ML RX5 55 mX5_setBarn := Or.inl (inA 344 (by decide +kernel) rfl)
theorem lX5_59 : ML RX5 59 mX5_addFall := Or.inl (inA 348 (by decide +kernel) rfl)
theorem lX5_63 : ML RX5 63 mX5_setCost := Or.inl (inA 349 (by decide +kernel) rfl)
theorem lX5_66 : ML RX5 66 mX5_setOne := Or.inl (inA 353 (by decide +kernel) rfl)
theorem lL_29 : ML RL 29 mX6_lay := Or.inl (inA 357 (by decide +kernel) rfl)
theorem lX6_90 : ML RX6 90 mX0_clear := Or.inl (inA 361 (by decide +kernel) rfl)
theorem lX6_92 : ML RX6 92 mX2_clear := Or.inl (inA 365 (by decide +kernel) rfl)
theorem lL_33 : ML RL 33 mX6_falls := Or.inl (inA 369 (by decide +kernel) rfl)
theorem lX6_106 : ML RX6 106 mX5_costOf := Or.inl (inA 373 (by decide +kernel) rfl)
theorem lL_38 : ML RL 38 mX6_fall := Or.inl (inA 377 (by decide +kernel) rfl)
theorem lX6_113 : ML RX6 113 mX0_high := Or.inl (inA 381 (by decide +kernel) rfl)
theorem lX6_116 : ML RX6 116 mX0_load := Or.inl (inA 385 (by decide +kernel) rfl)
theorem lX6_119 : ML RX6 119 mX5_bears := Or.inl (inA 389 (by decide +kernel) rfl)
theorem lX6_123 : ML RX6 123 mX0_comeIn := Or.inl (inA 393 (by decide +kernel) rfl)
theorem lL_42 : ML RL 42 mX6_layer := Or.inl (inA 397 (by decide +kernel) rfl)
theorem lX6_127 : ML RX6 127 mX0_has := Or.inl (inA 401 (by decide +kernel) rfl)
theorem lX0_37 : ML RX0 37 mX6_inside := Or.inr ⟨"SnowByNumber", (inN 405 (by decide +kernel) rfl)⟩
theorem lX6_137 : ML RX6 137 mX0_doorOf := Or.inl (inA 406 (by decide +kernel) rfl)
theorem lX0_46 : Cond.methodLink RX0 46 Lib.Math.max.name ∈ ALLW := (inA 410 (by decide +kernel) rfl)
theorem lL_46 : ML RL 46 mX6_firstOut := Or.inl (inA 413 (by decide +kernel) rfl)
theorem lX6_140 : ML RX6 140 mX6_firstThatCannot := Or.inl (inA 417 (by decide +kernel) rfl)
theorem lX6_240 : ML RX6 240 mX6_moreInches := Or.inl (inA 421 (by decide +kernel) rfl)
theorem lX6_196 : Cond.methodLink RX6 196 Lib.Math.max.name ∈ ALLW := (inA 427 (by decide +kernel) rfl)
theorem lL_50 : ML RL 50 mX6_thaw := Or.inl (inA 429 (by decide +kernel) rfl)
theorem lX6_147 : ML RX6 147 mX0_melt := Or.inl (inA 433 (by decide +kernel) rfl)
theorem lX0_52 : ML RX0 52 mX0_doorOf := Or.inl (inA 437 (by decide +kernel) rfl)
theorem lX0_56 : Cond.methodLink RX0 56 Lib.Math.min.name ∈ ALLW := (inA 438 (by decide +kernel) rfl)
theorem lL_55 : ML RL 55 mX6_doors := Or.inl (inA 441 (by decide +kernel) rfl)
theorem lX6_151 : ML RX6 151 mX4_choose := Or.inl (inA 445 (by decide +kernel) rfl)
theorem lX4_26 : ML RX4 26 mX4_weigh := Or.inl (inA 449 (by decide +kernel) rfl)
theorem lX4_44 : Cond.methodLink RX4 44 Lib.Math.min.name ∈ ALLW := (inA 453 (by decide +kernel) rfl)
theorem lX4_50 : ML RX4 50 mX0_doorOf := Or.inl (inA 454 (by decide +kernel) rfl)
theorem lX4_54 : ML RX4 54 mX5_costOf := Or.inl (inA 455 (by decide +kernel) rfl)
theorem lX6_158 : ML RX6 158 mX4_doorAt := Or.inl (inA 456 (by decide +kernel) rfl)
theorem lL_59 : ML RL 59 mX6_sell := Or.inl (inA 460 (by decide +kernel) rfl)
theorem lX6_161 : ML RX6 161 mX0_addSale := Or.inl (inA 464 (by decide +kernel) rfl)
theorem lX0_59 : ML RX0 59 mX0_forgetOldestSale := Or.inl (inA 468 (by decide +kernel) rfl)
theorem lL_63 : ML RL 63 mX6_undo := Or.inl (inA 472 (by decide +kernel) rfl)
theorem lX6_165 : ML RX6 165 mX0_takeSaleBack := Or.inl (inA 476 (by decide +kernel) rfl)
theorem lL_67 : ML RL 67 mX6_swap := Or.inl (inA 480 (by decide +kernel) rfl)
theorem lL_71 : ML RL 71 mX6_letGo := Or.inl (inA 484 (by decide +kernel) rfl)
theorem lX6_168 : ML RX6 168 mX1_choose := Or.inl (inA 488 (by decide +kernel) rfl)
theorem lX1_34 : ML RX1 34 mX1_startWithAll := Or.inl (inA 492 (by decide +kernel) rfl)
theorem lX1_51 : ML RX1 51 mJ7_fill := Or.inl (inA 496 (by decide +kernel) rfl)
theorem lX1_68 : ML RX1 68 mX1_putBack := Or.inl (inA 497 (by decide +kernel) rfl)
theorem lX1_43 : ML RX1 43 mX1_isBetter := Or.inl (inA 501 (by decide +kernel) rfl)
theorem lX1_47 : ML RX1 47 mX1_goOn := Or.inl (inA 505 (by decide +kernel) rfl)
theorem lX1_72 : ML RX1 72 mX1_takeOut := Or.inl (inA 509 (by decide +kernel) rfl)
theorem lL_76 : ML RL 76 mX6_odds := Or.inl (inA 513 (by decide +kernel) rfl)
theorem lX6_180 : ML RX6 180 mX6_isPiece := Or.inl (inA 517 (by decide +kernel) rfl)
theorem lX6_183 : ML RX6 183 mX6_isYear := Or.inl (inA 520 (by decide +kernel) rfl)
theorem lX6_186 : ML RX6 186 mX6_weightOfAll := Or.inl (inA 521 (by decide +kernel) rfl)
theorem lX6_255 : ML RX6 255 mX6_weightOf := Or.inl (inA 525 (by decide +kernel) rfl)
theorem lX6_189 : ML RX6 189 mX6_weightOfYear := Or.inl (inA 529 (by decide +kernel) rfl)
theorem lX6_193 : ML RX6 193 mX6_commonDivisor := Or.inl (inA 533 (by decide +kernel) rfl)
theorem lL_81 : ML RL 81 mX6_likeliest := Or.inl (inA 536 (by decide +kernel) rfl)
theorem lL_85 : ML RL 85 mX6_mark := Or.inl (inA 540 (by decide +kernel) rfl)
theorem lX6_201 : ML RX6 201 mX2_add := Or.inl (inA 544 (by decide +kernel) rfl)
theorem lL_89 : ML RL 89 mX6_noMarks := Or.inl (inA 548 (by decide +kernel) rfl)
theorem lL_93 : ML RL 93 mX6_far := Or.inl (inA 552 (by decide +kernel) rfl)
theorem lX6_205 : ML RX6 205 mX2_changesTo := Or.inl (inA 556 (by decide +kernel) rfl)
theorem lX2_31 : ML RX2 31 mX2_addLayer := Or.inl (inA 560 (by decide +kernel) rfl)
theorem lX2_35 : Cond.methodLink RX2 35 Lib.Math.min.name ∈ ALLW := (inA 564 (by decide +kernel) rfl)
theorem lL_97 : ML RL 97 mX6_odd := Or.inl (inA 565 (by decide +kernel) rfl)
theorem lX6_209 : ML RX6 209 mX2_firstUnlike := Or.inl (inA 569 (by decide +kernel) rfl)
theorem lL_101 : ML RL 101 mX6_wish := Or.inl (inA 573 (by decide +kernel) rfl)
theorem lX6_212 : ML RX6 212 mX6_tenthsOfYear := Or.inl (inA 577 (by decide +kernel) rfl)
theorem lL_105 : ML RL 105 mX6_nearest := Or.inl (inA 581 (by decide +kernel) rfl)
theorem lX6_215 : Cond.methodLink RX6 215 Lib.Math.abs.name ∈ ALLW := (inA 585 (by decide +kernel) rfl)
theorem lL_109 : ML RL 109 mX6_moved := Or.inl (inA 588 (by decide +kernel) rfl)
theorem lL_113 : ML RL 113 mX6_rent := Or.inl (inA 592 (by decide +kernel) rfl)
theorem lL_118 : ML RL 118 mX6_winter := Or.inl (inA 599 (by decide +kernel) rfl)
theorem lX6_223 : ML RX6 223 mX6_isWinter := Or.inl (inA 603 (by decide +kernel) rfl)
theorem lL_122 : ML RL 122 mX6_ten := Or.inl (inA 606 (by decide +kernel) rfl)
theorem lL_126 : ML RL 126 mX6_keep := Or.inl (inA 610 (by decide +kernel) rfl)
theorem lX6_226 : ML RX6 226 mX6_keptAt := Or.inl (inA 614 (by decide +kernel) rfl)
theorem lX6_230 : ML RX6 230 mX0_copyFrom := Or.inl (inA 618 (by decide +kernel) rfl)
theorem lL_130 : ML RL 130 mX6_back := Or.inl (inA 622 (by decide +kernel) rfl)
theorem lL_134 : ML RL 134 mX6_count := Or.inl (inA 626 (by decide +kernel) rfl)
theorem lL_12 : ML RL 12 mX7_init := Or.inl (inA 632 (by decide +kernel) rfl)
theorem lX7_1 : Cond.methodLink RX7 1 objectInit ∈ ALLW := (inA 635 (by decide +kernel) rfl)
theorem lX7_69 : ML RX7 69 mX7_begins := Or.inl (inA 636 (by decide +kernel) rfl)
theorem lX7_72 : ML RX7 72 mX7_takes := Or.inl (inA 640 (by decide +kernel) rfl)
theorem lL_19 : ML RL 19 mX7_write := Or.inl (inA 721 (by decide +kernel) rfl)
theorem lX7_77 : ML RX7 77 mX7_in := Or.inl (inA 726 (by decide +kernel) rfl)
theorem lL_24 : ML RL 24 mX7_wipe := Or.inl (inA 729 (by decide +kernel) rfl)
theorem lL_28 : ML RL 28 mX7_fault := Or.inl (inA 733 (by decide +kernel) rfl)
theorem lX7_116 : ML RX7 116 mX7_isItem := Or.inl (inA 737 (by decide +kernel) rfl)
theorem lX7_94 : ML RX7 94 mX7_parts := Or.inl (inA 741 (by decide +kernel) rfl)
theorem lX7_98 : ML RX7 98 mX7_number := Or.inl (inA 744 (by decide +kernel) rfl)
theorem lX7_102 : ML RX7 102 mX7_isGood := Or.inl (inA 751 (by decide +kernel) rfl)
theorem lX7_106 : ML RX7 106 mX7_isIn := Or.inl (inA 755 (by decide +kernel) rfl)
theorem lL_32 : ML RL 32 mX7_lay := Or.inl (inA 759 (by decide +kernel) rfl)
theorem lX7_120 : ML RX7 120 mX7_fault := Or.inl (inA 763 (by decide +kernel) rfl)
theorem lL_37 : ML RL 37 mX7_falls := Or.inl (inA 764 (by decide +kernel) rfl)
theorem lX7_123 : ML RX7 123 mX7_of := Or.inl (inA 769 (by decide +kernel) rfl)
theorem lX7_131 : ML RX7 131 mX7_costOf := Or.inl (inA 773 (by decide +kernel) rfl)
theorem lL_41 : ML RL 41 mX7_fall := Or.inl (inA 777 (by decide +kernel) rfl)
theorem lX7_134 : ML RX7 134 mX7_high := Or.inl (inA 781 (by decide +kernel) rfl)
theorem lX7_137 : ML RX7 137 mX7_load := Or.inl (inA 785 (by decide +kernel) rfl)
theorem lX7_140 : ML RX7 140 mX7_fits := Or.inl (inA 789 (by decide +kernel) rfl)
theorem lL_45 : ML RL 45 mX7_layer := Or.inl (inA 793 (by decide +kernel) rfl)
theorem lX7_144 : ML RX7 144 mX7_isLayer := Or.inl (inA 797 (by decide +kernel) rfl)
theorem lX7_149 : ML RX7 149 mX7_doorOf := Or.inl (inA 802 (by decide +kernel) rfl)
theorem lL_49 : ML RL 49 mX7_firstOut := Or.inl (inA 805 (by decide +kernel) rfl)
theorem lL_54 : ML RL 54 mX7_thaw := Or.inl (inA 809 (by decide +kernel) rfl)
theorem lL_58 : ML RL 58 mX7_doors := Or.inl (inA 813 (by decide +kernel) rfl)
theorem lX7_156 : ML RX7 156 mX7_lostBy := Or.inl (inA 819 (by decide +kernel) rfl)
theorem lL_62 : ML RL 62 mX7_sell := Or.inl (inA 823 (by decide +kernel) rfl)
theorem lL_66 : ML RL 66 mX7_undo := Or.inl (inA 828 (by decide +kernel) rfl)
theorem lL_70 : ML RL 70 mX7_swap := Or.inl (inA 832 (by decide +kernel) rfl)
theorem lL_75 : ML RL 75 mX7_letGo := Or.inl (inA 837 (by decide +kernel) rfl)
theorem lX7_165 : ML RX7 165 mX7_years := Or.inl (inA 843 (by decide +kernel) rfl)
theorem lL_80 : ML RL 80 mX7_odds := Or.inl (inA 847 (by decide +kernel) rfl)
theorem lX7_179 : ML RX7 179 mX7_isPiece := Or.inl (inA 851 (by decide +kernel) rfl)
theorem lX7_182 : ML RX7 182 mX7_isYear := Or.inl (inA 854 (by decide +kernel) rfl)
theorem lX7_185 : ML RX7 185 mX7_weights := Or.inl (inA 857 (by decide +kernel) rfl)
theorem lX7_168 : ML RX7 168 mX7_weight := Or.inl (inA 861 (by decide +kernel) rfl)
theorem lX7_188 : ML RX7 188 mX7_lowest := Or.inl (inA 865 (by decide +kernel) rfl)
theorem lL_84 : ML RL 84 mX7_likeliest := Or.inl (inA 869 (by decide +kernel) rfl)
theorem lL_88 : ML RL 88 mX7_mark := Or.inl (inA 873 (by decide +kernel) rfl)
theorem lL_92 : ML RL 92 mX7_noMarks := Or.inl (inA 877 (by decide +kernel) rfl)
theorem lL_96 : ML RL 96 mX7_far := Or.inl (inA 881 (by decide +kernel) rfl)
theorem lX7_192 : ML RX7 192 mX7_shows := Or.inl (inA 885 (by decide +kernel) rfl)
theorem lL_100 : ML RL 100 mX7_odd := Or.inl (inA 889 (by decide +kernel) rfl)
theorem lX7_195 : ML RX7 195 mX7_far := Or.inl (inA 893 (by decide +kernel) rfl)
theorem lL_104 : ML RL 104 mX7_wish := Or.inl (inA 894 (by decide +kernel) rfl)
theorem lX7_198 : ML RX7 198 mX7_tenthsOf := Or.inl (inA 898 (by decide +kernel) rfl)
theorem lL_108 : ML RL 108 mX7_nearest := Or.inl (inA 902 (by decide +kernel) rfl)
theorem lL_112 : ML RL 112 mX7_moved := Or.inl (inA 906 (by decide +kernel) rfl)
theorem lL_117 : ML RL 117 mX7_rent := Or.inl (inA 912 (by decide +kernel) rfl)
theorem lL_121 : ML RL 121 mX7_winter := Or.inl (inA 918 (by decide +kernel) rfl)
theorem lX7_217 : ML RX7 217 mX7_isSeed := Or.inl (inA 922 (by decide +kernel) rfl)
theorem lX7_220 : ML RX7 220 mX7_comes := Or.inl (inA 926 (by decide +kernel) rfl)
theorem lL_125 : ML RL 125 mX7_ten := Or.inl (inA 933 (by decide +kernel) rfl)
theorem lL_129 : ML RL 129 mX7_keep := Or.inl (inA 937 (by decide +kernel) rfl)
theorem lX7_223 : ML RX7 223 mX7_copies := Or.inl (inA 941 (by decide +kernel) rfl)
theorem lL_133 : ML RL 133 mX7_back := Or.inl (inA 945 (by decide +kernel) rfl)
theorem lL_137 : ML RL 137 mX7_count := Or.inl (inA 949 (by decide +kernel) rfl)
theorem fX3_9 : FG RX3 9 3 0 2 := ⟨by decide, by decide, rfl, Or.inl (inA 67 (by decide +kernel) rfl)⟩
theorem pX3_9 : FP RX3 9 3 0 (.array .byte) true := ⟨by decide, by decide, rfl, rfl, (fun h => rfl), (inA 67 (by decide +kernel) rfl)⟩
theorem fX3_15 : FG RX3 15 3 1 0 := ⟨by decide, by decide, rfl, Or.inl (inA 68 (by decide +kernel) rfl)⟩
theorem pX3_15 : FP RX3 15 3 1 (.int) false := ⟨by decide, by decide, rfl, rfl, (fun h => by cases h), (inA 68 (by decide +kernel) rfl)⟩
theorem fX6_76 : FG RX6 76 3 1 0 := ⟨by decide, by decide, rfl, Or.inr ⟨"SnowByNumber", (inN 69 (by decide +kernel) rfl)⟩⟩
theorem fX3_19 : FG RX3 19 3 2 2 := ⟨by decide, by decide, rfl, Or.inl (inA 70 (by decide +kernel) rfl)⟩
theorem pX3_19 : FP RX3 19 3 2 (.array .int) true := ⟨by decide, by decide, rfl, rfl, (fun h => rfl), (inA 70 (by decide +kernel) rfl)⟩
theorem fX3_23 : FG RX3 23 3 3 0 := ⟨by decide, by decide, rfl, Or.inl (inA 71 (by decide +kernel) rfl)⟩
theorem pX3_23 : FP RX3 23 3 3 (.int) false := ⟨by decide, by decide, rfl, rfl, (fun h => by cases h), (inA 71 (by decide +kernel) rfl)⟩
theorem fX3_26 : FG RX3 26 3 4 0 := ⟨by decide, by decide, rfl, Or.inl (inA 72 (by decide +kernel) rfl)⟩
theorem pX3_26 : FP RX3 26 3 4 (.int) false := ⟨by decide, by decide, rfl, rfl, (fun h => by cases h), (inA 72 (by decide +kernel) rfl)⟩
theorem fX3_29 : FG RX3 29 3 5 0 := ⟨by decide, by decide, rfl, Or.inl (inA 73 (by decide +kernel) rfl)⟩
theorem pX3_29 : FP RX3 29 3 5 (.int) false := ⟨by decide, by decide, rfl, rfl, (fun h => by cases h), (inA 73 (by decide +kernel) rfl)⟩
theorem fX5_30 : FG RX5 30 5 0 0 := ⟨by decide, by decide, rfl, Or.inl (inA 102 (by decide +kernel) rfl)⟩
theorem pX5_30 : FP RX5 30 5 0 (.int) false := ⟨by decide, by decide, rfl, rfl, (fun h => by cases h), (inA 102 (by decide +kernel) rfl)⟩
theorem fX5_34 : FG RX5 34 5 1 0 := ⟨by decide, by decide, rfl, Or.inl (inA 103 (by decide +kernel) rfl)⟩
theorem pX5_34 : FP RX5 34 5 1 (.int) false := ⟨by decide, by decide, rfl, rfl, (fun h => by cases h), (inA 103 (by decide +kernel) rfl)⟩
theorem fX5_37 : FG RX5 37 5 2 0 := ⟨by decide, by decide, rfl, Or.inl (inA 104 (by decide +kernel) rfl)⟩
theorem pX5_37 : FP RX5 37 5 2 (.int) false := ⟨by decide, by decide, rfl, rfl, (fun h => by cases h), (inA 104 (by decide +kernel) rfl)⟩
theorem fX4_39 : FG RX4 39 5 2 0 := ⟨by decide, by decide, rfl, Or.inr ⟨"SnowByNumber", (inN 105 (by decide +kernel) rfl)⟩⟩
theorem fX6_144 : FG RX6 144 5 2 0 := ⟨by decide, by decide, rfl, Or.inr ⟨"SnowByNumber", (inN 106 (by decide +kernel) rfl)⟩⟩
theorem fX5_40 : FG RX5 40 5 3 0 := ⟨by decide, by decide, rfl, Or.inl (inA 107 (by decide +kernel) rfl)⟩
theorem pX5_40 : FP RX5 40 5 3 (.int) false := ⟨by decide, by decide, rfl, rfl, (fun h => by cases h), (inA 107 (by decide +kernel) rfl)⟩
theorem fX6_252 : FG RX6 252 5 3 0 := ⟨by decide, by decide, rfl, Or.inr ⟨"SnowByNumber", (inN 108 (by decide +kernel) rfl)⟩⟩
theorem fX5_43 : FG RX5 43 5 4 0 := ⟨by decide, by decide, rfl, Or.inl (inA 109 (by decide +kernel) rfl)⟩
theorem pX5_43 : FP RX5 43 5 4 (.int) false := ⟨by decide, by decide, rfl, rfl, (fun h => by cases h), (inA 109 (by decide +kernel) rfl)⟩
theorem fX6_247 : FG RX6 247 5 4 0 := ⟨by decide, by decide, rfl, Or.inr ⟨"SnowByNumber", (inN 110 (by decide +kernel) rfl)⟩⟩
theorem fX5_46 : FG RX5 46 5 5 0 := ⟨by decide, by decide, rfl, Or.inl (inA 111 (by decide +kernel) rfl)⟩
theorem pX5_46 : FP RX5 46 5 5 (.int) false := ⟨by decide, by decide, rfl, rfl, (fun h => by cases h), (inA 111 (by decide +kernel) rfl)⟩
theorem fX6_87 : FG RX6 87 5 5 0 := ⟨by decide, by decide, rfl, Or.inr ⟨"SnowByNumber", (inN 112 (by decide +kernel) rfl)⟩⟩
theorem fX5_9 : FG RX5 9 5 6 2 := ⟨by decide, by decide, rfl, Or.inl (inA 113 (by decide +kernel) rfl)⟩
theorem pX5_9 : FP RX5 9 5 6 (.array .int) true := ⟨by decide, by decide, rfl, rfl, (fun h => rfl), (inA 113 (by decide +kernel) rfl)⟩
theorem fX1_65 : FG RX1 65 5 6 2 := ⟨by decide, by decide, rfl, Or.inr ⟨"SnowByNumber", (inN 114 (by decide +kernel) rfl)⟩⟩
theorem fX6_93 : FG RX6 93 5 6 2 := ⟨by decide, by decide, rfl, Or.inr ⟨"SnowByNumber", (inN 115 (by decide +kernel) rfl)⟩⟩
theorem fX5_15 : FG RX5 15 5 7 2 := ⟨by decide, by decide, rfl, Or.inl (inA 116 (by decide +kernel) rfl)⟩
theorem pX5_15 : FP RX5 15 5 7 (.array .int) true := ⟨by decide, by decide, rfl, rfl, (fun h => rfl), (inA 116 (by decide +kernel) rfl)⟩
theorem fX6_97 : FG RX6 97 5 7 2 := ⟨by decide, by decide, rfl, Or.inr ⟨"SnowByNumber", (inN 117 (by decide +kernel) rfl)⟩⟩
theorem fX5_18 : FG RX5 18 5 8 2 := ⟨by decide, by decide, rfl, Or.inl (inA 118 (by decide +kernel) rfl)⟩
theorem pX5_18 : FP RX5 18 5 8 (.array .int) true := ⟨by decide, by decide, rfl, rfl, (fun h => rfl), (inA 118 (by decide +kernel) rfl)⟩
theorem fX1_60 : FG RX1 60 5 8 2 := ⟨by decide, by decide, rfl, Or.inr ⟨"SnowByNumber", (inN 119 (by decide +kernel) rfl)⟩⟩
theorem fX0_41 : FG RX0 41 5 8 2 := ⟨by decide, by decide, rfl, Or.inr ⟨"SnowByNumber", (inN 120 (by decide +kernel) rfl)⟩⟩
theorem fX6_100 : FG RX6 100 5 8 2 := ⟨by decide, by decide, rfl, Or.inr ⟨"SnowByNumber", (inN 121 (by decide +kernel) rfl)⟩⟩
theorem fX5_21 : FG RX5 21 5 9 2 := ⟨by decide, by decide, rfl, Or.inl (inA 122 (by decide +kernel) rfl)⟩
theorem pX5_21 : FP RX5 21 5 9 (.array .int) true := ⟨by decide, by decide, rfl, rfl, (fun h => rfl), (inA 122 (by decide +kernel) rfl)⟩
theorem fX6_103 : FG RX6 103 5 9 2 := ⟨by decide, by decide, rfl, Or.inr ⟨"SnowByNumber", (inN 123 (by decide +kernel) rfl)⟩⟩
theorem fX5_24 : FG RX5 24 5 10 2 := ⟨by decide, by decide, rfl, Or.inl (inA 124 (by decide +kernel) rfl)⟩
theorem pX5_24 : FP RX5 24 5 10 (.array .int) true := ⟨by decide, by decide, rfl, rfl, (fun h => rfl), (inA 124 (by decide +kernel) rfl)⟩
theorem fX0_9 : FG RX0 9 0 0 0 := ⟨by decide, by decide, rfl, Or.inl (inA 154 (by decide +kernel) rfl)⟩
theorem pX0_9 : FP RX0 9 0 0 (.int) false := ⟨by decide, by decide, rfl, rfl, (fun h => by cases h), (inA 154 (by decide +kernel) rfl)⟩
theorem fX1_38 : FG RX1 38 0 0 0 := ⟨by decide, by decide, rfl, Or.inr ⟨"SnowByNumber", (inN 155 (by decide +kernel) rfl)⟩⟩
theorem fX2_22 : FG RX2 22 0 0 0 := ⟨by decide, by decide, rfl, Or.inr ⟨"SnowByNumber", (inN 156 (by decide +kernel) rfl)⟩⟩
theorem fX4_30 : FG RX4 30 0 0 0 := ⟨by decide, by decide, rfl, Or.inr ⟨"SnowByNumber", (inN 157 (by decide +kernel) rfl)⟩⟩
theorem fX6_110 : FG RX6 110 0 0 0 := ⟨by decide, by decide, rfl, Or.inr ⟨"SnowByNumber", (inN 158 (by decide +kernel) rfl)⟩⟩
theorem fX0_15 : FG RX0 15 0 1 2 := ⟨by decide, by decide, rfl, Or.inl (inA 159 (by decide +kernel) rfl)⟩
theorem pX0_15 : FP RX0 15 0 1 (.array .int) true := ⟨by decide, by decide, rfl, rfl, (fun h => rfl), (inA 159 (by decide +kernel) rfl)⟩
theorem fX1_57 : FG RX1 57 0 1 2 := ⟨by decide, by decide, rfl, Or.inr ⟨"SnowByNumber", (inN 160 (by decide +kernel) rfl)⟩⟩
theorem fX2_25 : FG RX2 25 0 1 2 := ⟨by decide, by decide, rfl, Or.inr ⟨"SnowByNumber", (inN 161 (by decide +kernel) rfl)⟩⟩
theorem fX4_35 : FG RX4 35 0 1 2 := ⟨by decide, by decide, rfl, Or.inr ⟨"SnowByNumber", (inN 162 (by decide +kernel) rfl)⟩⟩
theorem fX6_131 : FG RX6 131 0 1 2 := ⟨by decide, by decide, rfl, Or.inr ⟨"SnowByNumber", (inN 163 (by decide +kernel) rfl)⟩⟩
theorem fX0_19 : FG RX0 19 0 2 2 := ⟨by decide, by decide, rfl, Or.inl (inA 164 (by decide +kernel) rfl)⟩
theorem pX0_19 : FP RX0 19 0 2 (.array .int) true := ⟨by decide, by decide, rfl, rfl, (fun h => rfl), (inA 164 (by decide +kernel) rfl)⟩
theorem fX2_28 : FG RX2 28 0 2 2 := ⟨by decide, by decide, rfl, Or.inr ⟨"SnowByNumber", (inN 165 (by decide +kernel) rfl)⟩⟩
theorem fX6_134 : FG RX6 134 0 2 2 := ⟨by decide, by decide, rfl, Or.inr ⟨"SnowByNumber", (inN 166 (by decide +kernel) rfl)⟩⟩
theorem fX0_22 : FG RX0 22 0 3 0 := ⟨by decide, by decide, rfl, Or.inl (inA 167 (by decide +kernel) rfl)⟩
theorem pX0_22 : FP RX0 22 0 3 (.int) false := ⟨by decide, by decide, rfl, rfl, (fun h => by cases h), (inA 167 (by decide +kernel) rfl)⟩
theorem fX6_234 : FG RX6 234 0 3 0 := ⟨by decide, by decide, rfl, Or.inr ⟨"SnowByNumber", (inN 168 (by decide +kernel) rfl)⟩⟩
theorem fX0_25 : FG RX0 25 0 4 0 := ⟨by decide, by decide, rfl, Or.inl (inA 169 (by decide +kernel) rfl)⟩
theorem pX0_25 : FP RX0 25 0 4 (.int) false := ⟨by decide, by decide, rfl, rfl, (fun h => by cases h), (inA 169 (by decide +kernel) rfl)⟩
theorem fX6_237 : FG RX6 237 0 4 0 := ⟨by decide, by decide, rfl, Or.inr ⟨"SnowByNumber", (inN 170 (by decide +kernel) rfl)⟩⟩
theorem fX0_28 : FG RX0 28 0 5 2 := ⟨by decide, by decide, rfl, Or.inl (inA 171 (by decide +kernel) rfl)⟩
theorem pX0_28 : FP RX0 28 0 5 (.array .int) true := ⟨by decide, by decide, rfl, rfl, (fun h => rfl), (inA 171 (by decide +kernel) rfl)⟩
theorem fX0_31 : FG RX0 31 0 6 2 := ⟨by decide, by decide, rfl, Or.inl (inA 172 (by decide +kernel) rfl)⟩
theorem pX0_31 : FP RX0 31 0 6 (.array .int) true := ⟨by decide, by decide, rfl, rfl, (fun h => rfl), (inA 172 (by decide +kernel) rfl)⟩
theorem fX0_34 : FG RX0 34 0 7 2 := ⟨by decide, by decide, rfl, Or.inl (inA 173 (by decide +kernel) rfl)⟩
theorem pX0_34 : FP RX0 34 0 7 (.array .int) true := ⟨by decide, by decide, rfl, rfl, (fun h => rfl), (inA 173 (by decide +kernel) rfl)⟩
theorem fX2_9 : FG RX2 9 2 0 2 := ⟨by decide, by decide, rfl, Or.inl (inA 197 (by decide +kernel) rfl)⟩
theorem pX2_9 : FP RX2 9 2 0 (.array .int) true := ⟨by decide, by decide, rfl, rfl, (fun h => rfl), (inA 197 (by decide +kernel) rfl)⟩
theorem fX2_15 : FG RX2 15 2 1 0 := ⟨by decide, by decide, rfl, Or.inl (inA 198 (by decide +kernel) rfl)⟩
theorem pX2_15 : FP RX2 15 2 1 (.int) false := ⟨by decide, by decide, rfl, rfl, (fun h => by cases h), (inA 198 (by decide +kernel) rfl)⟩
theorem fX6_204 : FG RX6 204 2 1 0 := ⟨by decide, by decide, rfl, Or.inr ⟨"SnowByNumber", (inN 199 (by decide +kernel) rfl)⟩⟩
theorem fX2_19 : FG RX2 19 2 2 2 := ⟨by decide, by decide, rfl, Or.inl (inA 200 (by decide +kernel) rfl)⟩
theorem pX2_19 : FP RX2 19 2 2 (.array .int) true := ⟨by decide, by decide, rfl, rfl, (fun h => rfl), (inA 200 (by decide +kernel) rfl)⟩
theorem fX4_11 : FG RX4 11 4 0 2 := ⟨by decide, by decide, rfl, Or.inl (inA 216 (by decide +kernel) rfl)⟩
theorem pX4_11 : FP RX4 11 4 0 (.array (.array .int)) true := ⟨by decide, by decide, rfl, rfl, (fun h => rfl), (inA 216 (by decide +kernel) rfl)⟩
theorem fX4_16 : FG RX4 16 4 1 0 := ⟨by decide, by decide, rfl, Or.inl (inA 217 (by decide +kernel) rfl)⟩
theorem pX4_16 : FP RX4 16 4 1 (.int) false := ⟨by decide, by decide, rfl, rfl, (fun h => by cases h), (inA 217 (by decide +kernel) rfl)⟩
theorem fX6_155 : FG RX6 155 4 1 0 := ⟨by decide, by decide, rfl, Or.inr ⟨"SnowByNumber", (inN 218 (by decide +kernel) rfl)⟩⟩
theorem fX4_20 : FG RX4 20 4 2 0 := ⟨by decide, by decide, rfl, Or.inl (inA 219 (by decide +kernel) rfl)⟩
theorem pX4_20 : FP RX4 20 4 2 (.int) false := ⟨by decide, by decide, rfl, rfl, (fun h => by cases h), (inA 219 (by decide +kernel) rfl)⟩
theorem fX4_23 : FG RX4 23 4 3 0 := ⟨by decide, by decide, rfl, Or.inl (inA 220 (by decide +kernel) rfl)⟩
theorem pX4_23 : FP RX4 23 4 3 (.int) false := ⟨by decide, by decide, rfl, rfl, (fun h => by cases h), (inA 220 (by decide +kernel) rfl)⟩
theorem fX1_9 : FG RX1 9 1 0 2 := ⟨by decide, by decide, rfl, Or.inl (inA 236 (by decide +kernel) rfl)⟩
theorem pX1_9 : FP RX1 9 1 0 (.array .int) true := ⟨by decide, by decide, rfl, rfl, (fun h => rfl), (inA 236 (by decide +kernel) rfl)⟩
theorem fX1_15 : FG RX1 15 1 1 0 := ⟨by decide, by decide, rfl, Or.inl (inA 237 (by decide +kernel) rfl)⟩
theorem pX1_15 : FP RX1 15 1 1 (.int) false := ⟨by decide, by decide, rfl, rfl, (fun h => by cases h), (inA 237 (by decide +kernel) rfl)⟩
theorem fX1_19 : FG RX1 19 1 2 0 := ⟨by decide, by decide, rfl, Or.inl (inA 238 (by decide +kernel) rfl)⟩
theorem pX1_19 : FP RX1 19 1 2 (.int) false := ⟨by decide, by decide, rfl, rfl, (fun h => by cases h), (inA 238 (by decide +kernel) rfl)⟩
theorem fX1_22 : FG RX1 22 1 3 0 := ⟨by decide, by decide, rfl, Or.inl (inA 239 (by decide +kernel) rfl)⟩
theorem pX1_22 : FP RX1 22 1 3 (.int) false := ⟨by decide, by decide, rfl, rfl, (fun h => by cases h), (inA 239 (by decide +kernel) rfl)⟩
theorem fX1_25 : FG RX1 25 1 4 0 := ⟨by decide, by decide, rfl, Or.inl (inA 240 (by decide +kernel) rfl)⟩
theorem pX1_25 : FP RX1 25 1 4 (.int) false := ⟨by decide, by decide, rfl, rfl, (fun h => by cases h), (inA 240 (by decide +kernel) rfl)⟩
theorem fX6_171 : FG RX6 171 1 4 0 := ⟨by decide, by decide, rfl, Or.inr ⟨"SnowByNumber", (inN 241 (by decide +kernel) rfl)⟩⟩
theorem fX1_28 : FG RX1 28 1 5 0 := ⟨by decide, by decide, rfl, Or.inl (inA 242 (by decide +kernel) rfl)⟩
theorem pX1_28 : FP RX1 28 1 5 (.int) false := ⟨by decide, by decide, rfl, rfl, (fun h => by cases h), (inA 242 (by decide +kernel) rfl)⟩
theorem fX6_174 : FG RX6 174 1 5 0 := ⟨by decide, by decide, rfl, Or.inr ⟨"SnowByNumber", (inN 243 (by decide +kernel) rfl)⟩⟩
theorem fX1_31 : FG RX1 31 1 6 0 := ⟨by decide, by decide, rfl, Or.inl (inA 244 (by decide +kernel) rfl)⟩
theorem pX1_31 : FP RX1 31 1 6 (.int) false := ⟨by decide, by decide, rfl, rfl, (fun h => by cases h), (inA 244 (by decide +kernel) rfl)⟩
theorem fX6_177 : FG RX6 177 1 6 0 := ⟨by decide, by decide, rfl, Or.inr ⟨"SnowByNumber", (inN 245 (by decide +kernel) rfl)⟩⟩
theorem fX6_10 : FG RX6 10 6 0 2 := ⟨by decide, by decide, rfl, Or.inl (inA 272 (by decide +kernel) rfl)⟩
theorem pX6_10 : FP RX6 10 6 0 (.object "SnowByNumber$Text") true := ⟨by decide, by decide, rfl, rfl, (fun h => rfl), (inA 272 (by decide +kernel) rfl)⟩
theorem fX6_19 : FG RX6 19 6 1 2 := ⟨by decide, by decide, rfl, Or.inl (inA 273 (by decide +kernel) rfl)⟩
theorem pX6_19 : FP RX6 19 6 1 (.object "SnowByNumber$Told") false := ⟨by decide, by decide, rfl, rfl, (fun h => by cases h), (inA 273 (by decide +kernel) rfl)⟩
theorem fX6_23 : FG RX6 23 6 2 2 := ⟨by decide, by decide, rfl, Or.inl (inA 274 (by decide +kernel) rfl)⟩
theorem pX6_23 : FP RX6 23 6 2 (.object "SnowByNumber$Told") false := ⟨by decide, by decide, rfl, rfl, (fun h => by cases h), (inA 274 (by decide +kernel) rfl)⟩
theorem fX6_29 : FG RX6 29 6 3 2 := ⟨by decide, by decide, rfl, Or.inl (inA 275 (by decide +kernel) rfl)⟩
theorem pX6_29 : FP RX6 29 6 3 (.object "SnowByNumber$Barn") true := ⟨by decide, by decide, rfl, rfl, (fun h => rfl), (inA 275 (by decide +kernel) rfl)⟩
theorem fX6_33 : FG RX6 33 6 4 2 := ⟨by decide, by decide, rfl, Or.inl (inA 276 (by decide +kernel) rfl)⟩
theorem pX6_33 : FP RX6 33 6 4 (.object "SnowByNumber$Barn") true := ⟨by decide, by decide, rfl, rfl, (fun h => rfl), (inA 276 (by decide +kernel) rfl)⟩
theorem fX6_36 : FG RX6 36 6 5 2 := ⟨by decide, by decide, rfl, Or.inl (inA 277 (by decide +kernel) rfl)⟩
theorem pX6_36 : FP RX6 36 6 5 (.object "SnowByNumber$Barn") true := ⟨by decide, by decide, rfl, rfl, (fun h => rfl), (inA 277 (by decide +kernel) rfl)⟩
theorem fX6_39 : FG RX6 39 6 6 0 := ⟨by decide, by decide, rfl, Or.inl (inA 278 (by decide +kernel) rfl)⟩
theorem pX6_39 : FP RX6 39 6 6 (.int) false := ⟨by decide, by decide, rfl, rfl, (fun h => by cases h), (inA 278 (by decide +kernel) rfl)⟩
theorem fX6_46 : FG RX6 46 6 7 2 := ⟨by decide, by decide, rfl, Or.inl (inA 279 (by decide +kernel) rfl)⟩
theorem pX6_46 : FP RX6 46 6 7 (.object "SnowByNumber$Marks") true := ⟨by decide, by decide, rfl, rfl, (fun h => rfl), (inA 279 (by decide +kernel) rfl)⟩
theorem fX6_53 : FG RX6 53 6 8 2 := ⟨by decide, by decide, rfl, Or.inl (inA 280 (by decide +kernel) rfl)⟩
theorem pX6_53 : FP RX6 53 6 8 (.object "SnowByNumber$ThawRow") true := ⟨by decide, by decide, rfl, rfl, (fun h => rfl), (inA 280 (by decide +kernel) rfl)⟩
theorem fX6_60 : FG RX6 60 6 9 2 := ⟨by decide, by decide, rfl, Or.inl (inA 281 (by decide +kernel) rfl)⟩
theorem pX6_60 : FP RX6 60 6 9 (.object "SnowByNumber$Letting") true := ⟨by decide, by decide, rfl, rfl, (fun h => rfl), (inA 281 (by decide +kernel) rfl)⟩
theorem fX7_81 : FG RX7 81 7 0 0 := ⟨by decide, by decide, rfl, Or.inl (inA 644 (by decide +kernel) rfl)⟩
theorem pX7_81 : FP RX7 81 7 0 (.int) false := ⟨by decide, by decide, rfl, rfl, (fun h => by cases h), (inA 644 (by decide +kernel) rfl)⟩
theorem fX7_7 : FG RX7 7 7 1 2 := ⟨by decide, by decide, rfl, Or.inl (inA 645 (by decide +kernel) rfl)⟩
theorem pX7_7 : FP RX7 7 7 1 (.array .byte) true := ⟨by decide, by decide, rfl, rfl, (fun h => rfl), (inA 645 (by decide +kernel) rfl)⟩
theorem fX7_85 : FG RX7 85 7 2 0 := ⟨by decide, by decide, rfl, Or.inl (inA 646 (by decide +kernel) rfl)⟩
theorem pX7_85 : FP RX7 85 7 2 (.int) false := ⟨by decide, by decide, rfl, rfl, (fun h => by cases h), (inA 646 (by decide +kernel) rfl)⟩
theorem fX7_13 : FG RX7 13 7 3 2 := ⟨by decide, by decide, rfl, Or.inl (inA 647 (by decide +kernel) rfl)⟩
theorem pX7_13 : FP RX7 13 7 3 (.array .int) true := ⟨by decide, by decide, rfl, rfl, (fun h => rfl), (inA 647 (by decide +kernel) rfl)⟩
theorem fX7_17 : FG RX7 17 7 4 2 := ⟨by decide, by decide, rfl, Or.inl (inA 648 (by decide +kernel) rfl)⟩
theorem pX7_17 : FP RX7 17 7 4 (.array .int) true := ⟨by decide, by decide, rfl, rfl, (fun h => rfl), (inA 648 (by decide +kernel) rfl)⟩
theorem fX7_20 : FG RX7 20 7 5 2 := ⟨by decide, by decide, rfl, Or.inl (inA 649 (by decide +kernel) rfl)⟩
theorem pX7_20 : FP RX7 20 7 5 (.array .int) true := ⟨by decide, by decide, rfl, rfl, (fun h => rfl), (inA 649 (by decide +kernel) rfl)⟩
theorem fX7_23 : FG RX7 23 7 6 2 := ⟨by decide, by decide, rfl, Or.inl (inA 650 (by decide +kernel) rfl)⟩
theorem pX7_23 : FP RX7 23 7 6 (.array .int) true := ⟨by decide, by decide, rfl, rfl, (fun h => rfl), (inA 650 (by decide +kernel) rfl)⟩
theorem fX7_26 : FG RX7 26 7 7 2 := ⟨by decide, by decide, rfl, Or.inl (inA 651 (by decide +kernel) rfl)⟩
theorem pX7_26 : FP RX7 26 7 7 (.array .int) true := ⟨by decide, by decide, rfl, rfl, (fun h => rfl), (inA 651 (by decide +kernel) rfl)⟩
theorem fX7_29 : FG RX7 29 7 8 2 := ⟨by decide, by decide, rfl, Or.inl (inA 652 (by decide +kernel) rfl)⟩
theorem pX7_29 : FP RX7 29 7 8 (.array .int) true := ⟨by decide, by decide, rfl, rfl, (fun h => rfl), (inA 652 (by decide +kernel) rfl)⟩
theorem fX7_32 : FG RX7 32 7 9 2 := ⟨by decide, by decide, rfl, Or.inl (inA 653 (by decide +kernel) rfl)⟩
theorem pX7_32 : FP RX7 32 7 9 (.array .int) true := ⟨by decide, by decide, rfl, rfl, (fun h => rfl), (inA 653 (by decide +kernel) rfl)⟩
theorem fX7_35 : FG RX7 35 7 10 2 := ⟨by decide, by decide, rfl, Or.inl (inA 654 (by decide +kernel) rfl)⟩
theorem pX7_35 : FP RX7 35 7 10 (.array .long) true := ⟨by decide, by decide, rfl, rfl, (fun h => rfl), (inA 654 (by decide +kernel) rfl)⟩
theorem fX7_39 : FG RX7 39 7 11 2 := ⟨by decide, by decide, rfl, Or.inl (inA 655 (by decide +kernel) rfl)⟩
theorem pX7_39 : FP RX7 39 7 11 (.array .int) true := ⟨by decide, by decide, rfl, rfl, (fun h => rfl), (inA 655 (by decide +kernel) rfl)⟩
theorem fX7_42 : FG RX7 42 7 12 2 := ⟨by decide, by decide, rfl, Or.inl (inA 656 (by decide +kernel) rfl)⟩
theorem pX7_42 : FP RX7 42 7 12 (.array .int) true := ⟨by decide, by decide, rfl, rfl, (fun h => rfl), (inA 656 (by decide +kernel) rfl)⟩
theorem fX7_113 : FG RX7 113 7 13 0 := ⟨by decide, by decide, rfl, Or.inl (inA 657 (by decide +kernel) rfl)⟩
theorem pX7_113 : FP RX7 113 7 13 (.int) false := ⟨by decide, by decide, rfl, rfl, (fun h => by cases h), (inA 657 (by decide +kernel) rfl)⟩
theorem fX7_110 : FG RX7 110 7 14 0 := ⟨by decide, by decide, rfl, Or.inl (inA 658 (by decide +kernel) rfl)⟩
theorem pX7_110 : FP RX7 110 7 14 (.int) false := ⟨by decide, by decide, rfl, rfl, (fun h => by cases h), (inA 658 (by decide +kernel) rfl)⟩
theorem fX7_45 : FG RX7 45 7 15 2 := ⟨by decide, by decide, rfl, Or.inl (inA 659 (by decide +kernel) rfl)⟩
theorem pX7_45 : FP RX7 45 7 15 (.array .int) true := ⟨by decide, by decide, rfl, rfl, (fun h => rfl), (inA 659 (by decide +kernel) rfl)⟩
theorem fX7_48 : FG RX7 48 7 16 2 := ⟨by decide, by decide, rfl, Or.inl (inA 660 (by decide +kernel) rfl)⟩
theorem pX7_48 : FP RX7 48 7 16 (.array .int) true := ⟨by decide, by decide, rfl, rfl, (fun h => rfl), (inA 660 (by decide +kernel) rfl)⟩
theorem fX7_51 : FG RX7 51 7 17 2 := ⟨by decide, by decide, rfl, Or.inl (inA 661 (by decide +kernel) rfl)⟩
theorem pX7_51 : FP RX7 51 7 17 (.array .int) true := ⟨by decide, by decide, rfl, rfl, (fun h => rfl), (inA 661 (by decide +kernel) rfl)⟩
theorem fX7_54 : FG RX7 54 7 18 2 := ⟨by decide, by decide, rfl, Or.inl (inA 662 (by decide +kernel) rfl)⟩
theorem pX7_54 : FP RX7 54 7 18 (.array .int) true := ⟨by decide, by decide, rfl, rfl, (fun h => rfl), (inA 662 (by decide +kernel) rfl)⟩
theorem fX7_57 : FG RX7 57 7 19 2 := ⟨by decide, by decide, rfl, Or.inl (inA 663 (by decide +kernel) rfl)⟩
theorem pX7_57 : FP RX7 57 7 19 (.array .int) true := ⟨by decide, by decide, rfl, rfl, (fun h => rfl), (inA 663 (by decide +kernel) rfl)⟩
theorem fX7_60 : FG RX7 60 7 20 2 := ⟨by decide, by decide, rfl, Or.inl (inA 664 (by decide +kernel) rfl)⟩
theorem pX7_60 : FP RX7 60 7 20 (.array .int) true := ⟨by decide, by decide, rfl, rfl, (fun h => rfl), (inA 664 (by decide +kernel) rfl)⟩
theorem fX7_63 : FG RX7 63 7 21 2 := ⟨by decide, by decide, rfl, Or.inl (inA 665 (by decide +kernel) rfl)⟩
theorem pX7_63 : FP RX7 63 7 21 (.array .int) true := ⟨by decide, by decide, rfl, rfl, (fun h => rfl), (inA 665 (by decide +kernel) rfl)⟩
theorem fX7_172 : FG RX7 172 7 22 1 := ⟨by decide, by decide, rfl, Or.inl (inA 666 (by decide +kernel) rfl)⟩
theorem pX7_172 : FP RX7 172 7 22 (.long) false := ⟨by decide, by decide, rfl, rfl, (fun h => by cases h), (inA 666 (by decide +kernel) rfl)⟩
theorem fX7_176 : FG RX7 176 7 23 1 := ⟨by decide, by decide, rfl, Or.inl (inA 667 (by decide +kernel) rfl)⟩
theorem pX7_176 : FP RX7 176 7 23 (.long) false := ⟨by decide, by decide, rfl, rfl, (fun h => by cases h), (inA 667 (by decide +kernel) rfl)⟩
theorem fX7_66 : FG RX7 66 7 24 2 := ⟨by decide, by decide, rfl, Or.inl (inA 668 (by decide +kernel) rfl)⟩
theorem pX7_66 : FP RX7 66 7 24 (.array .int) true := ⟨by decide, by decide, rfl, rfl, (fun h => rfl), (inA 668 (by decide +kernel) rfl)⟩
theorem nL_7 : Cond.classLink RL 7 (RC 6) ∈ ALLW ∧ Cond.instantiable (RC 6) (nC 6) ∈ ALLW ∧ Cond.initialized (RC 6) ∈ ALLW := ⟨(inA 53 (by decide +kernel) rfl), (inA 54 (by decide +kernel) rfl), (inA 43 (by decide +kernel) rfl)⟩
theorem nX6_7 : Cond.classLink RX6 7 (RC 3) ∈ ALLW ∧ Cond.instantiable (RC 3) (nC 3) ∈ ALLW ∧ Cond.initialized (RC 3) ∈ ALLW := ⟨(inA 61 (by decide +kernel) rfl), (inA 62 (by decide +kernel) rfl), (inA 44 (by decide +kernel) rfl)⟩
theorem a_byte : Cond.arrayClass .byte ∈ ALLW := (inA 87 (by decide +kernel) rfl)
theorem a_int : Cond.arrayClass .int ∈ ALLW := (inA 88 (by decide +kernel) rfl)
theorem nX6_16 : Cond.classLink RX6 16 (RC 5) ∈ ALLW ∧ Cond.instantiable (RC 5) (nC 5) ∈ ALLW ∧ Cond.initialized (RC 5) ∈ ALLW := ⟨(inA 89 (by decide +kernel) rfl), (inA 90 (by decide +kernel) rfl), (inA 45 (by decide +kernel) rfl)⟩
theorem nX6_26 : Cond.classLink RX6 26 (RC 0) ∈ ALLW ∧ Cond.instantiable (RC 0) (nC 0) ∈ ALLW ∧ Cond.initialized (RC 0) ∈ ALLW := ⟨(inA 148 (by decide +kernel) rfl), (inA 149 (by decide +kernel) rfl), (inA 47 (by decide +kernel) rfl)⟩
theorem nX6_43 : Cond.classLink RX6 43 (RC 2) ∈ ALLW ∧ Cond.instantiable (RC 2) (nC 2) ∈ ALLW ∧ Cond.initialized (RC 2) ∈ ALLW := ⟨(inA 191 (by decide +kernel) rfl), (inA 192 (by decide +kernel) rfl), (inA 48 (by decide +kernel) rfl)⟩
theorem nX6_50 : Cond.classLink RX6 50 (RC 4) ∈ ALLW ∧ Cond.instantiable (RC 4) (nC 4) ∈ ALLW ∧ Cond.initialized (RC 4) ∈ ALLW := ⟨(inA 208 (by decide +kernel) rfl), (inA 209 (by decide +kernel) rfl), (inA 49 (by decide +kernel) rfl)⟩
theorem nX6_57 : Cond.classLink RX6 57 (RC 1) ∈ ALLW ∧ Cond.instantiable (RC 1) (nC 1) ∈ ALLW ∧ Cond.initialized (RC 1) ∈ ALLW := ⟨(inA 230 (by decide +kernel) rfl), (inA 231 (by decide +kernel) rfl), (inA 50 (by decide +kernel) rfl)⟩
theorem kX6_243 : Cond.constantLong RX6 243 (7919) ∈ ALLW := (inA 425 (by decide +kernel) rfl)
theorem kX6_245 : Cond.constantLong RX6 245 (6151) ∈ ALLW := (inA 426 (by decide +kernel) rfl)
theorem kX6_250 : Cond.constantLong RX6 250 (65521) ∈ ALLW := (inA 428 (by decide +kernel) rfl)
theorem kX6_218 : Cond.constant RX6 218 (999999) ∈ ALLW := (inA 596 (by decide +kernel) rfl)
theorem kX6_219 : Cond.constantLong RX6 219 (-1) ∈ ALLW := (inA 597 (by decide +kernel) rfl)
theorem kX6_221 : Cond.constantLong RX6 221 (100) ∈ ALLW := (inA 598 (by decide +kernel) rfl)
theorem nL_10 : Cond.classLink RL 10 (RC 7) ∈ ALLW ∧ Cond.instantiable (RC 7) (nC 7) ∈ ALLW ∧ Cond.initialized (RC 7) ∈ ALLW := ⟨(inA 630 (by decide +kernel) rfl), (inA 631 (by decide +kernel) rfl), (inA 51 (by decide +kernel) rfl)⟩
theorem a_long : Cond.arrayClass .long ∈ ALLW := (inA 720 (by decide +kernel) rfl)
theorem kX7_75 : Cond.constantLong RX7 75 (8) ∈ ALLW := (inA 725 (by decide +kernel) rfl)
theorem kX7_88 : Cond.constantLong RX7 88 (48) ∈ ALLW := (inA 748 (by decide +kernel) rfl)
theorem kX7_90 : Cond.constantLong RX7 90 (57) ∈ ALLW := (inA 749 (by decide +kernel) rfl)
theorem kX7_92 : Cond.constantLong RX7 92 (3) ∈ ALLW := (inA 750 (by decide +kernel) rfl)
theorem kX7_129 : Cond.constantLong RX7 129 (4) ∈ ALLW := (inA 768 (by decide +kernel) rfl)
theorem kX7_147 : Cond.constantLong RX7 147 (2) ∈ ALLW := (inA 801 (by decide +kernel) rfl)
theorem kX7_152 : Cond.constantLong RX7 152 (6) ∈ ALLW := (inA 817 (by decide +kernel) rfl)
theorem kX7_154 : Cond.constantLong RX7 154 (-1) ∈ ALLW := (inA 818 (by decide +kernel) rfl)
theorem kX7_159 : Cond.constantLong RX7 159 (200) ∈ ALLW := (inA 827 (by decide +kernel) rfl)
theorem kX7_161 : Cond.constantLong RX7 161 (9) ∈ ALLW := (inA 836 (by decide +kernel) rfl)
theorem kX7_163 : Cond.constantLong RX7 163 (999) ∈ ALLW := (inA 841 (by decide +kernel) rfl)
theorem kX7_127 : Cond.constantLong RX7 127 (99) ∈ ALLW := (inA 842 (by decide +kernel) rfl)
theorem kX7_201 : Cond.constantLong RX7 201 (10) ∈ ALLW := (inA 910 (by decide +kernel) rfl)
theorem kX7_203 : Cond.constantLong RX7 203 (9990) ∈ ALLW := (inA 911 (by decide +kernel) rfl)
theorem kX7_205 : Cond.constantLong RX7 205 (999999) ∈ ALLW := (inA 916 (by decide +kernel) rfl)
theorem kX7_207 : Cond.constantLong RX7 207 (100) ∈ ALLW := (inA 917 (by decide +kernel) rfl)
theorem kX7_215 : Cond.constantLong RX7 215 (9999) ∈ ALLW := (inA 925 (by decide +kernel) rfl)
theorem kX7_209 : Cond.constantLong RX7 209 (7919) ∈ ALLW := (inA 930 (by decide +kernel) rfl)
theorem kX7_211 : Cond.constantLong RX7 211 (6151) ∈ ALLW := (inA 931 (by decide +kernel) rfl)
theorem kX7_213 : Cond.constantLong RX7 213 (65521) ∈ ALLW := (inA 932 (by decide +kernel) rfl)
theorem kL_13 : Cond.constantLong RL 13 (4294967295) ∈ ALLW := (inA 953 (by decide +kernel) rfl)
theorem w_max : Cond.static Lib.Math.max.name ∈ ALLW ∧ Cond.initialized "java/lang/Math" ∈ ALLW ∧ Cond.code Lib.Math.max.name Lib.Math.max.code 2 (some .int) ∈ ALLW := ⟨(inA 411 (by decide +kernel) rfl), (inA 52 (by decide +kernel) rfl), (inA 412 (by decide +kernel) rfl)⟩
theorem w_min : Cond.static Lib.Math.min.name ∈ ALLW ∧ Cond.initialized "java/lang/Math" ∈ ALLW ∧ Cond.code Lib.Math.min.name Lib.Math.min.code 2 (some .int) ∈ ALLW := ⟨(inA 439 (by decide +kernel) rfl), (inA 52 (by decide +kernel) rfl), (inA 440 (by decide +kernel) rfl)⟩
theorem w_abs : Cond.static Lib.Math.abs.name ∈ ALLW ∧ Cond.initialized "java/lang/Math" ∈ ALLW ∧ Cond.code Lib.Math.abs.name Lib.Math.abs.code 1 (some .int) ∈ ALLW := ⟨(inA 586 (by decide +kernel) rfl), (inA 52 (by decide +kernel) rfl), (inA 587 (by decide +kernel) rfl)⟩
theorem w_obj : Cond.instanceMethod objectInit ∈ ALLW ∧ Cond.code objectInit ⟨#[0xb1]⟩ 1 none ∈ ALLW := ⟨(inA 59 (by decide +kernel) rfl), (inA 60 (by decide +kernel) rfl)⟩
