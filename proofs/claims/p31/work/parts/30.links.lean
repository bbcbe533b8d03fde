def mX0_init : Md := (cX0_init, yX0_init, 1, none)
set_option maxRecDepth 100000 in
theorem okX0_init : MdI mX0_init 0 := ⟨⟨wa_t 6 rfl rfl, wa_t 141 rfl rfl, ⟨by decide, by decide⟩, by decide, by decide +kernel, by decide⟩, wa_t 140 rfl rfl, rfl, rfl⟩
def mX0_mostTraders : Md := (cX0_mostTraders, yX0_mostTraders, 3, (some .int))
set_option maxRecDepth 100000 in
theorem okX0_mostTraders : MdV mX0_mostTraders 2 := ⟨⟨wa_t 6 rfl rfl, wa_t 470 rfl rfl, ⟨by decide, by decide⟩, by decide, by decide +kernel, by decide⟩, wa_t 468 rfl rfl, wa_t 469 rfl rfl⟩
def mX0_readTakers : Md := (cX0_readTakers, yX0_readTakers, 5, none)
set_option maxRecDepth 100000 in
theorem okX0_readTakers : MdV mX0_readTakers 1 := ⟨⟨wa_t 6 rfl rfl, wa_t 474 rfl rfl, ⟨by decide, by decide⟩, by decide, by decide +kernel, by decide⟩, wa_t 473 rfl rfl, wa_s 9 rfl rfl⟩
def mX0_findChains : Md := (cX0_findChains, yX0_findChains, 4, none)
set_option maxRecDepth 100000 in
theorem okX0_findChains : MdV mX0_findChains 0 := ⟨⟨wa_t 6 rfl rfl, wa_t 484 rfl rfl, ⟨by decide, by decide⟩, by decide, by decide +kernel, by decide⟩, wa_t 483 rfl rfl, wa_s 10 rfl rfl⟩
def mX0_findCircles : Md := (cX0_findCircles, yX0_findCircles, 4, none)
set_option maxRecDepth 100000 in
theorem okX0_findCircles : MdV mX0_findCircles 1 := ⟨⟨wa_t 6 rfl rfl, wa_t 491 rfl rfl, ⟨by decide, by decide⟩, by decide, by decide +kernel, by decide⟩, wa_t 490 rfl rfl, wa_s 11 rfl rfl⟩
def mX0_findBarters : Md := (cX0_findBarters, yX0_findBarters, 3, (some .int))
set_option maxRecDepth 100000 in
theorem okX0_findBarters : MdV mX0_findBarters 0 := ⟨⟨wa_t 6 rfl rfl, wa_t 496 rfl rfl, ⟨by decide, by decide⟩, by decide, by decide +kernel, by decide⟩, wa_t 495 rfl rfl, wa_s 12 rfl rfl⟩
def mX0_isMadeOfCircles : Md := (cX0_isMadeOfCircles, yX0_isMadeOfCircles, 5, (some .boolean))
set_option maxRecDepth 100000 in
theorem okX0_isMadeOfCircles : MdV mX0_isMadeOfCircles 1 := ⟨⟨wa_t 6 rfl rfl, wa_t 500 rfl rfl, ⟨by decide, by decide⟩, by decide, by decide +kernel, by decide⟩, wa_t 499 rfl rfl, wa_s 13 rfl rfl⟩
def mX0_leastOf : Md := (cX0_leastOf, yX0_leastOf, 2, (some .int))
set_option maxRecDepth 100000 in
theorem okX0_leastOf : MdS mX0_leastOf 1 := ⟨⟨wa_t 6 rfl rfl, wa_t 487 rfl rfl, ⟨by decide, by decide⟩, by decide, by decide +kernel, by decide⟩, wa_t 486 rfl rfl⟩
def mX1_init : Md := (cX1_init, yX1_init, 2, none)
set_option maxRecDepth 100000 in
theorem okX1_init : MdI mX1_init 0 := ⟨⟨wa_t 4 rfl rfl, wa_t 107 rfl rfl, ⟨by decide, by decide⟩, by decide, by decide +kernel, by decide⟩, wa_t 106 rfl rfl, rfl, rfl⟩
def mX1_record : Md := (cX1_record, yX1_record, 3, none)
set_option maxRecDepth 100000 in
theorem okX1_record : MdV mX1_record 1 := ⟨⟨wa_t 4 rfl rfl, wa_t 245 rfl rfl, ⟨by decide, by decide⟩, by decide, by decide +kernel, by decide⟩, wa_t 243 rfl rfl, wa_t 244 rfl rfl⟩
def mX1_takeBack : Md := (cX1_takeBack, yX1_takeBack, 3, none)
set_option maxRecDepth 100000 in
theorem okX1_takeBack : MdV mX1_takeBack 1 := ⟨⟨wa_t 4 rfl rfl, wa_t 226 rfl rfl, ⟨by decide, by decide⟩, by decide, by decide +kernel, by decide⟩, wa_t 224 rfl rfl, wa_t 225 rfl rfl⟩
def mX1_rowAt : Md := (cX1_rowAt, yX1_rowAt, 2, (some (.object "BarterRings$Market")))
set_option maxRecDepth 100000 in
theorem okX1_rowAt : MdV mX1_rowAt 1 := ⟨⟨wa_t 4 rfl rfl, wa_t 230 rfl rfl, ⟨by decide, by decide⟩, by decide, by decide +kernel, by decide⟩, wa_t 229 rfl rfl, wa_s 0 rfl rfl⟩
def mX2_init : Md := (cX2_init, yX2_init, 1, none)
set_option maxRecDepth 100000 in
theorem okX2_init : MdI mX2_init 0 := ⟨⟨wa_t 2 rfl rfl, wa_t 23 rfl rfl, ⟨by decide, by decide⟩, by decide, by decide +kernel, by decide⟩, wa_t 22 rfl rfl, rfl, rfl⟩
def mX2_copyFrom : Md := (cX2_copyFrom, yX2_copyFrom, 2, none)
set_option maxRecDepth 100000 in
theorem okX2_copyFrom : MdV mX2_copyFrom 1 := ⟨⟨wa_t 2 rfl rfl, wa_t 234 rfl rfl, ⟨by decide, by decide⟩, by decide, by decide +kernel, by decide⟩, wa_t 232 rfl rfl, wa_t 233 rfl rfl⟩
def mX2_has : Md := (cX2_has, yX2_has, 2, (some .boolean))
set_option maxRecDepth 100000 in
theorem okX2_has : MdV mX2_has 1 := ⟨⟨wa_t 2 rfl rfl, wa_t 294 rfl rfl, ⟨by decide, by decide⟩, by decide, by decide +kernel, by decide⟩, wa_t 292 rfl rfl, wa_t 293 rfl rfl⟩
def mX2_hasBoth : Md := (cX2_hasBoth, yX2_hasBoth, 3, (some .boolean))
set_option maxRecDepth 100000 in
theorem okX2_hasBoth : MdV mX2_hasBoth 2 := ⟨⟨wa_t 2 rfl rfl, wa_t 441 rfl rfl, ⟨by decide, by decide⟩, by decide, by decide +kernel, by decide⟩, wa_t 439 rfl rfl, wa_t 440 rfl rfl⟩
def mX2_add : Md := (cX2_add, yX2_add, 3, none)
set_option maxRecDepth 100000 in
theorem okX2_add : MdV mX2_add 2 := ⟨⟨wa_t 2 rfl rfl, wa_t 335 rfl rfl, ⟨by decide, by decide⟩, by decide, by decide +kernel, by decide⟩, wa_t 333 rfl rfl, wa_t 334 rfl rfl⟩
def mX2_remove : Md := (cX2_remove, yX2_remove, 3, none)
set_option maxRecDepth 100000 in
theorem okX2_remove : MdV mX2_remove 1 := ⟨⟨wa_t 2 rfl rfl, wa_t 391 rfl rfl, ⟨by decide, by decide⟩, by decide, by decide +kernel, by decide⟩, wa_t 389 rfl rfl, wa_t 390 rfl rfl⟩
def mX2_makeWare : Md := (cX2_makeWare, yX2_makeWare, 2, none)
set_option maxRecDepth 100000 in
theorem okX2_makeWare : MdV mX2_makeWare 1 := ⟨⟨wa_t 2 rfl rfl, wa_t 339 rfl rfl, ⟨by decide, by decide⟩, by decide, by decide +kernel, by decide⟩, wa_t 338 rfl rfl, wa_s 2 rfl rfl⟩
def mX2_hasWare : Md := (cX2_hasWare, yX2_hasWare, 2, (some .boolean))
set_option maxRecDepth 100000 in
theorem okX2_hasWare : MdV mX2_hasWare 1 := ⟨⟨wa_t 2 rfl rfl, wa_t 290 rfl rfl, ⟨by decide, by decide⟩, by decide, by decide +kernel, by decide⟩, wa_t 288 rfl rfl, wa_t 289 rfl rfl⟩
def mX2_hasSoundWare : Md := (cX2_hasSoundWare, yX2_hasSoundWare, 2, (some .boolean))
set_option maxRecDepth 100000 in
theorem okX2_hasSoundWare : MdV mX2_hasSoundWare 1 := ⟨⟨wa_t 2 rfl rfl, wa_t 286 rfl rfl, ⟨by decide, by decide⟩, by decide, by decide +kernel, by decide⟩, wa_t 284 rfl rfl, wa_t 285 rfl rfl⟩
def mX2_daysLeft : Md := (cX2_daysLeft, yX2_daysLeft, 2, (some .int))
set_option maxRecDepth 100000 in
theorem okX2_daysLeft : MdV mX2_daysLeft 1 := ⟨⟨wa_t 2 rfl rfl, wa_t 349 rfl rfl, ⟨by decide, by decide⟩, by decide, by decide +kernel, by decide⟩, wa_t 347 rfl rfl, wa_t 348 rfl rfl⟩
def mX2_wantsWareOf : Md := (cX2_wantsWareOf, yX2_wantsWareOf, 3, (some .boolean))
set_option maxRecDepth 100000 in
theorem okX2_wantsWareOf : MdV mX2_wantsWareOf 2 := ⟨⟨wa_t 2 rfl rfl, wa_t 317 rfl rfl, ⟨by decide, by decide⟩, by decide, by decide +kernel, by decide⟩, wa_t 316 rfl rfl, wa_s 1 rfl rfl⟩
def mX2_canTake : Md := (cX2_canTake, yX2_canTake, 3, (some .boolean))
set_option maxRecDepth 100000 in
theorem okX2_canTake : MdV mX2_canTake 2 := ⟨⟨wa_t 2 rfl rfl, wa_t 313 rfl rfl, ⟨by decide, by decide⟩, by decide, by decide +kernel, by decide⟩, wa_t 311 rfl rfl, wa_t 312 rfl rfl⟩
def mX2_giversOf : Md := (cX2_giversOf, yX2_giversOf, 4, (some .int))
set_option maxRecDepth 100000 in
theorem okX2_giversOf : MdV mX2_giversOf 1 := ⟨⟨wa_t 2 rfl rfl, wa_t 309 rfl rfl, ⟨by decide, by decide⟩, by decide, by decide +kernel, by decide⟩, wa_t 307 rfl rfl, wa_t 308 rfl rfl⟩
def mX2_numberOfTakers : Md := (cX2_numberOfTakers, yX2_numberOfTakers, 4, (some .int))
set_option maxRecDepth 100000 in
theorem okX2_numberOfTakers : MdV mX2_numberOfTakers 1 := ⟨⟨wa_t 2 rfl rfl, wa_t 355 rfl rfl, ⟨by decide, by decide⟩, by decide, by decide +kernel, by decide⟩, wa_t 353 rfl rfl, wa_t 354 rfl rfl⟩
def mX2_refusal : Md := (cX2_refusal, yX2_refusal, 3, (some .int))
set_option maxRecDepth 100000 in
theorem okX2_refusal : MdV mX2_refusal 2 := ⟨⟨wa_t 2 rfl rfl, wa_t 445 rfl rfl, ⟨by decide, by decide⟩, by decide, by decide +kernel, by decide⟩, wa_t 443 rfl rfl, wa_t 444 rfl rfl⟩
def mX2_barterByHand : Md := (cX2_barterByHand, yX2_barterByHand, 4, (some .int))
set_option maxRecDepth 100000 in
theorem okX2_barterByHand : MdV mX2_barterByHand 2 := ⟨⟨wa_t 2 rfl rfl, wa_t 453 rfl rfl, ⟨by decide, by decide⟩, by decide, by decide +kernel, by decide⟩, wa_t 451 rfl rfl, wa_t 452 rfl rfl⟩
def mX2_doBarter : Md := (cX2_doBarter, yX2_doBarter, 3, none)
set_option maxRecDepth 100000 in
theorem okX2_doBarter : MdV mX2_doBarter 1 := ⟨⟨wa_t 2 rfl rfl, wa_t 512 rfl rfl, ⟨by decide, by decide⟩, by decide, by decide +kernel, by decide⟩, wa_t 510 rfl rfl, wa_t 511 rfl rfl⟩
def mX2_keepWares : Md := (cX2_keepWares, yX2_keepWares, 1, none)
set_option maxRecDepth 100000 in
theorem okX2_keepWares : MdV mX2_keepWares 0 := ⟨⟨wa_t 2 rfl rfl, wa_t 458 rfl rfl, ⟨by decide, by decide⟩, by decide, by decide +kernel, by decide⟩, wa_t 457 rfl rfl, wa_s 7 rfl rfl⟩
def mX2_takeWare : Md := (cX2_takeWare, yX2_takeWare, 4, none)
set_option maxRecDepth 100000 in
theorem okX2_takeWare : MdV mX2_takeWare 2 := ⟨⟨wa_t 2 rfl rfl, wa_t 462 rfl rfl, ⟨by decide, by decide⟩, by decide, by decide +kernel, by decide⟩, wa_t 461 rfl rfl, wa_s 8 rfl rfl⟩
def mX2_passDay : Md := (cX2_passDay, yX2_passDay, 3, (some .int))
set_option maxRecDepth 100000 in
theorem okX2_passDay : MdV mX2_passDay 0 := ⟨⟨wa_t 2 rfl rfl, wa_t 520 rfl rfl, ⟨by decide, by decide⟩, by decide, by decide +kernel, by decide⟩, wa_t 518 rfl rfl, wa_t 519 rfl rfl⟩
def mX2_renewWare : Md := (cX2_renewWare, yX2_renewWare, 2, none)
set_option maxRecDepth 100000 in
theorem okX2_renewWare : MdV mX2_renewWare 1 := ⟨⟨wa_t 2 rfl rfl, wa_t 524 rfl rfl, ⟨by decide, by decide⟩, by decide, by decide +kernel, by decide⟩, wa_t 523 rfl rfl, wa_s 15 rfl rfl⟩
def mX2_drawLot : Md := (cX2_drawLot, yX2_drawLot, 3, none)
set_option maxRecDepth 100000 in
theorem okX2_drawLot : MdV mX2_drawLot 0 := ⟨⟨wa_t 2 rfl rfl, wa_t 528 rfl rfl, ⟨by decide, by decide⟩, by decide, by decide +kernel, by decide⟩, wa_t 527 rfl rfl, wa_s 16 rfl rfl⟩
def mX2_needs : Md := (cX2_needs, yX2_needs, 3, (some .int))
set_option maxRecDepth 100000 in
theorem okX2_needs : MdV mX2_needs 0 := ⟨⟨wa_t 2 rfl rfl, wa_t 268 rfl rfl, ⟨by decide, by decide⟩, by decide, by decide +kernel, by decide⟩, wa_t 266 rfl rfl, wa_t 267 rfl rfl⟩
def mX2_needsMet : Md := (cX2_needsMet, yX2_needsMet, 3, (some .int))
set_option maxRecDepth 100000 in
theorem okX2_needsMet : MdV mX2_needsMet 0 := ⟨⟨wa_t 2 rfl rfl, wa_t 278 rfl rfl, ⟨by decide, by decide⟩, by decide, by decide +kernel, by decide⟩, wa_t 276 rfl rfl, wa_t 277 rfl rfl⟩
def mX2_waresOfKind : Md := (cX2_waresOfKind, yX2_waresOfKind, 4, (some .int))
set_option maxRecDepth 100000 in
theorem okX2_waresOfKind : MdV mX2_waresOfKind 1 := ⟨⟨wa_t 2 rfl rfl, wa_t 403 rfl rfl, ⟨by decide, by decide⟩, by decide, by decide +kernel, by decide⟩, wa_t 401 rfl rfl, wa_t 402 rfl rfl⟩
def mX2_soundWaresOfKind : Md := (cX2_soundWaresOfKind, yX2_soundWaresOfKind, 4, (some .int))
set_option maxRecDepth 100000 in
theorem okX2_soundWaresOfKind : MdV mX2_soundWaresOfKind 1 := ⟨⟨wa_t 2 rfl rfl, wa_t 407 rfl rfl, ⟨by decide, by decide⟩, by decide, by decide +kernel, by decide⟩, wa_t 405 rfl rfl, wa_t 406 rfl rfl⟩
def mX2_soundWares : Md := (cX2_soundWares, yX2_soundWares, 3, (some .int))
set_option maxRecDepth 100000 in
theorem okX2_soundWares : MdV mX2_soundWares 0 := ⟨⟨wa_t 2 rfl rfl, wa_t 282 rfl rfl, ⟨by decide, by decide⟩, by decide, by decide +kernel, by decide⟩, wa_t 280 rfl rfl, wa_t 281 rfl rfl⟩
def mX2_spoiltWares : Md := (cX2_spoiltWares, yX2_spoiltWares, 3, (some .int))
set_option maxRecDepth 100000 in
theorem okX2_spoiltWares : MdV mX2_spoiltWares 0 := ⟨⟨wa_t 2 rfl rfl, wa_t 301 rfl rfl, ⟨by decide, by decide⟩, by decide, by decide +kernel, by decide⟩, wa_t 299 rfl rfl, wa_t 300 rfl rfl⟩
def mX2_daysLeftOfAll : Md := (cX2_daysLeftOfAll, yX2_daysLeftOfAll, 3, (some .int))
set_option maxRecDepth 100000 in
theorem okX2_daysLeftOfAll : MdV mX2_daysLeftOfAll 0 := ⟨⟨wa_t 2 rfl rfl, wa_t 554 rfl rfl, ⟨by decide, by decide⟩, by decide, by decide +kernel, by decide⟩, wa_t 552 rfl rfl, wa_t 553 rfl rfl⟩
def mX2_tradersWhoWant : Md := (cX2_tradersWhoWant, yX2_tradersWhoWant, 4, (some .int))
set_option maxRecDepth 100000 in
theorem okX2_tradersWhoWant : MdV mX2_tradersWhoWant 1 := ⟨⟨wa_t 2 rfl rfl, wa_t 411 rfl rfl, ⟨by decide, by decide⟩, by decide, by decide +kernel, by decide⟩, wa_t 409 rfl rfl, wa_t 410 rfl rfl⟩
def mX2_tradersWhoMake : Md := (cX2_tradersWhoMake, yX2_tradersWhoMake, 4, (some .int))
set_option maxRecDepth 100000 in
theorem okX2_tradersWhoMake : MdV mX2_tradersWhoMake 1 := ⟨⟨wa_t 2 rfl rfl, wa_t 415 rfl rfl, ⟨by decide, by decide⟩, by decide, by decide +kernel, by decide⟩, wa_t 413 rfl rfl, wa_t 414 rfl rfl⟩
def mX2_stuckTraders : Md := (cX2_stuckTraders, yX2_stuckTraders, 3, (some .int))
set_option maxRecDepth 100000 in
theorem okX2_stuckTraders : MdV mX2_stuckTraders 0 := ⟨⟨wa_t 2 rfl rfl, wa_t 305 rfl rfl, ⟨by decide, by decide⟩, by decide, by decide +kernel, by decide⟩, wa_t 303 rfl rfl, wa_t 304 rfl rfl⟩
def mX3_init : Md := (cX3_init, yX3_init, 1, none)
set_option maxRecDepth 100000 in
theorem okX3_init : MdI mX3_init 0 := ⟨⟨wa_t 5 rfl rfl, wa_t 127 rfl rfl, ⟨by decide, by decide⟩, by decide, by decide +kernel, by decide⟩, wa_t 126 rfl rfl, rfl, rfl⟩
def mX4_init : Md := (cX4_init, yX4_init, 1, none)
set_option maxRecDepth 100000 in
theorem okX4_init : MdI mX4_init 0 := ⟨⟨wa_t 7 rfl rfl, wa_t 167 rfl rfl, ⟨by decide, by decide⟩, by decide, by decide +kernel, by decide⟩, wa_t 166 rfl rfl, rfl, rfl⟩
def mX4_findBest : Md := (cX4_findBest, yX4_findBest, 3, (some .int))
set_option maxRecDepth 100000 in
theorem okX4_findBest : MdV mX4_findBest 1 := ⟨⟨wa_t 7 rfl rfl, wa_t 363 rfl rfl, ⟨by decide, by decide⟩, by decide, by decide +kernel, by decide⟩, wa_t 361 rfl rfl, wa_t 362 rfl rfl⟩
def mX4_chooseGiver : Md := (cX4_chooseGiver, yX4_chooseGiver, 5, none)
set_option maxRecDepth 100000 in
theorem okX4_chooseGiver : MdV mX4_chooseGiver 3 := ⟨⟨wa_t 7 rfl rfl, wa_t 372 rfl rfl, ⟨by decide, by decide⟩, by decide, by decide +kernel, by decide⟩, wa_t 371 rfl rfl, wa_s 4 rfl rfl⟩
def mX4_goOn : Md := (cX4_goOn, yX4_goOn, 5, none)
set_option maxRecDepth 100000 in
theorem okX4_goOn : MdV mX4_goOn 4 := ⟨⟨wa_t 7 rfl rfl, wa_t 383 rfl rfl, ⟨by decide, by decide⟩, by decide, by decide +kernel, by decide⟩, wa_t 382 rfl rfl, wa_s 6 rfl rfl⟩
def mX4_fitsInCircle : Md := (cX4_fitsInCircle, yX4_fitsInCircle, 5, (some .boolean))
set_option maxRecDepth 100000 in
theorem okX4_fitsInCircle : MdV mX4_fitsInCircle 2 := ⟨⟨wa_t 7 rfl rfl, wa_t 378 rfl rfl, ⟨by decide, by decide⟩, by decide, by decide +kernel, by decide⟩, wa_t 377 rfl rfl, wa_s 5 rfl rfl⟩
def mX5_init : Md := (cX5_init, yX5_init, 1, none)
set_option maxRecDepth 100000 in
theorem okX5_init : MdI mX5_init 0 := ⟨⟨wa_t 1 rfl rfl, wa_t 15 rfl rfl, ⟨by decide, by decide⟩, by decide, by decide +kernel, by decide⟩, wa_t 14 rfl rfl, rfl, rfl⟩
def mX5_come : Md := (cX5_come, yX5_come, 3, (some .int))
set_option maxRecDepth 100000 in
theorem okX5_come : MdV mX5_come 2 := ⟨⟨wa_t 1 rfl rfl, wa_t 327 rfl rfl, ⟨by decide, by decide⟩, by decide, by decide +kernel, by decide⟩, wa_t 325 rfl rfl, wa_t 326 rfl rfl⟩
def mX5_go : Md := (cX5_go, yX5_go, 3, (some .int))
set_option maxRecDepth 100000 in
theorem okX5_go : MdV mX5_go 1 := ⟨⟨wa_t 1 rfl rfl, wa_t 387 rfl rfl, ⟨by decide, by decide⟩, by decide, by decide +kernel, by decide⟩, wa_t 385 rfl rfl, wa_t 386 rfl rfl⟩
def mX5_want : Md := (cX5_want, yX5_want, 4, (some .int))
set_option maxRecDepth 100000 in
theorem okX5_want : MdV mX5_want 2 := ⟨⟨wa_t 1 rfl rfl, wa_t 395 rfl rfl, ⟨by decide, by decide⟩, by decide, by decide +kernel, by decide⟩, wa_t 393 rfl rfl, wa_t 394 rfl rfl⟩
def mX5_life : Md := (cX5_life, yX5_life, 4, (some .int))
set_option maxRecDepth 100000 in
theorem okX5_life : MdV mX5_life 2 := ⟨⟨wa_t 1 rfl rfl, wa_t 419 rfl rfl, ⟨by decide, by decide⟩, by decide, by decide +kernel, by decide⟩, wa_t 417 rfl rfl, wa_t 418 rfl rfl⟩
def mX5_circle : Md := (cX5_circle, yX5_circle, 3, (some .int))
set_option maxRecDepth 100000 in
theorem okX5_circle : MdV mX5_circle 1 := ⟨⟨wa_t 1 rfl rfl, wa_t 423 rfl rfl, ⟨by decide, by decide⟩, by decide, by decide +kernel, by decide⟩, wa_t 421 rfl rfl, wa_t 422 rfl rfl⟩
def mX5_lot : Md := (cX5_lot, yX5_lot, 3, (some .int))
set_option maxRecDepth 100000 in
theorem okX5_lot : MdV mX5_lot 1 := ⟨⟨wa_t 1 rfl rfl, wa_t 430 rfl rfl, ⟨by decide, by decide⟩, by decide, by decide +kernel, by decide⟩, wa_t 428 rfl rfl, wa_t 429 rfl rfl⟩
def mX5_barter : Md := (cX5_barter, yX5_barter, 3, (some .int))
set_option maxRecDepth 100000 in
theorem okX5_barter : MdV mX5_barter 2 := ⟨⟨wa_t 1 rfl rfl, wa_t 449 rfl rfl, ⟨by decide, by decide⟩, by decide, by decide +kernel, by decide⟩, wa_t 447 rfl rfl, wa_t 448 rfl rfl⟩
def mX5_call : Md := (cX5_call, yX5_call, 1, (some .int))
set_option maxRecDepth 100000 in
theorem okX5_call : MdV mX5_call 0 := ⟨⟨wa_t 1 rfl rfl, wa_t 504 rfl rfl, ⟨by decide, by decide⟩, by decide, by decide +kernel, by decide⟩, wa_t 502 rfl rfl, wa_t 503 rfl rfl⟩
def mX5_day : Md := (cX5_day, yX5_day, 1, (some .int))
set_option maxRecDepth 100000 in
theorem okX5_day : MdV mX5_day 0 := ⟨⟨wa_t 1 rfl rfl, wa_t 516 rfl rfl, ⟨by decide, by decide⟩, by decide, by decide +kernel, by decide⟩, wa_t 514 rfl rfl, wa_t 515 rfl rfl⟩
def mX5_trader : Md := (cX5_trader, yX5_trader, 3, (some .int))
set_option maxRecDepth 100000 in
theorem okX5_trader : MdV mX5_trader 2 := ⟨⟨wa_t 1 rfl rfl, wa_t 343 rfl rfl, ⟨by decide, by decide⟩, by decide, by decide +kernel, by decide⟩, wa_t 341 rfl rfl, wa_t 342 rfl rfl⟩
def mX5_can : Md := (cX5_can, yX5_can, 3, (some .int))
set_option maxRecDepth 100000 in
theorem okX5_can : MdV mX5_can 2 := ⟨⟨wa_t 1 rfl rfl, wa_t 538 rfl rfl, ⟨by decide, by decide⟩, by decide, by decide +kernel, by decide⟩, wa_t 536 rfl rfl, wa_t 537 rfl rfl⟩
def mX5_whyNot : Md := (cX5_whyNot, yX5_whyNot, 3, (some .int))
set_option maxRecDepth 100000 in
theorem okX5_whyNot : MdV mX5_whyNot 2 := ⟨⟨wa_t 1 rfl rfl, wa_t 437 rfl rfl, ⟨by decide, by decide⟩, by decide, by decide +kernel, by decide⟩, wa_t 435 rfl rfl, wa_t 436 rfl rfl⟩
def mX5_most : Md := (cX5_most, yX5_most, 2, (some .int))
set_option maxRecDepth 100000 in
theorem okX5_most : MdV mX5_most 1 := ⟨⟨wa_t 1 rfl rfl, wa_t 466 rfl rfl, ⟨by decide, by decide⟩, by decide, by decide +kernel, by decide⟩, wa_t 464 rfl rfl, wa_t 465 rfl rfl⟩
def mX5_kind : Md := (cX5_kind, yX5_kind, 3, (some .int))
set_option maxRecDepth 100000 in
theorem okX5_kind : MdV mX5_kind 2 := ⟨⟨wa_t 1 rfl rfl, wa_t 399 rfl rfl, ⟨by decide, by decide⟩, by decide, by decide +kernel, by decide⟩, wa_t 397 rfl rfl, wa_t 398 rfl rfl⟩
def mX5_count : Md := (cX5_count, yX5_count, 2, (some .int))
set_option maxRecDepth 100000 in
theorem okX5_count : MdV mX5_count 1 := ⟨⟨wa_t 1 rfl rfl, wa_t 264 rfl rfl, ⟨by decide, by decide⟩, by decide, by decide +kernel, by decide⟩, wa_t 262 rfl rfl, wa_t 263 rfl rfl⟩
def mX5_freshness : Md := (cX5_freshness, yX5_freshness, 2, (some .double))
set_option maxRecDepth 100000 in
theorem okX5_freshness : MdV mX5_freshness 0 := ⟨⟨wa_t 1 rfl rfl, wa_t 550 rfl rfl, ⟨by decide, by decide⟩, by decide, by decide +kernel, by decide⟩, wa_t 548 rfl rfl, wa_t 549 rfl rfl⟩
def mX5_ifCircle : Md := (cX5_ifCircle, yX5_ifCircle, 2, (some .int))
set_option maxRecDepth 100000 in
theorem okX5_ifCircle : MdV mX5_ifCircle 1 := ⟨⟨wa_t 1 rfl rfl, wa_t 546 rfl rfl, ⟨by decide, by decide⟩, by decide, by decide +kernel, by decide⟩, wa_t 544 rfl rfl, wa_t 545 rfl rfl⟩
def mX5_ifDays : Md := (cX5_ifDays, yX5_ifDays, 4, (some .int))
set_option maxRecDepth 100000 in
theorem okX5_ifDays : MdV mX5_ifDays 2 := ⟨⟨wa_t 1 rfl rfl, wa_t 562 rfl rfl, ⟨by decide, by decide⟩, by decide, by decide +kernel, by decide⟩, wa_t 560 rfl rfl, wa_t 561 rfl rfl⟩
def mX5_bestWant : Md := (cX5_bestWant, yX5_bestWant, 7, (some .int))
set_option maxRecDepth 100000 in
theorem okX5_bestWant : MdV mX5_bestWant 1 := ⟨⟨wa_t 1 rfl rfl, wa_t 566 rfl rfl, ⟨by decide, by decide⟩, by decide, by decide +kernel, by decide⟩, wa_t 564 rfl rfl, wa_t 565 rfl rfl⟩
def mX5_undo : Md := (cX5_undo, yX5_undo, 1, (some .int))
set_option maxRecDepth 100000 in
theorem okX5_undo : MdV mX5_undo 0 := ⟨⟨wa_t 1 rfl rfl, wa_t 222 rfl rfl, ⟨by decide, by decide⟩, by decide, by decide +kernel, by decide⟩, wa_t 220 rfl rfl, wa_t 221 rfl rfl⟩
def mX5_restore : Md := (cX5_restore, yX5_restore, 1, (some .int))
set_option maxRecDepth 100000 in
theorem okX5_restore : MdV mX5_restore 0 := ⟨⟨wa_t 1 rfl rfl, wa_t 241 rfl rfl, ⟨by decide, by decide⟩, by decide, by decide +kernel, by decide⟩, wa_t 239 rfl rfl, wa_t 240 rfl rfl⟩
def mX5_isKind : Md := (cX5_isKind, yX5_isKind, 1, (some .boolean))
set_option maxRecDepth 100000 in
theorem okX5_isKind : MdS mX5_isKind 1 := ⟨⟨wa_t 1 rfl rfl, wa_t 297 rfl rfl, ⟨by decide, by decide⟩, by decide, by decide +kernel, by decide⟩, wa_t 296 rfl rfl⟩
def mX5_isSetOfKinds : Md := (cX5_isSetOfKinds, yX5_isSetOfKinds, 1, (some .boolean))
set_option maxRecDepth 100000 in
theorem okX5_isSetOfKinds : MdS mX5_isSetOfKinds 1 := ⟨⟨wa_t 1 rfl rfl, wa_t 331 rfl rfl, ⟨by decide, by decide⟩, by decide, by decide +kernel, by decide⟩, wa_t 330 rfl rfl⟩
def mX5_isCircleLength : Md := (cX5_isCircleLength, yX5_isCircleLength, 1, (some .boolean))
set_option maxRecDepth 100000 in
theorem okX5_isCircleLength : MdS mX5_isCircleLength 1 := ⟨⟨wa_t 1 rfl rfl, wa_t 426 rfl rfl, ⟨by decide, by decide⟩, by decide, by decide +kernel, by decide⟩, wa_t 425 rfl rfl⟩
def mX5_holds : Md := (cX5_holds, yX5_holds, 2, (some .boolean))
set_option maxRecDepth 100000 in
theorem okX5_holds : MdS mX5_holds 2 := ⟨⟨wa_t 1 rfl rfl, wa_t 320 rfl rfl, ⟨by decide, by decide⟩, by decide, by decide +kernel, by decide⟩, wa_t 319 rfl rfl⟩
def mX5_with : Md := (cX5_with, yX5_with, 2, (some .int))
set_option maxRecDepth 100000 in
theorem okX5_with : MdS mX5_with 2 := ⟨⟨wa_t 1 rfl rfl, wa_t 323 rfl rfl, ⟨by decide, by decide⟩, by decide, by decide +kernel, by decide⟩, wa_t 322 rfl rfl⟩
def mX5_callMarket : Md := (cX5_callMarket, yX5_callMarket, 3, (some .int))
set_option maxRecDepth 100000 in
theorem okX5_callMarket : MdV mX5_callMarket 1 := ⟨⟨wa_t 1 rfl rfl, wa_t 508 rfl rfl, ⟨by decide, by decide⟩, by decide, by decide +kernel, by decide⟩, wa_t 507 rfl rfl, wa_s 14 rfl rfl⟩
def mX5_bestGiver : Md := (cX5_bestGiver, yX5_bestGiver, 3, (some .int))
set_option maxRecDepth 100000 in
theorem okX5_bestGiver : MdV mX5_bestGiver 1 := ⟨⟨wa_t 1 rfl rfl, wa_t 359 rfl rfl, ⟨by decide, by decide⟩, by decide, by decide +kernel, by decide⟩, wa_t 358 rfl rfl, wa_s 3 rfl rfl⟩
def mJ6_bitCount_0f7a4 : Md := (cJ6_bitCount_0f7a4, yJ6_bitCount_0f7a4, 1, (some .int))
set_option maxRecDepth 100000 in
theorem okJ6_bitCount_0f7a4 : MdS mJ6_bitCount_0f7a4 1 := ⟨⟨wa_t 8 rfl rfl, wa_t 271 rfl rfl, ⟨by decide, by decide⟩, by decide, by decide +kernel, by decide⟩, wa_t 270 rfl rfl⟩
def mJ7_fill_53178 : Md := (cJ7_fill_53178, yJ7_fill_53178, 4, none)
set_option maxRecDepth 100000 in
theorem okJ7_fill_53178 : MdS mJ7_fill_53178 2 := ⟨⟨wa_t 3 rfl rfl, wa_t 27 rfl rfl, ⟨by decide, by decide⟩, by decide, by decide +kernel, by decide⟩, wa_t 26 rfl rfl⟩
def mL_cell : Md := (cL_cell, yL_cell, 2, (some .int))
set_option maxRecDepth 100000 in
theorem okL_cell : MdS mL_cell 2 := ⟨⟨wa_t 0 rfl rfl, wa_t 252 rfl rfl, ⟨by decide, by decide⟩, by decide, by decide +kernel, by decide⟩, wa_t 251 rfl rfl⟩
def mL_low : Md := (cL_low, yL_low, 2, (some .int))
set_option maxRecDepth 100000 in
theorem okL_low : MdS mL_low 2 := ⟨⟨wa_t 0 rfl rfl, wa_t 256 rfl rfl, ⟨by decide, by decide⟩, by decide, by decide +kernel, by decide⟩, wa_t 255 rfl rfl⟩
def mL_change : Md := (cL_change, yL_change, 18, (some .boolean))
set_option maxRecDepth 100000 in
theorem okL_change : MdS mL_change 4 := ⟨⟨wa_t 0 rfl rfl, wa_t 260 rfl rfl, ⟨by decide, by decide⟩, by decide, by decide +kernel, by decide⟩, wa_t 259 rfl rfl⟩
def mL_barters : Md := (cL_barters, yL_barters, 10, (some .boolean))
set_option maxRecDepth 100000 in
theorem okL_barters : MdS mL_barters 3 := ⟨⟨wa_t 0 rfl rfl, wa_t 433 rfl rfl, ⟨by decide, by decide⟩, by decide, by decide +kernel, by decide⟩, wa_t 432 rfl rfl⟩
def mL_isTrader : Md := (cL_isTrader, yL_isTrader, 12, (some .boolean))
set_option maxRecDepth 100000 in
theorem okL_isTrader : MdS mL_isTrader 2 := ⟨⟨wa_t 0 rfl rfl, wa_t 534 rfl rfl, ⟨by decide, by decide⟩, by decide, by decide +kernel, by decide⟩, wa_t 533 rfl rfl⟩
def mL_isBest : Md := (cL_isBest, yL_isBest, 10, (some .boolean))
set_option maxRecDepth 100000 in
theorem okL_isBest : MdS mL_isBest 1 := ⟨⟨wa_t 0 rfl rfl, wa_t 542 rfl rfl, ⟨by decide, by decide⟩, by decide, by decide +kernel, by decide⟩, wa_t 541 rfl rfl⟩
def mL_holds : Md := (cL_holds, yL_holds, 13, (some .boolean))
set_option maxRecDepth 100000 in
theorem okL_holds : MdS mL_holds 1 := ⟨⟨wa_t 0 rfl rfl, wa_t 531 rfl rfl, ⟨by decide, by decide⟩, by decide, by decide +kernel, by decide⟩, wa_t 530 rfl rfl⟩
def mL_tries : Md := (cL_tries, yL_tries, 15, (some .boolean))
set_option maxRecDepth 100000 in
theorem okL_tries : MdS mL_tries 2 := ⟨⟨wa_t 0 rfl rfl, wa_t 558 rfl rfl, ⟨by decide, by decide⟩, by decide, by decide +kernel, by decide⟩, wa_t 557 rfl rfl⟩
set_option maxRecDepth 100000 in
theorem lkL_92 : Cond.methodLink RL 92 yX5_init ∈ WA := wa_t 13 rfl rfl
set_option maxRecDepth 100000 in
theorem lkX5_1 : Cond.methodLink RX5 1 Lib.objectInit ∈ WA := wa_t 16 rfl rfl
set_option maxRecDepth 100000 in
theorem lkX5_9 : Cond.methodLink RX5 9 yX2_init ∈ WA := wa_t 21 rfl rfl
set_option maxRecDepth 100000 in
theorem lkX2_3 : Cond.methodLink RX2 3 Lib.objectInit ∈ WA := wa_t 24 rfl rfl
set_option maxRecDepth 100000 in
theorem lkX2_49 : Cond.methodLink RX2 49 yJ7_fill_53178 ∈ WA := wa_t 25 rfl rfl
set_option maxRecDepth 100000 in
theorem lkX5_24 : Cond.methodLink RX5 24 yX1_init ∈ WA := wa_t 105 rfl rfl
set_option maxRecDepth 100000 in
theorem lkX1_3 : Cond.methodLink RX1 3 Lib.objectInit ∈ WA := wa_t 108 rfl rfl
set_option maxRecDepth 100000 in
theorem lkX1_17 : Cond.methodLink RX1 17 yX2_init ∈ WA := wa_t 111 rfl rfl
set_option maxRecDepth 100000 in
theorem lkX3_3 : Cond.methodLink RX3 3 Lib.objectInit ∈ WA := wa_t 128 rfl rfl
set_option maxRecDepth 100000 in
theorem lkX0_3 : Cond.methodLink RX0 3 Lib.objectInit ∈ WA := wa_t 142 rfl rfl
set_option maxRecDepth 100000 in
theorem lkX4_3 : Cond.methodLink RX4 3 Lib.objectInit ∈ WA := wa_t 168 rfl rfl
set_option maxRecDepth 100000 in
theorem lkL_86 : Cond.methodLink RL 86 yX5_undo ∈ WA := wa_t 219 rfl rfl
set_option maxRecDepth 100000 in
theorem lkX5_252 : Cond.methodLink RX5 252 yX1_takeBack ∈ WA := wa_t 223 rfl rfl
set_option maxRecDepth 100000 in
theorem lkX1_22 : Cond.methodLink RX1 22 yX1_rowAt ∈ WA := wa_t 227 rfl rfl
set_option maxRecDepth 100000 in
theorem lkX1_26 : Cond.methodLink RX1 26 yX2_copyFrom ∈ WA := wa_t 231 rfl rfl
set_option maxRecDepth 100000 in
theorem lkX2_55 : Cond.methodLink RX2 55 arraycopyName ∈ WA := wa_t 235 rfl rfl
set_option maxRecDepth 100000 in
theorem lkL_96 : Cond.methodLink RL 96 yX5_restore ∈ WA := wa_t 238 rfl rfl
set_option maxRecDepth 100000 in
theorem lkX5_64 : Cond.methodLink RX5 64 yX1_record ∈ WA := wa_t 242 rfl rfl
set_option maxRecDepth 100000 in
theorem lkX1_33 : Cond.methodLink RX1 33 yJ9_min_7cf53 ∈ WA := wa_t 246 rfl rfl
set_option maxRecDepth 100000 in
theorem lkX5_243 : Cond.methodLink RX5 243 yX2_copyFrom ∈ WA := wa_t 249 rfl rfl
set_option maxRecDepth 100000 in
theorem lkL_99 : Cond.methodLink RL 99 yL_cell ∈ WA := wa_t 250 rfl rfl
set_option maxRecDepth 100000 in
theorem lkL_15 : Cond.methodLink RL 15 yL_low ∈ WA := wa_t 254 rfl rfl
set_option maxRecDepth 100000 in
theorem lkL_103 : Cond.methodLink RL 103 yL_change ∈ WA := wa_t 258 rfl rfl
set_option maxRecDepth 100000 in
theorem lkL_9 : Cond.methodLink RL 9 yX5_count ∈ WA := wa_t 261 rfl rfl
set_option maxRecDepth 100000 in
theorem lkX5_213 : Cond.methodLink RX5 213 yX2_needs ∈ WA := wa_t 265 rfl rfl
set_option maxRecDepth 100000 in
theorem lkX2_126 : Cond.methodLink RX2 126 yJ6_bitCount_0f7a4 ∈ WA := wa_t 269 rfl rfl
set_option maxRecDepth 100000 in
theorem lkX5_141 : Cond.methodLink RX5 141 yX2_needsMet ∈ WA := wa_t 275 rfl rfl
set_option maxRecDepth 100000 in
theorem lkX5_216 : Cond.methodLink RX5 216 yX2_soundWares ∈ WA := wa_t 279 rfl rfl
set_option maxRecDepth 100000 in
theorem lkX2_93 : Cond.methodLink RX2 93 yX2_hasSoundWare ∈ WA := wa_t 283 rfl rfl
set_option maxRecDepth 100000 in
theorem lkX2_90 : Cond.methodLink RX2 90 yX2_hasWare ∈ WA := wa_t 287 rfl rfl
set_option maxRecDepth 100000 in
theorem lkX2_79 : Cond.methodLink RX2 79 yX2_has ∈ WA := wa_t 291 rfl rfl
set_option maxRecDepth 100000 in
theorem lkX5_219 : Cond.methodLink RX5 219 yX2_spoiltWares ∈ WA := wa_t 298 rfl rfl
set_option maxRecDepth 100000 in
theorem lkX5_234 : Cond.methodLink RX5 234 yX2_stuckTraders ∈ WA := wa_t 302 rfl rfl
set_option maxRecDepth 100000 in
theorem lkX2_135 : Cond.methodLink RX2 135 yX2_giversOf ∈ WA := wa_t 306 rfl rfl
set_option maxRecDepth 100000 in
theorem lkX2_103 : Cond.methodLink RX2 103 yX2_canTake ∈ WA := wa_t 310 rfl rfl
set_option maxRecDepth 100000 in
theorem lkX2_100 : Cond.methodLink RX2 100 yX2_wantsWareOf ∈ WA := wa_t 314 rfl rfl
set_option maxRecDepth 100000 in
theorem lkL_21 : Cond.methodLink RL 21 yX5_come ∈ WA := wa_t 324 rfl rfl
set_option maxRecDepth 100000 in
theorem lkX5_54 : Cond.methodLink RX5 54 yX5_isKind ∈ WA := wa_t 328 rfl rfl
set_option maxRecDepth 100000 in
theorem lkX5_58 : Cond.methodLink RX5 58 yX5_isSetOfKinds ∈ WA := wa_t 329 rfl rfl
set_option maxRecDepth 100000 in
theorem lkX5_68 : Cond.methodLink RX5 68 yX2_add ∈ WA := wa_t 332 rfl rfl
set_option maxRecDepth 100000 in
theorem lkX2_83 : Cond.methodLink RX2 83 yX2_makeWare ∈ WA := wa_t 336 rfl rfl
set_option maxRecDepth 100000 in
theorem lkL_24 : Cond.methodLink RL 24 yX5_trader ∈ WA := wa_t 340 rfl rfl
set_option maxRecDepth 100000 in
theorem lkX5_72 : Cond.methodLink RX5 72 yX2_has ∈ WA := wa_t 344 rfl rfl
set_option maxRecDepth 100000 in
theorem lkX5_153 : Cond.methodLink RX5 153 yX2_hasWare ∈ WA := wa_t 345 rfl rfl
set_option maxRecDepth 100000 in
theorem lkX5_162 : Cond.methodLink RX5 162 yX2_daysLeft ∈ WA := wa_t 346 rfl rfl
set_option maxRecDepth 100000 in
theorem lkX5_168 : Cond.methodLink RX5 168 yX2_giversOf ∈ WA := wa_t 350 rfl rfl
set_option maxRecDepth 100000 in
theorem lkX5_171 : Cond.methodLink RX5 171 yJ6_bitCount_0f7a4 ∈ WA := wa_t 351 rfl rfl
set_option maxRecDepth 100000 in
theorem lkX5_176 : Cond.methodLink RX5 176 yX2_numberOfTakers ∈ WA := wa_t 352 rfl rfl
set_option maxRecDepth 100000 in
theorem lkX5_179 : Cond.methodLink RX5 179 yX5_bestGiver ∈ WA := wa_t 356 rfl rfl
set_option maxRecDepth 100000 in
theorem lkX5_192 : Cond.methodLink RX5 192 yX4_findBest ∈ WA := wa_t 360 rfl rfl
set_option maxRecDepth 100000 in
theorem lkX4_27 : Cond.methodLink RX4 27 yJ9_min_7cf53 ∈ WA := wa_t 364 rfl rfl
set_option maxRecDepth 100000 in
theorem lkX4_33 : Cond.methodLink RX4 33 yJ9_max_7cf53 ∈ WA := wa_t 365 rfl rfl
set_option maxRecDepth 100000 in
theorem lkX4_44 : Cond.methodLink RX4 44 yX2_giversOf ∈ WA := wa_t 368 rfl rfl
set_option maxRecDepth 100000 in
theorem lkX4_47 : Cond.methodLink RX4 47 yX4_chooseGiver ∈ WA := wa_t 369 rfl rfl
set_option maxRecDepth 100000 in
theorem lkX4_51 : Cond.methodLink RX4 51 arraycopyName ∈ WA := wa_t 373 rfl rfl
set_option maxRecDepth 100000 in
theorem lkX4_61 : Cond.methodLink RX4 61 yX4_fitsInCircle ∈ WA := wa_t 375 rfl rfl
set_option maxRecDepth 100000 in
theorem lkX4_67 : Cond.methodLink RX4 67 yX4_goOn ∈ WA := wa_t 380 rfl rfl
set_option maxRecDepth 100000 in
theorem lkL_27 : Cond.methodLink RL 27 yX5_go ∈ WA := wa_t 384 rfl rfl
set_option maxRecDepth 100000 in
theorem lkX5_79 : Cond.methodLink RX5 79 yX2_remove ∈ WA := wa_t 388 rfl rfl
set_option maxRecDepth 100000 in
theorem lkL_30 : Cond.methodLink RL 30 yX5_want ∈ WA := wa_t 392 rfl rfl
set_option maxRecDepth 100000 in
theorem lkL_33 : Cond.methodLink RL 33 yX5_kind ∈ WA := wa_t 396 rfl rfl
set_option maxRecDepth 100000 in
theorem lkX5_195 : Cond.methodLink RX5 195 yX2_waresOfKind ∈ WA := wa_t 400 rfl rfl
set_option maxRecDepth 100000 in
theorem lkX5_198 : Cond.methodLink RX5 198 yX2_soundWaresOfKind ∈ WA := wa_t 404 rfl rfl
set_option maxRecDepth 100000 in
theorem lkX5_201 : Cond.methodLink RX5 201 yX2_tradersWhoWant ∈ WA := wa_t 408 rfl rfl
set_option maxRecDepth 100000 in
theorem lkX5_204 : Cond.methodLink RX5 204 yX2_tradersWhoMake ∈ WA := wa_t 412 rfl rfl
set_option maxRecDepth 100000 in
theorem lkL_36 : Cond.methodLink RL 36 yX5_life ∈ WA := wa_t 416 rfl rfl
set_option maxRecDepth 100000 in
theorem lkL_39 : Cond.methodLink RL 39 yX5_circle ∈ WA := wa_t 420 rfl rfl
set_option maxRecDepth 100000 in
theorem lkX5_89 : Cond.methodLink RX5 89 yX5_isCircleLength ∈ WA := wa_t 424 rfl rfl
set_option maxRecDepth 100000 in
theorem lkL_42 : Cond.methodLink RL 42 yX5_lot ∈ WA := wa_t 427 rfl rfl
set_option maxRecDepth 100000 in
theorem lkL_45 : Cond.methodLink RL 45 yL_barters ∈ WA := wa_t 431 rfl rfl
set_option maxRecDepth 100000 in
theorem lkL_59 : Cond.methodLink RL 59 yX5_whyNot ∈ WA := wa_t 434 rfl rfl
set_option maxRecDepth 100000 in
theorem lkX5_98 : Cond.methodLink RX5 98 yX2_hasBoth ∈ WA := wa_t 438 rfl rfl
set_option maxRecDepth 100000 in
theorem lkX5_185 : Cond.methodLink RX5 185 yX2_refusal ∈ WA := wa_t 442 rfl rfl
set_option maxRecDepth 100000 in
theorem lkL_62 : Cond.methodLink RL 62 yX5_barter ∈ WA := wa_t 446 rfl rfl
set_option maxRecDepth 100000 in
theorem lkX5_102 : Cond.methodLink RX5 102 yX2_barterByHand ∈ WA := wa_t 450 rfl rfl
set_option maxRecDepth 100000 in
theorem lkX2_110 : Cond.methodLink RX2 110 yX2_refusal ∈ WA := wa_t 454 rfl rfl
set_option maxRecDepth 100000 in
theorem lkX2_113 : Cond.methodLink RX2 113 yX2_keepWares ∈ WA := wa_t 455 rfl rfl
set_option maxRecDepth 100000 in
theorem lkX2_116 : Cond.methodLink RX2 116 yX2_takeWare ∈ WA := wa_t 459 rfl rfl
set_option maxRecDepth 100000 in
theorem lkL_49 : Cond.methodLink RL 49 yX5_most ∈ WA := wa_t 463 rfl rfl
set_option maxRecDepth 100000 in
theorem lkX5_188 : Cond.methodLink RX5 188 yX0_mostTraders ∈ WA := wa_t 467 rfl rfl
set_option maxRecDepth 100000 in
theorem lkX0_25 : Cond.methodLink RX0 25 yX0_readTakers ∈ WA := wa_t 471 rfl rfl
set_option maxRecDepth 100000 in
theorem lkX0_46 : Cond.methodLink RX0 46 yJ9_min_7cf53 ∈ WA := wa_t 475 rfl rfl
set_option maxRecDepth 100000 in
theorem lkX0_52 : Cond.methodLink RX0 52 yJ9_max_7cf53 ∈ WA := wa_t 476 rfl rfl
set_option maxRecDepth 100000 in
theorem lkX0_59 : Cond.methodLink RX0 59 yJ7_fill_53178 ∈ WA := wa_t 477 rfl rfl
set_option maxRecDepth 100000 in
theorem lkX0_65 : Cond.methodLink RX0 65 yX2_giversOf ∈ WA := wa_t 478 rfl rfl
set_option maxRecDepth 100000 in
theorem lkX0_29 : Cond.methodLink RX0 29 yX0_findChains ∈ WA := wa_t 481 rfl rfl
set_option maxRecDepth 100000 in
theorem lkX0_76 : Cond.methodLink RX0 76 yX0_leastOf ∈ WA := wa_t 485 rfl rfl
set_option maxRecDepth 100000 in
theorem lkX0_32 : Cond.methodLink RX0 32 yX0_findCircles ∈ WA := wa_t 488 rfl rfl
set_option maxRecDepth 100000 in
theorem lkX0_79 : Cond.methodLink RX0 79 yJ6_bitCount_0f7a4 ∈ WA := wa_t 492 rfl rfl
set_option maxRecDepth 100000 in
theorem lkX0_36 : Cond.methodLink RX0 36 yX0_findBarters ∈ WA := wa_t 493 rfl rfl
set_option maxRecDepth 100000 in
theorem lkX0_84 : Cond.methodLink RX0 84 yX0_isMadeOfCircles ∈ WA := wa_t 497 rfl rfl
set_option maxRecDepth 100000 in
theorem lkL_52 : Cond.methodLink RL 52 yX5_call ∈ WA := wa_t 501 rfl rfl
set_option maxRecDepth 100000 in
theorem lkX5_106 : Cond.methodLink RX5 106 yX5_callMarket ∈ WA := wa_t 505 rfl rfl
set_option maxRecDepth 100000 in
theorem lkX5_262 : Cond.methodLink RX5 262 yX2_doBarter ∈ WA := wa_t 509 rfl rfl
set_option maxRecDepth 100000 in
theorem lkL_56 : Cond.methodLink RL 56 yX5_day ∈ WA := wa_t 513 rfl rfl
set_option maxRecDepth 100000 in
theorem lkX5_110 : Cond.methodLink RX5 110 yX2_passDay ∈ WA := wa_t 517 rfl rfl
set_option maxRecDepth 100000 in
theorem lkX2_120 : Cond.methodLink RX2 120 yX2_renewWare ∈ WA := wa_t 521 rfl rfl
set_option maxRecDepth 100000 in
theorem lkX2_123 : Cond.methodLink RX2 123 yX2_drawLot ∈ WA := wa_t 525 rfl rfl
set_option maxRecDepth 100000 in
theorem lkL_93 : Cond.methodLink RL 93 yL_holds ∈ WA := wa_t 529 rfl rfl
set_option maxRecDepth 100000 in
theorem lkL_71 : Cond.methodLink RL 71 yL_isTrader ∈ WA := wa_t 532 rfl rfl
set_option maxRecDepth 100000 in
theorem lkL_65 : Cond.methodLink RL 65 yX5_can ∈ WA := wa_t 535 rfl rfl
set_option maxRecDepth 100000 in
theorem lkX5_182 : Cond.methodLink RX5 182 yX2_canTake ∈ WA := wa_t 539 rfl rfl
set_option maxRecDepth 100000 in
theorem lkL_75 : Cond.methodLink RL 75 yL_isBest ∈ WA := wa_t 540 rfl rfl
set_option maxRecDepth 100000 in
theorem lkL_68 : Cond.methodLink RL 68 yX5_ifCircle ∈ WA := wa_t 543 rfl rfl
set_option maxRecDepth 100000 in
theorem lkL_79 : Cond.methodLink RL 79 yX5_freshness ∈ WA := wa_t 547 rfl rfl
set_option maxRecDepth 100000 in
theorem lkX5_240 : Cond.methodLink RX5 240 yX2_daysLeftOfAll ∈ WA := wa_t 551 rfl rfl
set_option maxRecDepth 100000 in
theorem lkX2_132 : Cond.methodLink RX2 132 yX2_daysLeft ∈ WA := wa_t 555 rfl rfl
set_option maxRecDepth 100000 in
theorem lkL_107 : Cond.methodLink RL 107 yL_tries ∈ WA := wa_t 556 rfl rfl
set_option maxRecDepth 100000 in
theorem lkL_83 : Cond.methodLink RL 83 yX5_ifDays ∈ WA := wa_t 559 rfl rfl
set_option maxRecDepth 100000 in
theorem lkL_89 : Cond.methodLink RL 89 yX5_bestWant ∈ WA := wa_t 563 rfl rfl
set_option maxRecDepth 100000 in
theorem lkX5_246 : Cond.methodLink RX5 246 yX5_holds ∈ WA := wa_t 567 rfl rfl
set_option maxRecDepth 100000 in
theorem lkX5_249 : Cond.methodLink RX5 249 yX5_with ∈ WA := wa_t 568 rfl rfl
set_option maxRecDepth 100000 in
theorem nsX5_31 : (RX5, 31, yX3_init) ∈ nests := List.mem_of_getElem? (i := 0) rfl
set_option maxRecDepth 100000 in
theorem nsX5_38 : (RX5, 38, yX0_init) ∈ nests := List.mem_of_getElem? (i := 1) rfl
set_option maxRecDepth 100000 in
theorem nsX5_45 : (RX5, 45, yX4_init) ∈ nests := List.mem_of_getElem? (i := 2) rfl
set_option maxRecDepth 100000 in
theorem nsX2_87 : (RX2, 87, yX5_isKind) ∈ nests := List.mem_of_getElem? (i := 3) rfl
set_option maxRecDepth 100000 in
theorem nsX2_96 : (RX2, 96, yX5_holds) ∈ nests := List.mem_of_getElem? (i := 4) rfl
set_option maxRecDepth 100000 in
theorem nsX2_106 : (RX2, 106, yX5_with) ∈ nests := List.mem_of_getElem? (i := 5) rfl
set_option maxRecDepth 100000 in
theorem nsX4_57 : (RX4, 57, yX5_holds) ∈ nests := List.mem_of_getElem? (i := 6) rfl
set_option maxRecDepth 100000 in
theorem nsX4_64 : (RX4, 64, yX5_with) ∈ nests := List.mem_of_getElem? (i := 7) rfl
set_option maxRecDepth 100000 in
theorem nsX0_69 : (RX0, 69, yX5_holds) ∈ nests := List.mem_of_getElem? (i := 8) rfl
set_option maxRecDepth 100000 in
theorem nsX0_73 : (RX0, 73, yX5_with) ∈ nests := List.mem_of_getElem? (i := 9) rfl
set_option maxRecDepth 100000 in
theorem fkX2_9 : LkF RX2 9 2 0 (RX2, TX2, 18) := ⟨rfl, by decide, wa_t 28 rfl rfl⟩
set_option maxRecDepth 100000 in
theorem fkX5_150 : LkF RX5 150 2 0 (RX2, TX2, 18) := ⟨rfl, by decide, wa_t 29 rfl rfl⟩
set_option maxRecDepth 100000 in
theorem fkX2_15 : LkF RX2 15 2 1 (RX2, TX2, 18) := ⟨rfl, by decide, wa_t 30 rfl rfl⟩
set_option maxRecDepth 100000 in
theorem fkX5_83 : LkF RX5 83 2 1 (RX2, TX2, 18) := ⟨rfl, by decide, wa_t 31 rfl rfl⟩
set_option maxRecDepth 100000 in
theorem fkX2_18 : LkF RX2 18 2 2 (RX2, TX2, 18) := ⟨rfl, by decide, wa_t 32 rfl rfl⟩
set_option maxRecDepth 100000 in
theorem fkX5_156 : LkF RX5 156 2 2 (RX2, TX2, 18) := ⟨rfl, by decide, wa_t 33 rfl rfl⟩
set_option maxRecDepth 100000 in
theorem fkX2_21 : LkF RX2 21 2 3 (RX2, TX2, 18) := ⟨rfl, by decide, wa_t 34 rfl rfl⟩
set_option maxRecDepth 100000 in
theorem fkX5_159 : LkF RX5 159 2 3 (RX2, TX2, 18) := ⟨rfl, by decide, wa_t 35 rfl rfl⟩
set_option maxRecDepth 100000 in
theorem fkX2_24 : LkF RX2 24 2 4 (RX2, TX2, 18) := ⟨rfl, by decide, wa_t 36 rfl rfl⟩
set_option maxRecDepth 100000 in
theorem fkX5_75 : LkF RX5 75 2 4 (RX2, TX2, 18) := ⟨rfl, by decide, wa_t 37 rfl rfl⟩
set_option maxRecDepth 100000 in
theorem fkX2_27 : LkF RX2 27 2 5 (RX2, TX2, 18) := ⟨rfl, by decide, wa_t 38 rfl rfl⟩
set_option maxRecDepth 100000 in
theorem fkX5_86 : LkF RX5 86 2 5 (RX2, TX2, 18) := ⟨rfl, by decide, wa_t 39 rfl rfl⟩
set_option maxRecDepth 100000 in
theorem fkX2_30 : LkF RX2 30 2 6 (RX2, TX2, 18) := ⟨rfl, by decide, wa_t 40 rfl rfl⟩
set_option maxRecDepth 100000 in
theorem fkX5_207 : LkF RX5 207 2 6 (RX2, TX2, 18) := ⟨rfl, by decide, wa_t 41 rfl rfl⟩
set_option maxRecDepth 100000 in
theorem fkX4_21 : LkF RX4 21 2 7 (RX2, TX2, 18) := ⟨rfl, by decide, wa_t 42 rfl rfl⟩
set_option maxRecDepth 100000 in
theorem fkX5_61 : LkF RX5 61 2 7 (RX2, TX2, 18) := ⟨rfl, by decide, wa_t 43 rfl rfl⟩
set_option maxRecDepth 100000 in
theorem fkX2_61 : LkF RX2 61 2 7 (RX2, TX2, 18) := ⟨rfl, by decide, wa_t 44 rfl rfl⟩
set_option maxRecDepth 100000 in
theorem fkX0_40 : LkF RX0 40 2 7 (RX2, TX2, 18) := ⟨rfl, by decide, wa_t 45 rfl rfl⟩
set_option maxRecDepth 100000 in
theorem fkX2_33 : LkF RX2 33 2 8 (RX2, TX2, 18) := ⟨rfl, by decide, wa_t 46 rfl rfl⟩
set_option maxRecDepth 100000 in
theorem fkX4_37 : LkF RX4 37 2 8 (RX2, TX2, 18) := ⟨rfl, by decide, wa_t 47 rfl rfl⟩
set_option maxRecDepth 100000 in
theorem fkX5_92 : LkF RX5 92 2 8 (RX2, TX2, 18) := ⟨rfl, by decide, wa_t 48 rfl rfl⟩
set_option maxRecDepth 100000 in
theorem fkX2_64 : LkF RX2 64 2 9 (RX2, TX2, 18) := ⟨rfl, by decide, wa_t 49 rfl rfl⟩
set_option maxRecDepth 100000 in
theorem fkX5_210 : LkF RX5 210 2 9 (RX2, TX2, 18) := ⟨rfl, by decide, wa_t 50 rfl rfl⟩
set_option maxRecDepth 100000 in
theorem fkX2_37 : LkF RX2 37 2 10 (RX2, TX2, 18) := ⟨rfl, by decide, wa_t 51 rfl rfl⟩
set_option maxRecDepth 100000 in
theorem fkX5_95 : LkF RX5 95 2 10 (RX2, TX2, 18) := ⟨rfl, by decide, wa_t 52 rfl rfl⟩
set_option maxRecDepth 100000 in
theorem fkX2_40 : LkF RX2 40 2 11 (RX2, TX2, 18) := ⟨rfl, by decide, wa_t 53 rfl rfl⟩
set_option maxRecDepth 100000 in
theorem fkX5_165 : LkF RX5 165 2 11 (RX2, TX2, 18) := ⟨rfl, by decide, wa_t 54 rfl rfl⟩
set_option maxRecDepth 100000 in
theorem fkX2_67 : LkF RX2 67 2 12 (RX2, TX2, 18) := ⟨rfl, by decide, wa_t 55 rfl rfl⟩
set_option maxRecDepth 100000 in
theorem fkX5_222 : LkF RX5 222 2 12 (RX2, TX2, 18) := ⟨rfl, by decide, wa_t 56 rfl rfl⟩
set_option maxRecDepth 100000 in
theorem fkX2_70 : LkF RX2 70 2 13 (RX2, TX2, 18) := ⟨rfl, by decide, wa_t 57 rfl rfl⟩
set_option maxRecDepth 100000 in
theorem fkX5_225 : LkF RX5 225 2 13 (RX2, TX2, 18) := ⟨rfl, by decide, wa_t 58 rfl rfl⟩
set_option maxRecDepth 100000 in
theorem fkX2_73 : LkF RX2 73 2 14 (RX2, TX2, 18) := ⟨rfl, by decide, wa_t 59 rfl rfl⟩
set_option maxRecDepth 100000 in
theorem fkX5_228 : LkF RX5 228 2 14 (RX2, TX2, 18) := ⟨rfl, by decide, wa_t 60 rfl rfl⟩
set_option maxRecDepth 100000 in
theorem fkX2_76 : LkF RX2 76 2 15 (RX2, TX2, 18) := ⟨rfl, by decide, wa_t 61 rfl rfl⟩
set_option maxRecDepth 100000 in
theorem fkX5_231 : LkF RX5 231 2 15 (RX2, TX2, 18) := ⟨rfl, by decide, wa_t 62 rfl rfl⟩
set_option maxRecDepth 100000 in
theorem fkX2_43 : LkF RX2 43 2 16 (RX2, TX2, 18) := ⟨rfl, by decide, wa_t 63 rfl rfl⟩
set_option maxRecDepth 100000 in
theorem fkX2_46 : LkF RX2 46 2 17 (RX2, TX2, 18) := ⟨rfl, by decide, wa_t 64 rfl rfl⟩
set_option maxRecDepth 100000 in
theorem fkX1_30 : LkF RX1 30 1 0 (RX1, TX1, 3) := ⟨rfl, by decide, wa_t 112 rfl rfl⟩
set_option maxRecDepth 100000 in
theorem fkX5_237 : LkF RX5 237 1 0 (RX1, TX1, 3) := ⟨rfl, by decide, wa_t 113 rfl rfl⟩
set_option maxRecDepth 100000 in
theorem fkX1_11 : LkF RX1 11 1 1 (RX1, TX1, 3) := ⟨rfl, by decide, wa_t 114 rfl rfl⟩
set_option maxRecDepth 100000 in
theorem fkX1_18 : LkF RX1 18 1 2 (RX1, TX1, 3) := ⟨rfl, by decide, wa_t 115 rfl rfl⟩
set_option maxRecDepth 100000 in
theorem fkX5_114 : LkF RX5 114 3 0 (RX3, TX3, 2) := ⟨rfl, by decide, wa_t 129 rfl rfl⟩
set_option maxRecDepth 100000 in
theorem fkX3_9 : LkF RX3 9 3 1 (RX3, TX3, 2) := ⟨rfl, by decide, wa_t 130 rfl rfl⟩
set_option maxRecDepth 100000 in
theorem fkX0_9 : LkF RX0 9 0 0 (RX0, TX0, 6) := ⟨rfl, by decide, wa_t 143 rfl rfl⟩
set_option maxRecDepth 100000 in
theorem fkX0_15 : LkF RX0 15 0 1 (RX0, TX0, 6) := ⟨rfl, by decide, wa_t 144 rfl rfl⟩
set_option maxRecDepth 100000 in
theorem fkX0_18 : LkF RX0 18 0 2 (RX0, TX0, 6) := ⟨rfl, by decide, wa_t 145 rfl rfl⟩
set_option maxRecDepth 100000 in
theorem fkX0_22 : LkF RX0 22 0 3 (RX0, TX0, 6) := ⟨rfl, by decide, wa_t 146 rfl rfl⟩
set_option maxRecDepth 100000 in
theorem fkX0_55 : LkF RX0 55 0 4 (RX0, TX0, 6) := ⟨rfl, by decide, wa_t 147 rfl rfl⟩
set_option maxRecDepth 100000 in
theorem fkX0_56 : LkF RX0 56 0 5 (RX0, TX0, 6) := ⟨rfl, by decide, wa_t 148 rfl rfl⟩
set_option maxRecDepth 100000 in
theorem fkX4_9 : LkF RX4 9 4 0 (RX4, TX4, 6) := ⟨rfl, by decide, wa_t 169 rfl rfl⟩
set_option maxRecDepth 100000 in
theorem fkX5_259 : LkF RX5 259 4 0 (RX4, TX4, 6) := ⟨rfl, by decide, wa_t 170 rfl rfl⟩
set_option maxRecDepth 100000 in
theorem fkX4_15 : LkF RX4 15 4 1 (RX4, TX4, 6) := ⟨rfl, by decide, wa_t 171 rfl rfl⟩
set_option maxRecDepth 100000 in
theorem fkX4_18 : LkF RX4 18 4 2 (RX4, TX4, 6) := ⟨rfl, by decide, wa_t 172 rfl rfl⟩
set_option maxRecDepth 100000 in
theorem fkX4_36 : LkF RX4 36 4 3 (RX4, TX4, 6) := ⟨rfl, by decide, wa_t 173 rfl rfl⟩
set_option maxRecDepth 100000 in
theorem fkX4_40 : LkF RX4 40 4 4 (RX4, TX4, 6) := ⟨rfl, by decide, wa_t 174 rfl rfl⟩
set_option maxRecDepth 100000 in
theorem fkX4_41 : LkF RX4 41 4 5 (RX4, TX4, 6) := ⟨rfl, by decide, wa_t 175 rfl rfl⟩
set_option maxRecDepth 100000 in
theorem fkX5_10 : LkF RX5 10 5 0 (RX5, TX5, 10) := ⟨rfl, by decide, wa_t 189 rfl rfl⟩
set_option maxRecDepth 100000 in
theorem fkX5_16 : LkF RX5 16 5 1 (RX5, TX5, 10) := ⟨rfl, by decide, wa_t 190 rfl rfl⟩
set_option maxRecDepth 100000 in
theorem fkX5_19 : LkF RX5 19 5 2 (RX5, TX5, 10) := ⟨rfl, by decide, wa_t 191 rfl rfl⟩
set_option maxRecDepth 100000 in
theorem fkX5_25 : LkF RX5 25 5 3 (RX5, TX5, 10) := ⟨rfl, by decide, wa_t 192 rfl rfl⟩
set_option maxRecDepth 100000 in
theorem fkX5_32 : LkF RX5 32 5 4 (RX5, TX5, 10) := ⟨rfl, by decide, wa_t 193 rfl rfl⟩
set_option maxRecDepth 100000 in
theorem fkX5_39 : LkF RX5 39 5 5 (RX5, TX5, 10) := ⟨rfl, by decide, wa_t 194 rfl rfl⟩
set_option maxRecDepth 100000 in
theorem fkX5_46 : LkF RX5 46 5 6 (RX5, TX5, 10) := ⟨rfl, by decide, wa_t 195 rfl rfl⟩
set_option maxRecDepth 100000 in
theorem fkX5_255 : LkF RX5 255 5 7 (RX5, TX5, 10) := ⟨rfl, by decide, wa_t 196 rfl rfl⟩
set_option maxRecDepth 100000 in
theorem fkX5_50 : LkF RX5 50 5 9 (RX5, TX5, 10) := ⟨rfl, by decide, wa_t 197 rfl rfl⟩
set_option maxRecDepth 100000 in
theorem ckL_10 : Cond.classLink RL 10 RX5 ∈ WA := wa_t 11 rfl rfl
set_option maxRecDepth 100000 in
theorem ckX5_7 : Cond.classLink RX5 7 RX2 ∈ WA := wa_t 19 rfl rfl
set_option maxRecDepth 100000 in
theorem ckX5_22 : Cond.classLink RX5 22 RX1 ∈ WA := wa_t 103 rfl rfl
set_option maxRecDepth 100000 in
theorem ckX1_9 : Cond.classLink RX1 9 RX2 ∈ WA := wa_t 109 rfl rfl
set_option maxRecDepth 100000 in
theorem ckX5_29 : Cond.classLink RX5 29 RX3 ∈ WA := wa_t 123 rfl rfl
set_option maxRecDepth 100000 in
theorem ckX5_36 : Cond.classLink RX5 36 RX0 ∈ WA := wa_t 137 rfl rfl
set_option maxRecDepth 100000 in
theorem ckX5_43 : Cond.classLink RX5 43 RX4 ∈ WA := wa_t 163 rfl rfl
set_option maxRecDepth 100000 in
theorem isX5 : Cond.instantiable RX5 10 ∈ WA := wa_t 12 rfl rfl
set_option maxRecDepth 100000 in
theorem inX5 : Cond.initialized RX5 ∈ WA := wa_t 1 rfl rfl
set_option maxRecDepth 100000 in
theorem isX2 : Cond.instantiable RX2 18 ∈ WA := wa_t 20 rfl rfl
set_option maxRecDepth 100000 in
theorem inX2 : Cond.initialized RX2 ∈ WA := wa_t 2 rfl rfl
set_option maxRecDepth 100000 in
theorem isX1 : Cond.instantiable RX1 3 ∈ WA := wa_t 104 rfl rfl
set_option maxRecDepth 100000 in
theorem inX1 : Cond.initialized RX1 ∈ WA := wa_t 4 rfl rfl
set_option maxRecDepth 100000 in
theorem isX3 : Cond.instantiable RX3 2 ∈ WA := wa_t 124 rfl rfl
set_option maxRecDepth 100000 in
theorem inX3 : Cond.initialized RX3 ∈ WA := wa_t 5 rfl rfl
set_option maxRecDepth 100000 in
theorem isX0 : Cond.instantiable RX0 6 ∈ WA := wa_t 138 rfl rfl
set_option maxRecDepth 100000 in
theorem inX0 : Cond.initialized RX0 ∈ WA := wa_t 6 rfl rfl
set_option maxRecDepth 100000 in
theorem isX4 : Cond.instantiable RX4 6 ∈ WA := wa_t 164 rfl rfl
set_option maxRecDepth 100000 in
theorem inX4 : Cond.initialized RX4 ∈ WA := wa_t 7 rfl rfl
set_option maxRecDepth 100000 in
theorem kkL_7 : Cond.constant RL 7 40503 ∈ WA := wa_t 253 rfl rfl
set_option maxRecDepth 100000 in
theorem kkL_8 : Cond.constant RL 8 2147483647 ∈ WA := wa_t 257 rfl rfl
set_option maxRecDepth 100000 in
theorem kkJ6_265 : Cond.constant RJ6 265 1431655765 ∈ WA := wa_t 272 rfl rfl
set_option maxRecDepth 100000 in
theorem kkJ6_266 : Cond.constant RJ6 266 858993459 ∈ WA := wa_t 273 rfl rfl
set_option maxRecDepth 100000 in
theorem kkJ6_267 : Cond.constant RJ6 267 252645135 ∈ WA := wa_t 274 rfl rfl
set_option maxRecDepth 100000 in
theorem acI : Cond.arrayClass (newarray.typeOf .int) ∈ WA := wa_t 102 rfl rfl
set_option maxRecDepth 100000 in
theorem acZ : Cond.arrayClass (newarray.typeOf .boolean) ∈ WA := wa_t 162 rfl rfl
set_option maxRecDepth 100000 in
theorem acC : Cond.arrayClass (newarray.typeOf .char) ∈ WA := wa_t 136 rfl rfl
