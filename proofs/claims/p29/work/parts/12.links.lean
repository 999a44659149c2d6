def R_law : String := "TryLoopsLaw"
theorem ckX0 : CK 0 RX0 TX0 tyX0 2 := ⟨rfl, by decide +kernel, tyX0_ok, nmX0⟩
theorem ckX1 : CK 1 RX1 TX1 tyX1 3 := ⟨rfl, by decide +kernel, tyX1_ok, nmX1⟩
theorem ckX2 : CK 2 RX2 TX2 tyX2 2 := ⟨rfl, by decide +kernel, tyX2_ok, nmX2⟩
theorem ckX3 : CK 3 RX3 TX3 tyX3 7 := ⟨rfl, by decide +kernel, tyX3_ok, nmX3⟩
theorem ckX4 : CK 4 RX4 TX4 tyX4 8 := ⟨rfl, by decide +kernel, tyX4_ok, nmX4⟩
theorem ckX5 : CK 5 RX5 TX5 tyX5 4 := ⟨rfl, by decide +kernel, tyX5_ok, nmX5⟩
theorem ckX6 : CK 6 RX6 TX6 tyX6 8 := ⟨rfl, by decide +kernel, tyX6_ok, nmX6⟩
set_option maxRecDepth 100000 in
theorem ykX6_init : Yk yX6_init cX6_init 1 none 0 := ⟨gm 40 (by rfl) rfl, gm 22 (by decide +kernel) rfl, by decide +kernel⟩
set_option maxRecDepth 100000 in
theorem ykX4_init : Yk yX4_init cX4_init 1 none 0 := ⟨gm 48 (by rfl) rfl, gm 23 (by decide +kernel) rfl, by decide +kernel⟩
set_option maxRecDepth 100000 in
theorem ykX2_init : Yk yX2_init cX2_init 1 none 0 := ⟨gm 54 (by rfl) rfl, gm 24 (by decide +kernel) rfl, by decide +kernel⟩
set_option maxRecDepth 100000 in
theorem ykX3_init : Yk yX3_init cX3_init 5 none 2 := ⟨gm 69 (by rfl) rfl, gm 25 (by decide +kernel) rfl, by decide +kernel⟩
set_option maxRecDepth 100000 in
theorem ykJ9_max_7cf53 : Yk yJ9_max_7cf53 cJ9_max_7cf53 2 (some .int) 2 := ⟨gm 73 (by rfl) rfl, gm 26 (by decide +kernel) rfl, by decide +kernel⟩
set_option maxRecDepth 100000 in
theorem ykX0_init : Yk yX0_init cX0_init 2 none 0 := ⟨gm 136 (by rfl) rfl, gm 27 (by decide +kernel) rfl, by decide +kernel⟩
set_option maxRecDepth 100000 in
theorem ykX5_init : Yk yX5_init cX5_init 1 none 0 := ⟨gm 153 (by rfl) rfl, gm 28 (by decide +kernel) rfl, by decide +kernel⟩
set_option maxRecDepth 100000 in
theorem ykX1_init : Yk yX1_init cX1_init 1 none 0 := ⟨gm 178 (by rfl) rfl, gm 29 (by decide +kernel) rfl, by decide +kernel⟩
set_option maxRecDepth 100000 in
theorem ykX6_undo : Yk yX6_undo cX6_undo 1 (some .int) 0 := ⟨gm 225 (by rfl) rfl, gm 22 (by decide +kernel) rfl, by decide +kernel⟩
set_option maxRecDepth 100000 in
theorem ykX0_pop : Yk yX0_pop cX0_pop 3 (some .boolean) 1 := ⟨gm 229 (by rfl) rfl, gm 27 (by decide +kernel) rfl, by decide +kernel⟩
set_option maxRecDepth 100000 in
theorem ykX4_copyFrom : Yk yX4_copyFrom cX4_copyFrom 2 none 1 := ⟨gm 233 (by rfl) rfl, gm 23 (by decide +kernel) rfl, by decide +kernel⟩
set_option maxRecDepth 100000 in
theorem ykX2_copyFrom : Yk yX2_copyFrom cX2_copyFrom 2 none 1 := ⟨gm 237 (by rfl) rfl, gm 24 (by decide +kernel) rfl, by decide +kernel⟩
set_option maxRecDepth 100000 in
theorem ykX6_copyNumbers : Yk yX6_copyNumbers cX6_copyNumbers 2 none 2 := ⟨gm 240 (by rfl) rfl, gm 22 (by decide +kernel) rfl, by decide +kernel⟩
set_option maxRecDepth 100000 in
theorem ykJ9_min_7cf53 : Yk yJ9_min_7cf53 cJ9_min_7cf53 2 (some .int) 2 := ⟨gm 243 (by rfl) rfl, gm 26 (by decide +kernel) rfl, by decide +kernel⟩
set_option maxRecDepth 100000 in
theorem ykX3_copyFrom : Yk yX3_copyFrom cX3_copyFrom 2 none 1 := ⟨gm 250 (by rfl) rfl, gm 25 (by decide +kernel) rfl, by decide +kernel⟩
set_option maxRecDepth 100000 in
theorem ykX6_keep : Yk yX6_keep cX6_keep 1 (some .int) 0 := ⟨gm 255 (by rfl) rfl, gm 22 (by decide +kernel) rfl, by decide +kernel⟩
set_option maxRecDepth 100000 in
theorem ykX6_restore : Yk yX6_restore cX6_restore 1 (some .int) 0 := ⟨gm 260 (by rfl) rfl, gm 22 (by decide +kernel) rfl, by decide +kernel⟩
set_option maxRecDepth 100000 in
theorem ykX0_push : Yk yX0_push cX0_push 2 none 1 := ⟨gm 264 (by rfl) rfl, gm 27 (by decide +kernel) rfl, by decide +kernel⟩
set_option maxRecDepth 100000 in
theorem ykX0_dropOldest : Yk yX0_dropOldest cX0_dropOldest 3 none 0 := ⟨gm 268 (by rfl) rfl, gm 27 (by decide +kernel) rfl, by decide +kernel⟩
set_option maxRecDepth 100000 in
theorem ykX6_total : Yk yX6_total cX6_total 2 (some .int) 1 := ⟨gm 272 (by rfl) rfl, gm 22 (by decide +kernel) rfl, by decide +kernel⟩
set_option maxRecDepth 100000 in
theorem ykX2_sum : Yk yX2_sum cX2_sum 6 (some .int) 0 := ⟨gm 276 (by rfl) rfl, gm 24 (by decide +kernel) rfl, by decide +kernel⟩
set_option maxRecDepth 100000 in
theorem ykX4_openSize : Yk yX4_openSize cX4_openSize 1 (some .int) 0 := ⟨gm 280 (by rfl) rfl, gm 23 (by decide +kernel) rfl, by decide +kernel⟩
set_option maxRecDepth 100000 in
theorem ykX3_sizeOf : Yk yX3_sizeOf cX3_sizeOf 2 (some .int) 1 := ⟨gm 284 (by rfl) rfl, gm 25 (by decide +kernel) rfl, by decide +kernel⟩
set_option maxRecDepth 100000 in
theorem ykX6_countVerbRows : Yk yX6_countVerbRows cX6_countVerbRows 5 (some .int) 0 := ⟨gm 288 (by rfl) rfl, gm 22 (by decide +kernel) rfl, by decide +kernel⟩
set_option maxRecDepth 100000 in
theorem ykX3_haveSameVerbs : Yk yX3_haveSameVerbs cX3_haveSameVerbs 5 (some .boolean) 2 := ⟨gm 292 (by rfl) rfl, gm 25 (by decide +kernel) rfl, by decide +kernel⟩
set_option maxRecDepth 100000 in
theorem ykX3_verbAt : Yk yX3_verbAt cX3_verbAt 3 (some .int) 2 := ⟨gm 297 (by rfl) rfl, gm 25 (by decide +kernel) rfl, by decide +kernel⟩
set_option maxRecDepth 100000 in
theorem ykX3_look : Yk yX3_look cX3_look 5 (some .int) 3 := ⟨gm 301 (by rfl) rfl, gm 25 (by decide +kernel) rfl, by decide +kernel⟩
set_option maxRecDepth 100000 in
theorem ykL_cell : Yk yL_cell cL_cell 2 (some .int) 2 := ⟨gm 304 (by rfl) rfl, gm 21 (by decide +kernel) rfl, by decide +kernel⟩
set_option maxRecDepth 100000 in
theorem ykL_seen : Yk yL_seen cL_seen 5 (some .long) 1 := ⟨gm 310 (by rfl) rfl, gm 21 (by decide +kernel) rfl, by decide +kernel⟩
set_option maxRecDepth 100000 in
theorem ykX6_cell : Yk yX6_cell cX6_cell 2 (some .int) 1 := ⟨gm 316 (by rfl) rfl, gm 22 (by decide +kernel) rfl, by decide +kernel⟩
set_option maxRecDepth 100000 in
theorem ykX6_isCell : Yk yX6_isCell cX6_isCell 1 (some .boolean) 1 := ⟨gm 319 (by rfl) rfl, gm 22 (by decide +kernel) rfl, by decide +kernel⟩
set_option maxRecDepth 100000 in
theorem ykX2_valueAt : Yk yX2_valueAt cX2_valueAt 2 (some .int) 1 := ⟨gm 323 (by rfl) rfl, gm 24 (by decide +kernel) rfl, by decide +kernel⟩
set_option maxRecDepth 100000 in
theorem ykX6_ofTry : Yk yX6_ofTry cX6_ofTry 5 (some .int) 3 := ⟨gm 327 (by rfl) rfl, gm 22 (by decide +kernel) rfl, by decide +kernel⟩
set_option maxRecDepth 100000 in
theorem ykX3_holds : Yk yX3_holds cX3_holds 2 (some .boolean) 1 := ⟨gm 331 (by rfl) rfl, gm 25 (by decide +kernel) rfl, by decide +kernel⟩
set_option maxRecDepth 100000 in
theorem ykX3_hasStep : Yk yX3_hasStep cX3_hasStep 3 (some .boolean) 2 := ⟨gm 335 (by rfl) rfl, gm 25 (by decide +kernel) rfl, by decide +kernel⟩
set_option maxRecDepth 100000 in
theorem ykX3_numberAt : Yk yX3_numberAt cX3_numberAt 3 (some .int) 2 := ⟨gm 340 (by rfl) rfl, gm 25 (by decide +kernel) rfl, by decide +kernel⟩
set_option maxRecDepth 100000 in
theorem ykX6_length : Yk yX6_length cX6_length 3 (some .int) 2 := ⟨gm 344 (by rfl) rfl, gm 22 (by decide +kernel) rfl, by decide +kernel⟩
set_option maxRecDepth 100000 in
theorem ykX3_turnsOf : Yk yX3_turnsOf cX3_turnsOf 2 (some .int) 1 := ⟨gm 349 (by rfl) rfl, gm 25 (by decide +kernel) rfl, by decide +kernel⟩
set_option maxRecDepth 100000 in
theorem ykX6_ofLoop : Yk yX6_ofLoop cX6_ofLoop 5 (some .int) 3 := ⟨gm 353 (by rfl) rfl, gm 22 (by decide +kernel) rfl, by decide +kernel⟩
set_option maxRecDepth 100000 in
theorem ykX3_strideAt : Yk yX3_strideAt cX3_strideAt 3 (some .int) 2 := ⟨gm 357 (by rfl) rfl, gm 25 (by decide +kernel) rfl, by decide +kernel⟩
set_option maxRecDepth 100000 in
theorem ykX3_numberInTurn : Yk yX3_numberInTurn cX3_numberInTurn 4 (some .int) 3 := ⟨gm 361 (by rfl) rfl, gm 25 (by decide +kernel) rfl, by decide +kernel⟩
set_option maxRecDepth 100000 in
theorem ykL_areTries : Yk yL_areTries cL_areTries 9 (some .boolean) 1 := ⟨gm 366 (by rfl) rfl, gm 21 (by decide +kernel) rfl, by decide +kernel⟩
set_option maxRecDepth 100000 in
theorem ykX6_alike : Yk yX6_alike cX6_alike 4 (some .int) 3 := ⟨gm 370 (by rfl) rfl, gm 22 (by decide +kernel) rfl, by decide +kernel⟩
set_option maxRecDepth 100000 in
theorem ykX6_countCommon : Yk yX6_countCommon cX6_countCommon 10 (some .int) 3 := ⟨gm 374 (by rfl) rfl, gm 22 (by decide +kernel) rfl, by decide +kernel⟩
set_option maxRecDepth 100000 in
theorem ykX6_areAlike : Yk yX6_areAlike cX6_areAlike 7 (some .boolean) 5 := ⟨gm 378 (by rfl) rfl, gm 22 (by decide +kernel) rfl, by decide +kernel⟩
set_option maxRecDepth 100000 in
theorem ykL_greatest : Yk yL_greatest cL_greatest 1 (some .int) 1 := ⟨gm 382 (by rfl) rfl, gm 21 (by decide +kernel) rfl, by decide +kernel⟩
set_option maxRecDepth 100000 in
theorem ykX6_bestPair : Yk yX6_bestPair cX6_bestPair 8 (some .int) 1 := ⟨gm 386 (by rfl) rfl, gm 22 (by decide +kernel) rfl, by decide +kernel⟩
set_option maxRecDepth 100000 in
theorem ykX6_canGeneralise : Yk yX6_canGeneralise cX6_canGeneralise 3 (some .boolean) 2 := ⟨gm 390 (by rfl) rfl, gm 22 (by decide +kernel) rfl, by decide +kernel⟩
set_option maxRecDepth 100000 in
theorem ykX6_countZeroStrides : Yk yX6_countZeroStrides cX6_countZeroStrides 6 (some .int) 2 := ⟨gm 394 (by rfl) rfl, gm 22 (by decide +kernel) rfl, by decide +kernel⟩
set_option maxRecDepth 100000 in
theorem ykL_areLoops : Yk yL_areLoops cL_areLoops 13 (some .boolean) 1 := ⟨gm 397 (by rfl) rfl, gm 21 (by decide +kernel) rfl, by decide +kernel⟩
set_option maxRecDepth 100000 in
theorem ykX6_mostTurns : Yk yX6_mostTurns cX6_mostTurns 6 (some .int) 1 := ⟨gm 401 (by rfl) rfl, gm 22 (by decide +kernel) rfl, by decide +kernel⟩
set_option maxRecDepth 100000 in
theorem ykX6_turnsInRange : Yk yX6_turnsInRange cX6_turnsInRange 5 (some .int) 2 := ⟨gm 405 (by rfl) rfl, gm 22 (by decide +kernel) rfl, by decide +kernel⟩
set_option maxRecDepth 100000 in
theorem ykX6_greatestNumber : Yk yX6_greatestNumber cX6_greatestNumber 2 (some .int) 1 := ⟨gm 408 (by rfl) rfl, gm 22 (by decide +kernel) rfl, by decide +kernel⟩
set_option maxRecDepth 100000 in
theorem ykX6_ifPlayed : Yk yX6_ifPlayed cX6_ifPlayed 4 (some .int) 3 := ⟨gm 412 (by rfl) rfl, gm 22 (by decide +kernel) rfl, by decide +kernel⟩
set_option maxRecDepth 100000 in
theorem ykX6_isTurns : Yk yX6_isTurns cX6_isTurns 1 (some .boolean) 1 := ⟨gm 415 (by rfl) rfl, gm 22 (by decide +kernel) rfl, by decide +kernel⟩
set_option maxRecDepth 100000 in
theorem ykX1_doTurns : Yk yX1_doTurns cX1_doTurns 7 none 4 := ⟨gm 420 (by rfl) rfl, gm 29 (by decide +kernel) rfl, by decide +kernel⟩
set_option maxRecDepth 100000 in
theorem ykX1_begin : Yk yX1_begin cX1_begin 1 none 0 := ⟨gm 424 (by rfl) rfl, gm 29 (by decide +kernel) rfl, by decide +kernel⟩
set_option maxRecDepth 100000 in
theorem ykX1_doTurn : Yk yX1_doTurn cX1_doTurn 9 (some .boolean) 4 := ⟨gm 428 (by rfl) rfl, gm 29 (by decide +kernel) rfl, by decide +kernel⟩
set_option maxRecDepth 100000 in
theorem ykX6_inRange : Yk yX6_inRange cX6_inRange 2 (some .boolean) 2 := ⟨gm 434 (by rfl) rfl, gm 22 (by decide +kernel) rfl, by decide +kernel⟩
set_option maxRecDepth 100000 in
theorem ykX2_obey : Yk yX2_obey cX2_obey 4 (some .boolean) 2 := ⟨gm 438 (by rfl) rfl, gm 24 (by decide +kernel) rfl, by decide +kernel⟩
set_option maxRecDepth 100000 in
theorem ykX2_valueUnderHand : Yk yX2_valueUnderHand cX2_valueUnderHand 1 (some .int) 0 := ⟨gm 442 (by rfl) rfl, gm 24 (by decide +kernel) rfl, by decide +kernel⟩
set_option maxRecDepth 100000 in
theorem ykX2_put : Yk yX2_put cX2_put 3 none 2 := ⟨gm 447 (by rfl) rfl, gm 24 (by decide +kernel) rfl, by decide +kernel⟩
set_option maxRecDepth 100000 in
theorem ykX6_fits : Yk yX6_fits cX6_fits 7 (some .int) 2 := ⟨gm 451 (by rfl) rfl, gm 22 (by decide +kernel) rfl, by decide +kernel⟩
set_option maxRecDepth 100000 in
theorem ykX6_isTurn : Yk yX6_isTurn cX6_isTurn 7 (some .boolean) 4 := ⟨gm 455 (by rfl) rfl, gm 22 (by decide +kernel) rfl, by decide +kernel⟩
set_option maxRecDepth 100000 in
theorem ykL_refuses : Yk yL_refuses cL_refuses 5 (some .boolean) 2 := ⟨gm 458 (by rfl) rfl, gm 21 (by decide +kernel) rfl, by decide +kernel⟩
set_option maxRecDepth 100000 in
theorem ykL_refusesAny : Yk yL_refusesAny cL_refusesAny 6 (some .boolean) 2 := ⟨gm 461 (by rfl) rfl, gm 21 (by decide +kernel) rfl, by decide +kernel⟩
set_option maxRecDepth 100000 in
theorem ykX6_step : Yk yX6_step cX6_step 4 (some .int) 2 := ⟨gm 465 (by rfl) rfl, gm 22 (by decide +kernel) rfl, by decide +kernel⟩
set_option maxRecDepth 100000 in
theorem ykX6_isVerb : Yk yX6_isVerb cX6_isVerb 1 (some .boolean) 1 := ⟨gm 468 (by rfl) rfl, gm 22 (by decide +kernel) rfl, by decide +kernel⟩
set_option maxRecDepth 100000 in
theorem ykX4_obey : Yk yX4_obey cX4_obey 4 (some .boolean) 2 := ⟨gm 473 (by rfl) rfl, gm 23 (by decide +kernel) rfl, by decide +kernel⟩
set_option maxRecDepth 100000 in
theorem ykX3_append : Yk yX3_append cX3_append 7 none 4 := ⟨gm 478 (by rfl) rfl, gm 25 (by decide +kernel) rfl, by decide +kernel⟩
set_option maxRecDepth 100000 in
theorem ykX3_hasPlace : Yk yX3_hasPlace cX3_hasPlace 2 (some .boolean) 1 := ⟨gm 482 (by rfl) rfl, gm 25 (by decide +kernel) rfl, by decide +kernel⟩
set_option maxRecDepth 100000 in
theorem ykX6_record : Yk yX6_record cX6_record 1 (some .int) 0 := ⟨gm 487 (by rfl) rfl, gm 22 (by decide +kernel) rfl, by decide +kernel⟩
set_option maxRecDepth 100000 in
theorem ykX3_isFull : Yk yX3_isFull cX3_isFull 1 (some .boolean) 0 := ⟨gm 491 (by rfl) rfl, gm 25 (by decide +kernel) rfl, by decide +kernel⟩
set_option maxRecDepth 100000 in
theorem ykX3_emptyNext : Yk yX3_emptyNext cX3_emptyNext 1 none 0 := ⟨gm 495 (by rfl) rfl, gm 25 (by decide +kernel) rfl, by decide +kernel⟩
set_option maxRecDepth 100000 in
theorem ykX6_end : Yk yX6_end cX6_end 1 (some .int) 0 := ⟨gm 499 (by rfl) rfl, gm 22 (by decide +kernel) rfl, by decide +kernel⟩
set_option maxRecDepth 100000 in
theorem ykX3_keepNext : Yk yX3_keepNext cX3_keepNext 3 (some .int) 1 := ⟨gm 503 (by rfl) rfl, gm 25 (by decide +kernel) rfl, by decide +kernel⟩
set_option maxRecDepth 100000 in
theorem ykX3_giveTurns : Yk yX3_giveTurns cX3_giveTurns 3 none 2 := ⟨gm 507 (by rfl) rfl, gm 25 (by decide +kernel) rfl, by decide +kernel⟩
set_option maxRecDepth 100000 in
theorem ykX6_dropTry : Yk yX6_dropTry cX6_dropTry 2 (some .int) 1 := ⟨gm 512 (by rfl) rfl, gm 22 (by decide +kernel) rfl, by decide +kernel⟩
set_option maxRecDepth 100000 in
theorem ykX3_drop : Yk yX3_drop cX3_drop 2 none 1 := ⟨gm 516 (by rfl) rfl, gm 25 (by decide +kernel) rfl, by decide +kernel⟩
set_option maxRecDepth 100000 in
theorem ykX3_moveUp : Yk yX3_moveUp cX3_moveUp 5 none 3 := ⟨gm 520 (by rfl) rfl, gm 25 (by decide +kernel) rfl, by decide +kernel⟩
set_option maxRecDepth 100000 in
theorem ykX6_generalise : Yk yX6_generalise cX6_generalise 3 (some .int) 2 := ⟨gm 525 (by rfl) rfl, gm 22 (by decide +kernel) rfl, by decide +kernel⟩
set_option maxRecDepth 100000 in
theorem ykX6_makeLoop : Yk yX6_makeLoop cX6_makeLoop 11 (some .int) 5 := ⟨gm 529 (by rfl) rfl, gm 22 (by decide +kernel) rfl, by decide +kernel⟩
set_option maxRecDepth 100000 in
theorem ykX6_fold : Yk yX6_fold cX6_fold 3 (some .int) 1 := ⟨gm 533 (by rfl) rfl, gm 22 (by decide +kernel) rfl, by decide +kernel⟩
set_option maxRecDepth 100000 in
theorem ykX6_leastPeriod : Yk yX6_leastPeriod cX6_leastPeriod 4 (some .int) 1 := ⟨gm 537 (by rfl) rfl, gm 22 (by decide +kernel) rfl, by decide +kernel⟩
set_option maxRecDepth 100000 in
theorem ykX6_repeatsBy : Yk yX6_repeatsBy cX6_repeatsBy 6 (some .boolean) 2 := ⟨gm 541 (by rfl) rfl, gm 22 (by decide +kernel) rfl, by decide +kernel⟩
set_option maxRecDepth 100000 in
theorem ykX6_riseAt : Yk yX6_riseAt cX6_riseAt 4 (some .int) 3 := ⟨gm 545 (by rfl) rfl, gm 22 (by decide +kernel) rfl, by decide +kernel⟩
set_option maxRecDepth 100000 in
theorem ykX6_setTurns : Yk yX6_setTurns cX6_setTurns 4 (some .int) 2 := ⟨gm 549 (by rfl) rfl, gm 22 (by decide +kernel) rfl, by decide +kernel⟩
set_option maxRecDepth 100000 in
theorem ykX6_dropLoop : Yk yX6_dropLoop cX6_dropLoop 2 (some .int) 1 := ⟨gm 554 (by rfl) rfl, gm 22 (by decide +kernel) rfl, by decide +kernel⟩
set_option maxRecDepth 100000 in
theorem ykX6_play : Yk yX6_play cX6_play 2 (some .int) 1 := ⟨gm 558 (by rfl) rfl, gm 22 (by decide +kernel) rfl, by decide +kernel⟩
set_option maxRecDepth 100000 in
theorem ykX4_playLoop : Yk yX4_playLoop cX4_playLoop 4 (some .int) 3 := ⟨gm 562 (by rfl) rfl, gm 23 (by decide +kernel) rfl, by decide +kernel⟩
set_option maxRecDepth 100000 in
theorem ykX6_fewestTurns : Yk yX6_fewestTurns cX6_fewestTurns 6 (some .int) 3 := ⟨gm 568 (by rfl) rfl, gm 22 (by decide +kernel) rfl, by decide +kernel⟩
set_option maxRecDepth 100000 in
theorem ykX6_clearText : Yk yX6_clearText cX6_clearText 2 (some .int) 0 := ⟨gm 574 (by rfl) rfl, gm 22 (by decide +kernel) rfl, by decide +kernel⟩
set_option maxRecDepth 100000 in
theorem ykX6_perform : Yk yX6_perform cX6_perform 4 (some .int) 0 := ⟨gm 578 (by rfl) rfl, gm 22 (by decide +kernel) rfl, by decide +kernel⟩
set_option maxRecDepth 100000 in
theorem ykX5_read : Yk yX5_read cX5_read 2 (some .boolean) 0 := ⟨gm 582 (by rfl) rfl, gm 28 (by decide +kernel) rfl, by decide +kernel⟩
set_option maxRecDepth 100000 in
theorem ykX3_clear : Yk yX3_clear cX3_clear 1 none 0 := ⟨gm 586 (by rfl) rfl, gm 25 (by decide +kernel) rfl, by decide +kernel⟩
set_option maxRecDepth 100000 in
theorem ykX5_readItem : Yk yX5_readItem cX5_readItem 2 (some .boolean) 0 := ⟨gm 590 (by rfl) rfl, gm 28 (by decide +kernel) rfl, by decide +kernel⟩
set_option maxRecDepth 100000 in
theorem ykX5_next : Yk yX5_next cX5_next 1 (some .char) 0 := ⟨gm 595 (by rfl) rfl, gm 28 (by decide +kernel) rfl, by decide +kernel⟩
set_option maxRecDepth 100000 in
theorem ykX5_digitOf : Yk yX5_digitOf cX5_digitOf 1 (some .int) 1 := ⟨gm 598 (by rfl) rfl, gm 28 (by decide +kernel) rfl, by decide +kernel⟩
set_option maxRecDepth 100000 in
theorem ykX5_readStep : Yk yX5_readStep cX5_readStep 7 (some .boolean) 1 := ⟨gm 602 (by rfl) rfl, gm 28 (by decide +kernel) rfl, by decide +kernel⟩
set_option maxRecDepth 100000 in
theorem ykJ0_indexOf_0f7a4 : Yk yJ0_indexOf_0f7a4 cJ0_indexOf_0f7a4 2 (some .int) 1 := ⟨gm 607 (by rfl) rfl, gm 31 (by decide +kernel) rfl, by decide +kernel⟩
set_option maxRecDepth 100000 in
theorem ykJ0_indexOf_7cf53 : Yk yJ0_indexOf_7cf53 cJ0_indexOf_7cf53 3 (some .int) 2 := ⟨gm 611 (by rfl) rfl, gm 31 (by decide +kernel) rfl, by decide +kernel⟩
set_option maxRecDepth 100000 in
theorem ykJ0_isLatin1_aae02 : Yk yJ0_isLatin1_aae02 cJ0_isLatin1_aae02 1 (some .boolean) 0 := ⟨gm 615 (by rfl) rfl, gm 31 (by decide +kernel) rfl, by decide +kernel⟩
set_option maxRecDepth 100000 in
theorem ykJ0_length_8abf5 : Yk yJ0_length_8abf5 cJ0_length_8abf5 1 (some .int) 0 := ⟨gm 621 (by rfl) rfl, gm 31 (by decide +kernel) rfl, by decide +kernel⟩
set_option maxRecDepth 100000 in
theorem ykJ0_coder_7d493 : Yk yJ0_coder_7d493 cJ0_coder_7d493 1 (some .byte) 0 := ⟨gm 625 (by rfl) rfl, gm 31 (by decide +kernel) rfl, by decide +kernel⟩
set_option maxRecDepth 100000 in
theorem ykJ1_indexOf_4cfef : Yk yJ1_indexOf_4cfef cJ1_indexOf_4cfef 4 (some .int) 4 := ⟨gm 628 (by rfl) rfl, gm 32 (by decide +kernel) rfl, by decide +kernel⟩
set_option maxRecDepth 100000 in
theorem ykJ1_canEncode_9a6ad : Yk yJ1_canEncode_9a6ad cJ1_canEncode_9a6ad 1 (some .boolean) 1 := ⟨gm 631 (by rfl) rfl, gm 32 (by decide +kernel) rfl, by decide +kernel⟩
set_option maxRecDepth 100000 in
theorem ykJ1_indexOfChar_4cfef : Yk yJ1_indexOfChar_4cfef cJ1_indexOfChar_4cfef 6 (some .int) 4 := ⟨gm 636 (by rfl) rfl, gm 32 (by decide +kernel) rfl, by decide +kernel⟩
set_option maxRecDepth 100000 in
theorem ykJ2_indexOf_4cfef : Yk yJ2_indexOf_4cfef cJ2_indexOf_4cfef 4 (some .int) 4 := ⟨gm 639 (by rfl) rfl, gm 33 (by decide +kernel) rfl, by decide +kernel⟩
set_option maxRecDepth 100000 in
theorem ykJ2_indexOfChar_4cfef : Yk yJ2_indexOfChar_4cfef cJ2_indexOfChar_4cfef 4 (some .int) 4 := ⟨gm 645 (by rfl) rfl, gm 33 (by decide +kernel) rfl, by decide +kernel⟩
set_option maxRecDepth 100000 in
theorem ykJ2_checkBoundsBeginEnd_d044e : Yk yJ2_checkBoundsBeginEnd_d044e cJ2_checkBoundsBeginEnd_d044e 3 none 3 := ⟨gm 648 (by rfl) rfl, gm 33 (by decide +kernel) rfl, by decide +kernel⟩
set_option maxRecDepth 100000 in
theorem ykJ2_length_9d52b : Yk yJ2_length_9d52b cJ2_length_9d52b 1 (some .int) 1 := ⟨gm 651 (by rfl) rfl, gm 33 (by decide +kernel) rfl, by decide +kernel⟩
set_option maxRecDepth 100000 in
theorem ykJ0_checkBoundsBeginEnd_23922 : Yk yJ0_checkBoundsBeginEnd_23922 cJ0_checkBoundsBeginEnd_23922 3 none 3 := ⟨gm 654 (by rfl) rfl, gm 31 (by decide +kernel) rfl, by decide +kernel⟩
set_option maxRecDepth 100000 in
theorem ykJ3_checkFromToIndex_8c36e : Yk yJ3_checkFromToIndex_8c36e cJ3_checkFromToIndex_8c36e 4 (some .int) 4 := ⟨gm 659 (by rfl) rfl, gm 34 (by decide +kernel) rfl, by decide +kernel⟩
set_option maxRecDepth 100000 in
theorem ykJ2_indexOfCharUnsafe_4cfef : Yk yJ2_indexOfCharUnsafe_4cfef cJ2_indexOfCharUnsafe_4cfef 5 (some .int) 4 := ⟨gm 662 (by rfl) rfl, gm 33 (by decide +kernel) rfl, by decide +kernel⟩
set_option maxRecDepth 100000 in
theorem ykJ2_getChar_3b067 : Yk yJ2_getChar_3b067 cJ2_getChar_3b067 2 (some .char) 2 := ⟨gm 665 (by rfl) rfl, gm 33 (by decide +kernel) rfl, by decide +kernel⟩
set_option maxRecDepth 100000 in
theorem ykJ2_indexOfSupplementary_4cfef : Yk yJ2_indexOfSupplementary_4cfef cJ2_indexOfSupplementary_4cfef 7 (some .int) 4 := ⟨gm 674 (by rfl) rfl, gm 33 (by decide +kernel) rfl, by decide +kernel⟩
set_option maxRecDepth 100000 in
theorem ykJ11_isValidCodePoint_9a6ad : Yk yJ11_isValidCodePoint_9a6ad cJ11_isValidCodePoint_9a6ad 2 (some .boolean) 1 := ⟨gm 677 (by rfl) rfl, gm 35 (by decide +kernel) rfl, by decide +kernel⟩
set_option maxRecDepth 100000 in
theorem ykJ11_highSurrogate_5068e : Yk yJ11_highSurrogate_5068e cJ11_highSurrogate_5068e 1 (some .char) 1 := ⟨gm 680 (by rfl) rfl, gm 35 (by decide +kernel) rfl, by decide +kernel⟩
set_option maxRecDepth 100000 in
theorem ykJ11_lowSurrogate_5068e : Yk yJ11_lowSurrogate_5068e cJ11_lowSurrogate_5068e 1 (some .char) 1 := ⟨gm 684 (by rfl) rfl, gm 35 (by decide +kernel) rfl, by decide +kernel⟩
set_option maxRecDepth 100000 in
theorem ykX5_readNumber : Yk yX5_readNumber cX5_readNumber 5 (some .int) 2 := ⟨gm 690 (by rfl) rfl, gm 28 (by decide +kernel) rfl, by decide +kernel⟩
set_option maxRecDepth 100000 in
theorem ykX5_readBody : Yk yX5_readBody cX5_readBody 2 (some .boolean) 0 := ⟨gm 695 (by rfl) rfl, gm 28 (by decide +kernel) rfl, by decide +kernel⟩
set_option maxRecDepth 100000 in
theorem ykX5_take : Yk yX5_take cX5_take 2 (some .boolean) 1 := ⟨gm 699 (by rfl) rfl, gm 28 (by decide +kernel) rfl, by decide +kernel⟩
set_option maxRecDepth 100000 in
theorem ykL_act : Yk yL_act cL_act 9 (some .int) 2 := ⟨gm 704 (by rfl) rfl, gm 21 (by decide +kernel) rfl, by decide +kernel⟩
set_option maxRecDepth 100000 in
theorem ykL_step : Yk yL_step cL_step 13 (some .int) 3 := ⟨gm 707 (by rfl) rfl, gm 21 (by decide +kernel) rfl, by decide +kernel⟩
set_option maxRecDepth 100000 in
theorem ykL_loops : Yk yL_loops cL_loops 16 (some .int) 3 := ⟨gm 710 (by rfl) rfl, gm 21 (by decide +kernel) rfl, by decide +kernel⟩
theorem kL_105 : LkI RL 105 yX6_init := ⟨Or.inl (gm 38 (by decide +kernel) rfl), gm 39 (by decide +kernel) rfl, rfl⟩
theorem kX6_11 : LkI RX6 11 yX4_init := ⟨Or.inr ⟨"TryLoops", gn 46 (by decide +kernel) rfl⟩, gm 47 (by decide +kernel) rfl, rfl⟩
theorem kX4_11 : LkI RX4 11 yX2_init := ⟨Or.inr ⟨"TryLoops", gn 52 (by decide +kernel) rfl⟩, gm 53 (by decide +kernel) rfl, rfl⟩
theorem fX2_9 : FL RX2 9 2 0 (.array .int) true := ⟨RX2, TX2, tyX2, 2, ckX2, by decide, rfl, rfl, rfl, Or.inl (gm 56 (by decide +kernel) rfl)⟩
theorem fX2_15 : FL RX2 15 2 1 (.int) false := ⟨RX2, TX2, tyX2, 2, ckX2, by decide, rfl, rfl, rfl, Or.inl (gm 57 (by decide +kernel) rfl)⟩
theorem fX6_191 : FL RX6 191 2 1 (.int) false := ⟨RX2, TX2, tyX2, 2, ckX2, by decide, rfl, rfl, rfl, Or.inr ⟨"TryLoops", gn 58 (by decide +kernel) rfl⟩⟩
theorem kX4_20 : LkI RX4 20 yX3_init := ⟨Or.inl (gm 67 (by decide +kernel) rfl), gm 68 (by decide +kernel) rfl, rfl⟩
theorem kX3_7 : LkS RX3 7 yJ9_max_7cf53 := ⟨Or.inl (gm 71 (by decide +kernel) rfl), gm 72 (by decide +kernel) rfl⟩
theorem fX3_13 : FL RX3 13 3 0 (.int) true := ⟨RX3, TX3, tyX3, 7, ckX3, by decide, rfl, rfl, rfl, Or.inl (gm 74 (by decide +kernel) rfl)⟩
theorem fX3_19 : FL RX3 19 3 1 (.array .int) true := ⟨RX3, TX3, tyX3, 7, ckX3, by decide, rfl, rfl, rfl, Or.inl (gm 75 (by decide +kernel) rfl)⟩
theorem fX3_23 : FL RX3 23 3 2 (.array .int) true := ⟨RX3, TX3, tyX3, 7, ckX3, by decide, rfl, rfl, rfl, Or.inl (gm 76 (by decide +kernel) rfl)⟩
theorem fX3_26 : FL RX3 26 3 3 (.array .int) true := ⟨RX3, TX3, tyX3, 7, ckX3, by decide, rfl, rfl, rfl, Or.inl (gm 77 (by decide +kernel) rfl)⟩
theorem fX3_29 : FL RX3 29 3 4 (.array .int) true := ⟨RX3, TX3, tyX3, 7, ckX3, by decide, rfl, rfl, rfl, Or.inl (gm 78 (by decide +kernel) rfl)⟩
theorem fX3_32 : FL RX3 32 3 5 (.array .int) true := ⟨RX3, TX3, tyX3, 7, ckX3, by decide, rfl, rfl, rfl, Or.inl (gm 79 (by decide +kernel) rfl)⟩
theorem fX3_35 : FL RX3 35 3 6 (.int) false := ⟨RX3, TX3, tyX3, 7, ckX3, by decide, rfl, rfl, rfl, Or.inl (gm 80 (by decide +kernel) rfl)⟩
theorem fX4_34 : FL RX4 34 3 6 (.int) false := ⟨RX3, TX3, tyX3, 7, ckX3, by decide, rfl, rfl, rfl, Or.inr ⟨"TryLoops", gn 81 (by decide +kernel) rfl⟩⟩
theorem fX6_78 : FL RX6 78 3 6 (.int) false := ⟨RX3, TX3, tyX3, 7, ckX3, by decide, rfl, rfl, rfl, Or.inr ⟨"TryLoops", gn 82 (by decide +kernel) rfl⟩⟩
theorem fX5_78 : FL RX5 78 3 6 (.int) false := ⟨RX3, TX3, tyX3, 7, ckX3, by decide, rfl, rfl, rfl, Or.inr ⟨"TryLoops", gn 83 (by decide +kernel) rfl⟩⟩
theorem fX4_12 : FL RX4 12 4 0 (.object "TryLoops$Row") true := ⟨RX4, TX4, tyX4, 8, ckX4, by decide, rfl, rfl, rfl, Or.inl (gm 99 (by decide +kernel) rfl)⟩
theorem fX6_88 : FL RX6 88 4 0 (.object "TryLoops$Row") true := ⟨RX4, TX4, tyX4, 8, ckX4, by decide, rfl, rfl, rfl, Or.inr ⟨"TryLoops", gn 100 (by decide +kernel) rfl⟩⟩
theorem fX4_23 : FL RX4 23 4 1 (.object "TryLoops$Shelf") true := ⟨RX4, TX4, tyX4, 8, ckX4, by decide, rfl, rfl, rfl, Or.inl (gm 101 (by decide +kernel) rfl)⟩
theorem fX6_74 : FL RX6 74 4 1 (.object "TryLoops$Shelf") true := ⟨RX4, TX4, tyX4, 8, ckX4, by decide, rfl, rfl, rfl, Or.inr ⟨"TryLoops", gn 102 (by decide +kernel) rfl⟩⟩
theorem fX4_27 : FL RX4 27 4 2 (.object "TryLoops$Shelf") true := ⟨RX4, TX4, tyX4, 8, ckX4, by decide, rfl, rfl, rfl, Or.inl (gm 103 (by decide +kernel) rfl)⟩
theorem fX6_115 : FL RX6 115 4 2 (.object "TryLoops$Shelf") true := ⟨RX4, TX4, tyX4, 8, ckX4, by decide, rfl, rfl, rfl, Or.inr ⟨"TryLoops", gn 104 (by decide +kernel) rfl⟩⟩
theorem fX6_59 : FL RX6 59 4 3 (.boolean) false := ⟨RX4, TX4, tyX4, 8, ckX4, by decide, rfl, rfl, rfl, Or.inr ⟨"TryLoops", gn 105 (by decide +kernel) rfl⟩⟩
theorem fX4_76 : FL RX4 76 4 3 (.boolean) false := ⟨RX4, TX4, tyX4, 8, ckX4, by decide, rfl, rfl, rfl, Or.inl (gm 106 (by decide +kernel) rfl)⟩
theorem fX4_45 : FL RX4 45 4 4 (.int) false := ⟨RX4, TX4, tyX4, 8, ckX4, by decide, rfl, rfl, rfl, Or.inl (gm 107 (by decide +kernel) rfl)⟩
theorem fX6_197 : FL RX6 197 4 4 (.int) false := ⟨RX4, TX4, tyX4, 8, ckX4, by decide, rfl, rfl, rfl, Or.inr ⟨"TryLoops", gn 108 (by decide +kernel) rfl⟩⟩
theorem fX4_48 : FL RX4 48 4 5 (.int) false := ⟨RX4, TX4, tyX4, 8, ckX4, by decide, rfl, rfl, rfl, Or.inl (gm 109 (by decide +kernel) rfl)⟩
theorem fX6_200 : FL RX6 200 4 5 (.int) false := ⟨RX4, TX4, tyX4, 8, ckX4, by decide, rfl, rfl, rfl, Or.inr ⟨"TryLoops", gn 110 (by decide +kernel) rfl⟩⟩
theorem fX4_66 : FL RX4 66 4 6 (.int) false := ⟨RX4, TX4, tyX4, 8, ckX4, by decide, rfl, rfl, rfl, Or.inl (gm 111 (by decide +kernel) rfl)⟩
theorem fX6_203 : FL RX6 203 4 6 (.int) false := ⟨RX4, TX4, tyX4, 8, ckX4, by decide, rfl, rfl, rfl, Or.inr ⟨"TryLoops", gn 112 (by decide +kernel) rfl⟩⟩
theorem fX4_30 : FL RX4 30 4 7 (.int) false := ⟨RX4, TX4, tyX4, 8, ckX4, by decide, rfl, rfl, rfl, Or.inl (gm 113 (by decide +kernel) rfl)⟩
theorem fX6_206 : FL RX6 206 4 7 (.int) false := ⟨RX4, TX4, tyX4, 8, ckX4, by decide, rfl, rfl, rfl, Or.inr ⟨"TryLoops", gn 114 (by decide +kernel) rfl⟩⟩
theorem kX6_18 : LkI RX6 18 yX0_init := ⟨Or.inl (gm 134 (by decide +kernel) rfl), gm 135 (by decide +kernel) rfl, rfl⟩
theorem kX0_17 : LkI RX0 17 yX4_init := ⟨Or.inr ⟨"TryLoops", gn 140 (by decide +kernel) rfl⟩, gm 47 (by decide +kernel) rfl, rfl⟩
theorem fX0_11 : FL RX0 11 0 0 (.array (.object "TryLoops$State")) true := ⟨RX0, TX0, tyX0, 2, ckX0, by decide, rfl, rfl, rfl, Or.inl (gm 141 (by decide +kernel) rfl)⟩
theorem fX0_18 : FL RX0 18 0 1 (.int) false := ⟨RX0, TX0, tyX0, 2, ckX0, by decide, rfl, rfl, rfl, Or.inl (gm 142 (by decide +kernel) rfl)⟩
theorem fX6_168 : FL RX6 168 0 1 (.int) false := ⟨RX0, TX0, tyX0, 2, ckX0, by decide, rfl, rfl, rfl, Or.inr ⟨"TryLoops", gn 143 (by decide +kernel) rfl⟩⟩
theorem kX6_28 : LkI RX6 28 yX5_init := ⟨Or.inr ⟨"TryLoops", gn 151 (by decide +kernel) rfl⟩, gm 152 (by decide +kernel) rfl, rfl⟩
theorem kX5_17 : LkI RX5 17 yX3_init := ⟨Or.inl (gm 156 (by decide +kernel) rfl), gm 68 (by decide +kernel) rfl, rfl⟩
theorem fX5_9 : FL RX5 9 5 0 (.array .char) true := ⟨RX5, TX5, tyX5, 4, ckX5, by decide, rfl, rfl, rfl, Or.inl (gm 157 (by decide +kernel) rfl)⟩
theorem fX5_24 : FL RX5 24 5 1 (.int) false := ⟨RX5, TX5, tyX5, 4, ckX5, by decide, rfl, rfl, rfl, Or.inl (gm 158 (by decide +kernel) rfl)⟩
theorem fX6_145 : FL RX6 145 5 1 (.int) false := ⟨RX5, TX5, tyX5, 4, ckX5, by decide, rfl, rfl, rfl, Or.inr ⟨"TryLoops", gn 159 (by decide +kernel) rfl⟩⟩
theorem fX5_28 : FL RX5 28 5 2 (.int) false := ⟨RX5, TX5, tyX5, 4, ckX5, by decide, rfl, rfl, rfl, Or.inl (gm 160 (by decide +kernel) rfl)⟩
theorem fX6_151 : FL RX6 151 5 2 (.int) false := ⟨RX5, TX5, tyX5, 4, ckX5, by decide, rfl, rfl, rfl, Or.inr ⟨"TryLoops", gn 161 (by decide +kernel) rfl⟩⟩
theorem fX5_20 : FL RX5 20 5 3 (.object "TryLoops$Shelf") true := ⟨RX5, TX5, tyX5, 4, ckX5, by decide, rfl, rfl, rfl, Or.inl (gm 162 (by decide +kernel) rfl)⟩
theorem fX6_154 : FL RX6 154 5 3 (.object "TryLoops$Shelf") true := ⟨RX5, TX5, tyX5, 4, ckX5, by decide, rfl, rfl, rfl, Or.inr ⟨"TryLoops", gn 163 (by decide +kernel) rfl⟩⟩
theorem kX6_35 : LkI RX6 35 yX1_init := ⟨Or.inr ⟨"TryLoops", gn 176 (by decide +kernel) rfl⟩, gm 177 (by decide +kernel) rfl, rfl⟩
theorem fX1_9 : FL RX1 9 1 0 (.int) false := ⟨RX1, TX1, tyX1, 3, ckX1, by decide, rfl, rfl, rfl, Or.inl (gm 180 (by decide +kernel) rfl)⟩
theorem fX4_60 : FL RX4 60 1 0 (.int) false := ⟨RX1, TX1, tyX1, 3, ckX1, by decide, rfl, rfl, rfl, Or.inr ⟨"TryLoops", gn 181 (by decide +kernel) rfl⟩⟩
theorem fX6_233 : FL RX6 233 1 0 (.int) false := ⟨RX1, TX1, tyX1, 3, ckX1, by decide, rfl, rfl, rfl, Or.inr ⟨"TryLoops", gn 182 (by decide +kernel) rfl⟩⟩
theorem fX1_15 : FL RX1 15 1 1 (.int) false := ⟨RX1, TX1, tyX1, 3, ckX1, by decide, rfl, rfl, rfl, Or.inl (gm 183 (by decide +kernel) rfl)⟩
theorem fX6_239 : FL RX6 239 1 1 (.int) false := ⟨RX1, TX1, tyX1, 3, ckX1, by decide, rfl, rfl, rfl, Or.inr ⟨"TryLoops", gn 184 (by decide +kernel) rfl⟩⟩
theorem fX1_18 : FL RX1 18 1 2 (.int) false := ⟨RX1, TX1, tyX1, 3, ckX1, by decide, rfl, rfl, rfl, Or.inl (gm 185 (by decide +kernel) rfl)⟩
theorem fX4_63 : FL RX4 63 1 2 (.int) false := ⟨RX1, TX1, tyX1, 3, ckX1, by decide, rfl, rfl, rfl, Or.inr ⟨"TryLoops", gn 186 (by decide +kernel) rfl⟩⟩
theorem fX6_236 : FL RX6 236 1 2 (.int) false := ⟨RX1, TX1, tyX1, 3, ckX1, by decide, rfl, rfl, rfl, Or.inr ⟨"TryLoops", gn 187 (by decide +kernel) rfl⟩⟩
theorem kX6_42 : LkI RX6 42 yX2_init := ⟨Or.inr ⟨"TryLoops", gn 196 (by decide +kernel) rfl⟩, gm 53 (by decide +kernel) rfl, rfl⟩
theorem fX6_12 : FL RX6 12 6 0 (.object "TryLoops$State") true := ⟨RX6, TX6, tyX6, 8, ckX6, by decide, rfl, rfl, rfl, Or.inl (gm 197 (by decide +kernel) rfl)⟩
theorem fX6_19 : FL RX6 19 6 1 (.object "TryLoops$History") true := ⟨RX6, TX6, tyX6, 8, ckX6, by decide, rfl, rfl, rfl, Or.inl (gm 198 (by decide +kernel) rfl)⟩
theorem fX6_23 : FL RX6 23 6 2 (.object "TryLoops$State") true := ⟨RX6, TX6, tyX6, 8, ckX6, by decide, rfl, rfl, rfl, Or.inl (gm 199 (by decide +kernel) rfl)⟩
theorem fX6_172 : FL RX6 172 6 3 (.boolean) false := ⟨RX6, TX6, tyX6, 8, ckX6, by decide, rfl, rfl, rfl, Or.inl (gm 200 (by decide +kernel) rfl)⟩
theorem fX6_29 : FL RX6 29 6 4 (.object "TryLoops$Text") true := ⟨RX6, TX6, tyX6, 8, ckX6, by decide, rfl, rfl, rfl, Or.inl (gm 201 (by decide +kernel) rfl)⟩
theorem fX6_36 : FL RX6 36 6 5 (.object "TryLoops$Play") true := ⟨RX6, TX6, tyX6, 8, ckX6, by decide, rfl, rfl, rfl, Or.inl (gm 202 (by decide +kernel) rfl)⟩
theorem fX6_43 : FL RX6 43 6 6 (.object "TryLoops$Row") true := ⟨RX6, TX6, tyX6, 8, ckX6, by decide, rfl, rfl, rfl, Or.inl (gm 203 (by decide +kernel) rfl)⟩
theorem fX6_47 : FL RX6 47 6 7 (.array .int) true := ⟨RX6, TX6, tyX6, 8, ckX6, by decide, rfl, rfl, rfl, Or.inl (gm 204 (by decide +kernel) rfl)⟩
theorem kL_106 : LkV RL 106 yX6_undo := ⟨Or.inl (gm 222 (by decide +kernel) rfl), gm 223 (by decide +kernel) rfl, gm 224 (by decide +kernel) rfl⟩
theorem kX6_164 : LkV RX6 164 yX0_pop := ⟨Or.inl (gm 226 (by decide +kernel) rfl), gm 227 (by decide +kernel) rfl, gm 228 (by decide +kernel) rfl⟩
theorem kX0_25 : LkV RX0 25 yX4_copyFrom := ⟨Or.inl (gm 230 (by decide +kernel) rfl), gm 231 (by decide +kernel) rfl, gm 232 (by decide +kernel) rfl⟩
theorem kX4_69 : LkV RX4 69 yX2_copyFrom := ⟨Or.inl (gm 234 (by decide +kernel) rfl), gm 235 (by decide +kernel) rfl, gm 236 (by decide +kernel) rfl⟩
theorem kX2_23 : LkS RX2 23 yX6_copyNumbers := ⟨Or.inr ⟨"TryLoops", gn 238 (by decide +kernel) rfl⟩, gm 239 (by decide +kernel) rfl⟩
theorem kX6_255 : LkS RX6 255 yJ9_min_7cf53 := ⟨Or.inl (gm 241 (by decide +kernel) rfl), gm 242 (by decide +kernel) rfl⟩
theorem kX4_73 : LkV RX4 73 yX3_copyFrom := ⟨Or.inl (gm 247 (by decide +kernel) rfl), gm 248 (by decide +kernel) rfl, gm 249 (by decide +kernel) rfl⟩
theorem kX3_74 : LkS RX3 74 yX6_copyNumbers := ⟨Or.inr ⟨"TryLoops", gn 251 (by decide +kernel) rfl⟩, gm 239 (by decide +kernel) rfl⟩
theorem kL_115 : LkV RL 115 yX6_keep := ⟨Or.inl (gm 252 (by decide +kernel) rfl), gm 253 (by decide +kernel) rfl, gm 254 (by decide +kernel) rfl⟩
theorem kX6_169 : LkV RX6 169 yX4_copyFrom := ⟨Or.inl (gm 256 (by decide +kernel) rfl), gm 231 (by decide +kernel) rfl, gm 232 (by decide +kernel) rfl⟩
theorem kL_109 : LkV RL 109 yX6_restore := ⟨Or.inl (gm 257 (by decide +kernel) rfl), gm 258 (by decide +kernel) rfl, gm 259 (by decide +kernel) rfl⟩
theorem kX6_67 : LkV RX6 67 yX0_push := ⟨Or.inl (gm 261 (by decide +kernel) rfl), gm 262 (by decide +kernel) rfl, gm 263 (by decide +kernel) rfl⟩
theorem kX0_22 : LkV RX0 22 yX0_dropOldest := ⟨Or.inl (gm 265 (by decide +kernel) rfl), gm 267 (by decide +kernel) rfl, gm 0 (by decide +kernel) rfl⟩
theorem kL_20 : LkV RL 20 yX6_total := ⟨Or.inl (gm 269 (by decide +kernel) rfl), gm 270 (by decide +kernel) rfl, gm 271 (by decide +kernel) rfl⟩
theorem kX6_194 : LkV RX6 194 yX2_sum := ⟨Or.inl (gm 273 (by decide +kernel) rfl), gm 274 (by decide +kernel) rfl, gm 275 (by decide +kernel) rfl⟩
theorem kX6_63 : LkV RX6 63 yX4_openSize := ⟨Or.inl (gm 277 (by decide +kernel) rfl), gm 278 (by decide +kernel) rfl, gm 279 (by decide +kernel) rfl⟩
theorem kX4_37 : LkV RX4 37 yX3_sizeOf := ⟨Or.inl (gm 281 (by decide +kernel) rfl), gm 282 (by decide +kernel) rfl, gm 283 (by decide +kernel) rfl⟩
theorem kX6_209 : LkV RX6 209 yX6_countVerbRows := ⟨Or.inl (gm 285 (by decide +kernel) rfl), gm 287 (by decide +kernel) rfl, gm 1 (by decide +kernel) rfl⟩
theorem kX6_252 : LkV RX6 252 yX3_haveSameVerbs := ⟨Or.inl (gm 289 (by decide +kernel) rfl), gm 290 (by decide +kernel) rfl, gm 291 (by decide +kernel) rfl⟩
theorem kX3_38 : LkV RX3 38 yX3_sizeOf := ⟨Or.inl (gm 293 (by decide +kernel) rfl), gm 282 (by decide +kernel) rfl, gm 283 (by decide +kernel) rfl⟩
theorem kX3_52 : LkV RX3 52 yX3_verbAt := ⟨Or.inl (gm 294 (by decide +kernel) rfl), gm 295 (by decide +kernel) rfl, gm 296 (by decide +kernel) rfl⟩
theorem kX3_42 : LkV RX3 42 yX3_look := ⟨Or.inl (gm 298 (by decide +kernel) rfl), gm 300 (by decide +kernel) rfl, gm 2 (by decide +kernel) rfl⟩
theorem kL_118 : LkS RL 118 yL_cell := ⟨Or.inl (gm 302 (by decide +kernel) rfl), gm 303 (by decide +kernel) rfl⟩
theorem kL_91 : LkS RL 91 yL_seen := ⟨Or.inl (gm 308 (by decide +kernel) rfl), gm 309 (by decide +kernel) rfl⟩
theorem kL_14 : LkV RL 14 yX6_cell := ⟨Or.inl (gm 313 (by decide +kernel) rfl), gm 314 (by decide +kernel) rfl, gm 315 (by decide +kernel) rfl⟩
theorem kX6_175 : LkS RX6 175 yX6_isCell := ⟨Or.inl (gm 317 (by decide +kernel) rfl), gm 318 (by decide +kernel) rfl⟩
theorem kX6_178 : LkV RX6 178 yX2_valueAt := ⟨Or.inl (gm 320 (by decide +kernel) rfl), gm 321 (by decide +kernel) rfl, gm 322 (by decide +kernel) rfl⟩
theorem kL_23 : LkV RL 23 yX6_ofTry := ⟨Or.inl (gm 324 (by decide +kernel) rfl), gm 325 (by decide +kernel) rfl, gm 326 (by decide +kernel) rfl⟩
theorem kX6_105 : LkV RX6 105 yX3_holds := ⟨Or.inl (gm 328 (by decide +kernel) rfl), gm 329 (by decide +kernel) rfl, gm 330 (by decide +kernel) rfl⟩
theorem kX6_181 : LkV RX6 181 yX3_hasStep := ⟨Or.inl (gm 332 (by decide +kernel) rfl), gm 333 (by decide +kernel) rfl, gm 334 (by decide +kernel) rfl⟩
theorem kX6_157 : LkV RX6 157 yX3_verbAt := ⟨Or.inl (gm 336 (by decide +kernel) rfl), gm 295 (by decide +kernel) rfl, gm 296 (by decide +kernel) rfl⟩
theorem kX6_161 : LkV RX6 161 yX3_numberAt := ⟨Or.inl (gm 337 (by decide +kernel) rfl), gm 338 (by decide +kernel) rfl, gm 339 (by decide +kernel) rfl⟩
theorem kL_27 : LkV RL 27 yX6_length := ⟨Or.inl (gm 341 (by decide +kernel) rfl), gm 342 (by decide +kernel) rfl, gm 343 (by decide +kernel) rfl⟩
theorem kX6_118 : LkV RX6 118 yX3_sizeOf := ⟨Or.inl (gm 345 (by decide +kernel) rfl), gm 282 (by decide +kernel) rfl, gm 283 (by decide +kernel) rfl⟩
theorem kX6_131 : LkV RX6 131 yX3_turnsOf := ⟨Or.inl (gm 346 (by decide +kernel) rfl), gm 347 (by decide +kernel) rfl, gm 348 (by decide +kernel) rfl⟩
theorem kL_31 : LkV RL 31 yX6_ofLoop := ⟨Or.inl (gm 350 (by decide +kernel) rfl), gm 351 (by decide +kernel) rfl, gm 352 (by decide +kernel) rfl⟩
theorem kX6_184 : LkV RX6 184 yX3_strideAt := ⟨Or.inl (gm 354 (by decide +kernel) rfl), gm 355 (by decide +kernel) rfl, gm 356 (by decide +kernel) rfl⟩
theorem kX6_187 : LkV RX6 187 yX3_numberInTurn := ⟨Or.inl (gm 358 (by decide +kernel) rfl), gm 359 (by decide +kernel) rfl, gm 360 (by decide +kernel) rfl⟩
theorem kX3_46 : LkV RX3 46 yX3_numberAt := ⟨Or.inl (gm 362 (by decide +kernel) rfl), gm 338 (by decide +kernel) rfl, gm 339 (by decide +kernel) rfl⟩
theorem kX3_49 : LkV RX3 49 yX3_strideAt := ⟨Or.inl (gm 363 (by decide +kernel) rfl), gm 355 (by decide +kernel) rfl, gm 356 (by decide +kernel) rfl⟩
theorem kL_125 : LkS RL 125 yL_areTries := ⟨Or.inl (gm 364 (by decide +kernel) rfl), gm 365 (by decide +kernel) rfl⟩
theorem kL_36 : LkV RL 36 yX6_alike := ⟨Or.inl (gm 367 (by decide +kernel) rfl), gm 368 (by decide +kernel) rfl, gm 369 (by decide +kernel) rfl⟩
theorem kX6_212 : LkV RX6 212 yX6_countCommon := ⟨Or.inl (gm 371 (by decide +kernel) rfl), gm 373 (by decide +kernel) rfl, gm 3 (by decide +kernel) rfl⟩
theorem kX6_260 : LkV RX6 260 yX6_areAlike := ⟨Or.inl (gm 375 (by decide +kernel) rfl), gm 377 (by decide +kernel) rfl, gm 4 (by decide +kernel) rfl⟩
theorem kX6_264 : LkS RX6 264 yJ9_max_7cf53 := ⟨Or.inl (gm 379 (by decide +kernel) rfl), gm 72 (by decide +kernel) rfl⟩
theorem kL_39 : LkS RL 39 yL_greatest := ⟨Or.inl (gm 380 (by decide +kernel) rfl), gm 381 (by decide +kernel) rfl⟩
theorem kL_42 : LkV RL 42 yX6_bestPair := ⟨Or.inl (gm 383 (by decide +kernel) rfl), gm 384 (by decide +kernel) rfl, gm 385 (by decide +kernel) rfl⟩
theorem kX6_112 : LkV RX6 112 yX6_canGeneralise := ⟨Or.inl (gm 387 (by decide +kernel) rfl), gm 389 (by decide +kernel) rfl, gm 5 (by decide +kernel) rfl⟩
theorem kX6_216 : LkV RX6 216 yX6_countZeroStrides := ⟨Or.inl (gm 391 (by decide +kernel) rfl), gm 393 (by decide +kernel) rfl, gm 6 (by decide +kernel) rfl⟩
theorem kL_129 : LkS RL 129 yL_areLoops := ⟨Or.inl (gm 395 (by decide +kernel) rfl), gm 396 (by decide +kernel) rfl⟩
theorem kL_45 : LkV RL 45 yX6_mostTurns := ⟨Or.inl (gm 398 (by decide +kernel) rfl), gm 399 (by decide +kernel) rfl, gm 400 (by decide +kernel) rfl⟩
theorem kX6_223 : LkV RX6 223 yX6_turnsInRange := ⟨Or.inl (gm 402 (by decide +kernel) rfl), gm 404 (by decide +kernel) rfl, gm 7 (by decide +kernel) rfl⟩
theorem kX6_249 : LkS RX6 249 yX6_greatestNumber := ⟨Or.inl (gm 406 (by decide +kernel) rfl), gm 407 (by decide +kernel) rfl⟩
theorem kL_48 : LkV RL 48 yX6_ifPlayed := ⟨Or.inl (gm 409 (by decide +kernel) rfl), gm 410 (by decide +kernel) rfl, gm 411 (by decide +kernel) rfl⟩
theorem kX6_128 : LkS RX6 128 yX6_isTurns := ⟨Or.inl (gm 413 (by decide +kernel) rfl), gm 414 (by decide +kernel) rfl⟩
theorem kX6_226 : LkV RX6 226 yX2_copyFrom := ⟨Or.inl (gm 416 (by decide +kernel) rfl), gm 235 (by decide +kernel) rfl, gm 236 (by decide +kernel) rfl⟩
theorem kX6_229 : LkV RX6 229 yX1_doTurns := ⟨Or.inl (gm 417 (by decide +kernel) rfl), gm 418 (by decide +kernel) rfl, gm 419 (by decide +kernel) rfl⟩
theorem kX1_21 : LkV RX1 21 yX1_begin := ⟨Or.inl (gm 421 (by decide +kernel) rfl), gm 422 (by decide +kernel) rfl, gm 423 (by decide +kernel) rfl⟩
theorem kX1_24 : LkV RX1 24 yX1_doTurn := ⟨Or.inl (gm 425 (by decide +kernel) rfl), gm 426 (by decide +kernel) rfl, gm 427 (by decide +kernel) rfl⟩
theorem kX1_28 : LkV RX1 28 yX3_sizeOf := ⟨Or.inl (gm 429 (by decide +kernel) rfl), gm 282 (by decide +kernel) rfl, gm 283 (by decide +kernel) rfl⟩
theorem kX1_34 : LkV RX1 34 yX3_verbAt := ⟨Or.inl (gm 430 (by decide +kernel) rfl), gm 295 (by decide +kernel) rfl, gm 296 (by decide +kernel) rfl⟩
theorem kX1_38 : LkV RX1 38 yX3_numberInTurn := ⟨Or.inl (gm 431 (by decide +kernel) rfl), gm 359 (by decide +kernel) rfl, gm 360 (by decide +kernel) rfl⟩
theorem kX1_42 : LkS RX1 42 yX6_inRange := ⟨Or.inr ⟨"TryLoops", gn 432 (by decide +kernel) rfl⟩, gm 433 (by decide +kernel) rfl⟩
theorem kX1_46 : LkV RX1 46 yX2_obey := ⟨Or.inl (gm 435 (by decide +kernel) rfl), gm 436 (by decide +kernel) rfl, gm 437 (by decide +kernel) rfl⟩
theorem kX2_27 : LkV RX2 27 yX2_valueUnderHand := ⟨Or.inl (gm 439 (by decide +kernel) rfl), gm 440 (by decide +kernel) rfl, gm 441 (by decide +kernel) rfl⟩
theorem kX2_19 : LkV RX2 19 yX2_valueAt := ⟨Or.inl (gm 443 (by decide +kernel) rfl), gm 321 (by decide +kernel) rfl, gm 322 (by decide +kernel) rfl⟩
theorem kX2_31 : LkV RX2 31 yX2_put := ⟨Or.inl (gm 444 (by decide +kernel) rfl), gm 446 (by decide +kernel) rfl, gm 8 (by decide +kernel) rfl⟩
theorem kL_51 : LkV RL 51 yX6_fits := ⟨Or.inl (gm 448 (by decide +kernel) rfl), gm 449 (by decide +kernel) rfl, gm 450 (by decide +kernel) rfl⟩
theorem kX6_219 : LkV RX6 219 yX6_isTurn := ⟨Or.inl (gm 452 (by decide +kernel) rfl), gm 454 (by decide +kernel) rfl, gm 9 (by decide +kernel) rfl⟩
theorem kL_112 : LkS RL 112 yL_refuses := ⟨Or.inl (gm 456 (by decide +kernel) rfl), gm 457 (by decide +kernel) rfl⟩
theorem kL_95 : LkS RL 95 yL_refusesAny := ⟨Or.inl (gm 459 (by decide +kernel) rfl), gm 460 (by decide +kernel) rfl⟩
theorem kL_54 : LkV RL 54 yX6_step := ⟨Or.inl (gm 462 (by decide +kernel) rfl), gm 463 (by decide +kernel) rfl, gm 464 (by decide +kernel) rfl⟩
theorem kX6_51 : LkS RX6 51 yX6_isVerb := ⟨Or.inl (gm 466 (by decide +kernel) rfl), gm 467 (by decide +kernel) rfl⟩
theorem kX6_55 : LkS RX6 55 yX6_inRange := ⟨Or.inl (gm 469 (by decide +kernel) rfl), gm 433 (by decide +kernel) rfl⟩
theorem kX6_71 : LkV RX6 71 yX4_obey := ⟨Or.inl (gm 470 (by decide +kernel) rfl), gm 471 (by decide +kernel) rfl, gm 472 (by decide +kernel) rfl⟩
theorem kX4_41 : LkV RX4 41 yX2_obey := ⟨Or.inl (gm 474 (by decide +kernel) rfl), gm 436 (by decide +kernel) rfl, gm 437 (by decide +kernel) rfl⟩
theorem kX6_84 : LkV RX6 84 yX3_append := ⟨Or.inl (gm 475 (by decide +kernel) rfl), gm 476 (by decide +kernel) rfl, gm 477 (by decide +kernel) rfl⟩
theorem kX3_55 : LkV RX3 55 yX3_hasPlace := ⟨Or.inl (gm 479 (by decide +kernel) rfl), gm 481 (by decide +kernel) rfl, gm 10 (by decide +kernel) rfl⟩
theorem kX6_91 : LkV RX6 91 yX2_valueUnderHand := ⟨Or.inl (gm 483 (by decide +kernel) rfl), gm 440 (by decide +kernel) rfl, gm 441 (by decide +kernel) rfl⟩
theorem kL_57 : LkV RL 57 yX6_record := ⟨Or.inl (gm 484 (by decide +kernel) rfl), gm 485 (by decide +kernel) rfl, gm 486 (by decide +kernel) rfl⟩
theorem kX6_94 : LkV RX6 94 yX3_isFull := ⟨Or.inl (gm 488 (by decide +kernel) rfl), gm 489 (by decide +kernel) rfl, gm 490 (by decide +kernel) rfl⟩
theorem kX6_98 : LkV RX6 98 yX3_emptyNext := ⟨Or.inl (gm 492 (by decide +kernel) rfl), gm 493 (by decide +kernel) rfl, gm 494 (by decide +kernel) rfl⟩
theorem kL_61 : LkV RL 61 yX6_end := ⟨Or.inl (gm 496 (by decide +kernel) rfl), gm 497 (by decide +kernel) rfl, gm 498 (by decide +kernel) rfl⟩
theorem kX6_101 : LkV RX6 101 yX3_keepNext := ⟨Or.inl (gm 500 (by decide +kernel) rfl), gm 501 (by decide +kernel) rfl, gm 502 (by decide +kernel) rfl⟩
theorem kX3_59 : LkV RX3 59 yX3_giveTurns := ⟨Or.inl (gm 504 (by decide +kernel) rfl), gm 505 (by decide +kernel) rfl, gm 506 (by decide +kernel) rfl⟩
theorem kX3_63 : LkV RX3 63 yX3_isFull := ⟨Or.inl (gm 508 (by decide +kernel) rfl), gm 489 (by decide +kernel) rfl, gm 490 (by decide +kernel) rfl⟩
theorem kL_64 : LkV RL 64 yX6_dropTry := ⟨Or.inl (gm 509 (by decide +kernel) rfl), gm 510 (by decide +kernel) rfl, gm 511 (by decide +kernel) rfl⟩
theorem kX6_108 : LkV RX6 108 yX3_drop := ⟨Or.inl (gm 513 (by decide +kernel) rfl), gm 514 (by decide +kernel) rfl, gm 515 (by decide +kernel) rfl⟩
theorem kX3_67 : LkV RX3 67 yX3_holds := ⟨Or.inl (gm 517 (by decide +kernel) rfl), gm 329 (by decide +kernel) rfl, gm 330 (by decide +kernel) rfl⟩
theorem kX3_70 : LkS RX3 70 yX3_moveUp := ⟨Or.inl (gm 518 (by decide +kernel) rfl), gm 519 (by decide +kernel) rfl⟩
theorem kL_67 : LkV RL 67 yX6_generalise := ⟨Or.inl (gm 522 (by decide +kernel) rfl), gm 523 (by decide +kernel) rfl, gm 524 (by decide +kernel) rfl⟩
theorem kX6_121 : LkV RX6 121 yX6_makeLoop := ⟨Or.inl (gm 526 (by decide +kernel) rfl), gm 528 (by decide +kernel) rfl, gm 11 (by decide +kernel) rfl⟩
theorem kL_70 : LkV RL 70 yX6_fold := ⟨Or.inl (gm 530 (by decide +kernel) rfl), gm 531 (by decide +kernel) rfl, gm 532 (by decide +kernel) rfl⟩
theorem kX6_125 : LkV RX6 125 yX6_leastPeriod := ⟨Or.inl (gm 534 (by decide +kernel) rfl), gm 536 (by decide +kernel) rfl, gm 12 (by decide +kernel) rfl⟩
theorem kX6_267 : LkV RX6 267 yX6_repeatsBy := ⟨Or.inl (gm 538 (by decide +kernel) rfl), gm 540 (by decide +kernel) rfl, gm 13 (by decide +kernel) rfl⟩
theorem kX6_270 : LkV RX6 270 yX6_riseAt := ⟨Or.inl (gm 542 (by decide +kernel) rfl), gm 544 (by decide +kernel) rfl, gm 14 (by decide +kernel) rfl⟩
theorem kL_73 : LkV RL 73 yX6_setTurns := ⟨Or.inl (gm 546 (by decide +kernel) rfl), gm 547 (by decide +kernel) rfl, gm 548 (by decide +kernel) rfl⟩
theorem kX6_134 : LkV RX6 134 yX3_giveTurns := ⟨Or.inl (gm 550 (by decide +kernel) rfl), gm 505 (by decide +kernel) rfl, gm 506 (by decide +kernel) rfl⟩
theorem kL_76 : LkV RL 76 yX6_dropLoop := ⟨Or.inl (gm 551 (by decide +kernel) rfl), gm 552 (by decide +kernel) rfl, gm 553 (by decide +kernel) rfl⟩
theorem kL_79 : LkV RL 79 yX6_play := ⟨Or.inl (gm 555 (by decide +kernel) rfl), gm 556 (by decide +kernel) rfl, gm 557 (by decide +kernel) rfl⟩
theorem kX6_138 : LkV RX6 138 yX4_playLoop := ⟨Or.inl (gm 559 (by decide +kernel) rfl), gm 560 (by decide +kernel) rfl, gm 561 (by decide +kernel) rfl⟩
theorem kX4_51 : LkV RX4 51 yX3_turnsOf := ⟨Or.inl (gm 563 (by decide +kernel) rfl), gm 347 (by decide +kernel) rfl, gm 348 (by decide +kernel) rfl⟩
theorem kX4_54 : LkV RX4 54 yX1_doTurns := ⟨Or.inl (gm 564 (by decide +kernel) rfl), gm 418 (by decide +kernel) rfl, gm 419 (by decide +kernel) rfl⟩
theorem kL_82 : LkV RL 82 yX6_fewestTurns := ⟨Or.inl (gm 565 (by decide +kernel) rfl), gm 566 (by decide +kernel) rfl, gm 567 (by decide +kernel) rfl⟩
theorem kX6_242 : LkV RX6 242 yX1_begin := ⟨Or.inl (gm 569 (by decide +kernel) rfl), gm 422 (by decide +kernel) rfl, gm 423 (by decide +kernel) rfl⟩
theorem kX6_245 : LkV RX6 245 yX1_doTurn := ⟨Or.inl (gm 570 (by decide +kernel) rfl), gm 426 (by decide +kernel) rfl, gm 427 (by decide +kernel) rfl⟩
theorem kL_85 : LkV RL 85 yX6_clearText := ⟨Or.inl (gm 571 (by decide +kernel) rfl), gm 572 (by decide +kernel) rfl, gm 573 (by decide +kernel) rfl⟩
theorem kL_88 : LkV RL 88 yX6_perform := ⟨Or.inl (gm 575 (by decide +kernel) rfl), gm 576 (by decide +kernel) rfl, gm 577 (by decide +kernel) rfl⟩
theorem kX6_148 : LkV RX6 148 yX5_read := ⟨Or.inl (gm 579 (by decide +kernel) rfl), gm 580 (by decide +kernel) rfl, gm 581 (by decide +kernel) rfl⟩
theorem kX5_31 : LkV RX5 31 yX3_clear := ⟨Or.inl (gm 583 (by decide +kernel) rfl), gm 584 (by decide +kernel) rfl, gm 585 (by decide +kernel) rfl⟩
theorem kX5_34 : LkV RX5 34 yX5_readItem := ⟨Or.inl (gm 587 (by decide +kernel) rfl), gm 589 (by decide +kernel) rfl, gm 15 (by decide +kernel) rfl⟩
theorem kX5_42 : LkV RX5 42 yX3_emptyNext := ⟨Or.inl (gm 591 (by decide +kernel) rfl), gm 493 (by decide +kernel) rfl, gm 494 (by decide +kernel) rfl⟩
theorem kX5_45 : LkV RX5 45 yX5_next := ⟨Or.inl (gm 592 (by decide +kernel) rfl), gm 594 (by decide +kernel) rfl, gm 16 (by decide +kernel) rfl⟩
theorem kX5_49 : LkS RX5 49 yX5_digitOf := ⟨Or.inl (gm 596 (by decide +kernel) rfl), gm 597 (by decide +kernel) rfl⟩
theorem kX5_53 : LkV RX5 53 yX5_readStep := ⟨Or.inl (gm 599 (by decide +kernel) rfl), gm 601 (by decide +kernel) rfl, gm 17 (by decide +kernel) rfl⟩
theorem kX5_70 : LkV RX5 70 yJ0_indexOf_0f7a4 := ⟨Or.inl (gm 604 (by decide +kernel) rfl), gm 605 (by decide +kernel) rfl, gm 606 (by decide +kernel) rfl⟩
theorem kJ0_633 : LkV RJ0 633 yJ0_indexOf_7cf53 := ⟨Or.inl (gm 608 (by decide +kernel) rfl), gm 609 (by decide +kernel) rfl, gm 610 (by decide +kernel) rfl⟩
theorem kJ0_492 : LkV RJ0 492 yJ0_isLatin1_aae02 := ⟨Or.inl (gm 612 (by decide +kernel) rfl), gm 613 (by decide +kernel) rfl, gm 614 (by decide +kernel) rfl⟩
theorem kJ0_505 : LkV RJ0 505 yJ0_length_8abf5 := ⟨Or.inl (gm 618 (by decide +kernel) rfl), gm 619 (by decide +kernel) rfl, gm 620 (by decide +kernel) rfl⟩
theorem kJ0_335 : LkV RJ0 335 yJ0_coder_7d493 := ⟨Or.inl (gm 622 (by decide +kernel) rfl), gm 623 (by decide +kernel) rfl, gm 624 (by decide +kernel) rfl⟩
theorem kJ0_637 : LkS RJ0 637 yJ1_indexOf_4cfef := ⟨Or.inl (gm 626 (by decide +kernel) rfl), gm 627 (by decide +kernel) rfl⟩
theorem kJ1_88 : LkS RJ1 88 yJ1_canEncode_9a6ad := ⟨Or.inl (gm 629 (by decide +kernel) rfl), gm 630 (by decide +kernel) rfl⟩
theorem kJ1_92 : LkS RJ1 92 yJ9_max_7cf53 := ⟨Or.inl (gm 632 (by decide +kernel) rfl), gm 72 (by decide +kernel) rfl⟩
theorem kJ1_38 : LkS RJ1 38 yJ9_min_7cf53 := ⟨Or.inl (gm 633 (by decide +kernel) rfl), gm 242 (by decide +kernel) rfl⟩
theorem kJ1_95 : LkS RJ1 95 yJ1_indexOfChar_4cfef := ⟨Or.inl (gm 634 (by decide +kernel) rfl), gm 635 (by decide +kernel) rfl⟩
theorem kJ0_640 : LkS RJ0 640 yJ2_indexOf_4cfef := ⟨Or.inl (gm 637 (by decide +kernel) rfl), gm 638 (by decide +kernel) rfl⟩
theorem kJ2_224 : LkS RJ2 224 yJ9_max_7cf53 := ⟨Or.inl (gm 640 (by decide +kernel) rfl), gm 72 (by decide +kernel) rfl⟩
theorem kJ2_183 : LkS RJ2 183 yJ9_min_7cf53 := ⟨Or.inl (gm 641 (by decide +kernel) rfl), gm 242 (by decide +kernel) rfl⟩
theorem kJ2_228 : LkS RJ2 228 yJ2_indexOfChar_4cfef := ⟨Or.inl (gm 643 (by decide +kernel) rfl), gm 644 (by decide +kernel) rfl⟩
theorem kJ2_96 : LkS RJ2 96 yJ2_checkBoundsBeginEnd_d044e := ⟨Or.inl (gm 646 (by decide +kernel) rfl), gm 647 (by decide +kernel) rfl⟩
theorem kJ2_48 : LkS RJ2 48 yJ2_length_9d52b := ⟨Or.inl (gm 649 (by decide +kernel) rfl), gm 650 (by decide +kernel) rfl⟩
theorem kJ2_241 : LkS RJ2 241 yJ0_checkBoundsBeginEnd_23922 := ⟨Or.inl (gm 652 (by decide +kernel) rfl), gm 653 (by decide +kernel) rfl⟩
theorem kJ0_1062 : LkS RJ0 1062 yJ3_checkFromToIndex_8c36e := ⟨Or.inl (gm 657 (by decide +kernel) rfl), gm 658 (by decide +kernel) rfl⟩
theorem kJ2_244 : LkS RJ2 244 yJ2_indexOfCharUnsafe_4cfef := ⟨Or.inl (gm 660 (by decide +kernel) rfl), gm 661 (by decide +kernel) rfl⟩
theorem kJ2_71 : LkS RJ2 71 yJ2_getChar_3b067 := ⟨Or.inl (gm 663 (by decide +kernel) rfl), gm 664 (by decide +kernel) rfl⟩
theorem kJ2_232 : LkS RJ2 232 yJ2_indexOfSupplementary_4cfef := ⟨Or.inl (gm 672 (by decide +kernel) rfl), gm 673 (by decide +kernel) rfl⟩
theorem kJ2_164 : LkS RJ2 164 yJ11_isValidCodePoint_9a6ad := ⟨Or.inl (gm 675 (by decide +kernel) rfl), gm 676 (by decide +kernel) rfl⟩
theorem kJ2_157 : LkS RJ2 157 yJ11_highSurrogate_5068e := ⟨Or.inl (gm 678 (by decide +kernel) rfl), gm 679 (by decide +kernel) rfl⟩
theorem kJ2_161 : LkS RJ2 161 yJ11_lowSurrogate_5068e := ⟨Or.inl (gm 682 (by decide +kernel) rfl), gm 683 (by decide +kernel) rfl⟩
theorem kX5_75 : LkS RX5 75 yX6_greatestNumber := ⟨Or.inr ⟨"TryLoops", gn 686 (by decide +kernel) rfl⟩, gm 407 (by decide +kernel) rfl⟩
theorem kX5_57 : LkV RX5 57 yX5_readNumber := ⟨Or.inl (gm 687 (by decide +kernel) rfl), gm 689 (by decide +kernel) rfl, gm 18 (by decide +kernel) rfl⟩
theorem kX5_81 : LkV RX5 81 yX3_append := ⟨Or.inl (gm 691 (by decide +kernel) rfl), gm 476 (by decide +kernel) rfl, gm 477 (by decide +kernel) rfl⟩
theorem kX5_61 : LkV RX5 61 yX5_readBody := ⟨Or.inl (gm 692 (by decide +kernel) rfl), gm 694 (by decide +kernel) rfl, gm 19 (by decide +kernel) rfl⟩
theorem kX5_38 : LkV RX5 38 yX5_take := ⟨Or.inl (gm 696 (by decide +kernel) rfl), gm 698 (by decide +kernel) rfl, gm 20 (by decide +kernel) rfl⟩
theorem kX5_64 : LkV RX5 64 yX3_keepNext := ⟨Or.inl (gm 700 (by decide +kernel) rfl), gm 501 (by decide +kernel) rfl, gm 502 (by decide +kernel) rfl⟩
theorem kL_121 : LkS RL 121 yL_act := ⟨Or.inl (gm 702 (by decide +kernel) rfl), gm 703 (by decide +kernel) rfl⟩
theorem kL_99 : LkS RL 99 yL_step := ⟨Or.inl (gm 705 (by decide +kernel) rfl), gm 706 (by decide +kernel) rfl⟩
theorem kL_102 : LkS RL 102 yL_loops := ⟨Or.inl (gm 708 (by decide +kernel) rfl), gm 709 (by decide +kernel) rfl⟩
