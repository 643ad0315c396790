theorem igX0 : ∀ w ∈ wsX00, w ∈ Tg := by decide +kernel
theorem igX1 : ∀ w ∈ wsX10, w ∈ Tg := by decide +kernel
theorem igX2 : ∀ w ∈ wsX20, w ∈ Tg := by decide +kernel
theorem igX3 : ∀ w ∈ wsX30, w ∈ Tg := by decide +kernel
def mX0_init : MI := (yX0_init, cX0_init, 1, none, { frames := 1, cells := 0, slots := 0, locals := 20 })
theorem cb_X0_init : CB mX0_init 0 := ⟨tg 34 (by decide +kernel) (by decide +kernel), by decide +kernel, by decide +kernel, by decide +kernel⟩
def mX0_hang : MI := (yX0_hang, cX0_hang, 5, none, { frames := 1, cells := 0, slots := 0, locals := 20 })
theorem cb_X0_hang : CB mX0_hang 4 := ⟨tg 479 (by decide +kernel) (by decide +kernel), by decide +kernel, by decide +kernel, by decide +kernel⟩
theorem cv_X0_hang : CV mX0_hang 0 := ⟨TX0, 8, rfl, tg 477 (by decide +kernel) (by decide +kernel), tg 478 (by decide +kernel) (by decide +kernel), tg 6 (by decide +kernel) (by decide +kernel)⟩
def mX0_waitAgain : MI := (yX0_waitAgain, cX0_waitAgain, 1, none, { frames := 0, cells := 0, slots := 0, locals := 0 })
theorem cb_X0_waitAgain : CB mX0_waitAgain 0 := ⟨tg 369 (by decide +kernel) (by decide +kernel), by decide +kernel, by decide +kernel, by decide +kernel⟩
theorem cv_X0_waitAgain : CV mX0_waitAgain 0 := ⟨TX0, 8, rfl, tg 367 (by decide +kernel) (by decide +kernel), tg 368 (by decide +kernel) (by decide +kernel), tg 6 (by decide +kernel) (by decide +kernel)⟩
def mX0_copyFrom : MI := (yX0_copyFrom, cX0_copyFrom, 2, none, { frames := 0, cells := 0, slots := 0, locals := 0 })
theorem cb_X0_copyFrom : CB mX0_copyFrom 1 := ⟨tg 307 (by decide +kernel) (by decide +kernel), by decide +kernel, by decide +kernel, by decide +kernel⟩
theorem cv_X0_copyFrom : CV mX0_copyFrom 0 := ⟨TX0, 8, rfl, tg 305 (by decide +kernel) (by decide +kernel), tg 306 (by decide +kernel) (by decide +kernel), tg 6 (by decide +kernel) (by decide +kernel)⟩
def mX0_rank : MI := (yX0_rank, cX0_rank, 1, some (.int), { frames := 0, cells := 0, slots := 0, locals := 0 })
theorem cb_X0_rank : CB mX0_rank 0 := ⟨tg 445 (by decide +kernel) (by decide +kernel), by decide +kernel, by decide +kernel, by decide +kernel⟩
theorem cv_X0_rank : CV mX0_rank 0 := ⟨TX0, 8, rfl, tg 443 (by decide +kernel) (by decide +kernel), tg 444 (by decide +kernel) (by decide +kernel), tg 6 (by decide +kernel) (by decide +kernel)⟩
def mX0_fact : MI := (yX0_fact, cX0_fact, 2, some (.int), { frames := 1, cells := 0, slots := 0, locals := 20 })
theorem cb_X0_fact : CB mX0_fact 1 := ⟨tg 548 (by decide +kernel) (by decide +kernel), by decide +kernel, by decide +kernel, by decide +kernel⟩
theorem cv_X0_fact : CV mX0_fact 0 := ⟨TX0, 8, rfl, tg 546 (by decide +kernel) (by decide +kernel), tg 547 (by decide +kernel) (by decide +kernel), tg 6 (by decide +kernel) (by decide +kernel)⟩
def mX1_init : MI := (yX1_init, cX1_init, 2, none, { frames := 2, cells := 22, slots := 182, locals := 40 })
theorem cb_X1_init : CB mX1_init 0 := ⟨tg 27 (by decide +kernel) (by decide +kernel), by decide +kernel, by decide +kernel, by decide +kernel⟩
def mX1_reset : MI := (yX1_reset, cX1_reset, 3, none, { frames := 0, cells := 0, slots := 0, locals := 0 })
theorem cb_X1_reset : CB mX1_reset 1 := ⟨tg 156 (by decide +kernel) (by decide +kernel), by decide +kernel, by decide +kernel, by decide +kernel⟩
theorem cv_X1_reset : CV mX1_reset 1 := ⟨TX1, 11, rfl, tg 154 (by decide +kernel) (by decide +kernel), tg 155 (by decide +kernel) (by decide +kernel), tg 5 (by decide +kernel) (by decide +kernel)⟩
def mX1_copyFrom : MI := (yX1_copyFrom, cX1_copyFrom, 5, none, { frames := 1, cells := 0, slots := 0, locals := 21 })
theorem cb_X1_copyFrom : CB mX1_copyFrom 1 := ⟨tg 299 (by decide +kernel) (by decide +kernel), by decide +kernel, by decide +kernel, by decide +kernel⟩
theorem cv_X1_copyFrom : CV mX1_copyFrom 1 := ⟨TX1, 11, rfl, tg 297 (by decide +kernel) (by decide +kernel), tg 298 (by decide +kernel) (by decide +kernel), tg 5 (by decide +kernel) (by decide +kernel)⟩
def mX1_hasSpan : MI := (yX1_hasSpan, cX1_hasSpan, 2, some (.boolean), { frames := 0, cells := 0, slots := 0, locals := 0 })
theorem cb_X1_hasSpan : CB mX1_hasSpan 1 := ⟨tg 384 (by decide +kernel) (by decide +kernel), by decide +kernel, by decide +kernel, by decide +kernel⟩
theorem cv_X1_hasSpan : CV mX1_hasSpan 1 := ⟨TX1, 11, rfl, tg 382 (by decide +kernel) (by decide +kernel), tg 383 (by decide +kernel) (by decide +kernel), tg 5 (by decide +kernel) (by decide +kernel)⟩
def mX1_hasWay : MI := (yX1_hasWay, cX1_hasWay, 2, some (.boolean), { frames := 0, cells := 0, slots := 0, locals := 0 })
theorem cb_X1_hasWay : CB mX1_hasWay 1 := ⟨tg 203 (by decide +kernel) (by decide +kernel), by decide +kernel, by decide +kernel, by decide +kernel⟩
theorem cv_X1_hasWay : CV mX1_hasWay 1 := ⟨TX1, 11, rfl, tg 201 (by decide +kernel) (by decide +kernel), tg 202 (by decide +kernel) (by decide +kernel), tg 5 (by decide +kernel) (by decide +kernel)⟩
def mX1_chairAt : MI := (yX1_chairAt, cX1_chairAt, 2, some ((.object "LiftDrill$Chair")), { frames := 0, cells := 0, slots := 0, locals := 0 })
theorem cb_X1_chairAt : CB mX1_chairAt 1 := ⟨tg 303 (by decide +kernel) (by decide +kernel), by decide +kernel, by decide +kernel, by decide +kernel⟩
theorem cv_X1_chairAt : CV mX1_chairAt 1 := ⟨TX1, 11, rfl, tg 301 (by decide +kernel) (by decide +kernel), tg 302 (by decide +kernel) (by decide +kernel), tg 5 (by decide +kernel) (by decide +kernel)⟩
def mX1_teamAt : MI := (yX1_teamAt, cX1_teamAt, 2, some ((.object "LiftDrill$Team")), { frames := 0, cells := 0, slots := 0, locals := 0 })
theorem cb_X1_teamAt : CB mX1_teamAt 1 := ⟨tg 311 (by decide +kernel) (by decide +kernel), by decide +kernel, by decide +kernel, by decide +kernel⟩
theorem cv_X1_teamAt : CV mX1_teamAt 1 := ⟨TX1, 11, rfl, tg 309 (by decide +kernel) (by decide +kernel), tg 310 (by decide +kernel) (by decide +kernel), tg 5 (by decide +kernel) (by decide +kernel)⟩
def mX1_journalAt : MI := (yX1_journalAt, cX1_journalAt, 2, some (.int), { frames := 0, cells := 0, slots := 0, locals := 0 })
theorem cb_X1_journalAt : CB mX1_journalAt 1 := ⟨tg 589 (by decide +kernel) (by decide +kernel), by decide +kernel, by decide +kernel, by decide +kernel⟩
theorem cv_X1_journalAt : CV mX1_journalAt 1 := ⟨TX1, 11, rfl, tg 587 (by decide +kernel) (by decide +kernel), tg 588 (by decide +kernel) (by decide +kernel), tg 5 (by decide +kernel) (by decide +kernel)⟩
def mX1_wayBehind : MI := (yX1_wayBehind, cX1_wayBehind, 2, some (.int), { frames := 0, cells := 0, slots := 0, locals := 0 })
theorem cb_X1_wayBehind : CB mX1_wayBehind 1 := ⟨tg 322 (by decide +kernel) (by decide +kernel), by decide +kernel, by decide +kernel, by decide +kernel⟩
theorem cv_X1_wayBehind : CV mX1_wayBehind 1 := ⟨TX1, 11, rfl, tg 320 (by decide +kernel) (by decide +kernel), tg 321 (by decide +kernel) (by decide +kernel), tg 5 (by decide +kernel) (by decide +kernel)⟩
def mX1_changeWay : MI := (yX1_changeWay, cX1_changeWay, 3, none, { frames := 0, cells := 0, slots := 0, locals := 0 })
theorem cb_X1_changeWay : CB mX1_changeWay 2 := ⟨tg 326 (by decide +kernel) (by decide +kernel), by decide +kernel, by decide +kernel, by decide +kernel⟩
theorem cv_X1_changeWay : CV mX1_changeWay 1 := ⟨TX1, 11, rfl, tg 324 (by decide +kernel) (by decide +kernel), tg 325 (by decide +kernel) (by decide +kernel), tg 5 (by decide +kernel) (by decide +kernel)⟩
def mX1_wayBetween : MI := (yX1_wayBetween, cX1_wayBetween, 6, some (.int), { frames := 1, cells := 0, slots := 0, locals := 21 })
theorem cb_X1_wayBetween : CB mX1_wayBetween 2 := ⟨tg 449 (by decide +kernel) (by decide +kernel), by decide +kernel, by decide +kernel, by decide +kernel⟩
theorem cv_X1_wayBetween : CV mX1_wayBetween 1 := ⟨TX1, 11, rfl, tg 447 (by decide +kernel) (by decide +kernel), tg 448 (by decide +kernel) (by decide +kernel), tg 5 (by decide +kernel) (by decide +kernel)⟩
def mX1_hangChair : MI := (yX1_hangChair, cX1_hangChair, 6, some (.int), { frames := 2, cells := 0, slots := 0, locals := 44 })
theorem cb_X1_hangChair : CB mX1_hangChair 4 := ⟨tg 475 (by decide +kernel) (by decide +kernel), by decide +kernel, by decide +kernel, by decide +kernel⟩
theorem cv_X1_hangChair : CV mX1_hangChair 1 := ⟨TX1, 11, rfl, tg 473 (by decide +kernel) (by decide +kernel), tg 474 (by decide +kernel) (by decide +kernel), tg 5 (by decide +kernel) (by decide +kernel)⟩
def mX1_sendTeam : MI := (yX1_sendTeam, cX1_sendTeam, 4, some (.int), { frames := 2, cells := 0, slots := 0, locals := 42 })
theorem cb_X1_sendTeam : CB mX1_sendTeam 2 := ⟨tg 391 (by decide +kernel) (by decide +kernel), by decide +kernel, by decide +kernel, by decide +kernel⟩
theorem cv_X1_sendTeam : CV mX1_sendTeam 1 := ⟨TX1, 11, rfl, tg 389 (by decide +kernel) (by decide +kernel), tg 390 (by decide +kernel) (by decide +kernel), tg 5 (by decide +kernel) (by decide +kernel)⟩
def mX1_runOut : MI := (yX1_runOut, cX1_runOut, 3, some (.int), { frames := 5, cells := 0, slots := 0, locals := 120 })
theorem cb_X1_runOut : CB mX1_runOut 0 := ⟨tg 529 (by decide +kernel) (by decide +kernel), by decide +kernel, by decide +kernel, by decide +kernel⟩
theorem cv_X1_runOut : CV mX1_runOut 1 := ⟨TX1, 11, rfl, tg 527 (by decide +kernel) (by decide +kernel), tg 528 (by decide +kernel) (by decide +kernel), tg 5 (by decide +kernel) (by decide +kernel)⟩
def mX1_passMinute : MI := (yX1_passMinute, cX1_passMinute, 2, none, { frames := 4, cells := 0, slots := 0, locals := 99 })
theorem cb_X1_passMinute : CB mX1_passMinute 0 := ⟨tg 408 (by decide +kernel) (by decide +kernel), by decide +kernel, by decide +kernel, by decide +kernel⟩
theorem cv_X1_passMinute : CV mX1_passMinute 1 := ⟨TX1, 11, rfl, tg 406 (by decide +kernel) (by decide +kernel), tg 407 (by decide +kernel) (by decide +kernel), tg 5 (by decide +kernel) (by decide +kernel)⟩
def mX1_growColder : MI := (yX1_growColder, cX1_growColder, 3, none, { frames := 1, cells := 0, slots := 0, locals := 21 })
theorem cb_X1_growColder : CB mX1_growColder 0 := ⟨tg 412 (by decide +kernel) (by decide +kernel), by decide +kernel, by decide +kernel, by decide +kernel⟩
theorem cv_X1_growColder : CV mX1_growColder 1 := ⟨TX1, 11, rfl, tg 410 (by decide +kernel) (by decide +kernel), tg 411 (by decide +kernel) (by decide +kernel), tg 5 (by decide +kernel) (by decide +kernel)⟩
def mX1_goOn : MI := (yX1_goOn, cX1_goOn, 4, none, { frames := 3, cells := 0, slots := 0, locals := 70 })
theorem cb_X1_goOn : CB mX1_goOn 1 := ⟨tg 417 (by decide +kernel) (by decide +kernel), by decide +kernel, by decide +kernel, by decide +kernel⟩
theorem cv_X1_goOn : CV mX1_goOn 1 := ⟨TX1, 11, rfl, tg 415 (by decide +kernel) (by decide +kernel), tg 416 (by decide +kernel) (by decide +kernel), tg 5 (by decide +kernel) (by decide +kernel)⟩
def mX1_takeChair : MI := (yX1_takeChair, cX1_takeChair, 6, none, { frames := 3, cells := 0, slots := 0, locals := 74 })
theorem cb_X1_takeChair : CB mX1_takeChair 1 := ⟨tg 437 (by decide +kernel) (by decide +kernel), by decide +kernel, by decide +kernel, by decide +kernel⟩
theorem cv_X1_takeChair : CV mX1_takeChair 1 := ⟨TX1, 11, rfl, tg 435 (by decide +kernel) (by decide +kernel), tg 436 (by decide +kernel) (by decide +kernel), tg 5 (by decide +kernel) (by decide +kernel)⟩
def mX1_bringDown : MI := (yX1_bringDown, cX1_bringDown, 4, none, { frames := 2, cells := 0, slots := 0, locals := 47 })
theorem cb_X1_bringDown : CB mX1_bringDown 3 := ⟨tg 425 (by decide +kernel) (by decide +kernel), by decide +kernel, by decide +kernel, by decide +kernel⟩
theorem cv_X1_bringDown : CV mX1_bringDown 1 := ⟨TX1, 11, rfl, tg 423 (by decide +kernel) (by decide +kernel), tg 424 (by decide +kernel) (by decide +kernel), tg 5 (by decide +kernel) (by decide +kernel)⟩
def mX1_finish : MI := (yX1_finish, cX1_finish, 4, none, { frames := 1, cells := 0, slots := 0, locals := 21 })
theorem cb_X1_finish : CB mX1_finish 2 := ⟨tg 433 (by decide +kernel) (by decide +kernel), by decide +kernel, by decide +kernel, by decide +kernel⟩
theorem cv_X1_finish : CV mX1_finish 1 := ⟨TX1, 11, rfl, tg 431 (by decide +kernel) (by decide +kernel), tg 432 (by decide +kernel) (by decide +kernel), tg 5 (by decide +kernel) (by decide +kernel)⟩
def mX1_workOf : MI := (yX1_workOf, cX1_workOf, 7, some (.int), { frames := 1, cells := 0, slots := 0, locals := 21 })
theorem cb_X1_workOf : CB mX1_workOf 3 := ⟨tg 429 (by decide +kernel) (by decide +kernel), by decide +kernel, by decide +kernel, by decide +kernel⟩
theorem cv_X1_workOf : CV mX1_workOf 1 := ⟨TX1, 11, rfl, tg 427 (by decide +kernel) (by decide +kernel), tg 428 (by decide +kernel) (by decide +kernel), tg 5 (by decide +kernel) (by decide +kernel)⟩
def mX1_choiceFrom : MI := (yX1_choiceFrom, cX1_choiceFrom, 9, some (.int), { frames := 2, cells := 0, slots := 0, locals := 46 })
theorem cb_X1_choiceFrom : CB mX1_choiceFrom 1 := ⟨tg 441 (by decide +kernel) (by decide +kernel), by decide +kernel, by decide +kernel, by decide +kernel⟩
theorem cv_X1_choiceFrom : CV mX1_choiceFrom 1 := ⟨TX1, 11, rfl, tg 439 (by decide +kernel) (by decide +kernel), tg 440 (by decide +kernel) (by decide +kernel), tg 5 (by decide +kernel) (by decide +kernel)⟩
def mX1_fact : MI := (yX1_fact, cX1_fact, 2, some (.int), { frames := 2, cells := 0, slots := 0, locals := 45 })
theorem cb_X1_fact : CB mX1_fact 1 := ⟨tg 495 (by decide +kernel) (by decide +kernel), by decide +kernel, by decide +kernel, by decide +kernel⟩
theorem cv_X1_fact : CV mX1_fact 1 := ⟨TX1, 11, rfl, tg 493 (by decide +kernel) (by decide +kernel), tg 494 (by decide +kernel) (by decide +kernel), tg 5 (by decide +kernel) (by decide +kernel)⟩
def mX1_chairsIn : MI := (yX1_chairsIn, cX1_chairsIn, 5, some (.int), { frames := 1, cells := 0, slots := 0, locals := 21 })
theorem cb_X1_chairsIn : CB mX1_chairsIn 1 := ⟨tg 499 (by decide +kernel) (by decide +kernel), by decide +kernel, by decide +kernel, by decide +kernel⟩
theorem cv_X1_chairsIn : CV mX1_chairsIn 1 := ⟨TX1, 11, rfl, tg 497 (by decide +kernel) (by decide +kernel), tg 498 (by decide +kernel) (by decide +kernel), tg 5 (by decide +kernel) (by decide +kernel)⟩
def mX1_ridersIn : MI := (yX1_ridersIn, cX1_ridersIn, 5, some (.int), { frames := 1, cells := 0, slots := 0, locals := 21 })
theorem cb_X1_ridersIn : CB mX1_ridersIn 1 := ⟨tg 503 (by decide +kernel) (by decide +kernel), by decide +kernel, by decide +kernel, by decide +kernel⟩
theorem cv_X1_ridersIn : CV mX1_ridersIn 1 := ⟨TX1, 11, rfl, tg 501 (by decide +kernel) (by decide +kernel), tg 502 (by decide +kernel) (by decide +kernel), tg 5 (by decide +kernel) (by decide +kernel)⟩
def mX1_greatestRank : MI := (yX1_greatestRank, cX1_greatestRank, 4, some (.int), { frames := 1, cells := 0, slots := 0, locals := 21 })
theorem cb_X1_greatestRank : CB mX1_greatestRank 0 := ⟨tg 507 (by decide +kernel) (by decide +kernel), by decide +kernel, by decide +kernel, by decide +kernel⟩
theorem cv_X1_greatestRank : CV mX1_greatestRank 1 := ⟨TX1, 11, rfl, tg 505 (by decide +kernel) (by decide +kernel), tg 506 (by decide +kernel) (by decide +kernel), tg 5 (by decide +kernel) (by decide +kernel)⟩
def mX2_init : MI := (yX2_init, cX2_init, 1, none, { frames := 1, cells := 0, slots := 0, locals := 20 })
theorem cb_X2_init : CB mX2_init 0 := ⟨tg 78 (by decide +kernel) (by decide +kernel), by decide +kernel, by decide +kernel, by decide +kernel⟩
def mX2_stand : MI := (yX2_stand, cX2_stand, 3, none, { frames := 1, cells := 0, slots := 0, locals := 20 })
theorem cb_X2_stand : CB mX2_stand 2 := ⟨tg 395 (by decide +kernel) (by decide +kernel), by decide +kernel, by decide +kernel, by decide +kernel⟩
theorem cv_X2_stand : CV mX2_stand 2 := ⟨TX2, 8, rfl, tg 393 (by decide +kernel) (by decide +kernel), tg 394 (by decide +kernel) (by decide +kernel), tg 7 (by decide +kernel) (by decide +kernel)⟩
def mX2_beIdle : MI := (yX2_beIdle, cX2_beIdle, 1, none, { frames := 0, cells := 0, slots := 0, locals := 0 })
theorem cb_X2_beIdle : CB mX2_beIdle 0 := ⟨tg 373 (by decide +kernel) (by decide +kernel), by decide +kernel, by decide +kernel, by decide +kernel⟩
theorem cv_X2_beIdle : CV mX2_beIdle 2 := ⟨TX2, 8, rfl, tg 371 (by decide +kernel) (by decide +kernel), tg 372 (by decide +kernel) (by decide +kernel), tg 7 (by decide +kernel) (by decide +kernel)⟩
def mX2_copyFrom : MI := (yX2_copyFrom, cX2_copyFrom, 2, none, { frames := 0, cells := 0, slots := 0, locals := 0 })
theorem cb_X2_copyFrom : CB mX2_copyFrom 1 := ⟨tg 315 (by decide +kernel) (by decide +kernel), by decide +kernel, by decide +kernel, by decide +kernel⟩
theorem cv_X2_copyFrom : CV mX2_copyFrom 2 := ⟨TX2, 8, rfl, tg 313 (by decide +kernel) (by decide +kernel), tg 314 (by decide +kernel) (by decide +kernel), tg 7 (by decide +kernel) (by decide +kernel)⟩
def mX2_fact : MI := (yX2_fact, cX2_fact, 2, some (.int), { frames := 0, cells := 0, slots := 0, locals := 0 })
theorem cb_X2_fact : CB mX2_fact 1 := ⟨tg 569 (by decide +kernel) (by decide +kernel), by decide +kernel, by decide +kernel, by decide +kernel⟩
theorem cv_X2_fact : CV mX2_fact 2 := ⟨TX2, 8, rfl, tg 567 (by decide +kernel) (by decide +kernel), tg 568 (by decide +kernel) (by decide +kernel), tg 7 (by decide +kernel) (by decide +kernel)⟩
def mX3_init : MI := (yX3_init, cX3_init, 2, none, { frames := 3, cells := 140, slots := 1262, locals := 61 })
theorem cb_X3_init : CB mX3_init 0 := ⟨tg 19 (by decide +kernel) (by decide +kernel), by decide +kernel, by decide +kernel, by decide +kernel⟩
def mX3_addChair : MI := (yX3_addChair, cX3_addChair, 5, some (.int), { frames := 6, cells := 1, slots := 6, locals := 90 })
def mX3z_addChair : MI := (yX3_addChair, cX3_addChair, 5, some (.int), { frames := 6, cells := 0, slots := 0, locals := 90 })
theorem cb_X3z_addChair : CB mX3z_addChair 4 := ⟨tg 469 (by decide +kernel) (by decide +kernel), by decide +kernel, by decide +kernel, by decide +kernel⟩
theorem cb_X3_addChair : CB mX3_addChair 4 := ⟨tg 469 (by decide +kernel) (by decide +kernel), by decide +kernel, by decide +kernel, by decide +kernel⟩
theorem cv_X3_addChair : CV mX3_addChair 3 := ⟨TX3, 7, rfl, tg 467 (by decide +kernel) (by decide +kernel), tg 468 (by decide +kernel) (by decide +kernel), tg 4 (by decide +kernel) (by decide +kernel)⟩
theorem cv_X3z_addChair : CV mX3z_addChair 3 := ⟨TX3, 7, rfl, tg 467 (by decide +kernel) (by decide +kernel), tg 468 (by decide +kernel) (by decide +kernel), tg 4 (by decide +kernel) (by decide +kernel)⟩
def mX3_addTeam : MI := (yX3_addTeam, cX3_addTeam, 3, some (.int), { frames := 6, cells := 1, slots := 6, locals := 90 })
def mX3z_addTeam : MI := (yX3_addTeam, cX3_addTeam, 3, some (.int), { frames := 6, cells := 0, slots := 0, locals := 90 })
theorem cb_X3z_addTeam : CB mX3z_addTeam 2 := ⟨tg 380 (by decide +kernel) (by decide +kernel), by decide +kernel, by decide +kernel, by decide +kernel⟩
theorem cb_X3_addTeam : CB mX3_addTeam 2 := ⟨tg 380 (by decide +kernel) (by decide +kernel), by decide +kernel, by decide +kernel, by decide +kernel⟩
theorem cv_X3_addTeam : CV mX3_addTeam 3 := ⟨TX3, 7, rfl, tg 378 (by decide +kernel) (by decide +kernel), tg 379 (by decide +kernel) (by decide +kernel), tg 4 (by decide +kernel) (by decide +kernel)⟩
theorem cv_X3z_addTeam : CV mX3z_addTeam 3 := ⟨TX3, 7, rfl, tg 378 (by decide +kernel) (by decide +kernel), tg 379 (by decide +kernel) (by decide +kernel), tg 4 (by decide +kernel) (by decide +kernel)⟩
def mX3_setWay : MI := (yX3_setWay, cX3_setWay, 4, some (.int), { frames := 6, cells := 1, slots := 6, locals := 90 })
def mX3z_setWay : MI := (yX3_setWay, cX3_setWay, 4, some (.int), { frames := 6, cells := 0, slots := 0, locals := 90 })
theorem cb_X3z_setWay : CB mX3z_setWay 2 := ⟨tg 199 (by decide +kernel) (by decide +kernel), by decide +kernel, by decide +kernel, by decide +kernel⟩
theorem cb_X3_setWay : CB mX3_setWay 2 := ⟨tg 199 (by decide +kernel) (by decide +kernel), by decide +kernel, by decide +kernel, by decide +kernel⟩
theorem cv_X3_setWay : CV mX3_setWay 3 := ⟨TX3, 7, rfl, tg 197 (by decide +kernel) (by decide +kernel), tg 198 (by decide +kernel) (by decide +kernel), tg 4 (by decide +kernel) (by decide +kernel)⟩
theorem cv_X3z_setWay : CV mX3z_setWay 3 := ⟨TX3, 7, rfl, tg 197 (by decide +kernel) (by decide +kernel), tg 198 (by decide +kernel) (by decide +kernel), tg 4 (by decide +kernel) (by decide +kernel)⟩
def mX3_setCold : MI := (yX3_setCold, cX3_setCold, 5, some (.int), { frames := 6, cells := 1, slots := 6, locals := 90 })
def mX3z_setCold : MI := (yX3_setCold, cX3_setCold, 5, some (.int), { frames := 6, cells := 0, slots := 0, locals := 90 })
theorem cb_X3z_setCold : CB mX3z_setCold 2 := ⟨tg 336 (by decide +kernel) (by decide +kernel), by decide +kernel, by decide +kernel, by decide +kernel⟩
theorem cb_X3_setCold : CB mX3_setCold 2 := ⟨tg 336 (by decide +kernel) (by decide +kernel), by decide +kernel, by decide +kernel, by decide +kernel⟩
theorem cv_X3_setCold : CV mX3_setCold 3 := ⟨TX3, 7, rfl, tg 334 (by decide +kernel) (by decide +kernel), tg 335 (by decide +kernel) (by decide +kernel), tg 4 (by decide +kernel) (by decide +kernel)⟩
theorem cv_X3z_setCold : CV mX3z_setCold 3 := ⟨TX3, 7, rfl, tg 334 (by decide +kernel) (by decide +kernel), tg 335 (by decide +kernel) (by decide +kernel), tg 4 (by decide +kernel) (by decide +kernel)⟩
def mX3_callOff : MI := (yX3_callOff, cX3_callOff, 5, some (.int), { frames := 6, cells := 1, slots := 6, locals := 90 })
def mX3z_callOff : MI := (yX3_callOff, cX3_callOff, 5, some (.int), { frames := 6, cells := 0, slots := 0, locals := 90 })
theorem cb_X3z_callOff : CB mX3z_callOff 1 := ⟨tg 363 (by decide +kernel) (by decide +kernel), by decide +kernel, by decide +kernel, by decide +kernel⟩
theorem cb_X3_callOff : CB mX3_callOff 1 := ⟨tg 363 (by decide +kernel) (by decide +kernel), by decide +kernel, by decide +kernel, by decide +kernel⟩
theorem cv_X3_callOff : CV mX3_callOff 3 := ⟨TX3, 7, rfl, tg 361 (by decide +kernel) (by decide +kernel), tg 362 (by decide +kernel) (by decide +kernel), tg 4 (by decide +kernel) (by decide +kernel)⟩
theorem cv_X3z_callOff : CV mX3z_callOff 3 := ⟨TX3, 7, rfl, tg 361 (by decide +kernel) (by decide +kernel), tg 362 (by decide +kernel) (by decide +kernel), tg 4 (by decide +kernel) (by decide +kernel)⟩
def mX3_pass : MI := (yX3_pass, cX3_pass, 4, some (.int), { frames := 6, cells := 1, slots := 6, locals := 120 })
def mX3z_pass : MI := (yX3_pass, cX3_pass, 4, some (.int), { frames := 6, cells := 0, slots := 0, locals := 120 })
theorem cb_X3z_pass : CB mX3z_pass 1 := ⟨tg 403 (by decide +kernel) (by decide +kernel), by decide +kernel, by decide +kernel, by decide +kernel⟩
theorem cb_X3_pass : CB mX3_pass 1 := ⟨tg 403 (by decide +kernel) (by decide +kernel), by decide +kernel, by decide +kernel, by decide +kernel⟩
theorem cv_X3_pass : CV mX3_pass 3 := ⟨TX3, 7, rfl, tg 401 (by decide +kernel) (by decide +kernel), tg 402 (by decide +kernel) (by decide +kernel), tg 4 (by decide +kernel) (by decide +kernel)⟩
theorem cv_X3z_pass : CV mX3z_pass 3 := ⟨TX3, 7, rfl, tg 401 (by decide +kernel) (by decide +kernel), tg 402 (by decide +kernel) (by decide +kernel), tg 4 (by decide +kernel) (by decide +kernel)⟩
def mX3_tell : MI := (yX3_tell, cX3_tell, 5, some (.int), { frames := 6, cells := 0, slots := 0, locals := 142 })
theorem cb_X3_tell : CB mX3_tell 0 := ⟨tg 525 (by decide +kernel) (by decide +kernel), by decide +kernel, by decide +kernel, by decide +kernel⟩
theorem cv_X3_tell : CV mX3_tell 3 := ⟨TX3, 7, rfl, tg 523 (by decide +kernel) (by decide +kernel), tg 524 (by decide +kernel) (by decide +kernel), tg 4 (by decide +kernel) (by decide +kernel)⟩
def mX3_chair : MI := (yX3_chair, cX3_chair, 4, some (.int), { frames := 6, cells := 1, slots := 6, locals := 90 })
def mX3z_chair : MI := (yX3_chair, cX3_chair, 4, some (.int), { frames := 6, cells := 0, slots := 0, locals := 90 })
theorem cb_X3z_chair : CB mX3z_chair 2 := ⟨tg 544 (by decide +kernel) (by decide +kernel), by decide +kernel, by decide +kernel, by decide +kernel⟩
theorem cb_X3_chair : CB mX3_chair 2 := ⟨tg 544 (by decide +kernel) (by decide +kernel), by decide +kernel, by decide +kernel, by decide +kernel⟩
theorem cv_X3_chair : CV mX3_chair 3 := ⟨TX3, 7, rfl, tg 542 (by decide +kernel) (by decide +kernel), tg 543 (by decide +kernel) (by decide +kernel), tg 4 (by decide +kernel) (by decide +kernel)⟩
theorem cv_X3z_chair : CV mX3z_chair 3 := ⟨TX3, 7, rfl, tg 542 (by decide +kernel) (by decide +kernel), tg 543 (by decide +kernel) (by decide +kernel), tg 4 (by decide +kernel) (by decide +kernel)⟩
def mX3_team : MI := (yX3_team, cX3_team, 4, some (.int), { frames := 6, cells := 1, slots := 6, locals := 90 })
def mX3z_team : MI := (yX3_team, cX3_team, 4, some (.int), { frames := 6, cells := 0, slots := 0, locals := 90 })
theorem cb_X3z_team : CB mX3z_team 2 := ⟨tg 565 (by decide +kernel) (by decide +kernel), by decide +kernel, by decide +kernel, by decide +kernel⟩
theorem cb_X3_team : CB mX3_team 2 := ⟨tg 565 (by decide +kernel) (by decide +kernel), by decide +kernel, by decide +kernel, by decide +kernel⟩
theorem cv_X3_team : CV mX3_team 3 := ⟨TX3, 7, rfl, tg 563 (by decide +kernel) (by decide +kernel), tg 564 (by decide +kernel) (by decide +kernel), tg 4 (by decide +kernel) (by decide +kernel)⟩
theorem cv_X3z_team : CV mX3z_team 3 := ⟨TX3, 7, rfl, tg 563 (by decide +kernel) (by decide +kernel), tg 564 (by decide +kernel) (by decide +kernel), tg 4 (by decide +kernel) (by decide +kernel)⟩
def mX3_value : MI := (yX3_value, cX3_value, 2, some (.int), { frames := 6, cells := 1, slots := 6, locals := 90 })
def mX3z_value : MI := (yX3_value, cX3_value, 2, some (.int), { frames := 6, cells := 0, slots := 0, locals := 90 })
theorem cb_X3z_value : CB mX3z_value 1 := ⟨tg 490 (by decide +kernel) (by decide +kernel), by decide +kernel, by decide +kernel, by decide +kernel⟩
theorem cb_X3_value : CB mX3_value 1 := ⟨tg 490 (by decide +kernel) (by decide +kernel), by decide +kernel, by decide +kernel, by decide +kernel⟩
theorem cv_X3_value : CV mX3_value 3 := ⟨TX3, 7, rfl, tg 488 (by decide +kernel) (by decide +kernel), tg 489 (by decide +kernel) (by decide +kernel), tg 4 (by decide +kernel) (by decide +kernel)⟩
theorem cv_X3z_value : CV mX3z_value 3 := ⟨TX3, 7, rfl, tg 488 (by decide +kernel) (by decide +kernel), tg 489 (by decide +kernel) (by decide +kernel), tg 4 (by decide +kernel) (by decide +kernel)⟩
def mX3_way : MI := (yX3_way, cX3_way, 3, some (.int), { frames := 6, cells := 1, slots := 6, locals := 90 })
def mX3z_way : MI := (yX3_way, cX3_way, 3, some (.int), { frames := 6, cells := 0, slots := 0, locals := 90 })
theorem cb_X3z_way : CB mX3z_way 2 := ⟨tg 514 (by decide +kernel) (by decide +kernel), by decide +kernel, by decide +kernel, by decide +kernel⟩
theorem cb_X3_way : CB mX3_way 2 := ⟨tg 514 (by decide +kernel) (by decide +kernel), by decide +kernel, by decide +kernel, by decide +kernel⟩
theorem cv_X3_way : CV mX3_way 3 := ⟨TX3, 7, rfl, tg 512 (by decide +kernel) (by decide +kernel), tg 513 (by decide +kernel) (by decide +kernel), tg 4 (by decide +kernel) (by decide +kernel)⟩
theorem cv_X3z_way : CV mX3z_way 3 := ⟨TX3, 7, rfl, tg 512 (by decide +kernel) (by decide +kernel), tg 513 (by decide +kernel) (by decide +kernel), tg 4 (by decide +kernel) (by decide +kernel)⟩
def mX3_work : MI := (yX3_work, cX3_work, 5, some (.int), { frames := 6, cells := 1, slots := 6, locals := 90 })
def mX3z_work : MI := (yX3_work, cX3_work, 5, some (.int), { frames := 6, cells := 0, slots := 0, locals := 90 })
theorem cb_X3z_work : CB mX3z_work 2 := ⟨tg 556 (by decide +kernel) (by decide +kernel), by decide +kernel, by decide +kernel, by decide +kernel⟩
theorem cb_X3_work : CB mX3_work 2 := ⟨tg 556 (by decide +kernel) (by decide +kernel), by decide +kernel, by decide +kernel, by decide +kernel⟩
theorem cv_X3_work : CV mX3_work 3 := ⟨TX3, 7, rfl, tg 554 (by decide +kernel) (by decide +kernel), tg 555 (by decide +kernel) (by decide +kernel), tg 4 (by decide +kernel) (by decide +kernel)⟩
theorem cv_X3z_work : CV mX3z_work 3 := ⟨TX3, 7, rfl, tg 554 (by decide +kernel) (by decide +kernel), tg 555 (by decide +kernel) (by decide +kernel), tg 4 (by decide +kernel) (by decide +kernel)⟩
def mX3_journal : MI := (yX3_journal, cX3_journal, 2, some (.int), { frames := 6, cells := 1, slots := 6, locals := 90 })
def mX3z_journal : MI := (yX3_journal, cX3_journal, 2, some (.int), { frames := 6, cells := 0, slots := 0, locals := 90 })
theorem cb_X3z_journal : CB mX3z_journal 1 := ⟨tg 584 (by decide +kernel) (by decide +kernel), by decide +kernel, by decide +kernel, by decide +kernel⟩
theorem cb_X3_journal : CB mX3_journal 1 := ⟨tg 584 (by decide +kernel) (by decide +kernel), by decide +kernel, by decide +kernel, by decide +kernel⟩
theorem cv_X3_journal : CV mX3_journal 3 := ⟨TX3, 7, rfl, tg 582 (by decide +kernel) (by decide +kernel), tg 583 (by decide +kernel) (by decide +kernel), tg 4 (by decide +kernel) (by decide +kernel)⟩
theorem cv_X3z_journal : CV mX3z_journal 3 := ⟨TX3, 7, rfl, tg 582 (by decide +kernel) (by decide +kernel), tg 583 (by decide +kernel) (by decide +kernel), tg 4 (by decide +kernel) (by decide +kernel)⟩
def mX3_minutesToAll : MI := (yX3_minutesToAll, cX3_minutesToAll, 1, some (.int), { frames := 6, cells := 0, slots := 0, locals := 142 })
theorem cb_X3_minutesToAll : CB mX3_minutesToAll 0 := ⟨tg 534 (by decide +kernel) (by decide +kernel), by decide +kernel, by decide +kernel, by decide +kernel⟩
theorem cv_X3_minutesToAll : CV mX3_minutesToAll 3 := ⟨TX3, 7, rfl, tg 532 (by decide +kernel) (by decide +kernel), tg 533 (by decide +kernel) (by decide +kernel), tg 4 (by decide +kernel) (by decide +kernel)⟩
def mX3_chosen : MI := (yX3_chosen, cX3_chosen, 2, some (.int), { frames := 6, cells := 1, slots := 6, locals := 90 })
def mX3z_chosen : MI := (yX3_chosen, cX3_chosen, 2, some (.int), { frames := 6, cells := 0, slots := 0, locals := 90 })
theorem cb_X3z_chosen : CB mX3z_chosen 1 := ⟨tg 576 (by decide +kernel) (by decide +kernel), by decide +kernel, by decide +kernel, by decide +kernel⟩
theorem cb_X3_chosen : CB mX3_chosen 1 := ⟨tg 576 (by decide +kernel) (by decide +kernel), by decide +kernel, by decide +kernel, by decide +kernel⟩
theorem cv_X3_chosen : CV mX3_chosen 3 := ⟨TX3, 7, rfl, tg 574 (by decide +kernel) (by decide +kernel), tg 575 (by decide +kernel) (by decide +kernel), tg 4 (by decide +kernel) (by decide +kernel)⟩
theorem cv_X3z_chosen : CV mX3z_chosen 3 := ⟨TX3, 7, rfl, tg 574 (by decide +kernel) (by decide +kernel), tg 575 (by decide +kernel) (by decide +kernel), tg 4 (by decide +kernel) (by decide +kernel)⟩
def mX3_meanCold : MI := (yX3_meanCold, cX3_meanCold, 5, some (.double), { frames := 1, cells := 0, slots := 0, locals := 21 })
theorem cb_X3_meanCold : CB mX3_meanCold 0 := ⟨tg 593 (by decide +kernel) (by decide +kernel), by decide +kernel, by decide +kernel, by decide +kernel⟩
theorem cv_X3_meanCold : CV mX3_meanCold 3 := ⟨TX3, 7, rfl, tg 591 (by decide +kernel) (by decide +kernel), tg 592 (by decide +kernel) (by decide +kernel), tg 4 (by decide +kernel) (by decide +kernel)⟩
def mX3_save : MI := (yX3_save, cX3_save, 2, none, { frames := 2, cells := 0, slots := 0, locals := 45 })
theorem cb_X3_save : CB mX3_save 0 := ⟨tg 291 (by decide +kernel) (by decide +kernel), by decide +kernel, by decide +kernel, by decide +kernel⟩
theorem cv_X3_save : CV mX3_save 3 := ⟨TX3, 7, rfl, tg 290 (by decide +kernel) (by decide +kernel), tg 1 (by decide +kernel) (by decide +kernel), tg 4 (by decide +kernel) (by decide +kernel)⟩
def mX3_savedAt : MI := (yX3_savedAt, cX3_savedAt, 2, some ((.object "LiftDrill$Line")), { frames := 0, cells := 0, slots := 0, locals := 0 })
theorem cb_X3_savedAt : CB mX3_savedAt 1 := ⟨tg 295 (by decide +kernel) (by decide +kernel), by decide +kernel, by decide +kernel, by decide +kernel⟩
theorem cv_X3_savedAt : CV mX3_savedAt 3 := ⟨TX3, 7, rfl, tg 294 (by decide +kernel) (by decide +kernel), tg 2 (by decide +kernel) (by decide +kernel), tg 4 (by decide +kernel) (by decide +kernel)⟩
def mL_cell : MI := (yL_cell, cL_cell, 2, some (.int), { frames := 0, cells := 0, slots := 0, locals := 0 })
theorem cb_L_cell : CB mL_cell 2 := ⟨tg 181 (by decide +kernel) (by decide +kernel), by decide +kernel, by decide +kernel, by decide +kernel⟩
theorem cs_L_cell : CS mL_cell := ⟨tg 180 (by decide +kernel) (by decide +kernel), tg 3 (by decide +kernel) (by decide +kernel)⟩
def mL_low : MI := (yL_low, cL_low, 2, some (.int), { frames := 0, cells := 0, slots := 0, locals := 0 })
theorem cb_L_low : CB mL_low 2 := ⟨tg 185 (by decide +kernel) (by decide +kernel), by decide +kernel, by decide +kernel, by decide +kernel⟩
theorem cs_L_low : CS mL_low := ⟨tg 184 (by decide +kernel) (by decide +kernel), tg 3 (by decide +kernel) (by decide +kernel)⟩
def mL_far : MI := (yL_far, cL_far, 6, some (.int), { frames := 0, cells := 0, slots := 0, locals := 0 })
theorem cb_L_far : CB mL_far 3 := ⟨tg 462 (by decide +kernel) (by decide +kernel), by decide +kernel, by decide +kernel, by decide +kernel⟩
theorem cs_L_far : CS mL_far := ⟨tg 461 (by decide +kernel) (by decide +kernel), tg 3 (by decide +kernel) (by decide +kernel)⟩
def mL_work : MI := (yL_work, cL_work, 8, some (.int), { frames := 0, cells := 0, slots := 0, locals := 0 })
theorem cb_L_work : CB mL_work 5 := ⟨tg 456 (by decide +kernel) (by decide +kernel), by decide +kernel, by decide +kernel, by decide +kernel⟩
theorem cs_L_work : CS mL_work := ⟨tg 455 (by decide +kernel) (by decide +kernel), tg 3 (by decide +kernel) (by decide +kernel)⟩
def mL_choice : MI := (yL_choice, cL_choice, 8, some (.int), { frames := 1, cells := 0, slots := 0, locals := 25 })
theorem cb_L_choice : CB mL_choice 3 := ⟨tg 459 (by decide +kernel) (by decide +kernel), by decide +kernel, by decide +kernel, by decide +kernel⟩
theorem cs_L_choice : CS mL_choice := ⟨tg 458 (by decide +kernel) (by decide +kernel), tg 3 (by decide +kernel) (by decide +kernel)⟩
def mL_minute : MI := (yL_minute, cL_minute, 8, none, { frames := 2, cells := 0, slots := 0, locals := 52 })
set_option maxRecDepth 100000 in
theorem cb_L_minute : CB mL_minute 4 := ⟨tg 453 rfl (by decide +kernel), by decide +kernel, by decide +kernel, by decide +kernel⟩
theorem cs_L_minute : CS mL_minute := ⟨tg 452 (by decide +kernel) (by decide +kernel), tg 3 (by decide +kernel) (by decide +kernel)⟩
def mL_acts : MI := (yL_acts, cL_acts, 18, some (.boolean), { frames := 8, cells := 1, slots := 6, locals := 165 })
set_option maxRecDepth 100000 in
theorem cb_L_acts : CB mL_acts 6 := ⟨tg 189 rfl (by decide +kernel), by decide +kernel, by decide +kernel, by decide +kernel⟩
theorem cs_L_acts : CS mL_acts := ⟨tg 188 (by decide +kernel) (by decide +kernel), tg 3 (by decide +kernel) (by decide +kernel)⟩
def mL_begins : MI := (yL_begins, cL_begins, 2, none, { frames := 0, cells := 0, slots := 0, locals := 0 })
theorem cb_L_begins : CB mL_begins 1 := ⟨tg 483 (by decide +kernel) (by decide +kernel), by decide +kernel, by decide +kernel, by decide +kernel⟩
theorem cs_L_begins : CS mL_begins := ⟨tg 482 (by decide +kernel) (by decide +kernel), tg 3 (by decide +kernel) (by decide +kernel)⟩
def mL_foresees : MI := (yL_foresees, cL_foresees, 10, some (.int), { frames := 3, cells := 4, slots := 123, locals := 79 })
theorem cb_L_foresees : CB mL_foresees 4 := ⟨tg 521 (by decide +kernel) (by decide +kernel), by decide +kernel, by decide +kernel, by decide +kernel⟩
theorem cs_L_foresees : CS mL_foresees := ⟨tg 520 (by decide +kernel) (by decide +kernel), tg 3 (by decide +kernel) (by decide +kernel)⟩
def mL_addsChair : MI := (yL_addsChair, cL_addsChair, 6, some (.int), { frames := 7, cells := 1, slots := 6, locals := 114 })
def mLz_addsChair : MI := (yL_addsChair, cL_addsChair, 6, some (.int), { frames := 7, cells := 0, slots := 0, locals := 114 })
theorem cs_Lz_addsChair : CS mLz_addsChair := ⟨tg 464 (by decide +kernel) (by decide +kernel), tg 3 (by decide +kernel) (by decide +kernel)⟩
theorem cs_L_addsChair : CS mL_addsChair := ⟨tg 464 (by decide +kernel) (by decide +kernel), tg 3 (by decide +kernel) (by decide +kernel)⟩
def mL_addsTeam : MI := (yL_addsTeam, cL_addsTeam, 4, some (.int), { frames := 7, cells := 1, slots := 6, locals := 112 })
def mLz_addsTeam : MI := (yL_addsTeam, cL_addsTeam, 4, some (.int), { frames := 7, cells := 0, slots := 0, locals := 112 })
theorem cs_Lz_addsTeam : CS mLz_addsTeam := ⟨tg 375 (by decide +kernel) (by decide +kernel), tg 3 (by decide +kernel) (by decide +kernel)⟩
theorem cs_L_addsTeam : CS mL_addsTeam := ⟨tg 375 (by decide +kernel) (by decide +kernel), tg 3 (by decide +kernel) (by decide +kernel)⟩
def mL_ways : MI := (yL_ways, cL_ways, 4, some (.int), { frames := 7, cells := 1, slots := 6, locals := 113 })
def mLz_ways : MI := (yL_ways, cL_ways, 4, some (.int), { frames := 7, cells := 0, slots := 0, locals := 113 })
theorem cs_Lz_ways : CS mLz_ways := ⟨tg 192 (by decide +kernel) (by decide +kernel), tg 3 (by decide +kernel) (by decide +kernel)⟩
theorem cs_L_ways : CS mL_ways := ⟨tg 192 (by decide +kernel) (by decide +kernel), tg 3 (by decide +kernel) (by decide +kernel)⟩
def mL_colds : MI := (yL_colds, cL_colds, 4, some (.int), { frames := 7, cells := 1, slots := 6, locals := 114 })
def mLz_colds : MI := (yL_colds, cL_colds, 4, some (.int), { frames := 7, cells := 0, slots := 0, locals := 114 })
theorem cs_Lz_colds : CS mLz_colds := ⟨tg 330 (by decide +kernel) (by decide +kernel), tg 3 (by decide +kernel) (by decide +kernel)⟩
theorem cs_L_colds : CS mL_colds := ⟨tg 330 (by decide +kernel) (by decide +kernel), tg 3 (by decide +kernel) (by decide +kernel)⟩
def mL_calls : MI := (yL_calls, cL_calls, 3, some (.int), { frames := 7, cells := 1, slots := 6, locals := 114 })
def mLz_calls : MI := (yL_calls, cL_calls, 3, some (.int), { frames := 7, cells := 0, slots := 0, locals := 114 })
theorem cs_Lz_calls : CS mLz_calls := ⟨tg 358 (by decide +kernel) (by decide +kernel), tg 3 (by decide +kernel) (by decide +kernel)⟩
theorem cs_L_calls : CS mL_calls := ⟨tg 358 (by decide +kernel) (by decide +kernel), tg 3 (by decide +kernel) (by decide +kernel)⟩
def mL_passes : MI := (yL_passes, cL_passes, 3, some (.int), { frames := 7, cells := 1, slots := 6, locals := 143 })
def mLz_passes : MI := (yL_passes, cL_passes, 3, some (.int), { frames := 7, cells := 0, slots := 0, locals := 143 })
theorem cs_Lz_passes : CS mLz_passes := ⟨tg 398 (by decide +kernel) (by decide +kernel), tg 3 (by decide +kernel) (by decide +kernel)⟩
theorem cs_L_passes : CS mL_passes := ⟨tg 398 (by decide +kernel) (by decide +kernel), tg 3 (by decide +kernel) (by decide +kernel)⟩
def mL_chairOf : MI := (yL_chairOf, cL_chairOf, 4, some (.int), { frames := 7, cells := 1, slots := 6, locals := 113 })
def mLz_chairOf : MI := (yL_chairOf, cL_chairOf, 4, some (.int), { frames := 7, cells := 0, slots := 0, locals := 113 })
theorem cs_Lz_chairOf : CS mLz_chairOf := ⟨tg 539 (by decide +kernel) (by decide +kernel), tg 3 (by decide +kernel) (by decide +kernel)⟩
theorem cs_L_chairOf : CS mL_chairOf := ⟨tg 539 (by decide +kernel) (by decide +kernel), tg 3 (by decide +kernel) (by decide +kernel)⟩
def mL_teamOf : MI := (yL_teamOf, cL_teamOf, 4, some (.int), { frames := 7, cells := 1, slots := 6, locals := 113 })
def mLz_teamOf : MI := (yL_teamOf, cL_teamOf, 4, some (.int), { frames := 7, cells := 0, slots := 0, locals := 113 })
theorem cs_Lz_teamOf : CS mLz_teamOf := ⟨tg 560 (by decide +kernel) (by decide +kernel), tg 3 (by decide +kernel) (by decide +kernel)⟩
theorem cs_L_teamOf : CS mL_teamOf := ⟨tg 560 (by decide +kernel) (by decide +kernel), tg 3 (by decide +kernel) (by decide +kernel)⟩
def mL_valueOf : MI := (yL_valueOf, cL_valueOf, 3, some (.int), { frames := 7, cells := 1, slots := 6, locals := 111 })
def mLz_valueOf : MI := (yL_valueOf, cL_valueOf, 3, some (.int), { frames := 7, cells := 0, slots := 0, locals := 111 })
theorem cs_Lz_valueOf : CS mLz_valueOf := ⟨tg 485 (by decide +kernel) (by decide +kernel), tg 3 (by decide +kernel) (by decide +kernel)⟩
theorem cs_L_valueOf : CS mL_valueOf := ⟨tg 485 (by decide +kernel) (by decide +kernel), tg 3 (by decide +kernel) (by decide +kernel)⟩
def mL_wayOf : MI := (yL_wayOf, cL_wayOf, 4, some (.int), { frames := 7, cells := 1, slots := 6, locals := 112 })
def mLz_wayOf : MI := (yL_wayOf, cL_wayOf, 4, some (.int), { frames := 7, cells := 0, slots := 0, locals := 112 })
theorem cs_Lz_wayOf : CS mLz_wayOf := ⟨tg 509 (by decide +kernel) (by decide +kernel), tg 3 (by decide +kernel) (by decide +kernel)⟩
theorem cs_L_wayOf : CS mL_wayOf := ⟨tg 509 (by decide +kernel) (by decide +kernel), tg 3 (by decide +kernel) (by decide +kernel)⟩
def mL_workOf : MI := (yL_workOf, cL_workOf, 4, some (.int), { frames := 7, cells := 1, slots := 6, locals := 114 })
def mLz_workOf : MI := (yL_workOf, cL_workOf, 4, some (.int), { frames := 7, cells := 0, slots := 0, locals := 114 })
theorem cs_Lz_workOf : CS mLz_workOf := ⟨tg 551 (by decide +kernel) (by decide +kernel), tg 3 (by decide +kernel) (by decide +kernel)⟩
theorem cs_L_workOf : CS mL_workOf := ⟨tg 551 (by decide +kernel) (by decide +kernel), tg 3 (by decide +kernel) (by decide +kernel)⟩
def mL_journalOf : MI := (yL_journalOf, cL_journalOf, 3, some (.int), { frames := 7, cells := 1, slots := 6, locals := 111 })
def mLz_journalOf : MI := (yL_journalOf, cL_journalOf, 3, some (.int), { frames := 7, cells := 0, slots := 0, locals := 111 })
theorem cs_Lz_journalOf : CS mLz_journalOf := ⟨tg 579 (by decide +kernel) (by decide +kernel), tg 3 (by decide +kernel) (by decide +kernel)⟩
theorem cs_L_journalOf : CS mL_journalOf := ⟨tg 579 (by decide +kernel) (by decide +kernel), tg 3 (by decide +kernel) (by decide +kernel)⟩
def mL_chosenAt : MI := (yL_chosenAt, cL_chosenAt, 3, some (.int), { frames := 7, cells := 1, slots := 6, locals := 111 })
def mLz_chosenAt : MI := (yL_chosenAt, cL_chosenAt, 3, some (.int), { frames := 7, cells := 0, slots := 0, locals := 111 })
theorem cs_Lz_chosenAt : CS mLz_chosenAt := ⟨tg 571 (by decide +kernel) (by decide +kernel), tg 3 (by decide +kernel) (by decide +kernel)⟩
theorem cs_L_chosenAt : CS mL_chosenAt := ⟨tg 571 (by decide +kernel) (by decide +kernel), tg 3 (by decide +kernel) (by decide +kernel)⟩
def mL_tells : MI := (yL_tells, cL_tells, 8, some (.boolean), { frames := 7, cells := 5, slots := 131, locals := 166 })
theorem cb_L_tells : CB mL_tells 4 := ⟨tg 518 (by decide +kernel) (by decide +kernel), by decide +kernel, by decide +kernel, by decide +kernel⟩
theorem cs_L_tells : CS mL_tells := ⟨tg 517 (by decide +kernel) (by decide +kernel), tg 3 (by decide +kernel) (by decide +kernel)⟩
def mL_isSo : MI := (yL_isSo, cL_isSo, 14, some (.boolean), { frames := 8, cells := 3, slots := 18, locals := 137 })
set_option maxRecDepth 100000 in
theorem cb_L_isSo : CB mL_isSo 5 := ⟨tg 537 rfl (by decide +kernel), by decide +kernel, by decide +kernel, by decide +kernel⟩
theorem cs_L_isSo : CS mL_isSo := ⟨tg 536 (by decide +kernel) (by decide +kernel), tg 3 (by decide +kernel) (by decide +kernel)⟩
theorem lk_X3_9 : Cond.methodLink RX3 9 yX1_init ∈ Tg := tg 25 (by decide +kernel) (by decide +kernel)
theorem lk_X3_16 : Cond.methodLink RX3 16 yX1_reset ∈ Tg := tg 153 (by decide +kernel) (by decide +kernel)
theorem lk_X3_31 : Cond.methodLink RX3 31 yX1_hasSpan ∈ Tg := tg 381 (by decide +kernel) (by decide +kernel)
theorem lk_X3_56 : Cond.methodLink RX3 56 yX3_save ∈ Tg := tg 288 (by decide +kernel) (by decide +kernel)
theorem lk_X3_59 : Cond.methodLink RX3 59 yX1_hangChair ∈ Tg := tg 472 (by decide +kernel) (by decide +kernel)
theorem lk_X3_70 : Cond.methodLink RX3 70 yX1_sendTeam ∈ Tg := tg 388 (by decide +kernel) (by decide +kernel)
theorem lk_X3_74 : Cond.methodLink RX3 74 yX1_hasWay ∈ Tg := tg 200 (by decide +kernel) (by decide +kernel)
theorem lk_X3_81 : Cond.methodLink RX3 81 yX1_wayBehind ∈ Tg := tg 319 (by decide +kernel) (by decide +kernel)
theorem lk_X3_85 : Cond.methodLink RX3 85 yX1_changeWay ∈ Tg := tg 323 (by decide +kernel) (by decide +kernel)
theorem lk_X3_89 : Cond.methodLink RX3 89 yX1_chairAt ∈ Tg := tg 337 (by decide +kernel) (by decide +kernel)
theorem lk_X3_107 : Cond.methodLink RX3 107 yX1_teamAt ∈ Tg := tg 364 (by decide +kernel) (by decide +kernel)
theorem lk_X3_118 : Cond.methodLink RX3 118 yX0_waitAgain ∈ Tg := tg 366 (by decide +kernel) (by decide +kernel)
theorem lk_X3_121 : Cond.methodLink RX3 121 yX2_beIdle ∈ Tg := tg 370 (by decide +kernel) (by decide +kernel)
theorem lk_X3_132 : Cond.methodLink RX3 132 yX1_passMinute ∈ Tg := tg 405 (by decide +kernel) (by decide +kernel)
theorem lk_X3_135 : Cond.methodLink RX3 135 yX1_copyFrom ∈ Tg := tg 296 (by decide +kernel) (by decide +kernel)
theorem lk_X3_139 : Cond.methodLink RX3 139 yX1_runOut ∈ Tg := tg 526 (by decide +kernel) (by decide +kernel)
theorem lk_X3_149 : Cond.methodLink RX3 149 yX0_fact ∈ Tg := tg 545 (by decide +kernel) (by decide +kernel)
theorem lk_X3_152 : Cond.methodLink RX3 152 yX2_fact ∈ Tg := tg 566 (by decide +kernel) (by decide +kernel)
theorem lk_X3_153 : Cond.methodLink RX3 153 yX1_fact ∈ Tg := tg 492 (by decide +kernel) (by decide +kernel)
theorem lk_X3_154 : Cond.methodLink RX3 154 yX1_wayBetween ∈ Tg := tg 515 (by decide +kernel) (by decide +kernel)
theorem lk_X3_162 : Cond.methodLink RX3 162 yX1_workOf ∈ Tg := tg 558 (by decide +kernel) (by decide +kernel)
theorem lk_X3_168 : Cond.methodLink RX3 168 yX1_journalAt ∈ Tg := tg 586 (by decide +kernel) (by decide +kernel)
theorem lk_X3_174 : Cond.methodLink RX3 174 yX1_choiceFrom ∈ Tg := tg 577 (by decide +kernel) (by decide +kernel)
theorem lk_X3_196 : Cond.methodLink RX3 196 yX3_savedAt ∈ Tg := tg 292 (by decide +kernel) (by decide +kernel)
theorem lk_X3_215 : Cond.methodLink RX3 215 Lib.Math.min.name ∈ Tg := tg 316 (by decide +kernel) (by decide +kernel)
theorem lk_X0_31 : Cond.methodLink RX0 31 yX0_waitAgain ∈ Tg := tg 480 (by decide +kernel) (by decide +kernel)
theorem lk_X0_40 : Cond.methodLink RX0 40 yX0_rank ∈ Tg := tg 549 (by decide +kernel) (by decide +kernel)
theorem lk_X1_54 : Cond.methodLink RX1 54 yX1_chairAt ∈ Tg := tg 300 (by decide +kernel) (by decide +kernel)
theorem lk_X1_58 : Cond.methodLink RX1 58 yX0_copyFrom ∈ Tg := tg 304 (by decide +kernel) (by decide +kernel)
theorem lk_X1_62 : Cond.methodLink RX1 62 yX1_teamAt ∈ Tg := tg 308 (by decide +kernel) (by decide +kernel)
theorem lk_X1_66 : Cond.methodLink RX1 66 yX2_copyFrom ∈ Tg := tg 312 (by decide +kernel) (by decide +kernel)
theorem lk_X1_69 : Cond.methodLink RX1 69 Lib.Math.max.name ∈ Tg := tg 419 (by decide +kernel) (by decide +kernel)
theorem lk_X1_75 : Cond.methodLink RX1 75 Lib.Math.min.name ∈ Tg := tg 413 (by decide +kernel) (by decide +kernel)
theorem lk_X1_78 : Cond.methodLink RX1 78 yX1_wayBehind ∈ Tg := tg 450 (by decide +kernel) (by decide +kernel)
theorem lk_X1_82 : Cond.methodLink RX1 82 yX0_hang ∈ Tg := tg 476 (by decide +kernel) (by decide +kernel)
theorem lk_X1_86 : Cond.methodLink RX1 86 yX2_stand ∈ Tg := tg 392 (by decide +kernel) (by decide +kernel)
theorem lk_X1_90 : Cond.methodLink RX1 90 yX1_passMinute ∈ Tg := tg 530 (by decide +kernel) (by decide +kernel)
theorem lk_X1_93 : Cond.methodLink RX1 93 yX1_growColder ∈ Tg := tg 409 (by decide +kernel) (by decide +kernel)
theorem lk_X1_96 : Cond.methodLink RX1 96 yX1_goOn ∈ Tg := tg 414 (by decide +kernel) (by decide +kernel)
theorem lk_X1_100 : Cond.methodLink RX1 100 yX1_takeChair ∈ Tg := tg 434 (by decide +kernel) (by decide +kernel)
theorem lk_X1_116 : Cond.methodLink RX1 116 yX2_beIdle ∈ Tg := tg 418 (by decide +kernel) (by decide +kernel)
theorem lk_X1_125 : Cond.methodLink RX1 125 yX1_bringDown ∈ Tg := tg 422 (by decide +kernel) (by decide +kernel)
theorem lk_X1_129 : Cond.methodLink RX1 129 yX1_finish ∈ Tg := tg 430 (by decide +kernel) (by decide +kernel)
theorem lk_X1_136 : Cond.methodLink RX1 136 yX1_choiceFrom ∈ Tg := tg 438 (by decide +kernel) (by decide +kernel)
theorem lk_X1_143 : Cond.methodLink RX1 143 yX1_wayBetween ∈ Tg := tg 446 (by decide +kernel) (by decide +kernel)
theorem lk_X1_146 : Cond.methodLink RX1 146 yX1_workOf ∈ Tg := tg 426 (by decide +kernel) (by decide +kernel)
theorem lk_X1_162 : Cond.methodLink RX1 162 yX0_rank ∈ Tg := tg 442 (by decide +kernel) (by decide +kernel)
theorem lk_X1_166 : Cond.methodLink RX1 166 yX1_chairsIn ∈ Tg := tg 496 (by decide +kernel) (by decide +kernel)
theorem lk_X1_169 : Cond.methodLink RX1 169 yX1_ridersIn ∈ Tg := tg 500 (by decide +kernel) (by decide +kernel)
theorem lk_X1_172 : Cond.methodLink RX1 172 yX1_greatestRank ∈ Tg := tg 504 (by decide +kernel) (by decide +kernel)
theorem lk_X2_27 : Cond.methodLink RX2 27 yX2_beIdle ∈ Tg := tg 396 (by decide +kernel) (by decide +kernel)
theorem lk_L_9 : Cond.methodLink RL 9 yL_far ∈ Tg := tg 460 (by decide +kernel) (by decide +kernel)
theorem lk_L_15 : Cond.methodLink RL 15 yL_work ∈ Tg := tg 454 (by decide +kernel) (by decide +kernel)
theorem lk_L_19 : Cond.methodLink RL 19 yL_choice ∈ Tg := tg 457 (by decide +kernel) (by decide +kernel)
theorem lk_L_24 : Cond.methodLink RL 24 yL_low ∈ Tg := tg 183 (by decide +kernel) (by decide +kernel)
theorem lk_L_28 : Cond.methodLink RL 28 yL_ways ∈ Tg := tg 191 (by decide +kernel) (by decide +kernel)
theorem lk_L_32 : Cond.methodLink RL 32 yL_colds ∈ Tg := tg 329 (by decide +kernel) (by decide +kernel)
theorem lk_L_37 : Cond.methodLink RL 37 yL_calls ∈ Tg := tg 357 (by decide +kernel) (by decide +kernel)
theorem lk_L_41 : Cond.methodLink RL 41 yL_addsTeam ∈ Tg := tg 374 (by decide +kernel) (by decide +kernel)
theorem lk_L_45 : Cond.methodLink RL 45 yL_passes ∈ Tg := tg 397 (by decide +kernel) (by decide +kernel)
theorem lk_L_48 : Cond.methodLink RL 48 yL_minute ∈ Tg := tg 451 (by decide +kernel) (by decide +kernel)
theorem lk_L_52 : Cond.methodLink RL 52 yL_addsChair ∈ Tg := tg 463 (by decide +kernel) (by decide +kernel)
theorem lk_L_56 : Cond.methodLink RL 56 yX3_addChair ∈ Tg := tg 466 (by decide +kernel) (by decide +kernel)
theorem lk_L_68 : Cond.methodLink RL 68 yX3_addTeam ∈ Tg := tg 377 (by decide +kernel) (by decide +kernel)
theorem lk_L_71 : Cond.methodLink RL 71 yX3_setWay ∈ Tg := tg 196 (by decide +kernel) (by decide +kernel)
theorem lk_L_74 : Cond.methodLink RL 74 yX3_setCold ∈ Tg := tg 333 (by decide +kernel) (by decide +kernel)
theorem lk_L_77 : Cond.methodLink RL 77 yX3_callOff ∈ Tg := tg 360 (by decide +kernel) (by decide +kernel)
theorem lk_L_81 : Cond.methodLink RL 81 yX3_pass ∈ Tg := tg 400 (by decide +kernel) (by decide +kernel)
theorem lk_L_84 : Cond.methodLink RL 84 yX3_chair ∈ Tg := tg 541 (by decide +kernel) (by decide +kernel)
theorem lk_L_87 : Cond.methodLink RL 87 yX3_team ∈ Tg := tg 562 (by decide +kernel) (by decide +kernel)
theorem lk_L_90 : Cond.methodLink RL 90 yX3_value ∈ Tg := tg 487 (by decide +kernel) (by decide +kernel)
theorem lk_L_93 : Cond.methodLink RL 93 yX3_way ∈ Tg := tg 511 (by decide +kernel) (by decide +kernel)
theorem lk_L_96 : Cond.methodLink RL 96 yX3_work ∈ Tg := tg 553 (by decide +kernel) (by decide +kernel)
theorem lk_L_98 : Cond.methodLink RL 98 yX3_journal ∈ Tg := tg 581 (by decide +kernel) (by decide +kernel)
theorem lk_L_101 : Cond.methodLink RL 101 yX3_chosen ∈ Tg := tg 573 (by decide +kernel) (by decide +kernel)
theorem lk_L_104 : Cond.methodLink RL 104 yL_foresees ∈ Tg := tg 519 (by decide +kernel) (by decide +kernel)
theorem lk_L_108 : Cond.methodLink RL 108 yX3_tell ∈ Tg := tg 522 (by decide +kernel) (by decide +kernel)
theorem lk_L_112 : Cond.methodLink RL 112 yX3_minutesToAll ∈ Tg := tg 531 (by decide +kernel) (by decide +kernel)
theorem lk_L_115 : Cond.methodLink RL 115 yL_chairOf ∈ Tg := tg 538 (by decide +kernel) (by decide +kernel)
theorem lk_L_118 : Cond.methodLink RL 118 yL_workOf ∈ Tg := tg 550 (by decide +kernel) (by decide +kernel)
theorem lk_L_121 : Cond.methodLink RL 121 yL_teamOf ∈ Tg := tg 559 (by decide +kernel) (by decide +kernel)
theorem lk_L_124 : Cond.methodLink RL 124 yL_chosenAt ∈ Tg := tg 570 (by decide +kernel) (by decide +kernel)
theorem lk_L_127 : Cond.methodLink RL 127 yL_wayOf ∈ Tg := tg 508 (by decide +kernel) (by decide +kernel)
theorem lk_L_130 : Cond.methodLink RL 130 yL_journalOf ∈ Tg := tg 578 (by decide +kernel) (by decide +kernel)
theorem lk_L_133 : Cond.methodLink RL 133 yL_valueOf ∈ Tg := tg 484 (by decide +kernel) (by decide +kernel)
theorem lk_L_136 : Cond.methodLink RL 136 yX3_meanCold ∈ Tg := tg 590 (by decide +kernel) (by decide +kernel)
theorem lk_L_140 : Cond.methodLink RL 140 yX3_init ∈ Tg := tg 17 (by decide +kernel) (by decide +kernel)
theorem lk_L_141 : Cond.methodLink RL 141 yL_begins ∈ Tg := tg 481 (by decide +kernel) (by decide +kernel)
theorem lk_L_145 : Cond.methodLink RL 145 yL_isSo ∈ Tg := tg 535 (by decide +kernel) (by decide +kernel)
theorem lk_L_149 : Cond.methodLink RL 149 yL_cell ∈ Tg := tg 179 (by decide +kernel) (by decide +kernel)
theorem lk_L_153 : Cond.methodLink RL 153 yL_acts ∈ Tg := tg 187 (by decide +kernel) (by decide +kernel)
theorem lk_L_157 : Cond.methodLink RL 157 yL_tells ∈ Tg := tg 516 (by decide +kernel) (by decide +kernel)
theorem fo_X3_10 : FO RX3 10 3 0 := ⟨RX3, TX3, 7, igX3, rfl, by decide, tg 158 (by decide +kernel) (by decide +kernel)⟩
theorem ff_X3_10 : FF RX3 10 3 0 (.object "LiftDrill$Line") := ⟨RX3, TX3, 7, tyX3, igX3, rfl, by decide, tg 158 (by decide +kernel) (by decide +kernel), tyX3_ok, nmX3, rfl, rfl, rfl⟩
theorem fo_X3_20 : FO RX3 20 3 1 := ⟨RX3, TX3, 7, igX3, rfl, by decide, tg 159 (by decide +kernel) (by decide +kernel)⟩
theorem ff_X3_20 : FF RX3 20 3 1 (.object "LiftDrill$Line") := ⟨RX3, TX3, 7, tyX3, igX3, rfl, by decide, tg 159 (by decide +kernel) (by decide +kernel), tyX3_ok, nmX3, rfl, rfl, rfl⟩
theorem fo_X3_23 : FO RX3 23 3 2 := ⟨RX3, TX3, 7, igX3, rfl, by decide, tg 160 (by decide +kernel) (by decide +kernel)⟩
theorem ff_X3_23 : FF RX3 23 3 2 (.array (.object "LiftDrill$Line")) := ⟨RX3, TX3, 7, tyX3, igX3, rfl, by decide, tg 160 (by decide +kernel) (by decide +kernel), tyX3_ok, nmX3, rfl, rfl, rfl⟩
theorem fo_X3_27 : FO RX3 27 3 5 := ⟨RX3, TX3, 7, igX3, rfl, by decide, tg 163 (by decide +kernel) (by decide +kernel)⟩
theorem ff_X3_27 : FF RX3 27 3 5 (.array .int) := ⟨RX3, TX3, 7, tyX3, igX3, rfl, by decide, tg 163 (by decide +kernel) (by decide +kernel), tyX3_ok, nmX3, rfl, rfl, rfl⟩
theorem fo_X3_47 : FO RX3 47 1 2 := ⟨RX1, TX1, 11, igX1, rfl, by decide, tg 119 (by decide +kernel) (by decide +kernel)⟩
theorem fw_X3_47 : FW RX3 47 1 2 .int := ⟨RX1, TX1, 11, tyX1, igX1, rfl, by decide, tg 119 (by decide +kernel) (by decide +kernel), tyX1_ok, nmX1, rfl, rfl⟩
theorem fo_X3_65 : FO RX3 65 1 3 := ⟨RX1, TX1, 11, igX1, rfl, by decide, tg 121 (by decide +kernel) (by decide +kernel)⟩
theorem fw_X3_65 : FW RX3 65 1 3 .int := ⟨RX1, TX1, 11, tyX1, igX1, rfl, by decide, tg 121 (by decide +kernel) (by decide +kernel), tyX1_ok, nmX1, rfl, rfl⟩
theorem fo_X3_97 : FO RX3 97 0 4 := ⟨RX0, TX0, 8, igX0, rfl, by decide, tg 45 (by decide +kernel) (by decide +kernel)⟩
theorem fw_X3_97 : FW RX3 97 0 4 .int := ⟨RX0, TX0, 8, tyX0, igX0, rfl, by decide, tg 45 (by decide +kernel) (by decide +kernel), tyX0_ok, nmX0, rfl, rfl⟩
theorem fo_X3_104 : FO RX3 104 0 2 := ⟨RX0, TX0, 8, igX0, rfl, by decide, tg 41 (by decide +kernel) (by decide +kernel)⟩
theorem fw_X3_104 : FW RX3 104 0 2 .int := ⟨RX0, TX0, 8, tyX0, igX0, rfl, by decide, tg 41 (by decide +kernel) (by decide +kernel), tyX0_ok, nmX0, rfl, rfl⟩
theorem fo_X3_113 : FO RX3 113 2 4 := ⟨RX2, TX2, 8, igX2, rfl, by decide, tg 90 (by decide +kernel) (by decide +kernel)⟩
theorem fw_X3_113 : FW RX3 113 2 4 .int := ⟨RX2, TX2, 8, tyX2, igX2, rfl, by decide, tg 90 (by decide +kernel) (by decide +kernel), tyX2_ok, nmX2, rfl, rfl⟩
theorem fo_X3_124 : FO RX3 124 1 1 := ⟨RX1, TX1, 11, igX1, rfl, by decide, tg 117 (by decide +kernel) (by decide +kernel)⟩
theorem fw_X3_124 : FW RX3 124 1 1 .int := ⟨RX1, TX1, 11, tyX1, igX1, rfl, by decide, tg 117 (by decide +kernel) (by decide +kernel), tyX1_ok, nmX1, rfl, rfl⟩
theorem fo_X3_129 : FO RX3 129 1 4 := ⟨RX1, TX1, 11, igX1, rfl, by decide, tg 123 (by decide +kernel) (by decide +kernel)⟩
theorem fw_X3_129 : FW RX3 129 1 4 .int := ⟨RX1, TX1, 11, tyX1, igX1, rfl, by decide, tg 123 (by decide +kernel) (by decide +kernel), tyX1_ok, nmX1, rfl, rfl⟩
theorem fo_X3_143 : FO RX3 143 0 6 := ⟨RX0, TX0, 8, igX0, rfl, by decide, tg 50 (by decide +kernel) (by decide +kernel)⟩
theorem fw_X3_143 : FW RX3 143 0 6 .int := ⟨RX0, TX0, 8, tyX0, igX0, rfl, by decide, tg 50 (by decide +kernel) (by decide +kernel), tyX0_ok, nmX0, rfl, rfl⟩
theorem fo_X3_144 : FO RX3 144 0 7 := ⟨RX0, TX0, 8, igX0, rfl, by decide, tg 53 (by decide +kernel) (by decide +kernel)⟩
theorem fw_X3_144 : FW RX3 144 0 7 .int := ⟨RX0, TX0, 8, tyX0, igX0, rfl, by decide, tg 53 (by decide +kernel) (by decide +kernel), tyX0_ok, nmX0, rfl, rfl⟩
theorem fo_X3_159 : FO RX3 159 2 1 := ⟨RX2, TX2, 8, igX2, rfl, by decide, tg 83 (by decide +kernel) (by decide +kernel)⟩
theorem fw_X3_159 : FW RX3 159 2 1 .int := ⟨RX2, TX2, 8, tyX2, igX2, rfl, by decide, tg 83 (by decide +kernel) (by decide +kernel), tyX2_ok, nmX2, rfl, rfl⟩
theorem fo_X3_188 : FO RX3 188 3 3 := ⟨RX3, TX3, 7, igX3, rfl, by decide, tg 161 (by decide +kernel) (by decide +kernel)⟩
theorem fw_X3_188 : FW RX3 188 3 3 .int := ⟨RX3, TX3, 7, tyX3, igX3, rfl, by decide, tg 161 (by decide +kernel) (by decide +kernel), tyX3_ok, nmX3, rfl, rfl⟩
theorem fo_X3_193 : FO RX3 193 3 4 := ⟨RX3, TX3, 7, igX3, rfl, by decide, tg 162 (by decide +kernel) (by decide +kernel)⟩
theorem fw_X3_193 : FW RX3 193 3 4 .int := ⟨RX3, TX3, 7, tyX3, igX3, rfl, by decide, tg 162 (by decide +kernel) (by decide +kernel), tyX3_ok, nmX3, rfl, rfl⟩
theorem fo_X0_9 : FO RX0 9 0 0 := ⟨RX0, TX0, 8, igX0, rfl, by decide, tg 36 (by decide +kernel) (by decide +kernel)⟩
theorem fw_X0_9 : FW RX0 9 0 0 .int := ⟨RX0, TX0, 8, tyX0, igX0, rfl, by decide, tg 36 (by decide +kernel) (by decide +kernel), tyX0_ok, nmX0, rfl, rfl⟩
theorem fo_X0_15 : FO RX0 15 0 1 := ⟨RX0, TX0, 8, igX0, rfl, by decide, tg 38 (by decide +kernel) (by decide +kernel)⟩
theorem fw_X0_15 : FW RX0 15 0 1 .int := ⟨RX0, TX0, 8, tyX0, igX0, rfl, by decide, tg 38 (by decide +kernel) (by decide +kernel), tyX0_ok, nmX0, rfl, rfl⟩
theorem fo_X0_18 : FO RX0 18 0 2 := ⟨RX0, TX0, 8, igX0, rfl, by decide, tg 40 (by decide +kernel) (by decide +kernel)⟩
theorem fw_X0_18 : FW RX0 18 0 2 .int := ⟨RX0, TX0, 8, tyX0, igX0, rfl, by decide, tg 40 (by decide +kernel) (by decide +kernel), tyX0_ok, nmX0, rfl, rfl⟩
theorem fo_X0_21 : FO RX0 21 0 3 := ⟨RX0, TX0, 8, igX0, rfl, by decide, tg 43 (by decide +kernel) (by decide +kernel)⟩
theorem fw_X0_21 : FW RX0 21 0 3 .boolean := ⟨RX0, TX0, 8, tyX0, igX0, rfl, by decide, tg 43 (by decide +kernel) (by decide +kernel), tyX0_ok, nmX0, rfl, rfl⟩
theorem fo_X0_25 : FO RX0 25 0 6 := ⟨RX0, TX0, 8, igX0, rfl, by decide, tg 49 (by decide +kernel) (by decide +kernel)⟩
theorem fw_X0_25 : FW RX0 25 0 6 .int := ⟨RX0, TX0, 8, tyX0, igX0, rfl, by decide, tg 49 (by decide +kernel) (by decide +kernel), tyX0_ok, nmX0, rfl, rfl⟩
theorem fo_X0_28 : FO RX0 28 0 7 := ⟨RX0, TX0, 8, igX0, rfl, by decide, tg 52 (by decide +kernel) (by decide +kernel)⟩
theorem fw_X0_28 : FW RX0 28 0 7 .int := ⟨RX0, TX0, 8, tyX0, igX0, rfl, by decide, tg 52 (by decide +kernel) (by decide +kernel), tyX0_ok, nmX0, rfl, rfl⟩
theorem fo_X0_34 : FO RX0 34 0 4 := ⟨RX0, TX0, 8, igX0, rfl, by decide, tg 44 (by decide +kernel) (by decide +kernel)⟩
theorem fw_X0_34 : FW RX0 34 0 4 .int := ⟨RX0, TX0, 8, tyX0, igX0, rfl, by decide, tg 44 (by decide +kernel) (by decide +kernel), tyX0_ok, nmX0, rfl, rfl⟩
theorem fo_X0_37 : FO RX0 37 0 5 := ⟨RX0, TX0, 8, igX0, rfl, by decide, tg 47 (by decide +kernel) (by decide +kernel)⟩
theorem fw_X0_37 : FW RX0 37 0 5 .int := ⟨RX0, TX0, 8, tyX0, igX0, rfl, by decide, tg 47 (by decide +kernel) (by decide +kernel), tyX0_ok, nmX0, rfl, rfl⟩
theorem fo_X1_9 : FO RX1 9 1 7 := ⟨RX1, TX1, 11, igX1, rfl, by decide, tg 126 (by decide +kernel) (by decide +kernel)⟩
theorem ff_X1_9 : FF RX1 9 1 7 (.array .int) := ⟨RX1, TX1, 11, tyX1, igX1, rfl, by decide, tg 126 (by decide +kernel) (by decide +kernel), tyX1_ok, nmX1, rfl, rfl, rfl⟩
theorem fo_X1_17 : FO RX1 17 1 8 := ⟨RX1, TX1, 11, igX1, rfl, by decide, tg 127 (by decide +kernel) (by decide +kernel)⟩
theorem ff_X1_17 : FF RX1 17 1 8 (.array (.object "LiftDrill$Chair")) := ⟨RX1, TX1, 11, tyX1, igX1, rfl, by decide, tg 127 (by decide +kernel) (by decide +kernel), tyX1_ok, nmX1, rfl, rfl, rfl⟩
theorem fo_X1_24 : FO RX1 24 1 9 := ⟨RX1, TX1, 11, igX1, rfl, by decide, tg 128 (by decide +kernel) (by decide +kernel)⟩
theorem ff_X1_24 : FF RX1 24 1 9 (.array (.object "LiftDrill$Team")) := ⟨RX1, TX1, 11, tyX1, igX1, rfl, by decide, tg 128 (by decide +kernel) (by decide +kernel), tyX1_ok, nmX1, rfl, rfl, rfl⟩
theorem fo_X1_29 : FO RX1 29 1 10 := ⟨RX1, TX1, 11, igX1, rfl, by decide, tg 129 (by decide +kernel) (by decide +kernel)⟩
theorem ff_X1_29 : FF RX1 29 1 10 (.array .int) := ⟨RX1, TX1, 11, tyX1, igX1, rfl, by decide, tg 129 (by decide +kernel) (by decide +kernel), tyX1_ok, nmX1, rfl, rfl, rfl⟩
theorem fo_X1_32 : FO RX1 32 1 0 := ⟨RX1, TX1, 11, igX1, rfl, by decide, tg 115 (by decide +kernel) (by decide +kernel)⟩
theorem fw_X1_32 : FW RX1 32 1 0 .int := ⟨RX1, TX1, 11, tyX1, igX1, rfl, by decide, tg 115 (by decide +kernel) (by decide +kernel), tyX1_ok, nmX1, rfl, rfl⟩
theorem fo_X1_36 : FO RX1 36 1 1 := ⟨RX1, TX1, 11, igX1, rfl, by decide, tg 116 (by decide +kernel) (by decide +kernel)⟩
theorem fw_X1_36 : FW RX1 36 1 1 .int := ⟨RX1, TX1, 11, tyX1, igX1, rfl, by decide, tg 116 (by decide +kernel) (by decide +kernel), tyX1_ok, nmX1, rfl, rfl⟩
theorem fo_X1_39 : FO RX1 39 1 2 := ⟨RX1, TX1, 11, igX1, rfl, by decide, tg 118 (by decide +kernel) (by decide +kernel)⟩
theorem fw_X1_39 : FW RX1 39 1 2 .int := ⟨RX1, TX1, 11, tyX1, igX1, rfl, by decide, tg 118 (by decide +kernel) (by decide +kernel), tyX1_ok, nmX1, rfl, rfl⟩
theorem fo_X1_42 : FO RX1 42 1 3 := ⟨RX1, TX1, 11, igX1, rfl, by decide, tg 120 (by decide +kernel) (by decide +kernel)⟩
theorem fw_X1_42 : FW RX1 42 1 3 .int := ⟨RX1, TX1, 11, tyX1, igX1, rfl, by decide, tg 120 (by decide +kernel) (by decide +kernel), tyX1_ok, nmX1, rfl, rfl⟩
theorem fo_X1_45 : FO RX1 45 1 4 := ⟨RX1, TX1, 11, igX1, rfl, by decide, tg 122 (by decide +kernel) (by decide +kernel)⟩
theorem fw_X1_45 : FW RX1 45 1 4 .int := ⟨RX1, TX1, 11, tyX1, igX1, rfl, by decide, tg 122 (by decide +kernel) (by decide +kernel), tyX1_ok, nmX1, rfl, rfl⟩
theorem fo_X1_48 : FO RX1 48 1 5 := ⟨RX1, TX1, 11, igX1, rfl, by decide, tg 124 (by decide +kernel) (by decide +kernel)⟩
theorem fw_X1_48 : FW RX1 48 1 5 .int := ⟨RX1, TX1, 11, tyX1, igX1, rfl, by decide, tg 124 (by decide +kernel) (by decide +kernel), tyX1_ok, nmX1, rfl, rfl⟩
theorem fo_X1_51 : FO RX1 51 1 6 := ⟨RX1, TX1, 11, igX1, rfl, by decide, tg 125 (by decide +kernel) (by decide +kernel)⟩
theorem fw_X1_51 : FW RX1 51 1 6 .int := ⟨RX1, TX1, 11, tyX1, igX1, rfl, by decide, tg 125 (by decide +kernel) (by decide +kernel), tyX1_ok, nmX1, rfl, rfl⟩
theorem fo_X1_103 : FO RX1 103 0 4 := ⟨RX0, TX0, 8, igX0, rfl, by decide, tg 46 (by decide +kernel) (by decide +kernel)⟩
theorem fw_X1_103 : FW RX1 103 0 4 .int := ⟨RX0, TX0, 8, tyX0, igX0, rfl, by decide, tg 46 (by decide +kernel) (by decide +kernel), tyX0_ok, nmX0, rfl, rfl⟩
theorem fo_X1_106 : FO RX1 106 0 2 := ⟨RX0, TX0, 8, igX0, rfl, by decide, tg 42 (by decide +kernel) (by decide +kernel)⟩
theorem fw_X1_106 : FW RX1 106 0 2 .int := ⟨RX0, TX0, 8, tyX0, igX0, rfl, by decide, tg 42 (by decide +kernel) (by decide +kernel), tyX0_ok, nmX0, rfl, rfl⟩
theorem fo_X1_109 : FO RX1 109 2 2 := ⟨RX2, TX2, 8, igX2, rfl, by decide, tg 86 (by decide +kernel) (by decide +kernel)⟩
theorem fw_X1_109 : FW RX1 109 2 2 .int := ⟨RX2, TX2, 8, tyX2, igX2, rfl, by decide, tg 86 (by decide +kernel) (by decide +kernel), tyX2_ok, nmX2, rfl, rfl⟩
theorem fo_X1_110 : FO RX1 110 2 7 := ⟨RX2, TX2, 8, igX2, rfl, by decide, tg 97 (by decide +kernel) (by decide +kernel)⟩
theorem fw_X1_110 : FW RX1 110 2 7 .int := ⟨RX2, TX2, 8, tyX2, igX2, rfl, by decide, tg 97 (by decide +kernel) (by decide +kernel), tyX2_ok, nmX2, rfl, rfl⟩
theorem fo_X1_113 : FO RX1 113 2 3 := ⟨RX2, TX2, 8, igX2, rfl, by decide, tg 88 (by decide +kernel) (by decide +kernel)⟩
theorem fw_X1_113 : FW RX1 113 2 3 .int := ⟨RX2, TX2, 8, tyX2, igX2, rfl, by decide, tg 88 (by decide +kernel) (by decide +kernel), tyX2_ok, nmX2, rfl, rfl⟩
theorem fo_X1_119 : FO RX1 119 2 1 := ⟨RX2, TX2, 8, igX2, rfl, by decide, tg 84 (by decide +kernel) (by decide +kernel)⟩
theorem fw_X1_119 : FW RX1 119 2 1 .int := ⟨RX2, TX2, 8, tyX2, igX2, rfl, by decide, tg 84 (by decide +kernel) (by decide +kernel), tyX2_ok, nmX2, rfl, rfl⟩
theorem fo_X1_122 : FO RX1 122 2 4 := ⟨RX2, TX2, 8, igX2, rfl, by decide, tg 91 (by decide +kernel) (by decide +kernel)⟩
theorem fw_X1_122 : FW RX1 122 2 4 .int := ⟨RX2, TX2, 8, tyX2, igX2, rfl, by decide, tg 91 (by decide +kernel) (by decide +kernel), tyX2_ok, nmX2, rfl, rfl⟩
theorem fo_X1_133 : FO RX1 133 2 0 := ⟨RX2, TX2, 8, igX2, rfl, by decide, tg 81 (by decide +kernel) (by decide +kernel)⟩
theorem fw_X1_133 : FW RX1 133 2 0 .int := ⟨RX2, TX2, 8, tyX2, igX2, rfl, by decide, tg 81 (by decide +kernel) (by decide +kernel), tyX2_ok, nmX2, rfl, rfl⟩
theorem fo_X1_139 : FO RX1 139 0 5 := ⟨RX0, TX0, 8, igX0, rfl, by decide, tg 48 (by decide +kernel) (by decide +kernel)⟩
theorem fw_X1_139 : FW RX1 139 0 5 .int := ⟨RX0, TX0, 8, tyX0, igX0, rfl, by decide, tg 48 (by decide +kernel) (by decide +kernel), tyX0_ok, nmX0, rfl, rfl⟩
theorem fo_X1_142 : FO RX1 142 0 0 := ⟨RX0, TX0, 8, igX0, rfl, by decide, tg 37 (by decide +kernel) (by decide +kernel)⟩
theorem fw_X1_142 : FW RX1 142 0 0 .int := ⟨RX0, TX0, 8, tyX0, igX0, rfl, by decide, tg 37 (by decide +kernel) (by decide +kernel), tyX0_ok, nmX0, rfl, rfl⟩
theorem fo_X1_150 : FO RX1 150 0 7 := ⟨RX0, TX0, 8, igX0, rfl, by decide, tg 54 (by decide +kernel) (by decide +kernel)⟩
theorem fw_X1_150 : FW RX1 150 0 7 .int := ⟨RX0, TX0, 8, tyX0, igX0, rfl, by decide, tg 54 (by decide +kernel) (by decide +kernel), tyX0_ok, nmX0, rfl, rfl⟩
theorem fo_X1_153 : FO RX1 153 0 6 := ⟨RX0, TX0, 8, igX0, rfl, by decide, tg 51 (by decide +kernel) (by decide +kernel)⟩
theorem fw_X1_153 : FW RX1 153 0 6 .int := ⟨RX0, TX0, 8, tyX0, igX0, rfl, by decide, tg 51 (by decide +kernel) (by decide +kernel), tyX0_ok, nmX0, rfl, rfl⟩
theorem fo_X1_154 : FO RX1 154 2 5 := ⟨RX2, TX2, 8, igX2, rfl, by decide, tg 93 (by decide +kernel) (by decide +kernel)⟩
theorem fw_X1_154 : FW RX1 154 2 5 .int := ⟨RX2, TX2, 8, tyX2, igX2, rfl, by decide, tg 93 (by decide +kernel) (by decide +kernel), tyX2_ok, nmX2, rfl, rfl⟩
theorem fo_X1_156 : FO RX1 156 2 6 := ⟨RX2, TX2, 8, igX2, rfl, by decide, tg 95 (by decide +kernel) (by decide +kernel)⟩
theorem fw_X1_156 : FW RX1 156 2 6 .int := ⟨RX2, TX2, 8, tyX2, igX2, rfl, by decide, tg 95 (by decide +kernel) (by decide +kernel), tyX2_ok, nmX2, rfl, rfl⟩
theorem fo_X1_159 : FO RX1 159 0 1 := ⟨RX0, TX0, 8, igX0, rfl, by decide, tg 39 (by decide +kernel) (by decide +kernel)⟩
theorem fw_X1_159 : FW RX1 159 0 1 .int := ⟨RX0, TX0, 8, tyX0, igX0, rfl, by decide, tg 39 (by decide +kernel) (by decide +kernel), tyX0_ok, nmX0, rfl, rfl⟩
theorem fo_X2_9 : FO RX2 9 2 0 := ⟨RX2, TX2, 8, igX2, rfl, by decide, tg 80 (by decide +kernel) (by decide +kernel)⟩
theorem fw_X2_9 : FW RX2 9 2 0 .int := ⟨RX2, TX2, 8, tyX2, igX2, rfl, by decide, tg 80 (by decide +kernel) (by decide +kernel), tyX2_ok, nmX2, rfl, rfl⟩
theorem fo_X2_15 : FO RX2 15 2 1 := ⟨RX2, TX2, 8, igX2, rfl, by decide, tg 82 (by decide +kernel) (by decide +kernel)⟩
theorem fw_X2_15 : FW RX2 15 2 1 .int := ⟨RX2, TX2, 8, tyX2, igX2, rfl, by decide, tg 82 (by decide +kernel) (by decide +kernel), tyX2_ok, nmX2, rfl, rfl⟩
theorem fo_X2_18 : FO RX2 18 2 5 := ⟨RX2, TX2, 8, igX2, rfl, by decide, tg 92 (by decide +kernel) (by decide +kernel)⟩
theorem fw_X2_18 : FW RX2 18 2 5 .int := ⟨RX2, TX2, 8, tyX2, igX2, rfl, by decide, tg 92 (by decide +kernel) (by decide +kernel), tyX2_ok, nmX2, rfl, rfl⟩
theorem fo_X2_21 : FO RX2 21 2 6 := ⟨RX2, TX2, 8, igX2, rfl, by decide, tg 94 (by decide +kernel) (by decide +kernel)⟩
theorem fw_X2_21 : FW RX2 21 2 6 .int := ⟨RX2, TX2, 8, tyX2, igX2, rfl, by decide, tg 94 (by decide +kernel) (by decide +kernel), tyX2_ok, nmX2, rfl, rfl⟩
theorem fo_X2_24 : FO RX2 24 2 7 := ⟨RX2, TX2, 8, igX2, rfl, by decide, tg 96 (by decide +kernel) (by decide +kernel)⟩
theorem fw_X2_24 : FW RX2 24 2 7 .int := ⟨RX2, TX2, 8, tyX2, igX2, rfl, by decide, tg 96 (by decide +kernel) (by decide +kernel), tyX2_ok, nmX2, rfl, rfl⟩
theorem fo_X2_30 : FO RX2 30 2 2 := ⟨RX2, TX2, 8, igX2, rfl, by decide, tg 85 (by decide +kernel) (by decide +kernel)⟩
theorem fw_X2_30 : FW RX2 30 2 2 .int := ⟨RX2, TX2, 8, tyX2, igX2, rfl, by decide, tg 85 (by decide +kernel) (by decide +kernel), tyX2_ok, nmX2, rfl, rfl⟩
theorem fo_X2_33 : FO RX2 33 2 3 := ⟨RX2, TX2, 8, igX2, rfl, by decide, tg 87 (by decide +kernel) (by decide +kernel)⟩
theorem fw_X2_33 : FW RX2 33 2 3 .int := ⟨RX2, TX2, 8, tyX2, igX2, rfl, by decide, tg 87 (by decide +kernel) (by decide +kernel), tyX2_ok, nmX2, rfl, rfl⟩
theorem fo_X2_36 : FO RX2 36 2 4 := ⟨RX2, TX2, 8, igX2, rfl, by decide, tg 89 (by decide +kernel) (by decide +kernel)⟩
theorem fw_X2_36 : FW RX2 36 2 4 .int := ⟨RX2, TX2, 8, tyX2, igX2, rfl, by decide, tg 89 (by decide +kernel) (by decide +kernel), tyX2_ok, nmX2, rfl, rfl⟩
theorem kc_L_7 : Cond.constant RL 7 (40503) ∈ Tg := tg 182 (by decide +kernel) (by decide +kernel)
theorem kc_L_8 : Cond.constant RL 8 (2147483647) ∈ Tg := tg 186 (by decide +kernel) (by decide +kernel)
theorem kc_L_23 : Cond.constant RL 23 (10000000) ∈ Tg := tg 190 (by decide +kernel) (by decide +kernel)
theorem kc_L_35 : Cond.constant RL 35 (-100001) ∈ Tg := tg 327 (by decide +kernel) (by decide +kernel)
theorem kc_L_44 : Cond.constant RL 44 (-100002) ∈ Tg := tg 328 (by decide +kernel) (by decide +kernel)
theorem kc_L_36 : Cond.constant RL 36 (-100003) ∈ Tg := tg 356 (by decide +kernel) (by decide +kernel)
