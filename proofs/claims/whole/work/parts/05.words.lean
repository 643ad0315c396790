theorem igX0 : ∀ w ∈ wsX00, w ∈ Tg := by decide +kernel
theorem igX1 : ∀ w ∈ wsX10, w ∈ Tg := by decide +kernel
theorem igX2 : ∀ w ∈ wsX20, w ∈ Tg := by decide +kernel
theorem igX3 : ∀ w ∈ wsX30, w ∈ Tg := by decide +kernel
theorem igX4 : ∀ w ∈ wsX40, w ∈ Tg := by decide +kernel
def mX0_init : MI := (yX0_init, cX0_init, 1, none, { frames := 1, cells := 0, slots := 0, locals := 20 })
theorem cb_X0_init : CB mX0_init 0 := ⟨tg 69 (by decide +kernel) (by decide +kernel), by decide +kernel, by decide +kernel, by decide +kernel⟩
def mX0_hang : MI := (yX0_hang, cX0_hang, 5, none, { frames := 1, cells := 0, slots := 0, locals := 20 })
theorem cb_X0_hang : CB mX0_hang 4 := ⟨tg 352 (by decide +kernel) (by decide +kernel), by decide +kernel, by decide +kernel, by decide +kernel⟩
theorem cv_X0_hang : CV mX0_hang 0 := ⟨TX0, 8, rfl, tg 350 (by decide +kernel) (by decide +kernel), tg 351 (by decide +kernel) (by decide +kernel), tg 40 (by decide +kernel) (by decide +kernel)⟩
def mX0_waitAgain : MI := (yX0_waitAgain, cX0_waitAgain, 1, none, { frames := 0, cells := 0, slots := 0, locals := 0 })
theorem cb_X0_waitAgain : CB mX0_waitAgain 0 := ⟨tg 356 (by decide +kernel) (by decide +kernel), by decide +kernel, by decide +kernel, by decide +kernel⟩
theorem cv_X0_waitAgain : CV mX0_waitAgain 0 := ⟨TX0, 8, rfl, tg 354 (by decide +kernel) (by decide +kernel), tg 355 (by decide +kernel) (by decide +kernel), tg 40 (by decide +kernel) (by decide +kernel)⟩
def mX0_copyFrom : MI := (yX0_copyFrom, cX0_copyFrom, 2, none, { frames := 0, cells := 0, slots := 0, locals := 0 })
theorem cb_X0_copyFrom : CB mX0_copyFrom 1 := ⟨tg 240 (by decide +kernel) (by decide +kernel), by decide +kernel, by decide +kernel, by decide +kernel⟩
theorem cv_X0_copyFrom : CV mX0_copyFrom 0 := ⟨TX0, 8, rfl, tg 238 (by decide +kernel) (by decide +kernel), tg 239 (by decide +kernel) (by decide +kernel), tg 40 (by decide +kernel) (by decide +kernel)⟩
def mX0_rank : MI := (yX0_rank, cX0_rank, 1, some (.int), { frames := 0, cells := 0, slots := 0, locals := 0 })
theorem cb_X0_rank : CB mX0_rank 0 := ⟨tg 299 (by decide +kernel) (by decide +kernel), by decide +kernel, by decide +kernel, by decide +kernel⟩
theorem cv_X0_rank : CV mX0_rank 0 := ⟨TX0, 8, rfl, tg 297 (by decide +kernel) (by decide +kernel), tg 298 (by decide +kernel) (by decide +kernel), tg 40 (by decide +kernel) (by decide +kernel)⟩
def mX0_fact : MI := (yX0_fact, cX0_fact, 2, some (.int), { frames := 1, cells := 0, slots := 0, locals := 20 })
theorem cb_X0_fact : CB mX0_fact 1 := ⟨tg 390 (by decide +kernel) (by decide +kernel), by decide +kernel, by decide +kernel, by decide +kernel⟩
theorem cv_X0_fact : CV mX0_fact 0 := ⟨TX0, 8, rfl, tg 388 (by decide +kernel) (by decide +kernel), tg 389 (by decide +kernel) (by decide +kernel), tg 40 (by decide +kernel) (by decide +kernel)⟩
def mX1_init : MI := (yX1_init, cX1_init, 2, none, { frames := 2, cells := 22, slots := 182, locals := 40 })
theorem cb_X1_init : CB mX1_init 0 := ⟨tg 62 (by decide +kernel) (by decide +kernel), by decide +kernel, by decide +kernel, by decide +kernel⟩
def mX1_reset : MI := (yX1_reset, cX1_reset, 3, none, { frames := 0, cells := 0, slots := 0, locals := 0 })
theorem cb_X1_reset : CB mX1_reset 1 := ⟨tg 193 (by decide +kernel) (by decide +kernel), by decide +kernel, by decide +kernel, by decide +kernel⟩
theorem cv_X1_reset : CV mX1_reset 1 := ⟨TX1, 11, rfl, tg 191 (by decide +kernel) (by decide +kernel), tg 192 (by decide +kernel) (by decide +kernel), tg 39 (by decide +kernel) (by decide +kernel)⟩
def mX1_copyFrom : MI := (yX1_copyFrom, cX1_copyFrom, 5, none, { frames := 1, cells := 0, slots := 0, locals := 21 })
theorem cb_X1_copyFrom : CB mX1_copyFrom 1 := ⟨tg 232 (by decide +kernel) (by decide +kernel), by decide +kernel, by decide +kernel, by decide +kernel⟩
theorem cv_X1_copyFrom : CV mX1_copyFrom 1 := ⟨TX1, 11, rfl, tg 230 (by decide +kernel) (by decide +kernel), tg 231 (by decide +kernel) (by decide +kernel), tg 39 (by decide +kernel) (by decide +kernel)⟩
def mX1_hasSpan : MI := (yX1_hasSpan, cX1_hasSpan, 2, some (.boolean), { frames := 0, cells := 0, slots := 0, locals := 0 })
theorem cb_X1_hasSpan : CB mX1_hasSpan 1 := ⟨tg 418 (by decide +kernel) (by decide +kernel), by decide +kernel, by decide +kernel, by decide +kernel⟩
theorem cv_X1_hasSpan : CV mX1_hasSpan 1 := ⟨TX1, 11, rfl, tg 416 (by decide +kernel) (by decide +kernel), tg 417 (by decide +kernel) (by decide +kernel), tg 39 (by decide +kernel) (by decide +kernel)⟩
def mX1_hasWay : MI := (yX1_hasWay, cX1_hasWay, 2, some (.boolean), { frames := 0, cells := 0, slots := 0, locals := 0 })
theorem cb_X1_hasWay : CB mX1_hasWay 1 := ⟨tg 538 (by decide +kernel) (by decide +kernel), by decide +kernel, by decide +kernel, by decide +kernel⟩
theorem cv_X1_hasWay : CV mX1_hasWay 1 := ⟨TX1, 11, rfl, tg 536 (by decide +kernel) (by decide +kernel), tg 537 (by decide +kernel) (by decide +kernel), tg 39 (by decide +kernel) (by decide +kernel)⟩
def mX1_chairAt : MI := (yX1_chairAt, cX1_chairAt, 2, some ((.object "LiftDrill$Chair")), { frames := 0, cells := 0, slots := 0, locals := 0 })
theorem cb_X1_chairAt : CB mX1_chairAt 1 := ⟨tg 236 (by decide +kernel) (by decide +kernel), by decide +kernel, by decide +kernel, by decide +kernel⟩
theorem cv_X1_chairAt : CV mX1_chairAt 1 := ⟨TX1, 11, rfl, tg 234 (by decide +kernel) (by decide +kernel), tg 235 (by decide +kernel) (by decide +kernel), tg 39 (by decide +kernel) (by decide +kernel)⟩
def mX1_teamAt : MI := (yX1_teamAt, cX1_teamAt, 2, some ((.object "LiftDrill$Team")), { frames := 0, cells := 0, slots := 0, locals := 0 })
theorem cb_X1_teamAt : CB mX1_teamAt 1 := ⟨tg 244 (by decide +kernel) (by decide +kernel), by decide +kernel, by decide +kernel, by decide +kernel⟩
theorem cv_X1_teamAt : CV mX1_teamAt 1 := ⟨TX1, 11, rfl, tg 242 (by decide +kernel) (by decide +kernel), tg 243 (by decide +kernel) (by decide +kernel), tg 39 (by decide +kernel) (by decide +kernel)⟩
def mX1_journalAt : MI := (yX1_journalAt, cX1_journalAt, 2, some (.int), { frames := 0, cells := 0, slots := 0, locals := 0 })
theorem cb_X1_journalAt : CB mX1_journalAt 1 := ⟨tg 404 (by decide +kernel) (by decide +kernel), by decide +kernel, by decide +kernel, by decide +kernel⟩
theorem cv_X1_journalAt : CV mX1_journalAt 1 := ⟨TX1, 11, rfl, tg 402 (by decide +kernel) (by decide +kernel), tg 403 (by decide +kernel) (by decide +kernel), tg 39 (by decide +kernel) (by decide +kernel)⟩
def mX1_wayBehind : MI := (yX1_wayBehind, cX1_wayBehind, 2, some (.int), { frames := 0, cells := 0, slots := 0, locals := 0 })
theorem cb_X1_wayBehind : CB mX1_wayBehind 1 := ⟨tg 307 (by decide +kernel) (by decide +kernel), by decide +kernel, by decide +kernel, by decide +kernel⟩
theorem cv_X1_wayBehind : CV mX1_wayBehind 1 := ⟨TX1, 11, rfl, tg 305 (by decide +kernel) (by decide +kernel), tg 306 (by decide +kernel) (by decide +kernel), tg 39 (by decide +kernel) (by decide +kernel)⟩
def mX1_changeWay : MI := (yX1_changeWay, cX1_changeWay, 3, none, { frames := 0, cells := 0, slots := 0, locals := 0 })
theorem cb_X1_changeWay : CB mX1_changeWay 2 := ⟨tg 544 (by decide +kernel) (by decide +kernel), by decide +kernel, by decide +kernel, by decide +kernel⟩
theorem cv_X1_changeWay : CV mX1_changeWay 1 := ⟨TX1, 11, rfl, tg 542 (by decide +kernel) (by decide +kernel), tg 543 (by decide +kernel) (by decide +kernel), tg 39 (by decide +kernel) (by decide +kernel)⟩
def mX1_wayBetween : MI := (yX1_wayBetween, cX1_wayBetween, 6, some (.int), { frames := 1, cells := 0, slots := 0, locals := 21 })
theorem cb_X1_wayBetween : CB mX1_wayBetween 2 := ⟨tg 303 (by decide +kernel) (by decide +kernel), by decide +kernel, by decide +kernel, by decide +kernel⟩
theorem cv_X1_wayBetween : CV mX1_wayBetween 1 := ⟨TX1, 11, rfl, tg 301 (by decide +kernel) (by decide +kernel), tg 302 (by decide +kernel) (by decide +kernel), tg 39 (by decide +kernel) (by decide +kernel)⟩
def mX1_hangChair : MI := (yX1_hangChair, cX1_hangChair, 6, some (.int), { frames := 2, cells := 0, slots := 0, locals := 44 })
theorem cb_X1_hangChair : CB mX1_hangChair 4 := ⟨tg 348 (by decide +kernel) (by decide +kernel), by decide +kernel, by decide +kernel, by decide +kernel⟩
theorem cv_X1_hangChair : CV mX1_hangChair 1 := ⟨TX1, 11, rfl, tg 346 (by decide +kernel) (by decide +kernel), tg 347 (by decide +kernel) (by decide +kernel), tg 39 (by decide +kernel) (by decide +kernel)⟩
def mX1_sendTeam : MI := (yX1_sendTeam, cX1_sendTeam, 4, some (.int), { frames := 2, cells := 0, slots := 0, locals := 42 })
theorem cb_X1_sendTeam : CB mX1_sendTeam 2 := ⟨tg 320 (by decide +kernel) (by decide +kernel), by decide +kernel, by decide +kernel, by decide +kernel⟩
theorem cv_X1_sendTeam : CV mX1_sendTeam 1 := ⟨TX1, 11, rfl, tg 318 (by decide +kernel) (by decide +kernel), tg 319 (by decide +kernel) (by decide +kernel), tg 39 (by decide +kernel) (by decide +kernel)⟩
def mX1_runOut : MI := (yX1_runOut, cX1_runOut, 3, some (.int), { frames := 5, cells := 0, slots := 0, locals := 120 })
theorem cb_X1_runOut : CB mX1_runOut 0 := ⟨tg 255 (by decide +kernel) (by decide +kernel), by decide +kernel, by decide +kernel, by decide +kernel⟩
theorem cv_X1_runOut : CV mX1_runOut 1 := ⟨TX1, 11, rfl, tg 253 (by decide +kernel) (by decide +kernel), tg 254 (by decide +kernel) (by decide +kernel), tg 39 (by decide +kernel) (by decide +kernel)⟩
def mX1_passMinute : MI := (yX1_passMinute, cX1_passMinute, 2, none, { frames := 4, cells := 0, slots := 0, locals := 99 })
theorem cb_X1_passMinute : CB mX1_passMinute 0 := ⟨tg 259 (by decide +kernel) (by decide +kernel), by decide +kernel, by decide +kernel, by decide +kernel⟩
theorem cv_X1_passMinute : CV mX1_passMinute 1 := ⟨TX1, 11, rfl, tg 257 (by decide +kernel) (by decide +kernel), tg 258 (by decide +kernel) (by decide +kernel), tg 39 (by decide +kernel) (by decide +kernel)⟩
def mX1_growColder : MI := (yX1_growColder, cX1_growColder, 3, none, { frames := 1, cells := 0, slots := 0, locals := 21 })
theorem cb_X1_growColder : CB mX1_growColder 0 := ⟨tg 263 (by decide +kernel) (by decide +kernel), by decide +kernel, by decide +kernel, by decide +kernel⟩
theorem cv_X1_growColder : CV mX1_growColder 1 := ⟨TX1, 11, rfl, tg 261 (by decide +kernel) (by decide +kernel), tg 262 (by decide +kernel) (by decide +kernel), tg 39 (by decide +kernel) (by decide +kernel)⟩
def mX1_goOn : MI := (yX1_goOn, cX1_goOn, 4, none, { frames := 3, cells := 0, slots := 0, locals := 70 })
theorem cb_X1_goOn : CB mX1_goOn 1 := ⟨tg 268 (by decide +kernel) (by decide +kernel), by decide +kernel, by decide +kernel, by decide +kernel⟩
theorem cv_X1_goOn : CV mX1_goOn 1 := ⟨TX1, 11, rfl, tg 266 (by decide +kernel) (by decide +kernel), tg 267 (by decide +kernel) (by decide +kernel), tg 39 (by decide +kernel) (by decide +kernel)⟩
def mX1_takeChair : MI := (yX1_takeChair, cX1_takeChair, 6, none, { frames := 3, cells := 0, slots := 0, locals := 74 })
theorem cb_X1_takeChair : CB mX1_takeChair 1 := ⟨tg 291 (by decide +kernel) (by decide +kernel), by decide +kernel, by decide +kernel, by decide +kernel⟩
theorem cv_X1_takeChair : CV mX1_takeChair 1 := ⟨TX1, 11, rfl, tg 289 (by decide +kernel) (by decide +kernel), tg 290 (by decide +kernel) (by decide +kernel), tg 39 (by decide +kernel) (by decide +kernel)⟩
def mX1_bringDown : MI := (yX1_bringDown, cX1_bringDown, 4, none, { frames := 2, cells := 0, slots := 0, locals := 47 })
theorem cb_X1_bringDown : CB mX1_bringDown 3 := ⟨tg 279 (by decide +kernel) (by decide +kernel), by decide +kernel, by decide +kernel, by decide +kernel⟩
theorem cv_X1_bringDown : CV mX1_bringDown 1 := ⟨TX1, 11, rfl, tg 277 (by decide +kernel) (by decide +kernel), tg 278 (by decide +kernel) (by decide +kernel), tg 39 (by decide +kernel) (by decide +kernel)⟩
def mX1_finish : MI := (yX1_finish, cX1_finish, 4, none, { frames := 1, cells := 0, slots := 0, locals := 21 })
theorem cb_X1_finish : CB mX1_finish 2 := ⟨tg 287 (by decide +kernel) (by decide +kernel), by decide +kernel, by decide +kernel, by decide +kernel⟩
theorem cv_X1_finish : CV mX1_finish 1 := ⟨TX1, 11, rfl, tg 285 (by decide +kernel) (by decide +kernel), tg 286 (by decide +kernel) (by decide +kernel), tg 39 (by decide +kernel) (by decide +kernel)⟩
def mX1_workOf : MI := (yX1_workOf, cX1_workOf, 7, some (.int), { frames := 1, cells := 0, slots := 0, locals := 21 })
theorem cb_X1_workOf : CB mX1_workOf 3 := ⟨tg 283 (by decide +kernel) (by decide +kernel), by decide +kernel, by decide +kernel, by decide +kernel⟩
theorem cv_X1_workOf : CV mX1_workOf 1 := ⟨TX1, 11, rfl, tg 281 (by decide +kernel) (by decide +kernel), tg 282 (by decide +kernel) (by decide +kernel), tg 39 (by decide +kernel) (by decide +kernel)⟩
def mX1_choiceFrom : MI := (yX1_choiceFrom, cX1_choiceFrom, 9, some (.int), { frames := 2, cells := 0, slots := 0, locals := 46 })
theorem cb_X1_choiceFrom : CB mX1_choiceFrom 1 := ⟨tg 295 (by decide +kernel) (by decide +kernel), by decide +kernel, by decide +kernel, by decide +kernel⟩
theorem cv_X1_choiceFrom : CV mX1_choiceFrom 1 := ⟨TX1, 11, rfl, tg 293 (by decide +kernel) (by decide +kernel), tg 294 (by decide +kernel) (by decide +kernel), tg 39 (by decide +kernel) (by decide +kernel)⟩
def mX1_fact : MI := (yX1_fact, cX1_fact, 2, some (.int), { frames := 2, cells := 0, slots := 0, locals := 45 })
theorem cb_X1_fact : CB mX1_fact 1 := ⟨tg 369 (by decide +kernel) (by decide +kernel), by decide +kernel, by decide +kernel, by decide +kernel⟩
theorem cv_X1_fact : CV mX1_fact 1 := ⟨TX1, 11, rfl, tg 367 (by decide +kernel) (by decide +kernel), tg 368 (by decide +kernel) (by decide +kernel), tg 39 (by decide +kernel) (by decide +kernel)⟩
def mX1_chairsIn : MI := (yX1_chairsIn, cX1_chairsIn, 5, some (.int), { frames := 1, cells := 0, slots := 0, locals := 21 })
theorem cb_X1_chairsIn : CB mX1_chairsIn 1 := ⟨tg 373 (by decide +kernel) (by decide +kernel), by decide +kernel, by decide +kernel, by decide +kernel⟩
theorem cv_X1_chairsIn : CV mX1_chairsIn 1 := ⟨TX1, 11, rfl, tg 371 (by decide +kernel) (by decide +kernel), tg 372 (by decide +kernel) (by decide +kernel), tg 39 (by decide +kernel) (by decide +kernel)⟩
def mX1_ridersIn : MI := (yX1_ridersIn, cX1_ridersIn, 5, some (.int), { frames := 1, cells := 0, slots := 0, locals := 21 })
theorem cb_X1_ridersIn : CB mX1_ridersIn 1 := ⟨tg 377 (by decide +kernel) (by decide +kernel), by decide +kernel, by decide +kernel, by decide +kernel⟩
theorem cv_X1_ridersIn : CV mX1_ridersIn 1 := ⟨TX1, 11, rfl, tg 375 (by decide +kernel) (by decide +kernel), tg 376 (by decide +kernel) (by decide +kernel), tg 39 (by decide +kernel) (by decide +kernel)⟩
def mX1_greatestRank : MI := (yX1_greatestRank, cX1_greatestRank, 4, some (.int), { frames := 1, cells := 0, slots := 0, locals := 21 })
theorem cb_X1_greatestRank : CB mX1_greatestRank 0 := ⟨tg 381 (by decide +kernel) (by decide +kernel), by decide +kernel, by decide +kernel, by decide +kernel⟩
theorem cv_X1_greatestRank : CV mX1_greatestRank 1 := ⟨TX1, 11, rfl, tg 379 (by decide +kernel) (by decide +kernel), tg 380 (by decide +kernel) (by decide +kernel), tg 39 (by decide +kernel) (by decide +kernel)⟩
def mX2_init : MI := (yX2_init, cX2_init, 1, none, { frames := 1, cells := 0, slots := 0, locals := 20 })
theorem cb_X2_init : CB mX2_init 0 := ⟨tg 114 (by decide +kernel) (by decide +kernel), by decide +kernel, by decide +kernel, by decide +kernel⟩
def mX2_stand : MI := (yX2_stand, cX2_stand, 3, none, { frames := 1, cells := 0, slots := 0, locals := 20 })
theorem cb_X2_stand : CB mX2_stand 2 := ⟨tg 324 (by decide +kernel) (by decide +kernel), by decide +kernel, by decide +kernel, by decide +kernel⟩
theorem cv_X2_stand : CV mX2_stand 2 := ⟨TX2, 8, rfl, tg 322 (by decide +kernel) (by decide +kernel), tg 323 (by decide +kernel) (by decide +kernel), tg 41 (by decide +kernel) (by decide +kernel)⟩
def mX2_beIdle : MI := (yX2_beIdle, cX2_beIdle, 1, none, { frames := 0, cells := 0, slots := 0, locals := 0 })
theorem cb_X2_beIdle : CB mX2_beIdle 0 := ⟨tg 272 (by decide +kernel) (by decide +kernel), by decide +kernel, by decide +kernel, by decide +kernel⟩
theorem cv_X2_beIdle : CV mX2_beIdle 2 := ⟨TX2, 8, rfl, tg 270 (by decide +kernel) (by decide +kernel), tg 271 (by decide +kernel) (by decide +kernel), tg 41 (by decide +kernel) (by decide +kernel)⟩
def mX2_copyFrom : MI := (yX2_copyFrom, cX2_copyFrom, 2, none, { frames := 0, cells := 0, slots := 0, locals := 0 })
theorem cb_X2_copyFrom : CB mX2_copyFrom 1 := ⟨tg 248 (by decide +kernel) (by decide +kernel), by decide +kernel, by decide +kernel, by decide +kernel⟩
theorem cv_X2_copyFrom : CV mX2_copyFrom 2 := ⟨TX2, 8, rfl, tg 246 (by decide +kernel) (by decide +kernel), tg 247 (by decide +kernel) (by decide +kernel), tg 41 (by decide +kernel) (by decide +kernel)⟩
def mX2_fact : MI := (yX2_fact, cX2_fact, 2, some (.int), { frames := 0, cells := 0, slots := 0, locals := 0 })
theorem cb_X2_fact : CB mX2_fact 1 := ⟨tg 400 (by decide +kernel) (by decide +kernel), by decide +kernel, by decide +kernel, by decide +kernel⟩
theorem cv_X2_fact : CV mX2_fact 2 := ⟨TX2, 8, rfl, tg 398 (by decide +kernel) (by decide +kernel), tg 399 (by decide +kernel) (by decide +kernel), tg 41 (by decide +kernel) (by decide +kernel)⟩
def mX3_init : MI := (yX3_init, cX3_init, 2, none, { frames := 3, cells := 140, slots := 1262, locals := 61 })
theorem cb_X3_init : CB mX3_init 0 := ⟨tg 54 (by decide +kernel) (by decide +kernel), by decide +kernel, by decide +kernel, by decide +kernel⟩
def mX3_addChair : MI := (yX3_addChair, cX3_addChair, 5, some (.int), { frames := 6, cells := 1, slots := 6, locals := 90 })
theorem cb_X3_addChair : CB mX3_addChair 4 := ⟨tg 414 (by decide +kernel) (by decide +kernel), by decide +kernel, by decide +kernel, by decide +kernel⟩
theorem cv_X3_addChair : CV mX3_addChair 3 := ⟨TX3, 7, rfl, tg 412 (by decide +kernel) (by decide +kernel), tg 413 (by decide +kernel) (by decide +kernel), tg 38 (by decide +kernel) (by decide +kernel)⟩
def mX3_addTeam : MI := (yX3_addTeam, cX3_addTeam, 3, some (.int), { frames := 6, cells := 1, slots := 6, locals := 90 })
theorem cb_X3_addTeam : CB mX3_addTeam 2 := ⟨tg 525 (by decide +kernel) (by decide +kernel), by decide +kernel, by decide +kernel, by decide +kernel⟩
theorem cv_X3_addTeam : CV mX3_addTeam 3 := ⟨TX3, 7, rfl, tg 523 (by decide +kernel) (by decide +kernel), tg 524 (by decide +kernel) (by decide +kernel), tg 38 (by decide +kernel) (by decide +kernel)⟩
def mX3_setWay : MI := (yX3_setWay, cX3_setWay, 4, some (.int), { frames := 6, cells := 1, slots := 6, locals := 90 })
theorem cb_X3_setWay : CB mX3_setWay 2 := ⟨tg 534 (by decide +kernel) (by decide +kernel), by decide +kernel, by decide +kernel, by decide +kernel⟩
theorem cv_X3_setWay : CV mX3_setWay 3 := ⟨TX3, 7, rfl, tg 532 (by decide +kernel) (by decide +kernel), tg 533 (by decide +kernel) (by decide +kernel), tg 38 (by decide +kernel) (by decide +kernel)⟩
def mX3_setCold : MI := (yX3_setCold, cX3_setCold, 5, some (.int), { frames := 6, cells := 1, slots := 6, locals := 90 })
theorem cb_X3_setCold : CB mX3_setCold 2 := ⟨tg 551 (by decide +kernel) (by decide +kernel), by decide +kernel, by decide +kernel, by decide +kernel⟩
theorem cv_X3_setCold : CV mX3_setCold 3 := ⟨TX3, 7, rfl, tg 549 (by decide +kernel) (by decide +kernel), tg 550 (by decide +kernel) (by decide +kernel), tg 38 (by decide +kernel) (by decide +kernel)⟩
def mX3_callOff : MI := (yX3_callOff, cX3_callOff, 5, some (.int), { frames := 6, cells := 1, slots := 6, locals := 90 })
theorem cb_X3_callOff : CB mX3_callOff 1 := ⟨tg 561 (by decide +kernel) (by decide +kernel), by decide +kernel, by decide +kernel, by decide +kernel⟩
theorem cv_X3_callOff : CV mX3_callOff 3 := ⟨TX3, 7, rfl, tg 559 (by decide +kernel) (by decide +kernel), tg 560 (by decide +kernel) (by decide +kernel), tg 38 (by decide +kernel) (by decide +kernel)⟩
def mX3_pass : MI := (yX3_pass, cX3_pass, 4, some (.int), { frames := 6, cells := 1, slots := 6, locals := 120 })
theorem cb_X3_pass : CB mX3_pass 1 := ⟨tg 571 (by decide +kernel) (by decide +kernel), by decide +kernel, by decide +kernel, by decide +kernel⟩
theorem cv_X3_pass : CV mX3_pass 3 := ⟨TX3, 7, rfl, tg 569 (by decide +kernel) (by decide +kernel), tg 570 (by decide +kernel) (by decide +kernel), tg 38 (by decide +kernel) (by decide +kernel)⟩
def mX3_tell : MI := (yX3_tell, cX3_tell, 5, some (.int), { frames := 6, cells := 0, slots := 0, locals := 142 })
theorem cb_X3_tell : CB mX3_tell 0 := ⟨tg 220 (by decide +kernel) (by decide +kernel), by decide +kernel, by decide +kernel, by decide +kernel⟩
theorem cv_X3_tell : CV mX3_tell 3 := ⟨TX3, 7, rfl, tg 218 (by decide +kernel) (by decide +kernel), tg 219 (by decide +kernel) (by decide +kernel), tg 38 (by decide +kernel) (by decide +kernel)⟩
def mX3_chair : MI := (yX3_chair, cX3_chair, 4, some (.int), { frames := 6, cells := 1, slots := 6, locals := 90 })
theorem cb_X3_chair : CB mX3_chair 2 := ⟨tg 580 (by decide +kernel) (by decide +kernel), by decide +kernel, by decide +kernel, by decide +kernel⟩
theorem cv_X3_chair : CV mX3_chair 3 := ⟨TX3, 7, rfl, tg 578 (by decide +kernel) (by decide +kernel), tg 579 (by decide +kernel) (by decide +kernel), tg 38 (by decide +kernel) (by decide +kernel)⟩
def mX3_team : MI := (yX3_team, cX3_team, 4, some (.int), { frames := 6, cells := 1, slots := 6, locals := 90 })
theorem cb_X3_team : CB mX3_team 2 := ⟨tg 588 (by decide +kernel) (by decide +kernel), by decide +kernel, by decide +kernel, by decide +kernel⟩
theorem cv_X3_team : CV mX3_team 3 := ⟨TX3, 7, rfl, tg 586 (by decide +kernel) (by decide +kernel), tg 587 (by decide +kernel) (by decide +kernel), tg 38 (by decide +kernel) (by decide +kernel)⟩
def mX3_value : MI := (yX3_value, cX3_value, 2, some (.int), { frames := 6, cells := 1, slots := 6, locals := 90 })
theorem cb_X3_value : CB mX3_value 1 := ⟨tg 595 (by decide +kernel) (by decide +kernel), by decide +kernel, by decide +kernel, by decide +kernel⟩
theorem cv_X3_value : CV mX3_value 3 := ⟨TX3, 7, rfl, tg 593 (by decide +kernel) (by decide +kernel), tg 594 (by decide +kernel) (by decide +kernel), tg 38 (by decide +kernel) (by decide +kernel)⟩
def mX3_way : MI := (yX3_way, cX3_way, 3, some (.int), { frames := 6, cells := 1, slots := 6, locals := 90 })
theorem cb_X3_way : CB mX3_way 2 := ⟨tg 602 (by decide +kernel) (by decide +kernel), by decide +kernel, by decide +kernel, by decide +kernel⟩
theorem cv_X3_way : CV mX3_way 3 := ⟨TX3, 7, rfl, tg 600 (by decide +kernel) (by decide +kernel), tg 601 (by decide +kernel) (by decide +kernel), tg 38 (by decide +kernel) (by decide +kernel)⟩
def mX3_work : MI := (yX3_work, cX3_work, 5, some (.int), { frames := 6, cells := 1, slots := 6, locals := 90 })
theorem cb_X3_work : CB mX3_work 2 := ⟨tg 610 (by decide +kernel) (by decide +kernel), by decide +kernel, by decide +kernel, by decide +kernel⟩
theorem cv_X3_work : CV mX3_work 3 := ⟨TX3, 7, rfl, tg 608 (by decide +kernel) (by decide +kernel), tg 609 (by decide +kernel) (by decide +kernel), tg 38 (by decide +kernel) (by decide +kernel)⟩
def mX3_journal : MI := (yX3_journal, cX3_journal, 2, some (.int), { frames := 6, cells := 1, slots := 6, locals := 90 })
theorem cb_X3_journal : CB mX3_journal 1 := ⟨tg 619 (by decide +kernel) (by decide +kernel), by decide +kernel, by decide +kernel, by decide +kernel⟩
theorem cv_X3_journal : CV mX3_journal 3 := ⟨TX3, 7, rfl, tg 617 (by decide +kernel) (by decide +kernel), tg 618 (by decide +kernel) (by decide +kernel), tg 38 (by decide +kernel) (by decide +kernel)⟩
def mX3_minuteOf : MI := (yX3_minuteOf, cX3_minuteOf, 4, some (.int), { frames := 6, cells := 1, slots := 6, locals := 142 })
theorem cb_X3_minuteOf : CB mX3_minuteOf 1 := ⟨tg 627 (by decide +kernel) (by decide +kernel), by decide +kernel, by decide +kernel, by decide +kernel⟩
theorem cv_X3_minuteOf : CV mX3_minuteOf 3 := ⟨TX3, 7, rfl, tg 625 (by decide +kernel) (by decide +kernel), tg 626 (by decide +kernel) (by decide +kernel), tg 38 (by decide +kernel) (by decide +kernel)⟩
def mX3_minutesToAll : MI := (yX3_minutesToAll, cX3_minutesToAll, 1, some (.int), { frames := 6, cells := 0, slots := 0, locals := 142 })
theorem cb_X3_minutesToAll : CB mX3_minutesToAll 0 := ⟨tg 312 (by decide +kernel) (by decide +kernel), by decide +kernel, by decide +kernel, by decide +kernel⟩
theorem cv_X3_minutesToAll : CV mX3_minutesToAll 3 := ⟨TX3, 7, rfl, tg 310 (by decide +kernel) (by decide +kernel), tg 311 (by decide +kernel) (by decide +kernel), tg 38 (by decide +kernel) (by decide +kernel)⟩
def mX3_bestSpan : MI := (yX3_bestSpan, cX3_bestSpan, 5, some (.int), { frames := 6, cells := 0, slots := 0, locals := 142 })
theorem cb_X3_bestSpan : CB mX3_bestSpan 0 := ⟨tg 316 (by decide +kernel) (by decide +kernel), by decide +kernel, by decide +kernel, by decide +kernel⟩
theorem cv_X3_bestSpan : CV mX3_bestSpan 3 := ⟨TX3, 7, rfl, tg 314 (by decide +kernel) (by decide +kernel), tg 315 (by decide +kernel) (by decide +kernel), tg 38 (by decide +kernel) (by decide +kernel)⟩
def mX3_chosen : MI := (yX3_chosen, cX3_chosen, 2, some (.int), { frames := 6, cells := 1, slots := 6, locals := 90 })
theorem cb_X3_chosen : CB mX3_chosen 1 := ⟨tg 634 (by decide +kernel) (by decide +kernel), by decide +kernel, by decide +kernel, by decide +kernel⟩
theorem cv_X3_chosen : CV mX3_chosen 3 := ⟨TX3, 7, rfl, tg 632 (by decide +kernel) (by decide +kernel), tg 633 (by decide +kernel) (by decide +kernel), tg 38 (by decide +kernel) (by decide +kernel)⟩
def mX3_meanCold : MI := (yX3_meanCold, cX3_meanCold, 5, some (.double), { frames := 1, cells := 0, slots := 0, locals := 21 })
theorem cb_X3_meanCold : CB mX3_meanCold 0 := ⟨tg 329 (by decide +kernel) (by decide +kernel), by decide +kernel, by decide +kernel, by decide +kernel⟩
theorem cv_X3_meanCold : CV mX3_meanCold 3 := ⟨TX3, 7, rfl, tg 327 (by decide +kernel) (by decide +kernel), tg 328 (by decide +kernel) (by decide +kernel), tg 38 (by decide +kernel) (by decide +kernel)⟩
def mX3_append : MI := (yX3_append, cX3_append, 2, some (.int), { frames := 6, cells := 1, slots := 6, locals := 90 })
theorem cb_X3_append : CB mX3_append 1 := ⟨tg 642 (by decide +kernel) (by decide +kernel), by decide +kernel, by decide +kernel, by decide +kernel⟩
theorem cv_X3_append : CV mX3_append 3 := ⟨TX3, 7, rfl, tg 640 (by decide +kernel) (by decide +kernel), tg 641 (by decide +kernel) (by decide +kernel), tg 38 (by decide +kernel) (by decide +kernel)⟩
def mX3_clearText : MI := (yX3_clearText, cX3_clearText, 2, some (.int), { frames := 0, cells := 0, slots := 0, locals := 0 })
theorem cb_X3_clearText : CB mX3_clearText 0 := ⟨tg 333 (by decide +kernel) (by decide +kernel), by decide +kernel, by decide +kernel, by decide +kernel⟩
theorem cv_X3_clearText : CV mX3_clearText 3 := ⟨TX3, 7, rfl, tg 331 (by decide +kernel) (by decide +kernel), tg 332 (by decide +kernel) (by decide +kernel), tg 38 (by decide +kernel) (by decide +kernel)⟩
def mX3_parse : MI := (yX3_parse, cX3_parse, 2, some (.int), { frames := 5, cells := 0, slots := 0, locals := 115 })
theorem cb_X3_parse : CB mX3_parse 0 := ⟨tg 337 (by decide +kernel) (by decide +kernel), by decide +kernel, by decide +kernel, by decide +kernel⟩
theorem cv_X3_parse : CV mX3_parse 3 := ⟨TX3, 7, rfl, tg 335 (by decide +kernel) (by decide +kernel), tg 336 (by decide +kernel) (by decide +kernel), tg 38 (by decide +kernel) (by decide +kernel)⟩
def mX3_undo : MI := (yX3_undo, cX3_undo, 2, some (.int), { frames := 6, cells := 1, slots := 6, locals := 90 })
theorem cb_X3_undo : CB mX3_undo 0 := ⟨tg 651 (by decide +kernel) (by decide +kernel), by decide +kernel, by decide +kernel, by decide +kernel⟩
theorem cv_X3_undo : CV mX3_undo 3 := ⟨TX3, 7, rfl, tg 649 (by decide +kernel) (by decide +kernel), tg 650 (by decide +kernel) (by decide +kernel), tg 38 (by decide +kernel) (by decide +kernel)⟩
def mX3_digest : MI := (yX3_digest, cX3_digest, 5, some (.long), { frames := 6, cells := 0, slots := 0, locals := 142 })
theorem cb_X3_digest : CB mX3_digest 0 := ⟨tg 360 (by decide +kernel) (by decide +kernel), by decide +kernel, by decide +kernel, by decide +kernel⟩
theorem cv_X3_digest : CV mX3_digest 3 := ⟨TX3, 7, rfl, tg 358 (by decide +kernel) (by decide +kernel), tg 359 (by decide +kernel) (by decide +kernel), tg 38 (by decide +kernel) (by decide +kernel)⟩
def mX3_mix : MI := (yX3_mix, cX3_mix, 3, some (.long), { frames := 0, cells := 0, slots := 0, locals := 0 })
theorem cb_X3_mix : CB mX3_mix 2 := ⟨tg 364 (by decide +kernel) (by decide +kernel), by decide +kernel, by decide +kernel, by decide +kernel⟩
theorem cs_X3_mix : CS mX3_mix := ⟨tg 363 (by decide +kernel) (by decide +kernel), tg 38 (by decide +kernel) (by decide +kernel)⟩
def mX3_mixChairs : MI := (yX3_mixChairs, cX3_mixChairs, 9, some (.long), { frames := 2, cells := 0, slots := 0, locals := 41 })
theorem cb_X3_mixChairs : CB mX3_mixChairs 1 := ⟨tg 386 (by decide +kernel) (by decide +kernel), by decide +kernel, by decide +kernel, by decide +kernel⟩
theorem cv_X3_mixChairs : CV mX3_mixChairs 3 := ⟨TX3, 7, rfl, tg 385 (by decide +kernel) (by decide +kernel), tg 3 (by decide +kernel) (by decide +kernel), tg 38 (by decide +kernel) (by decide +kernel)⟩
def mX3_mixTeams : MI := (yX3_mixTeams, cX3_mixTeams, 8, some (.long), { frames := 1, cells := 0, slots := 0, locals := 22 })
theorem cb_X3_mixTeams : CB mX3_mixTeams 1 := ⟨tg 395 (by decide +kernel) (by decide +kernel), by decide +kernel, by decide +kernel, by decide +kernel⟩
theorem cv_X3_mixTeams : CV mX3_mixTeams 3 := ⟨TX3, 7, rfl, tg 394 (by decide +kernel) (by decide +kernel), tg 4 (by decide +kernel) (by decide +kernel), tg 38 (by decide +kernel) (by decide +kernel)⟩
def mX3_save : MI := (yX3_save, cX3_save, 2, none, { frames := 2, cells := 0, slots := 0, locals := 45 })
theorem cb_X3_save : CB mX3_save 0 := ⟨tg 224 (by decide +kernel) (by decide +kernel), by decide +kernel, by decide +kernel, by decide +kernel⟩
theorem cv_X3_save : CV mX3_save 3 := ⟨TX3, 7, rfl, tg 223 (by decide +kernel) (by decide +kernel), tg 0 (by decide +kernel) (by decide +kernel), tg 38 (by decide +kernel) (by decide +kernel)⟩
def mX3_savedAt : MI := (yX3_savedAt, cX3_savedAt, 2, some ((.object "LiftDrill$Line")), { frames := 0, cells := 0, slots := 0, locals := 0 })
theorem cb_X3_savedAt : CB mX3_savedAt 1 := ⟨tg 228 (by decide +kernel) (by decide +kernel), by decide +kernel, by decide +kernel, by decide +kernel⟩
theorem cv_X3_savedAt : CV mX3_savedAt 3 := ⟨TX3, 7, rfl, tg 227 (by decide +kernel) (by decide +kernel), tg 1 (by decide +kernel) (by decide +kernel), tg 38 (by decide +kernel) (by decide +kernel)⟩
def mX3_readText : MI := (yX3_readText, cX3_readText, 4, some (.int), { frames := 4, cells := 0, slots := 0, locals := 92 })
theorem cb_X3_readText : CB mX3_readText 1 := ⟨tg 341 (by decide +kernel) (by decide +kernel), by decide +kernel, by decide +kernel, by decide +kernel⟩
theorem cv_X3_readText : CV mX3_readText 3 := ⟨TX3, 7, rfl, tg 340 (by decide +kernel) (by decide +kernel), tg 2 (by decide +kernel) (by decide +kernel), tg 38 (by decide +kernel) (by decide +kernel)⟩
def mX3_readByte : MI := (yX3_readByte, cX3_readByte, 4, some (.int), { frames := 3, cells := 0, slots := 0, locals := 69 })
theorem cb_X3_readByte : CB mX3_readByte 3 := ⟨tg 344 (by decide +kernel) (by decide +kernel), by decide +kernel, by decide +kernel, by decide +kernel⟩
theorem cs_X3_readByte : CS mX3_readByte := ⟨tg 343 (by decide +kernel) (by decide +kernel), tg 38 (by decide +kernel) (by decide +kernel)⟩
def mX4_init : MI := (yX4_init, cX4_init, 2, none, { frames := 1, cells := 6, slots := 1311, locals := 20 })
theorem cb_X4_init : CB mX4_init 0 := ⟨tg 657 (by decide +kernel) (by decide +kernel), by decide +kernel, by decide +kernel, by decide +kernel⟩
def mX4_thrown : MI := (yX4_thrown, cX4_thrown, 1, some (.int), { frames := 0, cells := 0, slots := 0, locals := 0 })
theorem cb_X4_thrown : CB mX4_thrown 0 := ⟨tg 699 (by decide +kernel) (by decide +kernel), by decide +kernel, by decide +kernel, by decide +kernel⟩
theorem cv_X4_thrown : CV mX4_thrown 4 := ⟨TX4, 12, rfl, tg 697 (by decide +kernel) (by decide +kernel), tg 698 (by decide +kernel) (by decide +kernel), tg 42 (by decide +kernel) (by decide +kernel)⟩
def mX4_in : MI := (yX4_in, cX4_in, 3, some (.boolean), { frames := 0, cells := 0, slots := 0, locals := 0 })
theorem cb_X4_in : CB mX4_in 3 := ⟨tg 714 (by decide +kernel) (by decide +kernel), by decide +kernel, by decide +kernel, by decide +kernel⟩
theorem cs_X4_in : CS mX4_in := ⟨tg 713 (by decide +kernel) (by decide +kernel), tg 42 (by decide +kernel) (by decide +kernel)⟩
def mX4_fails : MI := (yX4_fails, cX4_fails, 2, some (.int), { frames := 0, cells := 0, slots := 0, locals := 0 })
theorem cb_X4_fails : CB mX4_fails 1 := ⟨tg 711 (by decide +kernel) (by decide +kernel), by decide +kernel, by decide +kernel, by decide +kernel⟩
theorem cv_X4_fails : CV mX4_fails 4 := ⟨TX4, 12, rfl, tg 710 (by decide +kernel) (by decide +kernel), tg 7 (by decide +kernel) (by decide +kernel), tg 42 (by decide +kernel) (by decide +kernel)⟩
def mX4_tells : MI := (yX4_tells, cX4_tells, 2, some (.int), { frames := 0, cells := 0, slots := 0, locals := 0 })
theorem cb_X4_tells : CB mX4_tells 1 := ⟨tg 737 (by decide +kernel) (by decide +kernel), by decide +kernel, by decide +kernel, by decide +kernel⟩
theorem cv_X4_tells : CV mX4_tells 4 := ⟨TX4, 12, rfl, tg 736 (by decide +kernel) (by decide +kernel), tg 12 (by decide +kernel) (by decide +kernel), tg 42 (by decide +kernel) (by decide +kernel)⟩
def mX4_copies : MI := (yX4_copies, cX4_copies, 3, none, { frames := 0, cells := 0, slots := 0, locals := 0 })
theorem cb_X4_copies : CB mX4_copies 2 := ⟨tg 721 (by decide +kernel) (by decide +kernel), by decide +kernel, by decide +kernel, by decide +kernel⟩
theorem cs_X4_copies : CS mX4_copies := ⟨tg 720 (by decide +kernel) (by decide +kernel), tg 42 (by decide +kernel) (by decide +kernel)⟩
def mX4_hold : MI := (yX4_hold, cX4_hold, 1, none, { frames := 1, cells := 0, slots := 0, locals := 22 })
theorem cb_X4_hold : CB mX4_hold 0 := ⟨tg 718 (by decide +kernel) (by decide +kernel), by decide +kernel, by decide +kernel, by decide +kernel⟩
theorem cv_X4_hold : CV mX4_hold 4 := ⟨TX4, 12, rfl, tg 717 (by decide +kernel) (by decide +kernel), tg 8 (by decide +kernel) (by decide +kernel), tg 42 (by decide +kernel) (by decide +kernel)⟩
def mX4_ends : MI := (yX4_ends, cX4_ends, 3, some (.int), { frames := 1, cells := 0, slots := 0, locals := 21 })
theorem cb_X4_ends : CB mX4_ends 1 := ⟨tg 733 (by decide +kernel) (by decide +kernel), by decide +kernel, by decide +kernel, by decide +kernel⟩
theorem cv_X4_ends : CV mX4_ends 4 := ⟨TX4, 12, rfl, tg 732 (by decide +kernel) (by decide +kernel), tg 11 (by decide +kernel) (by decide +kernel), tg 42 (by decide +kernel) (by decide +kernel)⟩
def mX4_isSpan : MI := (yX4_isSpan, cX4_isSpan, 2, some (.boolean), { frames := 0, cells := 0, slots := 0, locals := 0 })
theorem cb_X4_isSpan : CB mX4_isSpan 1 := ⟨tg 707 (by decide +kernel) (by decide +kernel), by decide +kernel, by decide +kernel, by decide +kernel⟩
theorem cv_X4_isSpan : CV mX4_isSpan 4 := ⟨TX4, 12, rfl, tg 706 (by decide +kernel) (by decide +kernel), tg 6 (by decide +kernel) (by decide +kernel), tg 42 (by decide +kernel) (by decide +kernel)⟩
def mX4_isChair : MI := (yX4_isChair, cX4_isChair, 2, some (.boolean), { frames := 0, cells := 0, slots := 0, locals := 0 })
theorem cb_X4_isChair : CB mX4_isChair 1 := ⟨tg 761 (by decide +kernel) (by decide +kernel), by decide +kernel, by decide +kernel, by decide +kernel⟩
theorem cv_X4_isChair : CV mX4_isChair 4 := ⟨TX4, 12, rfl, tg 760 (by decide +kernel) (by decide +kernel), tg 15 (by decide +kernel) (by decide +kernel), tg 42 (by decide +kernel) (by decide +kernel)⟩
def mX4_isTeam : MI := (yX4_isTeam, cX4_isTeam, 2, some (.boolean), { frames := 0, cells := 0, slots := 0, locals := 0 })
theorem cb_X4_isTeam : CB mX4_isTeam 1 := ⟨tg 773 (by decide +kernel) (by decide +kernel), by decide +kernel, by decide +kernel, by decide +kernel⟩
theorem cv_X4_isTeam : CV mX4_isTeam 4 := ⟨TX4, 12, rfl, tg 772 (by decide +kernel) (by decide +kernel), tg 17 (by decide +kernel) (by decide +kernel), tg 42 (by decide +kernel) (by decide +kernel)⟩
def mX4_of : MI := (yX4_of, cX4_of, 3, some (.int), { frames := 0, cells := 0, slots := 0, locals := 0 })
theorem cb_X4_of : CB mX4_of 2 := ⟨tg 765 (by decide +kernel) (by decide +kernel), by decide +kernel, by decide +kernel, by decide +kernel⟩
theorem cv_X4_of : CV mX4_of 4 := ⟨TX4, 12, rfl, tg 764 (by decide +kernel) (by decide +kernel), tg 16 (by decide +kernel) (by decide +kernel), tg 42 (by decide +kernel) (by decide +kernel)⟩
def mX4_puts : MI := (yX4_puts, cX4_puts, 4, none, { frames := 0, cells := 0, slots := 0, locals := 0 })
theorem cb_X4_puts : CB mX4_puts 3 := ⟨tg 729 (by decide +kernel) (by decide +kernel), by decide +kernel, by decide +kernel, by decide +kernel⟩
theorem cv_X4_puts : CV mX4_puts 4 := ⟨TX4, 12, rfl, tg 728 (by decide +kernel) (by decide +kernel), tg 10 (by decide +kernel) (by decide +kernel), tg 42 (by decide +kernel) (by decide +kernel)⟩
def mX4_ofTeam : MI := (yX4_ofTeam, cX4_ofTeam, 3, some (.int), { frames := 0, cells := 0, slots := 0, locals := 0 })
theorem cb_X4_ofTeam : CB mX4_ofTeam 2 := ⟨tg 777 (by decide +kernel) (by decide +kernel), by decide +kernel, by decide +kernel, by decide +kernel⟩
theorem cv_X4_ofTeam : CV mX4_ofTeam 4 := ⟨TX4, 12, rfl, tg 776 (by decide +kernel) (by decide +kernel), tg 18 (by decide +kernel) (by decide +kernel), tg 42 (by decide +kernel) (by decide +kernel)⟩
def mX4_putsTeam : MI := (yX4_putsTeam, cX4_putsTeam, 4, none, { frames := 0, cells := 0, slots := 0, locals := 0 })
theorem cb_X4_putsTeam : CB mX4_putsTeam 3 := ⟨tg 749 (by decide +kernel) (by decide +kernel), by decide +kernel, by decide +kernel, by decide +kernel⟩
theorem cv_X4_putsTeam : CV mX4_putsTeam 4 := ⟨TX4, 12, rfl, tg 748 (by decide +kernel) (by decide +kernel), tg 14 (by decide +kernel) (by decide +kernel), tg 42 (by decide +kernel) (by decide +kernel)⟩
def mX4_wayOf : MI := (yX4_wayOf, cX4_wayOf, 6, some (.int), { frames := 0, cells := 0, slots := 0, locals := 0 })
theorem cb_X4_wayOf : CB mX4_wayOf 2 := ⟨tg 817 (by decide +kernel) (by decide +kernel), by decide +kernel, by decide +kernel, by decide +kernel⟩
theorem cv_X4_wayOf : CV mX4_wayOf 4 := ⟨TX4, 12, rfl, tg 816 (by decide +kernel) (by decide +kernel), tg 27 (by decide +kernel) (by decide +kernel), tg 42 (by decide +kernel) (by decide +kernel)⟩
def mX4_rankOf : MI := (yX4_rankOf, cX4_rankOf, 2, some (.int), { frames := 1, cells := 0, slots := 0, locals := 22 })
theorem cb_X4_rankOf : CB mX4_rankOf 1 := ⟨tg 813 (by decide +kernel) (by decide +kernel), by decide +kernel, by decide +kernel, by decide +kernel⟩
theorem cv_X4_rankOf : CV mX4_rankOf 4 := ⟨TX4, 12, rfl, tg 812 (by decide +kernel) (by decide +kernel), tg 26 (by decide +kernel) (by decide +kernel), tg 42 (by decide +kernel) (by decide +kernel)⟩
def mX4_workOf : MI := (yX4_workOf, cX4_workOf, 6, some (.int), { frames := 1, cells := 0, slots := 0, locals := 22 })
theorem cb_X4_workOf : CB mX4_workOf 2 := ⟨tg 797 (by decide +kernel) (by decide +kernel), by decide +kernel, by decide +kernel, by decide +kernel⟩
theorem cv_X4_workOf : CV mX4_workOf 4 := ⟨TX4, 12, rfl, tg 796 (by decide +kernel) (by decide +kernel), tg 22 (by decide +kernel) (by decide +kernel), tg 42 (by decide +kernel) (by decide +kernel)⟩
def mX4_choiceAt : MI := (yX4_choiceAt, cX4_choiceAt, 6, some (.int), { frames := 2, cells := 0, slots := 0, locals := 43 })
theorem cb_X4_choiceAt : CB mX4_choiceAt 1 := ⟨tg 809 (by decide +kernel) (by decide +kernel), by decide +kernel, by decide +kernel, by decide +kernel⟩
theorem cv_X4_choiceAt : CV mX4_choiceAt 4 := ⟨TX4, 12, rfl, tg 808 (by decide +kernel) (by decide +kernel), tg 25 (by decide +kernel) (by decide +kernel), tg 42 (by decide +kernel) (by decide +kernel)⟩
def mX4_begins : MI := (yX4_begins, cX4_begins, 4, none, { frames := 1, cells := 0, slots := 0, locals := 23 })
theorem cb_X4_begins : CB mX4_begins 3 := ⟨tg 781 (by decide +kernel) (by decide +kernel), by decide +kernel, by decide +kernel, by decide +kernel⟩
theorem cv_X4_begins : CV mX4_begins 4 := ⟨TX4, 12, rfl, tg 780 (by decide +kernel) (by decide +kernel), tg 19 (by decide +kernel) (by decide +kernel), tg 42 (by decide +kernel) (by decide +kernel)⟩
def mX4_empties : MI := (yX4_empties, cX4_empties, 6, none, { frames := 2, cells := 0, slots := 0, locals := 46 })
theorem cb_X4_empties : CB mX4_empties 1 := ⟨tg 801 (by decide +kernel) (by decide +kernel), by decide +kernel, by decide +kernel, by decide +kernel⟩
theorem cv_X4_empties : CV mX4_empties 4 := ⟨TX4, 12, rfl, tg 800 (by decide +kernel) (by decide +kernel), tg 23 (by decide +kernel) (by decide +kernel), tg 42 (by decide +kernel) (by decide +kernel)⟩
def mX4_goesOn : MI := (yX4_goesOn, cX4_goesOn, 5, none, { frames := 3, cells := 0, slots := 0, locals := 71 })
theorem cb_X4_goesOn : CB mX4_goesOn 1 := ⟨tg 793 (by decide +kernel) (by decide +kernel), by decide +kernel, by decide +kernel, by decide +kernel⟩
theorem cv_X4_goesOn : CV mX4_goesOn 4 := ⟨TX4, 12, rfl, tg 792 (by decide +kernel) (by decide +kernel), tg 21 (by decide +kernel) (by decide +kernel), tg 42 (by decide +kernel) (by decide +kernel)⟩
def mX4_takes : MI := (yX4_takes, cX4_takes, 4, none, { frames := 3, cells := 0, slots := 0, locals := 68 })
theorem cb_X4_takes : CB mX4_takes 1 := ⟨tg 805 (by decide +kernel) (by decide +kernel), by decide +kernel, by decide +kernel, by decide +kernel⟩
theorem cv_X4_takes : CV mX4_takes 4 := ⟨TX4, 12, rfl, tg 804 (by decide +kernel) (by decide +kernel), tg 24 (by decide +kernel) (by decide +kernel), tg 42 (by decide +kernel) (by decide +kernel)⟩
def mX4_minute : MI := (yX4_minute, cX4_minute, 3, none, { frames := 4, cells := 0, slots := 0, locals := 95 })
theorem cb_X4_minute : CB mX4_minute 0 := ⟨tg 789 (by decide +kernel) (by decide +kernel), by decide +kernel, by decide +kernel, by decide +kernel⟩
theorem cv_X4_minute : CV mX4_minute 4 := ⟨TX4, 12, rfl, tg 788 (by decide +kernel) (by decide +kernel), tg 20 (by decide +kernel) (by decide +kernel), tg 42 (by decide +kernel) (by decide +kernel)⟩
def mX4_foresees : MI := (yX4_foresees, cX4_foresees, 2, none, { frames := 5, cells := 0, slots := 0, locals := 117 })
theorem cb_X4_foresees : CB mX4_foresees 0 := ⟨tg 825 (by decide +kernel) (by decide +kernel), by decide +kernel, by decide +kernel, by decide +kernel⟩
theorem cv_X4_foresees : CV mX4_foresees 4 := ⟨TX4, 12, rfl, tg 824 (by decide +kernel) (by decide +kernel), tg 28 (by decide +kernel) (by decide +kernel), tg 42 (by decide +kernel) (by decide +kernel)⟩
def mX4_addsChair : MI := (yX4_addsChair, cX4_addsChair, 6, none, { frames := 1, cells := 0, slots := 0, locals := 23 })
theorem cb_X4_addsChair : CB mX4_addsChair 4 := ⟨tg 725 (by decide +kernel) (by decide +kernel), by decide +kernel, by decide +kernel, by decide +kernel⟩
theorem cv_X4_addsChair : CV mX4_addsChair 4 := ⟨TX4, 12, rfl, tg 724 (by decide +kernel) (by decide +kernel), tg 9 (by decide +kernel) (by decide +kernel), tg 42 (by decide +kernel) (by decide +kernel)⟩
def mX4_addChair : MI := (yX4_addChair, cX4_addChair, 5, some (.int), { frames := 2, cells := 0, slots := 0, locals := 48 })
theorem cb_X4_addChair : CB mX4_addChair 4 := ⟨tg 703 (by decide +kernel) (by decide +kernel), by decide +kernel, by decide +kernel, by decide +kernel⟩
theorem cv_X4_addChair : CV mX4_addChair 4 := ⟨TX4, 12, rfl, tg 701 (by decide +kernel) (by decide +kernel), tg 702 (by decide +kernel) (by decide +kernel), tg 42 (by decide +kernel) (by decide +kernel)⟩
def mX4_addsTeam : MI := (yX4_addsTeam, cX4_addsTeam, 5, none, { frames := 1, cells := 0, slots := 0, locals := 23 })
theorem cb_X4_addsTeam : CB mX4_addsTeam 2 := ⟨tg 745 (by decide +kernel) (by decide +kernel), by decide +kernel, by decide +kernel, by decide +kernel⟩
theorem cv_X4_addsTeam : CV mX4_addsTeam 4 := ⟨TX4, 12, rfl, tg 744 (by decide +kernel) (by decide +kernel), tg 13 (by decide +kernel) (by decide +kernel), tg 42 (by decide +kernel) (by decide +kernel)⟩
def mX4_addTeam : MI := (yX4_addTeam, cX4_addTeam, 3, some (.int), { frames := 2, cells := 0, slots := 0, locals := 47 })
theorem cb_X4_addTeam : CB mX4_addTeam 2 := ⟨tg 741 (by decide +kernel) (by decide +kernel), by decide +kernel, by decide +kernel, by decide +kernel⟩
theorem cv_X4_addTeam : CV mX4_addTeam 4 := ⟨TX4, 12, rfl, tg 739 (by decide +kernel) (by decide +kernel), tg 740 (by decide +kernel) (by decide +kernel), tg 42 (by decide +kernel) (by decide +kernel)⟩
def mX4_setWay : MI := (yX4_setWay, cX4_setWay, 4, some (.int), { frames := 2, cells := 0, slots := 0, locals := 43 })
theorem cb_X4_setWay : CB mX4_setWay 2 := ⟨tg 753 (by decide +kernel) (by decide +kernel), by decide +kernel, by decide +kernel, by decide +kernel⟩
theorem cv_X4_setWay : CV mX4_setWay 4 := ⟨TX4, 12, rfl, tg 751 (by decide +kernel) (by decide +kernel), tg 752 (by decide +kernel) (by decide +kernel), tg 42 (by decide +kernel) (by decide +kernel)⟩
def mX4_setCold : MI := (yX4_setCold, cX4_setCold, 4, some (.int), { frames := 2, cells := 0, slots := 0, locals := 43 })
theorem cb_X4_setCold : CB mX4_setCold 2 := ⟨tg 757 (by decide +kernel) (by decide +kernel), by decide +kernel, by decide +kernel, by decide +kernel⟩
theorem cv_X4_setCold : CV mX4_setCold 4 := ⟨TX4, 12, rfl, tg 755 (by decide +kernel) (by decide +kernel), tg 756 (by decide +kernel) (by decide +kernel), tg 42 (by decide +kernel) (by decide +kernel)⟩
def mX4_callOff : MI := (yX4_callOff, cX4_callOff, 3, some (.int), { frames := 2, cells := 0, slots := 0, locals := 46 })
theorem cb_X4_callOff : CB mX4_callOff 1 := ⟨tg 769 (by decide +kernel) (by decide +kernel), by decide +kernel, by decide +kernel, by decide +kernel⟩
theorem cv_X4_callOff : CV mX4_callOff 4 := ⟨TX4, 12, rfl, tg 767 (by decide +kernel) (by decide +kernel), tg 768 (by decide +kernel) (by decide +kernel), tg 42 (by decide +kernel) (by decide +kernel)⟩
def mX4_pass : MI := (yX4_pass, cX4_pass, 4, some (.int), { frames := 5, cells := 0, slots := 0, locals := 117 })
theorem cb_X4_pass : CB mX4_pass 1 := ⟨tg 785 (by decide +kernel) (by decide +kernel), by decide +kernel, by decide +kernel, by decide +kernel⟩
theorem cv_X4_pass : CV mX4_pass 4 := ⟨TX4, 12, rfl, tg 783 (by decide +kernel) (by decide +kernel), tg 784 (by decide +kernel) (by decide +kernel), tg 42 (by decide +kernel) (by decide +kernel)⟩
def mX4_tell : MI := (yX4_tell, cX4_tell, 3, some (.int), { frames := 6, cells := 0, slots := 0, locals := 138 })
theorem cb_X4_tell : CB mX4_tell 0 := ⟨tg 821 (by decide +kernel) (by decide +kernel), by decide +kernel, by decide +kernel, by decide +kernel⟩
theorem cv_X4_tell : CV mX4_tell 4 := ⟨TX4, 12, rfl, tg 819 (by decide +kernel) (by decide +kernel), tg 820 (by decide +kernel) (by decide +kernel), tg 42 (by decide +kernel) (by decide +kernel)⟩
def mX4_chairOf : MI := (yX4_chairOf, cX4_chairOf, 3, some (.int), { frames := 2, cells := 0, slots := 0, locals := 43 })
theorem cb_X4_chairOf : CB mX4_chairOf 2 := ⟨tg 833 (by decide +kernel) (by decide +kernel), by decide +kernel, by decide +kernel, by decide +kernel⟩
theorem cv_X4_chairOf : CV mX4_chairOf 4 := ⟨TX4, 12, rfl, tg 832 (by decide +kernel) (by decide +kernel), tg 29 (by decide +kernel) (by decide +kernel), tg 42 (by decide +kernel) (by decide +kernel)⟩
def mX4_chair : MI := (yX4_chair, cX4_chair, 3, some (.int), { frames := 3, cells := 0, slots := 0, locals := 65 })
theorem cb_X4_chair : CB mX4_chair 2 := ⟨tg 829 (by decide +kernel) (by decide +kernel), by decide +kernel, by decide +kernel, by decide +kernel⟩
theorem cv_X4_chair : CV mX4_chair 4 := ⟨TX4, 12, rfl, tg 827 (by decide +kernel) (by decide +kernel), tg 828 (by decide +kernel) (by decide +kernel), tg 42 (by decide +kernel) (by decide +kernel)⟩
def mX4_team : MI := (yX4_team, cX4_team, 3, some (.int), { frames := 1, cells := 0, slots := 0, locals := 22 })
theorem cb_X4_team : CB mX4_team 2 := ⟨tg 837 (by decide +kernel) (by decide +kernel), by decide +kernel, by decide +kernel, by decide +kernel⟩
theorem cv_X4_team : CV mX4_team 4 := ⟨TX4, 12, rfl, tg 835 (by decide +kernel) (by decide +kernel), tg 836 (by decide +kernel) (by decide +kernel), tg 42 (by decide +kernel) (by decide +kernel)⟩
def mX4_sumOf : MI := (yX4_sumOf, cX4_sumOf, 5, some (.int), { frames := 1, cells := 0, slots := 0, locals := 22 })
theorem cb_X4_sumOf : CB mX4_sumOf 2 := ⟨tg 849 (by decide +kernel) (by decide +kernel), by decide +kernel, by decide +kernel, by decide +kernel⟩
theorem cv_X4_sumOf : CV mX4_sumOf 4 := ⟨TX4, 12, rfl, tg 848 (by decide +kernel) (by decide +kernel), tg 31 (by decide +kernel) (by decide +kernel), tg 42 (by decide +kernel) (by decide +kernel)⟩
def mX4_greatestRank : MI := (yX4_greatestRank, cX4_greatestRank, 3, some (.int), { frames := 2, cells := 0, slots := 0, locals := 43 })
theorem cb_X4_greatestRank : CB mX4_greatestRank 0 := ⟨tg 853 (by decide +kernel) (by decide +kernel), by decide +kernel, by decide +kernel, by decide +kernel⟩
theorem cv_X4_greatestRank : CV mX4_greatestRank 4 := ⟨TX4, 12, rfl, tg 852 (by decide +kernel) (by decide +kernel), tg 32 (by decide +kernel) (by decide +kernel), tg 42 (by decide +kernel) (by decide +kernel)⟩
def mX4_valueOf : MI := (yX4_valueOf, cX4_valueOf, 2, some (.int), { frames := 3, cells := 0, slots := 0, locals := 65 })
theorem cb_X4_valueOf : CB mX4_valueOf 1 := ⟨tg 845 (by decide +kernel) (by decide +kernel), by decide +kernel, by decide +kernel, by decide +kernel⟩
theorem cv_X4_valueOf : CV mX4_valueOf 4 := ⟨TX4, 12, rfl, tg 844 (by decide +kernel) (by decide +kernel), tg 30 (by decide +kernel) (by decide +kernel), tg 42 (by decide +kernel) (by decide +kernel)⟩
def mX4_value : MI := (yX4_value, cX4_value, 2, some (.int), { frames := 4, cells := 0, slots := 0, locals := 86 })
theorem cb_X4_value : CB mX4_value 1 := ⟨tg 841 (by decide +kernel) (by decide +kernel), by decide +kernel, by decide +kernel, by decide +kernel⟩
theorem cv_X4_value : CV mX4_value 4 := ⟨TX4, 12, rfl, tg 839 (by decide +kernel) (by decide +kernel), tg 840 (by decide +kernel) (by decide +kernel), tg 42 (by decide +kernel) (by decide +kernel)⟩
def mX4_way : MI := (yX4_way, cX4_way, 3, some (.int), { frames := 1, cells := 0, slots := 0, locals := 25 })
theorem cb_X4_way : CB mX4_way 2 := ⟨tg 857 (by decide +kernel) (by decide +kernel), by decide +kernel, by decide +kernel, by decide +kernel⟩
theorem cv_X4_way : CV mX4_way 4 := ⟨TX4, 12, rfl, tg 855 (by decide +kernel) (by decide +kernel), tg 856 (by decide +kernel) (by decide +kernel), tg 42 (by decide +kernel) (by decide +kernel)⟩
def mX4_work : MI := (yX4_work, cX4_work, 3, some (.int), { frames := 2, cells := 0, slots := 0, locals := 47 })
theorem cb_X4_work : CB mX4_work 2 := ⟨tg 861 (by decide +kernel) (by decide +kernel), by decide +kernel, by decide +kernel, by decide +kernel⟩
theorem cv_X4_work : CV mX4_work 4 := ⟨TX4, 12, rfl, tg 859 (by decide +kernel) (by decide +kernel), tg 860 (by decide +kernel) (by decide +kernel), tg 42 (by decide +kernel) (by decide +kernel)⟩
def mX4_journal : MI := (yX4_journal, cX4_journal, 2, some (.int), { frames := 1, cells := 0, slots := 0, locals := 21 })
theorem cb_X4_journal : CB mX4_journal 1 := ⟨tg 865 (by decide +kernel) (by decide +kernel), by decide +kernel, by decide +kernel, by decide +kernel⟩
theorem cv_X4_journal : CV mX4_journal 4 := ⟨TX4, 12, rfl, tg 863 (by decide +kernel) (by decide +kernel), tg 864 (by decide +kernel) (by decide +kernel), tg 42 (by decide +kernel) (by decide +kernel)⟩
def mX4_minuteOf : MI := (yX4_minuteOf, cX4_minuteOf, 2, some (.int), { frames := 6, cells := 0, slots := 0, locals := 138 })
theorem cb_X4_minuteOf : CB mX4_minuteOf 1 := ⟨tg 869 (by decide +kernel) (by decide +kernel), by decide +kernel, by decide +kernel, by decide +kernel⟩
theorem cv_X4_minuteOf : CV mX4_minuteOf 4 := ⟨TX4, 12, rfl, tg 867 (by decide +kernel) (by decide +kernel), tg 868 (by decide +kernel) (by decide +kernel), tg 42 (by decide +kernel) (by decide +kernel)⟩
def mX4_minutesToAll : MI := (yX4_minutesToAll, cX4_minutesToAll, 1, some (.int), { frames := 6, cells := 0, slots := 0, locals := 138 })
theorem cb_X4_minutesToAll : CB mX4_minutesToAll 0 := ⟨tg 873 (by decide +kernel) (by decide +kernel), by decide +kernel, by decide +kernel, by decide +kernel⟩
theorem cv_X4_minutesToAll : CV mX4_minutesToAll 4 := ⟨TX4, 12, rfl, tg 871 (by decide +kernel) (by decide +kernel), tg 872 (by decide +kernel) (by decide +kernel), tg 42 (by decide +kernel) (by decide +kernel)⟩
def mX4_bestSpan : MI := (yX4_bestSpan, cX4_bestSpan, 4, some (.int), { frames := 6, cells := 0, slots := 0, locals := 138 })
theorem cb_X4_bestSpan : CB mX4_bestSpan 0 := ⟨tg 877 (by decide +kernel) (by decide +kernel), by decide +kernel, by decide +kernel, by decide +kernel⟩
theorem cv_X4_bestSpan : CV mX4_bestSpan 4 := ⟨TX4, 12, rfl, tg 875 (by decide +kernel) (by decide +kernel), tg 876 (by decide +kernel) (by decide +kernel), tg 42 (by decide +kernel) (by decide +kernel)⟩
def mX4_chosen : MI := (yX4_chosen, cX4_chosen, 2, some (.int), { frames := 3, cells := 0, slots := 0, locals := 68 })
theorem cb_X4_chosen : CB mX4_chosen 1 := ⟨tg 881 (by decide +kernel) (by decide +kernel), by decide +kernel, by decide +kernel, by decide +kernel⟩
theorem cv_X4_chosen : CV mX4_chosen 4 := ⟨TX4, 12, rfl, tg 879 (by decide +kernel) (by decide +kernel), tg 880 (by decide +kernel) (by decide +kernel), tg 42 (by decide +kernel) (by decide +kernel)⟩
def mX4_meanCold : MI := (yX4_meanCold, cX4_meanCold, 4, some (.double), { frames := 1, cells := 0, slots := 0, locals := 22 })
theorem cb_X4_meanCold : CB mX4_meanCold 0 := ⟨tg 885 (by decide +kernel) (by decide +kernel), by decide +kernel, by decide +kernel, by decide +kernel⟩
theorem cv_X4_meanCold : CV mX4_meanCold 4 := ⟨TX4, 12, rfl, tg 883 (by decide +kernel) (by decide +kernel), tg 884 (by decide +kernel) (by decide +kernel), tg 42 (by decide +kernel) (by decide +kernel)⟩
def mX4_append : MI := (yX4_append, cX4_append, 2, some (.int), { frames := 1, cells := 0, slots := 0, locals := 22 })
theorem cb_X4_append : CB mX4_append 1 := ⟨tg 889 (by decide +kernel) (by decide +kernel), by decide +kernel, by decide +kernel, by decide +kernel⟩
theorem cv_X4_append : CV mX4_append 4 := ⟨TX4, 12, rfl, tg 887 (by decide +kernel) (by decide +kernel), tg 888 (by decide +kernel) (by decide +kernel), tg 42 (by decide +kernel) (by decide +kernel)⟩
def mX4_clearText : MI := (yX4_clearText, cX4_clearText, 2, some (.int), { frames := 1, cells := 0, slots := 0, locals := 21 })
theorem cb_X4_clearText : CB mX4_clearText 0 := ⟨tg 893 (by decide +kernel) (by decide +kernel), by decide +kernel, by decide +kernel, by decide +kernel⟩
theorem cv_X4_clearText : CV mX4_clearText 4 := ⟨TX4, 12, rfl, tg 891 (by decide +kernel) (by decide +kernel), tg 892 (by decide +kernel) (by decide +kernel), tg 42 (by decide +kernel) (by decide +kernel)⟩
def mX4_isAt : MI := (yX4_isAt, cX4_isAt, 3, some (.boolean), { frames := 1, cells := 0, slots := 0, locals := 22 })
theorem cb_X4_isAt : CB mX4_isAt 2 := ⟨tg 905 (by decide +kernel) (by decide +kernel), by decide +kernel, by decide +kernel, by decide +kernel⟩
theorem cv_X4_isAt : CV mX4_isAt 4 := ⟨TX4, 12, rfl, tg 904 (by decide +kernel) (by decide +kernel), tg 34 (by decide +kernel) (by decide +kernel), tg 42 (by decide +kernel) (by decide +kernel)⟩
def mX4_readsChair : MI := (yX4_readsChair, cX4_readsChair, 5, some (.boolean), { frames := 2, cells := 0, slots := 0, locals := 48 })
theorem cb_X4_readsChair : CB mX4_readsChair 1 := ⟨tg 909 (by decide +kernel) (by decide +kernel), by decide +kernel, by decide +kernel, by decide +kernel⟩
theorem cv_X4_readsChair : CV mX4_readsChair 4 := ⟨TX4, 12, rfl, tg 908 (by decide +kernel) (by decide +kernel), tg 35 (by decide +kernel) (by decide +kernel), tg 42 (by decide +kernel) (by decide +kernel)⟩
def mX4_readsLine : MI := (yX4_readsLine, cX4_readsLine, 2, some (.boolean), { frames := 3, cells := 0, slots := 0, locals := 72 })
theorem cb_X4_readsLine : CB mX4_readsLine 0 := ⟨tg 901 (by decide +kernel) (by decide +kernel), by decide +kernel, by decide +kernel, by decide +kernel⟩
theorem cv_X4_readsLine : CV mX4_readsLine 4 := ⟨TX4, 12, rfl, tg 900 (by decide +kernel) (by decide +kernel), tg 33 (by decide +kernel) (by decide +kernel), tg 42 (by decide +kernel) (by decide +kernel)⟩
def mX4_parse : MI := (yX4_parse, cX4_parse, 2, some (.int), { frames := 4, cells := 0, slots := 0, locals := 93 })
theorem cb_X4_parse : CB mX4_parse 0 := ⟨tg 897 (by decide +kernel) (by decide +kernel), by decide +kernel, by decide +kernel, by decide +kernel⟩
theorem cv_X4_parse : CV mX4_parse 4 := ⟨TX4, 12, rfl, tg 895 (by decide +kernel) (by decide +kernel), tg 896 (by decide +kernel) (by decide +kernel), tg 42 (by decide +kernel) (by decide +kernel)⟩
def mX4_undo : MI := (yX4_undo, cX4_undo, 2, some (.int), { frames := 1, cells := 0, slots := 0, locals := 21 })
theorem cb_X4_undo : CB mX4_undo 0 := ⟨tg 913 (by decide +kernel) (by decide +kernel), by decide +kernel, by decide +kernel, by decide +kernel⟩
theorem cv_X4_undo : CV mX4_undo 4 := ⟨TX4, 12, rfl, tg 911 (by decide +kernel) (by decide +kernel), tg 912 (by decide +kernel) (by decide +kernel), tg 42 (by decide +kernel) (by decide +kernel)⟩
def mX4_mix : MI := (yX4_mix, cX4_mix, 2, none, { frames := 0, cells := 0, slots := 0, locals := 0 })
theorem cb_X4_mix : CB mX4_mix 1 := ⟨tg 922 (by decide +kernel) (by decide +kernel), by decide +kernel, by decide +kernel, by decide +kernel⟩
theorem cv_X4_mix : CV mX4_mix 4 := ⟨TX4, 12, rfl, tg 921 (by decide +kernel) (by decide +kernel), tg 36 (by decide +kernel) (by decide +kernel), tg 42 (by decide +kernel) (by decide +kernel)⟩
def mX4_digest : MI := (yX4_digest, cX4_digest, 3, some (.long), { frames := 6, cells := 0, slots := 0, locals := 138 })
theorem cb_X4_digest : CB mX4_digest 0 := ⟨tg 917 (by decide +kernel) (by decide +kernel), by decide +kernel, by decide +kernel, by decide +kernel⟩
theorem cv_X4_digest : CV mX4_digest 4 := ⟨TX4, 12, rfl, tg 915 (by decide +kernel) (by decide +kernel), tg 916 (by decide +kernel) (by decide +kernel), tg 42 (by decide +kernel) (by decide +kernel)⟩
def mL_addChair : MI := (yL_addChair, cL_addChair, 7, some (.int), { frames := 7, cells := 1, slots := 6, locals := 114 })
theorem cs_L_addChair : CS mL_addChair := ⟨tg 406 (by decide +kernel) (by decide +kernel), tg 37 (by decide +kernel) (by decide +kernel)⟩
def mL_addTeam : MI := (yL_addTeam, cL_addTeam, 5, some (.int), { frames := 7, cells := 1, slots := 6, locals := 112 })
theorem cs_L_addTeam : CS mL_addTeam := ⟨tg 520 (by decide +kernel) (by decide +kernel), tg 37 (by decide +kernel) (by decide +kernel)⟩
def mL_setWay : MI := (yL_setWay, cL_setWay, 5, some (.int), { frames := 7, cells := 1, slots := 6, locals := 113 })
theorem cs_L_setWay : CS mL_setWay := ⟨tg 529 (by decide +kernel) (by decide +kernel), tg 37 (by decide +kernel) (by decide +kernel)⟩
def mL_setCold : MI := (yL_setCold, cL_setCold, 5, some (.int), { frames := 7, cells := 1, slots := 6, locals := 114 })
theorem cs_L_setCold : CS mL_setCold := ⟨tg 546 (by decide +kernel) (by decide +kernel), tg 37 (by decide +kernel) (by decide +kernel)⟩
def mL_callOff : MI := (yL_callOff, cL_callOff, 4, some (.int), { frames := 7, cells := 1, slots := 6, locals := 114 })
theorem cs_L_callOff : CS mL_callOff := ⟨tg 556 (by decide +kernel) (by decide +kernel), tg 37 (by decide +kernel) (by decide +kernel)⟩
def mL_pass : MI := (yL_pass, cL_pass, 4, some (.int), { frames := 7, cells := 1, slots := 6, locals := 143 })
theorem cs_L_pass : CS mL_pass := ⟨tg 566 (by decide +kernel) (by decide +kernel), tg 37 (by decide +kernel) (by decide +kernel)⟩
def mL_chair : MI := (yL_chair, cL_chair, 5, some (.int), { frames := 7, cells := 1, slots := 6, locals := 113 })
theorem cs_L_chair : CS mL_chair := ⟨tg 575 (by decide +kernel) (by decide +kernel), tg 37 (by decide +kernel) (by decide +kernel)⟩
def mL_team : MI := (yL_team, cL_team, 5, some (.int), { frames := 7, cells := 1, slots := 6, locals := 113 })
theorem cs_L_team : CS mL_team := ⟨tg 583 (by decide +kernel) (by decide +kernel), tg 37 (by decide +kernel) (by decide +kernel)⟩
def mL_value : MI := (yL_value, cL_value, 4, some (.int), { frames := 7, cells := 1, slots := 6, locals := 111 })
theorem cs_L_value : CS mL_value := ⟨tg 590 (by decide +kernel) (by decide +kernel), tg 37 (by decide +kernel) (by decide +kernel)⟩
def mL_way : MI := (yL_way, cL_way, 5, some (.int), { frames := 7, cells := 1, slots := 6, locals := 112 })
theorem cs_L_way : CS mL_way := ⟨tg 597 (by decide +kernel) (by decide +kernel), tg 37 (by decide +kernel) (by decide +kernel)⟩
def mL_work : MI := (yL_work, cL_work, 5, some (.int), { frames := 7, cells := 1, slots := 6, locals := 114 })
theorem cs_L_work : CS mL_work := ⟨tg 605 (by decide +kernel) (by decide +kernel), tg 37 (by decide +kernel) (by decide +kernel)⟩
def mL_journal : MI := (yL_journal, cL_journal, 4, some (.int), { frames := 7, cells := 1, slots := 6, locals := 111 })
theorem cs_L_journal : CS mL_journal := ⟨tg 614 (by decide +kernel) (by decide +kernel), tg 37 (by decide +kernel) (by decide +kernel)⟩
def mL_minuteOf : MI := (yL_minuteOf, cL_minuteOf, 4, some (.int), { frames := 7, cells := 1, slots := 6, locals := 165 })
theorem cs_L_minuteOf : CS mL_minuteOf := ⟨tg 622 (by decide +kernel) (by decide +kernel), tg 37 (by decide +kernel) (by decide +kernel)⟩
def mL_chosen : MI := (yL_chosen, cL_chosen, 4, some (.int), { frames := 7, cells := 1, slots := 6, locals := 111 })
theorem cs_L_chosen : CS mL_chosen := ⟨tg 629 (by decide +kernel) (by decide +kernel), tg 37 (by decide +kernel) (by decide +kernel)⟩
def mL_append : MI := (yL_append, cL_append, 4, some (.int), { frames := 7, cells := 1, slots := 6, locals := 111 })
theorem cs_L_append : CS mL_append := ⟨tg 637 (by decide +kernel) (by decide +kernel), tg 37 (by decide +kernel) (by decide +kernel)⟩
def mL_undo : MI := (yL_undo, cL_undo, 3, some (.int), { frames := 7, cells := 1, slots := 6, locals := 111 })
theorem cs_L_undo : CS mL_undo := ⟨tg 646 (by decide +kernel) (by decide +kernel), tg 37 (by decide +kernel) (by decide +kernel)⟩
theorem lk_X3_9 : Cond.methodLink RX3 9 yX1_init ∈ Tg := tg 60 (by decide +kernel) (by decide +kernel)
theorem lk_X3_16 : Cond.methodLink RX3 16 yX1_reset ∈ Tg := tg 190 (by decide +kernel) (by decide +kernel)
theorem lk_X3_31 : Cond.methodLink RX3 31 yX1_hasSpan ∈ Tg := tg 415 (by decide +kernel) (by decide +kernel)
theorem lk_X3_56 : Cond.methodLink RX3 56 yX3_save ∈ Tg := tg 221 (by decide +kernel) (by decide +kernel)
theorem lk_X3_59 : Cond.methodLink RX3 59 yX1_hangChair ∈ Tg := tg 345 (by decide +kernel) (by decide +kernel)
theorem lk_X3_70 : Cond.methodLink RX3 70 yX1_sendTeam ∈ Tg := tg 317 (by decide +kernel) (by decide +kernel)
theorem lk_X3_74 : Cond.methodLink RX3 74 yX1_hasWay ∈ Tg := tg 535 (by decide +kernel) (by decide +kernel)
theorem lk_X3_81 : Cond.methodLink RX3 81 yX1_wayBehind ∈ Tg := tg 382 (by decide +kernel) (by decide +kernel)
theorem lk_X3_85 : Cond.methodLink RX3 85 yX1_changeWay ∈ Tg := tg 541 (by decide +kernel) (by decide +kernel)
theorem lk_X3_89 : Cond.methodLink RX3 89 yX1_chairAt ∈ Tg := tg 308 (by decide +kernel) (by decide +kernel)
theorem lk_X3_107 : Cond.methodLink RX3 107 yX1_teamAt ∈ Tg := tg 396 (by decide +kernel) (by decide +kernel)
theorem lk_X3_118 : Cond.methodLink RX3 118 yX0_waitAgain ∈ Tg := tg 563 (by decide +kernel) (by decide +kernel)
theorem lk_X3_121 : Cond.methodLink RX3 121 yX2_beIdle ∈ Tg := tg 564 (by decide +kernel) (by decide +kernel)
theorem lk_X3_132 : Cond.methodLink RX3 132 yX1_passMinute ∈ Tg := tg 573 (by decide +kernel) (by decide +kernel)
theorem lk_X3_135 : Cond.methodLink RX3 135 yX1_copyFrom ∈ Tg := tg 229 (by decide +kernel) (by decide +kernel)
theorem lk_X3_139 : Cond.methodLink RX3 139 yX1_runOut ∈ Tg := tg 252 (by decide +kernel) (by decide +kernel)
theorem lk_X3_149 : Cond.methodLink RX3 149 yX0_fact ∈ Tg := tg 387 (by decide +kernel) (by decide +kernel)
theorem lk_X3_152 : Cond.methodLink RX3 152 yX2_fact ∈ Tg := tg 397 (by decide +kernel) (by decide +kernel)
theorem lk_X3_153 : Cond.methodLink RX3 153 yX1_fact ∈ Tg := tg 366 (by decide +kernel) (by decide +kernel)
theorem lk_X3_154 : Cond.methodLink RX3 154 yX1_wayBetween ∈ Tg := tg 603 (by decide +kernel) (by decide +kernel)
theorem lk_X3_162 : Cond.methodLink RX3 162 yX1_workOf ∈ Tg := tg 612 (by decide +kernel) (by decide +kernel)
theorem lk_X3_168 : Cond.methodLink RX3 168 yX1_journalAt ∈ Tg := tg 401 (by decide +kernel) (by decide +kernel)
theorem lk_X3_174 : Cond.methodLink RX3 174 yX1_choiceFrom ∈ Tg := tg 635 (by decide +kernel) (by decide +kernel)
theorem lk_X3_184 : Cond.methodLink RX3 184 yX3_readText ∈ Tg := tg 338 (by decide +kernel) (by decide +kernel)
theorem lk_X3_196 : Cond.methodLink RX3 196 yX3_savedAt ∈ Tg := tg 225 (by decide +kernel) (by decide +kernel)
theorem lk_X3_202 : Cond.methodLink RX3 202 yX3_mix ∈ Tg := tg 362 (by decide +kernel) (by decide +kernel)
theorem lk_X3_206 : Cond.methodLink RX3 206 yX3_mixChairs ∈ Tg := tg 383 (by decide +kernel) (by decide +kernel)
theorem lk_X3_210 : Cond.methodLink RX3 210 yX3_mixTeams ∈ Tg := tg 392 (by decide +kernel) (by decide +kernel)
theorem lk_X3_215 : Cond.methodLink RX3 215 Lib.Math.min.name ∈ Tg := tg 249 (by decide +kernel) (by decide +kernel)
theorem lk_X3_220 : Cond.methodLink RX3 220 yX3_readByte ∈ Tg := tg 342 (by decide +kernel) (by decide +kernel)
theorem lk_X0_31 : Cond.methodLink RX0 31 yX0_waitAgain ∈ Tg := tg 353 (by decide +kernel) (by decide +kernel)
theorem lk_X0_40 : Cond.methodLink RX0 40 yX0_rank ∈ Tg := tg 391 (by decide +kernel) (by decide +kernel)
theorem lk_X1_54 : Cond.methodLink RX1 54 yX1_chairAt ∈ Tg := tg 233 (by decide +kernel) (by decide +kernel)
theorem lk_X1_58 : Cond.methodLink RX1 58 yX0_copyFrom ∈ Tg := tg 237 (by decide +kernel) (by decide +kernel)
theorem lk_X1_62 : Cond.methodLink RX1 62 yX1_teamAt ∈ Tg := tg 241 (by decide +kernel) (by decide +kernel)
theorem lk_X1_66 : Cond.methodLink RX1 66 yX2_copyFrom ∈ Tg := tg 245 (by decide +kernel) (by decide +kernel)
theorem lk_X1_69 : Cond.methodLink RX1 69 Lib.Math.max.name ∈ Tg := tg 273 (by decide +kernel) (by decide +kernel)
theorem lk_X1_75 : Cond.methodLink RX1 75 Lib.Math.min.name ∈ Tg := tg 264 (by decide +kernel) (by decide +kernel)
theorem lk_X1_78 : Cond.methodLink RX1 78 yX1_wayBehind ∈ Tg := tg 304 (by decide +kernel) (by decide +kernel)
theorem lk_X1_82 : Cond.methodLink RX1 82 yX0_hang ∈ Tg := tg 349 (by decide +kernel) (by decide +kernel)
theorem lk_X1_86 : Cond.methodLink RX1 86 yX2_stand ∈ Tg := tg 321 (by decide +kernel) (by decide +kernel)
theorem lk_X1_90 : Cond.methodLink RX1 90 yX1_passMinute ∈ Tg := tg 256 (by decide +kernel) (by decide +kernel)
theorem lk_X1_93 : Cond.methodLink RX1 93 yX1_growColder ∈ Tg := tg 260 (by decide +kernel) (by decide +kernel)
theorem lk_X1_96 : Cond.methodLink RX1 96 yX1_goOn ∈ Tg := tg 265 (by decide +kernel) (by decide +kernel)
theorem lk_X1_100 : Cond.methodLink RX1 100 yX1_takeChair ∈ Tg := tg 288 (by decide +kernel) (by decide +kernel)
theorem lk_X1_116 : Cond.methodLink RX1 116 yX2_beIdle ∈ Tg := tg 269 (by decide +kernel) (by decide +kernel)
theorem lk_X1_125 : Cond.methodLink RX1 125 yX1_bringDown ∈ Tg := tg 276 (by decide +kernel) (by decide +kernel)
theorem lk_X1_129 : Cond.methodLink RX1 129 yX1_finish ∈ Tg := tg 284 (by decide +kernel) (by decide +kernel)
theorem lk_X1_136 : Cond.methodLink RX1 136 yX1_choiceFrom ∈ Tg := tg 292 (by decide +kernel) (by decide +kernel)
theorem lk_X1_143 : Cond.methodLink RX1 143 yX1_wayBetween ∈ Tg := tg 300 (by decide +kernel) (by decide +kernel)
theorem lk_X1_146 : Cond.methodLink RX1 146 yX1_workOf ∈ Tg := tg 280 (by decide +kernel) (by decide +kernel)
theorem lk_X1_162 : Cond.methodLink RX1 162 yX0_rank ∈ Tg := tg 296 (by decide +kernel) (by decide +kernel)
theorem lk_X1_166 : Cond.methodLink RX1 166 yX1_chairsIn ∈ Tg := tg 370 (by decide +kernel) (by decide +kernel)
theorem lk_X1_169 : Cond.methodLink RX1 169 yX1_ridersIn ∈ Tg := tg 374 (by decide +kernel) (by decide +kernel)
theorem lk_X1_172 : Cond.methodLink RX1 172 yX1_greatestRank ∈ Tg := tg 378 (by decide +kernel) (by decide +kernel)
theorem lk_X2_27 : Cond.methodLink RX2 27 yX2_beIdle ∈ Tg := tg 325 (by decide +kernel) (by decide +kernel)
theorem lk_L_7 : Cond.methodLink RL 7 yX3_addChair ∈ Tg := tg 411 (by decide +kernel) (by decide +kernel)
theorem lk_L_19 : Cond.methodLink RL 19 yX3_addTeam ∈ Tg := tg 522 (by decide +kernel) (by decide +kernel)
theorem lk_L_23 : Cond.methodLink RL 23 yX3_setWay ∈ Tg := tg 531 (by decide +kernel) (by decide +kernel)
theorem lk_L_26 : Cond.methodLink RL 26 yX3_setCold ∈ Tg := tg 548 (by decide +kernel) (by decide +kernel)
theorem lk_L_29 : Cond.methodLink RL 29 yX3_callOff ∈ Tg := tg 558 (by decide +kernel) (by decide +kernel)
theorem lk_L_33 : Cond.methodLink RL 33 yX3_pass ∈ Tg := tg 568 (by decide +kernel) (by decide +kernel)
theorem lk_L_36 : Cond.methodLink RL 36 yX3_chair ∈ Tg := tg 577 (by decide +kernel) (by decide +kernel)
theorem lk_L_39 : Cond.methodLink RL 39 yX3_team ∈ Tg := tg 585 (by decide +kernel) (by decide +kernel)
theorem lk_L_42 : Cond.methodLink RL 42 yX3_value ∈ Tg := tg 592 (by decide +kernel) (by decide +kernel)
theorem lk_L_45 : Cond.methodLink RL 45 yX3_way ∈ Tg := tg 599 (by decide +kernel) (by decide +kernel)
theorem lk_L_48 : Cond.methodLink RL 48 yX3_work ∈ Tg := tg 607 (by decide +kernel) (by decide +kernel)
theorem lk_L_51 : Cond.methodLink RL 51 yX3_journal ∈ Tg := tg 616 (by decide +kernel) (by decide +kernel)
theorem lk_L_54 : Cond.methodLink RL 54 yX3_minuteOf ∈ Tg := tg 624 (by decide +kernel) (by decide +kernel)
theorem lk_L_57 : Cond.methodLink RL 57 yX3_chosen ∈ Tg := tg 631 (by decide +kernel) (by decide +kernel)
theorem lk_L_60 : Cond.methodLink RL 60 yX3_append ∈ Tg := tg 639 (by decide +kernel) (by decide +kernel)
theorem lk_L_63 : Cond.methodLink RL 63 yX3_undo ∈ Tg := tg 648 (by decide +kernel) (by decide +kernel)
theorem lk_L_67 : Cond.methodLink RL 67 yX3_init ∈ Tg := tg 52 (by decide +kernel) (by decide +kernel)
theorem lk_L_70 : Cond.methodLink RL 70 yX4_init ∈ Tg := tg 655 (by decide +kernel) (by decide +kernel)
theorem lk_L_71 : Cond.methodLink RL 71 yL_addChair ∈ Tg := tg 405 (by decide +kernel) (by decide +kernel)
theorem lk_L_76 : Cond.methodLink RL 76 yX4_addChair ∈ Tg := tg 700 (by decide +kernel) (by decide +kernel)
theorem lk_L_77 : Cond.methodLink RL 77 yX4_thrown ∈ Tg := tg 696 (by decide +kernel) (by decide +kernel)
theorem lk_L_80 : Cond.methodLink RL 80 yL_addTeam ∈ Tg := tg 519 (by decide +kernel) (by decide +kernel)
theorem lk_L_83 : Cond.methodLink RL 83 yX4_addTeam ∈ Tg := tg 738 (by decide +kernel) (by decide +kernel)
theorem lk_L_84 : Cond.methodLink RL 84 yL_setWay ∈ Tg := tg 528 (by decide +kernel) (by decide +kernel)
theorem lk_L_86 : Cond.methodLink RL 86 yX4_setWay ∈ Tg := tg 750 (by decide +kernel) (by decide +kernel)
theorem lk_L_87 : Cond.methodLink RL 87 yL_setCold ∈ Tg := tg 545 (by decide +kernel) (by decide +kernel)
theorem lk_L_89 : Cond.methodLink RL 89 yX4_setCold ∈ Tg := tg 754 (by decide +kernel) (by decide +kernel)
theorem lk_L_90 : Cond.methodLink RL 90 yL_callOff ∈ Tg := tg 555 (by decide +kernel) (by decide +kernel)
theorem lk_L_93 : Cond.methodLink RL 93 yX4_callOff ∈ Tg := tg 766 (by decide +kernel) (by decide +kernel)
theorem lk_L_94 : Cond.methodLink RL 94 yL_pass ∈ Tg := tg 565 (by decide +kernel) (by decide +kernel)
theorem lk_L_96 : Cond.methodLink RL 96 yX4_pass ∈ Tg := tg 782 (by decide +kernel) (by decide +kernel)
theorem lk_L_97 : Cond.methodLink RL 97 yX3_tell ∈ Tg := tg 217 (by decide +kernel) (by decide +kernel)
theorem lk_L_100 : Cond.methodLink RL 100 yX4_tell ∈ Tg := tg 818 (by decide +kernel) (by decide +kernel)
theorem lk_L_101 : Cond.methodLink RL 101 yL_chair ∈ Tg := tg 574 (by decide +kernel) (by decide +kernel)
theorem lk_L_103 : Cond.methodLink RL 103 yX4_chair ∈ Tg := tg 826 (by decide +kernel) (by decide +kernel)
theorem lk_L_104 : Cond.methodLink RL 104 yL_team ∈ Tg := tg 582 (by decide +kernel) (by decide +kernel)
theorem lk_L_106 : Cond.methodLink RL 106 yX4_team ∈ Tg := tg 834 (by decide +kernel) (by decide +kernel)
theorem lk_L_107 : Cond.methodLink RL 107 yL_value ∈ Tg := tg 589 (by decide +kernel) (by decide +kernel)
theorem lk_L_109 : Cond.methodLink RL 109 yX4_value ∈ Tg := tg 838 (by decide +kernel) (by decide +kernel)
theorem lk_L_110 : Cond.methodLink RL 110 yL_way ∈ Tg := tg 596 (by decide +kernel) (by decide +kernel)
theorem lk_L_112 : Cond.methodLink RL 112 yX4_way ∈ Tg := tg 854 (by decide +kernel) (by decide +kernel)
theorem lk_L_113 : Cond.methodLink RL 113 yL_work ∈ Tg := tg 604 (by decide +kernel) (by decide +kernel)
theorem lk_L_115 : Cond.methodLink RL 115 yX4_work ∈ Tg := tg 858 (by decide +kernel) (by decide +kernel)
theorem lk_L_116 : Cond.methodLink RL 116 yL_journal ∈ Tg := tg 613 (by decide +kernel) (by decide +kernel)
theorem lk_L_118 : Cond.methodLink RL 118 yX4_journal ∈ Tg := tg 862 (by decide +kernel) (by decide +kernel)
theorem lk_L_119 : Cond.methodLink RL 119 yL_minuteOf ∈ Tg := tg 621 (by decide +kernel) (by decide +kernel)
theorem lk_L_121 : Cond.methodLink RL 121 yX4_minuteOf ∈ Tg := tg 866 (by decide +kernel) (by decide +kernel)
theorem lk_L_122 : Cond.methodLink RL 122 yX3_minutesToAll ∈ Tg := tg 309 (by decide +kernel) (by decide +kernel)
theorem lk_L_125 : Cond.methodLink RL 125 yX4_minutesToAll ∈ Tg := tg 870 (by decide +kernel) (by decide +kernel)
theorem lk_L_126 : Cond.methodLink RL 126 yX3_bestSpan ∈ Tg := tg 313 (by decide +kernel) (by decide +kernel)
theorem lk_L_129 : Cond.methodLink RL 129 yX4_bestSpan ∈ Tg := tg 874 (by decide +kernel) (by decide +kernel)
theorem lk_L_130 : Cond.methodLink RL 130 yL_chosen ∈ Tg := tg 628 (by decide +kernel) (by decide +kernel)
theorem lk_L_132 : Cond.methodLink RL 132 yX4_chosen ∈ Tg := tg 878 (by decide +kernel) (by decide +kernel)
theorem lk_L_133 : Cond.methodLink RL 133 yX3_meanCold ∈ Tg := tg 326 (by decide +kernel) (by decide +kernel)
theorem lk_L_137 : Cond.methodLink RL 137 yX4_meanCold ∈ Tg := tg 882 (by decide +kernel) (by decide +kernel)
theorem lk_L_138 : Cond.methodLink RL 138 yL_append ∈ Tg := tg 636 (by decide +kernel) (by decide +kernel)
theorem lk_L_140 : Cond.methodLink RL 140 yX4_append ∈ Tg := tg 886 (by decide +kernel) (by decide +kernel)
theorem lk_L_141 : Cond.methodLink RL 141 yX3_clearText ∈ Tg := tg 330 (by decide +kernel) (by decide +kernel)
theorem lk_L_144 : Cond.methodLink RL 144 yX4_clearText ∈ Tg := tg 890 (by decide +kernel) (by decide +kernel)
theorem lk_L_145 : Cond.methodLink RL 145 yX3_parse ∈ Tg := tg 334 (by decide +kernel) (by decide +kernel)
theorem lk_L_148 : Cond.methodLink RL 148 yX4_parse ∈ Tg := tg 894 (by decide +kernel) (by decide +kernel)
theorem lk_L_149 : Cond.methodLink RL 149 yL_undo ∈ Tg := tg 645 (by decide +kernel) (by decide +kernel)
theorem lk_L_152 : Cond.methodLink RL 152 yX4_undo ∈ Tg := tg 910 (by decide +kernel) (by decide +kernel)
theorem lk_L_153 : Cond.methodLink RL 153 yX3_digest ∈ Tg := tg 357 (by decide +kernel) (by decide +kernel)
theorem lk_L_157 : Cond.methodLink RL 157 yX4_digest ∈ Tg := tg 914 (by decide +kernel) (by decide +kernel)
theorem lk_X4_32 : Cond.methodLink RX4 32 yX4_copies ∈ Tg := tg 719 (by decide +kernel) (by decide +kernel)
theorem lk_X4_39 : Cond.methodLink RX4 39 yX4_tells ∈ Tg := tg 734 (by decide +kernel) (by decide +kernel)
theorem lk_X4_43 : Cond.methodLink RX4 43 yX4_of ∈ Tg := tg 762 (by decide +kernel) (by decide +kernel)
theorem lk_X4_47 : Cond.methodLink RX4 47 yX4_ofTeam ∈ Tg := tg 774 (by decide +kernel) (by decide +kernel)
theorem lk_X4_50 : Cond.methodLink RX4 50 yX4_rankOf ∈ Tg := tg 810 (by decide +kernel) (by decide +kernel)
theorem lk_X4_53 : Cond.methodLink RX4 53 yX4_wayOf ∈ Tg := tg 814 (by decide +kernel) (by decide +kernel)
theorem lk_X4_56 : Cond.methodLink RX4 56 yX4_putsTeam ∈ Tg := tg 746 (by decide +kernel) (by decide +kernel)
theorem lk_X4_60 : Cond.methodLink RX4 60 yX4_puts ∈ Tg := tg 726 (by decide +kernel) (by decide +kernel)
theorem lk_X4_63 : Cond.methodLink RX4 63 yX4_begins ∈ Tg := tg 778 (by decide +kernel) (by decide +kernel)
theorem lk_X4_66 : Cond.methodLink RX4 66 yX4_workOf ∈ Tg := tg 794 (by decide +kernel) (by decide +kernel)
theorem lk_X4_69 : Cond.methodLink RX4 69 yX4_empties ∈ Tg := tg 798 (by decide +kernel) (by decide +kernel)
theorem lk_X4_73 : Cond.methodLink RX4 73 yX4_choiceAt ∈ Tg := tg 806 (by decide +kernel) (by decide +kernel)
theorem lk_X4_76 : Cond.methodLink RX4 76 yX4_goesOn ∈ Tg := tg 790 (by decide +kernel) (by decide +kernel)
theorem lk_X4_79 : Cond.methodLink RX4 79 yX4_takes ∈ Tg := tg 802 (by decide +kernel) (by decide +kernel)
theorem lk_X4_85 : Cond.methodLink RX4 85 yX4_minute ∈ Tg := tg 786 (by decide +kernel) (by decide +kernel)
theorem lk_X4_88 : Cond.methodLink RX4 88 yX4_isSpan ∈ Tg := tg 704 (by decide +kernel) (by decide +kernel)
theorem lk_X4_92 : Cond.methodLink RX4 92 yX4_fails ∈ Tg := tg 708 (by decide +kernel) (by decide +kernel)
theorem lk_X4_95 : Cond.methodLink RX4 95 yX4_in ∈ Tg := tg 712 (by decide +kernel) (by decide +kernel)
theorem lk_X4_99 : Cond.methodLink RX4 99 yX4_hold ∈ Tg := tg 715 (by decide +kernel) (by decide +kernel)
theorem lk_X4_102 : Cond.methodLink RX4 102 yX4_addsChair ∈ Tg := tg 722 (by decide +kernel) (by decide +kernel)
theorem lk_X4_106 : Cond.methodLink RX4 106 yX4_ends ∈ Tg := tg 730 (by decide +kernel) (by decide +kernel)
theorem lk_X4_109 : Cond.methodLink RX4 109 yX4_addsTeam ∈ Tg := tg 742 (by decide +kernel) (by decide +kernel)
theorem lk_X4_113 : Cond.methodLink RX4 113 yX4_isChair ∈ Tg := tg 758 (by decide +kernel) (by decide +kernel)
theorem lk_X4_116 : Cond.methodLink RX4 116 yX4_isTeam ∈ Tg := tg 770 (by decide +kernel) (by decide +kernel)
theorem lk_X4_119 : Cond.methodLink RX4 119 yX4_foresees ∈ Tg := tg 822 (by decide +kernel) (by decide +kernel)
theorem lk_X4_122 : Cond.methodLink RX4 122 yX4_chairOf ∈ Tg := tg 830 (by decide +kernel) (by decide +kernel)
theorem lk_X4_125 : Cond.methodLink RX4 125 yX4_sumOf ∈ Tg := tg 846 (by decide +kernel) (by decide +kernel)
theorem lk_X4_129 : Cond.methodLink RX4 129 yX4_greatestRank ∈ Tg := tg 850 (by decide +kernel) (by decide +kernel)
theorem lk_X4_133 : Cond.methodLink RX4 133 yX4_valueOf ∈ Tg := tg 842 (by decide +kernel) (by decide +kernel)
theorem lk_X4_142 : Cond.methodLink RX4 142 yX4_isAt ∈ Tg := tg 902 (by decide +kernel) (by decide +kernel)
theorem lk_X4_146 : Cond.methodLink RX4 146 yX4_readsChair ∈ Tg := tg 906 (by decide +kernel) (by decide +kernel)
theorem lk_X4_149 : Cond.methodLink RX4 149 yX4_readsLine ∈ Tg := tg 898 (by decide +kernel) (by decide +kernel)
theorem lk_X4_161 : Cond.methodLink RX4 161 yX4_mix ∈ Tg := tg 919 (by decide +kernel) (by decide +kernel)
theorem fo_X3_10 : FO RX3 10 3 0 := ⟨RX3, TX3, 7, igX3, rfl, by decide, tg 195 (by decide +kernel) (by decide +kernel)⟩
theorem ff_X3_10 : FF RX3 10 3 0 (.object "LiftDrill$Line") := ⟨RX3, TX3, 7, tyX3, igX3, rfl, by decide, tg 195 (by decide +kernel) (by decide +kernel), tyX3_ok, nmX3, rfl, rfl, rfl⟩
theorem fo_X3_20 : FO RX3 20 3 1 := ⟨RX3, TX3, 7, igX3, rfl, by decide, tg 196 (by decide +kernel) (by decide +kernel)⟩
theorem ff_X3_20 : FF RX3 20 3 1 (.object "LiftDrill$Line") := ⟨RX3, TX3, 7, tyX3, igX3, rfl, by decide, tg 196 (by decide +kernel) (by decide +kernel), tyX3_ok, nmX3, rfl, rfl, rfl⟩
theorem fo_X3_23 : FO RX3 23 3 2 := ⟨RX3, TX3, 7, igX3, rfl, by decide, tg 197 (by decide +kernel) (by decide +kernel)⟩
theorem ff_X3_23 : FF RX3 23 3 2 (.array (.object "LiftDrill$Line")) := ⟨RX3, TX3, 7, tyX3, igX3, rfl, by decide, tg 197 (by decide +kernel) (by decide +kernel), tyX3_ok, nmX3, rfl, rfl, rfl⟩
theorem fo_X3_27 : FO RX3 27 3 5 := ⟨RX3, TX3, 7, igX3, rfl, by decide, tg 200 (by decide +kernel) (by decide +kernel)⟩
theorem ff_X3_27 : FF RX3 27 3 5 (.array .int) := ⟨RX3, TX3, 7, tyX3, igX3, rfl, by decide, tg 200 (by decide +kernel) (by decide +kernel), tyX3_ok, nmX3, rfl, rfl, rfl⟩
theorem fo_X3_47 : FO RX3 47 1 2 := ⟨RX1, TX1, 11, igX1, rfl, by decide, tg 156 (by decide +kernel) (by decide +kernel)⟩
theorem fw_X3_47 : FW RX3 47 1 2 .int := ⟨RX1, TX1, 11, tyX1, igX1, rfl, by decide, tg 156 (by decide +kernel) (by decide +kernel), tyX1_ok, nmX1, rfl, rfl⟩
theorem fo_X3_65 : FO RX3 65 1 3 := ⟨RX1, TX1, 11, igX1, rfl, by decide, tg 158 (by decide +kernel) (by decide +kernel)⟩
theorem fw_X3_65 : FW RX3 65 1 3 .int := ⟨RX1, TX1, 11, tyX1, igX1, rfl, by decide, tg 158 (by decide +kernel) (by decide +kernel), tyX1_ok, nmX1, rfl, rfl⟩
theorem fo_X3_97 : FO RX3 97 0 4 := ⟨RX0, TX0, 8, igX0, rfl, by decide, tg 81 (by decide +kernel) (by decide +kernel)⟩
theorem fw_X3_97 : FW RX3 97 0 4 .int := ⟨RX0, TX0, 8, tyX0, igX0, rfl, by decide, tg 81 (by decide +kernel) (by decide +kernel), tyX0_ok, nmX0, rfl, rfl⟩
theorem fo_X3_104 : FO RX3 104 0 2 := ⟨RX0, TX0, 8, igX0, rfl, by decide, tg 76 (by decide +kernel) (by decide +kernel)⟩
theorem fw_X3_104 : FW RX3 104 0 2 .int := ⟨RX0, TX0, 8, tyX0, igX0, rfl, by decide, tg 76 (by decide +kernel) (by decide +kernel), tyX0_ok, nmX0, rfl, rfl⟩
theorem fo_X3_113 : FO RX3 113 2 4 := ⟨RX2, TX2, 8, igX2, rfl, by decide, tg 126 (by decide +kernel) (by decide +kernel)⟩
theorem fw_X3_113 : FW RX3 113 2 4 .int := ⟨RX2, TX2, 8, tyX2, igX2, rfl, by decide, tg 126 (by decide +kernel) (by decide +kernel), tyX2_ok, nmX2, rfl, rfl⟩
theorem fo_X3_124 : FO RX3 124 1 1 := ⟨RX1, TX1, 11, igX1, rfl, by decide, tg 154 (by decide +kernel) (by decide +kernel)⟩
theorem fw_X3_124 : FW RX3 124 1 1 .int := ⟨RX1, TX1, 11, tyX1, igX1, rfl, by decide, tg 154 (by decide +kernel) (by decide +kernel), tyX1_ok, nmX1, rfl, rfl⟩
theorem fo_X3_129 : FO RX3 129 1 4 := ⟨RX1, TX1, 11, igX1, rfl, by decide, tg 160 (by decide +kernel) (by decide +kernel)⟩
theorem fw_X3_129 : FW RX3 129 1 4 .int := ⟨RX1, TX1, 11, tyX1, igX1, rfl, by decide, tg 160 (by decide +kernel) (by decide +kernel), tyX1_ok, nmX1, rfl, rfl⟩
theorem fo_X3_143 : FO RX3 143 0 6 := ⟨RX0, TX0, 8, igX0, rfl, by decide, tg 86 (by decide +kernel) (by decide +kernel)⟩
theorem fw_X3_143 : FW RX3 143 0 6 .int := ⟨RX0, TX0, 8, tyX0, igX0, rfl, by decide, tg 86 (by decide +kernel) (by decide +kernel), tyX0_ok, nmX0, rfl, rfl⟩
theorem fo_X3_144 : FO RX3 144 0 7 := ⟨RX0, TX0, 8, igX0, rfl, by decide, tg 89 (by decide +kernel) (by decide +kernel)⟩
theorem fw_X3_144 : FW RX3 144 0 7 .int := ⟨RX0, TX0, 8, tyX0, igX0, rfl, by decide, tg 89 (by decide +kernel) (by decide +kernel), tyX0_ok, nmX0, rfl, rfl⟩
theorem fo_X3_159 : FO RX3 159 2 1 := ⟨RX2, TX2, 8, igX2, rfl, by decide, tg 119 (by decide +kernel) (by decide +kernel)⟩
theorem fw_X3_159 : FW RX3 159 2 1 .int := ⟨RX2, TX2, 8, tyX2, igX2, rfl, by decide, tg 119 (by decide +kernel) (by decide +kernel), tyX2_ok, nmX2, rfl, rfl⟩
theorem fo_X3_171 : FO RX3 171 1 0 := ⟨RX1, TX1, 11, igX1, rfl, by decide, tg 152 (by decide +kernel) (by decide +kernel)⟩
theorem fw_X3_171 : FW RX3 171 1 0 .int := ⟨RX1, TX1, 11, tyX1, igX1, rfl, by decide, tg 152 (by decide +kernel) (by decide +kernel), tyX1_ok, nmX1, rfl, rfl⟩
theorem fo_X3_179 : FO RX3 179 3 6 := ⟨RX3, TX3, 7, igX3, rfl, by decide, tg 201 (by decide +kernel) (by decide +kernel)⟩
theorem fw_X3_179 : FW RX3 179 3 6 .int := ⟨RX3, TX3, 7, tyX3, igX3, rfl, by decide, tg 201 (by decide +kernel) (by decide +kernel), tyX3_ok, nmX3, rfl, rfl⟩
theorem fo_X3_188 : FO RX3 188 3 3 := ⟨RX3, TX3, 7, igX3, rfl, by decide, tg 198 (by decide +kernel) (by decide +kernel)⟩
theorem fw_X3_188 : FW RX3 188 3 3 .int := ⟨RX3, TX3, 7, tyX3, igX3, rfl, by decide, tg 198 (by decide +kernel) (by decide +kernel), tyX3_ok, nmX3, rfl, rfl⟩
theorem fo_X3_193 : FO RX3 193 3 4 := ⟨RX3, TX3, 7, igX3, rfl, by decide, tg 199 (by decide +kernel) (by decide +kernel)⟩
theorem fw_X3_193 : FW RX3 193 3 4 .int := ⟨RX3, TX3, 7, tyX3, igX3, rfl, by decide, tg 199 (by decide +kernel) (by decide +kernel), tyX3_ok, nmX3, rfl, rfl⟩
theorem fo_X3_224 : FO RX3 224 0 3 := ⟨RX0, TX0, 8, igX0, rfl, by decide, tg 79 (by decide +kernel) (by decide +kernel)⟩
theorem fw_X3_224 : FW RX3 224 0 3 .boolean := ⟨RX0, TX0, 8, tyX0, igX0, rfl, by decide, tg 79 (by decide +kernel) (by decide +kernel), tyX0_ok, nmX0, rfl, rfl⟩
theorem fo_X0_9 : FO RX0 9 0 0 := ⟨RX0, TX0, 8, igX0, rfl, by decide, tg 71 (by decide +kernel) (by decide +kernel)⟩
theorem fw_X0_9 : FW RX0 9 0 0 .int := ⟨RX0, TX0, 8, tyX0, igX0, rfl, by decide, tg 71 (by decide +kernel) (by decide +kernel), tyX0_ok, nmX0, rfl, rfl⟩
theorem fo_X0_15 : FO RX0 15 0 1 := ⟨RX0, TX0, 8, igX0, rfl, by decide, tg 73 (by decide +kernel) (by decide +kernel)⟩
theorem fw_X0_15 : FW RX0 15 0 1 .int := ⟨RX0, TX0, 8, tyX0, igX0, rfl, by decide, tg 73 (by decide +kernel) (by decide +kernel), tyX0_ok, nmX0, rfl, rfl⟩
theorem fo_X0_18 : FO RX0 18 0 2 := ⟨RX0, TX0, 8, igX0, rfl, by decide, tg 75 (by decide +kernel) (by decide +kernel)⟩
theorem fw_X0_18 : FW RX0 18 0 2 .int := ⟨RX0, TX0, 8, tyX0, igX0, rfl, by decide, tg 75 (by decide +kernel) (by decide +kernel), tyX0_ok, nmX0, rfl, rfl⟩
theorem fo_X0_21 : FO RX0 21 0 3 := ⟨RX0, TX0, 8, igX0, rfl, by decide, tg 78 (by decide +kernel) (by decide +kernel)⟩
theorem fw_X0_21 : FW RX0 21 0 3 .boolean := ⟨RX0, TX0, 8, tyX0, igX0, rfl, by decide, tg 78 (by decide +kernel) (by decide +kernel), tyX0_ok, nmX0, rfl, rfl⟩
theorem fo_X0_25 : FO RX0 25 0 6 := ⟨RX0, TX0, 8, igX0, rfl, by decide, tg 85 (by decide +kernel) (by decide +kernel)⟩
theorem fw_X0_25 : FW RX0 25 0 6 .int := ⟨RX0, TX0, 8, tyX0, igX0, rfl, by decide, tg 85 (by decide +kernel) (by decide +kernel), tyX0_ok, nmX0, rfl, rfl⟩
theorem fo_X0_28 : FO RX0 28 0 7 := ⟨RX0, TX0, 8, igX0, rfl, by decide, tg 88 (by decide +kernel) (by decide +kernel)⟩
theorem fw_X0_28 : FW RX0 28 0 7 .int := ⟨RX0, TX0, 8, tyX0, igX0, rfl, by decide, tg 88 (by decide +kernel) (by decide +kernel), tyX0_ok, nmX0, rfl, rfl⟩
theorem fo_X0_34 : FO RX0 34 0 4 := ⟨RX0, TX0, 8, igX0, rfl, by decide, tg 80 (by decide +kernel) (by decide +kernel)⟩
theorem fw_X0_34 : FW RX0 34 0 4 .int := ⟨RX0, TX0, 8, tyX0, igX0, rfl, by decide, tg 80 (by decide +kernel) (by decide +kernel), tyX0_ok, nmX0, rfl, rfl⟩
theorem fo_X0_37 : FO RX0 37 0 5 := ⟨RX0, TX0, 8, igX0, rfl, by decide, tg 83 (by decide +kernel) (by decide +kernel)⟩
theorem fw_X0_37 : FW RX0 37 0 5 .int := ⟨RX0, TX0, 8, tyX0, igX0, rfl, by decide, tg 83 (by decide +kernel) (by decide +kernel), tyX0_ok, nmX0, rfl, rfl⟩
theorem fo_X1_9 : FO RX1 9 1 7 := ⟨RX1, TX1, 11, igX1, rfl, by decide, tg 163 (by decide +kernel) (by decide +kernel)⟩
theorem ff_X1_9 : FF RX1 9 1 7 (.array .int) := ⟨RX1, TX1, 11, tyX1, igX1, rfl, by decide, tg 163 (by decide +kernel) (by decide +kernel), tyX1_ok, nmX1, rfl, rfl, rfl⟩
theorem fo_X1_17 : FO RX1 17 1 8 := ⟨RX1, TX1, 11, igX1, rfl, by decide, tg 164 (by decide +kernel) (by decide +kernel)⟩
theorem ff_X1_17 : FF RX1 17 1 8 (.array (.object "LiftDrill$Chair")) := ⟨RX1, TX1, 11, tyX1, igX1, rfl, by decide, tg 164 (by decide +kernel) (by decide +kernel), tyX1_ok, nmX1, rfl, rfl, rfl⟩
theorem fo_X1_24 : FO RX1 24 1 9 := ⟨RX1, TX1, 11, igX1, rfl, by decide, tg 165 (by decide +kernel) (by decide +kernel)⟩
theorem ff_X1_24 : FF RX1 24 1 9 (.array (.object "LiftDrill$Team")) := ⟨RX1, TX1, 11, tyX1, igX1, rfl, by decide, tg 165 (by decide +kernel) (by decide +kernel), tyX1_ok, nmX1, rfl, rfl, rfl⟩
theorem fo_X1_29 : FO RX1 29 1 10 := ⟨RX1, TX1, 11, igX1, rfl, by decide, tg 166 (by decide +kernel) (by decide +kernel)⟩
theorem ff_X1_29 : FF RX1 29 1 10 (.array .int) := ⟨RX1, TX1, 11, tyX1, igX1, rfl, by decide, tg 166 (by decide +kernel) (by decide +kernel), tyX1_ok, nmX1, rfl, rfl, rfl⟩
theorem fo_X1_32 : FO RX1 32 1 0 := ⟨RX1, TX1, 11, igX1, rfl, by decide, tg 151 (by decide +kernel) (by decide +kernel)⟩
theorem fw_X1_32 : FW RX1 32 1 0 .int := ⟨RX1, TX1, 11, tyX1, igX1, rfl, by decide, tg 151 (by decide +kernel) (by decide +kernel), tyX1_ok, nmX1, rfl, rfl⟩
theorem fo_X1_36 : FO RX1 36 1 1 := ⟨RX1, TX1, 11, igX1, rfl, by decide, tg 153 (by decide +kernel) (by decide +kernel)⟩
theorem fw_X1_36 : FW RX1 36 1 1 .int := ⟨RX1, TX1, 11, tyX1, igX1, rfl, by decide, tg 153 (by decide +kernel) (by decide +kernel), tyX1_ok, nmX1, rfl, rfl⟩
theorem fo_X1_39 : FO RX1 39 1 2 := ⟨RX1, TX1, 11, igX1, rfl, by decide, tg 155 (by decide +kernel) (by decide +kernel)⟩
theorem fw_X1_39 : FW RX1 39 1 2 .int := ⟨RX1, TX1, 11, tyX1, igX1, rfl, by decide, tg 155 (by decide +kernel) (by decide +kernel), tyX1_ok, nmX1, rfl, rfl⟩
theorem fo_X1_42 : FO RX1 42 1 3 := ⟨RX1, TX1, 11, igX1, rfl, by decide, tg 157 (by decide +kernel) (by decide +kernel)⟩
theorem fw_X1_42 : FW RX1 42 1 3 .int := ⟨RX1, TX1, 11, tyX1, igX1, rfl, by decide, tg 157 (by decide +kernel) (by decide +kernel), tyX1_ok, nmX1, rfl, rfl⟩
theorem fo_X1_45 : FO RX1 45 1 4 := ⟨RX1, TX1, 11, igX1, rfl, by decide, tg 159 (by decide +kernel) (by decide +kernel)⟩
theorem fw_X1_45 : FW RX1 45 1 4 .int := ⟨RX1, TX1, 11, tyX1, igX1, rfl, by decide, tg 159 (by decide +kernel) (by decide +kernel), tyX1_ok, nmX1, rfl, rfl⟩
theorem fo_X1_48 : FO RX1 48 1 5 := ⟨RX1, TX1, 11, igX1, rfl, by decide, tg 161 (by decide +kernel) (by decide +kernel)⟩
theorem fw_X1_48 : FW RX1 48 1 5 .int := ⟨RX1, TX1, 11, tyX1, igX1, rfl, by decide, tg 161 (by decide +kernel) (by decide +kernel), tyX1_ok, nmX1, rfl, rfl⟩
theorem fo_X1_51 : FO RX1 51 1 6 := ⟨RX1, TX1, 11, igX1, rfl, by decide, tg 162 (by decide +kernel) (by decide +kernel)⟩
theorem fw_X1_51 : FW RX1 51 1 6 .int := ⟨RX1, TX1, 11, tyX1, igX1, rfl, by decide, tg 162 (by decide +kernel) (by decide +kernel), tyX1_ok, nmX1, rfl, rfl⟩
theorem fo_X1_103 : FO RX1 103 0 4 := ⟨RX0, TX0, 8, igX0, rfl, by decide, tg 82 (by decide +kernel) (by decide +kernel)⟩
theorem fw_X1_103 : FW RX1 103 0 4 .int := ⟨RX0, TX0, 8, tyX0, igX0, rfl, by decide, tg 82 (by decide +kernel) (by decide +kernel), tyX0_ok, nmX0, rfl, rfl⟩
theorem fo_X1_106 : FO RX1 106 0 2 := ⟨RX0, TX0, 8, igX0, rfl, by decide, tg 77 (by decide +kernel) (by decide +kernel)⟩
theorem fw_X1_106 : FW RX1 106 0 2 .int := ⟨RX0, TX0, 8, tyX0, igX0, rfl, by decide, tg 77 (by decide +kernel) (by decide +kernel), tyX0_ok, nmX0, rfl, rfl⟩
theorem fo_X1_109 : FO RX1 109 2 2 := ⟨RX2, TX2, 8, igX2, rfl, by decide, tg 122 (by decide +kernel) (by decide +kernel)⟩
theorem fw_X1_109 : FW RX1 109 2 2 .int := ⟨RX2, TX2, 8, tyX2, igX2, rfl, by decide, tg 122 (by decide +kernel) (by decide +kernel), tyX2_ok, nmX2, rfl, rfl⟩
theorem fo_X1_110 : FO RX1 110 2 7 := ⟨RX2, TX2, 8, igX2, rfl, by decide, tg 133 (by decide +kernel) (by decide +kernel)⟩
theorem fw_X1_110 : FW RX1 110 2 7 .int := ⟨RX2, TX2, 8, tyX2, igX2, rfl, by decide, tg 133 (by decide +kernel) (by decide +kernel), tyX2_ok, nmX2, rfl, rfl⟩
theorem fo_X1_113 : FO RX1 113 2 3 := ⟨RX2, TX2, 8, igX2, rfl, by decide, tg 124 (by decide +kernel) (by decide +kernel)⟩
theorem fw_X1_113 : FW RX1 113 2 3 .int := ⟨RX2, TX2, 8, tyX2, igX2, rfl, by decide, tg 124 (by decide +kernel) (by decide +kernel), tyX2_ok, nmX2, rfl, rfl⟩
theorem fo_X1_119 : FO RX1 119 2 1 := ⟨RX2, TX2, 8, igX2, rfl, by decide, tg 120 (by decide +kernel) (by decide +kernel)⟩
theorem fw_X1_119 : FW RX1 119 2 1 .int := ⟨RX2, TX2, 8, tyX2, igX2, rfl, by decide, tg 120 (by decide +kernel) (by decide +kernel), tyX2_ok, nmX2, rfl, rfl⟩
theorem fo_X1_122 : FO RX1 122 2 4 := ⟨RX2, TX2, 8, igX2, rfl, by decide, tg 127 (by decide +kernel) (by decide +kernel)⟩
theorem fw_X1_122 : FW RX1 122 2 4 .int := ⟨RX2, TX2, 8, tyX2, igX2, rfl, by decide, tg 127 (by decide +kernel) (by decide +kernel), tyX2_ok, nmX2, rfl, rfl⟩
theorem fo_X1_133 : FO RX1 133 2 0 := ⟨RX2, TX2, 8, igX2, rfl, by decide, tg 117 (by decide +kernel) (by decide +kernel)⟩
theorem fw_X1_133 : FW RX1 133 2 0 .int := ⟨RX2, TX2, 8, tyX2, igX2, rfl, by decide, tg 117 (by decide +kernel) (by decide +kernel), tyX2_ok, nmX2, rfl, rfl⟩
theorem fo_X1_139 : FO RX1 139 0 5 := ⟨RX0, TX0, 8, igX0, rfl, by decide, tg 84 (by decide +kernel) (by decide +kernel)⟩
theorem fw_X1_139 : FW RX1 139 0 5 .int := ⟨RX0, TX0, 8, tyX0, igX0, rfl, by decide, tg 84 (by decide +kernel) (by decide +kernel), tyX0_ok, nmX0, rfl, rfl⟩
theorem fo_X1_142 : FO RX1 142 0 0 := ⟨RX0, TX0, 8, igX0, rfl, by decide, tg 72 (by decide +kernel) (by decide +kernel)⟩
theorem fw_X1_142 : FW RX1 142 0 0 .int := ⟨RX0, TX0, 8, tyX0, igX0, rfl, by decide, tg 72 (by decide +kernel) (by decide +kernel), tyX0_ok, nmX0, rfl, rfl⟩
theorem fo_X1_150 : FO RX1 150 0 7 := ⟨RX0, TX0, 8, igX0, rfl, by decide, tg 90 (by decide +kernel) (by decide +kernel)⟩
theorem fw_X1_150 : FW RX1 150 0 7 .int := ⟨RX0, TX0, 8, tyX0, igX0, rfl, by decide, tg 90 (by decide +kernel) (by decide +kernel), tyX0_ok, nmX0, rfl, rfl⟩
theorem fo_X1_153 : FO RX1 153 0 6 := ⟨RX0, TX0, 8, igX0, rfl, by decide, tg 87 (by decide +kernel) (by decide +kernel)⟩
theorem fw_X1_153 : FW RX1 153 0 6 .int := ⟨RX0, TX0, 8, tyX0, igX0, rfl, by decide, tg 87 (by decide +kernel) (by decide +kernel), tyX0_ok, nmX0, rfl, rfl⟩
theorem fo_X1_154 : FO RX1 154 2 5 := ⟨RX2, TX2, 8, igX2, rfl, by decide, tg 129 (by decide +kernel) (by decide +kernel)⟩
theorem fw_X1_154 : FW RX1 154 2 5 .int := ⟨RX2, TX2, 8, tyX2, igX2, rfl, by decide, tg 129 (by decide +kernel) (by decide +kernel), tyX2_ok, nmX2, rfl, rfl⟩
theorem fo_X1_156 : FO RX1 156 2 6 := ⟨RX2, TX2, 8, igX2, rfl, by decide, tg 131 (by decide +kernel) (by decide +kernel)⟩
theorem fw_X1_156 : FW RX1 156 2 6 .int := ⟨RX2, TX2, 8, tyX2, igX2, rfl, by decide, tg 131 (by decide +kernel) (by decide +kernel), tyX2_ok, nmX2, rfl, rfl⟩
theorem fo_X1_159 : FO RX1 159 0 1 := ⟨RX0, TX0, 8, igX0, rfl, by decide, tg 74 (by decide +kernel) (by decide +kernel)⟩
theorem fw_X1_159 : FW RX1 159 0 1 .int := ⟨RX0, TX0, 8, tyX0, igX0, rfl, by decide, tg 74 (by decide +kernel) (by decide +kernel), tyX0_ok, nmX0, rfl, rfl⟩
theorem fo_X2_9 : FO RX2 9 2 0 := ⟨RX2, TX2, 8, igX2, rfl, by decide, tg 116 (by decide +kernel) (by decide +kernel)⟩
theorem fw_X2_9 : FW RX2 9 2 0 .int := ⟨RX2, TX2, 8, tyX2, igX2, rfl, by decide, tg 116 (by decide +kernel) (by decide +kernel), tyX2_ok, nmX2, rfl, rfl⟩
theorem fo_X2_15 : FO RX2 15 2 1 := ⟨RX2, TX2, 8, igX2, rfl, by decide, tg 118 (by decide +kernel) (by decide +kernel)⟩
theorem fw_X2_15 : FW RX2 15 2 1 .int := ⟨RX2, TX2, 8, tyX2, igX2, rfl, by decide, tg 118 (by decide +kernel) (by decide +kernel), tyX2_ok, nmX2, rfl, rfl⟩
theorem fo_X2_18 : FO RX2 18 2 5 := ⟨RX2, TX2, 8, igX2, rfl, by decide, tg 128 (by decide +kernel) (by decide +kernel)⟩
theorem fw_X2_18 : FW RX2 18 2 5 .int := ⟨RX2, TX2, 8, tyX2, igX2, rfl, by decide, tg 128 (by decide +kernel) (by decide +kernel), tyX2_ok, nmX2, rfl, rfl⟩
theorem fo_X2_21 : FO RX2 21 2 6 := ⟨RX2, TX2, 8, igX2, rfl, by decide, tg 130 (by decide +kernel) (by decide +kernel)⟩
theorem fw_X2_21 : FW RX2 21 2 6 .int := ⟨RX2, TX2, 8, tyX2, igX2, rfl, by decide, tg 130 (by decide +kernel) (by decide +kernel), tyX2_ok, nmX2, rfl, rfl⟩
theorem fo_X2_24 : FO RX2 24 2 7 := ⟨RX2, TX2, 8, igX2, rfl, by decide, tg 132 (by decide +kernel) (by decide +kernel)⟩
theorem fw_X2_24 : FW RX2 24 2 7 .int := ⟨RX2, TX2, 8, tyX2, igX2, rfl, by decide, tg 132 (by decide +kernel) (by decide +kernel), tyX2_ok, nmX2, rfl, rfl⟩
theorem fo_X2_30 : FO RX2 30 2 2 := ⟨RX2, TX2, 8, igX2, rfl, by decide, tg 121 (by decide +kernel) (by decide +kernel)⟩
theorem fw_X2_30 : FW RX2 30 2 2 .int := ⟨RX2, TX2, 8, tyX2, igX2, rfl, by decide, tg 121 (by decide +kernel) (by decide +kernel), tyX2_ok, nmX2, rfl, rfl⟩
theorem fo_X2_33 : FO RX2 33 2 3 := ⟨RX2, TX2, 8, igX2, rfl, by decide, tg 123 (by decide +kernel) (by decide +kernel)⟩
theorem fw_X2_33 : FW RX2 33 2 3 .int := ⟨RX2, TX2, 8, tyX2, igX2, rfl, by decide, tg 123 (by decide +kernel) (by decide +kernel), tyX2_ok, nmX2, rfl, rfl⟩
theorem fo_X2_36 : FO RX2 36 2 4 := ⟨RX2, TX2, 8, igX2, rfl, by decide, tg 125 (by decide +kernel) (by decide +kernel)⟩
theorem fw_X2_36 : FW RX2 36 2 4 .int := ⟨RX2, TX2, 8, tyX2, igX2, rfl, by decide, tg 125 (by decide +kernel) (by decide +kernel), tyX2_ok, nmX2, rfl, rfl⟩
theorem fo_X4_7 : FO RX4 7 4 0 := ⟨RX4, TX4, 12, igX4, rfl, by decide, tg 659 (by decide +kernel) (by decide +kernel)⟩
theorem ff_X4_7 : FF RX4 7 4 0 (.array .int) := ⟨RX4, TX4, 12, tyX4, igX4, rfl, by decide, tg 659 (by decide +kernel) (by decide +kernel), tyX4_ok, nmX4, rfl, rfl, rfl⟩
theorem fo_X4_13 : FO RX4 13 4 1 := ⟨RX4, TX4, 12, igX4, rfl, by decide, tg 660 (by decide +kernel) (by decide +kernel)⟩
theorem ff_X4_13 : FF RX4 13 4 1 (.array .int) := ⟨RX4, TX4, 12, tyX4, igX4, rfl, by decide, tg 660 (by decide +kernel) (by decide +kernel), tyX4_ok, nmX4, rfl, rfl, rfl⟩
theorem fo_X4_16 : FO RX4 16 4 2 := ⟨RX4, TX4, 12, igX4, rfl, by decide, tg 661 (by decide +kernel) (by decide +kernel)⟩
theorem ff_X4_16 : FF RX4 16 4 2 (.array .int) := ⟨RX4, TX4, 12, tyX4, igX4, rfl, by decide, tg 661 (by decide +kernel) (by decide +kernel), tyX4_ok, nmX4, rfl, rfl, rfl⟩
theorem fo_X4_19 : FO RX4 19 4 3 := ⟨RX4, TX4, 12, igX4, rfl, by decide, tg 662 (by decide +kernel) (by decide +kernel)⟩
theorem ff_X4_19 : FF RX4 19 4 3 (.array .int) := ⟨RX4, TX4, 12, tyX4, igX4, rfl, by decide, tg 662 (by decide +kernel) (by decide +kernel), tyX4_ok, nmX4, rfl, rfl, rfl⟩
theorem fo_X4_22 : FO RX4 22 4 5 := ⟨RX4, TX4, 12, igX4, rfl, by decide, tg 664 (by decide +kernel) (by decide +kernel)⟩
theorem ff_X4_22 : FF RX4 22 4 5 (.array .int) := ⟨RX4, TX4, 12, tyX4, igX4, rfl, by decide, tg 664 (by decide +kernel) (by decide +kernel), tyX4_ok, nmX4, rfl, rfl, rfl⟩
theorem fo_X4_25 : FO RX4 25 4 8 := ⟨RX4, TX4, 12, igX4, rfl, by decide, tg 667 (by decide +kernel) (by decide +kernel)⟩
theorem ff_X4_25 : FF RX4 25 4 8 (.array .int) := ⟨RX4, TX4, 12, tyX4, igX4, rfl, by decide, tg 667 (by decide +kernel) (by decide +kernel), tyX4_ok, nmX4, rfl, rfl, rfl⟩
theorem fo_X4_28 : FO RX4 28 4 7 := ⟨RX4, TX4, 12, igX4, rfl, by decide, tg 666 (by decide +kernel) (by decide +kernel)⟩
theorem fw_X4_28 : FW RX4 28 4 7 .int := ⟨RX4, TX4, 12, tyX4, igX4, rfl, by decide, tg 666 (by decide +kernel) (by decide +kernel), tyX4_ok, nmX4, rfl, rfl⟩
theorem fo_X4_36 : FO RX4 36 4 4 := ⟨RX4, TX4, 12, igX4, rfl, by decide, tg 663 (by decide +kernel) (by decide +kernel)⟩
theorem fw_X4_36 : FW RX4 36 4 4 .int := ⟨RX4, TX4, 12, tyX4, igX4, rfl, by decide, tg 663 (by decide +kernel) (by decide +kernel), tyX4_ok, nmX4, rfl, rfl⟩
theorem fo_X4_82 : FO RX4 82 4 9 := ⟨RX4, TX4, 12, igX4, rfl, by decide, tg 668 (by decide +kernel) (by decide +kernel)⟩
theorem fw_X4_82 : FW RX4 82 4 9 .int := ⟨RX4, TX4, 12, tyX4, igX4, rfl, by decide, tg 668 (by decide +kernel) (by decide +kernel), tyX4_ok, nmX4, rfl, rfl⟩
theorem fo_X4_136 : FO RX4 136 4 6 := ⟨RX4, TX4, 12, igX4, rfl, by decide, tg 665 (by decide +kernel) (by decide +kernel)⟩
theorem fw_X4_136 : FW RX4 136 4 6 .int := ⟨RX4, TX4, 12, tyX4, igX4, rfl, by decide, tg 665 (by decide +kernel) (by decide +kernel), tyX4_ok, nmX4, rfl, rfl⟩
theorem fo_X4_139 : FO RX4 139 4 10 := ⟨RX4, TX4, 12, igX4, rfl, by decide, tg 669 (by decide +kernel) (by decide +kernel)⟩
theorem fw_X4_139 : FW RX4 139 4 10 .int := ⟨RX4, TX4, 12, tyX4, igX4, rfl, by decide, tg 669 (by decide +kernel) (by decide +kernel), tyX4_ok, nmX4, rfl, rfl⟩
theorem fo_X4_155 : FO RX4 155 4 11 := ⟨RX4, TX4, 12, igX4, rfl, by decide, tg 670 (by decide +kernel) (by decide +kernel)⟩
theorem fw_X4_155 : FW RX4 155 4 11 .long := ⟨RX4, TX4, 12, tyX4, igX4, rfl, by decide, tg 670 (by decide +kernel) (by decide +kernel), tyX4_ok, nmX4, rfl, rfl⟩
theorem kl_X3_200 : Cond.constantLong RX3 200 3517 ∈ Tg := tg 361 (by decide +kernel) (by decide +kernel)
theorem kl_X3_213 : Cond.constantLong RX3 213 31 ∈ Tg := tg 365 (by decide +kernel) (by decide +kernel)
theorem kl_X4_159 : Cond.constantLong RX4 159 3517 ∈ Tg := tg 918 (by decide +kernel) (by decide +kernel)
theorem kl_X4_153 : Cond.constantLong RX4 153 31 ∈ Tg := tg 923 (by decide +kernel) (by decide +kernel)
