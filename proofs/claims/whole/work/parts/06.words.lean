noncomputable def xi_b (c : Prop) : Int32 := @ite Int32 c (Classical.propDecidable c) 1 0
theorem xi_t {c : Prop} (h : c) : xi_b c = 1 := by simp [xi_b, h]
theorem xi_f {c : Prop} (h : ¬ c) : xi_b c = 0 := by simp [xi_b, h]
theorem xi_0 {c : Prop} : xi_b c = 0 ↔ ¬ c := by
  by_cases h : c
  · rw [xi_t h]; exact ⟨fun z => absurd z (by decide), fun z => absurd h z⟩
  · rw [xi_f h]; exact ⟨fun _ => h, fun _ => rfl⟩
theorem xi_n0 {c : Prop} : ¬ xi_b c = 0 ↔ c := by
  rw [xi_0, Classical.not_not]
theorem xi_nb {c : Prop} : narrow .boolean (.int (xi_b c)) = .int (xi_b c) := by
  by_cases h : c
  · rw [xi_t h]; rfl
  · rw [xi_f h]; rfl
def xr_ (k : Nat) : Room := { frames := k, cells := 0, slots := 0, locals := 30 * k }
/-! words that calls lean on, by their places -/
theorem xw_1 : (Cond.selects "AbsenceRows" ⟨"AbsenceRows", "isEnough", "(IIIII)Z"⟩ ⟨"AbsenceRows", "isEnough", "(IIIII)Z"⟩) ∈ xt_T := xt_in 1 (by decide +kernel) rfl
theorem xw_2 : (Cond.selects "AbsenceRows" ⟨"AbsenceRows", "partsOfYear", "(IIIII)I"⟩ ⟨"AbsenceRows", "partsOfYear", "(IIIII)I"⟩) ∈ xt_T := xt_in 2 (by decide +kernel) rfl
theorem xw_3 : (Cond.selects "AbsenceRows" ⟨"AbsenceRows", "halfDaysOfHoliday", "(II)I"⟩ ⟨"AbsenceRows", "halfDaysOfHoliday", "(II)I"⟩) ∈ xt_T := xt_in 3 (by decide +kernel) rfl
theorem xw_4 : (Cond.selects "AbsenceRows" ⟨"AbsenceRows", "halfDaysOf", "(I)I"⟩ ⟨"AbsenceRows", "halfDaysOf", "(I)I"⟩) ∈ xt_T := xt_in 4 (by decide +kernel) rfl
theorem xw_5 : (Cond.selects "AbsenceRows" ⟨"AbsenceRows", "partsCarried", "(II)I"⟩ ⟨"AbsenceRows", "partsCarried", "(II)I"⟩) ∈ xt_T := xt_in 5 (by decide +kernel) rfl
theorem xw_9 : (Cond.selects "AbsenceRows" ⟨"AbsenceRows", "crewLeftShort", "(II)I"⟩ ⟨"AbsenceRows", "crewLeftShort", "(II)I"⟩) ∈ xt_T := xt_in 9 (by decide +kernel) rfl
theorem xw_10 : (Cond.selects "AbsenceRows" ⟨"AbsenceRows", "atWorkOn", "(I)I"⟩ ⟨"AbsenceRows", "atWorkOn", "(I)I"⟩) ∈ xt_T := xt_in 10 (by decide +kernel) rfl
theorem xw_13 : (Cond.selects "AbsenceRows" ⟨"AbsenceRows", "nextToAsk", "(I)I"⟩ ⟨"AbsenceRows", "nextToAsk", "(I)I"⟩) ∈ xt_T := xt_in 13 (by decide +kernel) rfl
theorem xw_37 : (Cond.initialized "AbsenceRows") ∈ xt_T := xt_in 37 (by decide +kernel) rfl
theorem xw_38 : (Cond.initialized "AbsenceRows$Calendar") ∈ xt_T := xt_in 38 (by decide +kernel) rfl
theorem xw_39 : (Cond.initialized "AbsenceRows$Persons") ∈ xt_T := xt_in 39 (by decide +kernel) rfl
theorem xw_41 : (Cond.initialized "AbsenceRows$Asks") ∈ xt_T := xt_in 41 (by decide +kernel) rfl
theorem xw_43 : (Cond.initialized "AbsenceRows$Calls") ∈ xt_T := xt_in 43 (by decide +kernel) rfl
theorem xw_51 : (Cond.initialized "java/lang/Math") ∈ xt_T := xt_in 51 (by decide +kernel) rfl
theorem xw_53 : (Cond.initialized "java/lang/Integer") ∈ xt_T := xt_in 53 (by decide +kernel) rfl
theorem xw_268 : (Cond.methodLink "AbsenceRows" 61 ⟨"AbsenceRows", "isWithin", "(III)Z"⟩) ∈ xt_T := xt_in 268 (by decide +kernel) rfl
theorem xw_269 : (Cond.static ⟨"AbsenceRows", "isWithin", "(III)Z"⟩) ∈ xt_T := xt_in 269 (by decide +kernel) rfl
theorem xw_271 : (Cond.methodLink "AbsenceRows" 65 ⟨"AbsenceRows", "isDay", "(I)Z"⟩) ∈ xt_T := xt_in 271 (by decide +kernel) rfl
theorem xw_272 : (Cond.static ⟨"AbsenceRows", "isDay", "(I)Z"⟩) ∈ xt_T := xt_in 272 (by decide +kernel) rfl
theorem xw_359 : (Cond.methodLink "AbsenceRows" 84 ⟨"AbsenceRows$Persons", "add", "(III)I"⟩) ∈ xt_T := xt_in 359 (by decide +kernel) rfl
theorem xw_360 : (Cond.instanceMethod ⟨"AbsenceRows$Persons", "add", "(III)I"⟩) ∈ xt_T := xt_in 360 (by decide +kernel) rfl
theorem xw_361 : (Cond.selects "AbsenceRows$Persons" ⟨"AbsenceRows$Persons", "add", "(III)I"⟩ ⟨"AbsenceRows$Persons", "add", "(III)I"⟩) ∈ xt_T := xt_in 361 (by decide +kernel) rfl
theorem xw_394 : (Cond.methodLink "AbsenceRows" 98 ⟨"AbsenceRows", "isEnough", "(IIIII)Z"⟩) ∈ xt_T := xt_in 394 (by decide +kernel) rfl
theorem xw_396 : (Cond.instanceMethod ⟨"AbsenceRows", "isEnough", "(IIIII)Z"⟩) ∈ xt_T := xt_in 396 (by decide +kernel) rfl
theorem xw_398 : (Cond.methodLink "AbsenceRows" 336 ⟨"AbsenceRows", "partsOfYear", "(IIIII)I"⟩) ∈ xt_T := xt_in 398 (by decide +kernel) rfl
theorem xw_400 : (Cond.instanceMethod ⟨"AbsenceRows", "partsOfYear", "(IIIII)I"⟩) ∈ xt_T := xt_in 400 (by decide +kernel) rfl
theorem xw_402 : (Cond.methodLink "AbsenceRows" 319 ⟨"AbsenceRows", "halfDaysOfHoliday", "(II)I"⟩) ∈ xt_T := xt_in 402 (by decide +kernel) rfl
theorem xw_404 : (Cond.instanceMethod ⟨"AbsenceRows", "halfDaysOfHoliday", "(II)I"⟩) ∈ xt_T := xt_in 404 (by decide +kernel) rfl
theorem xw_406 : (Cond.methodLink "AbsenceRows" 354 ⟨"AbsenceRows$Asks", "takesFromBudget", "(I)Z"⟩) ∈ xt_T := xt_in 406 (by decide +kernel) rfl
theorem xw_407 : (Cond.instanceMethod ⟨"AbsenceRows$Asks", "takesFromBudget", "(I)Z"⟩) ∈ xt_T := xt_in 407 (by decide +kernel) rfl
theorem xw_408 : (Cond.selects "AbsenceRows$Asks" ⟨"AbsenceRows$Asks", "takesFromBudget", "(I)Z"⟩ ⟨"AbsenceRows$Asks", "takesFromBudget", "(I)Z"⟩) ∈ xt_T := xt_in 408 (by decide +kernel) rfl
theorem xw_410 : (Cond.methodLink "AbsenceRows" 165 ⟨"AbsenceRows", "yearOf", "(I)I"⟩) ∈ xt_T := xt_in 410 (by decide +kernel) rfl
theorem xw_411 : (Cond.static ⟨"AbsenceRows", "yearOf", "(I)I"⟩) ∈ xt_T := xt_in 411 (by decide +kernel) rfl
theorem xw_413 : (Cond.methodLink "AbsenceRows" 234 ⟨"AbsenceRows", "halfDaysOf", "(I)I"⟩) ∈ xt_T := xt_in 413 (by decide +kernel) rfl
theorem xw_415 : (Cond.instanceMethod ⟨"AbsenceRows", "halfDaysOf", "(I)I"⟩) ∈ xt_T := xt_in 415 (by decide +kernel) rfl
theorem xw_417 : (Cond.methodLink "AbsenceRows" 342 ⟨"AbsenceRows$Calendar", "halfDays", "(III)I"⟩) ∈ xt_T := xt_in 417 (by decide +kernel) rfl
theorem xw_418 : (Cond.instanceMethod ⟨"AbsenceRows$Calendar", "halfDays", "(III)I"⟩) ∈ xt_T := xt_in 418 (by decide +kernel) rfl
theorem xw_419 : (Cond.selects "AbsenceRows$Calendar" ⟨"AbsenceRows$Calendar", "halfDays", "(III)I"⟩ ⟨"AbsenceRows$Calendar", "halfDays", "(III)I"⟩) ∈ xt_T := xt_in 419 (by decide +kernel) rfl
theorem xw_421 : (Cond.methodLink "AbsenceRows$Calendar" 15 ⟨"AbsenceRows$Calendar", "isWorkingDay", "(I)Z"⟩) ∈ xt_T := xt_in 421 (by decide +kernel) rfl
theorem xw_422 : (Cond.instanceMethod ⟨"AbsenceRows$Calendar", "isWorkingDay", "(I)Z"⟩) ∈ xt_T := xt_in 422 (by decide +kernel) rfl
theorem xw_423 : (Cond.selects "AbsenceRows$Calendar" ⟨"AbsenceRows$Calendar", "isWorkingDay", "(I)Z"⟩ ⟨"AbsenceRows$Calendar", "isWorkingDay", "(I)Z"⟩) ∈ xt_T := xt_in 423 (by decide +kernel) rfl
theorem xw_426 : (Cond.static ⟨"AbsenceRows", "isHalf", "(IIII)Z"⟩) ∈ xt_T := xt_in 426 (by decide +kernel) rfl
theorem xw_428 : (Cond.methodLink "AbsenceRows" 322 ⟨"AbsenceRows$Persons", "daysThere", "(II)I"⟩) ∈ xt_T := xt_in 428 (by decide +kernel) rfl
theorem xw_429 : (Cond.instanceMethod ⟨"AbsenceRows$Persons", "daysThere", "(II)I"⟩) ∈ xt_T := xt_in 429 (by decide +kernel) rfl
theorem xw_430 : (Cond.selects "AbsenceRows$Persons" ⟨"AbsenceRows$Persons", "daysThere", "(II)I"⟩ ⟨"AbsenceRows$Persons", "daysThere", "(II)I"⟩) ∈ xt_T := xt_in 430 (by decide +kernel) rfl
theorem xw_432 : (Cond.methodLink "AbsenceRows$Persons" 41 ⟨"java/lang/Math", "min", "(II)I"⟩) ∈ xt_T := xt_in 432 (by decide +kernel) rfl
theorem xw_433 : (Cond.static ⟨"java/lang/Math", "min", "(II)I"⟩) ∈ xt_T := xt_in 433 (by decide +kernel) rfl
theorem xw_435 : (Cond.methodLink "AbsenceRows$Persons" 47 ⟨"java/lang/Math", "max", "(II)I"⟩) ∈ xt_T := xt_in 435 (by decide +kernel) rfl
theorem xw_436 : (Cond.static ⟨"java/lang/Math", "max", "(II)I"⟩) ∈ xt_T := xt_in 436 (by decide +kernel) rfl
theorem xw_438 : (Cond.methodLink "AbsenceRows" 325 ⟨"AbsenceRows", "partsOfHalfDay", "(I)I"⟩) ∈ xt_T := xt_in 438 (by decide +kernel) rfl
theorem xw_439 : (Cond.static ⟨"AbsenceRows", "partsOfHalfDay", "(I)I"⟩) ∈ xt_T := xt_in 439 (by decide +kernel) rfl
theorem xw_441 : (Cond.methodLink "AbsenceRows" 339 ⟨"AbsenceRows", "partsCarried", "(II)I"⟩) ∈ xt_T := xt_in 441 (by decide +kernel) rfl
theorem xw_443 : (Cond.instanceMethod ⟨"AbsenceRows", "partsCarried", "(II)I"⟩) ∈ xt_T := xt_in 443 (by decide +kernel) rfl
theorem xw_445 : (Cond.methodLink "AbsenceRows" 247 ⟨"AbsenceRows", "partsOfDay", "(I)I"⟩) ∈ xt_T := xt_in 445 (by decide +kernel) rfl
theorem xw_446 : (Cond.static ⟨"AbsenceRows", "partsOfDay", "(I)I"⟩) ∈ xt_T := xt_in 446 (by decide +kernel) rfl
theorem xw_448 : (Cond.methodLink "AbsenceRows" 328 ⟨"java/lang/Math", "min", "(II)I"⟩) ∈ xt_T := xt_in 448 (by decide +kernel) rfl
theorem xw_449 : (Cond.methodLink "AbsenceRows" 333 ⟨"java/lang/Math", "max", "(II)I"⟩) ∈ xt_T := xt_in 449 (by decide +kernel) rfl
theorem xw_525 : (Cond.methodLink "AbsenceRows" 149 ⟨"AbsenceRows", "holds", "(II)Z"⟩) ∈ xt_T := xt_in 525 (by decide +kernel) rfl
theorem xw_526 : (Cond.static ⟨"AbsenceRows", "holds", "(II)Z"⟩) ∈ xt_T := xt_in 526 (by decide +kernel) rfl
theorem xw_528 : (Cond.methodLink "AbsenceRows" 154 ⟨"AbsenceRows", "only", "(I)I"⟩) ∈ xt_T := xt_in 528 (by decide +kernel) rfl
theorem xw_529 : (Cond.static ⟨"AbsenceRows", "only", "(I)I"⟩) ∈ xt_T := xt_in 529 (by decide +kernel) rfl
theorem xw_532 : (Cond.methodLink "AbsenceRows" 158 ⟨"java/lang/Integer", "bitCount", "(I)I"⟩) ∈ xt_T := xt_in 532 (by decide +kernel) rfl
theorem xw_533 : (Cond.static ⟨"java/lang/Integer", "bitCount", "(I)I"⟩) ∈ xt_T := xt_in 533 (by decide +kernel) rfl
theorem xw_599 : (Cond.methodLink "AbsenceRows" 363 ⟨"AbsenceRows$Calendar", "isWorkingDay", "(I)Z"⟩) ∈ xt_T := xt_in 599 (by decide +kernel) rfl
theorem xw_600 : (Cond.methodLink "AbsenceRows" 366 ⟨"AbsenceRows", "isHalf", "(IIII)Z"⟩) ∈ xt_T := xt_in 600 (by decide +kernel) rfl
theorem xw_601 : (Cond.methodLink "AbsenceRows" 217 ⟨"AbsenceRows", "crewLeftShort", "(II)I"⟩) ∈ xt_T := xt_in 601 (by decide +kernel) rfl
theorem xw_603 : (Cond.instanceMethod ⟨"AbsenceRows", "crewLeftShort", "(II)I"⟩) ∈ xt_T := xt_in 603 (by decide +kernel) rfl
theorem xw_605 : (Cond.methodLink "AbsenceRows" 258 ⟨"AbsenceRows", "atWorkOn", "(I)I"⟩) ∈ xt_T := xt_in 605 (by decide +kernel) rfl
theorem xw_607 : (Cond.instanceMethod ⟨"AbsenceRows", "atWorkOn", "(I)I"⟩) ∈ xt_T := xt_in 607 (by decide +kernel) rfl
theorem xw_609 : (Cond.methodLink "AbsenceRows" 360 ⟨"AbsenceRows$Persons", "thereOn", "(I)I"⟩) ∈ xt_T := xt_in 609 (by decide +kernel) rfl
theorem xw_610 : (Cond.instanceMethod ⟨"AbsenceRows$Persons", "thereOn", "(I)I"⟩) ∈ xt_T := xt_in 610 (by decide +kernel) rfl
theorem xw_611 : (Cond.selects "AbsenceRows$Persons" ⟨"AbsenceRows$Persons", "thereOn", "(I)I"⟩ ⟨"AbsenceRows$Persons", "thereOn", "(I)I"⟩) ∈ xt_T := xt_in 611 (by decide +kernel) rfl
theorem xw_614 : (Cond.methodLink "AbsenceRows" 253 ⟨"AbsenceRows$Asks", "absentOn", "(I)I"⟩) ∈ xt_T := xt_in 614 (by decide +kernel) rfl
theorem xw_615 : (Cond.instanceMethod ⟨"AbsenceRows$Asks", "absentOn", "(I)I"⟩) ∈ xt_T := xt_in 615 (by decide +kernel) rfl
theorem xw_616 : (Cond.selects "AbsenceRows$Asks" ⟨"AbsenceRows$Asks", "absentOn", "(I)I"⟩ ⟨"AbsenceRows$Asks", "absentOn", "(I)I"⟩) ∈ xt_T := xt_in 616 (by decide +kernel) rfl
theorem xw_620 : (Cond.methodLink "AbsenceRows" 261 ⟨"AbsenceRows$Calls", "comeTo", "(II)I"⟩) ∈ xt_T := xt_in 620 (by decide +kernel) rfl
theorem xw_621 : (Cond.instanceMethod ⟨"AbsenceRows$Calls", "comeTo", "(II)I"⟩) ∈ xt_T := xt_in 621 (by decide +kernel) rfl
theorem xw_622 : (Cond.selects "AbsenceRows$Calls" ⟨"AbsenceRows$Calls", "comeTo", "(II)I"⟩ ⟨"AbsenceRows$Calls", "comeTo", "(II)I"⟩) ∈ xt_T := xt_in 622 (by decide +kernel) rfl
theorem xw_665 : (Cond.methodLink "AbsenceRows" 395 ⟨"java/lang/Math", "abs", "(I)I"⟩) ∈ xt_T := xt_in 665 (by decide +kernel) rfl
theorem xw_666 : (Cond.static ⟨"java/lang/Math", "abs", "(I)I"⟩) ∈ xt_T := xt_in 666 (by decide +kernel) rfl
theorem xw_729 : (Cond.methodLink "AbsenceRows" 372 ⟨"AbsenceRows", "nextToAsk", "(I)I"⟩) ∈ xt_T := xt_in 729 (by decide +kernel) rfl
theorem xw_731 : (Cond.instanceMethod ⟨"AbsenceRows", "nextToAsk", "(I)I"⟩) ∈ xt_T := xt_in 731 (by decide +kernel) rfl
theorem xw_733 : (Cond.methodLink "AbsenceRows" 383 ⟨"AbsenceRows$Calls", "engagedOn", "(I)I"⟩) ∈ xt_T := xt_in 733 (by decide +kernel) rfl
theorem xw_734 : (Cond.instanceMethod ⟨"AbsenceRows$Calls", "engagedOn", "(I)I"⟩) ∈ xt_T := xt_in 734 (by decide +kernel) rfl
theorem xw_735 : (Cond.selects "AbsenceRows$Calls" ⟨"AbsenceRows$Calls", "engagedOn", "(I)I"⟩ ⟨"AbsenceRows$Calls", "engagedOn", "(I)I"⟩) ∈ xt_T := xt_in 735 (by decide +kernel) rfl
theorem xw_737 : (Cond.methodLink "AbsenceRows" 389 ⟨"AbsenceRows$Persons", "haveSkills", "(III)Z"⟩) ∈ xt_T := xt_in 737 (by decide +kernel) rfl
theorem xw_738 : (Cond.instanceMethod ⟨"AbsenceRows$Persons", "haveSkills", "(III)Z"⟩) ∈ xt_T := xt_in 738 (by decide +kernel) rfl
theorem xw_739 : (Cond.selects "AbsenceRows$Persons" ⟨"AbsenceRows$Persons", "haveSkills", "(III)Z"⟩ ⟨"AbsenceRows$Persons", "haveSkills", "(III)Z"⟩) ∈ xt_T := xt_in 739 (by decide +kernel) rfl
theorem xw_741 : (Cond.methodLink "AbsenceRows" 392 ⟨"AbsenceRows$Persons", "goesBefore", "(II)Z"⟩) ∈ xt_T := xt_in 741 (by decide +kernel) rfl
theorem xw_742 : (Cond.instanceMethod ⟨"AbsenceRows$Persons", "goesBefore", "(II)Z"⟩) ∈ xt_T := xt_in 742 (by decide +kernel) rfl
theorem xw_743 : (Cond.selects "AbsenceRows$Persons" ⟨"AbsenceRows$Persons", "goesBefore", "(II)Z"⟩ ⟨"AbsenceRows$Persons", "goesBefore", "(II)Z"⟩) ∈ xt_T := xt_in 743 (by decide +kernel) rfl
theorem xw_745 : (Cond.methodLink "AbsenceRows" 375 ⟨"AbsenceRows$Calls", "fail", "(I)V"⟩) ∈ xt_T := xt_in 745 (by decide +kernel) rfl
theorem xw_746 : (Cond.instanceMethod ⟨"AbsenceRows$Calls", "fail", "(I)V"⟩) ∈ xt_T := xt_in 746 (by decide +kernel) rfl
theorem xw_747 : (Cond.selects "AbsenceRows$Calls" ⟨"AbsenceRows$Calls", "fail", "(I)V"⟩ ⟨"AbsenceRows$Calls", "fail", "(I)V"⟩) ∈ xt_T := xt_in 747 (by decide +kernel) rfl
theorem xw_749 : (Cond.methodLink "AbsenceRows" 378 ⟨"AbsenceRows$Calls", "waitFor", "(III)V"⟩) ∈ xt_T := xt_in 749 (by decide +kernel) rfl
theorem xw_750 : (Cond.instanceMethod ⟨"AbsenceRows$Calls", "waitFor", "(III)V"⟩) ∈ xt_T := xt_in 750 (by decide +kernel) rfl
theorem xw_751 : (Cond.selects "AbsenceRows$Calls" ⟨"AbsenceRows$Calls", "waitFor", "(III)V"⟩ ⟨"AbsenceRows$Calls", "waitFor", "(III)V"⟩) ∈ xt_T := xt_in 751 (by decide +kernel) rfl
theorem xn_0 : (Cond.methodLinkNest "AbsenceRows" 9 ⟨"AbsenceRows$Calendar", "<init>", "()V"⟩ "AbsenceRows") ∈ xk_ns := List.mem_of_getElem? (i := 0) rfl
theorem xn_1 : (Cond.methodLinkNest "AbsenceRows" 18 ⟨"AbsenceRows$Persons", "<init>", "()V"⟩ "AbsenceRows") ∈ xk_ns := List.mem_of_getElem? (i := 1) rfl
theorem xn_2 : (Cond.methodLinkNest "AbsenceRows" 25 ⟨"AbsenceRows$Crews", "<init>", "()V"⟩ "AbsenceRows") ∈ xk_ns := List.mem_of_getElem? (i := 2) rfl
theorem xn_3 : (Cond.methodLinkNest "AbsenceRows" 32 ⟨"AbsenceRows$Asks", "<init>", "()V"⟩ "AbsenceRows") ∈ xk_ns := List.mem_of_getElem? (i := 3) rfl
theorem xn_4 : (Cond.methodLinkNest "AbsenceRows" 39 ⟨"AbsenceRows$HeldRows", "<init>", "()V"⟩ "AbsenceRows") ∈ xk_ns := List.mem_of_getElem? (i := 4) rfl
theorem xn_5 : (Cond.methodLinkNest "AbsenceRows" 46 ⟨"AbsenceRows$Calls", "<init>", "()V"⟩ "AbsenceRows") ∈ xk_ns := List.mem_of_getElem? (i := 5) rfl
theorem xn_6 : (Cond.methodLinkNest "AbsenceRows$Persons" 37 ⟨"AbsenceRows", "isWithin", "(III)Z"⟩ "AbsenceRows") ∈ xk_ns := List.mem_of_getElem? (i := 6) rfl
theorem xn_7 : (Cond.methodLinkNest "AbsenceRows$Calendar" 19 ⟨"AbsenceRows", "isHalf", "(IIII)Z"⟩ "AbsenceRows") ∈ xk_ns := List.mem_of_getElem? (i := 7) rfl
theorem xn_8 : (Cond.methodLinkNest "AbsenceRows$Crews" 25 ⟨"AbsenceRows", "isWithin", "(III)Z"⟩ "AbsenceRows") ∈ xk_ns := List.mem_of_getElem? (i := 8) rfl
theorem xn_9 : (Cond.methodLinkNest "AbsenceRows$Asks" 37 ⟨"AbsenceRows", "isWithin", "(III)Z"⟩ "AbsenceRows") ∈ xk_ns := List.mem_of_getElem? (i := 9) rfl
theorem xn_10 : (Cond.methodLinkNest "AbsenceRows$Persons" 50 ⟨"AbsenceRows", "only", "(I)I"⟩ "AbsenceRows") ∈ xk_ns := List.mem_of_getElem? (i := 10) rfl
theorem xn_11 : (Cond.methodLinkNest "AbsenceRows$Asks" 41 ⟨"AbsenceRows", "isHalf", "(IIII)Z"⟩ "AbsenceRows") ∈ xk_ns := List.mem_of_getElem? (i := 11) rfl
theorem xn_12 : (Cond.methodLinkNest "AbsenceRows$Asks" 45 ⟨"AbsenceRows", "only", "(I)I"⟩ "AbsenceRows") ∈ xk_ns := List.mem_of_getElem? (i := 12) rfl
theorem xn_13 : (Cond.methodLinkNest "AbsenceRows$Calls" 38 ⟨"AbsenceRows", "only", "(I)I"⟩ "AbsenceRows") ∈ xk_ns := List.mem_of_getElem? (i := 13) rfl
theorem xn_14 : (Cond.methodLinkNest "AbsenceRows$HeldRows" 25 ⟨"AbsenceRows", "isWithin", "(III)Z"⟩ "AbsenceRows") ∈ xk_ns := List.mem_of_getElem? (i := 14) rfl
theorem xn_15 : (Cond.methodLinkNest "AbsenceRows$Calls" 34 ⟨"AbsenceRows", "isWithin", "(III)Z"⟩ "AbsenceRows") ∈ xk_ns := List.mem_of_getElem? (i := 15) rfl
theorem xn_16 : (Cond.castable "java/lang/IndexOutOfBoundsException" "java/lang/IndexOutOfBoundsException") ∈ xk_ns := List.mem_of_getElem? (i := 16) rfl
theorem xn_17 : (Cond.declares ⟨"java/lang/RuntimeException", "<init>", "()V"⟩) ∈ xk_ns := List.mem_of_getElem? (i := 17) rfl
theorem xn_18 : (Cond.declares ⟨"java/lang/RuntimeException", "<init>", "(Ljava/lang/String;)V"⟩) ∈ xk_ns := List.mem_of_getElem? (i := 18) rfl
theorem xn_19 : (Cond.declares ⟨"java/lang/Exception", "<init>", "()V"⟩) ∈ xk_ns := List.mem_of_getElem? (i := 19) rfl
theorem xn_20 : (Cond.declares ⟨"java/lang/Exception", "<init>", "(Ljava/lang/String;)V"⟩) ∈ xk_ns := List.mem_of_getElem? (i := 20) rfl
theorem xn_21 : (Cond.declares ⟨"java/lang/Throwable", "<init>", "()V"⟩) ∈ xk_ns := List.mem_of_getElem? (i := 21) rfl
theorem xn_22 : (Cond.declares ⟨"java/lang/Throwable", "<init>", "(Ljava/lang/String;)V"⟩) ∈ xk_ns := List.mem_of_getElem? (i := 22) rfl
theorem xn_23 : (Cond.castable "java/lang/UnsupportedOperationException" "java/lang/UnsupportedOperationException") ∈ xk_ns := List.mem_of_getElem? (i := 23) rfl
theorem xn_24 : (Cond.castable "java/lang/IllegalArgumentException" "java/lang/IllegalArgumentException") ∈ xk_ns := List.mem_of_getElem? (i := 24) rfl
theorem xn_25 : (Cond.castable "java/lang/IllegalStateException" "java/lang/IllegalStateException") ∈ xk_ns := List.mem_of_getElem? (i := 25) rfl
