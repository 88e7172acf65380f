noncomputable def xi_b (c : Prop) : Int32 := @ite Int32 c (Classical.propDecidable c) 1 0
theorem xi_t {c : Prop} (h : c) : xi_b c = 1 := by simp [xi_b, h]
theorem xi_f {c : Prop} (h : ¬ c) : xi_b c = 0 := by simp [xi_b, h]
theorem xi_0 {c : Prop} : xi_b c = 0 ↔ ¬ c := by
  by_cases h : c
  · rw [xi_t h]; exact ⟨fun z => absurd z (by decide), fun z => absurd h z⟩
  · rw [xi_f h]; exact ⟨fun _ => h, fun _ => rfl⟩
theorem xi_n0 {c : Prop} : ¬ xi_b c = 0 ↔ c := by
  rw [xi_0, Classical.not_not]
theorem xi_nb {c : Prop} : narrow .boolean (.int (xi_b c)) = .int (xi_b c) := by
  by_cases h : c
  · rw [xi_t h]; rfl
  · rw [xi_f h]; rfl
def xr_ (k : Nat) : Room := { frames := k, cells := 0, slots := 0, locals := 30 * k }
/-! words that calls lean on, by their places -/
theorem xw_1 : (Cond.selects "AbsenceRows" ⟨"AbsenceRows", "isEnough", "(IIIII)Z"⟩ ⟨"AbsenceRows", "isEnough", "(IIIII)Z"⟩) ∈ xt_T := xt_in 1 (by decide +kernel) rfl
theorem xw_2 : (Cond.selects "AbsenceRows" ⟨"AbsenceRows", "partsOfYear", "(IIIII)I"⟩ ⟨"AbsenceRows", "partsOfYear", "(IIIII)I"⟩) ∈ xt_T := xt_in 2 (by decide +kernel) rfl
theorem xw_3 : (Cond.selects "AbsenceRows" ⟨"AbsenceRows", "halfDaysOfHoliday", "(II)I"⟩ ⟨"AbsenceRows", "halfDaysOfHoliday", "(II)I"⟩) ∈ xt_T := xt_in 3 (by decide +kernel) rfl
theorem xw_4 : (Cond.selects "AbsenceRows" ⟨"AbsenceRows", "halfDaysOf", "(I)I"⟩ ⟨"AbsenceRows", "halfDaysOf", "(I)I"⟩) ∈ xt_T := xt_in 4 (by decide +kernel) rfl
theorem xw_5 : (Cond.selects "AbsenceRows" ⟨"AbsenceRows", "partsCarried", "(II)I"⟩ ⟨"AbsenceRows", "partsCarried", "(II)I"⟩) ∈ xt_T := xt_in 5 (by decide +kernel) rfl
theorem xw_6 : (Cond.selects "AbsenceRows" ⟨"AbsenceRows", "isEnoughFor", "(IIII)Z"⟩ ⟨"AbsenceRows", "isEnoughFor", "(IIII)Z"⟩) ∈ xt_T := xt_in 6 (by decide +kernel) rfl
theorem xw_7 : (Cond.selects "AbsenceRows" ⟨"AbsenceRows", "isAbove", "(II)Z"⟩ ⟨"AbsenceRows", "isAbove", "(II)Z"⟩) ∈ xt_T := xt_in 7 (by decide +kernel) rfl
theorem xw_8 : (Cond.selects "AbsenceRows" ⟨"AbsenceRows", "firstDayLeftShort", "(I)I"⟩ ⟨"AbsenceRows", "firstDayLeftShort", "(I)I"⟩) ∈ xt_T := xt_in 8 (by decide +kernel) rfl
theorem xw_9 : (Cond.selects "AbsenceRows" ⟨"AbsenceRows", "crewLeftShort", "(II)I"⟩ ⟨"AbsenceRows", "crewLeftShort", "(II)I"⟩) ∈ xt_T := xt_in 9 (by decide +kernel) rfl
theorem xw_10 : (Cond.selects "AbsenceRows" ⟨"AbsenceRows", "atWorkOn", "(I)I"⟩ ⟨"AbsenceRows", "atWorkOn", "(I)I"⟩) ∈ xt_T := xt_in 10 (by decide +kernel) rfl
theorem xw_11 : (Cond.selects "AbsenceRows" ⟨"AbsenceRows", "partsLeft", "(II)I"⟩ ⟨"AbsenceRows", "partsLeft", "(II)I"⟩) ∈ xt_T := xt_in 11 (by decide +kernel) rfl
theorem xw_12 : (Cond.selects "AbsenceRows" ⟨"AbsenceRows", "askNext", "(I)V"⟩ ⟨"AbsenceRows", "askNext", "(I)V"⟩) ∈ xt_T := xt_in 12 (by decide +kernel) rfl
theorem xw_13 : (Cond.selects "AbsenceRows" ⟨"AbsenceRows", "nextToAsk", "(I)I"⟩ ⟨"AbsenceRows", "nextToAsk", "(I)I"⟩) ∈ xt_T := xt_in 13 (by decide +kernel) rfl
theorem xw_14 : (Cond.selects "AbsenceRows" ⟨"AbsenceRows", "goOnWithoutAnswer", "()I"⟩ ⟨"AbsenceRows", "goOnWithoutAnswer", "()I"⟩) ∈ xt_T := xt_in 14 (by decide +kernel) rfl
theorem xw_15 : (Cond.selects "AbsenceRowsModel" ⟨"AbsenceRowsModel", "goes", "(IZZZZ)Z"⟩ ⟨"AbsenceRowsModel", "goes", "(IZZZZ)Z"⟩) ∈ xt_T := xt_in 15 (by decide +kernel) rfl
theorem xw_16 : (Cond.selects "AbsenceRowsModel" ⟨"AbsenceRowsModel", "isPerson", "(I)Z"⟩ ⟨"AbsenceRowsModel", "isPerson", "(I)Z"⟩) ∈ xt_T := xt_in 16 (by decide +kernel) rfl
theorem xw_17 : (Cond.selects "AbsenceRowsModel" ⟨"AbsenceRowsModel", "isEnough", "(I)Z"⟩ ⟨"AbsenceRowsModel", "isEnough", "(I)Z"⟩) ∈ xt_T := xt_in 17 (by decide +kernel) rfl
theorem xw_18 : (Cond.selects "AbsenceRowsModel" ⟨"AbsenceRowsModel", "restOf", "(II)J"⟩ ⟨"AbsenceRowsModel", "restOf", "(II)J"⟩) ∈ xt_T := xt_in 18 (by decide +kernel) rfl
theorem xw_19 : (Cond.selects "AbsenceRowsModel" ⟨"AbsenceRowsModel", "rest", "(II)J"⟩ ⟨"AbsenceRowsModel", "rest", "(II)J"⟩) ∈ xt_T := xt_in 19 (by decide +kernel) rfl
theorem xw_20 : (Cond.selects "AbsenceRowsModel" ⟨"AbsenceRowsModel", "takes", "(I)I"⟩ ⟨"AbsenceRowsModel", "takes", "(I)I"⟩) ∈ xt_T := xt_in 20 (by decide +kernel) rfl
theorem xw_21 : (Cond.selects "AbsenceRowsModel" ⟨"AbsenceRowsModel", "isWork", "(I)Z"⟩ ⟨"AbsenceRowsModel", "isWork", "(I)Z"⟩) ∈ xt_T := xt_in 21 (by decide +kernel) rfl
theorem xw_22 : (Cond.selects "AbsenceRowsModel" ⟨"AbsenceRowsModel", "isHalf", "(II)Z"⟩ ⟨"AbsenceRowsModel", "isHalf", "(II)Z"⟩) ∈ xt_T := xt_in 22 (by decide +kernel) rfl
theorem xw_23 : (Cond.selects "AbsenceRowsModel" ⟨"AbsenceRowsModel", "whole", "(I)I"⟩ ⟨"AbsenceRowsModel", "whole", "(I)I"⟩) ∈ xt_T := xt_in 23 (by decide +kernel) rfl
theorem xw_24 : (Cond.selects "AbsenceRowsModel" ⟨"AbsenceRowsModel", "isCrew", "(I)Z"⟩ ⟨"AbsenceRowsModel", "isCrew", "(I)Z"⟩) ∈ xt_T := xt_in 24 (by decide +kernel) rfl
theorem xw_25 : (Cond.selects "AbsenceRowsModel" ⟨"AbsenceRowsModel", "isAbsent", "(II)Z"⟩ ⟨"AbsenceRowsModel", "isAbsent", "(II)Z"⟩) ∈ xt_T := xt_in 25 (by decide +kernel) rfl
theorem xw_26 : (Cond.selects "AbsenceRowsModel" ⟨"AbsenceRowsModel", "count", "(II)I"⟩ ⟨"AbsenceRowsModel", "count", "(II)I"⟩) ∈ xt_T := xt_in 26 (by decide +kernel) rfl
theorem xw_27 : (Cond.selects "AbsenceRowsModel" ⟨"AbsenceRowsModel", "isPresent", "(III)Z"⟩ ⟨"AbsenceRowsModel", "isPresent", "(III)Z"⟩) ∈ xt_T := xt_in 27 (by decide +kernel) rfl
theorem xw_28 : (Cond.selects "AbsenceRowsModel" ⟨"AbsenceRowsModel", "comes", "(III)Z"⟩ ⟨"AbsenceRowsModel", "comes", "(III)Z"⟩) ∈ xt_T := xt_in 28 (by decide +kernel) rfl
theorem xw_29 : (Cond.selects "AbsenceRowsModel" ⟨"AbsenceRowsModel", "put", "(IIIII)V"⟩ ⟨"AbsenceRowsModel", "put", "(IIIII)V"⟩) ∈ xt_T := xt_in 29 (by decide +kernel) rfl
theorem xw_30 : (Cond.selects "AbsenceRowsModel" ⟨"AbsenceRowsModel", "isAsk", "(I)Z"⟩ ⟨"AbsenceRowsModel", "isAsk", "(I)Z"⟩) ∈ xt_T := xt_in 30 (by decide +kernel) rfl
theorem xw_31 : (Cond.selects "AbsenceRowsModel" ⟨"AbsenceRowsModel", "shortage", "(I)I"⟩ ⟨"AbsenceRowsModel", "shortage", "(I)I"⟩) ∈ xt_T := xt_in 31 (by decide +kernel) rfl
theorem xw_32 : (Cond.selects "AbsenceRowsModel" ⟨"AbsenceRowsModel", "asksNext", "(I)V"⟩ ⟨"AbsenceRowsModel", "asksNext", "(I)V"⟩) ∈ xt_T := xt_in 32 (by decide +kernel) rfl
theorem xw_33 : (Cond.selects "AbsenceRowsModel" ⟨"AbsenceRowsModel", "hasSkills", "(III)Z"⟩ ⟨"AbsenceRowsModel", "hasSkills", "(III)Z"⟩) ∈ xt_T := xt_in 33 (by decide +kernel) rfl
theorem xw_34 : (Cond.selects "AbsenceRowsModel" ⟨"AbsenceRowsModel", "isFree", "(II)Z"⟩ ⟨"AbsenceRowsModel", "isFree", "(II)Z"⟩) ∈ xt_T := xt_in 34 (by decide +kernel) rfl
theorem xw_35 : (Cond.selects "AbsenceRowsModel" ⟨"AbsenceRowsModel", "isCall", "(I)Z"⟩ ⟨"AbsenceRowsModel", "isCall", "(I)Z"⟩) ∈ xt_T := xt_in 35 (by decide +kernel) rfl
theorem xw_37 : (Cond.initialized "AbsenceRows") ∈ xt_T := xt_in 37 (by decide +kernel) rfl
theorem xw_38 : (Cond.initialized "AbsenceRows$Calendar") ∈ xt_T := xt_in 38 (by decide +kernel) rfl
theorem xw_39 : (Cond.initialized "AbsenceRows$Persons") ∈ xt_T := xt_in 39 (by decide +kernel) rfl
theorem xw_40 : (Cond.initialized "AbsenceRows$Crews") ∈ xt_T := xt_in 40 (by decide +kernel) rfl
theorem xw_41 : (Cond.initialized "AbsenceRows$Asks") ∈ xt_T := xt_in 41 (by decide +kernel) rfl
theorem xw_42 : (Cond.initialized "AbsenceRows$HeldRows") ∈ xt_T := xt_in 42 (by decide +kernel) rfl
theorem xw_43 : (Cond.initialized "AbsenceRows$Calls") ∈ xt_T := xt_in 43 (by decide +kernel) rfl
theorem xw_44 : (Cond.initialized "AbsenceRowsModel") ∈ xt_T := xt_in 44 (by decide +kernel) rfl
theorem xw_51 : (Cond.initialized "java/lang/Math") ∈ xt_T := xt_in 51 (by decide +kernel) rfl
theorem xw_53 : (Cond.initialized "java/lang/Integer") ∈ xt_T := xt_in 53 (by decide +kernel) rfl
theorem xw_264 : (Cond.methodLink "AbsenceRowsLaw" 7 ⟨"AbsenceRows", "person", "(III)I"⟩) ∈ xt_T := xt_in 264 (by decide +kernel) rfl
theorem xw_265 : (Cond.instanceMethod ⟨"AbsenceRows", "person", "(III)I"⟩) ∈ xt_T := xt_in 265 (by decide +kernel) rfl
theorem xw_266 : (Cond.selects "AbsenceRows" ⟨"AbsenceRows", "person", "(III)I"⟩ ⟨"AbsenceRows", "person", "(III)I"⟩) ∈ xt_T := xt_in 266 (by decide +kernel) rfl
theorem xw_268 : (Cond.methodLink "AbsenceRows" 61 ⟨"AbsenceRows", "isWithin", "(III)Z"⟩) ∈ xt_T := xt_in 268 (by decide +kernel) rfl
theorem xw_269 : (Cond.static ⟨"AbsenceRows", "isWithin", "(III)Z"⟩) ∈ xt_T := xt_in 269 (by decide +kernel) rfl
theorem xw_271 : (Cond.methodLink "AbsenceRows" 65 ⟨"AbsenceRows", "isDay", "(I)Z"⟩) ∈ xt_T := xt_in 271 (by decide +kernel) rfl
theorem xw_272 : (Cond.static ⟨"AbsenceRows", "isDay", "(I)Z"⟩) ∈ xt_T := xt_in 272 (by decide +kernel) rfl
theorem xw_359 : (Cond.methodLink "AbsenceRows" 84 ⟨"AbsenceRows$Persons", "add", "(III)I"⟩) ∈ xt_T := xt_in 359 (by decide +kernel) rfl
theorem xw_360 : (Cond.instanceMethod ⟨"AbsenceRows$Persons", "add", "(III)I"⟩) ∈ xt_T := xt_in 360 (by decide +kernel) rfl
theorem xw_361 : (Cond.selects "AbsenceRows$Persons" ⟨"AbsenceRows$Persons", "add", "(III)I"⟩ ⟨"AbsenceRows$Persons", "add", "(III)I"⟩) ∈ xt_T := xt_in 361 (by decide +kernel) rfl
theorem xw_368 : (Cond.methodLink "AbsenceRowsLaw" 17 ⟨"AbsenceRows", "budget", "(III)V"⟩) ∈ xt_T := xt_in 368 (by decide +kernel) rfl
theorem xw_369 : (Cond.instanceMethod ⟨"AbsenceRows", "budget", "(III)V"⟩) ∈ xt_T := xt_in 369 (by decide +kernel) rfl
theorem xw_370 : (Cond.selects "AbsenceRows" ⟨"AbsenceRows", "budget", "(III)V"⟩ ⟨"AbsenceRows", "budget", "(III)V"⟩) ∈ xt_T := xt_in 370 (by decide +kernel) rfl
theorem xw_372 : (Cond.methodLink "AbsenceRows" 88 ⟨"AbsenceRows$Persons", "has", "(I)Z"⟩) ∈ xt_T := xt_in 372 (by decide +kernel) rfl
theorem xw_373 : (Cond.instanceMethod ⟨"AbsenceRows$Persons", "has", "(I)Z"⟩) ∈ xt_T := xt_in 373 (by decide +kernel) rfl
theorem xw_374 : (Cond.selects "AbsenceRows$Persons" ⟨"AbsenceRows$Persons", "has", "(I)Z"⟩ ⟨"AbsenceRows$Persons", "has", "(I)Z"⟩) ∈ xt_T := xt_in 374 (by decide +kernel) rfl
theorem xw_394 : (Cond.methodLink "AbsenceRows" 98 ⟨"AbsenceRows", "isEnough", "(IIIII)Z"⟩) ∈ xt_T := xt_in 394 (by decide +kernel) rfl
theorem xw_396 : (Cond.instanceMethod ⟨"AbsenceRows", "isEnough", "(IIIII)Z"⟩) ∈ xt_T := xt_in 396 (by decide +kernel) rfl
theorem xw_398 : (Cond.methodLink "AbsenceRows" 336 ⟨"AbsenceRows", "partsOfYear", "(IIIII)I"⟩) ∈ xt_T := xt_in 398 (by decide +kernel) rfl
theorem xw_400 : (Cond.instanceMethod ⟨"AbsenceRows", "partsOfYear", "(IIIII)I"⟩) ∈ xt_T := xt_in 400 (by decide +kernel) rfl
theorem xw_402 : (Cond.methodLink "AbsenceRows" 319 ⟨"AbsenceRows", "halfDaysOfHoliday", "(II)I"⟩) ∈ xt_T := xt_in 402 (by decide +kernel) rfl
theorem xw_404 : (Cond.instanceMethod ⟨"AbsenceRows", "halfDaysOfHoliday", "(II)I"⟩) ∈ xt_T := xt_in 404 (by decide +kernel) rfl
theorem xw_406 : (Cond.methodLink "AbsenceRows" 354 ⟨"AbsenceRows$Asks", "takesFromBudget", "(I)Z"⟩) ∈ xt_T := xt_in 406 (by decide +kernel) rfl
theorem xw_407 : (Cond.instanceMethod ⟨"AbsenceRows$Asks", "takesFromBudget", "(I)Z"⟩) ∈ xt_T := xt_in 407 (by decide +kernel) rfl
theorem xw_408 : (Cond.selects "AbsenceRows$Asks" ⟨"AbsenceRows$Asks", "takesFromBudget", "(I)Z"⟩ ⟨"AbsenceRows$Asks", "takesFromBudget", "(I)Z"⟩) ∈ xt_T := xt_in 408 (by decide +kernel) rfl
theorem xw_410 : (Cond.methodLink "AbsenceRows" 165 ⟨"AbsenceRows", "yearOf", "(I)I"⟩) ∈ xt_T := xt_in 410 (by decide +kernel) rfl
theorem xw_411 : (Cond.static ⟨"AbsenceRows", "yearOf", "(I)I"⟩) ∈ xt_T := xt_in 411 (by decide +kernel) rfl
theorem xw_413 : (Cond.methodLink "AbsenceRows" 234 ⟨"AbsenceRows", "halfDaysOf", "(I)I"⟩) ∈ xt_T := xt_in 413 (by decide +kernel) rfl
theorem xw_415 : (Cond.instanceMethod ⟨"AbsenceRows", "halfDaysOf", "(I)I"⟩) ∈ xt_T := xt_in 415 (by decide +kernel) rfl
theorem xw_417 : (Cond.methodLink "AbsenceRows" 342 ⟨"AbsenceRows$Calendar", "halfDays", "(III)I"⟩) ∈ xt_T := xt_in 417 (by decide +kernel) rfl
theorem xw_418 : (Cond.instanceMethod ⟨"AbsenceRows$Calendar", "halfDays", "(III)I"⟩) ∈ xt_T := xt_in 418 (by decide +kernel) rfl
theorem xw_419 : (Cond.selects "AbsenceRows$Calendar" ⟨"AbsenceRows$Calendar", "halfDays", "(III)I"⟩ ⟨"AbsenceRows$Calendar", "halfDays", "(III)I"⟩) ∈ xt_T := xt_in 419 (by decide +kernel) rfl
theorem xw_421 : (Cond.methodLink "AbsenceRows$Calendar" 15 ⟨"AbsenceRows$Calendar", "isWorkingDay", "(I)Z"⟩) ∈ xt_T := xt_in 421 (by decide +kernel) rfl
theorem xw_422 : (Cond.instanceMethod ⟨"AbsenceRows$Calendar", "isWorkingDay", "(I)Z"⟩) ∈ xt_T := xt_in 422 (by decide +kernel) rfl
theorem xw_423 : (Cond.selects "AbsenceRows$Calendar" ⟨"AbsenceRows$Calendar", "isWorkingDay", "(I)Z"⟩ ⟨"AbsenceRows$Calendar", "isWorkingDay", "(I)Z"⟩) ∈ xt_T := xt_in 423 (by decide +kernel) rfl
theorem xw_426 : (Cond.static ⟨"AbsenceRows", "isHalf", "(IIII)Z"⟩) ∈ xt_T := xt_in 426 (by decide +kernel) rfl
theorem xw_428 : (Cond.methodLink "AbsenceRows" 322 ⟨"AbsenceRows$Persons", "daysThere", "(II)I"⟩) ∈ xt_T := xt_in 428 (by decide +kernel) rfl
theorem xw_429 : (Cond.instanceMethod ⟨"AbsenceRows$Persons", "daysThere", "(II)I"⟩) ∈ xt_T := xt_in 429 (by decide +kernel) rfl
theorem xw_430 : (Cond.selects "AbsenceRows$Persons" ⟨"AbsenceRows$Persons", "daysThere", "(II)I"⟩ ⟨"AbsenceRows$Persons", "daysThere", "(II)I"⟩) ∈ xt_T := xt_in 430 (by decide +kernel) rfl
theorem xw_432 : (Cond.methodLink "AbsenceRows$Persons" 41 ⟨"java/lang/Math", "min", "(II)I"⟩) ∈ xt_T := xt_in 432 (by decide +kernel) rfl
theorem xw_433 : (Cond.static ⟨"java/lang/Math", "min", "(II)I"⟩) ∈ xt_T := xt_in 433 (by decide +kernel) rfl
theorem xw_435 : (Cond.methodLink "AbsenceRows$Persons" 47 ⟨"java/lang/Math", "max", "(II)I"⟩) ∈ xt_T := xt_in 435 (by decide +kernel) rfl
theorem xw_436 : (Cond.static ⟨"java/lang/Math", "max", "(II)I"⟩) ∈ xt_T := xt_in 436 (by decide +kernel) rfl
theorem xw_438 : (Cond.methodLink "AbsenceRows" 325 ⟨"AbsenceRows", "partsOfHalfDay", "(I)I"⟩) ∈ xt_T := xt_in 438 (by decide +kernel) rfl
theorem xw_439 : (Cond.static ⟨"AbsenceRows", "partsOfHalfDay", "(I)I"⟩) ∈ xt_T := xt_in 439 (by decide +kernel) rfl
theorem xw_441 : (Cond.methodLink "AbsenceRows" 339 ⟨"AbsenceRows", "partsCarried", "(II)I"⟩) ∈ xt_T := xt_in 441 (by decide +kernel) rfl
theorem xw_443 : (Cond.instanceMethod ⟨"AbsenceRows", "partsCarried", "(II)I"⟩) ∈ xt_T := xt_in 443 (by decide +kernel) rfl
theorem xw_445 : (Cond.methodLink "AbsenceRows" 247 ⟨"AbsenceRows", "partsOfDay", "(I)I"⟩) ∈ xt_T := xt_in 445 (by decide +kernel) rfl
theorem xw_446 : (Cond.static ⟨"AbsenceRows", "partsOfDay", "(I)I"⟩) ∈ xt_T := xt_in 446 (by decide +kernel) rfl
theorem xw_448 : (Cond.methodLink "AbsenceRows" 328 ⟨"java/lang/Math", "min", "(II)I"⟩) ∈ xt_T := xt_in 448 (by decide +kernel) rfl
theorem xw_449 : (Cond.methodLink "AbsenceRows" 333 ⟨"java/lang/Math", "max", "(II)I"⟩) ∈ xt_T := xt_in 449 (by decide +kernel) rfl
theorem xw_469 : (Cond.methodLink "AbsenceRowsLaw" 25 ⟨"AbsenceRows", "carry", "(I)V"⟩) ∈ xt_T := xt_in 469 (by decide +kernel) rfl
theorem xw_470 : (Cond.instanceMethod ⟨"AbsenceRows", "carry", "(I)V"⟩) ∈ xt_T := xt_in 470 (by decide +kernel) rfl
theorem xw_471 : (Cond.selects "AbsenceRows" ⟨"AbsenceRows", "carry", "(I)V"⟩ ⟨"AbsenceRows", "carry", "(I)V"⟩) ∈ xt_T := xt_in 471 (by decide +kernel) rfl
theorem xw_478 : (Cond.methodLink "AbsenceRowsLaw" 29 ⟨"AbsenceRows", "holiday", "(I)V"⟩) ∈ xt_T := xt_in 478 (by decide +kernel) rfl
theorem xw_479 : (Cond.instanceMethod ⟨"AbsenceRows", "holiday", "(I)V"⟩) ∈ xt_T := xt_in 479 (by decide +kernel) rfl
theorem xw_480 : (Cond.selects "AbsenceRows" ⟨"AbsenceRows", "holiday", "(I)V"⟩ ⟨"AbsenceRows", "holiday", "(I)V"⟩) ∈ xt_T := xt_in 480 (by decide +kernel) rfl
theorem xw_487 : (Cond.methodLink "AbsenceRowsLaw" 32 ⟨"AbsenceRows", "working", "(II)I"⟩) ∈ xt_T := xt_in 487 (by decide +kernel) rfl
theorem xw_488 : (Cond.instanceMethod ⟨"AbsenceRows", "working", "(II)I"⟩) ∈ xt_T := xt_in 488 (by decide +kernel) rfl
theorem xw_489 : (Cond.selects "AbsenceRows" ⟨"AbsenceRows", "working", "(II)I"⟩ ⟨"AbsenceRows", "working", "(II)I"⟩) ∈ xt_T := xt_in 489 (by decide +kernel) rfl
theorem xw_491 : (Cond.methodLink "AbsenceRows" 126 ⟨"AbsenceRows", "isSpan", "(II)Z"⟩) ∈ xt_T := xt_in 491 (by decide +kernel) rfl
theorem xw_492 : (Cond.static ⟨"AbsenceRows", "isSpan", "(II)Z"⟩) ∈ xt_T := xt_in 492 (by decide +kernel) rfl
theorem xw_495 : (Cond.methodLink "AbsenceRows" 132 ⟨"AbsenceRows$Calendar", "workingDays", "(II)I"⟩) ∈ xt_T := xt_in 495 (by decide +kernel) rfl
theorem xw_496 : (Cond.instanceMethod ⟨"AbsenceRows$Calendar", "workingDays", "(II)I"⟩) ∈ xt_T := xt_in 496 (by decide +kernel) rfl
theorem xw_497 : (Cond.selects "AbsenceRows$Calendar" ⟨"AbsenceRows$Calendar", "workingDays", "(II)I"⟩ ⟨"AbsenceRows$Calendar", "workingDays", "(II)I"⟩) ∈ xt_T := xt_in 497 (by decide +kernel) rfl
theorem xw_502 : (Cond.methodLink "AbsenceRowsLaw" 36 ⟨"AbsenceRows", "crew", "(II)I"⟩) ∈ xt_T := xt_in 502 (by decide +kernel) rfl
theorem xw_503 : (Cond.instanceMethod ⟨"AbsenceRows", "crew", "(II)I"⟩) ∈ xt_T := xt_in 503 (by decide +kernel) rfl
theorem xw_504 : (Cond.selects "AbsenceRows" ⟨"AbsenceRows", "crew", "(II)I"⟩ ⟨"AbsenceRows", "crew", "(II)I"⟩) ∈ xt_T := xt_in 504 (by decide +kernel) rfl
theorem xw_508 : (Cond.methodLink "AbsenceRows" 141 ⟨"AbsenceRows$Crews", "add", "(II)I"⟩) ∈ xt_T := xt_in 508 (by decide +kernel) rfl
theorem xw_509 : (Cond.instanceMethod ⟨"AbsenceRows$Crews", "add", "(II)I"⟩) ∈ xt_T := xt_in 509 (by decide +kernel) rfl
theorem xw_510 : (Cond.selects "AbsenceRows$Crews" ⟨"AbsenceRows$Crews", "add", "(II)I"⟩ ⟨"AbsenceRows$Crews", "add", "(II)I"⟩) ∈ xt_T := xt_in 510 (by decide +kernel) rfl
theorem xw_515 : (Cond.methodLink "AbsenceRowsLaw" 39 ⟨"AbsenceRows", "member", "(IIZ)I"⟩) ∈ xt_T := xt_in 515 (by decide +kernel) rfl
theorem xw_516 : (Cond.instanceMethod ⟨"AbsenceRows", "member", "(IIZ)I"⟩) ∈ xt_T := xt_in 516 (by decide +kernel) rfl
theorem xw_517 : (Cond.selects "AbsenceRows" ⟨"AbsenceRows", "member", "(IIZ)I"⟩ ⟨"AbsenceRows", "member", "(IIZ)I"⟩) ∈ xt_T := xt_in 517 (by decide +kernel) rfl
theorem xw_519 : (Cond.methodLink "AbsenceRows" 143 ⟨"AbsenceRows$Crews", "has", "(I)Z"⟩) ∈ xt_T := xt_in 519 (by decide +kernel) rfl
theorem xw_520 : (Cond.instanceMethod ⟨"AbsenceRows$Crews", "has", "(I)Z"⟩) ∈ xt_T := xt_in 520 (by decide +kernel) rfl
theorem xw_521 : (Cond.selects "AbsenceRows$Crews" ⟨"AbsenceRows$Crews", "has", "(I)Z"⟩ ⟨"AbsenceRows$Crews", "has", "(I)Z"⟩) ∈ xt_T := xt_in 521 (by decide +kernel) rfl
theorem xw_525 : (Cond.methodLink "AbsenceRows" 149 ⟨"AbsenceRows", "holds", "(II)Z"⟩) ∈ xt_T := xt_in 525 (by decide +kernel) rfl
theorem xw_526 : (Cond.static ⟨"AbsenceRows", "holds", "(II)Z"⟩) ∈ xt_T := xt_in 526 (by decide +kernel) rfl
theorem xw_528 : (Cond.methodLink "AbsenceRows" 154 ⟨"AbsenceRows", "only", "(I)I"⟩) ∈ xt_T := xt_in 528 (by decide +kernel) rfl
theorem xw_529 : (Cond.static ⟨"AbsenceRows", "only", "(I)I"⟩) ∈ xt_T := xt_in 529 (by decide +kernel) rfl
theorem xw_532 : (Cond.methodLink "AbsenceRows" 158 ⟨"java/lang/Integer", "bitCount", "(I)I"⟩) ∈ xt_T := xt_in 532 (by decide +kernel) rfl
theorem xw_533 : (Cond.static ⟨"java/lang/Integer", "bitCount", "(I)I"⟩) ∈ xt_T := xt_in 533 (by decide +kernel) rfl
theorem xw_541 : (Cond.methodLink "AbsenceRowsLaw" 43 ⟨"AbsenceRows", "ask", "(IIIII)I"⟩) ∈ xt_T := xt_in 541 (by decide +kernel) rfl
theorem xw_542 : (Cond.instanceMethod ⟨"AbsenceRows", "ask", "(IIIII)I"⟩) ∈ xt_T := xt_in 542 (by decide +kernel) rfl
theorem xw_543 : (Cond.selects "AbsenceRows" ⟨"AbsenceRows", "ask", "(IIIII)I"⟩ ⟨"AbsenceRows", "ask", "(IIIII)I"⟩) ∈ xt_T := xt_in 543 (by decide +kernel) rfl
theorem xw_546 : (Cond.methodLink "AbsenceRows" 168 ⟨"AbsenceRows", "areHalves", "(III)Z"⟩) ∈ xt_T := xt_in 546 (by decide +kernel) rfl
theorem xw_547 : (Cond.static ⟨"AbsenceRows", "areHalves", "(III)Z"⟩) ∈ xt_T := xt_in 547 (by decide +kernel) rfl
theorem xw_550 : (Cond.methodLink "AbsenceRows" 173 ⟨"AbsenceRows$Asks", "overlap", "(III)Z"⟩) ∈ xt_T := xt_in 550 (by decide +kernel) rfl
theorem xw_551 : (Cond.instanceMethod ⟨"AbsenceRows$Asks", "overlap", "(III)Z"⟩) ∈ xt_T := xt_in 551 (by decide +kernel) rfl
theorem xw_552 : (Cond.selects "AbsenceRows$Asks" ⟨"AbsenceRows$Asks", "overlap", "(III)Z"⟩ ⟨"AbsenceRows$Asks", "overlap", "(III)Z"⟩) ∈ xt_T := xt_in 552 (by decide +kernel) rfl
theorem xw_555 : (Cond.methodLink "AbsenceRows" 178 ⟨"AbsenceRows", "isEnoughFor", "(IIII)Z"⟩) ∈ xt_T := xt_in 555 (by decide +kernel) rfl
theorem xw_557 : (Cond.instanceMethod ⟨"AbsenceRows", "isEnoughFor", "(IIII)Z"⟩) ∈ xt_T := xt_in 557 (by decide +kernel) rfl
theorem xw_561 : (Cond.methodLink "AbsenceRows" 187 ⟨"AbsenceRows$Asks", "add", "(IIIII)I"⟩) ∈ xt_T := xt_in 561 (by decide +kernel) rfl
theorem xw_562 : (Cond.instanceMethod ⟨"AbsenceRows$Asks", "add", "(IIIII)I"⟩) ∈ xt_T := xt_in 562 (by decide +kernel) rfl
theorem xw_563 : (Cond.selects "AbsenceRows$Asks" ⟨"AbsenceRows$Asks", "add", "(IIIII)I"⟩ ⟨"AbsenceRows$Asks", "add", "(IIIII)I"⟩) ∈ xt_T := xt_in 563 (by decide +kernel) rfl
theorem xw_568 : (Cond.methodLink "AbsenceRowsLaw" 47 ⟨"AbsenceRows", "grant", "(II)I"⟩) ∈ xt_T := xt_in 568 (by decide +kernel) rfl
theorem xw_569 : (Cond.instanceMethod ⟨"AbsenceRows", "grant", "(II)I"⟩) ∈ xt_T := xt_in 569 (by decide +kernel) rfl
theorem xw_570 : (Cond.selects "AbsenceRows" ⟨"AbsenceRows", "grant", "(II)I"⟩ ⟨"AbsenceRows", "grant", "(II)I"⟩) ∈ xt_T := xt_in 570 (by decide +kernel) rfl
theorem xw_572 : (Cond.methodLink "AbsenceRows" 190 ⟨"AbsenceRows$Asks", "has", "(I)Z"⟩) ∈ xt_T := xt_in 572 (by decide +kernel) rfl
theorem xw_573 : (Cond.instanceMethod ⟨"AbsenceRows$Asks", "has", "(I)Z"⟩) ∈ xt_T := xt_in 573 (by decide +kernel) rfl
theorem xw_574 : (Cond.selects "AbsenceRows$Asks" ⟨"AbsenceRows$Asks", "has", "(I)Z"⟩ ⟨"AbsenceRows$Asks", "has", "(I)Z"⟩) ∈ xt_T := xt_in 574 (by decide +kernel) rfl
theorem xw_578 : (Cond.methodLink "AbsenceRows" 193 ⟨"AbsenceRows$Asks", "isOpen", "(I)Z"⟩) ∈ xt_T := xt_in 578 (by decide +kernel) rfl
theorem xw_579 : (Cond.instanceMethod ⟨"AbsenceRows$Asks", "isOpen", "(I)Z"⟩) ∈ xt_T := xt_in 579 (by decide +kernel) rfl
theorem xw_580 : (Cond.selects "AbsenceRows$Asks" ⟨"AbsenceRows$Asks", "isOpen", "(I)Z"⟩ ⟨"AbsenceRows$Asks", "isOpen", "(I)Z"⟩) ∈ xt_T := xt_in 580 (by decide +kernel) rfl
theorem xw_582 : (Cond.methodLink "AbsenceRows" 202 ⟨"AbsenceRows", "isAbove", "(II)Z"⟩) ∈ xt_T := xt_in 582 (by decide +kernel) rfl
theorem xw_584 : (Cond.instanceMethod ⟨"AbsenceRows", "isAbove", "(II)Z"⟩) ∈ xt_T := xt_in 584 (by decide +kernel) rfl
theorem xw_587 : (Cond.methodLink "AbsenceRows" 207 ⟨"AbsenceRows$Asks", "isBeforeLastStep", "(I)Z"⟩) ∈ xt_T := xt_in 587 (by decide +kernel) rfl
theorem xw_588 : (Cond.instanceMethod ⟨"AbsenceRows$Asks", "isBeforeLastStep", "(I)Z"⟩) ∈ xt_T := xt_in 588 (by decide +kernel) rfl
theorem xw_589 : (Cond.selects "AbsenceRows$Asks" ⟨"AbsenceRows$Asks", "isBeforeLastStep", "(I)Z"⟩ ⟨"AbsenceRows$Asks", "isBeforeLastStep", "(I)Z"⟩) ∈ xt_T := xt_in 589 (by decide +kernel) rfl
theorem xw_591 : (Cond.methodLink "AbsenceRows" 210 ⟨"AbsenceRows$Asks", "makeFirstStep", "(II)V"⟩) ∈ xt_T := xt_in 591 (by decide +kernel) rfl
theorem xw_592 : (Cond.instanceMethod ⟨"AbsenceRows$Asks", "makeFirstStep", "(II)V"⟩) ∈ xt_T := xt_in 592 (by decide +kernel) rfl
theorem xw_593 : (Cond.selects "AbsenceRows$Asks" ⟨"AbsenceRows$Asks", "makeFirstStep", "(II)V"⟩ ⟨"AbsenceRows$Asks", "makeFirstStep", "(II)V"⟩) ∈ xt_T := xt_in 593 (by decide +kernel) rfl
theorem xw_595 : (Cond.methodLink "AbsenceRows" 214 ⟨"AbsenceRows", "firstDayLeftShort", "(I)I"⟩) ∈ xt_T := xt_in 595 (by decide +kernel) rfl
theorem xw_597 : (Cond.instanceMethod ⟨"AbsenceRows", "firstDayLeftShort", "(I)I"⟩) ∈ xt_T := xt_in 597 (by decide +kernel) rfl
theorem xw_599 : (Cond.methodLink "AbsenceRows" 363 ⟨"AbsenceRows$Calendar", "isWorkingDay", "(I)Z"⟩) ∈ xt_T := xt_in 599 (by decide +kernel) rfl
theorem xw_600 : (Cond.methodLink "AbsenceRows" 366 ⟨"AbsenceRows", "isHalf", "(IIII)Z"⟩) ∈ xt_T := xt_in 600 (by decide +kernel) rfl
theorem xw_601 : (Cond.methodLink "AbsenceRows" 217 ⟨"AbsenceRows", "crewLeftShort", "(II)I"⟩) ∈ xt_T := xt_in 601 (by decide +kernel) rfl
theorem xw_603 : (Cond.instanceMethod ⟨"AbsenceRows", "crewLeftShort", "(II)I"⟩) ∈ xt_T := xt_in 603 (by decide +kernel) rfl
theorem xw_605 : (Cond.methodLink "AbsenceRows" 258 ⟨"AbsenceRows", "atWorkOn", "(I)I"⟩) ∈ xt_T := xt_in 605 (by decide +kernel) rfl
theorem xw_607 : (Cond.instanceMethod ⟨"AbsenceRows", "atWorkOn", "(I)I"⟩) ∈ xt_T := xt_in 607 (by decide +kernel) rfl
theorem xw_609 : (Cond.methodLink "AbsenceRows" 360 ⟨"AbsenceRows$Persons", "thereOn", "(I)I"⟩) ∈ xt_T := xt_in 609 (by decide +kernel) rfl
theorem xw_610 : (Cond.instanceMethod ⟨"AbsenceRows$Persons", "thereOn", "(I)I"⟩) ∈ xt_T := xt_in 610 (by decide +kernel) rfl
theorem xw_611 : (Cond.selects "AbsenceRows$Persons" ⟨"AbsenceRows$Persons", "thereOn", "(I)I"⟩ ⟨"AbsenceRows$Persons", "thereOn", "(I)I"⟩) ∈ xt_T := xt_in 611 (by decide +kernel) rfl
theorem xw_614 : (Cond.methodLink "AbsenceRows" 253 ⟨"AbsenceRows$Asks", "absentOn", "(I)I"⟩) ∈ xt_T := xt_in 614 (by decide +kernel) rfl
theorem xw_615 : (Cond.instanceMethod ⟨"AbsenceRows$Asks", "absentOn", "(I)I"⟩) ∈ xt_T := xt_in 615 (by decide +kernel) rfl
theorem xw_616 : (Cond.selects "AbsenceRows$Asks" ⟨"AbsenceRows$Asks", "absentOn", "(I)I"⟩ ⟨"AbsenceRows$Asks", "absentOn", "(I)I"⟩) ∈ xt_T := xt_in 616 (by decide +kernel) rfl
theorem xw_620 : (Cond.methodLink "AbsenceRows" 261 ⟨"AbsenceRows$Calls", "comeTo", "(II)I"⟩) ∈ xt_T := xt_in 620 (by decide +kernel) rfl
theorem xw_621 : (Cond.instanceMethod ⟨"AbsenceRows$Calls", "comeTo", "(II)I"⟩) ∈ xt_T := xt_in 621 (by decide +kernel) rfl
theorem xw_622 : (Cond.selects "AbsenceRows$Calls" ⟨"AbsenceRows$Calls", "comeTo", "(II)I"⟩ ⟨"AbsenceRows$Calls", "comeTo", "(II)I"⟩) ∈ xt_T := xt_in 622 (by decide +kernel) rfl
theorem xw_625 : (Cond.methodLink "AbsenceRows" 220 ⟨"AbsenceRows$HeldRows", "keep", "(III)V"⟩) ∈ xt_T := xt_in 625 (by decide +kernel) rfl
theorem xw_626 : (Cond.instanceMethod ⟨"AbsenceRows$HeldRows", "keep", "(III)V"⟩) ∈ xt_T := xt_in 626 (by decide +kernel) rfl
theorem xw_627 : (Cond.selects "AbsenceRows$HeldRows" ⟨"AbsenceRows$HeldRows", "keep", "(III)V"⟩ ⟨"AbsenceRows$HeldRows", "keep", "(III)V"⟩) ∈ xt_T := xt_in 627 (by decide +kernel) rfl
theorem xw_629 : (Cond.methodLink "AbsenceRows" 224 ⟨"AbsenceRows$Asks", "makeLastStep", "(II)V"⟩) ∈ xt_T := xt_in 629 (by decide +kernel) rfl
theorem xw_630 : (Cond.instanceMethod ⟨"AbsenceRows$Asks", "makeLastStep", "(II)V"⟩) ∈ xt_T := xt_in 630 (by decide +kernel) rfl
theorem xw_631 : (Cond.selects "AbsenceRows$Asks" ⟨"AbsenceRows$Asks", "makeLastStep", "(II)V"⟩ ⟨"AbsenceRows$Asks", "makeLastStep", "(II)V"⟩) ∈ xt_T := xt_in 631 (by decide +kernel) rfl
theorem xw_636 : (Cond.methodLink "AbsenceRowsLaw" 50 ⟨"AbsenceRows", "withdraw", "(I)I"⟩) ∈ xt_T := xt_in 636 (by decide +kernel) rfl
theorem xw_637 : (Cond.instanceMethod ⟨"AbsenceRows", "withdraw", "(I)I"⟩) ∈ xt_T := xt_in 637 (by decide +kernel) rfl
theorem xw_638 : (Cond.selects "AbsenceRows" ⟨"AbsenceRows", "withdraw", "(I)I"⟩ ⟨"AbsenceRows", "withdraw", "(I)I"⟩) ∈ xt_T := xt_in 638 (by decide +kernel) rfl
theorem xw_645 : (Cond.methodLink "AbsenceRowsLaw" 54 ⟨"AbsenceRows", "askAt", "(II)I"⟩) ∈ xt_T := xt_in 645 (by decide +kernel) rfl
theorem xw_646 : (Cond.instanceMethod ⟨"AbsenceRows", "askAt", "(II)I"⟩) ∈ xt_T := xt_in 646 (by decide +kernel) rfl
theorem xw_647 : (Cond.selects "AbsenceRows" ⟨"AbsenceRows", "askAt", "(II)I"⟩ ⟨"AbsenceRows", "askAt", "(II)I"⟩) ∈ xt_T := xt_in 647 (by decide +kernel) rfl
theorem xw_653 : (Cond.methodLink "AbsenceRowsLaw" 57 ⟨"AbsenceRows", "left", "(III)I"⟩) ∈ xt_T := xt_in 653 (by decide +kernel) rfl
theorem xw_654 : (Cond.instanceMethod ⟨"AbsenceRows", "left", "(III)I"⟩) ∈ xt_T := xt_in 654 (by decide +kernel) rfl
theorem xw_655 : (Cond.selects "AbsenceRows" ⟨"AbsenceRows", "left", "(III)I"⟩ ⟨"AbsenceRows", "left", "(III)I"⟩) ∈ xt_T := xt_in 655 (by decide +kernel) rfl
theorem xw_658 : (Cond.methodLink "AbsenceRows" 244 ⟨"AbsenceRows", "partsLeft", "(II)I"⟩) ∈ xt_T := xt_in 658 (by decide +kernel) rfl
theorem xw_660 : (Cond.instanceMethod ⟨"AbsenceRows", "partsLeft", "(II)I"⟩) ∈ xt_T := xt_in 660 (by decide +kernel) rfl
theorem xw_662 : (Cond.methodLink "AbsenceRows" 250 ⟨"AbsenceRows", "greatestDivisor", "(II)I"⟩) ∈ xt_T := xt_in 662 (by decide +kernel) rfl
theorem xw_663 : (Cond.static ⟨"AbsenceRows", "greatestDivisor", "(II)I"⟩) ∈ xt_T := xt_in 663 (by decide +kernel) rfl
theorem xw_665 : (Cond.methodLink "AbsenceRows" 395 ⟨"java/lang/Math", "abs", "(I)I"⟩) ∈ xt_T := xt_in 665 (by decide +kernel) rfl
theorem xw_666 : (Cond.static ⟨"java/lang/Math", "abs", "(I)I"⟩) ∈ xt_T := xt_in 666 (by decide +kernel) rfl
theorem xw_671 : (Cond.methodLink "AbsenceRowsLaw" 60 ⟨"AbsenceRows", "absent", "(II)Z"⟩) ∈ xt_T := xt_in 671 (by decide +kernel) rfl
theorem xw_672 : (Cond.instanceMethod ⟨"AbsenceRows", "absent", "(II)Z"⟩) ∈ xt_T := xt_in 672 (by decide +kernel) rfl
theorem xw_673 : (Cond.selects "AbsenceRows" ⟨"AbsenceRows", "absent", "(II)Z"⟩ ⟨"AbsenceRows", "absent", "(II)Z"⟩) ∈ xt_T := xt_in 673 (by decide +kernel) rfl
theorem xw_678 : (Cond.methodLink "AbsenceRowsLaw" 64 ⟨"AbsenceRows", "present", "(II)I"⟩) ∈ xt_T := xt_in 678 (by decide +kernel) rfl
theorem xw_679 : (Cond.instanceMethod ⟨"AbsenceRows", "present", "(II)I"⟩) ∈ xt_T := xt_in 679 (by decide +kernel) rfl
theorem xw_680 : (Cond.selects "AbsenceRows" ⟨"AbsenceRows", "present", "(II)I"⟩ ⟨"AbsenceRows", "present", "(II)I"⟩) ∈ xt_T := xt_in 680 (by decide +kernel) rfl
theorem xw_686 : (Cond.methodLink "AbsenceRowsLaw" 67 ⟨"AbsenceRows", "held", "(II)I"⟩) ∈ xt_T := xt_in 686 (by decide +kernel) rfl
theorem xw_687 : (Cond.instanceMethod ⟨"AbsenceRows", "held", "(II)I"⟩) ∈ xt_T := xt_in 687 (by decide +kernel) rfl
theorem xw_688 : (Cond.selects "AbsenceRows" ⟨"AbsenceRows", "held", "(II)I"⟩ ⟨"AbsenceRows", "held", "(II)I"⟩) ∈ xt_T := xt_in 688 (by decide +kernel) rfl
theorem xw_690 : (Cond.methodLink "AbsenceRows" 264 ⟨"AbsenceRows$HeldRows", "has", "(I)Z"⟩) ∈ xt_T := xt_in 690 (by decide +kernel) rfl
theorem xw_691 : (Cond.instanceMethod ⟨"AbsenceRows$HeldRows", "has", "(I)Z"⟩) ∈ xt_T := xt_in 691 (by decide +kernel) rfl
theorem xw_692 : (Cond.selects "AbsenceRows$HeldRows" ⟨"AbsenceRows$HeldRows", "has", "(I)Z"⟩ ⟨"AbsenceRows$HeldRows", "has", "(I)Z"⟩) ∈ xt_T := xt_in 692 (by decide +kernel) rfl
theorem xw_699 : (Cond.methodLink "AbsenceRowsLaw" 70 ⟨"AbsenceRows", "bar", "(III)V"⟩) ∈ xt_T := xt_in 699 (by decide +kernel) rfl
theorem xw_700 : (Cond.instanceMethod ⟨"AbsenceRows", "bar", "(III)V"⟩) ∈ xt_T := xt_in 700 (by decide +kernel) rfl
theorem xw_701 : (Cond.selects "AbsenceRows" ⟨"AbsenceRows", "bar", "(III)V"⟩ ⟨"AbsenceRows", "bar", "(III)V"⟩) ∈ xt_T := xt_in 701 (by decide +kernel) rfl
theorem xw_707 : (Cond.methodLink "AbsenceRowsLaw" 73 ⟨"AbsenceRows", "patience", "(I)V"⟩) ∈ xt_T := xt_in 707 (by decide +kernel) rfl
theorem xw_708 : (Cond.instanceMethod ⟨"AbsenceRows", "patience", "(I)V"⟩) ∈ xt_T := xt_in 708 (by decide +kernel) rfl
theorem xw_709 : (Cond.selects "AbsenceRows" ⟨"AbsenceRows", "patience", "(I)V"⟩ ⟨"AbsenceRows", "patience", "(I)V"⟩) ∈ xt_T := xt_in 709 (by decide +kernel) rfl
theorem xw_715 : (Cond.methodLink "AbsenceRowsLaw" 76 ⟨"AbsenceRows", "call", "(II)I"⟩) ∈ xt_T := xt_in 715 (by decide +kernel) rfl
theorem xw_716 : (Cond.instanceMethod ⟨"AbsenceRows", "call", "(II)I"⟩) ∈ xt_T := xt_in 716 (by decide +kernel) rfl
theorem xw_717 : (Cond.selects "AbsenceRows" ⟨"AbsenceRows", "call", "(II)I"⟩ ⟨"AbsenceRows", "call", "(II)I"⟩) ∈ xt_T := xt_in 717 (by decide +kernel) rfl
theorem xw_721 : (Cond.methodLink "AbsenceRows" 288 ⟨"AbsenceRows$Calls", "add", "(II)I"⟩) ∈ xt_T := xt_in 721 (by decide +kernel) rfl
theorem xw_722 : (Cond.instanceMethod ⟨"AbsenceRows$Calls", "add", "(II)I"⟩) ∈ xt_T := xt_in 722 (by decide +kernel) rfl
theorem xw_723 : (Cond.selects "AbsenceRows$Calls" ⟨"AbsenceRows$Calls", "add", "(II)I"⟩ ⟨"AbsenceRows$Calls", "add", "(II)I"⟩) ∈ xt_T := xt_in 723 (by decide +kernel) rfl
theorem xw_725 : (Cond.methodLink "AbsenceRows" 289 ⟨"AbsenceRows", "askNext", "(I)V"⟩) ∈ xt_T := xt_in 725 (by decide +kernel) rfl
theorem xw_727 : (Cond.instanceMethod ⟨"AbsenceRows", "askNext", "(I)V"⟩) ∈ xt_T := xt_in 727 (by decide +kernel) rfl
theorem xw_729 : (Cond.methodLink "AbsenceRows" 372 ⟨"AbsenceRows", "nextToAsk", "(I)I"⟩) ∈ xt_T := xt_in 729 (by decide +kernel) rfl
theorem xw_731 : (Cond.instanceMethod ⟨"AbsenceRows", "nextToAsk", "(I)I"⟩) ∈ xt_T := xt_in 731 (by decide +kernel) rfl
theorem xw_733 : (Cond.methodLink "AbsenceRows" 383 ⟨"AbsenceRows$Calls", "engagedOn", "(I)I"⟩) ∈ xt_T := xt_in 733 (by decide +kernel) rfl
theorem xw_734 : (Cond.instanceMethod ⟨"AbsenceRows$Calls", "engagedOn", "(I)I"⟩) ∈ xt_T := xt_in 734 (by decide +kernel) rfl
theorem xw_735 : (Cond.selects "AbsenceRows$Calls" ⟨"AbsenceRows$Calls", "engagedOn", "(I)I"⟩ ⟨"AbsenceRows$Calls", "engagedOn", "(I)I"⟩) ∈ xt_T := xt_in 735 (by decide +kernel) rfl
theorem xw_737 : (Cond.methodLink "AbsenceRows" 389 ⟨"AbsenceRows$Persons", "haveSkills", "(III)Z"⟩) ∈ xt_T := xt_in 737 (by decide +kernel) rfl
theorem xw_738 : (Cond.instanceMethod ⟨"AbsenceRows$Persons", "haveSkills", "(III)Z"⟩) ∈ xt_T := xt_in 738 (by decide +kernel) rfl
theorem xw_739 : (Cond.selects "AbsenceRows$Persons" ⟨"AbsenceRows$Persons", "haveSkills", "(III)Z"⟩ ⟨"AbsenceRows$Persons", "haveSkills", "(III)Z"⟩) ∈ xt_T := xt_in 739 (by decide +kernel) rfl
theorem xw_741 : (Cond.methodLink "AbsenceRows" 392 ⟨"AbsenceRows$Persons", "goesBefore", "(II)Z"⟩) ∈ xt_T := xt_in 741 (by decide +kernel) rfl
theorem xw_742 : (Cond.instanceMethod ⟨"AbsenceRows$Persons", "goesBefore", "(II)Z"⟩) ∈ xt_T := xt_in 742 (by decide +kernel) rfl
theorem xw_743 : (Cond.selects "AbsenceRows$Persons" ⟨"AbsenceRows$Persons", "goesBefore", "(II)Z"⟩ ⟨"AbsenceRows$Persons", "goesBefore", "(II)Z"⟩) ∈ xt_T := xt_in 743 (by decide +kernel) rfl
theorem xw_745 : (Cond.methodLink "AbsenceRows" 375 ⟨"AbsenceRows$Calls", "fail", "(I)V"⟩) ∈ xt_T := xt_in 745 (by decide +kernel) rfl
theorem xw_746 : (Cond.instanceMethod ⟨"AbsenceRows$Calls", "fail", "(I)V"⟩) ∈ xt_T := xt_in 746 (by decide +kernel) rfl
theorem xw_747 : (Cond.selects "AbsenceRows$Calls" ⟨"AbsenceRows$Calls", "fail", "(I)V"⟩ ⟨"AbsenceRows$Calls", "fail", "(I)V"⟩) ∈ xt_T := xt_in 747 (by decide +kernel) rfl
theorem xw_749 : (Cond.methodLink "AbsenceRows" 378 ⟨"AbsenceRows$Calls", "waitFor", "(III)V"⟩) ∈ xt_T := xt_in 749 (by decide +kernel) rfl
theorem xw_750 : (Cond.instanceMethod ⟨"AbsenceRows$Calls", "waitFor", "(III)V"⟩) ∈ xt_T := xt_in 750 (by decide +kernel) rfl
theorem xw_751 : (Cond.selects "AbsenceRows$Calls" ⟨"AbsenceRows$Calls", "waitFor", "(III)V"⟩ ⟨"AbsenceRows$Calls", "waitFor", "(III)V"⟩) ∈ xt_T := xt_in 751 (by decide +kernel) rfl
theorem xw_756 : (Cond.methodLink "AbsenceRowsLaw" 79 ⟨"AbsenceRows", "answer", "(IZ)I"⟩) ∈ xt_T := xt_in 756 (by decide +kernel) rfl
theorem xw_757 : (Cond.instanceMethod ⟨"AbsenceRows", "answer", "(IZ)I"⟩) ∈ xt_T := xt_in 757 (by decide +kernel) rfl
theorem xw_758 : (Cond.selects "AbsenceRows" ⟨"AbsenceRows", "answer", "(IZ)I"⟩ ⟨"AbsenceRows", "answer", "(IZ)I"⟩) ∈ xt_T := xt_in 758 (by decide +kernel) rfl
theorem xw_760 : (Cond.methodLink "AbsenceRows" 293 ⟨"AbsenceRows$Calls", "has", "(I)Z"⟩) ∈ xt_T := xt_in 760 (by decide +kernel) rfl
theorem xw_761 : (Cond.instanceMethod ⟨"AbsenceRows$Calls", "has", "(I)Z"⟩) ∈ xt_T := xt_in 761 (by decide +kernel) rfl
theorem xw_762 : (Cond.selects "AbsenceRows$Calls" ⟨"AbsenceRows$Calls", "has", "(I)Z"⟩ ⟨"AbsenceRows$Calls", "has", "(I)Z"⟩) ∈ xt_T := xt_in 762 (by decide +kernel) rfl
theorem xw_767 : (Cond.methodLink "AbsenceRows" 299 ⟨"AbsenceRows$Calls", "fill", "(I)V"⟩) ∈ xt_T := xt_in 767 (by decide +kernel) rfl
theorem xw_768 : (Cond.instanceMethod ⟨"AbsenceRows$Calls", "fill", "(I)V"⟩) ∈ xt_T := xt_in 768 (by decide +kernel) rfl
theorem xw_769 : (Cond.selects "AbsenceRows$Calls" ⟨"AbsenceRows$Calls", "fill", "(I)V"⟩ ⟨"AbsenceRows$Calls", "fill", "(I)V"⟩) ∈ xt_T := xt_in 769 (by decide +kernel) rfl
theorem xw_774 : (Cond.methodLink "AbsenceRowsLaw" 83 ⟨"AbsenceRows", "callAt", "(II)I"⟩) ∈ xt_T := xt_in 774 (by decide +kernel) rfl
theorem xw_775 : (Cond.instanceMethod ⟨"AbsenceRows", "callAt", "(II)I"⟩) ∈ xt_T := xt_in 775 (by decide +kernel) rfl
theorem xw_776 : (Cond.selects "AbsenceRows" ⟨"AbsenceRows", "callAt", "(II)I"⟩ ⟨"AbsenceRows", "callAt", "(II)I"⟩) ∈ xt_T := xt_in 776 (by decide +kernel) rfl
theorem xw_781 : (Cond.methodLink "AbsenceRowsLaw" 86 ⟨"AbsenceRows", "asked", "(I)I"⟩) ∈ xt_T := xt_in 781 (by decide +kernel) rfl
theorem xw_782 : (Cond.instanceMethod ⟨"AbsenceRows", "asked", "(I)I"⟩) ∈ xt_T := xt_in 782 (by decide +kernel) rfl
theorem xw_783 : (Cond.selects "AbsenceRows" ⟨"AbsenceRows", "asked", "(I)I"⟩ ⟨"AbsenceRows", "asked", "(I)I"⟩) ∈ xt_T := xt_in 783 (by decide +kernel) rfl
theorem xw_788 : (Cond.methodLink "AbsenceRowsLaw" 89 ⟨"AbsenceRows", "tick", "(I)I"⟩) ∈ xt_T := xt_in 788 (by decide +kernel) rfl
theorem xw_789 : (Cond.instanceMethod ⟨"AbsenceRows", "tick", "(I)I"⟩) ∈ xt_T := xt_in 789 (by decide +kernel) rfl
theorem xw_790 : (Cond.selects "AbsenceRows" ⟨"AbsenceRows", "tick", "(I)I"⟩ ⟨"AbsenceRows", "tick", "(I)I"⟩) ∈ xt_T := xt_in 790 (by decide +kernel) rfl
theorem xw_792 : (Cond.methodLink "AbsenceRows" 312 ⟨"AbsenceRows$Calls", "earliestNextAt", "()I"⟩) ∈ xt_T := xt_in 792 (by decide +kernel) rfl
theorem xw_793 : (Cond.instanceMethod ⟨"AbsenceRows$Calls", "earliestNextAt", "()I"⟩) ∈ xt_T := xt_in 793 (by decide +kernel) rfl
theorem xw_794 : (Cond.selects "AbsenceRows$Calls" ⟨"AbsenceRows$Calls", "earliestNextAt", "()I"⟩ ⟨"AbsenceRows$Calls", "earliestNextAt", "()I"⟩) ∈ xt_T := xt_in 794 (by decide +kernel) rfl
theorem xw_796 : (Cond.methodLink "AbsenceRows" 316 ⟨"AbsenceRows", "goOnWithoutAnswer", "()I"⟩) ∈ xt_T := xt_in 796 (by decide +kernel) rfl
theorem xw_798 : (Cond.instanceMethod ⟨"AbsenceRows", "goOnWithoutAnswer", "()I"⟩) ∈ xt_T := xt_in 798 (by decide +kernel) rfl
theorem xw_926 : (Cond.methodLink "AbsenceRowsModel" 102 ⟨"AbsenceRowsModel", "in", "(III)Z"⟩) ∈ xt_T := xt_in 926 (by decide +kernel) rfl
theorem xw_927 : (Cond.static ⟨"AbsenceRowsModel", "in", "(III)Z"⟩) ∈ xt_T := xt_in 927 (by decide +kernel) rfl
theorem xw_929 : (Cond.methodLink "AbsenceRowsModel" 112 ⟨"AbsenceRowsModel", "isDay", "(I)Z"⟩) ∈ xt_T := xt_in 929 (by decide +kernel) rfl
theorem xw_930 : (Cond.static ⟨"AbsenceRowsModel", "isDay", "(I)Z"⟩) ∈ xt_T := xt_in 930 (by decide +kernel) rfl
theorem xw_932 : (Cond.methodLink "AbsenceRowsModel" 116 ⟨"AbsenceRowsModel", "goes", "(IZZZZ)Z"⟩) ∈ xt_T := xt_in 932 (by decide +kernel) rfl
theorem xw_934 : (Cond.instanceMethod ⟨"AbsenceRowsModel", "goes", "(IZZZZ)Z"⟩) ∈ xt_T := xt_in 934 (by decide +kernel) rfl
theorem xw_940 : (Cond.methodLink "AbsenceRowsModel" 151 ⟨"AbsenceRowsModel", "isPerson", "(I)Z"⟩) ∈ xt_T := xt_in 940 (by decide +kernel) rfl
theorem xw_942 : (Cond.instanceMethod ⟨"AbsenceRowsModel", "isPerson", "(I)Z"⟩) ∈ xt_T := xt_in 942 (by decide +kernel) rfl
theorem xw_944 : (Cond.methodLink "AbsenceRowsModel" 154 ⟨"AbsenceRowsModel", "isEnough", "(I)Z"⟩) ∈ xt_T := xt_in 944 (by decide +kernel) rfl
theorem xw_946 : (Cond.instanceMethod ⟨"AbsenceRowsModel", "isEnough", "(I)Z"⟩) ∈ xt_T := xt_in 946 (by decide +kernel) rfl
theorem xw_948 : (Cond.methodLink "AbsenceRowsModel" 148 ⟨"AbsenceRowsModel", "restOf", "(II)J"⟩) ∈ xt_T := xt_in 948 (by decide +kernel) rfl
theorem xw_950 : (Cond.instanceMethod ⟨"AbsenceRowsModel", "restOf", "(II)J"⟩) ∈ xt_T := xt_in 950 (by decide +kernel) rfl
theorem xw_952 : (Cond.methodLink "AbsenceRowsModel" 138 ⟨"AbsenceRowsModel", "rest", "(II)J"⟩) ∈ xt_T := xt_in 952 (by decide +kernel) rfl
theorem xw_954 : (Cond.instanceMethod ⟨"AbsenceRowsModel", "rest", "(II)J"⟩) ∈ xt_T := xt_in 954 (by decide +kernel) rfl
theorem xw_957 : (Cond.methodLink "AbsenceRowsModel" 132 ⟨"AbsenceRowsModel", "takes", "(I)I"⟩) ∈ xt_T := xt_in 957 (by decide +kernel) rfl
theorem xw_959 : (Cond.instanceMethod ⟨"AbsenceRowsModel", "takes", "(I)I"⟩) ∈ xt_T := xt_in 959 (by decide +kernel) rfl
theorem xw_961 : (Cond.methodLink "AbsenceRowsModel" 120 ⟨"AbsenceRowsModel", "isWork", "(I)Z"⟩) ∈ xt_T := xt_in 961 (by decide +kernel) rfl
theorem xw_963 : (Cond.instanceMethod ⟨"AbsenceRowsModel", "isWork", "(I)Z"⟩) ∈ xt_T := xt_in 963 (by decide +kernel) rfl
theorem xw_965 : (Cond.methodLink "AbsenceRowsModel" 123 ⟨"AbsenceRowsModel", "isHalf", "(II)Z"⟩) ∈ xt_T := xt_in 965 (by decide +kernel) rfl
theorem xw_967 : (Cond.instanceMethod ⟨"AbsenceRowsModel", "isHalf", "(II)Z"⟩) ∈ xt_T := xt_in 967 (by decide +kernel) rfl
theorem xw_970 : (Cond.methodLink "AbsenceRowsModel" 145 ⟨"AbsenceRowsModel", "whole", "(I)I"⟩) ∈ xt_T := xt_in 970 (by decide +kernel) rfl
theorem xw_972 : (Cond.instanceMethod ⟨"AbsenceRowsModel", "whole", "(I)I"⟩) ∈ xt_T := xt_in 972 (by decide +kernel) rfl
theorem xw_994 : (Cond.methodLink "AbsenceRowsModel" 157 ⟨"AbsenceRowsModel", "isCrew", "(I)Z"⟩) ∈ xt_T := xt_in 994 (by decide +kernel) rfl
theorem xw_996 : (Cond.instanceMethod ⟨"AbsenceRowsModel", "isCrew", "(I)Z"⟩) ∈ xt_T := xt_in 996 (by decide +kernel) rfl
theorem xw_1002 : (Cond.methodLink "AbsenceRowsModel" 163 ⟨"AbsenceRowsModel", "isAbsent", "(II)Z"⟩) ∈ xt_T := xt_in 1002 (by decide +kernel) rfl
theorem xw_1004 : (Cond.instanceMethod ⟨"AbsenceRowsModel", "isAbsent", "(II)Z"⟩) ∈ xt_T := xt_in 1004 (by decide +kernel) rfl
theorem xw_1010 : (Cond.methodLink "AbsenceRowsModel" 172 ⟨"AbsenceRowsModel", "count", "(II)I"⟩) ∈ xt_T := xt_in 1010 (by decide +kernel) rfl
theorem xw_1012 : (Cond.instanceMethod ⟨"AbsenceRowsModel", "count", "(II)I"⟩) ∈ xt_T := xt_in 1012 (by decide +kernel) rfl
theorem xw_1014 : (Cond.methodLink "AbsenceRowsModel" 169 ⟨"AbsenceRowsModel", "isPresent", "(III)Z"⟩) ∈ xt_T := xt_in 1014 (by decide +kernel) rfl
theorem xw_1016 : (Cond.instanceMethod ⟨"AbsenceRowsModel", "isPresent", "(III)Z"⟩) ∈ xt_T := xt_in 1016 (by decide +kernel) rfl
theorem xw_1018 : (Cond.methodLink "AbsenceRowsModel" 166 ⟨"AbsenceRowsModel", "comes", "(III)Z"⟩) ∈ xt_T := xt_in 1018 (by decide +kernel) rfl
theorem xw_1020 : (Cond.instanceMethod ⟨"AbsenceRowsModel", "comes", "(III)Z"⟩) ∈ xt_T := xt_in 1020 (by decide +kernel) rfl
theorem xw_1026 : (Cond.methodLink "AbsenceRowsModel" 176 ⟨"AbsenceRowsModel", "put", "(IIIII)V"⟩) ∈ xt_T := xt_in 1026 (by decide +kernel) rfl
theorem xw_1028 : (Cond.instanceMethod ⟨"AbsenceRowsModel", "put", "(IIIII)V"⟩) ∈ xt_T := xt_in 1028 (by decide +kernel) rfl
theorem xw_1034 : (Cond.methodLink "AbsenceRowsModel" 180 ⟨"AbsenceRowsModel", "isAsk", "(I)Z"⟩) ∈ xt_T := xt_in 1034 (by decide +kernel) rfl
theorem xw_1036 : (Cond.instanceMethod ⟨"AbsenceRowsModel", "isAsk", "(I)Z"⟩) ∈ xt_T := xt_in 1036 (by decide +kernel) rfl
theorem xw_1038 : (Cond.methodLink "AbsenceRowsModel" 183 ⟨"AbsenceRowsModel", "shortage", "(I)I"⟩) ∈ xt_T := xt_in 1038 (by decide +kernel) rfl
theorem xw_1040 : (Cond.instanceMethod ⟨"AbsenceRowsModel", "shortage", "(I)I"⟩) ∈ xt_T := xt_in 1040 (by decide +kernel) rfl
theorem xw_1070 : (Cond.methodLink "AbsenceRowsModel" 198 ⟨"AbsenceRowsModel", "asksNext", "(I)V"⟩) ∈ xt_T := xt_in 1070 (by decide +kernel) rfl
theorem xw_1072 : (Cond.instanceMethod ⟨"AbsenceRowsModel", "asksNext", "(I)V"⟩) ∈ xt_T := xt_in 1072 (by decide +kernel) rfl
theorem xw_1074 : (Cond.methodLink "AbsenceRowsModel" 189 ⟨"AbsenceRowsModel", "hasSkills", "(III)Z"⟩) ∈ xt_T := xt_in 1074 (by decide +kernel) rfl
theorem xw_1076 : (Cond.instanceMethod ⟨"AbsenceRowsModel", "hasSkills", "(III)Z"⟩) ∈ xt_T := xt_in 1076 (by decide +kernel) rfl
theorem xw_1078 : (Cond.methodLink "AbsenceRowsModel" 192 ⟨"AbsenceRowsModel", "isFree", "(II)Z"⟩) ∈ xt_T := xt_in 1078 (by decide +kernel) rfl
theorem xw_1080 : (Cond.instanceMethod ⟨"AbsenceRowsModel", "isFree", "(II)Z"⟩) ∈ xt_T := xt_in 1080 (by decide +kernel) rfl
theorem xw_1086 : (Cond.methodLink "AbsenceRowsModel" 202 ⟨"AbsenceRowsModel", "isCall", "(I)Z"⟩) ∈ xt_T := xt_in 1086 (by decide +kernel) rfl
theorem xw_1088 : (Cond.instanceMethod ⟨"AbsenceRowsModel", "isCall", "(I)Z"⟩) ∈ xt_T := xt_in 1088 (by decide +kernel) rfl
theorem xn_0 : (Cond.methodLinkNest "AbsenceRows" 9 ⟨"AbsenceRows$Calendar", "<init>", "()V"⟩ "AbsenceRows") ∈ xk_ns := List.mem_of_getElem? (i := 0) rfl
theorem xn_1 : (Cond.methodLinkNest "AbsenceRows" 18 ⟨"AbsenceRows$Persons", "<init>", "()V"⟩ "AbsenceRows") ∈ xk_ns := List.mem_of_getElem? (i := 1) rfl
theorem xn_2 : (Cond.methodLinkNest "AbsenceRows" 25 ⟨"AbsenceRows$Crews", "<init>", "()V"⟩ "AbsenceRows") ∈ xk_ns := List.mem_of_getElem? (i := 2) rfl
theorem xn_3 : (Cond.methodLinkNest "AbsenceRows" 32 ⟨"AbsenceRows$Asks", "<init>", "()V"⟩ "AbsenceRows") ∈ xk_ns := List.mem_of_getElem? (i := 3) rfl
theorem xn_4 : (Cond.methodLinkNest "AbsenceRows" 39 ⟨"AbsenceRows$HeldRows", "<init>", "()V"⟩ "AbsenceRows") ∈ xk_ns := List.mem_of_getElem? (i := 4) rfl
theorem xn_5 : (Cond.methodLinkNest "AbsenceRows" 46 ⟨"AbsenceRows$Calls", "<init>", "()V"⟩ "AbsenceRows") ∈ xk_ns := List.mem_of_getElem? (i := 5) rfl
theorem xn_6 : (Cond.methodLinkNest "AbsenceRows$Persons" 37 ⟨"AbsenceRows", "isWithin", "(III)Z"⟩ "AbsenceRows") ∈ xk_ns := List.mem_of_getElem? (i := 6) rfl
theorem xn_7 : (Cond.methodLinkNest "AbsenceRows$Calendar" 19 ⟨"AbsenceRows", "isHalf", "(IIII)Z"⟩ "AbsenceRows") ∈ xk_ns := List.mem_of_getElem? (i := 7) rfl
theorem xn_8 : (Cond.methodLinkNest "AbsenceRows$Crews" 25 ⟨"AbsenceRows", "isWithin", "(III)Z"⟩ "AbsenceRows") ∈ xk_ns := List.mem_of_getElem? (i := 8) rfl
theorem xn_9 : (Cond.methodLinkNest "AbsenceRows$Asks" 37 ⟨"AbsenceRows", "isWithin", "(III)Z"⟩ "AbsenceRows") ∈ xk_ns := List.mem_of_getElem? (i := 9) rfl
theorem xn_10 : (Cond.methodLinkNest "AbsenceRows$Persons" 50 ⟨"AbsenceRows", "only", "(I)I"⟩ "AbsenceRows") ∈ xk_ns := List.mem_of_getElem? (i := 10) rfl
theorem xn_11 : (Cond.methodLinkNest "AbsenceRows$Asks" 41 ⟨"AbsenceRows", "isHalf", "(IIII)Z"⟩ "AbsenceRows") ∈ xk_ns := List.mem_of_getElem? (i := 11) rfl
theorem xn_12 : (Cond.methodLinkNest "AbsenceRows$Asks" 45 ⟨"AbsenceRows", "only", "(I)I"⟩ "AbsenceRows") ∈ xk_ns := List.mem_of_getElem? (i := 12) rfl
theorem xn_13 : (Cond.methodLinkNest "AbsenceRows$Calls" 38 ⟨"AbsenceRows", "only", "(I)I"⟩ "AbsenceRows") ∈ xk_ns := List.mem_of_getElem? (i := 13) rfl
theorem xn_14 : (Cond.methodLinkNest "AbsenceRows$HeldRows" 25 ⟨"AbsenceRows", "isWithin", "(III)Z"⟩ "AbsenceRows") ∈ xk_ns := List.mem_of_getElem? (i := 14) rfl
theorem xn_15 : (Cond.methodLinkNest "AbsenceRows$Calls" 34 ⟨"AbsenceRows", "isWithin", "(III)Z"⟩ "AbsenceRows") ∈ xk_ns := List.mem_of_getElem? (i := 15) rfl
theorem xn_16 : (Cond.castable "java/lang/IndexOutOfBoundsException" "java/lang/IndexOutOfBoundsException") ∈ xk_ns := List.mem_of_getElem? (i := 16) rfl
theorem xn_17 : (Cond.declares ⟨"java/lang/RuntimeException", "<init>", "()V"⟩) ∈ xk_ns := List.mem_of_getElem? (i := 17) rfl
theorem xn_18 : (Cond.declares ⟨"java/lang/RuntimeException", "<init>", "(Ljava/lang/String;)V"⟩) ∈ xk_ns := List.mem_of_getElem? (i := 18) rfl
theorem xn_19 : (Cond.declares ⟨"java/lang/Exception", "<init>", "()V"⟩) ∈ xk_ns := List.mem_of_getElem? (i := 19) rfl
theorem xn_20 : (Cond.declares ⟨"java/lang/Exception", "<init>", "(Ljava/lang/String;)V"⟩) ∈ xk_ns := List.mem_of_getElem? (i := 20) rfl
theorem xn_21 : (Cond.declares ⟨"java/lang/Throwable", "<init>", "()V"⟩) ∈ xk_ns := List.mem_of_getElem? (i := 21) rfl
theorem xn_22 : (Cond.declares ⟨"java/lang/Throwable", "<init>", "(Ljava/lang/String;)V"⟩) ∈ xk_ns := List.mem_of_getElem? (i := 22) rfl
theorem xn_23 : (Cond.castable "java/lang/UnsupportedOperationException" "java/lang/UnsupportedOperationException") ∈ xk_ns := List.mem_of_getElem? (i := 23) rfl
theorem xn_24 : (Cond.castable "java/lang/IllegalArgumentException" "java/lang/IllegalArgumentException") ∈ xk_ns := List.mem_of_getElem? (i := 24) rfl
theorem xn_25 : (Cond.castable "java/lang/IllegalStateException" "java/lang/IllegalStateException") ∈ xk_ns := List.mem_of_getElem? (i := 25) rfl
