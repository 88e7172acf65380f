noncomputable def xi_b (c : Prop) : Int32 := @ite Int32 c (Classical.propDecidable c) 1 0
theorem xi_t {c : Prop} (h : c) : xi_b c = 1 := by simp [xi_b, h]
theorem xi_f {c : Prop} (h : ¬ c) : xi_b c = 0 := by simp [xi_b, h]
theorem xi_0 {c : Prop} : xi_b c = 0 ↔ ¬ c := by
  by_cases h : c
  · rw [xi_t h]; exact ⟨fun z => absurd z (by decide), fun z => absurd h z⟩
  · rw [xi_f h]; exact ⟨fun _ => h, fun _ => rfl⟩
theorem xi_n0 {c : Prop} : ¬ xi_b c = 0 ↔ c := by
  rw [xi_0, Classical.not_not]
theorem xi_nb {c : Prop} : narrow .boolean (.int (xi_b c)) = .int (xi_b c) := by
  by_cases h : c
  · rw [xi_t h]; rfl
  · rw [xi_f h]; rfl
def xr_ (k : Nat) : Room := { frames := k, cells := 0, slots := 0, locals := 30 * k }
/-! words that calls lean on, by their places -/
theorem xw_37 : (Cond.initialized "AbsenceRows") ∈ xt_T := xt_in 37 (by decide +kernel) rfl
theorem xw_51 : (Cond.initialized "java/lang/Math") ∈ xt_T := xt_in 51 (by decide +kernel) rfl
theorem xw_268 : (Cond.methodLink "AbsenceRows" 61 ⟨"AbsenceRows", "isWithin", "(III)Z"⟩) ∈ xt_T := xt_in 268 (by decide +kernel) rfl
theorem xw_269 : (Cond.static ⟨"AbsenceRows", "isWithin", "(III)Z"⟩) ∈ xt_T := xt_in 269 (by decide +kernel) rfl
theorem xw_271 : (Cond.methodLink "AbsenceRows" 65 ⟨"AbsenceRows", "isDay", "(I)Z"⟩) ∈ xt_T := xt_in 271 (by decide +kernel) rfl
theorem xw_272 : (Cond.static ⟨"AbsenceRows", "isDay", "(I)Z"⟩) ∈ xt_T := xt_in 272 (by decide +kernel) rfl
theorem xw_432 : (Cond.methodLink "AbsenceRows$Persons" 41 ⟨"java/lang/Math", "min", "(II)I"⟩) ∈ xt_T := xt_in 432 (by decide +kernel) rfl
theorem xw_433 : (Cond.static ⟨"java/lang/Math", "min", "(II)I"⟩) ∈ xt_T := xt_in 433 (by decide +kernel) rfl
theorem xw_435 : (Cond.methodLink "AbsenceRows$Persons" 47 ⟨"java/lang/Math", "max", "(II)I"⟩) ∈ xt_T := xt_in 435 (by decide +kernel) rfl
theorem xw_436 : (Cond.static ⟨"java/lang/Math", "max", "(II)I"⟩) ∈ xt_T := xt_in 436 (by decide +kernel) rfl
theorem xw_528 : (Cond.methodLink "AbsenceRows" 154 ⟨"AbsenceRows", "only", "(I)I"⟩) ∈ xt_T := xt_in 528 (by decide +kernel) rfl
theorem xw_529 : (Cond.static ⟨"AbsenceRows", "only", "(I)I"⟩) ∈ xt_T := xt_in 529 (by decide +kernel) rfl
theorem xn_0 : (Cond.methodLinkNest "AbsenceRows" 9 ⟨"AbsenceRows$Calendar", "<init>", "()V"⟩ "AbsenceRows") ∈ xk_ns := List.mem_of_getElem? (i := 0) rfl
theorem xn_1 : (Cond.methodLinkNest "AbsenceRows" 18 ⟨"AbsenceRows$Persons", "<init>", "()V"⟩ "AbsenceRows") ∈ xk_ns := List.mem_of_getElem? (i := 1) rfl
theorem xn_2 : (Cond.methodLinkNest "AbsenceRows" 25 ⟨"AbsenceRows$Crews", "<init>", "()V"⟩ "AbsenceRows") ∈ xk_ns := List.mem_of_getElem? (i := 2) rfl
theorem xn_3 : (Cond.methodLinkNest "AbsenceRows" 32 ⟨"AbsenceRows$Asks", "<init>", "()V"⟩ "AbsenceRows") ∈ xk_ns := List.mem_of_getElem? (i := 3) rfl
theorem xn_4 : (Cond.methodLinkNest "AbsenceRows" 39 ⟨"AbsenceRows$HeldRows", "<init>", "()V"⟩ "AbsenceRows") ∈ xk_ns := List.mem_of_getElem? (i := 4) rfl
theorem xn_5 : (Cond.methodLinkNest "AbsenceRows" 46 ⟨"AbsenceRows$Calls", "<init>", "()V"⟩ "AbsenceRows") ∈ xk_ns := List.mem_of_getElem? (i := 5) rfl
theorem xn_6 : (Cond.methodLinkNest "AbsenceRows$Persons" 37 ⟨"AbsenceRows", "isWithin", "(III)Z"⟩ "AbsenceRows") ∈ xk_ns := List.mem_of_getElem? (i := 6) rfl
theorem xn_7 : (Cond.methodLinkNest "AbsenceRows$Calendar" 19 ⟨"AbsenceRows", "isHalf", "(IIII)Z"⟩ "AbsenceRows") ∈ xk_ns := List.mem_of_getElem? (i := 7) rfl
theorem xn_8 : (Cond.methodLinkNest "AbsenceRows$Crews" 25 ⟨"AbsenceRows", "isWithin", "(III)Z"⟩ "AbsenceRows") ∈ xk_ns := List.mem_of_getElem? (i := 8) rfl
theorem xn_9 : (Cond.methodLinkNest "AbsenceRows$Asks" 37 ⟨"AbsenceRows", "isWithin", "(III)Z"⟩ "AbsenceRows") ∈ xk_ns := List.mem_of_getElem? (i := 9) rfl
theorem xn_10 : (Cond.methodLinkNest "AbsenceRows$Persons" 50 ⟨"AbsenceRows", "only", "(I)I"⟩ "AbsenceRows") ∈ xk_ns := List.mem_of_getElem? (i := 10) rfl
theorem xn_11 : (Cond.methodLinkNest "AbsenceRows$Asks" 41 ⟨"AbsenceRows", "isHalf", "(IIII)Z"⟩ "AbsenceRows") ∈ xk_ns := List.mem_of_getElem? (i := 11) rfl
theorem xn_12 : (Cond.methodLinkNest "AbsenceRows$Asks" 45 ⟨"AbsenceRows", "only", "(I)I"⟩ "AbsenceRows") ∈ xk_ns := List.mem_of_getElem? (i := 12) rfl
theorem xn_13 : (Cond.methodLinkNest "AbsenceRows$Calls" 38 ⟨"AbsenceRows", "only", "(I)I"⟩ "AbsenceRows") ∈ xk_ns := List.mem_of_getElem? (i := 13) rfl
theorem xn_14 : (Cond.methodLinkNest "AbsenceRows$HeldRows" 25 ⟨"AbsenceRows", "isWithin", "(III)Z"⟩ "AbsenceRows") ∈ xk_ns := List.mem_of_getElem? (i := 14) rfl
theorem xn_15 : (Cond.methodLinkNest "AbsenceRows$Calls" 34 ⟨"AbsenceRows", "isWithin", "(III)Z"⟩ "AbsenceRows") ∈ xk_ns := List.mem_of_getElem? (i := 15) rfl
