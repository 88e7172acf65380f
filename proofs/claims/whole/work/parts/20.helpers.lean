/-! THE LAW's WORLD and its helpers -/
def xk_tC : List xm_E := [.inr (0, [some 1, some 2, some 3, some 4, some 5, some 6, none, none, none]), .inr (1, [some 7]), .inr (2, [none, some 8, some 9, some 10, some 11, some 12, some 13, some 14]), .inr (3, [none, some 15, some 16, some 17]), .inr (4, [none, some 18, some 19, some 20, some 21, some 22, some 23, some 24]), .inr (5, [none, some 25, some 26, some 27]), .inr (6, [none, some 28, some 29, some 30, some 31, some 32, some 33]), .inl (1, 730, false), .inl (0, 20, false), .inl (0, 20, false), .inl (0, 20, false), .inl (0, 20, false), .inl (0, 20, false), .inl (0, 20, false), .inl (0, 160, false), .inl (0, 6, false), .inl (0, 6, false), .inl (0, 6, false), .inl (0, 80, false), .inl (0, 80, false), .inl (0, 80, false), .inl (0, 80, false), .inl (0, 80, false), .inl (0, 80, false), .inl (0, 80, false), .inl (0, 100, false), .inl (0, 100, false), .inl (0, 100, false), .inl (0, 60, false), .inl (0, 60, false), .inl (0, 60, false), .inl (0, 60, false), .inl (0, 60, false), .inl (0, 60, false), .inr (7, [none, none, some 35, none, some 36, some 37, some 38, some 39, some 40, some 41, some 42, none, none, some 43, some 44, some 45, none, some 46, some 47, some 48, some 49, some 50, some 51, some 52, none, some 53, some 54, some 55, none, some 56, some 57, some 58, some 59, some 60, some 61, some 62, none]), .inl (1, 730, false), .inl (0, 20, false), .inl (0, 20, false), .inl (0, 20, false), .inl (0, 20, false), .inl (0, 20, false), .inl (0, 20, false), .inl (0, 160, false), .inl (0, 6, false), .inl (0, 6, false), .inl (1, 120, false), .inl (0, 81, false), .inl (0, 81, false), .inl (0, 81, false), .inl (0, 81, false), .inl (0, 81, false), .inl (0, 81, false), .inl (0, 81, false), .inl (0, 100, false), .inl (0, 100, false), .inl (0, 100, false), .inl (0, 60, false), .inl (0, 60, false), .inl (0, 60, false), .inl (0, 60, false), .inl (0, 60, false), .inl (0, 60, false), .inl (1, 1200, false), .inl (2, 1, true)]
theorem xk_tC_eq : xk_tC = xk_tA.map (xm_rl (fun q => q)) ++ (xk_tM.map (xm_rl (fun q => q + 34)) ++ [.inl (2, 1, true)]) := rfl
theorem xk_sA : xm_sub (fun q => q) xk_tA xk_tC := by
  intro k en h
  have hk : k < xk_tA.length := (List.getElem?_eq_some_iff.mp h).1
  show xk_tC[k]? = _
  rw [xk_tC_eq, List.getElem?_append_left (by rw [List.length_map]; exact hk), List.getElem?_map, h]; rfl
theorem xk_sM : xm_sub (fun q => q + 34) xk_tM xk_tC := by
  intro k en h
  have hk : k < xk_tM.length := (List.getElem?_eq_some_iff.mp h).1
  have hA : (xk_tA.map (xm_rl (fun q => q))).length = 34 := rfl
  show xk_tC[k + 34]? = _
  rw [xk_tC_eq, List.getElem?_append_right (by rw [hA]; omega), hA, Nat.add_sub_cancel, List.getElem?_append_left (by rw [List.length_map]; exact hk), List.getElem?_map, h]; rfl
def xr_h : Room := { frames := 8, cells := 1, slots := 6, locals := 240 }
def xh_ps : List (String × String) := [("java/lang/IndexOutOfBoundsException", "java/lang/UnsupportedOperationException"), ("java/lang/IndexOutOfBoundsException", "java/lang/IllegalArgumentException"), ("java/lang/IndexOutOfBoundsException", "java/lang/IllegalStateException"), ("java/lang/UnsupportedOperationException", "java/lang/IndexOutOfBoundsException"), ("java/lang/UnsupportedOperationException", "java/lang/IllegalArgumentException"), ("java/lang/UnsupportedOperationException", "java/lang/IllegalStateException"), ("java/lang/IllegalArgumentException", "java/lang/IndexOutOfBoundsException"), ("java/lang/IllegalArgumentException", "java/lang/UnsupportedOperationException"), ("java/lang/IllegalArgumentException", "java/lang/IllegalStateException"), ("java/lang/IllegalStateException", "java/lang/IndexOutOfBoundsException"), ("java/lang/IllegalStateException", "java/lang/UnsupportedOperationException"), ("java/lang/IllegalStateException", "java/lang/IllegalArgumentException")]
def xh_ix : List String → String → Nat
  | [], _ => 0
  | e :: r, E => if E = e then 1 else xh_ix r E + 1
def xm_ri (o : Option Value) : Int32 := match o with
  | some (.int v) => v
  | _ => 0
theorem xo_c {c : Prop} {a b : Option String} {E : String} (h : xo_ c a b = some E) : a = some E ∨ b = some E := by
  by_cases hc : c
  · rw [xo_t hc] at h; exact Or.inl h
  · rw [xo_f hc] at h; exact Or.inr h
theorem xz_37 : (Cond.initialized "AbsenceRows") ∈ xt_T := xt_in 37 (by decide +kernel) rfl
theorem xz_262 : (Cond.classLink "AbsenceRowsLaw" 13 "java/lang/IndexOutOfBoundsException") ∈ xt_T := xt_in 262 (by decide +kernel) rfl
theorem xz_263 : (Cond.classLink "AbsenceRowsLaw" 15 "java/lang/UnsupportedOperationException") ∈ xt_T := xt_in 263 (by decide +kernel) rfl
theorem xz_264 : (Cond.methodLink "AbsenceRowsLaw" 7 ⟨"AbsenceRows", "person", "(III)I"⟩) ∈ xt_T := xt_in 264 (by decide +kernel) rfl
theorem xz_265 : (Cond.instanceMethod ⟨"AbsenceRows", "person", "(III)I"⟩) ∈ xt_T := xt_in 265 (by decide +kernel) rfl
theorem xz_266 : (Cond.selects "AbsenceRows" ⟨"AbsenceRows", "person", "(III)I"⟩ ⟨"AbsenceRows", "person", "(III)I"⟩) ∈ xt_T := xt_in 266 (by decide +kernel) rfl
theorem xz_366 : (Cond.classLink "AbsenceRowsLaw" 21 "java/lang/IllegalArgumentException") ∈ xt_T := xt_in 366 (by decide +kernel) rfl
theorem xz_367 : (Cond.classLink "AbsenceRowsLaw" 23 "java/lang/IllegalStateException") ∈ xt_T := xt_in 367 (by decide +kernel) rfl
theorem xz_368 : (Cond.methodLink "AbsenceRowsLaw" 17 ⟨"AbsenceRows", "budget", "(III)V"⟩) ∈ xt_T := xt_in 368 (by decide +kernel) rfl
theorem xz_369 : (Cond.instanceMethod ⟨"AbsenceRows", "budget", "(III)V"⟩) ∈ xt_T := xt_in 369 (by decide +kernel) rfl
theorem xz_370 : (Cond.selects "AbsenceRows" ⟨"AbsenceRows", "budget", "(III)V"⟩ ⟨"AbsenceRows", "budget", "(III)V"⟩) ∈ xt_T := xt_in 370 (by decide +kernel) rfl
theorem xz_469 : (Cond.methodLink "AbsenceRowsLaw" 25 ⟨"AbsenceRows", "carry", "(I)V"⟩) ∈ xt_T := xt_in 469 (by decide +kernel) rfl
theorem xz_470 : (Cond.instanceMethod ⟨"AbsenceRows", "carry", "(I)V"⟩) ∈ xt_T := xt_in 470 (by decide +kernel) rfl
theorem xz_471 : (Cond.selects "AbsenceRows" ⟨"AbsenceRows", "carry", "(I)V"⟩ ⟨"AbsenceRows", "carry", "(I)V"⟩) ∈ xt_T := xt_in 471 (by decide +kernel) rfl
theorem xz_478 : (Cond.methodLink "AbsenceRowsLaw" 29 ⟨"AbsenceRows", "holiday", "(I)V"⟩) ∈ xt_T := xt_in 478 (by decide +kernel) rfl
theorem xz_479 : (Cond.instanceMethod ⟨"AbsenceRows", "holiday", "(I)V"⟩) ∈ xt_T := xt_in 479 (by decide +kernel) rfl
theorem xz_480 : (Cond.selects "AbsenceRows" ⟨"AbsenceRows", "holiday", "(I)V"⟩ ⟨"AbsenceRows", "holiday", "(I)V"⟩) ∈ xt_T := xt_in 480 (by decide +kernel) rfl
theorem xz_487 : (Cond.methodLink "AbsenceRowsLaw" 32 ⟨"AbsenceRows", "working", "(II)I"⟩) ∈ xt_T := xt_in 487 (by decide +kernel) rfl
theorem xz_488 : (Cond.instanceMethod ⟨"AbsenceRows", "working", "(II)I"⟩) ∈ xt_T := xt_in 488 (by decide +kernel) rfl
theorem xz_489 : (Cond.selects "AbsenceRows" ⟨"AbsenceRows", "working", "(II)I"⟩ ⟨"AbsenceRows", "working", "(II)I"⟩) ∈ xt_T := xt_in 489 (by decide +kernel) rfl
theorem xz_502 : (Cond.methodLink "AbsenceRowsLaw" 36 ⟨"AbsenceRows", "crew", "(II)I"⟩) ∈ xt_T := xt_in 502 (by decide +kernel) rfl
theorem xz_503 : (Cond.instanceMethod ⟨"AbsenceRows", "crew", "(II)I"⟩) ∈ xt_T := xt_in 503 (by decide +kernel) rfl
theorem xz_504 : (Cond.selects "AbsenceRows" ⟨"AbsenceRows", "crew", "(II)I"⟩ ⟨"AbsenceRows", "crew", "(II)I"⟩) ∈ xt_T := xt_in 504 (by decide +kernel) rfl
theorem xz_515 : (Cond.methodLink "AbsenceRowsLaw" 39 ⟨"AbsenceRows", "member", "(IIZ)I"⟩) ∈ xt_T := xt_in 515 (by decide +kernel) rfl
theorem xz_516 : (Cond.instanceMethod ⟨"AbsenceRows", "member", "(IIZ)I"⟩) ∈ xt_T := xt_in 516 (by decide +kernel) rfl
theorem xz_517 : (Cond.selects "AbsenceRows" ⟨"AbsenceRows", "member", "(IIZ)I"⟩ ⟨"AbsenceRows", "member", "(IIZ)I"⟩) ∈ xt_T := xt_in 517 (by decide +kernel) rfl
theorem xz_541 : (Cond.methodLink "AbsenceRowsLaw" 43 ⟨"AbsenceRows", "ask", "(IIIII)I"⟩) ∈ xt_T := xt_in 541 (by decide +kernel) rfl
theorem xz_542 : (Cond.instanceMethod ⟨"AbsenceRows", "ask", "(IIIII)I"⟩) ∈ xt_T := xt_in 542 (by decide +kernel) rfl
theorem xz_543 : (Cond.selects "AbsenceRows" ⟨"AbsenceRows", "ask", "(IIIII)I"⟩ ⟨"AbsenceRows", "ask", "(IIIII)I"⟩) ∈ xt_T := xt_in 543 (by decide +kernel) rfl
theorem xz_568 : (Cond.methodLink "AbsenceRowsLaw" 47 ⟨"AbsenceRows", "grant", "(II)I"⟩) ∈ xt_T := xt_in 568 (by decide +kernel) rfl
theorem xz_569 : (Cond.instanceMethod ⟨"AbsenceRows", "grant", "(II)I"⟩) ∈ xt_T := xt_in 569 (by decide +kernel) rfl
theorem xz_570 : (Cond.selects "AbsenceRows" ⟨"AbsenceRows", "grant", "(II)I"⟩ ⟨"AbsenceRows", "grant", "(II)I"⟩) ∈ xt_T := xt_in 570 (by decide +kernel) rfl
theorem xz_636 : (Cond.methodLink "AbsenceRowsLaw" 50 ⟨"AbsenceRows", "withdraw", "(I)I"⟩) ∈ xt_T := xt_in 636 (by decide +kernel) rfl
theorem xz_637 : (Cond.instanceMethod ⟨"AbsenceRows", "withdraw", "(I)I"⟩) ∈ xt_T := xt_in 637 (by decide +kernel) rfl
theorem xz_638 : (Cond.selects "AbsenceRows" ⟨"AbsenceRows", "withdraw", "(I)I"⟩ ⟨"AbsenceRows", "withdraw", "(I)I"⟩) ∈ xt_T := xt_in 638 (by decide +kernel) rfl
theorem xz_645 : (Cond.methodLink "AbsenceRowsLaw" 54 ⟨"AbsenceRows", "askAt", "(II)I"⟩) ∈ xt_T := xt_in 645 (by decide +kernel) rfl
theorem xz_646 : (Cond.instanceMethod ⟨"AbsenceRows", "askAt", "(II)I"⟩) ∈ xt_T := xt_in 646 (by decide +kernel) rfl
theorem xz_647 : (Cond.selects "AbsenceRows" ⟨"AbsenceRows", "askAt", "(II)I"⟩ ⟨"AbsenceRows", "askAt", "(II)I"⟩) ∈ xt_T := xt_in 647 (by decide +kernel) rfl
theorem xz_653 : (Cond.methodLink "AbsenceRowsLaw" 57 ⟨"AbsenceRows", "left", "(III)I"⟩) ∈ xt_T := xt_in 653 (by decide +kernel) rfl
theorem xz_654 : (Cond.instanceMethod ⟨"AbsenceRows", "left", "(III)I"⟩) ∈ xt_T := xt_in 654 (by decide +kernel) rfl
theorem xz_655 : (Cond.selects "AbsenceRows" ⟨"AbsenceRows", "left", "(III)I"⟩ ⟨"AbsenceRows", "left", "(III)I"⟩) ∈ xt_T := xt_in 655 (by decide +kernel) rfl
theorem xz_671 : (Cond.methodLink "AbsenceRowsLaw" 60 ⟨"AbsenceRows", "absent", "(II)Z"⟩) ∈ xt_T := xt_in 671 (by decide +kernel) rfl
theorem xz_672 : (Cond.instanceMethod ⟨"AbsenceRows", "absent", "(II)Z"⟩) ∈ xt_T := xt_in 672 (by decide +kernel) rfl
theorem xz_673 : (Cond.selects "AbsenceRows" ⟨"AbsenceRows", "absent", "(II)Z"⟩ ⟨"AbsenceRows", "absent", "(II)Z"⟩) ∈ xt_T := xt_in 673 (by decide +kernel) rfl
theorem xz_678 : (Cond.methodLink "AbsenceRowsLaw" 64 ⟨"AbsenceRows", "present", "(II)I"⟩) ∈ xt_T := xt_in 678 (by decide +kernel) rfl
theorem xz_679 : (Cond.instanceMethod ⟨"AbsenceRows", "present", "(II)I"⟩) ∈ xt_T := xt_in 679 (by decide +kernel) rfl
theorem xz_680 : (Cond.selects "AbsenceRows" ⟨"AbsenceRows", "present", "(II)I"⟩ ⟨"AbsenceRows", "present", "(II)I"⟩) ∈ xt_T := xt_in 680 (by decide +kernel) rfl
theorem xz_686 : (Cond.methodLink "AbsenceRowsLaw" 67 ⟨"AbsenceRows", "held", "(II)I"⟩) ∈ xt_T := xt_in 686 (by decide +kernel) rfl
theorem xz_687 : (Cond.instanceMethod ⟨"AbsenceRows", "held", "(II)I"⟩) ∈ xt_T := xt_in 687 (by decide +kernel) rfl
theorem xz_688 : (Cond.selects "AbsenceRows" ⟨"AbsenceRows", "held", "(II)I"⟩ ⟨"AbsenceRows", "held", "(II)I"⟩) ∈ xt_T := xt_in 688 (by decide +kernel) rfl
theorem xz_699 : (Cond.methodLink "AbsenceRowsLaw" 70 ⟨"AbsenceRows", "bar", "(III)V"⟩) ∈ xt_T := xt_in 699 (by decide +kernel) rfl
theorem xz_700 : (Cond.instanceMethod ⟨"AbsenceRows", "bar", "(III)V"⟩) ∈ xt_T := xt_in 700 (by decide +kernel) rfl
theorem xz_701 : (Cond.selects "AbsenceRows" ⟨"AbsenceRows", "bar", "(III)V"⟩ ⟨"AbsenceRows", "bar", "(III)V"⟩) ∈ xt_T := xt_in 701 (by decide +kernel) rfl
theorem xz_707 : (Cond.methodLink "AbsenceRowsLaw" 73 ⟨"AbsenceRows", "patience", "(I)V"⟩) ∈ xt_T := xt_in 707 (by decide +kernel) rfl
theorem xz_708 : (Cond.instanceMethod ⟨"AbsenceRows", "patience", "(I)V"⟩) ∈ xt_T := xt_in 708 (by decide +kernel) rfl
theorem xz_709 : (Cond.selects "AbsenceRows" ⟨"AbsenceRows", "patience", "(I)V"⟩ ⟨"AbsenceRows", "patience", "(I)V"⟩) ∈ xt_T := xt_in 709 (by decide +kernel) rfl
theorem xz_715 : (Cond.methodLink "AbsenceRowsLaw" 76 ⟨"AbsenceRows", "call", "(II)I"⟩) ∈ xt_T := xt_in 715 (by decide +kernel) rfl
theorem xz_716 : (Cond.instanceMethod ⟨"AbsenceRows", "call", "(II)I"⟩) ∈ xt_T := xt_in 716 (by decide +kernel) rfl
theorem xz_717 : (Cond.selects "AbsenceRows" ⟨"AbsenceRows", "call", "(II)I"⟩ ⟨"AbsenceRows", "call", "(II)I"⟩) ∈ xt_T := xt_in 717 (by decide +kernel) rfl
theorem xz_756 : (Cond.methodLink "AbsenceRowsLaw" 79 ⟨"AbsenceRows", "answer", "(IZ)I"⟩) ∈ xt_T := xt_in 756 (by decide +kernel) rfl
theorem xz_757 : (Cond.instanceMethod ⟨"AbsenceRows", "answer", "(IZ)I"⟩) ∈ xt_T := xt_in 757 (by decide +kernel) rfl
theorem xz_758 : (Cond.selects "AbsenceRows" ⟨"AbsenceRows", "answer", "(IZ)I"⟩ ⟨"AbsenceRows", "answer", "(IZ)I"⟩) ∈ xt_T := xt_in 758 (by decide +kernel) rfl
theorem xz_774 : (Cond.methodLink "AbsenceRowsLaw" 83 ⟨"AbsenceRows", "callAt", "(II)I"⟩) ∈ xt_T := xt_in 774 (by decide +kernel) rfl
theorem xz_775 : (Cond.instanceMethod ⟨"AbsenceRows", "callAt", "(II)I"⟩) ∈ xt_T := xt_in 775 (by decide +kernel) rfl
theorem xz_776 : (Cond.selects "AbsenceRows" ⟨"AbsenceRows", "callAt", "(II)I"⟩ ⟨"AbsenceRows", "callAt", "(II)I"⟩) ∈ xt_T := xt_in 776 (by decide +kernel) rfl
theorem xz_781 : (Cond.methodLink "AbsenceRowsLaw" 86 ⟨"AbsenceRows", "asked", "(I)I"⟩) ∈ xt_T := xt_in 781 (by decide +kernel) rfl
theorem xz_782 : (Cond.instanceMethod ⟨"AbsenceRows", "asked", "(I)I"⟩) ∈ xt_T := xt_in 782 (by decide +kernel) rfl
theorem xz_783 : (Cond.selects "AbsenceRows" ⟨"AbsenceRows", "asked", "(I)I"⟩ ⟨"AbsenceRows", "asked", "(I)I"⟩) ∈ xt_T := xt_in 783 (by decide +kernel) rfl
theorem xz_788 : (Cond.methodLink "AbsenceRowsLaw" 89 ⟨"AbsenceRows", "tick", "(I)I"⟩) ∈ xt_T := xt_in 788 (by decide +kernel) rfl
theorem xz_789 : (Cond.instanceMethod ⟨"AbsenceRows", "tick", "(I)I"⟩) ∈ xt_T := xt_in 789 (by decide +kernel) rfl
theorem xz_790 : (Cond.selects "AbsenceRows" ⟨"AbsenceRows", "tick", "(I)I"⟩ ⟨"AbsenceRows", "tick", "(I)I"⟩) ∈ xt_T := xt_in 790 (by decide +kernel) rfl
abbrev xb_Z_person : ByteArray := method_3_code
def xy_Z_person : MethodName := ⟨"AbsenceRowsLaw", "person", "(LAbsenceRows;III[J)I"⟩
def xp_Z_person : xm_P := [(0, .aload 4, 2, none), (2, .iconst 0, 1, none), (3, .aload_n 0, 1, none), (4, .iload_n 1, 1, none), (5, .iload_n 2, 1, none), (6, .iload_n 3, 1, none), (7, .invokevirtual 7, 3, some [0, 1, 2, 3, 4]), (10, .i2l, 1, none), (11, .lastore, 1, none), (12, .goto 11, 3, none), (15, .astore 5, 2, none), (17, .iconst 1, 1, none), (18, .ireturn, 1, none), (19, .astore 5, 2, none), (21, .iconst 2, 1, none), (22, .ireturn, 1, none), (23, .iconst 0, 1, none), (24, .ireturn, 1, none)]
theorem xd_Z_person : xm_chb xb_Z_person xp_Z_person = true := by decide +kernel
def xh_Z_person : List (Nat × Nat × Nat × Nat) := [(0, 12, 15, 13), (0, 12, 19, 15)]
def pZ_person (as : List Value) (M : xm_M) : Prop := ∃ s r d : Int32, as = [.ref 0, .int s, .int r, .int d, .ref 63] ∧ pA_person [.ref 0, .int s, .int r, .int d] M
noncomputable def gZ_person (as : List Value) (M : xm_M) : Option Value × xm_M := match as with
  | [_, .int s, .int r, .int d, _] => (match ftA_person [.ref 0, .int s, .int r, .int d] M with
    | none => (some (.int 0), xm_up (xm_mix 34 (fA_person [.ref 0, .int s, .int r, .int d] M).2 M) 63 0 (xm_ri (fA_person [.ref 0, .int s, .int r, .int d] M).1))
    | some E => (some (.int (nI (xh_ix ["java/lang/IndexOutOfBoundsException", "java/lang/UnsupportedOperationException"] E))), M))
  | _ => (some (.int 0), M)
noncomputable abbrev sZ_person : xm_C := (1, 5, 1, pZ_person, gZ_person)
set_option maxRecDepth 20000 in
set_option maxHeartbeats 2000000 in
theorem cZ_person (l : Launch) (hl : l.stackTraces = false) : xm_Hp l xy_Z_person (Cond.codeWith xy_Z_person xb_Z_person 6 (some .int) xh_Z_person :: xt_T) xr_h "AbsenceRows" xh_ss xh_ps xk_cl xk_ns xk_tC pZ_person gZ_person := by
  refine xm_mk_hp (T := xk_T0) (N := 9) (ci := 0) (by decide) xt_good xk_ns_ok xd_Z_person rfl (cA_person l hl) (idx := 7) (np := 3) (pcx := 7) xe_A_person xz_37 ⟨by decide, by decide, by decide +kernel⟩ xz_264 xz_265 xz_266 ⟨Nat.le_of_ble_eq_true rfl, Nat.le_of_ble_eq_true rfl⟩ ⟨rfl, rfl⟩ ⟨rfl, rfl⟩ (by decide +kernel) xk_sA rfl rfl (fun as => (as.drop 1).take 3) (fun as => [.int 0, .ref 63]) (fun as => lv_args 0 as) ?_ ?_ ?_ ?_ ?_ ?_
  · rintro as M ⟨s, r, d, rfl, hpA⟩; exact Nat.le_of_ble_eq_true rfl
  · rintro as M ⟨s, r, d, rfl, hpA⟩
    simp only [gZ_person]
    cases ftA_person [.ref 0, .int s, .int r, .int d] M with
    | none => exact ⟨_, rfl⟩
    | some E => exact ⟨_, rfl⟩
  · rintro as M ⟨s, r, d, rfl, hpA⟩
    refine ⟨100, ?g1_k_7⟩
    exact ⟨rfl, rfl, rfl, rfl, rfl⟩
  · rintro as M ⟨s, r, d, rfl, hpA⟩
    exact ⟨hpA, rfl, Nat.le_of_ble_eq_true rfl⟩
  · rintro as M ⟨s, r, d, rfl, hpA⟩ hf
    replace hf : ftA_person [.ref 0, .int s, .int r, .int d] M = none := hf
    refine ⟨100, (And.intro rfl (And.intro ?g1_i_11 (Exists.intro _ (And.intro rfl (And.intro (by decide) (And.intro ?g2_w_24 ?g3_r_24))))))⟩
    case g1_i_11 =>
      exact vp_in_nI (n := 0) (N := 1) (by decide) (by decide)
    case g2_w_24 =>
      rfl
    case g3_r_24 =>
      refine ⟨?_, ?_, Nat.le_of_ble_eq_true rfl⟩
      · simp only [gZ_person, hf]; rfl
      · simp only [gZ_person, hf]; rfl
  · rintro as M E ⟨s, r, d, rfl, hpA⟩ hf
    replace hf : ftA_person [.ref 0, .int s, .int r, .int d] M = some E := hf
    have hg : gZ_person [.ref 0, .int s, .int r, .int d, .ref 63] M = (some (.int (nI (xh_ix ["java/lang/IndexOutOfBoundsException", "java/lang/UnsupportedOperationException"] E))), M) := by
      simp only [gZ_person, hf]
    have hE : E = "java/lang/IndexOutOfBoundsException" ∨ E = "java/lang/UnsupportedOperationException" := by
      simp only [ftA_person] at hf
      rcases xo_c hf with h | hf
      · exact Or.inl (Option.some.inj h).symm
      rcases xo_c hf with h | hf
      · exact Or.inr ((Option.some.inj h).symm)
      cases hf
    rcases hE with rfl | rfl
    · exact ⟨[], (0, 12, 15, 13), [(0, 12, 19, 15)], 1, rfl, fun _ h => absurd h List.not_mem_nil, by decide, by decide, ⟨"java/lang/IndexOutOfBoundsException", xz_262, xn_16⟩, ⟨5, by decide, Or.inr ⟨by decide +kernel, by decide +kernel, by decide +kernel⟩⟩, hg⟩
    · exact ⟨[(0, 12, 15, 13)], (0, 12, 19, 15), [], 2, rfl, List.forall_mem_cons.mpr ⟨⟨by decide, "java/lang/IndexOutOfBoundsException", xz_262, by decide +kernel⟩, fun _ h => absurd h List.not_mem_nil⟩, by decide, by decide, ⟨"java/lang/UnsupportedOperationException", xz_263, xn_23⟩, ⟨5, by decide, Or.inr ⟨by decide +kernel, by decide +kernel, by decide +kernel⟩⟩, hg⟩
abbrev xb_Z_budget : ByteArray := method_4_code
def xy_Z_budget : MethodName := ⟨"AbsenceRowsLaw", "budget", "(LAbsenceRows;III)I"⟩
def xp_Z_budget : xm_P := [(0, .aload_n 0, 1, none), (1, .iload_n 1, 1, none), (2, .iload_n 2, 1, none), (3, .iload_n 3, 1, none), (4, .invokevirtual 17, 3, some [0, 1, 2, 3]), (7, .goto 15, 3, none), (10, .astore 4, 2, none), (12, .iconst 1, 1, none), (13, .ireturn, 1, none), (14, .astore 4, 2, none), (16, .iconst 2, 1, none), (17, .ireturn, 1, none), (18, .astore 4, 2, none), (20, .iconst 3, 1, none), (21, .ireturn, 1, none), (22, .iconst 0, 1, none), (23, .ireturn, 1, none)]
theorem xd_Z_budget : xm_chb xb_Z_budget xp_Z_budget = true := by decide +kernel
def xh_Z_budget : List (Nat × Nat × Nat × Nat) := [(0, 7, 10, 21), (0, 7, 14, 13), (0, 7, 18, 23)]
def pZ_budget (as : List Value) (M : xm_M) : Prop := ∃ p u d : Int32, as = [.ref 0, .int p, .int u, .int d] ∧ pA_budget [.ref 0, .int p, .int u, .int d] M
noncomputable def gZ_budget (as : List Value) (M : xm_M) : Option Value × xm_M := match as with
  | [_, .int p, .int u, .int d] => (match ftA_budget [.ref 0, .int p, .int u, .int d] M with
    | none => (some (.int 0), xm_mix 34 (fA_budget [.ref 0, .int p, .int u, .int d] M).2 M)
    | some E => (some (.int (nI (xh_ix ["java/lang/IllegalArgumentException", "java/lang/IndexOutOfBoundsException", "java/lang/IllegalStateException"] E))), M))
  | _ => (some (.int 0), M)
noncomputable abbrev sZ_budget : xm_C := (1, 4, 1, pZ_budget, gZ_budget)
set_option maxRecDepth 20000 in
set_option maxHeartbeats 2000000 in
theorem cZ_budget (l : Launch) (hl : l.stackTraces = false) : xm_Hp l xy_Z_budget (Cond.codeWith xy_Z_budget xb_Z_budget 5 (some .int) xh_Z_budget :: xt_T) xr_h "AbsenceRows" xh_ss xh_ps xk_cl xk_ns xk_tC pZ_budget gZ_budget := by
  refine xm_mk_hp (T := xk_T0) (N := 9) (ci := 0) (by decide) xt_good xk_ns_ok xd_Z_budget rfl (cA_budget l hl) (idx := 17) (np := 3) (pcx := 4) xe_A_budget xz_37 ⟨by decide, by decide, by decide +kernel⟩ xz_368 xz_369 xz_370 ⟨Nat.le_of_ble_eq_true rfl, Nat.le_of_ble_eq_true rfl⟩ ⟨rfl, rfl⟩ ⟨rfl, rfl⟩ (by decide +kernel) xk_sA rfl rfl (fun as => (as.drop 1).take 3) (fun as => []) (fun as => lv_args 0 as) ?_ ?_ ?_ ?_ ?_ ?_
  · rintro as M ⟨p, u, d, rfl, hpA⟩; exact Nat.le_of_ble_eq_true rfl
  · rintro as M ⟨p, u, d, rfl, hpA⟩
    simp only [gZ_budget]
    cases ftA_budget [.ref 0, .int p, .int u, .int d] M with
    | none => exact ⟨_, rfl⟩
    | some E => exact ⟨_, rfl⟩
  · rintro as M ⟨p, u, d, rfl, hpA⟩
    refine ⟨100, ?g1_k_4⟩
    exact ⟨rfl, rfl, rfl, rfl, rfl⟩
  · rintro as M ⟨p, u, d, rfl, hpA⟩
    exact ⟨hpA, rfl, Nat.le_of_ble_eq_true rfl⟩
  · rintro as M ⟨p, u, d, rfl, hpA⟩ hf
    replace hf : ftA_budget [.ref 0, .int p, .int u, .int d] M = none := hf
    refine ⟨100, (And.intro (by decide) (And.intro ?g1_w_23 ?g2_r_23))⟩
    case g1_w_23 =>
      rfl
    case g2_r_23 =>
      refine ⟨?_, ?_, Nat.le_of_ble_eq_true rfl⟩
      · simp only [gZ_budget, hf]; rfl
      · simp only [gZ_budget, hf]; rfl
  · rintro as M E ⟨p, u, d, rfl, hpA⟩ hf
    replace hf : ftA_budget [.ref 0, .int p, .int u, .int d] M = some E := hf
    have hg : gZ_budget [.ref 0, .int p, .int u, .int d] M = (some (.int (nI (xh_ix ["java/lang/IllegalArgumentException", "java/lang/IndexOutOfBoundsException", "java/lang/IllegalStateException"] E))), M) := by
      simp only [gZ_budget, hf]
    have hE : E = "java/lang/IllegalArgumentException" ∨ E = "java/lang/IndexOutOfBoundsException" ∨ E = "java/lang/IllegalStateException" := by
      simp only [ftA_budget] at hf
      rcases xo_c hf with h | hf
      · exact Or.inl (Option.some.inj h).symm
      rcases xo_c hf with h | hf
      · exact Or.inr (Or.inl (Option.some.inj h).symm)
      rcases xo_c hf with h | hf
      · exact Or.inr (Or.inr ((Option.some.inj h).symm))
      cases hf
    rcases hE with rfl | rfl | rfl
    · exact ⟨[], (0, 7, 10, 21), [(0, 7, 14, 13), (0, 7, 18, 23)], 1, rfl, fun _ h => absurd h List.not_mem_nil, by decide, by decide, ⟨"java/lang/IllegalArgumentException", xz_366, xn_24⟩, ⟨4, by decide, Or.inr ⟨by decide +kernel, by decide +kernel, by decide +kernel⟩⟩, hg⟩
    · exact ⟨[(0, 7, 10, 21)], (0, 7, 14, 13), [(0, 7, 18, 23)], 2, rfl, List.forall_mem_cons.mpr ⟨⟨by decide, "java/lang/IllegalArgumentException", xz_366, by decide +kernel⟩, fun _ h => absurd h List.not_mem_nil⟩, by decide, by decide, ⟨"java/lang/IndexOutOfBoundsException", xz_262, xn_16⟩, ⟨4, by decide, Or.inr ⟨by decide +kernel, by decide +kernel, by decide +kernel⟩⟩, hg⟩
    · exact ⟨[(0, 7, 10, 21), (0, 7, 14, 13)], (0, 7, 18, 23), [], 3, rfl, List.forall_mem_cons.mpr ⟨⟨by decide, "java/lang/IllegalArgumentException", xz_366, by decide +kernel⟩, List.forall_mem_cons.mpr ⟨⟨by decide, "java/lang/IndexOutOfBoundsException", xz_262, by decide +kernel⟩, fun _ h => absurd h List.not_mem_nil⟩⟩, by decide, by decide, ⟨"java/lang/IllegalStateException", xz_367, xn_25⟩, ⟨4, by decide, Or.inr ⟨by decide +kernel, by decide +kernel, by decide +kernel⟩⟩, hg⟩
abbrev xb_Z_carry : ByteArray := method_5_code
def xy_Z_carry : MethodName := ⟨"AbsenceRowsLaw", "carry", "(LAbsenceRows;I)I"⟩
def xp_Z_carry : xm_P := [(0, .aload_n 0, 1, none), (1, .iload_n 1, 1, none), (2, .invokevirtual 25, 3, some [0, 1]), (5, .goto 9, 3, none), (8, .astore_n 2, 1, none), (9, .iconst 1, 1, none), (10, .ireturn, 1, none), (11, .astore_n 2, 1, none), (12, .iconst 2, 1, none), (13, .ireturn, 1, none), (14, .iconst 0, 1, none), (15, .ireturn, 1, none)]
theorem xd_Z_carry : xm_chb xb_Z_carry xp_Z_carry = true := by decide +kernel
def xh_Z_carry : List (Nat × Nat × Nat × Nat) := [(0, 5, 8, 13), (0, 5, 11, 23)]
def pZ_carry (as : List Value) (M : xm_M) : Prop := ∃ d : Int32, as = [.ref 0, .int d] ∧ pA_carry [.ref 0, .int d] M
noncomputable def gZ_carry (as : List Value) (M : xm_M) : Option Value × xm_M := match as with
  | [_, .int d] => (match ftA_carry [.ref 0, .int d] M with
    | none => (some (.int 0), xm_mix 34 (fA_carry [.ref 0, .int d] M).2 M)
    | some E => (some (.int (nI (xh_ix ["java/lang/IndexOutOfBoundsException", "java/lang/IllegalStateException"] E))), M))
  | _ => (some (.int 0), M)
noncomputable abbrev sZ_carry : xm_C := (1, 2, 1, pZ_carry, gZ_carry)
set_option maxRecDepth 20000 in
set_option maxHeartbeats 2000000 in
theorem cZ_carry (l : Launch) (hl : l.stackTraces = false) : xm_Hp l xy_Z_carry (Cond.codeWith xy_Z_carry xb_Z_carry 3 (some .int) xh_Z_carry :: xt_T) xr_h "AbsenceRows" xh_ss xh_ps xk_cl xk_ns xk_tC pZ_carry gZ_carry := by
  refine xm_mk_hp (T := xk_T0) (N := 9) (ci := 0) (by decide) xt_good xk_ns_ok xd_Z_carry rfl (cA_carry l hl) (idx := 25) (np := 1) (pcx := 2) xe_A_carry xz_37 ⟨by decide, by decide, by decide +kernel⟩ xz_469 xz_470 xz_471 ⟨Nat.le_of_ble_eq_true rfl, Nat.le_of_ble_eq_true rfl⟩ ⟨rfl, rfl⟩ ⟨rfl, rfl⟩ (by decide +kernel) xk_sA rfl rfl (fun as => (as.drop 1).take 1) (fun as => []) (fun as => lv_args 0 as) ?_ ?_ ?_ ?_ ?_ ?_
  · rintro as M ⟨d, rfl, hpA⟩; exact Nat.le_of_ble_eq_true rfl
  · rintro as M ⟨d, rfl, hpA⟩
    simp only [gZ_carry]
    cases ftA_carry [.ref 0, .int d] M with
    | none => exact ⟨_, rfl⟩
    | some E => exact ⟨_, rfl⟩
  · rintro as M ⟨d, rfl, hpA⟩
    refine ⟨100, ?g1_k_2⟩
    exact ⟨rfl, rfl, rfl, rfl, rfl⟩
  · rintro as M ⟨d, rfl, hpA⟩
    exact ⟨hpA, rfl, Nat.le_of_ble_eq_true rfl⟩
  · rintro as M ⟨d, rfl, hpA⟩ hf
    replace hf : ftA_carry [.ref 0, .int d] M = none := hf
    refine ⟨100, (And.intro (by decide) (And.intro ?g1_w_15 ?g2_r_15))⟩
    case g1_w_15 =>
      rfl
    case g2_r_15 =>
      refine ⟨?_, ?_, Nat.le_of_ble_eq_true rfl⟩
      · simp only [gZ_carry, hf]; rfl
      · simp only [gZ_carry, hf]; rfl
  · rintro as M E ⟨d, rfl, hpA⟩ hf
    replace hf : ftA_carry [.ref 0, .int d] M = some E := hf
    have hg : gZ_carry [.ref 0, .int d] M = (some (.int (nI (xh_ix ["java/lang/IndexOutOfBoundsException", "java/lang/IllegalStateException"] E))), M) := by
      simp only [gZ_carry, hf]
    have hE : E = "java/lang/IndexOutOfBoundsException" ∨ E = "java/lang/IllegalStateException" := by
      simp only [ftA_carry] at hf
      rcases xo_c hf with h | hf
      · exact Or.inl (Option.some.inj h).symm
      rcases xo_c hf with h | hf
      · exact Or.inr ((Option.some.inj h).symm)
      cases hf
    rcases hE with rfl | rfl
    · exact ⟨[], (0, 5, 8, 13), [(0, 5, 11, 23)], 1, rfl, fun _ h => absurd h List.not_mem_nil, by decide, by decide, ⟨"java/lang/IndexOutOfBoundsException", xz_262, xn_16⟩, ⟨2, by decide, Or.inl ⟨⟨2, rfl, by decide +kernel⟩, by decide +kernel, by decide +kernel⟩⟩, hg⟩
    · exact ⟨[(0, 5, 8, 13)], (0, 5, 11, 23), [], 2, rfl, List.forall_mem_cons.mpr ⟨⟨by decide, "java/lang/IndexOutOfBoundsException", xz_262, by decide +kernel⟩, fun _ h => absurd h List.not_mem_nil⟩, by decide, by decide, ⟨"java/lang/IllegalStateException", xz_367, xn_25⟩, ⟨2, by decide, Or.inl ⟨⟨2, rfl, by decide +kernel⟩, by decide +kernel, by decide +kernel⟩⟩, hg⟩
abbrev xb_Z_holiday : ByteArray := method_6_code
def xy_Z_holiday : MethodName := ⟨"AbsenceRowsLaw", "holiday", "(LAbsenceRows;I)I"⟩
def xp_Z_holiday : xm_P := [(0, .aload_n 0, 1, none), (1, .iload_n 1, 1, none), (2, .invokevirtual 29, 3, some [0, 1]), (5, .goto 9, 3, none), (8, .astore_n 2, 1, none), (9, .iconst 1, 1, none), (10, .ireturn, 1, none), (11, .astore_n 2, 1, none), (12, .iconst 2, 1, none), (13, .ireturn, 1, none), (14, .iconst 0, 1, none), (15, .ireturn, 1, none)]
theorem xd_Z_holiday : xm_chb xb_Z_holiday xp_Z_holiday = true := by decide +kernel
def xh_Z_holiday : List (Nat × Nat × Nat × Nat) := [(0, 5, 8, 13), (0, 5, 11, 23)]
def pZ_holiday (as : List Value) (M : xm_M) : Prop := ∃ d : Int32, as = [.ref 0, .int d] ∧ pA_holiday [.ref 0, .int d] M
noncomputable def gZ_holiday (as : List Value) (M : xm_M) : Option Value × xm_M := match as with
  | [_, .int d] => (match ftA_holiday [.ref 0, .int d] M with
    | none => (some (.int 0), xm_mix 34 (fA_holiday [.ref 0, .int d] M).2 M)
    | some E => (some (.int (nI (xh_ix ["java/lang/IndexOutOfBoundsException", "java/lang/IllegalStateException"] E))), M))
  | _ => (some (.int 0), M)
noncomputable abbrev sZ_holiday : xm_C := (1, 2, 1, pZ_holiday, gZ_holiday)
set_option maxRecDepth 20000 in
set_option maxHeartbeats 2000000 in
theorem cZ_holiday (l : Launch) (hl : l.stackTraces = false) : xm_Hp l xy_Z_holiday (Cond.codeWith xy_Z_holiday xb_Z_holiday 3 (some .int) xh_Z_holiday :: xt_T) xr_h "AbsenceRows" xh_ss xh_ps xk_cl xk_ns xk_tC pZ_holiday gZ_holiday := by
  refine xm_mk_hp (T := xk_T0) (N := 9) (ci := 0) (by decide) xt_good xk_ns_ok xd_Z_holiday rfl (cA_holiday l hl) (idx := 29) (np := 1) (pcx := 2) xe_A_holiday xz_37 ⟨by decide, by decide, by decide +kernel⟩ xz_478 xz_479 xz_480 ⟨Nat.le_of_ble_eq_true rfl, Nat.le_of_ble_eq_true rfl⟩ ⟨rfl, rfl⟩ ⟨rfl, rfl⟩ (by decide +kernel) xk_sA rfl rfl (fun as => (as.drop 1).take 1) (fun as => []) (fun as => lv_args 0 as) ?_ ?_ ?_ ?_ ?_ ?_
  · rintro as M ⟨d, rfl, hpA⟩; exact Nat.le_of_ble_eq_true rfl
  · rintro as M ⟨d, rfl, hpA⟩
    simp only [gZ_holiday]
    cases ftA_holiday [.ref 0, .int d] M with
    | none => exact ⟨_, rfl⟩
    | some E => exact ⟨_, rfl⟩
  · rintro as M ⟨d, rfl, hpA⟩
    refine ⟨100, ?g1_k_2⟩
    exact ⟨rfl, rfl, rfl, rfl, rfl⟩
  · rintro as M ⟨d, rfl, hpA⟩
    exact ⟨hpA, rfl, Nat.le_of_ble_eq_true rfl⟩
  · rintro as M ⟨d, rfl, hpA⟩ hf
    replace hf : ftA_holiday [.ref 0, .int d] M = none := hf
    refine ⟨100, (And.intro (by decide) (And.intro ?g1_w_15 ?g2_r_15))⟩
    case g1_w_15 =>
      rfl
    case g2_r_15 =>
      refine ⟨?_, ?_, Nat.le_of_ble_eq_true rfl⟩
      · simp only [gZ_holiday, hf]; rfl
      · simp only [gZ_holiday, hf]; rfl
  · rintro as M E ⟨d, rfl, hpA⟩ hf
    replace hf : ftA_holiday [.ref 0, .int d] M = some E := hf
    have hg : gZ_holiday [.ref 0, .int d] M = (some (.int (nI (xh_ix ["java/lang/IndexOutOfBoundsException", "java/lang/IllegalStateException"] E))), M) := by
      simp only [gZ_holiday, hf]
    have hE : E = "java/lang/IndexOutOfBoundsException" ∨ E = "java/lang/IllegalStateException" := by
      simp only [ftA_holiday] at hf
      rcases xo_c hf with h | hf
      · exact Or.inl (Option.some.inj h).symm
      rcases xo_c hf with h | hf
      · exact Or.inr ((Option.some.inj h).symm)
      cases hf
    rcases hE with rfl | rfl
    · exact ⟨[], (0, 5, 8, 13), [(0, 5, 11, 23)], 1, rfl, fun _ h => absurd h List.not_mem_nil, by decide, by decide, ⟨"java/lang/IndexOutOfBoundsException", xz_262, xn_16⟩, ⟨2, by decide, Or.inl ⟨⟨2, rfl, by decide +kernel⟩, by decide +kernel, by decide +kernel⟩⟩, hg⟩
    · exact ⟨[(0, 5, 8, 13)], (0, 5, 11, 23), [], 2, rfl, List.forall_mem_cons.mpr ⟨⟨by decide, "java/lang/IndexOutOfBoundsException", xz_262, by decide +kernel⟩, fun _ h => absurd h List.not_mem_nil⟩, by decide, by decide, ⟨"java/lang/IllegalStateException", xz_367, xn_25⟩, ⟨2, by decide, Or.inl ⟨⟨2, rfl, by decide +kernel⟩, by decide +kernel, by decide +kernel⟩⟩, hg⟩
abbrev xb_Z_working : ByteArray := method_7_code
def xy_Z_working : MethodName := ⟨"AbsenceRowsLaw", "working", "(LAbsenceRows;II[J)I"⟩
def xp_Z_working : xm_P := [(0, .aload_n 3, 1, none), (1, .iconst 0, 1, none), (2, .aload_n 0, 1, none), (3, .iload_n 1, 1, none), (4, .iload_n 2, 1, none), (5, .invokevirtual 32, 3, some [0, 1, 2, 3]), (8, .i2l, 1, none), (9, .lastore, 1, none), (10, .goto 7, 3, none), (13, .astore 4, 2, none), (15, .iconst 1, 1, none), (16, .ireturn, 1, none), (17, .iconst 0, 1, none), (18, .ireturn, 1, none)]
theorem xd_Z_working : xm_chb xb_Z_working xp_Z_working = true := by decide +kernel
def xh_Z_working : List (Nat × Nat × Nat × Nat) := [(0, 10, 13, 13)]
def pZ_working (as : List Value) (M : xm_M) : Prop := ∃ f t : Int32, as = [.ref 0, .int f, .int t, .ref 63] ∧ pA_working [.ref 0, .int f, .int t] M
noncomputable def gZ_working (as : List Value) (M : xm_M) : Option Value × xm_M := match as with
  | [_, .int f, .int t, _] => (match ftA_working [.ref 0, .int f, .int t] M with
    | none => (some (.int 0), xm_up (xm_mix 34 (fA_working [.ref 0, .int f, .int t] M).2 M) 63 0 (xm_ri (fA_working [.ref 0, .int f, .int t] M).1))
    | some E => (some (.int (nI (xh_ix ["java/lang/IndexOutOfBoundsException"] E))), M))
  | _ => (some (.int 0), M)
noncomputable abbrev sZ_working : xm_C := (1, 4, 1, pZ_working, gZ_working)
set_option maxRecDepth 20000 in
set_option maxHeartbeats 2000000 in
theorem cZ_working (l : Launch) (hl : l.stackTraces = false) : xm_Hp l xy_Z_working (Cond.codeWith xy_Z_working xb_Z_working 5 (some .int) xh_Z_working :: xt_T) xr_h "AbsenceRows" xh_ss xh_ps xk_cl xk_ns xk_tC pZ_working gZ_working := by
  refine xm_mk_hp (T := xk_T0) (N := 9) (ci := 0) (by decide) xt_good xk_ns_ok xd_Z_working rfl (cA_working l hl) (idx := 32) (np := 2) (pcx := 5) xe_A_working xz_37 ⟨by decide, by decide, by decide +kernel⟩ xz_487 xz_488 xz_489 ⟨Nat.le_of_ble_eq_true rfl, Nat.le_of_ble_eq_true rfl⟩ ⟨rfl, rfl⟩ ⟨rfl, rfl⟩ (by decide +kernel) xk_sA rfl rfl (fun as => (as.drop 1).take 2) (fun as => [.int 0, .ref 63]) (fun as => lv_args 0 as) ?_ ?_ ?_ ?_ ?_ ?_
  · rintro as M ⟨f, t, rfl, hpA⟩; exact Nat.le_of_ble_eq_true rfl
  · rintro as M ⟨f, t, rfl, hpA⟩
    simp only [gZ_working]
    cases ftA_working [.ref 0, .int f, .int t] M with
    | none => exact ⟨_, rfl⟩
    | some E => exact ⟨_, rfl⟩
  · rintro as M ⟨f, t, rfl, hpA⟩
    refine ⟨100, ?g1_k_5⟩
    exact ⟨rfl, rfl, rfl, rfl, rfl⟩
  · rintro as M ⟨f, t, rfl, hpA⟩
    exact ⟨hpA, rfl, Nat.le_of_ble_eq_true rfl⟩
  · rintro as M ⟨f, t, rfl, hpA⟩ hf
    replace hf : ftA_working [.ref 0, .int f, .int t] M = none := hf
    refine ⟨100, (And.intro rfl (And.intro ?g1_i_9 (Exists.intro _ (And.intro rfl (And.intro (by decide) (And.intro ?g2_w_18 ?g3_r_18))))))⟩
    case g1_i_9 =>
      exact vp_in_nI (n := 0) (N := 1) (by decide) (by decide)
    case g2_w_18 =>
      rfl
    case g3_r_18 =>
      refine ⟨?_, ?_, Nat.le_of_ble_eq_true rfl⟩
      · simp only [gZ_working, hf]; rfl
      · simp only [gZ_working, hf]; rfl
  · rintro as M E ⟨f, t, rfl, hpA⟩ hf
    replace hf : ftA_working [.ref 0, .int f, .int t] M = some E := hf
    have hg : gZ_working [.ref 0, .int f, .int t, .ref 63] M = (some (.int (nI (xh_ix ["java/lang/IndexOutOfBoundsException"] E))), M) := by
      simp only [gZ_working, hf]
    have hE : E = "java/lang/IndexOutOfBoundsException" := by
      simp only [ftA_working] at hf
      rcases xo_c hf with h | hf
      · exact (Option.some.inj h).symm
      cases hf
    rcases hE with rfl
    · exact ⟨[], (0, 10, 13, 13), [], 1, rfl, fun _ h => absurd h List.not_mem_nil, by decide, by decide, ⟨"java/lang/IndexOutOfBoundsException", xz_262, xn_16⟩, ⟨4, by decide, Or.inr ⟨by decide +kernel, by decide +kernel, by decide +kernel⟩⟩, hg⟩
abbrev xb_Z_crew : ByteArray := method_8_code
def xy_Z_crew : MethodName := ⟨"AbsenceRowsLaw", "crew", "(LAbsenceRows;II[J)I"⟩
def xp_Z_crew : xm_P := [(0, .aload_n 3, 1, none), (1, .iconst 0, 1, none), (2, .aload_n 0, 1, none), (3, .iload_n 1, 1, none), (4, .iload_n 2, 1, none), (5, .invokevirtual 36, 3, some [0, 1, 2, 3]), (8, .i2l, 1, none), (9, .lastore, 1, none), (10, .goto 11, 3, none), (13, .astore 4, 2, none), (15, .iconst 1, 1, none), (16, .ireturn, 1, none), (17, .astore 4, 2, none), (19, .iconst 2, 1, none), (20, .ireturn, 1, none), (21, .iconst 0, 1, none), (22, .ireturn, 1, none)]
theorem xd_Z_crew : xm_chb xb_Z_crew xp_Z_crew = true := by decide +kernel
def xh_Z_crew : List (Nat × Nat × Nat × Nat) := [(0, 10, 13, 13), (0, 10, 17, 15)]
def pZ_crew (as : List Value) (M : xm_M) : Prop := ∃ s r : Int32, as = [.ref 0, .int s, .int r, .ref 63] ∧ pA_crew [.ref 0, .int s, .int r] M
noncomputable def gZ_crew (as : List Value) (M : xm_M) : Option Value × xm_M := match as with
  | [_, .int s, .int r, _] => (match ftA_crew [.ref 0, .int s, .int r] M with
    | none => (some (.int 0), xm_up (xm_mix 34 (fA_crew [.ref 0, .int s, .int r] M).2 M) 63 0 (xm_ri (fA_crew [.ref 0, .int s, .int r] M).1))
    | some E => (some (.int (nI (xh_ix ["java/lang/IndexOutOfBoundsException", "java/lang/UnsupportedOperationException"] E))), M))
  | _ => (some (.int 0), M)
noncomputable abbrev sZ_crew : xm_C := (1, 4, 1, pZ_crew, gZ_crew)
set_option maxRecDepth 20000 in
set_option maxHeartbeats 2000000 in
theorem cZ_crew (l : Launch) (hl : l.stackTraces = false) : xm_Hp l xy_Z_crew (Cond.codeWith xy_Z_crew xb_Z_crew 5 (some .int) xh_Z_crew :: xt_T) xr_h "AbsenceRows" xh_ss xh_ps xk_cl xk_ns xk_tC pZ_crew gZ_crew := by
  refine xm_mk_hp (T := xk_T0) (N := 9) (ci := 0) (by decide) xt_good xk_ns_ok xd_Z_crew rfl (cA_crew l hl) (idx := 36) (np := 2) (pcx := 5) xe_A_crew xz_37 ⟨by decide, by decide, by decide +kernel⟩ xz_502 xz_503 xz_504 ⟨Nat.le_of_ble_eq_true rfl, Nat.le_of_ble_eq_true rfl⟩ ⟨rfl, rfl⟩ ⟨rfl, rfl⟩ (by decide +kernel) xk_sA rfl rfl (fun as => (as.drop 1).take 2) (fun as => [.int 0, .ref 63]) (fun as => lv_args 0 as) ?_ ?_ ?_ ?_ ?_ ?_
  · rintro as M ⟨s, r, rfl, hpA⟩; exact Nat.le_of_ble_eq_true rfl
  · rintro as M ⟨s, r, rfl, hpA⟩
    simp only [gZ_crew]
    cases ftA_crew [.ref 0, .int s, .int r] M with
    | none => exact ⟨_, rfl⟩
    | some E => exact ⟨_, rfl⟩
  · rintro as M ⟨s, r, rfl, hpA⟩
    refine ⟨100, ?g1_k_5⟩
    exact ⟨rfl, rfl, rfl, rfl, rfl⟩
  · rintro as M ⟨s, r, rfl, hpA⟩
    exact ⟨hpA, rfl, Nat.le_of_ble_eq_true rfl⟩
  · rintro as M ⟨s, r, rfl, hpA⟩ hf
    replace hf : ftA_crew [.ref 0, .int s, .int r] M = none := hf
    refine ⟨100, (And.intro rfl (And.intro ?g1_i_9 (Exists.intro _ (And.intro rfl (And.intro (by decide) (And.intro ?g2_w_22 ?g3_r_22))))))⟩
    case g1_i_9 =>
      exact vp_in_nI (n := 0) (N := 1) (by decide) (by decide)
    case g2_w_22 =>
      rfl
    case g3_r_22 =>
      refine ⟨?_, ?_, Nat.le_of_ble_eq_true rfl⟩
      · simp only [gZ_crew, hf]; rfl
      · simp only [gZ_crew, hf]; rfl
  · rintro as M E ⟨s, r, rfl, hpA⟩ hf
    replace hf : ftA_crew [.ref 0, .int s, .int r] M = some E := hf
    have hg : gZ_crew [.ref 0, .int s, .int r, .ref 63] M = (some (.int (nI (xh_ix ["java/lang/IndexOutOfBoundsException", "java/lang/UnsupportedOperationException"] E))), M) := by
      simp only [gZ_crew, hf]
    have hE : E = "java/lang/IndexOutOfBoundsException" ∨ E = "java/lang/UnsupportedOperationException" := by
      simp only [ftA_crew] at hf
      rcases xo_c hf with h | hf
      · exact Or.inl (Option.some.inj h).symm
      rcases xo_c hf with h | hf
      · exact Or.inr ((Option.some.inj h).symm)
      cases hf
    rcases hE with rfl | rfl
    · exact ⟨[], (0, 10, 13, 13), [(0, 10, 17, 15)], 1, rfl, fun _ h => absurd h List.not_mem_nil, by decide, by decide, ⟨"java/lang/IndexOutOfBoundsException", xz_262, xn_16⟩, ⟨4, by decide, Or.inr ⟨by decide +kernel, by decide +kernel, by decide +kernel⟩⟩, hg⟩
    · exact ⟨[(0, 10, 13, 13)], (0, 10, 17, 15), [], 2, rfl, List.forall_mem_cons.mpr ⟨⟨by decide, "java/lang/IndexOutOfBoundsException", xz_262, by decide +kernel⟩, fun _ h => absurd h List.not_mem_nil⟩, by decide, by decide, ⟨"java/lang/UnsupportedOperationException", xz_263, xn_23⟩, ⟨4, by decide, Or.inr ⟨by decide +kernel, by decide +kernel, by decide +kernel⟩⟩, hg⟩
abbrev xb_Z_member : ByteArray := method_9_code
def xy_Z_member : MethodName := ⟨"AbsenceRowsLaw", "member", "(LAbsenceRows;IIZ[J)I"⟩
def xp_Z_member : xm_P := [(0, .aload 4, 2, none), (2, .iconst 0, 1, none), (3, .aload_n 0, 1, none), (4, .iload_n 1, 1, none), (5, .iload_n 2, 1, none), (6, .iload_n 3, 1, none), (7, .invokevirtual 39, 3, some [0, 1, 2, 3, 4]), (10, .i2l, 1, none), (11, .lastore, 1, none), (12, .goto 11, 3, none), (15, .astore 5, 2, none), (17, .iconst 1, 1, none), (18, .ireturn, 1, none), (19, .astore 5, 2, none), (21, .iconst 2, 1, none), (22, .ireturn, 1, none), (23, .iconst 0, 1, none), (24, .ireturn, 1, none)]
theorem xd_Z_member : xm_chb xb_Z_member xp_Z_member = true := by decide +kernel
def xh_Z_member : List (Nat × Nat × Nat × Nat) := [(0, 12, 15, 21), (0, 12, 19, 23)]
def pZ_member (as : List Value) (M : xm_M) : Prop := ∃ w p b : Int32, as = [.ref 0, .int w, .int p, .int b, .ref 63] ∧ pA_member [.ref 0, .int w, .int p, .int b] M
noncomputable def gZ_member (as : List Value) (M : xm_M) : Option Value × xm_M := match as with
  | [_, .int w, .int p, .int b, _] => (match ftA_member [.ref 0, .int w, .int p, .int b] M with
    | none => (some (.int 0), xm_up (xm_mix 34 (fA_member [.ref 0, .int w, .int p, .int b] M).2 M) 63 0 (xm_ri (fA_member [.ref 0, .int w, .int p, .int b] M).1))
    | some E => (some (.int (nI (xh_ix ["java/lang/IllegalArgumentException", "java/lang/IllegalStateException"] E))), M))
  | _ => (some (.int 0), M)
noncomputable abbrev sZ_member : xm_C := (1, 5, 1, pZ_member, gZ_member)
set_option maxRecDepth 20000 in
set_option maxHeartbeats 2000000 in
theorem cZ_member (l : Launch) (hl : l.stackTraces = false) : xm_Hp l xy_Z_member (Cond.codeWith xy_Z_member xb_Z_member 6 (some .int) xh_Z_member :: xt_T) xr_h "AbsenceRows" xh_ss xh_ps xk_cl xk_ns xk_tC pZ_member gZ_member := by
  refine xm_mk_hp (T := xk_T0) (N := 9) (ci := 0) (by decide) xt_good xk_ns_ok xd_Z_member rfl (cA_member l hl) (idx := 39) (np := 3) (pcx := 7) xe_A_member xz_37 ⟨by decide, by decide, by decide +kernel⟩ xz_515 xz_516 xz_517 ⟨Nat.le_of_ble_eq_true rfl, Nat.le_of_ble_eq_true rfl⟩ ⟨rfl, rfl⟩ ⟨rfl, rfl⟩ (by decide +kernel) xk_sA rfl rfl (fun as => (as.drop 1).take 3) (fun as => [.int 0, .ref 63]) (fun as => lv_args 0 as) ?_ ?_ ?_ ?_ ?_ ?_
  · rintro as M ⟨w, p, b, rfl, hpA⟩; exact Nat.le_of_ble_eq_true rfl
  · rintro as M ⟨w, p, b, rfl, hpA⟩
    simp only [gZ_member]
    cases ftA_member [.ref 0, .int w, .int p, .int b] M with
    | none => exact ⟨_, rfl⟩
    | some E => exact ⟨_, rfl⟩
  · rintro as M ⟨w, p, b, rfl, hpA⟩
    refine ⟨100, ?g1_k_7⟩
    exact ⟨rfl, rfl, rfl, rfl, rfl⟩
  · rintro as M ⟨w, p, b, rfl, hpA⟩
    exact ⟨hpA, rfl, Nat.le_of_ble_eq_true rfl⟩
  · rintro as M ⟨w, p, b, rfl, hpA⟩ hf
    replace hf : ftA_member [.ref 0, .int w, .int p, .int b] M = none := hf
    refine ⟨100, (And.intro rfl (And.intro ?g1_i_11 (Exists.intro _ (And.intro rfl (And.intro (by decide) (And.intro ?g2_w_24 ?g3_r_24))))))⟩
    case g1_i_11 =>
      exact vp_in_nI (n := 0) (N := 1) (by decide) (by decide)
    case g2_w_24 =>
      rfl
    case g3_r_24 =>
      refine ⟨?_, ?_, Nat.le_of_ble_eq_true rfl⟩
      · simp only [gZ_member, hf]; rfl
      · simp only [gZ_member, hf]; rfl
  · rintro as M E ⟨w, p, b, rfl, hpA⟩ hf
    replace hf : ftA_member [.ref 0, .int w, .int p, .int b] M = some E := hf
    have hg : gZ_member [.ref 0, .int w, .int p, .int b, .ref 63] M = (some (.int (nI (xh_ix ["java/lang/IllegalArgumentException", "java/lang/IllegalStateException"] E))), M) := by
      simp only [gZ_member, hf]
    have hE : E = "java/lang/IllegalArgumentException" ∨ E = "java/lang/IllegalStateException" := by
      simp only [ftA_member] at hf
      rcases xo_c hf with h | hf
      · exact Or.inl (Option.some.inj h).symm
      rcases xo_c hf with h | hf
      · exact Or.inr ((Option.some.inj h).symm)
      cases hf
    rcases hE with rfl | rfl
    · exact ⟨[], (0, 12, 15, 21), [(0, 12, 19, 23)], 1, rfl, fun _ h => absurd h List.not_mem_nil, by decide, by decide, ⟨"java/lang/IllegalArgumentException", xz_366, xn_24⟩, ⟨5, by decide, Or.inr ⟨by decide +kernel, by decide +kernel, by decide +kernel⟩⟩, hg⟩
    · exact ⟨[(0, 12, 15, 21)], (0, 12, 19, 23), [], 2, rfl, List.forall_mem_cons.mpr ⟨⟨by decide, "java/lang/IllegalArgumentException", xz_366, by decide +kernel⟩, fun _ h => absurd h List.not_mem_nil⟩, by decide, by decide, ⟨"java/lang/IllegalStateException", xz_367, xn_25⟩, ⟨5, by decide, Or.inr ⟨by decide +kernel, by decide +kernel, by decide +kernel⟩⟩, hg⟩
abbrev xb_Z_ask : ByteArray := method_10_code
def xy_Z_ask : MethodName := ⟨"AbsenceRowsLaw", "ask", "(LAbsenceRows;IIIII[J)I"⟩
def xp_Z_ask : xm_P := [(0, .aload 6, 2, none), (2, .iconst 0, 1, none), (3, .aload_n 0, 1, none), (4, .iload_n 1, 1, none), (5, .iload_n 2, 1, none), (6, .iload_n 3, 1, none), (7, .iload 4, 2, none), (9, .iload 5, 2, none), (11, .invokevirtual 43, 3, some [0, 1, 2, 3, 4, 5, 6]), (14, .i2l, 1, none), (15, .lastore, 1, none), (16, .goto 19, 3, none), (19, .astore 7, 2, none), (21, .iconst 1, 1, none), (22, .ireturn, 1, none), (23, .astore 7, 2, none), (25, .iconst 2, 1, none), (26, .ireturn, 1, none), (27, .astore 7, 2, none), (29, .iconst 3, 1, none), (30, .ireturn, 1, none), (31, .astore 7, 2, none), (33, .iconst 4, 1, none), (34, .ireturn, 1, none), (35, .iconst 0, 1, none), (36, .ireturn, 1, none)]
theorem xd_Z_ask : xm_chb xb_Z_ask xp_Z_ask = true := by decide +kernel
def xh_Z_ask : List (Nat × Nat × Nat × Nat) := [(0, 16, 19, 21), (0, 16, 23, 13), (0, 16, 27, 23), (0, 16, 31, 15)]
def pZ_ask (as : List Value) (M : xm_M) : Prop := ∃ p k f t h : Int32, as = [.ref 0, .int p, .int k, .int f, .int t, .int h, .ref 63] ∧ pA_ask [.ref 0, .int p, .int k, .int f, .int t, .int h] M
noncomputable def gZ_ask (as : List Value) (M : xm_M) : Option Value × xm_M := match as with
  | [_, .int p, .int k, .int f, .int t, .int h, _] => (match ftA_ask [.ref 0, .int p, .int k, .int f, .int t, .int h] M with
    | none => (some (.int 0), xm_up (xm_mix 34 (fA_ask [.ref 0, .int p, .int k, .int f, .int t, .int h] M).2 M) 63 0 (xm_ri (fA_ask [.ref 0, .int p, .int k, .int f, .int t, .int h] M).1))
    | some E => (some (.int (nI (xh_ix ["java/lang/IllegalArgumentException", "java/lang/IndexOutOfBoundsException", "java/lang/IllegalStateException", "java/lang/UnsupportedOperationException"] E))), M))
  | _ => (some (.int 0), M)
noncomputable abbrev sZ_ask : xm_C := (1, 7, 1, pZ_ask, gZ_ask)
set_option maxRecDepth 20000 in
set_option maxHeartbeats 2000000 in
theorem cZ_ask (l : Launch) (hl : l.stackTraces = false) : xm_Hp l xy_Z_ask (Cond.codeWith xy_Z_ask xb_Z_ask 8 (some .int) xh_Z_ask :: xt_T) xr_h "AbsenceRows" xh_ss xh_ps xk_cl xk_ns xk_tC pZ_ask gZ_ask := by
  refine xm_mk_hp (T := xk_T0) (N := 9) (ci := 0) (by decide) xt_good xk_ns_ok xd_Z_ask rfl (cA_ask l hl) (idx := 43) (np := 5) (pcx := 11) xe_A_ask xz_37 ⟨by decide, by decide, by decide +kernel⟩ xz_541 xz_542 xz_543 ⟨Nat.le_of_ble_eq_true rfl, Nat.le_of_ble_eq_true rfl⟩ ⟨rfl, rfl⟩ ⟨rfl, rfl⟩ (by decide +kernel) xk_sA rfl rfl (fun as => (as.drop 1).take 5) (fun as => [.int 0, .ref 63]) (fun as => lv_args 0 as) ?_ ?_ ?_ ?_ ?_ ?_
  · rintro as M ⟨p, k, f, t, h, rfl, hpA⟩; exact Nat.le_of_ble_eq_true rfl
  · rintro as M ⟨p, k, f, t, h, rfl, hpA⟩
    simp only [gZ_ask]
    cases ftA_ask [.ref 0, .int p, .int k, .int f, .int t, .int h] M with
    | none => exact ⟨_, rfl⟩
    | some E => exact ⟨_, rfl⟩
  · rintro as M ⟨p, k, f, t, h, rfl, hpA⟩
    refine ⟨100, ?g1_k_11⟩
    exact ⟨rfl, rfl, rfl, rfl, rfl⟩
  · rintro as M ⟨p, k, f, t, h, rfl, hpA⟩
    exact ⟨hpA, rfl, Nat.le_of_ble_eq_true rfl⟩
  · rintro as M ⟨p, k, f, t, h, rfl, hpA⟩ hf
    replace hf : ftA_ask [.ref 0, .int p, .int k, .int f, .int t, .int h] M = none := hf
    refine ⟨100, (And.intro rfl (And.intro ?g1_i_15 (Exists.intro _ (And.intro rfl (And.intro (by decide) (And.intro ?g2_w_36 ?g3_r_36))))))⟩
    case g1_i_15 =>
      exact vp_in_nI (n := 0) (N := 1) (by decide) (by decide)
    case g2_w_36 =>
      rfl
    case g3_r_36 =>
      refine ⟨?_, ?_, Nat.le_of_ble_eq_true rfl⟩
      · simp only [gZ_ask, hf]; rfl
      · simp only [gZ_ask, hf]; rfl
  · rintro as M E ⟨p, k, f, t, h, rfl, hpA⟩ hf
    replace hf : ftA_ask [.ref 0, .int p, .int k, .int f, .int t, .int h] M = some E := hf
    have hg : gZ_ask [.ref 0, .int p, .int k, .int f, .int t, .int h, .ref 63] M = (some (.int (nI (xh_ix ["java/lang/IllegalArgumentException", "java/lang/IndexOutOfBoundsException", "java/lang/IllegalStateException", "java/lang/UnsupportedOperationException"] E))), M) := by
      simp only [gZ_ask, hf]
    have hE : E = "java/lang/IllegalArgumentException" ∨ E = "java/lang/IndexOutOfBoundsException" ∨ E = "java/lang/IllegalStateException" ∨ E = "java/lang/IllegalStateException" ∨ E = "java/lang/UnsupportedOperationException" := by
      simp only [ftA_ask] at hf
      rcases xo_c hf with h | hf
      · exact Or.inl (Option.some.inj h).symm
      rcases xo_c hf with h | hf
      · exact Or.inr (Or.inl (Option.some.inj h).symm)
      rcases xo_c hf with h | hf
      · exact Or.inr (Or.inr (Or.inl (Option.some.inj h).symm))
      rcases xo_c hf with h | hf
      · exact Or.inr (Or.inr (Or.inr (Or.inl (Option.some.inj h).symm)))
      rcases xo_c hf with h | hf
      · exact Or.inr (Or.inr (Or.inr (Or.inr ((Option.some.inj h).symm))))
      cases hf
    rcases hE with rfl | rfl | rfl | rfl | rfl
    · exact ⟨[], (0, 16, 19, 21), [(0, 16, 23, 13), (0, 16, 27, 23), (0, 16, 31, 15)], 1, rfl, fun _ h => absurd h List.not_mem_nil, by decide, by decide, ⟨"java/lang/IllegalArgumentException", xz_366, xn_24⟩, ⟨7, by decide, Or.inr ⟨by decide +kernel, by decide +kernel, by decide +kernel⟩⟩, hg⟩
    · exact ⟨[(0, 16, 19, 21)], (0, 16, 23, 13), [(0, 16, 27, 23), (0, 16, 31, 15)], 2, rfl, List.forall_mem_cons.mpr ⟨⟨by decide, "java/lang/IllegalArgumentException", xz_366, by decide +kernel⟩, fun _ h => absurd h List.not_mem_nil⟩, by decide, by decide, ⟨"java/lang/IndexOutOfBoundsException", xz_262, xn_16⟩, ⟨7, by decide, Or.inr ⟨by decide +kernel, by decide +kernel, by decide +kernel⟩⟩, hg⟩
    · exact ⟨[(0, 16, 19, 21), (0, 16, 23, 13)], (0, 16, 27, 23), [(0, 16, 31, 15)], 3, rfl, List.forall_mem_cons.mpr ⟨⟨by decide, "java/lang/IllegalArgumentException", xz_366, by decide +kernel⟩, List.forall_mem_cons.mpr ⟨⟨by decide, "java/lang/IndexOutOfBoundsException", xz_262, by decide +kernel⟩, fun _ h => absurd h List.not_mem_nil⟩⟩, by decide, by decide, ⟨"java/lang/IllegalStateException", xz_367, xn_25⟩, ⟨7, by decide, Or.inr ⟨by decide +kernel, by decide +kernel, by decide +kernel⟩⟩, hg⟩
    · exact ⟨[(0, 16, 19, 21), (0, 16, 23, 13)], (0, 16, 27, 23), [(0, 16, 31, 15)], 3, rfl, List.forall_mem_cons.mpr ⟨⟨by decide, "java/lang/IllegalArgumentException", xz_366, by decide +kernel⟩, List.forall_mem_cons.mpr ⟨⟨by decide, "java/lang/IndexOutOfBoundsException", xz_262, by decide +kernel⟩, fun _ h => absurd h List.not_mem_nil⟩⟩, by decide, by decide, ⟨"java/lang/IllegalStateException", xz_367, xn_25⟩, ⟨7, by decide, Or.inr ⟨by decide +kernel, by decide +kernel, by decide +kernel⟩⟩, hg⟩
    · exact ⟨[(0, 16, 19, 21), (0, 16, 23, 13), (0, 16, 27, 23)], (0, 16, 31, 15), [], 4, rfl, List.forall_mem_cons.mpr ⟨⟨by decide, "java/lang/IllegalArgumentException", xz_366, by decide +kernel⟩, List.forall_mem_cons.mpr ⟨⟨by decide, "java/lang/IndexOutOfBoundsException", xz_262, by decide +kernel⟩, List.forall_mem_cons.mpr ⟨⟨by decide, "java/lang/IllegalStateException", xz_367, by decide +kernel⟩, fun _ h => absurd h List.not_mem_nil⟩⟩⟩, by decide, by decide, ⟨"java/lang/UnsupportedOperationException", xz_263, xn_23⟩, ⟨7, by decide, Or.inr ⟨by decide +kernel, by decide +kernel, by decide +kernel⟩⟩, hg⟩
abbrev xb_Z_grant : ByteArray := method_11_code
def xy_Z_grant : MethodName := ⟨"AbsenceRowsLaw", "grant", "(LAbsenceRows;II[J)I"⟩
def xp_Z_grant : xm_P := [(0, .aload_n 3, 1, none), (1, .iconst 0, 1, none), (2, .aload_n 0, 1, none), (3, .iload_n 1, 1, none), (4, .iload_n 2, 1, none), (5, .invokevirtual 47, 3, some [0, 1, 2, 3]), (8, .i2l, 1, none), (9, .lastore, 1, none), (10, .goto 11, 3, none), (13, .astore 4, 2, none), (15, .iconst 1, 1, none), (16, .ireturn, 1, none), (17, .astore 4, 2, none), (19, .iconst 2, 1, none), (20, .ireturn, 1, none), (21, .iconst 0, 1, none), (22, .ireturn, 1, none)]
theorem xd_Z_grant : xm_chb xb_Z_grant xp_Z_grant = true := by decide +kernel
def xh_Z_grant : List (Nat × Nat × Nat × Nat) := [(0, 10, 13, 21), (0, 10, 17, 23)]
def pZ_grant (as : List Value) (M : xm_M) : Prop := ∃ a p : Int32, as = [.ref 0, .int a, .int p, .ref 63] ∧ pA_grant [.ref 0, .int a, .int p] M
noncomputable def gZ_grant (as : List Value) (M : xm_M) : Option Value × xm_M := match as with
  | [_, .int a, .int p, _] => (match ftA_grant [.ref 0, .int a, .int p] M with
    | none => (some (.int 0), xm_up (xm_mix 34 (fA_grant [.ref 0, .int a, .int p] M).2 M) 63 0 (xm_ri (fA_grant [.ref 0, .int a, .int p] M).1))
    | some E => (some (.int (nI (xh_ix ["java/lang/IllegalArgumentException", "java/lang/IllegalStateException"] E))), M))
  | _ => (some (.int 0), M)
noncomputable abbrev sZ_grant : xm_C := (1, 4, 1, pZ_grant, gZ_grant)
set_option maxRecDepth 20000 in
set_option maxHeartbeats 2000000 in
theorem cZ_grant (l : Launch) (hl : l.stackTraces = false) : xm_Hp l xy_Z_grant (Cond.codeWith xy_Z_grant xb_Z_grant 5 (some .int) xh_Z_grant :: xt_T) xr_h "AbsenceRows" xh_ss xh_ps xk_cl xk_ns xk_tC pZ_grant gZ_grant := by
  refine xm_mk_hp (T := xk_T0) (N := 9) (ci := 0) (by decide) xt_good xk_ns_ok xd_Z_grant rfl (cA_grant l hl) (idx := 47) (np := 2) (pcx := 5) xe_A_grant xz_37 ⟨by decide, by decide, by decide +kernel⟩ xz_568 xz_569 xz_570 ⟨Nat.le_of_ble_eq_true rfl, Nat.le_of_ble_eq_true rfl⟩ ⟨rfl, rfl⟩ ⟨rfl, rfl⟩ (by decide +kernel) xk_sA rfl rfl (fun as => (as.drop 1).take 2) (fun as => [.int 0, .ref 63]) (fun as => lv_args 0 as) ?_ ?_ ?_ ?_ ?_ ?_
  · rintro as M ⟨a, p, rfl, hpA⟩; exact Nat.le_of_ble_eq_true rfl
  · rintro as M ⟨a, p, rfl, hpA⟩
    simp only [gZ_grant]
    cases ftA_grant [.ref 0, .int a, .int p] M with
    | none => exact ⟨_, rfl⟩
    | some E => exact ⟨_, rfl⟩
  · rintro as M ⟨a, p, rfl, hpA⟩
    refine ⟨100, ?g1_k_5⟩
    exact ⟨rfl, rfl, rfl, rfl, rfl⟩
  · rintro as M ⟨a, p, rfl, hpA⟩
    exact ⟨hpA, rfl, Nat.le_of_ble_eq_true rfl⟩
  · rintro as M ⟨a, p, rfl, hpA⟩ hf
    replace hf : ftA_grant [.ref 0, .int a, .int p] M = none := hf
    refine ⟨100, (And.intro rfl (And.intro ?g1_i_9 (Exists.intro _ (And.intro rfl (And.intro (by decide) (And.intro ?g2_w_22 ?g3_r_22))))))⟩
    case g1_i_9 =>
      exact vp_in_nI (n := 0) (N := 1) (by decide) (by decide)
    case g2_w_22 =>
      rfl
    case g3_r_22 =>
      refine ⟨?_, ?_, Nat.le_of_ble_eq_true rfl⟩
      · simp only [gZ_grant, hf]; rfl
      · simp only [gZ_grant, hf]; rfl
  · rintro as M E ⟨a, p, rfl, hpA⟩ hf
    replace hf : ftA_grant [.ref 0, .int a, .int p] M = some E := hf
    have hg : gZ_grant [.ref 0, .int a, .int p, .ref 63] M = (some (.int (nI (xh_ix ["java/lang/IllegalArgumentException", "java/lang/IllegalStateException"] E))), M) := by
      simp only [gZ_grant, hf]
    have hE : E = "java/lang/IllegalArgumentException" ∨ E = "java/lang/IllegalStateException" := by
      simp only [ftA_grant] at hf
      rcases xo_c hf with h | hf
      · exact Or.inl (Option.some.inj h).symm
      rcases xo_c hf with h | hf
      · exact Or.inr ((Option.some.inj h).symm)
      cases hf
    rcases hE with rfl | rfl
    · exact ⟨[], (0, 10, 13, 21), [(0, 10, 17, 23)], 1, rfl, fun _ h => absurd h List.not_mem_nil, by decide, by decide, ⟨"java/lang/IllegalArgumentException", xz_366, xn_24⟩, ⟨4, by decide, Or.inr ⟨by decide +kernel, by decide +kernel, by decide +kernel⟩⟩, hg⟩
    · exact ⟨[(0, 10, 13, 21)], (0, 10, 17, 23), [], 2, rfl, List.forall_mem_cons.mpr ⟨⟨by decide, "java/lang/IllegalArgumentException", xz_366, by decide +kernel⟩, fun _ h => absurd h List.not_mem_nil⟩, by decide, by decide, ⟨"java/lang/IllegalStateException", xz_367, xn_25⟩, ⟨4, by decide, Or.inr ⟨by decide +kernel, by decide +kernel, by decide +kernel⟩⟩, hg⟩
abbrev xb_Z_withdraw : ByteArray := method_12_code
def xy_Z_withdraw : MethodName := ⟨"AbsenceRowsLaw", "withdraw", "(LAbsenceRows;I[J)I"⟩
def xp_Z_withdraw : xm_P := [(0, .aload_n 2, 1, none), (1, .iconst 0, 1, none), (2, .aload_n 0, 1, none), (3, .iload_n 1, 1, none), (4, .invokevirtual 50, 3, some [0, 1, 2]), (7, .i2l, 1, none), (8, .lastore, 1, none), (9, .goto 9, 3, none), (12, .astore_n 3, 1, none), (13, .iconst 1, 1, none), (14, .ireturn, 1, none), (15, .astore_n 3, 1, none), (16, .iconst 2, 1, none), (17, .ireturn, 1, none), (18, .iconst 0, 1, none), (19, .ireturn, 1, none)]
theorem xd_Z_withdraw : xm_chb xb_Z_withdraw xp_Z_withdraw = true := by decide +kernel
def xh_Z_withdraw : List (Nat × Nat × Nat × Nat) := [(0, 9, 12, 21), (0, 9, 15, 23)]
def pZ_withdraw (as : List Value) (M : xm_M) : Prop := ∃ a : Int32, as = [.ref 0, .int a, .ref 63] ∧ pA_withdraw [.ref 0, .int a] M
noncomputable def gZ_withdraw (as : List Value) (M : xm_M) : Option Value × xm_M := match as with
  | [_, .int a, _] => (match ftA_withdraw [.ref 0, .int a] M with
    | none => (some (.int 0), xm_up (xm_mix 34 (fA_withdraw [.ref 0, .int a] M).2 M) 63 0 (xm_ri (fA_withdraw [.ref 0, .int a] M).1))
    | some E => (some (.int (nI (xh_ix ["java/lang/IllegalArgumentException", "java/lang/IllegalStateException"] E))), M))
  | _ => (some (.int 0), M)
noncomputable abbrev sZ_withdraw : xm_C := (1, 3, 1, pZ_withdraw, gZ_withdraw)
set_option maxRecDepth 20000 in
set_option maxHeartbeats 2000000 in
theorem cZ_withdraw (l : Launch) (hl : l.stackTraces = false) : xm_Hp l xy_Z_withdraw (Cond.codeWith xy_Z_withdraw xb_Z_withdraw 4 (some .int) xh_Z_withdraw :: xt_T) xr_h "AbsenceRows" xh_ss xh_ps xk_cl xk_ns xk_tC pZ_withdraw gZ_withdraw := by
  refine xm_mk_hp (T := xk_T0) (N := 9) (ci := 0) (by decide) xt_good xk_ns_ok xd_Z_withdraw rfl (cA_withdraw l hl) (idx := 50) (np := 1) (pcx := 4) xe_A_withdraw xz_37 ⟨by decide, by decide, by decide +kernel⟩ xz_636 xz_637 xz_638 ⟨Nat.le_of_ble_eq_true rfl, Nat.le_of_ble_eq_true rfl⟩ ⟨rfl, rfl⟩ ⟨rfl, rfl⟩ (by decide +kernel) xk_sA rfl rfl (fun as => (as.drop 1).take 1) (fun as => [.int 0, .ref 63]) (fun as => lv_args 0 as) ?_ ?_ ?_ ?_ ?_ ?_
  · rintro as M ⟨a, rfl, hpA⟩; exact Nat.le_of_ble_eq_true rfl
  · rintro as M ⟨a, rfl, hpA⟩
    simp only [gZ_withdraw]
    cases ftA_withdraw [.ref 0, .int a] M with
    | none => exact ⟨_, rfl⟩
    | some E => exact ⟨_, rfl⟩
  · rintro as M ⟨a, rfl, hpA⟩
    refine ⟨100, ?g1_k_4⟩
    exact ⟨rfl, rfl, rfl, rfl, rfl⟩
  · rintro as M ⟨a, rfl, hpA⟩
    exact ⟨hpA, rfl, Nat.le_of_ble_eq_true rfl⟩
  · rintro as M ⟨a, rfl, hpA⟩ hf
    replace hf : ftA_withdraw [.ref 0, .int a] M = none := hf
    refine ⟨100, (And.intro rfl (And.intro ?g1_i_8 (Exists.intro _ (And.intro rfl (And.intro (by decide) (And.intro ?g2_w_19 ?g3_r_19))))))⟩
    case g1_i_8 =>
      exact vp_in_nI (n := 0) (N := 1) (by decide) (by decide)
    case g2_w_19 =>
      rfl
    case g3_r_19 =>
      refine ⟨?_, ?_, Nat.le_of_ble_eq_true rfl⟩
      · simp only [gZ_withdraw, hf]; rfl
      · simp only [gZ_withdraw, hf]; rfl
  · rintro as M E ⟨a, rfl, hpA⟩ hf
    replace hf : ftA_withdraw [.ref 0, .int a] M = some E := hf
    have hg : gZ_withdraw [.ref 0, .int a, .ref 63] M = (some (.int (nI (xh_ix ["java/lang/IllegalArgumentException", "java/lang/IllegalStateException"] E))), M) := by
      simp only [gZ_withdraw, hf]
    have hE : E = "java/lang/IllegalArgumentException" ∨ E = "java/lang/IllegalStateException" := by
      simp only [ftA_withdraw] at hf
      rcases xo_c hf with h | hf
      · exact Or.inl (Option.some.inj h).symm
      rcases xo_c hf with h | hf
      · exact Or.inr ((Option.some.inj h).symm)
      cases hf
    rcases hE with rfl | rfl
    · exact ⟨[], (0, 9, 12, 21), [(0, 9, 15, 23)], 1, rfl, fun _ h => absurd h List.not_mem_nil, by decide, by decide, ⟨"java/lang/IllegalArgumentException", xz_366, xn_24⟩, ⟨3, by decide, Or.inl ⟨⟨3, rfl, by decide +kernel⟩, by decide +kernel, by decide +kernel⟩⟩, hg⟩
    · exact ⟨[(0, 9, 12, 21)], (0, 9, 15, 23), [], 2, rfl, List.forall_mem_cons.mpr ⟨⟨by decide, "java/lang/IllegalArgumentException", xz_366, by decide +kernel⟩, fun _ h => absurd h List.not_mem_nil⟩, by decide, by decide, ⟨"java/lang/IllegalStateException", xz_367, xn_25⟩, ⟨3, by decide, Or.inl ⟨⟨3, rfl, by decide +kernel⟩, by decide +kernel, by decide +kernel⟩⟩, hg⟩
abbrev xb_Z_askAt : ByteArray := method_13_code
def xy_Z_askAt : MethodName := ⟨"AbsenceRowsLaw", "askAt", "(LAbsenceRows;II[J)I"⟩
def xp_Z_askAt : xm_P := [(0, .aload_n 3, 1, none), (1, .iconst 0, 1, none), (2, .aload_n 0, 1, none), (3, .iload_n 1, 1, none), (4, .iload_n 2, 1, none), (5, .invokevirtual 54, 3, some [0, 1, 2, 3]), (8, .i2l, 1, none), (9, .lastore, 1, none), (10, .goto 7, 3, none), (13, .astore 4, 2, none), (15, .iconst 1, 1, none), (16, .ireturn, 1, none), (17, .iconst 0, 1, none), (18, .ireturn, 1, none)]
theorem xd_Z_askAt : xm_chb xb_Z_askAt xp_Z_askAt = true := by decide +kernel
def xh_Z_askAt : List (Nat × Nat × Nat × Nat) := [(0, 10, 13, 21)]
def pZ_askAt (as : List Value) (M : xm_M) : Prop := ∃ a x : Int32, as = [.ref 0, .int a, .int x, .ref 63] ∧ pA_askAt [.ref 0, .int a, .int x] M
noncomputable def gZ_askAt (as : List Value) (M : xm_M) : Option Value × xm_M := match as with
  | [_, .int a, .int x, _] => (match ftA_askAt [.ref 0, .int a, .int x] M with
    | none => (some (.int 0), xm_up (xm_mix 34 (fA_askAt [.ref 0, .int a, .int x] M).2 M) 63 0 (xm_ri (fA_askAt [.ref 0, .int a, .int x] M).1))
    | some E => (some (.int (nI (xh_ix ["java/lang/IllegalArgumentException"] E))), M))
  | _ => (some (.int 0), M)
noncomputable abbrev sZ_askAt : xm_C := (1, 4, 1, pZ_askAt, gZ_askAt)
set_option maxRecDepth 20000 in
set_option maxHeartbeats 2000000 in
theorem cZ_askAt (l : Launch) (hl : l.stackTraces = false) : xm_Hp l xy_Z_askAt (Cond.codeWith xy_Z_askAt xb_Z_askAt 5 (some .int) xh_Z_askAt :: xt_T) xr_h "AbsenceRows" xh_ss xh_ps xk_cl xk_ns xk_tC pZ_askAt gZ_askAt := by
  refine xm_mk_hp (T := xk_T0) (N := 9) (ci := 0) (by decide) xt_good xk_ns_ok xd_Z_askAt rfl (cA_askAt l hl) (idx := 54) (np := 2) (pcx := 5) xe_A_askAt xz_37 ⟨by decide, by decide, by decide +kernel⟩ xz_645 xz_646 xz_647 ⟨Nat.le_of_ble_eq_true rfl, Nat.le_of_ble_eq_true rfl⟩ ⟨rfl, rfl⟩ ⟨rfl, rfl⟩ (by decide +kernel) xk_sA rfl rfl (fun as => (as.drop 1).take 2) (fun as => [.int 0, .ref 63]) (fun as => lv_args 0 as) ?_ ?_ ?_ ?_ ?_ ?_
  · rintro as M ⟨a, x, rfl, hpA⟩; exact Nat.le_of_ble_eq_true rfl
  · rintro as M ⟨a, x, rfl, hpA⟩
    simp only [gZ_askAt]
    cases ftA_askAt [.ref 0, .int a, .int x] M with
    | none => exact ⟨_, rfl⟩
    | some E => exact ⟨_, rfl⟩
  · rintro as M ⟨a, x, rfl, hpA⟩
    refine ⟨100, ?g1_k_5⟩
    exact ⟨rfl, rfl, rfl, rfl, rfl⟩
  · rintro as M ⟨a, x, rfl, hpA⟩
    exact ⟨hpA, rfl, Nat.le_of_ble_eq_true rfl⟩
  · rintro as M ⟨a, x, rfl, hpA⟩ hf
    replace hf : ftA_askAt [.ref 0, .int a, .int x] M = none := hf
    refine ⟨100, (And.intro rfl (And.intro ?g1_i_9 (Exists.intro _ (And.intro rfl (And.intro (by decide) (And.intro ?g2_w_18 ?g3_r_18))))))⟩
    case g1_i_9 =>
      exact vp_in_nI (n := 0) (N := 1) (by decide) (by decide)
    case g2_w_18 =>
      rfl
    case g3_r_18 =>
      refine ⟨?_, ?_, Nat.le_of_ble_eq_true rfl⟩
      · simp only [gZ_askAt, hf]; rfl
      · simp only [gZ_askAt, hf]; rfl
  · rintro as M E ⟨a, x, rfl, hpA⟩ hf
    replace hf : ftA_askAt [.ref 0, .int a, .int x] M = some E := hf
    have hg : gZ_askAt [.ref 0, .int a, .int x, .ref 63] M = (some (.int (nI (xh_ix ["java/lang/IllegalArgumentException"] E))), M) := by
      simp only [gZ_askAt, hf]
    have hE : E = "java/lang/IllegalArgumentException" ∨ E = "java/lang/IllegalArgumentException" := by
      simp only [ftA_askAt] at hf
      rcases xo_c hf with h | hf
      · exact Or.inl (Option.some.inj h).symm
      rcases xo_c hf with h | hf
      · exact Or.inr ((Option.some.inj h).symm)
      cases hf
    rcases hE with rfl | rfl
    · exact ⟨[], (0, 10, 13, 21), [], 1, rfl, fun _ h => absurd h List.not_mem_nil, by decide, by decide, ⟨"java/lang/IllegalArgumentException", xz_366, xn_24⟩, ⟨4, by decide, Or.inr ⟨by decide +kernel, by decide +kernel, by decide +kernel⟩⟩, hg⟩
    · exact ⟨[], (0, 10, 13, 21), [], 1, rfl, fun _ h => absurd h List.not_mem_nil, by decide, by decide, ⟨"java/lang/IllegalArgumentException", xz_366, xn_24⟩, ⟨4, by decide, Or.inr ⟨by decide +kernel, by decide +kernel, by decide +kernel⟩⟩, hg⟩
abbrev xb_Z_left : ByteArray := method_14_code
def xy_Z_left : MethodName := ⟨"AbsenceRowsLaw", "left", "(LAbsenceRows;III[J)I"⟩
def xp_Z_left : xm_P := [(0, .aload 4, 2, none), (2, .iconst 0, 1, none), (3, .aload_n 0, 1, none), (4, .iload_n 1, 1, none), (5, .iload_n 2, 1, none), (6, .iload_n 3, 1, none), (7, .invokevirtual 57, 3, some [0, 1, 2, 3, 4]), (10, .i2l, 1, none), (11, .lastore, 1, none), (12, .goto 7, 3, none), (15, .astore 5, 2, none), (17, .iconst 1, 1, none), (18, .ireturn, 1, none), (19, .iconst 0, 1, none), (20, .ireturn, 1, none)]
theorem xd_Z_left : xm_chb xb_Z_left xp_Z_left = true := by decide +kernel
def xh_Z_left : List (Nat × Nat × Nat × Nat) := [(0, 12, 15, 21)]
def pZ_left (as : List Value) (M : xm_M) : Prop := ∃ p y x : Int32, as = [.ref 0, .int p, .int y, .int x, .ref 63] ∧ pA_left [.ref 0, .int p, .int y, .int x] M
noncomputable def gZ_left (as : List Value) (M : xm_M) : Option Value × xm_M := match as with
  | [_, .int p, .int y, .int x, _] => (match ftA_left [.ref 0, .int p, .int y, .int x] M with
    | none => (some (.int 0), xm_up (xm_mix 34 (fA_left [.ref 0, .int p, .int y, .int x] M).2 M) 63 0 (xm_ri (fA_left [.ref 0, .int p, .int y, .int x] M).1))
    | some E => (some (.int (nI (xh_ix ["java/lang/IllegalArgumentException"] E))), M))
  | _ => (some (.int 0), M)
noncomputable abbrev sZ_left : xm_C := (1, 5, 1, pZ_left, gZ_left)
set_option maxRecDepth 20000 in
set_option maxHeartbeats 2000000 in
theorem cZ_left (l : Launch) (hl : l.stackTraces = false) : xm_Hp l xy_Z_left (Cond.codeWith xy_Z_left xb_Z_left 6 (some .int) xh_Z_left :: xt_T) xr_h "AbsenceRows" xh_ss xh_ps xk_cl xk_ns xk_tC pZ_left gZ_left := by
  refine xm_mk_hp (T := xk_T0) (N := 9) (ci := 0) (by decide) xt_good xk_ns_ok xd_Z_left rfl (cA_left l hl) (idx := 57) (np := 3) (pcx := 7) xe_A_left xz_37 ⟨by decide, by decide, by decide +kernel⟩ xz_653 xz_654 xz_655 ⟨Nat.le_of_ble_eq_true rfl, Nat.le_of_ble_eq_true rfl⟩ ⟨rfl, rfl⟩ ⟨rfl, rfl⟩ (by decide +kernel) xk_sA rfl rfl (fun as => (as.drop 1).take 3) (fun as => [.int 0, .ref 63]) (fun as => lv_args 0 as) ?_ ?_ ?_ ?_ ?_ ?_
  · rintro as M ⟨p, y, x, rfl, hpA⟩; exact Nat.le_of_ble_eq_true rfl
  · rintro as M ⟨p, y, x, rfl, hpA⟩
    simp only [gZ_left]
    cases ftA_left [.ref 0, .int p, .int y, .int x] M with
    | none => exact ⟨_, rfl⟩
    | some E => exact ⟨_, rfl⟩
  · rintro as M ⟨p, y, x, rfl, hpA⟩
    refine ⟨100, ?g1_k_7⟩
    exact ⟨rfl, rfl, rfl, rfl, rfl⟩
  · rintro as M ⟨p, y, x, rfl, hpA⟩
    exact ⟨hpA, rfl, Nat.le_of_ble_eq_true rfl⟩
  · rintro as M ⟨p, y, x, rfl, hpA⟩ hf
    replace hf : ftA_left [.ref 0, .int p, .int y, .int x] M = none := hf
    refine ⟨100, (And.intro rfl (And.intro ?g1_i_11 (Exists.intro _ (And.intro rfl (And.intro (by decide) (And.intro ?g2_w_20 ?g3_r_20))))))⟩
    case g1_i_11 =>
      exact vp_in_nI (n := 0) (N := 1) (by decide) (by decide)
    case g2_w_20 =>
      rfl
    case g3_r_20 =>
      refine ⟨?_, ?_, Nat.le_of_ble_eq_true rfl⟩
      · simp only [gZ_left, hf]; rfl
      · simp only [gZ_left, hf]; rfl
  · rintro as M E ⟨p, y, x, rfl, hpA⟩ hf
    replace hf : ftA_left [.ref 0, .int p, .int y, .int x] M = some E := hf
    have hg : gZ_left [.ref 0, .int p, .int y, .int x, .ref 63] M = (some (.int (nI (xh_ix ["java/lang/IllegalArgumentException"] E))), M) := by
      simp only [gZ_left, hf]
    have hE : E = "java/lang/IllegalArgumentException" := by
      simp only [ftA_left] at hf
      rcases xo_c hf with h | hf
      · exact (Option.some.inj h).symm
      cases hf
    rcases hE with rfl
    · exact ⟨[], (0, 12, 15, 21), [], 1, rfl, fun _ h => absurd h List.not_mem_nil, by decide, by decide, ⟨"java/lang/IllegalArgumentException", xz_366, xn_24⟩, ⟨5, by decide, Or.inr ⟨by decide +kernel, by decide +kernel, by decide +kernel⟩⟩, hg⟩
abbrev xb_Z_absent : ByteArray := method_15_code
def xy_Z_absent : MethodName := ⟨"AbsenceRowsLaw", "absent", "(LAbsenceRows;II[J)I"⟩
def xp_Z_absent : xm_P := [(0, .aload_n 3, 1, none), (1, .iconst 0, 1, none), (2, .aload_n 0, 1, none), (3, .iload_n 1, 1, none), (4, .iload_n 2, 1, none), (5, .invokevirtual 60, 3, some [0, 1, 2, 3]), (8, .ifCond .eq 7, 3, none), (11, .lconst 1, 1, none), (12, .goto 4, 3, none), (15, .lconst 0, 1, none), (16, .lastore, 1, none), (17, .goto 11, 3, none), (20, .astore 4, 2, none), (22, .iconst 1, 1, none), (23, .ireturn, 1, none), (24, .astore 4, 2, none), (26, .iconst 2, 1, none), (27, .ireturn, 1, none), (28, .iconst 0, 1, none), (29, .ireturn, 1, none)]
theorem xd_Z_absent : xm_chb xb_Z_absent xp_Z_absent = true := by decide +kernel
def xh_Z_absent : List (Nat × Nat × Nat × Nat) := [(0, 17, 20, 21), (0, 17, 24, 13)]
def pZ_absent (as : List Value) (M : xm_M) : Prop := ∃ p d : Int32, as = [.ref 0, .int p, .int d, .ref 63] ∧ pA_absent [.ref 0, .int p, .int d] M
noncomputable def gZ_absent (as : List Value) (M : xm_M) : Option Value × xm_M := match as with
  | [_, .int p, .int d, _] => (match ftA_absent [.ref 0, .int p, .int d] M with
    | none => (some (.int 0), xm_up (xm_mix 34 (fA_absent [.ref 0, .int p, .int d] M).2 M) 63 0 (xm_ri (fA_absent [.ref 0, .int p, .int d] M).1))
    | some E => (some (.int (nI (xh_ix ["java/lang/IllegalArgumentException", "java/lang/IndexOutOfBoundsException"] E))), M))
  | _ => (some (.int 0), M)
noncomputable abbrev sZ_absent : xm_C := (1, 4, 1, pZ_absent, gZ_absent)
set_option maxRecDepth 20000 in
set_option maxHeartbeats 2000000 in
theorem cZ_absent (l : Launch) (hl : l.stackTraces = false) : xm_Hp l xy_Z_absent (Cond.codeWith xy_Z_absent xb_Z_absent 5 (some .int) xh_Z_absent :: xt_T) xr_h "AbsenceRows" xh_ss xh_ps xk_cl xk_ns xk_tC pZ_absent gZ_absent := by
  refine xm_mk_hp (T := xk_T0) (N := 9) (ci := 0) (by decide) xt_good xk_ns_ok xd_Z_absent rfl (cA_absent l hl) (idx := 60) (np := 2) (pcx := 5) xe_A_absent xz_37 ⟨by decide, by decide, by decide +kernel⟩ xz_671 xz_672 xz_673 ⟨Nat.le_of_ble_eq_true rfl, Nat.le_of_ble_eq_true rfl⟩ ⟨rfl, rfl⟩ ⟨rfl, rfl⟩ (by decide +kernel) xk_sA rfl rfl (fun as => (as.drop 1).take 2) (fun as => [.int 0, .ref 63]) (fun as => lv_args 0 as) ?_ ?_ ?_ ?_ ?_ ?_
  · rintro as M ⟨p, d, rfl, hpA⟩; exact Nat.le_of_ble_eq_true rfl
  · rintro as M ⟨p, d, rfl, hpA⟩
    simp only [gZ_absent]
    cases ftA_absent [.ref 0, .int p, .int d] M with
    | none => exact ⟨_, rfl⟩
    | some E => exact ⟨_, rfl⟩
  · rintro as M ⟨p, d, rfl, hpA⟩
    refine ⟨100, ?g1_k_5⟩
    exact ⟨rfl, rfl, rfl, rfl, rfl⟩
  · rintro as M ⟨p, d, rfl, hpA⟩
    exact ⟨hpA, rfl, Nat.le_of_ble_eq_true rfl⟩
  · rintro as M ⟨p, d, rfl, hpA⟩ hf
    replace hf : ftA_absent [.ref 0, .int p, .int d] M = none := hf
    refine ⟨100, (And.intro (by decide) (And.intro (fun h8 => (And.intro rfl (And.intro ?g1_i_16 (Exists.intro (0 : Int32) (And.intro (by decide) (And.intro (by decide) (And.intro ?g2_w_29 ?g3_r_29))))))) (fun h8 => (And.intro (by decide) (And.intro rfl (And.intro ?g4_i_16 (Exists.intro (1 : Int32) (And.intro (by decide) (And.intro (by decide) (And.intro ?g5_w_29 ?g6_r_29))))))))))⟩
    case g1_i_16 =>
      exact vp_in_nI (n := 0) (N := 1) (by decide) (by decide)
    case g2_w_29 =>
      rfl
    case g3_r_29 =>
      refine ⟨?_, ?_, Nat.le_of_ble_eq_true rfl⟩
      · simp only [gZ_absent, hf]; rfl
      · simp only [gZ_absent, hf]
        have e9 : xm_ri (fA_absent [.ref 0, .int p, .int d] M).1 = 0 := by
          show xi_b _ = _
          first | exact xi_f (xi_0.mp h8) | exact xi_t (xi_n0.mp h8)
        rw [e9]; rfl
    case g4_i_16 =>
      exact vp_in_nI (n := 0) (N := 1) (by decide) (by decide)
    case g5_w_29 =>
      rfl
    case g6_r_29 =>
      refine ⟨?_, ?_, Nat.le_of_ble_eq_true rfl⟩
      · simp only [gZ_absent, hf]; rfl
      · simp only [gZ_absent, hf]
        have e9 : xm_ri (fA_absent [.ref 0, .int p, .int d] M).1 = 1 := by
          show xi_b _ = _
          first | exact xi_f (xi_0.mp h8) | exact xi_t (xi_n0.mp h8)
        rw [e9]; rfl
  · rintro as M E ⟨p, d, rfl, hpA⟩ hf
    replace hf : ftA_absent [.ref 0, .int p, .int d] M = some E := hf
    have hg : gZ_absent [.ref 0, .int p, .int d, .ref 63] M = (some (.int (nI (xh_ix ["java/lang/IllegalArgumentException", "java/lang/IndexOutOfBoundsException"] E))), M) := by
      simp only [gZ_absent, hf]
    have hE : E = "java/lang/IllegalArgumentException" ∨ E = "java/lang/IndexOutOfBoundsException" := by
      simp only [ftA_absent] at hf
      rcases xo_c hf with h | hf
      · exact Or.inl (Option.some.inj h).symm
      rcases xo_c hf with h | hf
      · exact Or.inr ((Option.some.inj h).symm)
      cases hf
    rcases hE with rfl | rfl
    · exact ⟨[], (0, 17, 20, 21), [(0, 17, 24, 13)], 1, rfl, fun _ h => absurd h List.not_mem_nil, by decide, by decide, ⟨"java/lang/IllegalArgumentException", xz_366, xn_24⟩, ⟨4, by decide, Or.inr ⟨by decide +kernel, by decide +kernel, by decide +kernel⟩⟩, hg⟩
    · exact ⟨[(0, 17, 20, 21)], (0, 17, 24, 13), [], 2, rfl, List.forall_mem_cons.mpr ⟨⟨by decide, "java/lang/IllegalArgumentException", xz_366, by decide +kernel⟩, fun _ h => absurd h List.not_mem_nil⟩, by decide, by decide, ⟨"java/lang/IndexOutOfBoundsException", xz_262, xn_16⟩, ⟨4, by decide, Or.inr ⟨by decide +kernel, by decide +kernel, by decide +kernel⟩⟩, hg⟩
abbrev xb_Z_present : ByteArray := method_16_code
def xy_Z_present : MethodName := ⟨"AbsenceRowsLaw", "present", "(LAbsenceRows;II[J)I"⟩
def xp_Z_present : xm_P := [(0, .aload_n 3, 1, none), (1, .iconst 0, 1, none), (2, .aload_n 0, 1, none), (3, .iload_n 1, 1, none), (4, .iload_n 2, 1, none), (5, .invokevirtual 64, 3, some [0, 1, 2, 3]), (8, .i2l, 1, none), (9, .lastore, 1, none), (10, .goto 11, 3, none), (13, .astore 4, 2, none), (15, .iconst 1, 1, none), (16, .ireturn, 1, none), (17, .astore 4, 2, none), (19, .iconst 2, 1, none), (20, .ireturn, 1, none), (21, .iconst 0, 1, none), (22, .ireturn, 1, none)]
theorem xd_Z_present : xm_chb xb_Z_present xp_Z_present = true := by decide +kernel
def xh_Z_present : List (Nat × Nat × Nat × Nat) := [(0, 10, 13, 21), (0, 10, 17, 13)]
def pZ_present (as : List Value) (M : xm_M) : Prop := ∃ w d : Int32, as = [.ref 0, .int w, .int d, .ref 63] ∧ pA_present [.ref 0, .int w, .int d] M
noncomputable def gZ_present (as : List Value) (M : xm_M) : Option Value × xm_M := match as with
  | [_, .int w, .int d, _] => (match ftA_present [.ref 0, .int w, .int d] M with
    | none => (some (.int 0), xm_up (xm_mix 34 (fA_present [.ref 0, .int w, .int d] M).2 M) 63 0 (xm_ri (fA_present [.ref 0, .int w, .int d] M).1))
    | some E => (some (.int (nI (xh_ix ["java/lang/IllegalArgumentException", "java/lang/IndexOutOfBoundsException"] E))), M))
  | _ => (some (.int 0), M)
noncomputable abbrev sZ_present : xm_C := (1, 4, 1, pZ_present, gZ_present)
set_option maxRecDepth 20000 in
set_option maxHeartbeats 2000000 in
theorem cZ_present (l : Launch) (hl : l.stackTraces = false) : xm_Hp l xy_Z_present (Cond.codeWith xy_Z_present xb_Z_present 5 (some .int) xh_Z_present :: xt_T) xr_h "AbsenceRows" xh_ss xh_ps xk_cl xk_ns xk_tC pZ_present gZ_present := by
  refine xm_mk_hp (T := xk_T0) (N := 9) (ci := 0) (by decide) xt_good xk_ns_ok xd_Z_present rfl (cA_present l hl) (idx := 64) (np := 2) (pcx := 5) xe_A_present xz_37 ⟨by decide, by decide, by decide +kernel⟩ xz_678 xz_679 xz_680 ⟨Nat.le_of_ble_eq_true rfl, Nat.le_of_ble_eq_true rfl⟩ ⟨rfl, rfl⟩ ⟨rfl, rfl⟩ (by decide +kernel) xk_sA rfl rfl (fun as => (as.drop 1).take 2) (fun as => [.int 0, .ref 63]) (fun as => lv_args 0 as) ?_ ?_ ?_ ?_ ?_ ?_
  · rintro as M ⟨w, d, rfl, hpA⟩; exact Nat.le_of_ble_eq_true rfl
  · rintro as M ⟨w, d, rfl, hpA⟩
    simp only [gZ_present]
    cases ftA_present [.ref 0, .int w, .int d] M with
    | none => exact ⟨_, rfl⟩
    | some E => exact ⟨_, rfl⟩
  · rintro as M ⟨w, d, rfl, hpA⟩
    refine ⟨100, ?g1_k_5⟩
    exact ⟨rfl, rfl, rfl, rfl, rfl⟩
  · rintro as M ⟨w, d, rfl, hpA⟩
    exact ⟨hpA, rfl, Nat.le_of_ble_eq_true rfl⟩
  · rintro as M ⟨w, d, rfl, hpA⟩ hf
    replace hf : ftA_present [.ref 0, .int w, .int d] M = none := hf
    refine ⟨100, (And.intro rfl (And.intro ?g1_i_9 (Exists.intro _ (And.intro rfl (And.intro (by decide) (And.intro ?g2_w_22 ?g3_r_22))))))⟩
    case g1_i_9 =>
      exact vp_in_nI (n := 0) (N := 1) (by decide) (by decide)
    case g2_w_22 =>
      rfl
    case g3_r_22 =>
      refine ⟨?_, ?_, Nat.le_of_ble_eq_true rfl⟩
      · simp only [gZ_present, hf]; rfl
      · simp only [gZ_present, hf]; rfl
  · rintro as M E ⟨w, d, rfl, hpA⟩ hf
    replace hf : ftA_present [.ref 0, .int w, .int d] M = some E := hf
    have hg : gZ_present [.ref 0, .int w, .int d, .ref 63] M = (some (.int (nI (xh_ix ["java/lang/IllegalArgumentException", "java/lang/IndexOutOfBoundsException"] E))), M) := by
      simp only [gZ_present, hf]
    have hE : E = "java/lang/IllegalArgumentException" ∨ E = "java/lang/IndexOutOfBoundsException" := by
      simp only [ftA_present] at hf
      rcases xo_c hf with h | hf
      · exact Or.inl (Option.some.inj h).symm
      rcases xo_c hf with h | hf
      · exact Or.inr ((Option.some.inj h).symm)
      cases hf
    rcases hE with rfl | rfl
    · exact ⟨[], (0, 10, 13, 21), [(0, 10, 17, 13)], 1, rfl, fun _ h => absurd h List.not_mem_nil, by decide, by decide, ⟨"java/lang/IllegalArgumentException", xz_366, xn_24⟩, ⟨4, by decide, Or.inr ⟨by decide +kernel, by decide +kernel, by decide +kernel⟩⟩, hg⟩
    · exact ⟨[(0, 10, 13, 21)], (0, 10, 17, 13), [], 2, rfl, List.forall_mem_cons.mpr ⟨⟨by decide, "java/lang/IllegalArgumentException", xz_366, by decide +kernel⟩, fun _ h => absurd h List.not_mem_nil⟩, by decide, by decide, ⟨"java/lang/IndexOutOfBoundsException", xz_262, xn_16⟩, ⟨4, by decide, Or.inr ⟨by decide +kernel, by decide +kernel, by decide +kernel⟩⟩, hg⟩
abbrev xb_Z_held : ByteArray := method_17_code
def xy_Z_held : MethodName := ⟨"AbsenceRowsLaw", "held", "(LAbsenceRows;II[J)I"⟩
def xp_Z_held : xm_P := [(0, .aload_n 3, 1, none), (1, .iconst 0, 1, none), (2, .aload_n 0, 1, none), (3, .iload_n 1, 1, none), (4, .iload_n 2, 1, none), (5, .invokevirtual 67, 3, some [0, 1, 2, 3]), (8, .i2l, 1, none), (9, .lastore, 1, none), (10, .goto 7, 3, none), (13, .astore 4, 2, none), (15, .iconst 1, 1, none), (16, .ireturn, 1, none), (17, .iconst 0, 1, none), (18, .ireturn, 1, none)]
theorem xd_Z_held : xm_chb xb_Z_held xp_Z_held = true := by decide +kernel
def xh_Z_held : List (Nat × Nat × Nat × Nat) := [(0, 10, 13, 21)]
def pZ_held (as : List Value) (M : xm_M) : Prop := ∃ i x : Int32, as = [.ref 0, .int i, .int x, .ref 63] ∧ pA_held [.ref 0, .int i, .int x] M
noncomputable def gZ_held (as : List Value) (M : xm_M) : Option Value × xm_M := match as with
  | [_, .int i, .int x, _] => (match ftA_held [.ref 0, .int i, .int x] M with
    | none => (some (.int 0), xm_up (xm_mix 34 (fA_held [.ref 0, .int i, .int x] M).2 M) 63 0 (xm_ri (fA_held [.ref 0, .int i, .int x] M).1))
    | some E => (some (.int (nI (xh_ix ["java/lang/IllegalArgumentException"] E))), M))
  | _ => (some (.int 0), M)
noncomputable abbrev sZ_held : xm_C := (1, 4, 1, pZ_held, gZ_held)
set_option maxRecDepth 20000 in
set_option maxHeartbeats 2000000 in
theorem cZ_held (l : Launch) (hl : l.stackTraces = false) : xm_Hp l xy_Z_held (Cond.codeWith xy_Z_held xb_Z_held 5 (some .int) xh_Z_held :: xt_T) xr_h "AbsenceRows" xh_ss xh_ps xk_cl xk_ns xk_tC pZ_held gZ_held := by
  refine xm_mk_hp (T := xk_T0) (N := 9) (ci := 0) (by decide) xt_good xk_ns_ok xd_Z_held rfl (cA_held l hl) (idx := 67) (np := 2) (pcx := 5) xe_A_held xz_37 ⟨by decide, by decide, by decide +kernel⟩ xz_686 xz_687 xz_688 ⟨Nat.le_of_ble_eq_true rfl, Nat.le_of_ble_eq_true rfl⟩ ⟨rfl, rfl⟩ ⟨rfl, rfl⟩ (by decide +kernel) xk_sA rfl rfl (fun as => (as.drop 1).take 2) (fun as => [.int 0, .ref 63]) (fun as => lv_args 0 as) ?_ ?_ ?_ ?_ ?_ ?_
  · rintro as M ⟨i, x, rfl, hpA⟩; exact Nat.le_of_ble_eq_true rfl
  · rintro as M ⟨i, x, rfl, hpA⟩
    simp only [gZ_held]
    cases ftA_held [.ref 0, .int i, .int x] M with
    | none => exact ⟨_, rfl⟩
    | some E => exact ⟨_, rfl⟩
  · rintro as M ⟨i, x, rfl, hpA⟩
    refine ⟨100, ?g1_k_5⟩
    exact ⟨rfl, rfl, rfl, rfl, rfl⟩
  · rintro as M ⟨i, x, rfl, hpA⟩
    exact ⟨hpA, rfl, Nat.le_of_ble_eq_true rfl⟩
  · rintro as M ⟨i, x, rfl, hpA⟩ hf
    replace hf : ftA_held [.ref 0, .int i, .int x] M = none := hf
    refine ⟨100, (And.intro rfl (And.intro ?g1_i_9 (Exists.intro _ (And.intro rfl (And.intro (by decide) (And.intro ?g2_w_18 ?g3_r_18))))))⟩
    case g1_i_9 =>
      exact vp_in_nI (n := 0) (N := 1) (by decide) (by decide)
    case g2_w_18 =>
      rfl
    case g3_r_18 =>
      refine ⟨?_, ?_, Nat.le_of_ble_eq_true rfl⟩
      · simp only [gZ_held, hf]; rfl
      · simp only [gZ_held, hf]; rfl
  · rintro as M E ⟨i, x, rfl, hpA⟩ hf
    replace hf : ftA_held [.ref 0, .int i, .int x] M = some E := hf
    have hg : gZ_held [.ref 0, .int i, .int x, .ref 63] M = (some (.int (nI (xh_ix ["java/lang/IllegalArgumentException"] E))), M) := by
      simp only [gZ_held, hf]
    have hE : E = "java/lang/IllegalArgumentException" ∨ E = "java/lang/IllegalArgumentException" := by
      simp only [ftA_held] at hf
      rcases xo_c hf with h | hf
      · exact Or.inl (Option.some.inj h).symm
      rcases xo_c hf with h | hf
      · exact Or.inr ((Option.some.inj h).symm)
      cases hf
    rcases hE with rfl | rfl
    · exact ⟨[], (0, 10, 13, 21), [], 1, rfl, fun _ h => absurd h List.not_mem_nil, by decide, by decide, ⟨"java/lang/IllegalArgumentException", xz_366, xn_24⟩, ⟨4, by decide, Or.inr ⟨by decide +kernel, by decide +kernel, by decide +kernel⟩⟩, hg⟩
    · exact ⟨[], (0, 10, 13, 21), [], 1, rfl, fun _ h => absurd h List.not_mem_nil, by decide, by decide, ⟨"java/lang/IllegalArgumentException", xz_366, xn_24⟩, ⟨4, by decide, Or.inr ⟨by decide +kernel, by decide +kernel, by decide +kernel⟩⟩, hg⟩
abbrev xb_Z_bar : ByteArray := method_18_code
def xy_Z_bar : MethodName := ⟨"AbsenceRowsLaw", "bar", "(LAbsenceRows;III)I"⟩
def xp_Z_bar : xm_P := [(0, .aload_n 0, 1, none), (1, .iload_n 1, 1, none), (2, .iload_n 2, 1, none), (3, .iload_n 3, 1, none), (4, .invokevirtual 70, 3, some [0, 1, 2, 3]), (7, .goto 11, 3, none), (10, .astore 4, 2, none), (12, .iconst 1, 1, none), (13, .ireturn, 1, none), (14, .astore 4, 2, none), (16, .iconst 2, 1, none), (17, .ireturn, 1, none), (18, .iconst 0, 1, none), (19, .ireturn, 1, none)]
theorem xd_Z_bar : xm_chb xb_Z_bar xp_Z_bar = true := by decide +kernel
def xh_Z_bar : List (Nat × Nat × Nat × Nat) := [(0, 7, 10, 21), (0, 7, 14, 13)]
def pZ_bar (as : List Value) (M : xm_M) : Prop := ∃ p s u : Int32, as = [.ref 0, .int p, .int s, .int u] ∧ pA_bar [.ref 0, .int p, .int s, .int u] M
noncomputable def gZ_bar (as : List Value) (M : xm_M) : Option Value × xm_M := match as with
  | [_, .int p, .int s, .int u] => (match ftA_bar [.ref 0, .int p, .int s, .int u] M with
    | none => (some (.int 0), xm_mix 34 (fA_bar [.ref 0, .int p, .int s, .int u] M).2 M)
    | some E => (some (.int (nI (xh_ix ["java/lang/IllegalArgumentException", "java/lang/IndexOutOfBoundsException"] E))), M))
  | _ => (some (.int 0), M)
noncomputable abbrev sZ_bar : xm_C := (1, 4, 1, pZ_bar, gZ_bar)
set_option maxRecDepth 20000 in
set_option maxHeartbeats 2000000 in
theorem cZ_bar (l : Launch) (hl : l.stackTraces = false) : xm_Hp l xy_Z_bar (Cond.codeWith xy_Z_bar xb_Z_bar 5 (some .int) xh_Z_bar :: xt_T) xr_h "AbsenceRows" xh_ss xh_ps xk_cl xk_ns xk_tC pZ_bar gZ_bar := by
  refine xm_mk_hp (T := xk_T0) (N := 9) (ci := 0) (by decide) xt_good xk_ns_ok xd_Z_bar rfl (cA_bar l hl) (idx := 70) (np := 3) (pcx := 4) xe_A_bar xz_37 ⟨by decide, by decide, by decide +kernel⟩ xz_699 xz_700 xz_701 ⟨Nat.le_of_ble_eq_true rfl, Nat.le_of_ble_eq_true rfl⟩ ⟨rfl, rfl⟩ ⟨rfl, rfl⟩ (by decide +kernel) xk_sA rfl rfl (fun as => (as.drop 1).take 3) (fun as => []) (fun as => lv_args 0 as) ?_ ?_ ?_ ?_ ?_ ?_
  · rintro as M ⟨p, s, u, rfl, hpA⟩; exact Nat.le_of_ble_eq_true rfl
  · rintro as M ⟨p, s, u, rfl, hpA⟩
    simp only [gZ_bar]
    cases ftA_bar [.ref 0, .int p, .int s, .int u] M with
    | none => exact ⟨_, rfl⟩
    | some E => exact ⟨_, rfl⟩
  · rintro as M ⟨p, s, u, rfl, hpA⟩
    refine ⟨100, ?g1_k_4⟩
    exact ⟨rfl, rfl, rfl, rfl, rfl⟩
  · rintro as M ⟨p, s, u, rfl, hpA⟩
    exact ⟨hpA, rfl, Nat.le_of_ble_eq_true rfl⟩
  · rintro as M ⟨p, s, u, rfl, hpA⟩ hf
    replace hf : ftA_bar [.ref 0, .int p, .int s, .int u] M = none := hf
    refine ⟨100, (And.intro (by decide) (And.intro ?g1_w_19 ?g2_r_19))⟩
    case g1_w_19 =>
      rfl
    case g2_r_19 =>
      refine ⟨?_, ?_, Nat.le_of_ble_eq_true rfl⟩
      · simp only [gZ_bar, hf]; rfl
      · simp only [gZ_bar, hf]; rfl
  · rintro as M E ⟨p, s, u, rfl, hpA⟩ hf
    replace hf : ftA_bar [.ref 0, .int p, .int s, .int u] M = some E := hf
    have hg : gZ_bar [.ref 0, .int p, .int s, .int u] M = (some (.int (nI (xh_ix ["java/lang/IllegalArgumentException", "java/lang/IndexOutOfBoundsException"] E))), M) := by
      simp only [gZ_bar, hf]
    have hE : E = "java/lang/IllegalArgumentException" ∨ E = "java/lang/IndexOutOfBoundsException" := by
      simp only [ftA_bar] at hf
      rcases xo_c hf with h | hf
      · exact Or.inl (Option.some.inj h).symm
      rcases xo_c hf with h | hf
      · exact Or.inr ((Option.some.inj h).symm)
      cases hf
    rcases hE with rfl | rfl
    · exact ⟨[], (0, 7, 10, 21), [(0, 7, 14, 13)], 1, rfl, fun _ h => absurd h List.not_mem_nil, by decide, by decide, ⟨"java/lang/IllegalArgumentException", xz_366, xn_24⟩, ⟨4, by decide, Or.inr ⟨by decide +kernel, by decide +kernel, by decide +kernel⟩⟩, hg⟩
    · exact ⟨[(0, 7, 10, 21)], (0, 7, 14, 13), [], 2, rfl, List.forall_mem_cons.mpr ⟨⟨by decide, "java/lang/IllegalArgumentException", xz_366, by decide +kernel⟩, fun _ h => absurd h List.not_mem_nil⟩, by decide, by decide, ⟨"java/lang/IndexOutOfBoundsException", xz_262, xn_16⟩, ⟨4, by decide, Or.inr ⟨by decide +kernel, by decide +kernel, by decide +kernel⟩⟩, hg⟩
abbrev xb_Z_patience : ByteArray := method_19_code
def xy_Z_patience : MethodName := ⟨"AbsenceRowsLaw", "patience", "(LAbsenceRows;I)I"⟩
def xp_Z_patience : xm_P := [(0, .aload_n 0, 1, none), (1, .iload_n 1, 1, none), (2, .invokevirtual 73, 3, some [0, 1]), (5, .goto 6, 3, none), (8, .astore_n 2, 1, none), (9, .iconst 1, 1, none), (10, .ireturn, 1, none), (11, .iconst 0, 1, none), (12, .ireturn, 1, none)]
theorem xd_Z_patience : xm_chb xb_Z_patience xp_Z_patience = true := by decide +kernel
def xh_Z_patience : List (Nat × Nat × Nat × Nat) := [(0, 5, 8, 13)]
def pZ_patience (as : List Value) (M : xm_M) : Prop := ∃ u : Int32, as = [.ref 0, .int u] ∧ pA_patience [.ref 0, .int u] M
noncomputable def gZ_patience (as : List Value) (M : xm_M) : Option Value × xm_M := match as with
  | [_, .int u] => (match ftA_patience [.ref 0, .int u] M with
    | none => (some (.int 0), xm_mix 34 (fA_patience [.ref 0, .int u] M).2 M)
    | some E => (some (.int (nI (xh_ix ["java/lang/IndexOutOfBoundsException"] E))), M))
  | _ => (some (.int 0), M)
noncomputable abbrev sZ_patience : xm_C := (1, 2, 1, pZ_patience, gZ_patience)
set_option maxRecDepth 20000 in
set_option maxHeartbeats 2000000 in
theorem cZ_patience (l : Launch) (hl : l.stackTraces = false) : xm_Hp l xy_Z_patience (Cond.codeWith xy_Z_patience xb_Z_patience 3 (some .int) xh_Z_patience :: xt_T) xr_h "AbsenceRows" xh_ss xh_ps xk_cl xk_ns xk_tC pZ_patience gZ_patience := by
  refine xm_mk_hp (T := xk_T0) (N := 9) (ci := 0) (by decide) xt_good xk_ns_ok xd_Z_patience rfl (cA_patience l hl) (idx := 73) (np := 1) (pcx := 2) xe_A_patience xz_37 ⟨by decide, by decide, by decide +kernel⟩ xz_707 xz_708 xz_709 ⟨Nat.le_of_ble_eq_true rfl, Nat.le_of_ble_eq_true rfl⟩ ⟨rfl, rfl⟩ ⟨rfl, rfl⟩ (by decide +kernel) xk_sA rfl rfl (fun as => (as.drop 1).take 1) (fun as => []) (fun as => lv_args 0 as) ?_ ?_ ?_ ?_ ?_ ?_
  · rintro as M ⟨u, rfl, hpA⟩; exact Nat.le_of_ble_eq_true rfl
  · rintro as M ⟨u, rfl, hpA⟩
    simp only [gZ_patience]
    cases ftA_patience [.ref 0, .int u] M with
    | none => exact ⟨_, rfl⟩
    | some E => exact ⟨_, rfl⟩
  · rintro as M ⟨u, rfl, hpA⟩
    refine ⟨100, ?g1_k_2⟩
    exact ⟨rfl, rfl, rfl, rfl, rfl⟩
  · rintro as M ⟨u, rfl, hpA⟩
    exact ⟨hpA, rfl, Nat.le_of_ble_eq_true rfl⟩
  · rintro as M ⟨u, rfl, hpA⟩ hf
    replace hf : ftA_patience [.ref 0, .int u] M = none := hf
    refine ⟨100, (And.intro (by decide) (And.intro ?g1_w_12 ?g2_r_12))⟩
    case g1_w_12 =>
      rfl
    case g2_r_12 =>
      refine ⟨?_, ?_, Nat.le_of_ble_eq_true rfl⟩
      · simp only [gZ_patience, hf]; rfl
      · simp only [gZ_patience, hf]; rfl
  · rintro as M E ⟨u, rfl, hpA⟩ hf
    replace hf : ftA_patience [.ref 0, .int u] M = some E := hf
    have hg : gZ_patience [.ref 0, .int u] M = (some (.int (nI (xh_ix ["java/lang/IndexOutOfBoundsException"] E))), M) := by
      simp only [gZ_patience, hf]
    have hE : E = "java/lang/IndexOutOfBoundsException" := by
      simp only [ftA_patience] at hf
      rcases xo_c hf with h | hf
      · exact (Option.some.inj h).symm
      cases hf
    rcases hE with rfl
    · exact ⟨[], (0, 5, 8, 13), [], 1, rfl, fun _ h => absurd h List.not_mem_nil, by decide, by decide, ⟨"java/lang/IndexOutOfBoundsException", xz_262, xn_16⟩, ⟨2, by decide, Or.inl ⟨⟨2, rfl, by decide +kernel⟩, by decide +kernel, by decide +kernel⟩⟩, hg⟩
abbrev xb_Z_call : ByteArray := method_20_code
def xy_Z_call : MethodName := ⟨"AbsenceRowsLaw", "call", "(LAbsenceRows;II[J)I"⟩
def xp_Z_call : xm_P := [(0, .aload_n 3, 1, none), (1, .iconst 0, 1, none), (2, .aload_n 0, 1, none), (3, .iload_n 1, 1, none), (4, .iload_n 2, 1, none), (5, .invokevirtual 76, 3, some [0, 1, 2, 3]), (8, .i2l, 1, none), (9, .lastore, 1, none), (10, .goto 15, 3, none), (13, .astore 4, 2, none), (15, .iconst 1, 1, none), (16, .ireturn, 1, none), (17, .astore 4, 2, none), (19, .iconst 2, 1, none), (20, .ireturn, 1, none), (21, .astore 4, 2, none), (23, .iconst 3, 1, none), (24, .ireturn, 1, none), (25, .iconst 0, 1, none), (26, .ireturn, 1, none)]
theorem xd_Z_call : xm_chb xb_Z_call xp_Z_call = true := by decide +kernel
def xh_Z_call : List (Nat × Nat × Nat × Nat) := [(0, 10, 13, 21), (0, 10, 17, 13), (0, 10, 21, 15)]
def pZ_call (as : List Value) (M : xm_M) : Prop := ∃ w d : Int32, as = [.ref 0, .int w, .int d, .ref 63] ∧ pA_call [.ref 0, .int w, .int d] M
noncomputable def gZ_call (as : List Value) (M : xm_M) : Option Value × xm_M := match as with
  | [_, .int w, .int d, _] => (match ftA_call [.ref 0, .int w, .int d] M with
    | none => (some (.int 0), xm_up (xm_mix 34 (fA_call [.ref 0, .int w, .int d] M).2 M) 63 0 (xm_ri (fA_call [.ref 0, .int w, .int d] M).1))
    | some E => (some (.int (nI (xh_ix ["java/lang/IllegalArgumentException", "java/lang/IndexOutOfBoundsException", "java/lang/UnsupportedOperationException"] E))), M))
  | _ => (some (.int 0), M)
noncomputable abbrev sZ_call : xm_C := (1, 4, 1, pZ_call, gZ_call)
set_option maxRecDepth 20000 in
set_option maxHeartbeats 2000000 in
theorem cZ_call (l : Launch) (hl : l.stackTraces = false) : xm_Hp l xy_Z_call (Cond.codeWith xy_Z_call xb_Z_call 5 (some .int) xh_Z_call :: xt_T) xr_h "AbsenceRows" xh_ss xh_ps xk_cl xk_ns xk_tC pZ_call gZ_call := by
  refine xm_mk_hp (T := xk_T0) (N := 9) (ci := 0) (by decide) xt_good xk_ns_ok xd_Z_call rfl (cA_call l hl) (idx := 76) (np := 2) (pcx := 5) xe_A_call xz_37 ⟨by decide, by decide, by decide +kernel⟩ xz_715 xz_716 xz_717 ⟨Nat.le_of_ble_eq_true rfl, Nat.le_of_ble_eq_true rfl⟩ ⟨rfl, rfl⟩ ⟨rfl, rfl⟩ (by decide +kernel) xk_sA rfl rfl (fun as => (as.drop 1).take 2) (fun as => [.int 0, .ref 63]) (fun as => lv_args 0 as) ?_ ?_ ?_ ?_ ?_ ?_
  · rintro as M ⟨w, d, rfl, hpA⟩; exact Nat.le_of_ble_eq_true rfl
  · rintro as M ⟨w, d, rfl, hpA⟩
    simp only [gZ_call]
    cases ftA_call [.ref 0, .int w, .int d] M with
    | none => exact ⟨_, rfl⟩
    | some E => exact ⟨_, rfl⟩
  · rintro as M ⟨w, d, rfl, hpA⟩
    refine ⟨100, ?g1_k_5⟩
    exact ⟨rfl, rfl, rfl, rfl, rfl⟩
  · rintro as M ⟨w, d, rfl, hpA⟩
    exact ⟨hpA, rfl, Nat.le_of_ble_eq_true rfl⟩
  · rintro as M ⟨w, d, rfl, hpA⟩ hf
    replace hf : ftA_call [.ref 0, .int w, .int d] M = none := hf
    refine ⟨100, (And.intro rfl (And.intro ?g1_i_9 (Exists.intro _ (And.intro rfl (And.intro (by decide) (And.intro ?g2_w_26 ?g3_r_26))))))⟩
    case g1_i_9 =>
      exact vp_in_nI (n := 0) (N := 1) (by decide) (by decide)
    case g2_w_26 =>
      rfl
    case g3_r_26 =>
      refine ⟨?_, ?_, Nat.le_of_ble_eq_true rfl⟩
      · simp only [gZ_call, hf]; rfl
      · simp only [gZ_call, hf]; rfl
  · rintro as M E ⟨w, d, rfl, hpA⟩ hf
    replace hf : ftA_call [.ref 0, .int w, .int d] M = some E := hf
    have hg : gZ_call [.ref 0, .int w, .int d, .ref 63] M = (some (.int (nI (xh_ix ["java/lang/IllegalArgumentException", "java/lang/IndexOutOfBoundsException", "java/lang/UnsupportedOperationException"] E))), M) := by
      simp only [gZ_call, hf]
    have hE : E = "java/lang/IllegalArgumentException" ∨ E = "java/lang/IndexOutOfBoundsException" ∨ E = "java/lang/UnsupportedOperationException" := by
      simp only [ftA_call] at hf
      rcases xo_c hf with h | hf
      · exact Or.inl (Option.some.inj h).symm
      rcases xo_c hf with h | hf
      · exact Or.inr (Or.inl (Option.some.inj h).symm)
      rcases xo_c hf with h | hf
      · exact Or.inr (Or.inr ((Option.some.inj h).symm))
      cases hf
    rcases hE with rfl | rfl | rfl
    · exact ⟨[], (0, 10, 13, 21), [(0, 10, 17, 13), (0, 10, 21, 15)], 1, rfl, fun _ h => absurd h List.not_mem_nil, by decide, by decide, ⟨"java/lang/IllegalArgumentException", xz_366, xn_24⟩, ⟨4, by decide, Or.inr ⟨by decide +kernel, by decide +kernel, by decide +kernel⟩⟩, hg⟩
    · exact ⟨[(0, 10, 13, 21)], (0, 10, 17, 13), [(0, 10, 21, 15)], 2, rfl, List.forall_mem_cons.mpr ⟨⟨by decide, "java/lang/IllegalArgumentException", xz_366, by decide +kernel⟩, fun _ h => absurd h List.not_mem_nil⟩, by decide, by decide, ⟨"java/lang/IndexOutOfBoundsException", xz_262, xn_16⟩, ⟨4, by decide, Or.inr ⟨by decide +kernel, by decide +kernel, by decide +kernel⟩⟩, hg⟩
    · exact ⟨[(0, 10, 13, 21), (0, 10, 17, 13)], (0, 10, 21, 15), [], 3, rfl, List.forall_mem_cons.mpr ⟨⟨by decide, "java/lang/IllegalArgumentException", xz_366, by decide +kernel⟩, List.forall_mem_cons.mpr ⟨⟨by decide, "java/lang/IndexOutOfBoundsException", xz_262, by decide +kernel⟩, fun _ h => absurd h List.not_mem_nil⟩⟩, by decide, by decide, ⟨"java/lang/UnsupportedOperationException", xz_263, xn_23⟩, ⟨4, by decide, Or.inr ⟨by decide +kernel, by decide +kernel, by decide +kernel⟩⟩, hg⟩
abbrev xb_Z_answer : ByteArray := method_21_code
def xy_Z_answer : MethodName := ⟨"AbsenceRowsLaw", "answer", "(LAbsenceRows;IZ[J)I"⟩
def xp_Z_answer : xm_P := [(0, .aload_n 3, 1, none), (1, .iconst 0, 1, none), (2, .aload_n 0, 1, none), (3, .iload_n 1, 1, none), (4, .iload_n 2, 1, none), (5, .invokevirtual 79, 3, some [0, 1, 2, 3]), (8, .i2l, 1, none), (9, .lastore, 1, none), (10, .goto 11, 3, none), (13, .astore 4, 2, none), (15, .iconst 1, 1, none), (16, .ireturn, 1, none), (17, .astore 4, 2, none), (19, .iconst 2, 1, none), (20, .ireturn, 1, none), (21, .iconst 0, 1, none), (22, .ireturn, 1, none)]
theorem xd_Z_answer : xm_chb xb_Z_answer xp_Z_answer = true := by decide +kernel
def xh_Z_answer : List (Nat × Nat × Nat × Nat) := [(0, 10, 13, 21), (0, 10, 17, 23)]
def pZ_answer (as : List Value) (M : xm_M) : Prop := ∃ k b : Int32, as = [.ref 0, .int k, .int b, .ref 63] ∧ pA_answer [.ref 0, .int k, .int b] M
noncomputable def gZ_answer (as : List Value) (M : xm_M) : Option Value × xm_M := match as with
  | [_, .int k, .int b, _] => (match ftA_answer [.ref 0, .int k, .int b] M with
    | none => (some (.int 0), xm_up (xm_mix 34 (fA_answer [.ref 0, .int k, .int b] M).2 M) 63 0 (xm_ri (fA_answer [.ref 0, .int k, .int b] M).1))
    | some E => (some (.int (nI (xh_ix ["java/lang/IllegalArgumentException", "java/lang/IllegalStateException"] E))), M))
  | _ => (some (.int 0), M)
noncomputable abbrev sZ_answer : xm_C := (1, 4, 1, pZ_answer, gZ_answer)
set_option maxRecDepth 20000 in
set_option maxHeartbeats 2000000 in
theorem cZ_answer (l : Launch) (hl : l.stackTraces = false) : xm_Hp l xy_Z_answer (Cond.codeWith xy_Z_answer xb_Z_answer 5 (some .int) xh_Z_answer :: xt_T) xr_h "AbsenceRows" xh_ss xh_ps xk_cl xk_ns xk_tC pZ_answer gZ_answer := by
  refine xm_mk_hp (T := xk_T0) (N := 9) (ci := 0) (by decide) xt_good xk_ns_ok xd_Z_answer rfl (cA_answer l hl) (idx := 79) (np := 2) (pcx := 5) xe_A_answer xz_37 ⟨by decide, by decide, by decide +kernel⟩ xz_756 xz_757 xz_758 ⟨Nat.le_of_ble_eq_true rfl, Nat.le_of_ble_eq_true rfl⟩ ⟨rfl, rfl⟩ ⟨rfl, rfl⟩ (by decide +kernel) xk_sA rfl rfl (fun as => (as.drop 1).take 2) (fun as => [.int 0, .ref 63]) (fun as => lv_args 0 as) ?_ ?_ ?_ ?_ ?_ ?_
  · rintro as M ⟨k, b, rfl, hpA⟩; exact Nat.le_of_ble_eq_true rfl
  · rintro as M ⟨k, b, rfl, hpA⟩
    simp only [gZ_answer]
    cases ftA_answer [.ref 0, .int k, .int b] M with
    | none => exact ⟨_, rfl⟩
    | some E => exact ⟨_, rfl⟩
  · rintro as M ⟨k, b, rfl, hpA⟩
    refine ⟨100, ?g1_k_5⟩
    exact ⟨rfl, rfl, rfl, rfl, rfl⟩
  · rintro as M ⟨k, b, rfl, hpA⟩
    exact ⟨hpA, rfl, Nat.le_of_ble_eq_true rfl⟩
  · rintro as M ⟨k, b, rfl, hpA⟩ hf
    replace hf : ftA_answer [.ref 0, .int k, .int b] M = none := hf
    refine ⟨100, (And.intro rfl (And.intro ?g1_i_9 (Exists.intro _ (And.intro rfl (And.intro (by decide) (And.intro ?g2_w_22 ?g3_r_22))))))⟩
    case g1_i_9 =>
      exact vp_in_nI (n := 0) (N := 1) (by decide) (by decide)
    case g2_w_22 =>
      rfl
    case g3_r_22 =>
      refine ⟨?_, ?_, Nat.le_of_ble_eq_true rfl⟩
      · simp only [gZ_answer, hf]; rfl
      · simp only [gZ_answer, hf]; rfl
  · rintro as M E ⟨k, b, rfl, hpA⟩ hf
    replace hf : ftA_answer [.ref 0, .int k, .int b] M = some E := hf
    have hg : gZ_answer [.ref 0, .int k, .int b, .ref 63] M = (some (.int (nI (xh_ix ["java/lang/IllegalArgumentException", "java/lang/IllegalStateException"] E))), M) := by
      simp only [gZ_answer, hf]
    have hE : E = "java/lang/IllegalArgumentException" ∨ E = "java/lang/IllegalStateException" := by
      simp only [ftA_answer] at hf
      rcases xo_c hf with h | hf
      · exact Or.inl (Option.some.inj h).symm
      rcases xo_c hf with h | hf
      · exact Or.inr ((Option.some.inj h).symm)
      cases hf
    rcases hE with rfl | rfl
    · exact ⟨[], (0, 10, 13, 21), [(0, 10, 17, 23)], 1, rfl, fun _ h => absurd h List.not_mem_nil, by decide, by decide, ⟨"java/lang/IllegalArgumentException", xz_366, xn_24⟩, ⟨4, by decide, Or.inr ⟨by decide +kernel, by decide +kernel, by decide +kernel⟩⟩, hg⟩
    · exact ⟨[(0, 10, 13, 21)], (0, 10, 17, 23), [], 2, rfl, List.forall_mem_cons.mpr ⟨⟨by decide, "java/lang/IllegalArgumentException", xz_366, by decide +kernel⟩, fun _ h => absurd h List.not_mem_nil⟩, by decide, by decide, ⟨"java/lang/IllegalStateException", xz_367, xn_25⟩, ⟨4, by decide, Or.inr ⟨by decide +kernel, by decide +kernel, by decide +kernel⟩⟩, hg⟩
abbrev xb_Z_callAt : ByteArray := method_22_code
def xy_Z_callAt : MethodName := ⟨"AbsenceRowsLaw", "callAt", "(LAbsenceRows;II[J)I"⟩
def xp_Z_callAt : xm_P := [(0, .aload_n 3, 1, none), (1, .iconst 0, 1, none), (2, .aload_n 0, 1, none), (3, .iload_n 1, 1, none), (4, .iload_n 2, 1, none), (5, .invokevirtual 83, 3, some [0, 1, 2, 3]), (8, .i2l, 1, none), (9, .lastore, 1, none), (10, .goto 7, 3, none), (13, .astore 4, 2, none), (15, .iconst 1, 1, none), (16, .ireturn, 1, none), (17, .iconst 0, 1, none), (18, .ireturn, 1, none)]
theorem xd_Z_callAt : xm_chb xb_Z_callAt xp_Z_callAt = true := by decide +kernel
def xh_Z_callAt : List (Nat × Nat × Nat × Nat) := [(0, 10, 13, 21)]
def pZ_callAt (as : List Value) (M : xm_M) : Prop := ∃ k x : Int32, as = [.ref 0, .int k, .int x, .ref 63] ∧ pA_callAt [.ref 0, .int k, .int x] M
noncomputable def gZ_callAt (as : List Value) (M : xm_M) : Option Value × xm_M := match as with
  | [_, .int k, .int x, _] => (match ftA_callAt [.ref 0, .int k, .int x] M with
    | none => (some (.int 0), xm_up (xm_mix 34 (fA_callAt [.ref 0, .int k, .int x] M).2 M) 63 0 (xm_ri (fA_callAt [.ref 0, .int k, .int x] M).1))
    | some E => (some (.int (nI (xh_ix ["java/lang/IllegalArgumentException"] E))), M))
  | _ => (some (.int 0), M)
noncomputable abbrev sZ_callAt : xm_C := (1, 4, 1, pZ_callAt, gZ_callAt)
set_option maxRecDepth 20000 in
set_option maxHeartbeats 2000000 in
theorem cZ_callAt (l : Launch) (hl : l.stackTraces = false) : xm_Hp l xy_Z_callAt (Cond.codeWith xy_Z_callAt xb_Z_callAt 5 (some .int) xh_Z_callAt :: xt_T) xr_h "AbsenceRows" xh_ss xh_ps xk_cl xk_ns xk_tC pZ_callAt gZ_callAt := by
  refine xm_mk_hp (T := xk_T0) (N := 9) (ci := 0) (by decide) xt_good xk_ns_ok xd_Z_callAt rfl (cA_callAt l hl) (idx := 83) (np := 2) (pcx := 5) xe_A_callAt xz_37 ⟨by decide, by decide, by decide +kernel⟩ xz_774 xz_775 xz_776 ⟨Nat.le_of_ble_eq_true rfl, Nat.le_of_ble_eq_true rfl⟩ ⟨rfl, rfl⟩ ⟨rfl, rfl⟩ (by decide +kernel) xk_sA rfl rfl (fun as => (as.drop 1).take 2) (fun as => [.int 0, .ref 63]) (fun as => lv_args 0 as) ?_ ?_ ?_ ?_ ?_ ?_
  · rintro as M ⟨k, x, rfl, hpA⟩; exact Nat.le_of_ble_eq_true rfl
  · rintro as M ⟨k, x, rfl, hpA⟩
    simp only [gZ_callAt]
    cases ftA_callAt [.ref 0, .int k, .int x] M with
    | none => exact ⟨_, rfl⟩
    | some E => exact ⟨_, rfl⟩
  · rintro as M ⟨k, x, rfl, hpA⟩
    refine ⟨100, ?g1_k_5⟩
    exact ⟨rfl, rfl, rfl, rfl, rfl⟩
  · rintro as M ⟨k, x, rfl, hpA⟩
    exact ⟨hpA, rfl, Nat.le_of_ble_eq_true rfl⟩
  · rintro as M ⟨k, x, rfl, hpA⟩ hf
    replace hf : ftA_callAt [.ref 0, .int k, .int x] M = none := hf
    refine ⟨100, (And.intro rfl (And.intro ?g1_i_9 (Exists.intro _ (And.intro rfl (And.intro (by decide) (And.intro ?g2_w_18 ?g3_r_18))))))⟩
    case g1_i_9 =>
      exact vp_in_nI (n := 0) (N := 1) (by decide) (by decide)
    case g2_w_18 =>
      rfl
    case g3_r_18 =>
      refine ⟨?_, ?_, Nat.le_of_ble_eq_true rfl⟩
      · simp only [gZ_callAt, hf]; rfl
      · simp only [gZ_callAt, hf]; rfl
  · rintro as M E ⟨k, x, rfl, hpA⟩ hf
    replace hf : ftA_callAt [.ref 0, .int k, .int x] M = some E := hf
    have hg : gZ_callAt [.ref 0, .int k, .int x, .ref 63] M = (some (.int (nI (xh_ix ["java/lang/IllegalArgumentException"] E))), M) := by
      simp only [gZ_callAt, hf]
    have hE : E = "java/lang/IllegalArgumentException" ∨ E = "java/lang/IllegalArgumentException" := by
      simp only [ftA_callAt] at hf
      rcases xo_c hf with h | hf
      · exact Or.inl (Option.some.inj h).symm
      rcases xo_c hf with h | hf
      · exact Or.inr ((Option.some.inj h).symm)
      cases hf
    rcases hE with rfl | rfl
    · exact ⟨[], (0, 10, 13, 21), [], 1, rfl, fun _ h => absurd h List.not_mem_nil, by decide, by decide, ⟨"java/lang/IllegalArgumentException", xz_366, xn_24⟩, ⟨4, by decide, Or.inr ⟨by decide +kernel, by decide +kernel, by decide +kernel⟩⟩, hg⟩
    · exact ⟨[], (0, 10, 13, 21), [], 1, rfl, fun _ h => absurd h List.not_mem_nil, by decide, by decide, ⟨"java/lang/IllegalArgumentException", xz_366, xn_24⟩, ⟨4, by decide, Or.inr ⟨by decide +kernel, by decide +kernel, by decide +kernel⟩⟩, hg⟩
abbrev xb_Z_asked : ByteArray := method_23_code
def xy_Z_asked : MethodName := ⟨"AbsenceRowsLaw", "asked", "(LAbsenceRows;I[J)I"⟩
def xp_Z_asked : xm_P := [(0, .aload_n 2, 1, none), (1, .iconst 0, 1, none), (2, .aload_n 0, 1, none), (3, .iload_n 1, 1, none), (4, .invokevirtual 86, 3, some [0, 1, 2]), (7, .i2l, 1, none), (8, .lastore, 1, none), (9, .goto 6, 3, none), (12, .astore_n 3, 1, none), (13, .iconst 1, 1, none), (14, .ireturn, 1, none), (15, .iconst 0, 1, none), (16, .ireturn, 1, none)]
theorem xd_Z_asked : xm_chb xb_Z_asked xp_Z_asked = true := by decide +kernel
def xh_Z_asked : List (Nat × Nat × Nat × Nat) := [(0, 9, 12, 21)]
def pZ_asked (as : List Value) (M : xm_M) : Prop := ∃ p : Int32, as = [.ref 0, .int p, .ref 63] ∧ pA_asked [.ref 0, .int p] M
noncomputable def gZ_asked (as : List Value) (M : xm_M) : Option Value × xm_M := match as with
  | [_, .int p, _] => (match ftA_asked [.ref 0, .int p] M with
    | none => (some (.int 0), xm_up (xm_mix 34 (fA_asked [.ref 0, .int p] M).2 M) 63 0 (xm_ri (fA_asked [.ref 0, .int p] M).1))
    | some E => (some (.int (nI (xh_ix ["java/lang/IllegalArgumentException"] E))), M))
  | _ => (some (.int 0), M)
noncomputable abbrev sZ_asked : xm_C := (1, 3, 1, pZ_asked, gZ_asked)
set_option maxRecDepth 20000 in
set_option maxHeartbeats 2000000 in
theorem cZ_asked (l : Launch) (hl : l.stackTraces = false) : xm_Hp l xy_Z_asked (Cond.codeWith xy_Z_asked xb_Z_asked 4 (some .int) xh_Z_asked :: xt_T) xr_h "AbsenceRows" xh_ss xh_ps xk_cl xk_ns xk_tC pZ_asked gZ_asked := by
  refine xm_mk_hp (T := xk_T0) (N := 9) (ci := 0) (by decide) xt_good xk_ns_ok xd_Z_asked rfl (cA_asked l hl) (idx := 86) (np := 1) (pcx := 4) xe_A_asked xz_37 ⟨by decide, by decide, by decide +kernel⟩ xz_781 xz_782 xz_783 ⟨Nat.le_of_ble_eq_true rfl, Nat.le_of_ble_eq_true rfl⟩ ⟨rfl, rfl⟩ ⟨rfl, rfl⟩ (by decide +kernel) xk_sA rfl rfl (fun as => (as.drop 1).take 1) (fun as => [.int 0, .ref 63]) (fun as => lv_args 0 as) ?_ ?_ ?_ ?_ ?_ ?_
  · rintro as M ⟨p, rfl, hpA⟩; exact Nat.le_of_ble_eq_true rfl
  · rintro as M ⟨p, rfl, hpA⟩
    simp only [gZ_asked]
    cases ftA_asked [.ref 0, .int p] M with
    | none => exact ⟨_, rfl⟩
    | some E => exact ⟨_, rfl⟩
  · rintro as M ⟨p, rfl, hpA⟩
    refine ⟨100, ?g1_k_4⟩
    exact ⟨rfl, rfl, rfl, rfl, rfl⟩
  · rintro as M ⟨p, rfl, hpA⟩
    exact ⟨hpA, rfl, Nat.le_of_ble_eq_true rfl⟩
  · rintro as M ⟨p, rfl, hpA⟩ hf
    replace hf : ftA_asked [.ref 0, .int p] M = none := hf
    refine ⟨100, (And.intro rfl (And.intro ?g1_i_8 (Exists.intro _ (And.intro rfl (And.intro (by decide) (And.intro ?g2_w_16 ?g3_r_16))))))⟩
    case g1_i_8 =>
      exact vp_in_nI (n := 0) (N := 1) (by decide) (by decide)
    case g2_w_16 =>
      rfl
    case g3_r_16 =>
      refine ⟨?_, ?_, Nat.le_of_ble_eq_true rfl⟩
      · simp only [gZ_asked, hf]; rfl
      · simp only [gZ_asked, hf]; rfl
  · rintro as M E ⟨p, rfl, hpA⟩ hf
    replace hf : ftA_asked [.ref 0, .int p] M = some E := hf
    have hg : gZ_asked [.ref 0, .int p, .ref 63] M = (some (.int (nI (xh_ix ["java/lang/IllegalArgumentException"] E))), M) := by
      simp only [gZ_asked, hf]
    have hE : E = "java/lang/IllegalArgumentException" := by
      simp only [ftA_asked] at hf
      rcases xo_c hf with h | hf
      · exact (Option.some.inj h).symm
      cases hf
    rcases hE with rfl
    · exact ⟨[], (0, 9, 12, 21), [], 1, rfl, fun _ h => absurd h List.not_mem_nil, by decide, by decide, ⟨"java/lang/IllegalArgumentException", xz_366, xn_24⟩, ⟨3, by decide, Or.inl ⟨⟨3, rfl, by decide +kernel⟩, by decide +kernel, by decide +kernel⟩⟩, hg⟩
abbrev xb_Z_tick : ByteArray := method_24_code
def xy_Z_tick : MethodName := ⟨"AbsenceRowsLaw", "tick", "(LAbsenceRows;I[J)I"⟩
def xp_Z_tick : xm_P := [(0, .aload_n 2, 1, none), (1, .iconst 0, 1, none), (2, .aload_n 0, 1, none), (3, .iload_n 1, 1, none), (4, .invokevirtual 89, 3, some [0, 1, 2]), (7, .i2l, 1, none), (8, .lastore, 1, none), (9, .goto 6, 3, none), (12, .astore_n 3, 1, none), (13, .iconst 1, 1, none), (14, .ireturn, 1, none), (15, .iconst 0, 1, none), (16, .ireturn, 1, none)]
theorem xd_Z_tick : xm_chb xb_Z_tick xp_Z_tick = true := by decide +kernel
def xh_Z_tick : List (Nat × Nat × Nat × Nat) := [(0, 9, 12, 13)]
def pZ_tick (as : List Value) (M : xm_M) : Prop := ∃ u : Int32, as = [.ref 0, .int u, .ref 63] ∧ pA_tick [.ref 0, .int u] M
noncomputable def gZ_tick (as : List Value) (M : xm_M) : Option Value × xm_M := match as with
  | [_, .int u, _] => (match ftA_tick [.ref 0, .int u] M with
    | none => (some (.int 0), xm_up (xm_mix 34 (fA_tick [.ref 0, .int u] M).2 M) 63 0 (xm_ri (fA_tick [.ref 0, .int u] M).1))
    | some E => (some (.int (nI (xh_ix ["java/lang/IndexOutOfBoundsException"] E))), M))
  | _ => (some (.int 0), M)
noncomputable abbrev sZ_tick : xm_C := (1, 3, 1, pZ_tick, gZ_tick)
set_option maxRecDepth 20000 in
set_option maxHeartbeats 2000000 in
theorem cZ_tick (l : Launch) (hl : l.stackTraces = false) : xm_Hp l xy_Z_tick (Cond.codeWith xy_Z_tick xb_Z_tick 4 (some .int) xh_Z_tick :: xt_T) xr_h "AbsenceRows" xh_ss xh_ps xk_cl xk_ns xk_tC pZ_tick gZ_tick := by
  refine xm_mk_hp (T := xk_T0) (N := 9) (ci := 0) (by decide) xt_good xk_ns_ok xd_Z_tick rfl (cA_tick l hl) (idx := 89) (np := 1) (pcx := 4) xe_A_tick xz_37 ⟨by decide, by decide, by decide +kernel⟩ xz_788 xz_789 xz_790 ⟨Nat.le_of_ble_eq_true rfl, Nat.le_of_ble_eq_true rfl⟩ ⟨rfl, rfl⟩ ⟨rfl, rfl⟩ (by decide +kernel) xk_sA rfl rfl (fun as => (as.drop 1).take 1) (fun as => [.int 0, .ref 63]) (fun as => lv_args 0 as) ?_ ?_ ?_ ?_ ?_ ?_
  · rintro as M ⟨u, rfl, hpA⟩; exact Nat.le_of_ble_eq_true rfl
  · rintro as M ⟨u, rfl, hpA⟩
    simp only [gZ_tick]
    cases ftA_tick [.ref 0, .int u] M with
    | none => exact ⟨_, rfl⟩
    | some E => exact ⟨_, rfl⟩
  · rintro as M ⟨u, rfl, hpA⟩
    refine ⟨100, ?g1_k_4⟩
    exact ⟨rfl, rfl, rfl, rfl, rfl⟩
  · rintro as M ⟨u, rfl, hpA⟩
    exact ⟨hpA, rfl, Nat.le_of_ble_eq_true rfl⟩
  · rintro as M ⟨u, rfl, hpA⟩ hf
    replace hf : ftA_tick [.ref 0, .int u] M = none := hf
    refine ⟨100, (And.intro rfl (And.intro ?g1_i_8 (Exists.intro _ (And.intro rfl (And.intro (by decide) (And.intro ?g2_w_16 ?g3_r_16))))))⟩
    case g1_i_8 =>
      exact vp_in_nI (n := 0) (N := 1) (by decide) (by decide)
    case g2_w_16 =>
      rfl
    case g3_r_16 =>
      refine ⟨?_, ?_, Nat.le_of_ble_eq_true rfl⟩
      · simp only [gZ_tick, hf]; rfl
      · simp only [gZ_tick, hf]; rfl
  · rintro as M E ⟨u, rfl, hpA⟩ hf
    replace hf : ftA_tick [.ref 0, .int u] M = some E := hf
    have hg : gZ_tick [.ref 0, .int u, .ref 63] M = (some (.int (nI (xh_ix ["java/lang/IndexOutOfBoundsException"] E))), M) := by
      simp only [gZ_tick, hf]
    have hE : E = "java/lang/IndexOutOfBoundsException" := by
      simp only [ftA_tick] at hf
      rcases xo_c hf with h | hf
      · exact (Option.some.inj h).symm
      cases hf
    rcases hE with rfl
    · exact ⟨[], (0, 9, 12, 13), [], 1, rfl, fun _ h => absurd h List.not_mem_nil, by decide, by decide, ⟨"java/lang/IndexOutOfBoundsException", xz_262, xn_16⟩, ⟨3, by decide, Or.inl ⟨⟨3, rfl, by decide +kernel⟩, by decide +kernel, by decide +kernel⟩⟩, hg⟩
