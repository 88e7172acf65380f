/-! THROWS of the class: texts, and the words of its exceptions -/
def xh_ss : List (Nat × String) := [(71, "skills, rank or day"), (81, "no room for a person"), (93, "no such person"), (96, "up or down"), (104, "something would be left below 0"), (114, "days"), (116, "less than it was"), (118, "no such day"), (124, "it is a holiday"), (130, "no such days"), (136, "skills or least"), (139, "no room for a crew"), (144, "no such crew or person"), (152, "it is so"), (163, "no such person or kind"), (171, "days or halves"), (176, "a day of it is one of another ask"), (182, "less than 0 would be left"), (185, "no room for an ask"), (191, "no such ask or person"), (205, "no step by this person"), (227, "no such ask"), (232, "it was withdrawn"), (240, "no such what"), (242, "no such person, year or what"), (256, "no such crew"), (265, "no such row"), (276, "no such person or skill"), (281, "hours"), (283, "no such day, or it is over"), (286, "no room for a call"), (294, "no such call"), (297, "it does not wait")]
theorem xh_at_IndexOutOfBoundsException : ∀ w ∈ vx_atS "AbsenceRows" 73 "java/lang/IndexOutOfBoundsException" xm_nms, w ∈ xt_T ∨ w ∈ xk_ns := by decide +kernel
theorem xh_ot_IndexOutOfBoundsException : ∀ w ∈ Cond.classLink "AbsenceRows" 69 "java/lang/IndexOutOfBoundsException" :: Cond.initialized "java/lang/IndexOutOfBoundsException" :: vx_atS "AbsenceRows" 73 "java/lang/IndexOutOfBoundsException" xm_nms, vx_ot w = true := by decide +kernel
theorem xh_cl_IndexOutOfBoundsException : Cond.classLink "AbsenceRows" 69 "java/lang/IndexOutOfBoundsException" ∈ xt_T := xt_in 274 (by decide +kernel) rfl
theorem xh_in_IndexOutOfBoundsException : Cond.initialized "java/lang/IndexOutOfBoundsException" ∈ xt_T := xt_in 48 (by decide +kernel) rfl
theorem xh_at_UnsupportedOperationException : ∀ w ∈ vx_atS "AbsenceRows" 83 "java/lang/UnsupportedOperationException" xm_nms, w ∈ xt_T ∨ w ∈ xk_ns := by decide +kernel
theorem xh_ot_UnsupportedOperationException : ∀ w ∈ Cond.classLink "AbsenceRows" 79 "java/lang/UnsupportedOperationException" :: Cond.initialized "java/lang/UnsupportedOperationException" :: vx_atS "AbsenceRows" 83 "java/lang/UnsupportedOperationException" xm_nms, vx_ot w = true := by decide +kernel
theorem xh_cl_UnsupportedOperationException : Cond.classLink "AbsenceRows" 79 "java/lang/UnsupportedOperationException" ∈ xt_T := xt_in 343 (by decide +kernel) rfl
theorem xh_in_UnsupportedOperationException : Cond.initialized "java/lang/UnsupportedOperationException" ∈ xt_T := xt_in 49 (by decide +kernel) rfl
theorem xh_at_IllegalStateException : ∀ w ∈ vx_atS "AbsenceRows" 106 "java/lang/IllegalStateException" xm_nms, w ∈ xt_T ∨ w ∈ xk_ns := by decide +kernel
theorem xh_ot_IllegalStateException : ∀ w ∈ Cond.classLink "AbsenceRows" 102 "java/lang/IllegalStateException" :: Cond.initialized "java/lang/IllegalStateException" :: vx_atS "AbsenceRows" 106 "java/lang/IllegalStateException" xm_nms, vx_ot w = true := by decide +kernel
theorem xh_cl_IllegalStateException : Cond.classLink "AbsenceRows" 102 "java/lang/IllegalStateException" ∈ xt_T := xt_in 450 (by decide +kernel) rfl
theorem xh_in_IllegalStateException : Cond.initialized "java/lang/IllegalStateException" ∈ xt_T := xt_in 52 (by decide +kernel) rfl
theorem xh_at_IllegalArgumentException : ∀ w ∈ vx_atS "AbsenceRows" 95 "java/lang/IllegalArgumentException" xm_nms, w ∈ xt_T ∨ w ∈ xk_ns := by decide +kernel
theorem xh_ot_IllegalArgumentException : ∀ w ∈ Cond.classLink "AbsenceRows" 91 "java/lang/IllegalArgumentException" :: Cond.initialized "java/lang/IllegalArgumentException" :: vx_atS "AbsenceRows" 95 "java/lang/IllegalArgumentException" xm_nms, vx_ot w = true := by decide +kernel
theorem xh_cl_IllegalArgumentException : Cond.classLink "AbsenceRows" 91 "java/lang/IllegalArgumentException" ∈ xt_T := xt_in 377 (by decide +kernel) rfl
theorem xh_in_IllegalArgumentException : Cond.initialized "java/lang/IllegalArgumentException" ∈ xt_T := xt_in 50 (by decide +kernel) rfl
noncomputable def xo_ (c : Prop) (a b : Option String) : Option String := @ite (Option String) c (Classical.propDecidable c) a b
theorem xo_t {c : Prop} {a b : Option String} (h : c) : xo_ c a b = a := by simp [xo_, h]
theorem xo_f {c : Prop} {a b : Option String} (h : ¬ c) : xo_ c a b = b := by simp [xo_, h]
def xr_p : Room := { frames := 7, cells := 1, slots := 6, locals := 210 }
/-! THE CLASS's PUBLIC METHODS -/
theorem xl_has {x y : Int32} {N : Nat} (hN : N < 2 ^ 30) (hy : xv_n y N) (h : 0 ≤ x ∧ x ≤ y - 1) : vp_in x N := by
  obtain ⟨c, hc, rfl⟩ := hy
  obtain ⟨h1, h2⟩ := h
  rw [vp_in_iff]
  rw [Int32.le_iff_toInt_le] at h1 h2
  have e1 : (nI c - 1).toInt = (c : Int) - 1 := pk_sub_toInt (a := c) (b := 1) (by omega) (by omega)
  have e0 : (0 : Int32).toInt = 0 := rfl
  omega
theorem xl_day {d : Int32} (h : 0 ≤ d ∧ d ≤ 729) : vp_in d 730 := by
  rw [vp_in_iff]
  obtain ⟨h1, h2⟩ := h
  rw [Int32.le_iff_toInt_le] at h1 h2
  have e0 : (0 : Int32).toInt = 0 := rfl
  have e1 : (729 : Int32).toInt = 729 := rfl
  omega
theorem xl_span {f t : Int32} (hf : 0 ≤ f ∧ f ≤ 729) (ht : 0 ≤ t ∧ t ≤ 729) (h : f ≤ t) : xv_span f t := by
  obtain ⟨a, ha, rfl⟩ := vp_in_of (xl_day hf) (by decide)
  obtain ⟨b, hb, rfl⟩ := vp_in_of (xl_day ht) (by decide)
  exact ⟨a, b, rfl, rfl, (nI_leI (by omega) (by omega)).mp h, hb⟩
theorem xl_room {x : Int32} {N : Nat} {y : Int32} (hN : N < 2 ^ 31) (hy : y = nI N) (hx : xv_n x N) (h : ¬ y ≤ x) : vp_in x N := by
  obtain ⟨c, hc, rfl⟩ := hx
  subst hy
  exact vp_in_nI ((nI_ltI (by omega) hN).mp (Int32.not_le.mp h)) (by omega)
def pA_person (as : List Value) (M : xm_M) : Prop := ∃ s r d : Int32, as = [.ref 0, .int s, .int r, .int d] ∧ xv_n (M 2 0) 20
noncomputable def fA_person (as : List Value) (M : xm_M) : Option Value × xm_M := match as with
  | [_, .int s, .int r, .int d] => ((fP_add [.ref 2, .int s, .int r, .int d] M).1, (fP_add [.ref 2, .int s, .int r, .int d] M).2)
  | _ => (none, M)
noncomputable def ftA_person (as : List Value) (M : xm_M) : Option String := match as with
  | [_, .int s, .int r, .int d] => xo_ (¬ ((0 ≤ s ∧ s ≤ 255) ∧ (0 ≤ r ∧ r ≤ 9) ∧ (0 ≤ d ∧ d ≤ 729))) (some "java/lang/IndexOutOfBoundsException") (xo_ (20 ≤ M 2 0) (some "java/lang/UnsupportedOperationException") (none))
  | _ => none
noncomputable def tA_person : List (Nat × xm_C) := [(61, sA_isWithin), (65, sA_isDay), (84, sP_add)]
theorem lA_person (l : Launch) : ∀ n C, (n, C) ∈ tA_person → xm_lkS l "AbsenceRows" xt_T xk_ns xr_p xk_cl xk_tA n C ∨ xm_lkV l "AbsenceRows" xt_T xk_ns xr_p xk_cl xk_tA n C := fun n C h => (show ∀ q ∈ tA_person, xm_lkS l "AbsenceRows" xt_T xk_ns xr_p xk_cl xk_tA q.1 q.2 ∨ xm_lkV l "AbsenceRows" xt_T xk_ns xr_p xk_cl xk_tA q.1 q.2 from List.forall_mem_cons.mpr ⟨Or.inl ⟨xy_A_isWithin, xb_A_isWithin, 3, (some .boolean), xr_ 0, rfl, ⟨xe_A_isWithin, xw_37, ⟨by decide, by decide, by decide +kernel⟩, ⟨Nat.le_of_ble_eq_true rfl, Nat.le_of_ble_eq_true rfl⟩, rfl, rfl⟩, xw_269, Or.inl xw_268, Or.inl ⟨rfl, uA_isWithin, cA_isWithin l⟩⟩, List.forall_mem_cons.mpr ⟨Or.inl ⟨xy_A_isDay, xb_A_isDay, 1, (some .boolean), xr_ 1, rfl, ⟨xe_A_isDay, xw_37, ⟨by decide, by decide, by decide +kernel⟩, ⟨Nat.le_of_ble_eq_true rfl, Nat.le_of_ble_eq_true rfl⟩, rfl, rfl⟩, xw_272, Or.inl xw_271, Or.inl ⟨rfl, uA_isDay, cA_isDay l⟩⟩, List.forall_mem_cons.mpr ⟨Or.inr ⟨xy_P_add, xb_P_add, 4, (some .int), xr_ 0, 3, 2, 2, [none, some 8, some 9, some 10, some 11, some 12, some 13, some 14], xk_T2, 8, rfl, rfl, ⟨xe_P_add, xw_39, ⟨by decide, by decide, by decide +kernel⟩, ⟨Nat.le_of_ble_eq_true rfl, Nat.le_of_ble_eq_true rfl⟩, rfl, rfl⟩, xw_359, xw_360, xw_361, rfl, rfl, vP_add, Or.inr ⟨rfl, cP_add l⟩⟩, fun _ h => absurd h List.not_mem_nil⟩⟩⟩) (n, C) h
def ttA_person : List (Nat × xm_Q) := [(28, (69, 71, 73, false, "java/lang/IndexOutOfBoundsException", "skills, rank or day")), (50, (79, 81, 83, false, "java/lang/UnsupportedOperationException", "no room for a person"))]
theorem toA_person : ∀ q ∈ ttA_person, xm_thr "AbsenceRows" xt_T xk_ns xh_ss xb_A_person q.1 q.2 := List.forall_mem_cons.mpr ⟨⟨⟨by decide +kernel, by decide +kernel, by decide +kernel, by decide +kernel, by decide +kernel⟩, by decide, xh_cl_IndexOutOfBoundsException, xh_in_IndexOutOfBoundsException, xh_at_IndexOutOfBoundsException, xh_ot_IndexOutOfBoundsException, List.mem_of_getElem? (i := 0) rfl⟩, List.forall_mem_cons.mpr ⟨⟨⟨by decide +kernel, by decide +kernel, by decide +kernel, by decide +kernel, by decide +kernel⟩, by decide, xh_cl_UnsupportedOperationException, xh_in_UnsupportedOperationException, xh_at_UnsupportedOperationException, xh_ot_UnsupportedOperationException, List.mem_of_getElem? (i := 1) rfl⟩, fun _ h => absurd h List.not_mem_nil⟩⟩
set_option maxRecDepth 20000 in
set_option maxHeartbeats 4000000 in
theorem cA_person (l : Launch) (hl : l.stackTraces = false) : xm_Th l xy_A_person (Cond.code xy_A_person xb_A_person 4 (some .int) :: xt_T) xr_p "AbsenceRows" xh_ss xk_cl xk_ns xk_tA pA_person fA_person ftA_person := by
  refine xm_mk_th (rt := .int) (fl := xf_A) (ct := tA_person) (cn := []) (cj := []) (tt := ttA_person) hl (by decide) xs_A xd_A_person rfl (Or.inr rfl) (lA_person l) toA_person ⟨Nat.le_of_ble_eq_true rfl, Nat.le_of_ble_eq_true rfl, rfl, rfl⟩ (fun _ _ _ _ _ _ _ _ => False) ?_ ?_ ?_ (fun _ _ _ _ _ _ _ _ _ h => h.elim) ?_
  · rintro as M ⟨s, r, d, rfl, hpre⟩; exact Nat.le_of_ble_eq_true rfl
  · rintro as M ⟨s, r, d, rfl, hpre⟩; simp [fA_person, fP_add]
  · rintro as M v ⟨s, r, d, rfl, hpre⟩ h; simp [fA_person, fP_add] at h
  · rintro as M ⟨s, r, d, rfl, hpre⟩
    refine ⟨600, (And.intro rfl (And.intro (Nat.le_of_ble_eq_true rfl) (And.intro (Nat.le_of_ble_eq_true rfl) (And.intro ?g1_c_5 (And.intro (by decide) (And.intro (fun h8 => ?g2_t_28) (fun h8 => (And.intro rfl (And.intro (Nat.le_of_ble_eq_true rfl) (And.intro (Nat.le_of_ble_eq_true rfl) (And.intro ?g3_c_15 (And.intro (by decide) (And.intro (fun h18 => ?g4_t_28) (fun h18 => (And.intro rfl (And.intro (Nat.le_of_ble_eq_true rfl) (And.intro (Nat.le_of_ble_eq_true rfl) (And.intro ?g5_c_22 (And.intro (by decide) (And.intro (fun h25 => (And.intro rfl (And.intro rfl (And.intro (by decide) (And.intro (fun h47 => (And.intro rfl (And.intro rfl (And.intro (Nat.le_of_ble_eq_true rfl) (And.intro (Nat.le_of_ble_eq_true rfl) (And.intro ?g6_c_67 (And.intro ?g7_w_70 ?g8_r_70))))))) (fun h47 => ?g9_t_50)))))) (fun h25 => ?g10_t_28)))))))))))))))))))))⟩
    case g1_c_5 =>
      exact ⟨_, _, _, rfl⟩
    case g2_t_28 =>
      refine ⟨rfl, _, rfl, ?_⟩
      simp only [ftA_person]
      try simp only [xi_0, xi_n0] at *
      grind [xo_t, xo_f, Int32.not_lt, Int32.not_le]
    case g3_c_15 =>
      exact ⟨_, _, _, rfl⟩
    case g4_t_28 =>
      refine ⟨rfl, _, rfl, ?_⟩
      simp only [ftA_person]
      try simp only [xi_0, xi_n0] at *
      grind [xo_t, xo_f, Int32.not_lt, Int32.not_le]
    case g5_c_22 =>
      exact ⟨_, rfl⟩
    case g6_c_67 =>
      sorry
    case g7_w_70 =>
      first | rfl | exact xi_nb
    case g8_r_70 =>
      refine ⟨?_, rfl, rfl⟩
      simp only [ftA_person]
      try simp only [xi_0, xi_n0] at *
      grind [xo_t, xo_f, Int32.not_lt, Int32.not_le]
    case g9_t_50 =>
      refine ⟨rfl, _, rfl, ?_⟩
      simp only [ftA_person]
      try simp only [xi_0, xi_n0] at *
      grind [xo_t, xo_f, Int32.not_lt, Int32.not_le]
    case g10_t_28 =>
      refine ⟨rfl, _, rfl, ?_⟩
      simp only [ftA_person]
      try simp only [xi_0, xi_n0] at *
      grind [xo_t, xo_f, Int32.not_lt, Int32.not_le]
def pA_carry (as : List Value) (M : xm_M) : Prop := ∃ d : Int32, as = [.ref 0, .int d]
noncomputable def fA_carry (as : List Value) (M : xm_M) : Option Value × xm_M := match as with
  | [_, .int d] => (none, xm_up M 0 6 d)
  | _ => (none, M)
noncomputable def ftA_carry (as : List Value) (M : xm_M) : Option String := match as with
  | [_, .int d] => xo_ (¬ (0 ≤ d ∧ d ≤ 100)) (some "java/lang/IndexOutOfBoundsException") (xo_ (d < M 0 6) (some "java/lang/IllegalStateException") (none))
  | _ => none
noncomputable def tA_carry : List (Nat × xm_C) := [(61, sA_isWithin)]
theorem lA_carry (l : Launch) : ∀ n C, (n, C) ∈ tA_carry → xm_lkS l "AbsenceRows" xt_T xk_ns xr_p xk_cl xk_tA n C ∨ xm_lkV l "AbsenceRows" xt_T xk_ns xr_p xk_cl xk_tA n C := fun n C h => (show ∀ q ∈ tA_carry, xm_lkS l "AbsenceRows" xt_T xk_ns xr_p xk_cl xk_tA q.1 q.2 ∨ xm_lkV l "AbsenceRows" xt_T xk_ns xr_p xk_cl xk_tA q.1 q.2 from List.forall_mem_cons.mpr ⟨Or.inl ⟨xy_A_isWithin, xb_A_isWithin, 3, (some .boolean), xr_ 0, rfl, ⟨xe_A_isWithin, xw_37, ⟨by decide, by decide, by decide +kernel⟩, ⟨Nat.le_of_ble_eq_true rfl, Nat.le_of_ble_eq_true rfl⟩, rfl, rfl⟩, xw_269, Or.inl xw_268, Or.inl ⟨rfl, uA_isWithin, cA_isWithin l⟩⟩, fun _ h => absurd h List.not_mem_nil⟩) (n, C) h
def ttA_carry : List (Nat × xm_Q) := [(10, (69, 114, 73, false, "java/lang/IndexOutOfBoundsException", "days")), (28, (102, 116, 106, false, "java/lang/IllegalStateException", "less than it was"))]
theorem toA_carry : ∀ q ∈ ttA_carry, xm_thr "AbsenceRows" xt_T xk_ns xh_ss xb_A_carry q.1 q.2 := List.forall_mem_cons.mpr ⟨⟨⟨by decide +kernel, by decide +kernel, by decide +kernel, by decide +kernel, by decide +kernel⟩, by decide, xh_cl_IndexOutOfBoundsException, xh_in_IndexOutOfBoundsException, xh_at_IndexOutOfBoundsException, xh_ot_IndexOutOfBoundsException, List.mem_of_getElem? (i := 5) rfl⟩, List.forall_mem_cons.mpr ⟨⟨⟨by decide +kernel, by decide +kernel, by decide +kernel, by decide +kernel, by decide +kernel⟩, by decide, xh_cl_IllegalStateException, xh_in_IllegalStateException, xh_at_IllegalStateException, xh_ot_IllegalStateException, List.mem_of_getElem? (i := 6) rfl⟩, fun _ h => absurd h List.not_mem_nil⟩⟩
set_option maxRecDepth 20000 in
set_option maxHeartbeats 4000000 in
theorem cA_carry (l : Launch) (hl : l.stackTraces = false) : xm_Th l xy_A_carry (Cond.code xy_A_carry xb_A_carry 2 none :: xt_T) xr_p "AbsenceRows" xh_ss xk_cl xk_ns xk_tA pA_carry fA_carry ftA_carry := by
  refine xm_mk_th (rt := .int) (fl := xf_A) (ct := tA_carry) (cn := []) (cj := []) (tt := ttA_carry) hl (by decide) xs_A xd_A_carry rfl (Or.inl rfl) (lA_carry l) toA_carry ⟨Nat.le_of_ble_eq_true rfl, Nat.le_of_ble_eq_true rfl, rfl, rfl⟩ (fun _ _ _ _ _ _ _ _ => False) ?_ ?_ ?_ (fun _ _ _ _ _ _ _ _ _ h => h.elim) ?_
  · rintro as M ⟨d, rfl⟩; exact Nat.le_of_ble_eq_true rfl
  · rintro as M ⟨d, rfl⟩; simp [fA_carry]
  · rintro as M v ⟨d, rfl⟩ h; simp [fA_carry] at h
  · rintro as M ⟨d, rfl⟩
    refine ⟨600, (And.intro rfl (And.intro (Nat.le_of_ble_eq_true rfl) (And.intro (Nat.le_of_ble_eq_true rfl) (And.intro ?g1_c_4 (And.intro (by decide) (And.intro (fun h7 => (And.intro rfl (And.intro (by decide) (And.intro (fun h25 => (And.intro rfl ?g2_r_43)) (fun h25 => ?g3_t_28))))) (fun h7 => ?g4_t_10)))))))⟩
    case g1_c_4 =>
      exact ⟨_, _, _, rfl⟩
    case g2_r_43 =>
      refine ⟨?_, rfl, rfl⟩
      simp only [ftA_carry]
      try simp only [xi_0, xi_n0] at *
      grind [xo_t, xo_f, Int32.not_lt, Int32.not_le]
    case g3_t_28 =>
      refine ⟨rfl, _, rfl, ?_⟩
      simp only [ftA_carry]
      try simp only [xi_0, xi_n0] at *
      grind [xo_t, xo_f, Int32.not_lt, Int32.not_le]
    case g4_t_10 =>
      refine ⟨rfl, _, rfl, ?_⟩
      simp only [ftA_carry]
      try simp only [xi_0, xi_n0] at *
      grind [xo_t, xo_f, Int32.not_lt, Int32.not_le]
