/-! THROWS of the class: texts, and the words of its exceptions -/
def xh_ss : List (Nat × String) := [(71, "skills, rank or day"), (81, "no room for a person"), (93, "no such person"), (96, "up or down"), (104, "something would be left below 0"), (114, "days"), (116, "less than it was"), (118, "no such day"), (124, "it is a holiday"), (130, "no such days"), (136, "skills or least"), (139, "no room for a crew"), (144, "no such crew or person"), (152, "it is so"), (163, "no such person or kind"), (171, "days or halves"), (176, "a day of it is one of another ask"), (182, "less than 0 would be left"), (185, "no room for an ask"), (191, "no such ask or person"), (205, "no step by this person"), (227, "no such ask"), (232, "it was withdrawn"), (240, "no such what"), (242, "no such person, year or what"), (256, "no such crew"), (265, "no such row"), (276, "no such person or skill"), (281, "hours"), (283, "no such day, or it is over"), (286, "no room for a call"), (294, "no such call"), (297, "it does not wait")]
theorem xh_at_IndexOutOfBoundsException : ∀ w ∈ vx_atS "AbsenceRows" 73 "java/lang/IndexOutOfBoundsException" xm_nms, w ∈ xt_T ∨ w ∈ xk_ns := by decide +kernel
theorem xh_ot_IndexOutOfBoundsException : ∀ w ∈ Cond.classLink "AbsenceRows" 69 "java/lang/IndexOutOfBoundsException" :: Cond.initialized "java/lang/IndexOutOfBoundsException" :: vx_atS "AbsenceRows" 73 "java/lang/IndexOutOfBoundsException" xm_nms, vx_ot w = true := by decide +kernel
theorem xh_cl_IndexOutOfBoundsException : Cond.classLink "AbsenceRows" 69 "java/lang/IndexOutOfBoundsException" ∈ xt_T := xt_in 274 (by decide +kernel) rfl
theorem xh_in_IndexOutOfBoundsException : Cond.initialized "java/lang/IndexOutOfBoundsException" ∈ xt_T := xt_in 48 (by decide +kernel) rfl
theorem xh_at_UnsupportedOperationException : ∀ w ∈ vx_atS "AbsenceRows" 83 "java/lang/UnsupportedOperationException" xm_nms, w ∈ xt_T ∨ w ∈ xk_ns := by decide +kernel
theorem xh_ot_UnsupportedOperationException : ∀ w ∈ Cond.classLink "AbsenceRows" 79 "java/lang/UnsupportedOperationException" :: Cond.initialized "java/lang/UnsupportedOperationException" :: vx_atS "AbsenceRows" 83 "java/lang/UnsupportedOperationException" xm_nms, vx_ot w = true := by decide +kernel
theorem xh_cl_UnsupportedOperationException : Cond.classLink "AbsenceRows" 79 "java/lang/UnsupportedOperationException" ∈ xt_T := xt_in 343 (by decide +kernel) rfl
theorem xh_in_UnsupportedOperationException : Cond.initialized "java/lang/UnsupportedOperationException" ∈ xt_T := xt_in 49 (by decide +kernel) rfl
theorem xh_at_IllegalStateException : ∀ w ∈ vx_atS "AbsenceRows" 106 "java/lang/IllegalStateException" xm_nms, w ∈ xt_T ∨ w ∈ xk_ns := by decide +kernel
theorem xh_ot_IllegalStateException : ∀ w ∈ Cond.classLink "AbsenceRows" 102 "java/lang/IllegalStateException" :: Cond.initialized "java/lang/IllegalStateException" :: vx_atS "AbsenceRows" 106 "java/lang/IllegalStateException" xm_nms, vx_ot w = true := by decide +kernel
theorem xh_cl_IllegalStateException : Cond.classLink "AbsenceRows" 102 "java/lang/IllegalStateException" ∈ xt_T := xt_in 450 (by decide +kernel) rfl
theorem xh_in_IllegalStateException : Cond.initialized "java/lang/IllegalStateException" ∈ xt_T := xt_in 52 (by decide +kernel) rfl
theorem xh_at_IllegalArgumentException : ∀ w ∈ vx_atS "AbsenceRows" 95 "java/lang/IllegalArgumentException" xm_nms, w ∈ xt_T ∨ w ∈ xk_ns := by decide +kernel
theorem xh_ot_IllegalArgumentException : ∀ w ∈ Cond.classLink "AbsenceRows" 91 "java/lang/IllegalArgumentException" :: Cond.initialized "java/lang/IllegalArgumentException" :: vx_atS "AbsenceRows" 95 "java/lang/IllegalArgumentException" xm_nms, vx_ot w = true := by decide +kernel
theorem xh_cl_IllegalArgumentException : Cond.classLink "AbsenceRows" 91 "java/lang/IllegalArgumentException" ∈ xt_T := xt_in 377 (by decide +kernel) rfl
theorem xh_in_IllegalArgumentException : Cond.initialized "java/lang/IllegalArgumentException" ∈ xt_T := xt_in 50 (by decide +kernel) rfl
noncomputable def xo_ (c : Prop) (a b : Option String) : Option String := @ite (Option String) c (Classical.propDecidable c) a b
theorem xo_t {c : Prop} {a b : Option String} (h : c) : xo_ c a b = a := by simp [xo_, h]
theorem xo_f {c : Prop} {a b : Option String} (h : ¬ c) : xo_ c a b = b := by simp [xo_, h]
def xr_p : Room := { frames := 7, cells := 1, slots := 6, locals := 210 }
/-! THE CLASS's PUBLIC METHODS -/
theorem xl_has {x y : Int32} {N : Nat} (hN : N < 2 ^ 30) (hy : xv_n y N) (h : 0 ≤ x ∧ x ≤ y - 1) : vp_in x N := by
  obtain ⟨c, hc, rfl⟩ := hy
  obtain ⟨h1, h2⟩ := h
  rw [vp_in_iff]
  rw [Int32.le_iff_toInt_le] at h1 h2
  have e1 : (nI c - 1).toInt = (c : Int) - 1 := pk_sub_toInt (a := c) (b := 1) (by omega) (by omega)
  have e0 : (0 : Int32).toInt = 0 := rfl
  omega
theorem xl_hasc {x y : Int32} {N : Nat} (hN : N < 2 ^ 30) (hy : xv_n y N) (h : 0 ≤ x ∧ x ≤ y - 1) : x.toNatClampNeg < y.toNatClampNeg := by
  obtain ⟨c, hc, rfl⟩ := hy
  have h3 : vp_in x c := xl_has (by omega) ⟨c, Nat.le_refl _, rfl⟩ h
  obtain ⟨k, hk, rfl⟩ := vp_in_of h3 (by omega)
  rw [nI_clamp (by omega), nI_clamp (by omega)]
  exact hk
theorem xl_day {d : Int32} (h : 0 ≤ d ∧ d ≤ 729) : vp_in d 730 := by
  rw [vp_in_iff]
  obtain ⟨h1, h2⟩ := h
  rw [Int32.le_iff_toInt_le] at h1 h2
  have e0 : (0 : Int32).toInt = 0 := rfl
  have e1 : (729 : Int32).toInt = 729 := rfl
  omega
theorem xl_8 {d : Int32} (h : 0 ≤ d ∧ d ≤ 7) : vp_in d 8 := by
  rw [vp_in_iff]
  obtain ⟨h1, h2⟩ := h
  rw [Int32.le_iff_toInt_le] at h1 h2
  have e0 : (0 : Int32).toInt = 0 := rfl
  have e1 : (7 : Int32).toInt = 7 := rfl
  omega
theorem xl_span {f t : Int32} (hf : 0 ≤ f ∧ f ≤ 729) (ht : 0 ≤ t ∧ t ≤ 729) (h : f ≤ t) : xv_span f t := by
  obtain ⟨a, ha, rfl⟩ := vp_in_of (xl_day hf) (by decide)
  obtain ⟨b, hb, rfl⟩ := vp_in_of (xl_day ht) (by decide)
  exact ⟨a, b, rfl, rfl, (nI_leI (by omega) (by omega)).mp h, hb⟩
theorem xl_room {x : Int32} {N : Nat} {y : Int32} (hN : N < 2 ^ 31) (hy : y = nI N) (hx : xv_n x N) (h : ¬ y ≤ x) : vp_in x N := by
  obtain ⟨c, hc, rfl⟩ := hx
  subst hy
  exact vp_in_nI ((nI_ltI (by omega) hN).mp (Int32.not_le.mp h)) (by omega)
/-- the class's places are within their arrays -/
def xv_I (M : xm_M) : Prop := xv_C M ∧ xv_n (M 5 0) 100 ∧ (∀ i, i < (M 4 0).toNatClampNeg → xv_span (M 20 i) (M 21 i) ∧ vp_in (M 18 i) 20) ∧ (∀ i, i < (M 6 0).toNatClampNeg → vp_in (M 28 i) 6)
theorem xv_I.P {M : xm_M} (h : xv_I M) : xv_n (M 2 0) 20 := h.1.1
theorem xv_I.W {M : xm_M} (h : xv_I M) : xv_n (M 3 0) 6 := h.1.2.1
theorem xv_I.A {M : xm_M} (h : xv_I M) : xv_n (M 4 0) 80 := h.1.2.2.1
theorem xv_I.H {M : xm_M} (h : xv_I M) : xv_n (M 5 0) 100 := h.2.1
theorem xv_I.L {M : xm_M} (h : xv_I M) : xv_n (M 6 0) 60 := h.1.2.2.2
theorem xv_I.K {M : xm_M} (h : xv_I M) : xv_K M := by
  obtain ⟨c, h1, h2⟩ := h.A
  refine ⟨c, h1, h2, fun i hi => (h.2.2.1 i ?_).1⟩
  rw [h2, nI_clamp (by omega)]; exact hi
theorem xv_I.a {M : xm_M} (h : xv_I M) {a : Int32} (ha : 0 ≤ a ∧ a ≤ M 4 0 - 1) : xv_span (M 20 a.toNatClampNeg) (M 21 a.toNatClampNeg) ∧ vp_in (M 18 a.toNatClampNeg) 20 := h.2.2.1 _ (xl_hasc (by decide) h.A ha)
theorem xv_I.c {M : xm_M} (h : xv_I M) {a : Int32} (ha : 0 ≤ a ∧ a ≤ M 6 0 - 1) : vp_in (M 28 a.toNatClampNeg) 6 := h.2.2.2 _ (xl_hasc (by decide) h.L ha)
theorem xl_b8 {p s : Int32} (hp : vp_in p 20) (hs : vp_in s 8) : vp_in (p * 8 + s) 160 := by
  obtain ⟨i, hi, rfl⟩ := vp_in_of hs (by decide)
  exact xl_b hp hi
/-- places that hold what a call's turn leaves as it is -/
def xv_s (M N : xm_M) : Prop := ∀ p, p ≠ 13 → p ≠ 30 → p ≠ 31 → p ≠ 32 → p ≠ 33 → N p = M p
theorem xv_s.rf (M : xm_M) : xv_s M M := fun _ _ _ _ _ _ => rfl
theorem xv_s.tr {M N O : xm_M} (h : xv_s M N) (g : xv_s N O) : xv_s M O := fun p a b c d e => (g p a b c d e).trans (h p a b c d e)
theorem xm_up_ne {M : xm_M} {p q k : Nat} {x : Int32} (h : q ≠ p) : xm_up M p k x q = M q := by funext b; simp [xm_up, h]
theorem xv_s.nx (M : xm_M) (k : Int32) : xv_s M (xm_nx M k) := by
  intro p a b c d e
  unfold xm_nx
  by_cases h : xd_nx M k = -1
  · rw [if_pos h]; unfold xm_fl; rw [xm_up_ne e, xm_up_ne c, xm_up_ne b]
  · rw [if_neg h]; unfold xm_an; rw [xm_up_ne e, xm_up_ne d, xm_up_ne c, xm_up_ne a]
theorem xv_s.I {M N : xm_M} (h : xv_s M N) (hI : xv_I M) : xv_I N := by
  have e : ∀ p, p ≠ 13 → p ≠ 30 → p ≠ 31 → p ≠ 32 → p ≠ 33 → N p = M p := h
  unfold xv_I xv_C at *
  rw [e 2, e 3, e 4, e 5, e 6, e 20, e 21, e 18, e 28] <;> first | exact hI | decide
/-- one round of the calls: those that wait and are due go on -/
noncomputable def xq_go (M : xm_M) : Nat → Int32 × xm_M
  | 0 => (0, M)
  | n + 1 => @ite (Int32 × xm_M) ((xq_go M n).2 30 n = 0 ∧ (xq_go M n).2 33 n ≤ M 0 8) (Classical.propDecidable _) ((xq_go M n).1 + 1, xm_nx (xq_go M n).2 (nI n)) (xq_go M n)
theorem xq_go1t {M : xm_M} {n : Nat} (h : (xq_go M n).2 30 n = 0 ∧ (xq_go M n).2 33 n ≤ M 0 8) : xq_go M (n + 1) = ((xq_go M n).1 + 1, xm_nx (xq_go M n).2 (nI n)) := if_pos h
theorem xq_go1f {M : xm_M} {n : Nat} (h : ¬ ((xq_go M n).2 30 n = 0 ∧ (xq_go M n).2 33 n ≤ M 0 8)) : xq_go M (n + 1) = xq_go M n := if_neg h
theorem xq_go_s (M : xm_M) : ∀ n, xv_s M (xq_go M n).2
  | 0 => xv_s.rf M
  | n + 1 => by
    by_cases h : (xq_go M n).2 30 n = 0 ∧ (xq_go M n).2 33 n ≤ M 0 8
    · rw [xq_go1t h]; exact (xq_go_s M n).tr (xv_s.nx _ _)
    · rw [xq_go1f h]; exact xq_go_s M n
/-- rounds of a tick up to hour e -/
noncomputable def xq_r (s : Int32 × xm_M) (x : Int32) : Int32 × xm_M := (s.1 + (xq_go (xm_up s.2 0 8 x) (s.2 6 0).toNatClampNeg).1, (xq_go (xm_up s.2 0 8 x) (s.2 6 0).toNatClampNeg).2)
noncomputable def xq_n (M : xm_M) : Int32 := xq_m (M 33) (M 6 0).toNatClampNeg
noncomputable def xq_tk (e : Int32) : Nat → Int32 × xm_M → Int32 × xm_M
  | 0, s => s
  | n + 1, s => @ite (Int32 × xm_M) (xq_n s.2 = -1 ∨ e < xq_n s.2) (Classical.propDecidable _) s (xq_tk e n (xq_r s (xq_n s.2)))
theorem xq_tk1t {e : Int32} {n : Nat} {s : Int32 × xm_M} (h : xq_n s.2 = -1 ∨ e < xq_n s.2) : xq_tk e n s = s := by
  cases n with
  | zero => rfl
  | succ n => exact if_pos h
theorem xq_tk1f {e : Int32} {n : Nat} {s : Int32 × xm_M} (h : ¬ (xq_n s.2 = -1 ∨ e < xq_n s.2)) : xq_tk e (n + 1) s = xq_tk e n (xq_r s (xq_n s.2)) := if_neg h
theorem xv_I.hr {M : xm_M} (h : xv_I M) (x : Int32) : xv_I (xm_up M 0 8 x) := by
  have e : ∀ p, p ≠ 0 → (xm_up M 0 8 x) p = M p := fun p hp => xm_up_ne hp
  unfold xv_I xv_C at *
  rw [e 2, e 3, e 4, e 5, e 6, e 20, e 21, e 18, e 28] <;> first | exact h | decide
theorem xv_I.r {s : Int32 × xm_M} (h : xv_I s.2) (x : Int32) : xv_I (xq_r s x).2 := (xq_go_s _ _).I (h.hr x)
theorem xl_tb {x : Int32} {v : Int} (h : x.toInt = v) (h1 : -2147483648 ≤ v ∧ v < 2147483648 := by decide) : x = Int32.ofInt v := by
  rw [← h]; simp
theorem xl_td {x : Int32} {lo hi : Int} (h : x.toInt < lo ∨ hi < x.toInt) (v : Int32) (h1 : lo ≤ v.toInt ∧ v.toInt ≤ hi := by decide) : ¬ x = v := by
  intro q
  subst q
  omega
theorem xl_m1 (z : Int32) : ¬ (if (1 : Int32) < z then z else 1) = 0 := by
  by_cases h : (1 : Int32) < z
  · rw [if_pos h]
    rintro rfl
    exact absurd h (by decide)
  · rw [if_neg h]; decide
theorem xl_cadd {M : xm_M} {w d : Int32} (hw : vp_in w 6) (hI : xv_I M) (hr : vp_in (M 6 0) 60) : vp_in (M 6 0 + 1 - 1) 60 ∧ vp_in ((fL_add [.ref 6, .int w, .int d] M).2 28 (M 6 0 + 1 - 1).toNatClampNeg) 6 ∧ xv_C (fL_add [.ref 6, .int w, .int d] M).2 := by
  have e1 : M 6 0 + 1 - 1 = M 6 0 := by simp
  rw [e1]
  refine ⟨hr, ?_, hI.P, hI.W, hI.A, ?_⟩
  · have e2 : (fL_add [.ref 6, .int w, .int d] M).2 28 (M 6 0).toNatClampNeg = w := by simp [fL_add, xm_up]
    rw [e2]; exact hw
  · obtain ⟨c, hc, h1⟩ := vp_in_of hr (by decide)
    refine ⟨c + 1, by omega, ?_⟩
    rw [nI_succ, ← h1]; rfl
def pA_person (as : List Value) (M : xm_M) : Prop := ∃ s r d : Int32, as = [.ref 0, .int s, .int r, .int d] ∧ xv_I M
noncomputable def fA_person (as : List Value) (M : xm_M) : Option Value × xm_M := match as with
  | [_, .int s, .int r, .int d] => ((fP_add [.ref 2, .int s, .int r, .int d] M).1, (fP_add [.ref 2, .int s, .int r, .int d] M).2)
  | _ => (none, M)
noncomputable def ftA_person (as : List Value) (M : xm_M) : Option String := match as with
  | [_, .int s, .int r, .int d] => xo_ (¬ ((0 ≤ s ∧ s ≤ 255) ∧ (0 ≤ r ∧ r ≤ 9) ∧ (0 ≤ d ∧ d ≤ 729))) (some "java/lang/IndexOutOfBoundsException") (xo_ (20 ≤ M 2 0) (some "java/lang/UnsupportedOperationException") (none))
  | _ => none
noncomputable def tA_person : List (Nat × xm_C) := [(61, sA_isWithin), (65, sA_isDay), (84, sP_add)]
theorem lA_person (l : Launch) : ∀ n C, (n, C) ∈ tA_person → xm_lkS l "AbsenceRows" xt_T xk_ns xr_p xk_cl xk_tA n C ∨ xm_lkV l "AbsenceRows" xt_T xk_ns xr_p xk_cl xk_tA n C := fun n C h => (show ∀ q ∈ tA_person, xm_lkS l "AbsenceRows" xt_T xk_ns xr_p xk_cl xk_tA q.1 q.2 ∨ xm_lkV l "AbsenceRows" xt_T xk_ns xr_p xk_cl xk_tA q.1 q.2 from List.forall_mem_cons.mpr ⟨Or.inl ⟨xy_A_isWithin, xb_A_isWithin, 3, (some .boolean), xr_ 0, rfl, ⟨xe_A_isWithin, xw_37, ⟨by decide, by decide, by decide +kernel⟩, ⟨Nat.le_of_ble_eq_true rfl, Nat.le_of_ble_eq_true rfl⟩, rfl, rfl⟩, xw_269, Or.inl xw_268, Or.inl ⟨rfl, uA_isWithin, cA_isWithin l⟩⟩, List.forall_mem_cons.mpr ⟨Or.inl ⟨xy_A_isDay, xb_A_isDay, 1, (some .boolean), xr_ 1, rfl, ⟨xe_A_isDay, xw_37, ⟨by decide, by decide, by decide +kernel⟩, ⟨Nat.le_of_ble_eq_true rfl, Nat.le_of_ble_eq_true rfl⟩, rfl, rfl⟩, xw_272, Or.inl xw_271, Or.inl ⟨rfl, uA_isDay, cA_isDay l⟩⟩, List.forall_mem_cons.mpr ⟨Or.inr ⟨xy_P_add, xb_P_add, 4, (some .int), xr_ 0, 3, 2, 2, [none, some 8, some 9, some 10, some 11, some 12, some 13, some 14], xk_T2, 8, rfl, rfl, ⟨xe_P_add, xw_39, ⟨by decide, by decide, by decide +kernel⟩, ⟨Nat.le_of_ble_eq_true rfl, Nat.le_of_ble_eq_true rfl⟩, rfl, rfl⟩, xw_359, xw_360, xw_361, rfl, rfl, vP_add, Or.inr ⟨rfl, cP_add l⟩⟩, fun _ h => absurd h List.not_mem_nil⟩⟩⟩) (n, C) h
def ttA_person : List (Nat × xm_Q) := [(28, (69, 71, 73, false, "java/lang/IndexOutOfBoundsException", "skills, rank or day")), (50, (79, 81, 83, false, "java/lang/UnsupportedOperationException", "no room for a person"))]
theorem toA_person : ∀ q ∈ ttA_person, xm_thr "AbsenceRows" xt_T xk_ns xh_ss xb_A_person q.1 q.2 := List.forall_mem_cons.mpr ⟨⟨⟨by decide +kernel, by decide +kernel, by decide +kernel, by decide +kernel, by decide +kernel⟩, by decide, xh_cl_IndexOutOfBoundsException, xh_in_IndexOutOfBoundsException, xh_at_IndexOutOfBoundsException, xh_ot_IndexOutOfBoundsException, List.mem_of_getElem? (i := 0) rfl⟩, List.forall_mem_cons.mpr ⟨⟨⟨by decide +kernel, by decide +kernel, by decide +kernel, by decide +kernel, by decide +kernel⟩, by decide, xh_cl_UnsupportedOperationException, xh_in_UnsupportedOperationException, xh_at_UnsupportedOperationException, xh_ot_UnsupportedOperationException, List.mem_of_getElem? (i := 1) rfl⟩, fun _ h => absurd h List.not_mem_nil⟩⟩
set_option maxRecDepth 20000 in
set_option maxHeartbeats 4000000 in
theorem cA_person (l : Launch) (hl : l.stackTraces = false) : xm_Th l xy_A_person (Cond.code xy_A_person xb_A_person 4 (some .int) :: xt_T) xr_p "AbsenceRows" xh_ss xk_cl xk_ns xk_tA pA_person fA_person ftA_person := by
  refine xm_mk_th (rt := .int) (fl := xf_A) (ct := tA_person) (cn := []) (cj := []) (tt := ttA_person) hl (by decide) xs_A xd_A_person rfl (Or.inr rfl) (lA_person l) toA_person ⟨Nat.le_of_ble_eq_true rfl, Nat.le_of_ble_eq_true rfl, rfl, rfl⟩ (fun _ _ _ _ _ _ _ _ => False) ?_ ?_ ?_ (fun _ _ _ _ _ _ _ _ _ h => h.elim) ?_
  · rintro as M ⟨s, r, d, rfl, hpre⟩; exact Nat.le_of_ble_eq_true rfl
  · rintro as M ⟨s, r, d, rfl, hpre⟩; simp [fA_person, fP_add]
  · rintro as M v ⟨s, r, d, rfl, hpre⟩ h; simp [fA_person, fP_add] at h
  · rintro as M ⟨s, r, d, rfl, hpre⟩
    refine ⟨600, (And.intro rfl (And.intro (Nat.le_of_ble_eq_true rfl) (And.intro (Nat.le_of_ble_eq_true rfl) (And.intro ?g1_c_5 (And.intro (by decide) (And.intro (fun h8 => ?g2_t_28) (fun h8 => (And.intro rfl (And.intro (Nat.le_of_ble_eq_true rfl) (And.intro (Nat.le_of_ble_eq_true rfl) (And.intro ?g3_c_15 (And.intro (by decide) (And.intro (fun h18 => ?g4_t_28) (fun h18 => (And.intro rfl (And.intro (Nat.le_of_ble_eq_true rfl) (And.intro (Nat.le_of_ble_eq_true rfl) (And.intro ?g5_c_22 (And.intro (by decide) (And.intro (fun h25 => (And.intro rfl (And.intro rfl (And.intro (by decide) (And.intro (fun h47 => (And.intro rfl (And.intro rfl (And.intro (Nat.le_of_ble_eq_true rfl) (And.intro (Nat.le_of_ble_eq_true rfl) (And.intro ?g6_c_67 (And.intro ?g7_w_70 ?g8_r_70))))))) (fun h47 => ?g9_t_50)))))) (fun h25 => ?g10_t_28)))))))))))))))))))))⟩
    case g1_c_5 =>
      exact ⟨_, _, _, rfl⟩
    case g2_t_28 =>
      refine ⟨rfl, _, rfl, ?_⟩
      simp only [ftA_person]
      try simp only [xi_0, xi_n0] at *
      grind [xo_t, xo_f, Int32.not_lt, Int32.not_le]
    case g3_c_15 =>
      exact ⟨_, _, _, rfl⟩
    case g4_t_28 =>
      refine ⟨rfl, _, rfl, ?_⟩
      simp only [ftA_person]
      try simp only [xi_0, xi_n0] at *
      grind [xo_t, xo_f, Int32.not_lt, Int32.not_le]
    case g5_c_22 =>
      exact ⟨_, rfl⟩
    case g6_c_67 =>
      exact ⟨_, _, _, rfl, xl_room (by decide) rfl hpre.P (Int32.not_le.mpr h47)⟩
    case g7_w_70 =>
      first | rfl | exact xi_nb
    case g8_r_70 =>
      refine ⟨?_, rfl, rfl⟩
      simp only [ftA_person]
      try simp only [xi_0, xi_n0] at *
      grind [xo_t, xo_f, Int32.not_lt, Int32.not_le]
    case g9_t_50 =>
      refine ⟨rfl, _, rfl, ?_⟩
      simp only [ftA_person]
      try simp only [xi_0, xi_n0] at *
      grind [xo_t, xo_f, Int32.not_lt, Int32.not_le]
    case g10_t_28 =>
      refine ⟨rfl, _, rfl, ?_⟩
      simp only [ftA_person]
      try simp only [xi_0, xi_n0] at *
      grind [xo_t, xo_f, Int32.not_lt, Int32.not_le]
def pA_carry (as : List Value) (M : xm_M) : Prop := ∃ d : Int32, as = [.ref 0, .int d] ∧ xv_I M
noncomputable def fA_carry (as : List Value) (M : xm_M) : Option Value × xm_M := match as with
  | [_, .int d] => (none, xm_up M 0 6 d)
  | _ => (none, M)
noncomputable def ftA_carry (as : List Value) (M : xm_M) : Option String := match as with
  | [_, .int d] => xo_ (¬ (0 ≤ d ∧ d ≤ 100)) (some "java/lang/IndexOutOfBoundsException") (xo_ (d < M 0 6) (some "java/lang/IllegalStateException") (none))
  | _ => none
noncomputable def tA_carry : List (Nat × xm_C) := [(61, sA_isWithin)]
theorem lA_carry (l : Launch) : ∀ n C, (n, C) ∈ tA_carry → xm_lkS l "AbsenceRows" xt_T xk_ns xr_p xk_cl xk_tA n C ∨ xm_lkV l "AbsenceRows" xt_T xk_ns xr_p xk_cl xk_tA n C := fun n C h => (show ∀ q ∈ tA_carry, xm_lkS l "AbsenceRows" xt_T xk_ns xr_p xk_cl xk_tA q.1 q.2 ∨ xm_lkV l "AbsenceRows" xt_T xk_ns xr_p xk_cl xk_tA q.1 q.2 from List.forall_mem_cons.mpr ⟨Or.inl ⟨xy_A_isWithin, xb_A_isWithin, 3, (some .boolean), xr_ 0, rfl, ⟨xe_A_isWithin, xw_37, ⟨by decide, by decide, by decide +kernel⟩, ⟨Nat.le_of_ble_eq_true rfl, Nat.le_of_ble_eq_true rfl⟩, rfl, rfl⟩, xw_269, Or.inl xw_268, Or.inl ⟨rfl, uA_isWithin, cA_isWithin l⟩⟩, fun _ h => absurd h List.not_mem_nil⟩) (n, C) h
def ttA_carry : List (Nat × xm_Q) := [(10, (69, 114, 73, false, "java/lang/IndexOutOfBoundsException", "days")), (28, (102, 116, 106, false, "java/lang/IllegalStateException", "less than it was"))]
theorem toA_carry : ∀ q ∈ ttA_carry, xm_thr "AbsenceRows" xt_T xk_ns xh_ss xb_A_carry q.1 q.2 := List.forall_mem_cons.mpr ⟨⟨⟨by decide +kernel, by decide +kernel, by decide +kernel, by decide +kernel, by decide +kernel⟩, by decide, xh_cl_IndexOutOfBoundsException, xh_in_IndexOutOfBoundsException, xh_at_IndexOutOfBoundsException, xh_ot_IndexOutOfBoundsException, List.mem_of_getElem? (i := 5) rfl⟩, List.forall_mem_cons.mpr ⟨⟨⟨by decide +kernel, by decide +kernel, by decide +kernel, by decide +kernel, by decide +kernel⟩, by decide, xh_cl_IllegalStateException, xh_in_IllegalStateException, xh_at_IllegalStateException, xh_ot_IllegalStateException, List.mem_of_getElem? (i := 6) rfl⟩, fun _ h => absurd h List.not_mem_nil⟩⟩
set_option maxRecDepth 20000 in
set_option maxHeartbeats 4000000 in
theorem cA_carry (l : Launch) (hl : l.stackTraces = false) : xm_Th l xy_A_carry (Cond.code xy_A_carry xb_A_carry 2 none :: xt_T) xr_p "AbsenceRows" xh_ss xk_cl xk_ns xk_tA pA_carry fA_carry ftA_carry := by
  refine xm_mk_th (rt := .int) (fl := xf_A) (ct := tA_carry) (cn := []) (cj := []) (tt := ttA_carry) hl (by decide) xs_A xd_A_carry rfl (Or.inl rfl) (lA_carry l) toA_carry ⟨Nat.le_of_ble_eq_true rfl, Nat.le_of_ble_eq_true rfl, rfl, rfl⟩ (fun _ _ _ _ _ _ _ _ => False) ?_ ?_ ?_ (fun _ _ _ _ _ _ _ _ _ h => h.elim) ?_
  · rintro as M ⟨d, rfl, hpre⟩; exact Nat.le_of_ble_eq_true rfl
  · rintro as M ⟨d, rfl, hpre⟩; simp [fA_carry]
  · rintro as M v ⟨d, rfl, hpre⟩ h; simp [fA_carry] at h
  · rintro as M ⟨d, rfl, hpre⟩
    refine ⟨600, (And.intro rfl (And.intro (Nat.le_of_ble_eq_true rfl) (And.intro (Nat.le_of_ble_eq_true rfl) (And.intro ?g1_c_4 (And.intro (by decide) (And.intro (fun h7 => (And.intro rfl (And.intro (by decide) (And.intro (fun h25 => (And.intro rfl ?g2_r_43)) (fun h25 => ?g3_t_28))))) (fun h7 => ?g4_t_10)))))))⟩
    case g1_c_4 =>
      exact ⟨_, _, _, rfl⟩
    case g2_r_43 =>
      refine ⟨?_, rfl, rfl⟩
      simp only [ftA_carry]
      try simp only [xi_0, xi_n0] at *
      grind [xo_t, xo_f, Int32.not_lt, Int32.not_le]
    case g3_t_28 =>
      refine ⟨rfl, _, rfl, ?_⟩
      simp only [ftA_carry]
      try simp only [xi_0, xi_n0] at *
      grind [xo_t, xo_f, Int32.not_lt, Int32.not_le]
    case g4_t_10 =>
      refine ⟨rfl, _, rfl, ?_⟩
      simp only [ftA_carry]
      try simp only [xi_0, xi_n0] at *
      grind [xo_t, xo_f, Int32.not_lt, Int32.not_le]
def pA_budget (as : List Value) (M : xm_M) : Prop := ∃ p u d : Int32, as = [.ref 0, .int p, .int u, .int d] ∧ xv_I M
noncomputable def fA_budget (as : List Value) (M : xm_M) : Option Value × xm_M := match as with
  | [_, .int p, .int u, .int d] => (none, (xm_up (xm_up M 11 p.toNatClampNeg u) 12 p.toNatClampNeg d))
  | _ => (none, M)
noncomputable def ftA_budget (as : List Value) (M : xm_M) : Option String := match as with
  | [_, .int p, .int u, .int d] => xo_ (¬ (0 ≤ p ∧ p ≤ M 2 0 - 1)) (some "java/lang/IllegalArgumentException") (xo_ (¬ ((0 ≤ u ∧ u ≤ 400) ∧ (1 ≤ d ∧ d ≤ 12))) (some "java/lang/IndexOutOfBoundsException") (xo_ (¬ xd_en M u d p 0 0) (some "java/lang/IllegalStateException") (none)))
  | _ => none
noncomputable def tA_budget : List (Nat × xm_C) := [(88, sP_has), (61, sA_isWithin), (98, sA_isEnough)]
theorem lA_budget (l : Launch) : ∀ n C, (n, C) ∈ tA_budget → xm_lkS l "AbsenceRows" xt_T xk_ns xr_p xk_cl xk_tA n C ∨ xm_lkV l "AbsenceRows" xt_T xk_ns xr_p xk_cl xk_tA n C := fun n C h => (show ∀ q ∈ tA_budget, xm_lkS l "AbsenceRows" xt_T xk_ns xr_p xk_cl xk_tA q.1 q.2 ∨ xm_lkV l "AbsenceRows" xt_T xk_ns xr_p xk_cl xk_tA q.1 q.2 from List.forall_mem_cons.mpr ⟨Or.inr ⟨xy_P_has, xb_P_has, 2, (some .boolean), xr_ 1, 1, 2, 2, [none, some 8, some 9, some 10, some 11, some 12, some 13, some 14], xk_T2, 8, rfl, rfl, ⟨xe_P_has, xw_39, ⟨by decide, by decide, by decide +kernel⟩, ⟨Nat.le_of_ble_eq_true rfl, Nat.le_of_ble_eq_true rfl⟩, rfl, rfl⟩, xw_372, xw_373, xw_374, rfl, rfl, vP_has, Or.inl ⟨rfl, uP_has, cP_has l⟩⟩, List.forall_mem_cons.mpr ⟨Or.inl ⟨xy_A_isWithin, xb_A_isWithin, 3, (some .boolean), xr_ 0, rfl, ⟨xe_A_isWithin, xw_37, ⟨by decide, by decide, by decide +kernel⟩, ⟨Nat.le_of_ble_eq_true rfl, Nat.le_of_ble_eq_true rfl⟩, rfl, rfl⟩, xw_269, Or.inl xw_268, Or.inl ⟨rfl, uA_isWithin, cA_isWithin l⟩⟩, List.forall_mem_cons.mpr ⟨Or.inr ⟨xy_A_isEnough, xb_A_isEnough, 8, (some .boolean), xr_ 5, 5, 0, 0, [some 1, some 2, some 3, some 4, some 5, some 6, none, none, none], xk_T0, 9, rfl, rfl, ⟨xe_A_isEnough, xw_37, ⟨by decide, by decide, by decide +kernel⟩, ⟨Nat.le_of_ble_eq_true rfl, Nat.le_of_ble_eq_true rfl⟩, rfl, rfl⟩, xw_394, xw_396, xw_1, rfl, rfl, vA_isEnough, Or.inl ⟨rfl, uA_isEnough, cA_isEnough l⟩⟩, fun _ h => absurd h List.not_mem_nil⟩⟩⟩) (n, C) h
def ttA_budget : List (Nat × xm_Q) := [(11, (91, 93, 95, false, "java/lang/IllegalArgumentException", "no such person")), (42, (69, 96, 73, false, "java/lang/IndexOutOfBoundsException", "up or down")), (64, (102, 104, 106, false, "java/lang/IllegalStateException", "something would be left below 0"))]
theorem toA_budget : ∀ q ∈ ttA_budget, xm_thr "AbsenceRows" xt_T xk_ns xh_ss xb_A_budget q.1 q.2 := List.forall_mem_cons.mpr ⟨⟨⟨by decide +kernel, by decide +kernel, by decide +kernel, by decide +kernel, by decide +kernel⟩, by decide, xh_cl_IllegalArgumentException, xh_in_IllegalArgumentException, xh_at_IllegalArgumentException, xh_ot_IllegalArgumentException, List.mem_of_getElem? (i := 2) rfl⟩, List.forall_mem_cons.mpr ⟨⟨⟨by decide +kernel, by decide +kernel, by decide +kernel, by decide +kernel, by decide +kernel⟩, by decide, xh_cl_IndexOutOfBoundsException, xh_in_IndexOutOfBoundsException, xh_at_IndexOutOfBoundsException, xh_ot_IndexOutOfBoundsException, List.mem_of_getElem? (i := 3) rfl⟩, List.forall_mem_cons.mpr ⟨⟨⟨by decide +kernel, by decide +kernel, by decide +kernel, by decide +kernel, by decide +kernel⟩, by decide, xh_cl_IllegalStateException, xh_in_IllegalStateException, xh_at_IllegalStateException, xh_ot_IllegalStateException, List.mem_of_getElem? (i := 4) rfl⟩, fun _ h => absurd h List.not_mem_nil⟩⟩⟩
set_option maxRecDepth 20000 in
set_option maxHeartbeats 4000000 in
theorem cA_budget (l : Launch) (hl : l.stackTraces = false) : xm_Th l xy_A_budget (Cond.code xy_A_budget xb_A_budget 4 none :: xt_T) xr_p "AbsenceRows" xh_ss xk_cl xk_ns xk_tA pA_budget fA_budget ftA_budget := by
  refine xm_mk_th (rt := .int) (fl := xf_A) (ct := tA_budget) (cn := []) (cj := []) (tt := ttA_budget) hl (by decide) xs_A xd_A_budget rfl (Or.inl rfl) (lA_budget l) toA_budget ⟨Nat.le_of_ble_eq_true rfl, Nat.le_of_ble_eq_true rfl, rfl, rfl⟩ (fun _ _ _ _ _ _ _ _ => False) ?_ ?_ ?_ (fun _ _ _ _ _ _ _ _ _ h => h.elim) ?_
  · rintro as M ⟨p, u, d, rfl, hpre⟩; exact Nat.le_of_ble_eq_true rfl
  · rintro as M ⟨p, u, d, rfl, hpre⟩; simp [fA_budget]
  · rintro as M v ⟨p, u, d, rfl, hpre⟩ h; simp [fA_budget] at h
  · rintro as M ⟨p, u, d, rfl, hpre⟩
    refine ⟨600, (And.intro rfl (And.intro rfl (And.intro (Nat.le_of_ble_eq_true rfl) (And.intro (Nat.le_of_ble_eq_true rfl) (And.intro ?g1_c_5 (And.intro (by decide) (And.intro (fun h8 => (And.intro rfl (And.intro (Nat.le_of_ble_eq_true rfl) (And.intro (Nat.le_of_ble_eq_true rfl) (And.intro ?g2_c_26 (And.intro (by decide) (And.intro (fun h29 => ?g3_t_42) (fun h29 => (And.intro rfl (And.intro (Nat.le_of_ble_eq_true rfl) (And.intro (Nat.le_of_ble_eq_true rfl) (And.intro ?g4_c_36 (And.intro (by decide) (And.intro (fun h39 => (And.intro rfl (And.intro (Nat.le_of_ble_eq_true rfl) (And.intro (Nat.le_of_ble_eq_true rfl) (And.intro ?g5_c_58 (And.intro (by decide) (And.intro (fun h61 => (And.intro rfl (And.intro rfl (And.intro rfl (And.intro ?g6_i_83 (And.intro rfl (And.intro rfl (And.intro rfl (And.intro ?g7_i_93 ?g8_r_94))))))))) (fun h61 => ?g9_t_64)))))))) (fun h39 => ?g10_t_42))))))))))))))) (fun h8 => ?g11_t_11))))))))⟩
    case g1_c_5 =>
      exact ⟨_, rfl⟩
    case g2_c_26 =>
      exact ⟨_, _, _, rfl⟩
    case g3_t_42 =>
      refine ⟨rfl, _, rfl, ?_⟩
      simp only [ftA_budget]
      try simp only [xi_0, xi_n0] at *
      grind [xo_t, xo_f, Int32.not_lt, Int32.not_le]
    case g4_c_36 =>
      exact ⟨_, _, _, rfl⟩
    case g5_c_58 =>
      exact ⟨_, _, _, _, _, rfl, xl_has (by decide) hpre.P (xi_n0.mp h8), hpre.K⟩
    case g6_i_83 =>
      exact xl_has (by decide) hpre.P (xi_n0.mp h8)
    case g7_i_93 =>
      exact xl_has (by decide) hpre.P (xi_n0.mp h8)
    case g8_r_94 =>
      refine ⟨?_, rfl, rfl⟩
      simp only [ftA_budget]
      try simp only [xi_0, xi_n0] at *
      grind [xo_t, xo_f, Int32.not_lt, Int32.not_le]
    case g9_t_64 =>
      refine ⟨rfl, _, rfl, ?_⟩
      simp only [ftA_budget]
      try simp only [xi_0, xi_n0] at *
      grind [xo_t, xo_f, Int32.not_lt, Int32.not_le]
    case g10_t_42 =>
      refine ⟨rfl, _, rfl, ?_⟩
      simp only [ftA_budget]
      try simp only [xi_0, xi_n0] at *
      grind [xo_t, xo_f, Int32.not_lt, Int32.not_le]
    case g11_t_11 =>
      refine ⟨rfl, _, rfl, ?_⟩
      simp only [ftA_budget]
      try simp only [xi_0, xi_n0] at *
      grind [xo_t, xo_f, Int32.not_lt, Int32.not_le]
def pA_holiday (as : List Value) (M : xm_M) : Prop := ∃ d : Int32, as = [.ref 0, .int d] ∧ xv_I M
noncomputable def fA_holiday (as : List Value) (M : xm_M) : Option Value × xm_M := match as with
  | [_, .int d] => (none, (xm_up M 7 d.toNatClampNeg 1))
  | _ => (none, M)
noncomputable def ftA_holiday (as : List Value) (M : xm_M) : Option String := match as with
  | [_, .int d] => xo_ (¬ (0 ≤ d ∧ d ≤ 729)) (some "java/lang/IndexOutOfBoundsException") (xo_ (¬ M 7 d.toNatClampNeg = 0) (some "java/lang/IllegalStateException") (none))
  | _ => none
noncomputable def tA_holiday : List (Nat × xm_C) := [(65, sA_isDay)]
theorem lA_holiday (l : Launch) : ∀ n C, (n, C) ∈ tA_holiday → xm_lkS l "AbsenceRows" xt_T xk_ns xr_p xk_cl xk_tA n C ∨ xm_lkV l "AbsenceRows" xt_T xk_ns xr_p xk_cl xk_tA n C := fun n C h => (show ∀ q ∈ tA_holiday, xm_lkS l "AbsenceRows" xt_T xk_ns xr_p xk_cl xk_tA q.1 q.2 ∨ xm_lkV l "AbsenceRows" xt_T xk_ns xr_p xk_cl xk_tA q.1 q.2 from List.forall_mem_cons.mpr ⟨Or.inl ⟨xy_A_isDay, xb_A_isDay, 1, (some .boolean), xr_ 1, rfl, ⟨xe_A_isDay, xw_37, ⟨by decide, by decide, by decide +kernel⟩, ⟨Nat.le_of_ble_eq_true rfl, Nat.le_of_ble_eq_true rfl⟩, rfl, rfl⟩, xw_272, Or.inl xw_271, Or.inl ⟨rfl, uA_isDay, cA_isDay l⟩⟩, fun _ h => absurd h List.not_mem_nil⟩) (n, C) h
def ttA_holiday : List (Nat × xm_Q) := [(7, (69, 118, 73, false, "java/lang/IndexOutOfBoundsException", "no such day")), (29, (102, 124, 106, false, "java/lang/IllegalStateException", "it is a holiday"))]
theorem toA_holiday : ∀ q ∈ ttA_holiday, xm_thr "AbsenceRows" xt_T xk_ns xh_ss xb_A_holiday q.1 q.2 := List.forall_mem_cons.mpr ⟨⟨⟨by decide +kernel, by decide +kernel, by decide +kernel, by decide +kernel, by decide +kernel⟩, by decide, xh_cl_IndexOutOfBoundsException, xh_in_IndexOutOfBoundsException, xh_at_IndexOutOfBoundsException, xh_ot_IndexOutOfBoundsException, List.mem_of_getElem? (i := 7) rfl⟩, List.forall_mem_cons.mpr ⟨⟨⟨by decide +kernel, by decide +kernel, by decide +kernel, by decide +kernel, by decide +kernel⟩, by decide, xh_cl_IllegalStateException, xh_in_IllegalStateException, xh_at_IllegalStateException, xh_ot_IllegalStateException, List.mem_of_getElem? (i := 8) rfl⟩, fun _ h => absurd h List.not_mem_nil⟩⟩
set_option maxRecDepth 20000 in
set_option maxHeartbeats 4000000 in
theorem cA_holiday (l : Launch) (hl : l.stackTraces = false) : xm_Th l xy_A_holiday (Cond.code xy_A_holiday xb_A_holiday 2 none :: xt_T) xr_p "AbsenceRows" xh_ss xk_cl xk_ns xk_tA pA_holiday fA_holiday ftA_holiday := by
  refine xm_mk_th (rt := .int) (fl := xf_A) (ct := tA_holiday) (cn := []) (cj := []) (tt := ttA_holiday) hl (by decide) xs_A xd_A_holiday rfl (Or.inl rfl) (lA_holiday l) toA_holiday ⟨Nat.le_of_ble_eq_true rfl, Nat.le_of_ble_eq_true rfl, rfl, rfl⟩ (fun _ _ _ _ _ _ _ _ => False) ?_ ?_ ?_ (fun _ _ _ _ _ _ _ _ _ h => h.elim) ?_
  · rintro as M ⟨d, rfl, hpre⟩; exact Nat.le_of_ble_eq_true rfl
  · rintro as M ⟨d, rfl, hpre⟩; simp [fA_holiday]
  · rintro as M v ⟨d, rfl, hpre⟩ h; simp [fA_holiday] at h
  · rintro as M ⟨d, rfl, hpre⟩
    refine ⟨600, (And.intro rfl (And.intro (Nat.le_of_ble_eq_true rfl) (And.intro (Nat.le_of_ble_eq_true rfl) (And.intro ?g1_c_1 (And.intro (by decide) (And.intro (fun h4 => (And.intro rfl (And.intro rfl (And.intro rfl (And.intro ?g2_i_25 (And.intro (by decide) (And.intro (fun h26 => (And.intro rfl (And.intro rfl (And.intro ?g3_z_48 (And.intro rfl (And.intro ?g4_i_48 ?g5_r_49)))))) (fun h26 => ?g6_t_29)))))))) (fun h4 => ?g7_t_7)))))))⟩
    case g1_c_1 =>
      exact ⟨_, rfl⟩
    case g2_i_25 =>
      exact xl_day (xi_n0.mp h4)
    case g3_z_48 =>
      rfl
    case g4_i_48 =>
      exact xl_day (xi_n0.mp h4)
    case g5_r_49 =>
      refine ⟨?_, rfl, rfl⟩
      simp only [ftA_holiday]
      try simp only [xi_0, xi_n0] at *
      grind [xo_t, xo_f, Int32.not_lt, Int32.not_le]
    case g6_t_29 =>
      refine ⟨rfl, _, rfl, ?_⟩
      simp only [ftA_holiday]
      try simp only [xi_0, xi_n0] at *
      grind [xo_t, xo_f, Int32.not_lt, Int32.not_le]
    case g7_t_7 =>
      refine ⟨rfl, _, rfl, ?_⟩
      simp only [ftA_holiday]
      try simp only [xi_0, xi_n0] at *
      grind [xo_t, xo_f, Int32.not_lt, Int32.not_le]
def pA_working (as : List Value) (M : xm_M) : Prop := ∃ f t : Int32, as = [.ref 0, .int f, .int t] ∧ xv_I M
noncomputable def fA_working (as : List Value) (M : xm_M) : Option Value × xm_M := match as with
  | [_, .int f, .int t] => ((fC_workingDays [.ref 1, .int f, .int t] M).1, M)
  | _ => (none, M)
noncomputable def ftA_working (as : List Value) (M : xm_M) : Option String := match as with
  | [_, .int f, .int t] => xo_ (¬ ((0 ≤ f ∧ f ≤ 729) ∧ (0 ≤ t ∧ t ≤ 729) ∧ f ≤ t)) (some "java/lang/IndexOutOfBoundsException") (none)
  | _ => none
noncomputable def tA_working : List (Nat × xm_C) := [(126, sA_isSpan), (132, sC_workingDays)]
theorem lA_working (l : Launch) : ∀ n C, (n, C) ∈ tA_working → xm_lkS l "AbsenceRows" xt_T xk_ns xr_p xk_cl xk_tA n C ∨ xm_lkV l "AbsenceRows" xt_T xk_ns xr_p xk_cl xk_tA n C := fun n C h => (show ∀ q ∈ tA_working, xm_lkS l "AbsenceRows" xt_T xk_ns xr_p xk_cl xk_tA q.1 q.2 ∨ xm_lkV l "AbsenceRows" xt_T xk_ns xr_p xk_cl xk_tA q.1 q.2 from List.forall_mem_cons.mpr ⟨Or.inl ⟨xy_A_isSpan, xb_A_isSpan, 2, (some .boolean), xr_ 2, rfl, ⟨xe_A_isSpan, xw_37, ⟨by decide, by decide, by decide +kernel⟩, ⟨Nat.le_of_ble_eq_true rfl, Nat.le_of_ble_eq_true rfl⟩, rfl, rfl⟩, xw_492, Or.inl xw_491, Or.inl ⟨rfl, uA_isSpan, cA_isSpan l⟩⟩, List.forall_mem_cons.mpr ⟨Or.inr ⟨xy_C_workingDays, xb_C_workingDays, 5, (some .int), xr_ 1, 2, 1, 1, [some 7], xk_T1, 1, rfl, rfl, ⟨xe_C_workingDays, xw_38, ⟨by decide, by decide, by decide +kernel⟩, ⟨Nat.le_of_ble_eq_true rfl, Nat.le_of_ble_eq_true rfl⟩, rfl, rfl⟩, xw_495, xw_496, xw_497, rfl, rfl, vC_workingDays, Or.inl ⟨rfl, uC_workingDays, cC_workingDays l⟩⟩, fun _ h => absurd h List.not_mem_nil⟩⟩) (n, C) h
def ttA_working : List (Nat × xm_Q) := [(8, (69, 130, 73, false, "java/lang/IndexOutOfBoundsException", "no such days"))]
theorem toA_working : ∀ q ∈ ttA_working, xm_thr "AbsenceRows" xt_T xk_ns xh_ss xb_A_working q.1 q.2 := List.forall_mem_cons.mpr ⟨⟨⟨by decide +kernel, by decide +kernel, by decide +kernel, by decide +kernel, by decide +kernel⟩, by decide, xh_cl_IndexOutOfBoundsException, xh_in_IndexOutOfBoundsException, xh_at_IndexOutOfBoundsException, xh_ot_IndexOutOfBoundsException, List.mem_of_getElem? (i := 9) rfl⟩, fun _ h => absurd h List.not_mem_nil⟩
set_option maxRecDepth 20000 in
set_option maxHeartbeats 4000000 in
theorem cA_working (l : Launch) (hl : l.stackTraces = false) : xm_Th l xy_A_working (Cond.code xy_A_working xb_A_working 3 (some .int) :: xt_T) xr_p "AbsenceRows" xh_ss xk_cl xk_ns xk_tA pA_working fA_working ftA_working := by
  refine xm_mk_th (rt := .int) (fl := xf_A) (ct := tA_working) (cn := []) (cj := []) (tt := ttA_working) hl (by decide) xs_A xd_A_working rfl (Or.inr rfl) (lA_working l) toA_working ⟨Nat.le_of_ble_eq_true rfl, Nat.le_of_ble_eq_true rfl, rfl, rfl⟩ (fun _ _ _ _ _ _ _ _ => False) ?_ ?_ ?_ (fun _ _ _ _ _ _ _ _ _ h => h.elim) ?_
  · rintro as M ⟨f, t, rfl, hpre⟩; exact Nat.le_of_ble_eq_true rfl
  · rintro as M ⟨f, t, rfl, hpre⟩; simp [fA_working, fC_workingDays]
  · rintro as M v ⟨f, t, rfl, hpre⟩ h; simp [fA_working, fC_workingDays] at h
  · rintro as M ⟨f, t, rfl, hpre⟩
    refine ⟨600, (And.intro rfl (And.intro (Nat.le_of_ble_eq_true rfl) (And.intro (Nat.le_of_ble_eq_true rfl) (And.intro ?g1_c_2 (And.intro (by decide) (And.intro (fun h5 => (And.intro rfl (And.intro rfl (And.intro (Nat.le_of_ble_eq_true rfl) (And.intro (Nat.le_of_ble_eq_true rfl) (And.intro ?g2_c_24 (And.intro ?g3_w_27 ?g4_r_27))))))) (fun h5 => ?g5_t_8)))))))⟩
    case g1_c_2 =>
      exact ⟨_, _, rfl⟩
    case g2_c_24 =>
      have hz := xi_n0.mp h5
      exact ⟨_, _, rfl, xl_span hz.1 hz.2.1 hz.2.2⟩
    case g3_w_27 =>
      first | rfl | exact xi_nb
    case g4_r_27 =>
      refine ⟨?_, rfl, rfl⟩
      simp only [ftA_working]
      try simp only [xi_0, xi_n0] at *
      grind [xo_t, xo_f, Int32.not_lt, Int32.not_le]
    case g5_t_8 =>
      refine ⟨rfl, _, rfl, ?_⟩
      simp only [ftA_working]
      try simp only [xi_0, xi_n0] at *
      grind [xo_t, xo_f, Int32.not_lt, Int32.not_le]
def pA_crew (as : List Value) (M : xm_M) : Prop := ∃ s r : Int32, as = [.ref 0, .int s, .int r] ∧ xv_I M
noncomputable def fA_crew (as : List Value) (M : xm_M) : Option Value × xm_M := match as with
  | [_, .int s, .int r] => ((fW_add [.ref 3, .int s, .int r] M).1, (fW_add [.ref 3, .int s, .int r] M).2)
  | _ => (none, M)
noncomputable def ftA_crew (as : List Value) (M : xm_M) : Option String := match as with
  | [_, .int s, .int r] => xo_ (¬ ((0 ≤ s ∧ s ≤ 255) ∧ (0 ≤ r ∧ r ≤ 20))) (some "java/lang/IndexOutOfBoundsException") (xo_ (6 ≤ M 3 0) (some "java/lang/UnsupportedOperationException") (none))
  | _ => none
noncomputable def tA_crew : List (Nat × xm_C) := [(61, sA_isWithin), (141, sW_add)]
theorem lA_crew (l : Launch) : ∀ n C, (n, C) ∈ tA_crew → xm_lkS l "AbsenceRows" xt_T xk_ns xr_p xk_cl xk_tA n C ∨ xm_lkV l "AbsenceRows" xt_T xk_ns xr_p xk_cl xk_tA n C := fun n C h => (show ∀ q ∈ tA_crew, xm_lkS l "AbsenceRows" xt_T xk_ns xr_p xk_cl xk_tA q.1 q.2 ∨ xm_lkV l "AbsenceRows" xt_T xk_ns xr_p xk_cl xk_tA q.1 q.2 from List.forall_mem_cons.mpr ⟨Or.inl ⟨xy_A_isWithin, xb_A_isWithin, 3, (some .boolean), xr_ 0, rfl, ⟨xe_A_isWithin, xw_37, ⟨by decide, by decide, by decide +kernel⟩, ⟨Nat.le_of_ble_eq_true rfl, Nat.le_of_ble_eq_true rfl⟩, rfl, rfl⟩, xw_269, Or.inl xw_268, Or.inl ⟨rfl, uA_isWithin, cA_isWithin l⟩⟩, List.forall_mem_cons.mpr ⟨Or.inr ⟨xy_W_add, xb_W_add, 3, (some .int), xr_ 0, 2, 3, 3, [none, some 15, some 16, some 17], xk_T3, 4, rfl, rfl, ⟨xe_W_add, xw_40, ⟨by decide, by decide, by decide +kernel⟩, ⟨Nat.le_of_ble_eq_true rfl, Nat.le_of_ble_eq_true rfl⟩, rfl, rfl⟩, xw_508, xw_509, xw_510, rfl, rfl, vW_add, Or.inr ⟨rfl, cW_add l⟩⟩, fun _ h => absurd h List.not_mem_nil⟩⟩) (n, C) h
def ttA_crew : List (Nat × xm_Q) := [(21, (69, 136, 73, false, "java/lang/IndexOutOfBoundsException", "skills or least")), (43, (79, 139, 83, false, "java/lang/UnsupportedOperationException", "no room for a crew"))]
theorem toA_crew : ∀ q ∈ ttA_crew, xm_thr "AbsenceRows" xt_T xk_ns xh_ss xb_A_crew q.1 q.2 := List.forall_mem_cons.mpr ⟨⟨⟨by decide +kernel, by decide +kernel, by decide +kernel, by decide +kernel, by decide +kernel⟩, by decide, xh_cl_IndexOutOfBoundsException, xh_in_IndexOutOfBoundsException, xh_at_IndexOutOfBoundsException, xh_ot_IndexOutOfBoundsException, List.mem_of_getElem? (i := 10) rfl⟩, List.forall_mem_cons.mpr ⟨⟨⟨by decide +kernel, by decide +kernel, by decide +kernel, by decide +kernel, by decide +kernel⟩, by decide, xh_cl_UnsupportedOperationException, xh_in_UnsupportedOperationException, xh_at_UnsupportedOperationException, xh_ot_UnsupportedOperationException, List.mem_of_getElem? (i := 11) rfl⟩, fun _ h => absurd h List.not_mem_nil⟩⟩
set_option maxRecDepth 20000 in
set_option maxHeartbeats 4000000 in
theorem cA_crew (l : Launch) (hl : l.stackTraces = false) : xm_Th l xy_A_crew (Cond.code xy_A_crew xb_A_crew 3 (some .int) :: xt_T) xr_p "AbsenceRows" xh_ss xk_cl xk_ns xk_tA pA_crew fA_crew ftA_crew := by
  refine xm_mk_th (rt := .int) (fl := xf_A) (ct := tA_crew) (cn := []) (cj := []) (tt := ttA_crew) hl (by decide) xs_A xd_A_crew rfl (Or.inr rfl) (lA_crew l) toA_crew ⟨Nat.le_of_ble_eq_true rfl, Nat.le_of_ble_eq_true rfl, rfl, rfl⟩ (fun _ _ _ _ _ _ _ _ => False) ?_ ?_ ?_ (fun _ _ _ _ _ _ _ _ _ h => h.elim) ?_
  · rintro as M ⟨s, r, rfl, hpre⟩; exact Nat.le_of_ble_eq_true rfl
  · rintro as M ⟨s, r, rfl, hpre⟩; simp [fA_crew, fW_add]
  · rintro as M v ⟨s, r, rfl, hpre⟩ h; simp [fA_crew, fW_add] at h
  · rintro as M ⟨s, r, rfl, hpre⟩
    refine ⟨600, (And.intro rfl (And.intro (Nat.le_of_ble_eq_true rfl) (And.intro (Nat.le_of_ble_eq_true rfl) (And.intro ?g1_c_5 (And.intro (by decide) (And.intro (fun h8 => ?g2_t_21) (fun h8 => (And.intro rfl (And.intro (Nat.le_of_ble_eq_true rfl) (And.intro (Nat.le_of_ble_eq_true rfl) (And.intro ?g3_c_15 (And.intro (by decide) (And.intro (fun h18 => (And.intro rfl (And.intro rfl (And.intro (by decide) (And.intro (fun h40 => (And.intro rfl (And.intro rfl (And.intro (Nat.le_of_ble_eq_true rfl) (And.intro (Nat.le_of_ble_eq_true rfl) (And.intro ?g4_c_59 (And.intro ?g5_w_62 ?g6_r_62))))))) (fun h40 => ?g7_t_43)))))) (fun h18 => ?g8_t_21))))))))))))))⟩
    case g1_c_5 =>
      exact ⟨_, _, _, rfl⟩
    case g2_t_21 =>
      refine ⟨rfl, _, rfl, ?_⟩
      simp only [ftA_crew]
      try simp only [xi_0, xi_n0] at *
      grind [xo_t, xo_f, Int32.not_lt, Int32.not_le]
    case g3_c_15 =>
      exact ⟨_, _, _, rfl⟩
    case g4_c_59 =>
      exact ⟨_, _, rfl, xl_room (by decide) rfl hpre.W (Int32.not_le.mpr h40)⟩
    case g5_w_62 =>
      first | rfl | exact xi_nb
    case g6_r_62 =>
      refine ⟨?_, rfl, rfl⟩
      simp only [ftA_crew]
      try simp only [xi_0, xi_n0] at *
      grind [xo_t, xo_f, Int32.not_lt, Int32.not_le]
    case g7_t_43 =>
      refine ⟨rfl, _, rfl, ?_⟩
      simp only [ftA_crew]
      try simp only [xi_0, xi_n0] at *
      grind [xo_t, xo_f, Int32.not_lt, Int32.not_le]
    case g8_t_21 =>
      refine ⟨rfl, _, rfl, ?_⟩
      simp only [ftA_crew]
      try simp only [xi_0, xi_n0] at *
      grind [xo_t, xo_f, Int32.not_lt, Int32.not_le]
def pA_member (as : List Value) (M : xm_M) : Prop := ∃ w p b : Int32, as = [.ref 0, .int w, .int p, .int b] ∧ (b = 0 ∨ b = 1) ∧ xv_I M
noncomputable def fA_member (as : List Value) (M : xm_M) : Option Value × xm_M := match as with
  | [_, .int w, .int p, .int b] => (some (.int (xd_bc (M 17 w.toNatClampNeg ^^^ (1 <<< (p &&& 31))))), (xm_up M 17 w.toNatClampNeg (M 17 w.toNatClampNeg ^^^ (1 <<< (p &&& 31)))))
  | _ => (none, M)
noncomputable def ftA_member (as : List Value) (M : xm_M) : Option String := match as with
  | [_, .int w, .int p, .int b] => xo_ (¬ ((0 ≤ w ∧ w ≤ M 3 0 - 1) ∧ (0 ≤ p ∧ p ≤ M 2 0 - 1))) (some "java/lang/IllegalArgumentException") (xo_ (xi_b (¬ M 17 w.toNatClampNeg &&& ((1 : Int32) <<< (p &&& 31)) = 0) = b) (some "java/lang/IllegalStateException") (none))
  | _ => none
noncomputable def tA_member : List (Nat × xm_C) := [(143, sW_has), (88, sP_has), (149, sA_holds), (154, sA_only), (158, sI_bitCount)]
theorem lA_member (l : Launch) : ∀ n C, (n, C) ∈ tA_member → xm_lkS l "AbsenceRows" xt_T xk_ns xr_p xk_cl xk_tA n C ∨ xm_lkV l "AbsenceRows" xt_T xk_ns xr_p xk_cl xk_tA n C := fun n C h => (show ∀ q ∈ tA_member, xm_lkS l "AbsenceRows" xt_T xk_ns xr_p xk_cl xk_tA q.1 q.2 ∨ xm_lkV l "AbsenceRows" xt_T xk_ns xr_p xk_cl xk_tA q.1 q.2 from List.forall_mem_cons.mpr ⟨Or.inr ⟨xy_W_has, xb_W_has, 2, (some .boolean), xr_ 1, 1, 3, 3, [none, some 15, some 16, some 17], xk_T3, 4, rfl, rfl, ⟨xe_W_has, xw_40, ⟨by decide, by decide, by decide +kernel⟩, ⟨Nat.le_of_ble_eq_true rfl, Nat.le_of_ble_eq_true rfl⟩, rfl, rfl⟩, xw_519, xw_520, xw_521, rfl, rfl, vW_has, Or.inl ⟨rfl, uW_has, cW_has l⟩⟩, List.forall_mem_cons.mpr ⟨Or.inr ⟨xy_P_has, xb_P_has, 2, (some .boolean), xr_ 1, 1, 2, 2, [none, some 8, some 9, some 10, some 11, some 12, some 13, some 14], xk_T2, 8, rfl, rfl, ⟨xe_P_has, xw_39, ⟨by decide, by decide, by decide +kernel⟩, ⟨Nat.le_of_ble_eq_true rfl, Nat.le_of_ble_eq_true rfl⟩, rfl, rfl⟩, xw_372, xw_373, xw_374, rfl, rfl, vP_has, Or.inl ⟨rfl, uP_has, cP_has l⟩⟩, List.forall_mem_cons.mpr ⟨Or.inl ⟨xy_A_holds, xb_A_holds, 2, (some .boolean), xr_ 1, rfl, ⟨xe_A_holds, xw_37, ⟨by decide, by decide, by decide +kernel⟩, ⟨Nat.le_of_ble_eq_true rfl, Nat.le_of_ble_eq_true rfl⟩, rfl, rfl⟩, xw_526, Or.inl xw_525, Or.inl ⟨rfl, uA_holds, cA_holds l⟩⟩, List.forall_mem_cons.mpr ⟨Or.inl ⟨xy_A_only, xb_A_only, 1, (some .int), xr_ 0, rfl, ⟨xe_A_only, xw_37, ⟨by decide, by decide, by decide +kernel⟩, ⟨Nat.le_of_ble_eq_true rfl, Nat.le_of_ble_eq_true rfl⟩, rfl, rfl⟩, xw_529, Or.inl xw_528, Or.inl ⟨rfl, uA_only, cA_only l⟩⟩, List.forall_mem_cons.mpr ⟨Or.inl ⟨xy_I_bitCount, xb_I_bitCount, 1, (some .int), xr_ 0, rfl, ⟨xe_I_bitCount, xw_53, ⟨by decide, by decide, by decide +kernel⟩, ⟨Nat.le_of_ble_eq_true rfl, Nat.le_of_ble_eq_true rfl⟩, rfl, rfl⟩, xw_533, Or.inl xw_532, Or.inl ⟨rfl, uI_bitCount, cI_bitCount l⟩⟩, fun _ h => absurd h List.not_mem_nil⟩⟩⟩⟩⟩) (n, C) h
def ttA_member : List (Nat × xm_Q) := [(22, (91, 144, 95, false, "java/lang/IllegalArgumentException", "no such crew or person")), (49, (102, 152, 106, false, "java/lang/IllegalStateException", "it is so"))]
theorem toA_member : ∀ q ∈ ttA_member, xm_thr "AbsenceRows" xt_T xk_ns xh_ss xb_A_member q.1 q.2 := List.forall_mem_cons.mpr ⟨⟨⟨by decide +kernel, by decide +kernel, by decide +kernel, by decide +kernel, by decide +kernel⟩, by decide, xh_cl_IllegalArgumentException, xh_in_IllegalArgumentException, xh_at_IllegalArgumentException, xh_ot_IllegalArgumentException, List.mem_of_getElem? (i := 12) rfl⟩, List.forall_mem_cons.mpr ⟨⟨⟨by decide +kernel, by decide +kernel, by decide +kernel, by decide +kernel, by decide +kernel⟩, by decide, xh_cl_IllegalStateException, xh_in_IllegalStateException, xh_at_IllegalStateException, xh_ot_IllegalStateException, List.mem_of_getElem? (i := 13) rfl⟩, fun _ h => absurd h List.not_mem_nil⟩⟩
set_option maxRecDepth 20000 in
set_option maxHeartbeats 4000000 in
theorem cA_member (l : Launch) (hl : l.stackTraces = false) : xm_Th l xy_A_member (Cond.code xy_A_member xb_A_member 4 (some .int) :: xt_T) xr_p "AbsenceRows" xh_ss xk_cl xk_ns xk_tA pA_member fA_member ftA_member := by
  refine xm_mk_th (rt := .int) (fl := xf_A) (ct := tA_member) (cn := []) (cj := []) (tt := ttA_member) hl (by decide) xs_A xd_A_member rfl (Or.inr rfl) (lA_member l) toA_member ⟨Nat.le_of_ble_eq_true rfl, Nat.le_of_ble_eq_true rfl, rfl, rfl⟩ (fun _ _ _ _ _ _ _ _ => False) ?_ ?_ ?_ (fun _ _ _ _ _ _ _ _ _ h => h.elim) ?_
  · rintro as M ⟨w, p, b, rfl, ⟨hb, hpre⟩⟩; exact Nat.le_of_ble_eq_true rfl
  · rintro as M ⟨w, p, b, rfl, ⟨hb, hpre⟩⟩; simp [fA_member]
  · rintro as M v ⟨w, p, b, rfl, ⟨hb, hpre⟩⟩ h; simp [fA_member] at h
  · rintro as M ⟨w, p, b, rfl, ⟨hb, hpre⟩⟩
    refine ⟨600, (And.intro rfl (And.intro rfl (And.intro (Nat.le_of_ble_eq_true rfl) (And.intro (Nat.le_of_ble_eq_true rfl) (And.intro ?g1_c_5 (And.intro (by decide) (And.intro (fun h8 => ?g2_t_22) (fun h8 => (And.intro rfl (And.intro rfl (And.intro (Nat.le_of_ble_eq_true rfl) (And.intro (Nat.le_of_ble_eq_true rfl) (And.intro ?g3_c_16 (And.intro (by decide) (And.intro (fun h19 => (And.intro rfl (And.intro rfl (And.intro rfl (And.intro ?g4_i_40 (And.intro rfl (And.intro (Nat.le_of_ble_eq_true rfl) (And.intro (Nat.le_of_ble_eq_true rfl) (And.intro ?g5_c_42 (And.intro (by decide) (And.intro (fun h46 => (And.intro rfl (And.intro rfl (And.intro rfl (And.intro ?g6_i_68 (And.intro rfl (And.intro (Nat.le_of_ble_eq_true rfl) (And.intro (Nat.le_of_ble_eq_true rfl) (And.intro ?g7_c_70 (And.intro rfl (And.intro ?g8_i_74 (And.intro rfl (And.intro rfl (And.intro rfl (And.intro ?g9_i_83 (And.intro rfl (And.intro (Nat.le_of_ble_eq_true rfl) (And.intro (Nat.le_of_ble_eq_true rfl) (And.intro ?g10_c_84 (And.intro ?g11_w_87 ?g12_r_87)))))))))))))))))))) (fun h46 => ?g13_t_49)))))))))))) (fun h19 => ?g14_t_22))))))))))))))))⟩
    case g1_c_5 =>
      exact ⟨_, rfl⟩
    case g2_t_22 =>
      refine ⟨rfl, _, rfl, ?_⟩
      simp only [ftA_member]
      try simp only [xi_0, xi_n0] at *
      grind [xo_t, xo_f, Int32.not_lt, Int32.not_le]
    case g3_c_16 =>
      exact ⟨_, rfl⟩
    case g4_i_40 =>
      exact xl_has (by decide) hpre.W (xi_n0.mp h8)
    case g5_c_42 =>
      exact ⟨_, _, rfl⟩
    case g6_i_68 =>
      exact xl_has (by decide) hpre.W (xi_n0.mp h8)
    case g7_c_70 =>
      exact ⟨_, rfl⟩
    case g8_i_74 =>
      exact xl_has (by decide) hpre.W (xi_n0.mp h8)
    case g9_i_83 =>
      exact xl_has (by decide) hpre.W (xi_n0.mp h8)
    case g10_c_84 =>
      exact ⟨_, rfl⟩
    case g11_w_87 =>
      first | rfl | exact xi_nb
    case g12_r_87 =>
      refine ⟨?_, ?_, rfl⟩
      · simp only [ftA_member]
        rw [xo_f (fun z => z ⟨xi_n0.mp h8, xi_n0.mp h19⟩), xo_f (by assumption)]
      · simp [fA_member, xm_up]
    case g13_t_49 =>
      refine ⟨rfl, _, rfl, ?_⟩
      simp only [ftA_member]
      try simp only [xi_0, xi_n0] at *
      grind [xo_t, xo_f, Int32.not_lt, Int32.not_le]
    case g14_t_22 =>
      refine ⟨rfl, _, rfl, ?_⟩
      simp only [ftA_member]
      try simp only [xi_0, xi_n0] at *
      grind [xo_t, xo_f, Int32.not_lt, Int32.not_le]
def pA_ask (as : List Value) (M : xm_M) : Prop := ∃ p k f t h : Int32, as = [.ref 0, .int p, .int k, .int f, .int t, .int h] ∧ xv_I M
noncomputable def fA_ask (as : List Value) (M : xm_M) : Option Value × xm_M := match as with
  | [_, .int p, .int k, .int f, .int t, .int h] => ((fK_add [.ref 4, .int p, .int k, .int f, .int t, .int h] M).1, (fK_add [.ref 4, .int p, .int k, .int f, .int t, .int h] M).2)
  | _ => (none, M)
noncomputable def ftA_ask (as : List Value) (M : xm_M) : Option String := match as with
  | [_, .int p, .int k, .int f, .int t, .int h] => xo_ (¬ ((0 ≤ p ∧ p ≤ M 2 0 - 1) ∧ (0 ≤ k ∧ k ≤ 2))) (some "java/lang/IllegalArgumentException") (xo_ (¬ (((0 ≤ f ∧ f ≤ 729) ∧ (0 ≤ t ∧ t ≤ 729) ∧ f ≤ t) ∧ f / 365 = t / 365 ∧ ((0 ≤ h ∧ h ≤ 3) ∧ ¬ (h = 3 ∧ f = t)))) (some "java/lang/IndexOutOfBoundsException") (xo_ (∃ i, i < (M 4 0).toNatClampNeg ∧ M 18 i = p ∧ ¬ M 23 i = 3 ∧ M 20 i ≤ t ∧ f ≤ M 21 i) (some "java/lang/IllegalStateException") (xo_ (k = 0 ∧ ¬ xd_en M (M 11 p.toNatClampNeg) (M 12 p.toNatClampNeg) p (xi_x (f / 365 = 0) (xd_hd (M 7) f t h) 0) (xd_hd (M 7) f t h - xi_x (f / 365 = 0) (xd_hd (M 7) f t h) 0)) (some "java/lang/IllegalStateException") (xo_ (80 ≤ M 4 0) (some "java/lang/UnsupportedOperationException") (none)))))
  | _ => none
noncomputable def tA_ask : List (Nat × xm_C) := [(88, sP_has), (61, sA_isWithin), (126, sA_isSpan), (165, sA_yearOf), (168, sA_areHalves), (173, sK_overlap), (178, sA_isEnoughFor), (187, sK_add)]
theorem lA_ask (l : Launch) : ∀ n C, (n, C) ∈ tA_ask → xm_lkS l "AbsenceRows" xt_T xk_ns xr_p xk_cl xk_tA n C ∨ xm_lkV l "AbsenceRows" xt_T xk_ns xr_p xk_cl xk_tA n C := fun n C h => (show ∀ q ∈ tA_ask, xm_lkS l "AbsenceRows" xt_T xk_ns xr_p xk_cl xk_tA q.1 q.2 ∨ xm_lkV l "AbsenceRows" xt_T xk_ns xr_p xk_cl xk_tA q.1 q.2 from List.forall_mem_cons.mpr ⟨Or.inr ⟨xy_P_has, xb_P_has, 2, (some .boolean), xr_ 1, 1, 2, 2, [none, some 8, some 9, some 10, some 11, some 12, some 13, some 14], xk_T2, 8, rfl, rfl, ⟨xe_P_has, xw_39, ⟨by decide, by decide, by decide +kernel⟩, ⟨Nat.le_of_ble_eq_true rfl, Nat.le_of_ble_eq_true rfl⟩, rfl, rfl⟩, xw_372, xw_373, xw_374, rfl, rfl, vP_has, Or.inl ⟨rfl, uP_has, cP_has l⟩⟩, List.forall_mem_cons.mpr ⟨Or.inl ⟨xy_A_isWithin, xb_A_isWithin, 3, (some .boolean), xr_ 0, rfl, ⟨xe_A_isWithin, xw_37, ⟨by decide, by decide, by decide +kernel⟩, ⟨Nat.le_of_ble_eq_true rfl, Nat.le_of_ble_eq_true rfl⟩, rfl, rfl⟩, xw_269, Or.inl xw_268, Or.inl ⟨rfl, uA_isWithin, cA_isWithin l⟩⟩, List.forall_mem_cons.mpr ⟨Or.inl ⟨xy_A_isSpan, xb_A_isSpan, 2, (some .boolean), xr_ 2, rfl, ⟨xe_A_isSpan, xw_37, ⟨by decide, by decide, by decide +kernel⟩, ⟨Nat.le_of_ble_eq_true rfl, Nat.le_of_ble_eq_true rfl⟩, rfl, rfl⟩, xw_492, Or.inl xw_491, Or.inl ⟨rfl, uA_isSpan, cA_isSpan l⟩⟩, List.forall_mem_cons.mpr ⟨Or.inl ⟨xy_A_yearOf, xb_A_yearOf, 1, (some .int), xr_ 0, rfl, ⟨xe_A_yearOf, xw_37, ⟨by decide, by decide, by decide +kernel⟩, ⟨Nat.le_of_ble_eq_true rfl, Nat.le_of_ble_eq_true rfl⟩, rfl, rfl⟩, xw_411, Or.inl xw_410, Or.inl ⟨rfl, uA_yearOf, cA_yearOf l⟩⟩, List.forall_mem_cons.mpr ⟨Or.inl ⟨xy_A_areHalves, xb_A_areHalves, 3, (some .boolean), xr_ 1, rfl, ⟨xe_A_areHalves, xw_37, ⟨by decide, by decide, by decide +kernel⟩, ⟨Nat.le_of_ble_eq_true rfl, Nat.le_of_ble_eq_true rfl⟩, rfl, rfl⟩, xw_547, Or.inl xw_546, Or.inl ⟨rfl, uA_areHalves, cA_areHalves l⟩⟩, List.forall_mem_cons.mpr ⟨Or.inr ⟨xy_K_overlap, xb_K_overlap, 5, (some .boolean), xr_ 0, 3, 4, 4, [none, some 18, some 19, some 20, some 21, some 22, some 23, some 24], xk_T4, 8, rfl, rfl, ⟨xe_K_overlap, xw_41, ⟨by decide, by decide, by decide +kernel⟩, ⟨Nat.le_of_ble_eq_true rfl, Nat.le_of_ble_eq_true rfl⟩, rfl, rfl⟩, xw_550, xw_551, xw_552, rfl, rfl, vK_overlap, Or.inl ⟨rfl, uK_overlap, cK_overlap l⟩⟩, List.forall_mem_cons.mpr ⟨Or.inr ⟨xy_A_isEnoughFor, xb_A_isEnoughFor, 7, (some .boolean), xr_ 6, 4, 0, 0, [some 1, some 2, some 3, some 4, some 5, some 6, none, none, none], xk_T0, 9, rfl, rfl, ⟨xe_A_isEnoughFor, xw_37, ⟨by decide, by decide, by decide +kernel⟩, ⟨Nat.le_of_ble_eq_true rfl, Nat.le_of_ble_eq_true rfl⟩, rfl, rfl⟩, xw_555, xw_557, xw_6, rfl, rfl, vA_isEnoughFor, Or.inl ⟨rfl, uA_isEnoughFor, cA_isEnoughFor l⟩⟩, List.forall_mem_cons.mpr ⟨Or.inr ⟨xy_K_add, xb_K_add, 6, (some .int), xr_ 0, 5, 4, 4, [none, some 18, some 19, some 20, some 21, some 22, some 23, some 24], xk_T4, 8, rfl, rfl, ⟨xe_K_add, xw_41, ⟨by decide, by decide, by decide +kernel⟩, ⟨Nat.le_of_ble_eq_true rfl, Nat.le_of_ble_eq_true rfl⟩, rfl, rfl⟩, xw_561, xw_562, xw_563, rfl, rfl, vK_add, Or.inr ⟨rfl, cK_add l⟩⟩, fun _ h => absurd h List.not_mem_nil⟩⟩⟩⟩⟩⟩⟩⟩) (n, C) h
def ttA_ask : List (Nat × xm_Q) := [(20, (91, 163, 95, false, "java/lang/IllegalArgumentException", "no such person or kind")), (62, (69, 171, 73, false, "java/lang/IndexOutOfBoundsException", "days or halves")), (86, (102, 176, 106, false, "java/lang/IllegalStateException", "a day of it is one of another ask")), (113, (102, 182, 106, false, "java/lang/IllegalStateException", "less than 0 would be left")), (135, (79, 185, 83, false, "java/lang/UnsupportedOperationException", "no room for an ask"))]
theorem toA_ask : ∀ q ∈ ttA_ask, xm_thr "AbsenceRows" xt_T xk_ns xh_ss xb_A_ask q.1 q.2 := List.forall_mem_cons.mpr ⟨⟨⟨by decide +kernel, by decide +kernel, by decide +kernel, by decide +kernel, by decide +kernel⟩, by decide, xh_cl_IllegalArgumentException, xh_in_IllegalArgumentException, xh_at_IllegalArgumentException, xh_ot_IllegalArgumentException, List.mem_of_getElem? (i := 14) rfl⟩, List.forall_mem_cons.mpr ⟨⟨⟨by decide +kernel, by decide +kernel, by decide +kernel, by decide +kernel, by decide +kernel⟩, by decide, xh_cl_IndexOutOfBoundsException, xh_in_IndexOutOfBoundsException, xh_at_IndexOutOfBoundsException, xh_ot_IndexOutOfBoundsException, List.mem_of_getElem? (i := 15) rfl⟩, List.forall_mem_cons.mpr ⟨⟨⟨by decide +kernel, by decide +kernel, by decide +kernel, by decide +kernel, by decide +kernel⟩, by decide, xh_cl_IllegalStateException, xh_in_IllegalStateException, xh_at_IllegalStateException, xh_ot_IllegalStateException, List.mem_of_getElem? (i := 16) rfl⟩, List.forall_mem_cons.mpr ⟨⟨⟨by decide +kernel, by decide +kernel, by decide +kernel, by decide +kernel, by decide +kernel⟩, by decide, xh_cl_IllegalStateException, xh_in_IllegalStateException, xh_at_IllegalStateException, xh_ot_IllegalStateException, List.mem_of_getElem? (i := 17) rfl⟩, List.forall_mem_cons.mpr ⟨⟨⟨by decide +kernel, by decide +kernel, by decide +kernel, by decide +kernel, by decide +kernel⟩, by decide, xh_cl_UnsupportedOperationException, xh_in_UnsupportedOperationException, xh_at_UnsupportedOperationException, xh_ot_UnsupportedOperationException, List.mem_of_getElem? (i := 18) rfl⟩, fun _ h => absurd h List.not_mem_nil⟩⟩⟩⟩⟩
set_option maxRecDepth 20000 in
set_option maxHeartbeats 4000000 in
theorem cA_ask (l : Launch) (hl : l.stackTraces = false) : xm_Th l xy_A_ask (Cond.code xy_A_ask xb_A_ask 6 (some .int) :: xt_T) xr_p "AbsenceRows" xh_ss xk_cl xk_ns xk_tA pA_ask fA_ask ftA_ask := by
  refine xm_mk_th (rt := .int) (fl := xf_A) (ct := tA_ask) (cn := []) (cj := []) (tt := ttA_ask) hl (by decide) xs_A xd_A_ask rfl (Or.inr rfl) (lA_ask l) toA_ask ⟨Nat.le_of_ble_eq_true rfl, Nat.le_of_ble_eq_true rfl, rfl, rfl⟩ (fun _ _ _ _ _ _ _ _ => False) ?_ ?_ ?_ (fun _ _ _ _ _ _ _ _ _ h => h.elim) ?_
  · rintro as M ⟨p, k, f, t, h, rfl, hpre⟩; exact Nat.le_of_ble_eq_true rfl
  · rintro as M ⟨p, k, f, t, h, rfl, hpre⟩; simp [fA_ask, fK_add]
  · rintro as M v ⟨p, k, f, t, h, rfl, hpre⟩ h; simp [fA_ask, fK_add] at h
  · rintro as M ⟨p, k, f, t, h, rfl, hpre⟩
    refine ⟨600, (And.intro rfl (And.intro rfl (And.intro (Nat.le_of_ble_eq_true rfl) (And.intro (Nat.le_of_ble_eq_true rfl) (And.intro ?g1_c_5 (And.intro (by decide) (And.intro (fun h8 => ?g2_t_20) (fun h8 => (And.intro rfl (And.intro (Nat.le_of_ble_eq_true rfl) (And.intro (Nat.le_of_ble_eq_true rfl) (And.intro ?g3_c_14 (And.intro (by decide) (And.intro (fun h17 => (And.intro rfl (And.intro (Nat.le_of_ble_eq_true rfl) (And.intro (Nat.le_of_ble_eq_true rfl) (And.intro ?g4_c_33 (And.intro (by decide) (And.intro (fun h36 => ?g5_t_62) (fun h36 => (And.intro rfl (And.intro (Nat.le_of_ble_eq_true rfl) (And.intro (Nat.le_of_ble_eq_true rfl) (And.intro ?g6_c_40 (And.intro rfl (And.intro (Nat.le_of_ble_eq_true rfl) (And.intro (Nat.le_of_ble_eq_true rfl) (And.intro ?g7_c_45 (And.intro (by decide) (And.intro (fun h48 => ?g8_t_62) (fun h48 => (And.intro rfl (And.intro (Nat.le_of_ble_eq_true rfl) (And.intro (Nat.le_of_ble_eq_true rfl) (And.intro ?g9_c_56 (And.intro (by decide) (And.intro (fun h59 => (And.intro rfl (And.intro rfl (And.intro (Nat.le_of_ble_eq_true rfl) (And.intro (Nat.le_of_ble_eq_true rfl) (And.intro ?g10_c_80 (And.intro (by decide) (And.intro (fun h83 => (And.intro (by decide) (And.intro (fun h97 => (And.intro rfl (And.intro rfl (And.intro (by decide) (And.intro (fun h132 => (And.intro rfl (And.intro rfl (And.intro (Nat.le_of_ble_eq_true rfl) (And.intro (Nat.le_of_ble_eq_true rfl) (And.intro ?g11_c_156 (And.intro ?g12_w_159 ?g13_r_159))))))) (fun h132 => ?g14_t_135)))))) (fun h97 => (And.intro rfl (And.intro (Nat.le_of_ble_eq_true rfl) (And.intro (Nat.le_of_ble_eq_true rfl) (And.intro ?g15_c_107 (And.intro (by decide) (And.intro (fun h110 => (And.intro rfl (And.intro rfl (And.intro (by decide) (And.intro (fun h132 => (And.intro rfl (And.intro rfl (And.intro (Nat.le_of_ble_eq_true rfl) (And.intro (Nat.le_of_ble_eq_true rfl) (And.intro ?g16_c_156 (And.intro ?g17_w_159 ?g18_r_159))))))) (fun h132 => ?g19_t_135)))))) (fun h110 => ?g20_t_113))))))))))) (fun h83 => ?g21_t_86))))))))) (fun h59 => ?g22_t_62)))))))))))))))))))))))))) (fun h17 => ?g23_t_20)))))))))))))))⟩
    case g1_c_5 =>
      exact ⟨_, rfl⟩
    case g2_t_20 =>
      refine ⟨rfl, _, rfl, ?_⟩
      simp only [ftA_ask]
      try simp only [xi_0, xi_n0] at *
      grind [xo_t, xo_f, Int32.not_lt, Int32.not_le]
    case g3_c_14 =>
      exact ⟨_, _, _, rfl⟩
    case g4_c_33 =>
      exact ⟨_, _, rfl⟩
    case g5_t_62 =>
      refine ⟨rfl, _, rfl, ?_⟩
      simp only [ftA_ask]
      try simp only [xi_0, xi_n0] at *
      grind [xo_t, xo_f, Int32.not_lt, Int32.not_le]
    case g6_c_40 =>
      exact ⟨_, rfl⟩
    case g7_c_45 =>
      exact ⟨_, rfl⟩
    case g8_t_62 =>
      refine ⟨rfl, _, rfl, ?_⟩
      simp only [ftA_ask]
      try simp only [xi_0, xi_n0] at *
      grind [xo_t, xo_f, Int32.not_lt, Int32.not_le]
    case g9_c_56 =>
      exact ⟨_, _, _, rfl⟩
    case g10_c_80 =>
      exact ⟨_, _, _, rfl, hpre.A⟩
    case g11_c_156 =>
      exact ⟨_, _, _, _, _, rfl, xl_room (by decide) rfl hpre.A (Int32.not_le.mpr h132)⟩
    case g12_w_159 =>
      first | rfl | exact xi_nb
    case g13_r_159 =>
      refine ⟨?_, rfl, rfl⟩
      simp only [ftA_ask]
      try simp only [xi_0, xi_n0] at *
      grind [xo_t, xo_f, Int32.not_lt, Int32.not_le]
    case g14_t_135 =>
      refine ⟨rfl, _, rfl, ?_⟩
      simp only [ftA_ask]
      try simp only [xi_0, xi_n0] at *
      grind [xo_t, xo_f, Int32.not_lt, Int32.not_le]
    case g15_c_107 =>
      have hz := xi_n0.mp h36
      exact ⟨_, _, _, _, rfl, xl_has (by decide) hpre.P (xi_n0.mp h8), hpre.K, xl_span hz.1 hz.2.1 hz.2.2⟩
    case g16_c_156 =>
      exact ⟨_, _, _, _, _, rfl, xl_room (by decide) rfl hpre.A (Int32.not_le.mpr h132)⟩
    case g17_w_159 =>
      first | rfl | exact xi_nb
    case g18_r_159 =>
      refine ⟨?_, rfl, rfl⟩
      simp only [ftA_ask]
      try simp only [xi_0, xi_n0] at *
      grind [xo_t, xo_f, Int32.not_lt, Int32.not_le]
    case g19_t_135 =>
      refine ⟨rfl, _, rfl, ?_⟩
      simp only [ftA_ask]
      try simp only [xi_0, xi_n0] at *
      grind [xo_t, xo_f, Int32.not_lt, Int32.not_le]
    case g20_t_113 =>
      refine ⟨rfl, _, rfl, ?_⟩
      simp only [ftA_ask]
      try simp only [xi_0, xi_n0] at *
      grind [xo_t, xo_f, Int32.not_lt, Int32.not_le]
    case g21_t_86 =>
      refine ⟨rfl, _, rfl, ?_⟩
      simp only [ftA_ask]
      try simp only [xi_0, xi_n0] at *
      grind [xo_t, xo_f, Int32.not_lt, Int32.not_le]
    case g22_t_62 =>
      refine ⟨rfl, _, rfl, ?_⟩
      simp only [ftA_ask]
      try simp only [xi_0, xi_n0] at *
      grind [xo_t, xo_f, Int32.not_lt, Int32.not_le]
    case g23_t_20 =>
      refine ⟨rfl, _, rfl, ?_⟩
      simp only [ftA_ask]
      try simp only [xi_0, xi_n0] at *
      grind [xo_t, xo_f, Int32.not_lt, Int32.not_le]
def pA_grant (as : List Value) (M : xm_M) : Prop := ∃ a p : Int32, as = [.ref 0, .int a, .int p] ∧ xv_I M
noncomputable def fA_grant (as : List Value) (M : xm_M) : Option Value × xm_M := match as with
  | [_, .int a, .int p] => (some (.int (xi_x (M 19 a.toNatClampNeg = 2 ∨ M 23 a.toNatClampNeg = 1) (xi_x (xd_fd M (M 20 a.toNatClampNeg) (M 21 a.toNatClampNeg) (M 22 a.toNatClampNeg) (M 18 a.toNatClampNeg) = -1) 2 0) 1)), @ite xm_M (M 19 a.toNatClampNeg = 2 ∨ M 23 a.toNatClampNeg = 1) (Classical.propDecidable _) (@ite xm_M (xd_fd M (M 20 a.toNatClampNeg) (M 21 a.toNatClampNeg) (M 22 a.toNatClampNeg) (M 18 a.toNatClampNeg) = -1) (Classical.propDecidable _) ((fK_makeLastStep [.ref 4, .int a, .int p] M).2) ((fH_keep [.ref 5, .int a, .int (xd_fd M (M 20 a.toNatClampNeg) (M 21 a.toNatClampNeg) (M 22 a.toNatClampNeg) (M 18 a.toNatClampNeg)), .int (xd_cl M (M 18 a.toNatClampNeg) (xd_fd M (M 20 a.toNatClampNeg) (M 21 a.toNatClampNeg) (M 22 a.toNatClampNeg) (M 18 a.toNatClampNeg)))] M).2)) ((fK_makeFirstStep [.ref 4, .int a, .int p] M).2))
  | _ => (none, M)
noncomputable def ftA_grant (as : List Value) (M : xm_M) : Option String := match as with
  | [_, .int a, .int p] => xo_ (¬ ((0 ≤ a ∧ a ≤ M 4 0 - 1) ∧ (0 ≤ p ∧ p ≤ M 2 0 - 1))) (some "java/lang/IllegalArgumentException") (xo_ (¬ ((M 23 a.toNatClampNeg = 0 ∨ M 23 a.toNatClampNeg = 1) ∧ ¬ M 24 a.toNatClampNeg = p ∧ M 9 (M 18 a.toNatClampNeg).toNatClampNeg < M 9 p.toNatClampNeg)) (some "java/lang/IllegalStateException") (none))
  | _ => none
noncomputable def tA_grant : List (Nat × xm_C) := [(190, sK_has), (88, sP_has), (193, sK_isOpen), (202, sA_isAbove), (207, sK_isBeforeLastStep), (210, sK_makeFirstStep), (214, sA_firstDayLeftShort), (217, sA_crewLeftShort), (220, sH_keep), (224, sK_makeLastStep)]
theorem lA_grant (l : Launch) : ∀ n C, (n, C) ∈ tA_grant → xm_lkS l "AbsenceRows" xt_T xk_ns xr_p xk_cl xk_tA n C ∨ xm_lkV l "AbsenceRows" xt_T xk_ns xr_p xk_cl xk_tA n C := fun n C h => (show ∀ q ∈ tA_grant, xm_lkS l "AbsenceRows" xt_T xk_ns xr_p xk_cl xk_tA q.1 q.2 ∨ xm_lkV l "AbsenceRows" xt_T xk_ns xr_p xk_cl xk_tA q.1 q.2 from List.forall_mem_cons.mpr ⟨Or.inr ⟨xy_K_has, xb_K_has, 2, (some .boolean), xr_ 1, 1, 4, 4, [none, some 18, some 19, some 20, some 21, some 22, some 23, some 24], xk_T4, 8, rfl, rfl, ⟨xe_K_has, xw_41, ⟨by decide, by decide, by decide +kernel⟩, ⟨Nat.le_of_ble_eq_true rfl, Nat.le_of_ble_eq_true rfl⟩, rfl, rfl⟩, xw_572, xw_573, xw_574, rfl, rfl, vK_has, Or.inl ⟨rfl, uK_has, cK_has l⟩⟩, List.forall_mem_cons.mpr ⟨Or.inr ⟨xy_P_has, xb_P_has, 2, (some .boolean), xr_ 1, 1, 2, 2, [none, some 8, some 9, some 10, some 11, some 12, some 13, some 14], xk_T2, 8, rfl, rfl, ⟨xe_P_has, xw_39, ⟨by decide, by decide, by decide +kernel⟩, ⟨Nat.le_of_ble_eq_true rfl, Nat.le_of_ble_eq_true rfl⟩, rfl, rfl⟩, xw_372, xw_373, xw_374, rfl, rfl, vP_has, Or.inl ⟨rfl, uP_has, cP_has l⟩⟩, List.forall_mem_cons.mpr ⟨Or.inr ⟨xy_K_isOpen, xb_K_isOpen, 2, (some .boolean), xr_ 0, 1, 4, 4, [none, some 18, some 19, some 20, some 21, some 22, some 23, some 24], xk_T4, 8, rfl, rfl, ⟨xe_K_isOpen, xw_41, ⟨by decide, by decide, by decide +kernel⟩, ⟨Nat.le_of_ble_eq_true rfl, Nat.le_of_ble_eq_true rfl⟩, rfl, rfl⟩, xw_578, xw_579, xw_580, rfl, rfl, vK_isOpen, Or.inl ⟨rfl, uK_isOpen, cK_isOpen l⟩⟩, List.forall_mem_cons.mpr ⟨Or.inr ⟨xy_A_isAbove, xb_A_isAbove, 3, (some .boolean), xr_ 0, 2, 0, 0, [some 1, some 2, some 3, some 4, some 5, some 6, none, none, none], xk_T0, 9, rfl, rfl, ⟨xe_A_isAbove, xw_37, ⟨by decide, by decide, by decide +kernel⟩, ⟨Nat.le_of_ble_eq_true rfl, Nat.le_of_ble_eq_true rfl⟩, rfl, rfl⟩, xw_582, xw_584, xw_7, rfl, rfl, vA_isAbove, Or.inl ⟨rfl, uA_isAbove, cA_isAbove l⟩⟩, List.forall_mem_cons.mpr ⟨Or.inr ⟨xy_K_isBeforeLastStep, xb_K_isBeforeLastStep, 2, (some .boolean), xr_ 0, 1, 4, 4, [none, some 18, some 19, some 20, some 21, some 22, some 23, some 24], xk_T4, 8, rfl, rfl, ⟨xe_K_isBeforeLastStep, xw_41, ⟨by decide, by decide, by decide +kernel⟩, ⟨Nat.le_of_ble_eq_true rfl, Nat.le_of_ble_eq_true rfl⟩, rfl, rfl⟩, xw_587, xw_588, xw_589, rfl, rfl, vK_isBeforeLastStep, Or.inl ⟨rfl, uK_isBeforeLastStep, cK_isBeforeLastStep l⟩⟩, List.forall_mem_cons.mpr ⟨Or.inr ⟨xy_K_makeFirstStep, xb_K_makeFirstStep, 3, none, xr_ 0, 2, 4, 4, [none, some 18, some 19, some 20, some 21, some 22, some 23, some 24], xk_T4, 8, rfl, rfl, ⟨xe_K_makeFirstStep, xw_41, ⟨by decide, by decide, by decide +kernel⟩, ⟨Nat.le_of_ble_eq_true rfl, Nat.le_of_ble_eq_true rfl⟩, rfl, rfl⟩, xw_591, xw_592, xw_593, rfl, rfl, vK_makeFirstStep, Or.inr ⟨rfl, cK_makeFirstStep l⟩⟩, List.forall_mem_cons.mpr ⟨Or.inr ⟨xy_A_firstDayLeftShort, xb_A_firstDayLeftShort, 4, (some .int), xr_ 4, 1, 0, 0, [some 1, some 2, some 3, some 4, some 5, some 6, none, none, none], xk_T0, 9, rfl, rfl, ⟨xe_A_firstDayLeftShort, xw_37, ⟨by decide, by decide, by decide +kernel⟩, ⟨Nat.le_of_ble_eq_true rfl, Nat.le_of_ble_eq_true rfl⟩, rfl, rfl⟩, xw_595, xw_597, xw_8, rfl, rfl, vA_firstDayLeftShort, Or.inl ⟨rfl, uA_firstDayLeftShort, cA_firstDayLeftShort l⟩⟩, List.forall_mem_cons.mpr ⟨Or.inr ⟨xy_A_crewLeftShort, xb_A_crewLeftShort, 7, (some .int), xr_ 3, 2, 0, 0, [some 1, some 2, some 3, some 4, some 5, some 6, none, none, none], xk_T0, 9, rfl, rfl, ⟨xe_A_crewLeftShort, xw_37, ⟨by decide, by decide, by decide +kernel⟩, ⟨Nat.le_of_ble_eq_true rfl, Nat.le_of_ble_eq_true rfl⟩, rfl, rfl⟩, xw_601, xw_603, xw_9, rfl, rfl, vA_crewLeftShort, Or.inl ⟨rfl, uA_crewLeftShort, cA_crewLeftShort l⟩⟩, List.forall_mem_cons.mpr ⟨Or.inr ⟨xy_H_keep, xb_H_keep, 4, none, xr_ 0, 3, 5, 5, [none, some 25, some 26, some 27], xk_T5, 4, rfl, rfl, ⟨xe_H_keep, xw_42, ⟨by decide, by decide, by decide +kernel⟩, ⟨Nat.le_of_ble_eq_true rfl, Nat.le_of_ble_eq_true rfl⟩, rfl, rfl⟩, xw_625, xw_626, xw_627, rfl, rfl, vH_keep, Or.inr ⟨rfl, cH_keep l⟩⟩, List.forall_mem_cons.mpr ⟨Or.inr ⟨xy_K_makeLastStep, xb_K_makeLastStep, 3, none, xr_ 0, 2, 4, 4, [none, some 18, some 19, some 20, some 21, some 22, some 23, some 24], xk_T4, 8, rfl, rfl, ⟨xe_K_makeLastStep, xw_41, ⟨by decide, by decide, by decide +kernel⟩, ⟨Nat.le_of_ble_eq_true rfl, Nat.le_of_ble_eq_true rfl⟩, rfl, rfl⟩, xw_629, xw_630, xw_631, rfl, rfl, vK_makeLastStep, Or.inr ⟨rfl, cK_makeLastStep l⟩⟩, fun _ h => absurd h List.not_mem_nil⟩⟩⟩⟩⟩⟩⟩⟩⟩⟩) (n, C) h
def ttA_grant : List (Nat × xm_Q) := [(22, (91, 191, 95, false, "java/lang/IllegalArgumentException", "no such ask or person")), (73, (102, 205, 106, false, "java/lang/IllegalStateException", "no step by this person"))]
theorem toA_grant : ∀ q ∈ ttA_grant, xm_thr "AbsenceRows" xt_T xk_ns xh_ss xb_A_grant q.1 q.2 := List.forall_mem_cons.mpr ⟨⟨⟨by decide +kernel, by decide +kernel, by decide +kernel, by decide +kernel, by decide +kernel⟩, by decide, xh_cl_IllegalArgumentException, xh_in_IllegalArgumentException, xh_at_IllegalArgumentException, xh_ot_IllegalArgumentException, List.mem_of_getElem? (i := 19) rfl⟩, List.forall_mem_cons.mpr ⟨⟨⟨by decide +kernel, by decide +kernel, by decide +kernel, by decide +kernel, by decide +kernel⟩, by decide, xh_cl_IllegalStateException, xh_in_IllegalStateException, xh_at_IllegalStateException, xh_ot_IllegalStateException, List.mem_of_getElem? (i := 20) rfl⟩, fun _ h => absurd h List.not_mem_nil⟩⟩
set_option maxRecDepth 20000 in
set_option maxHeartbeats 4000000 in
theorem cA_grant (l : Launch) (hl : l.stackTraces = false) : xm_Th l xy_A_grant (Cond.code xy_A_grant xb_A_grant 4 (some .int) :: xt_T) xr_p "AbsenceRows" xh_ss xk_cl xk_ns xk_tA pA_grant fA_grant ftA_grant := by
  refine xm_mk_th (rt := .int) (fl := xf_A) (ct := tA_grant) (cn := []) (cj := []) (tt := ttA_grant) hl (by decide) xs_A xd_A_grant rfl (Or.inr rfl) (lA_grant l) toA_grant ⟨Nat.le_of_ble_eq_true rfl, Nat.le_of_ble_eq_true rfl, rfl, rfl⟩ (fun _ _ _ _ _ _ _ _ => False) ?_ ?_ ?_ (fun _ _ _ _ _ _ _ _ _ h => h.elim) ?_
  · rintro as M ⟨a, p, rfl, hpre⟩; exact Nat.le_of_ble_eq_true rfl
  · rintro as M ⟨a, p, rfl, hpre⟩; simp [fA_grant]
  · rintro as M v ⟨a, p, rfl, hpre⟩ h; simp [fA_grant] at h
  · rintro as M ⟨a, p, rfl, hpre⟩
    refine ⟨600, (And.intro rfl (And.intro rfl (And.intro (Nat.le_of_ble_eq_true rfl) (And.intro (Nat.le_of_ble_eq_true rfl) (And.intro ?g1_c_5 (And.intro (by decide) (And.intro (fun h8 => ?g2_t_22) (fun h8 => (And.intro rfl (And.intro rfl (And.intro (Nat.le_of_ble_eq_true rfl) (And.intro (Nat.le_of_ble_eq_true rfl) (And.intro ?g3_c_16 (And.intro (by decide) (And.intro (fun h19 => (And.intro rfl (And.intro rfl (And.intro (Nat.le_of_ble_eq_true rfl) (And.intro (Nat.le_of_ble_eq_true rfl) (And.intro ?g4_c_37 (And.intro (by decide) (And.intro (fun h40 => ?g5_t_73) (fun h40 => (And.intro rfl (And.intro rfl (And.intro rfl (And.intro ?g6_i_51 (And.intro (by decide) (And.intro (fun h53 => ?g7_t_73) (fun h53 => (And.intro rfl (And.intro rfl (And.intro rfl (And.intro ?g8_i_66 (And.intro rfl (And.intro (Nat.le_of_ble_eq_true rfl) (And.intro (Nat.le_of_ble_eq_true rfl) (And.intro ?g9_c_67 (And.intro (by decide) (And.intro (fun h70 => (And.intro rfl (And.intro rfl (And.intro (Nat.le_of_ble_eq_true rfl) (And.intro (Nat.le_of_ble_eq_true rfl) (And.intro ?g10_c_88 (And.intro (by decide) (And.intro (fun h91 => (And.intro rfl (And.intro (Nat.le_of_ble_eq_true rfl) (And.intro (Nat.le_of_ble_eq_true rfl) (And.intro ?g11_c_107 (And.intro (Nat.le_of_ble_eq_true rfl) (And.intro (by decide) (And.intro (fun h113 => (And.intro rfl (And.intro rfl (And.intro (Nat.le_of_ble_eq_true rfl) (And.intro (Nat.le_of_ble_eq_true rfl) (And.intro ?g12_c_147 (And.intro ?g13_w_151 ?g14_r_151))))))) (fun h113 => (And.intro rfl (And.intro rfl (And.intro rfl (And.intro rfl (And.intro ?g15_i_131 (And.intro rfl (And.intro (Nat.le_of_ble_eq_true rfl) (And.intro (Nat.le_of_ble_eq_true rfl) (And.intro ?g16_c_133 (And.intro rfl (And.intro (Nat.le_of_ble_eq_true rfl) (And.intro (Nat.le_of_ble_eq_true rfl) (And.intro ?g17_c_136 (And.intro ?g18_w_140 ?g19_r_140))))))))))))))))))))))) (fun h91 => (And.intro rfl (And.intro rfl (And.intro (Nat.le_of_ble_eq_true rfl) (And.intro (Nat.le_of_ble_eq_true rfl) (And.intro ?g20_c_100 (And.intro ?g21_w_104 ?g22_r_104))))))))))))))) (fun h70 => ?g23_t_73))))))))))))))))))))))))))) (fun h19 => ?g24_t_22))))))))))))))))⟩
    case g1_c_5 =>
      exact ⟨_, rfl⟩
    case g2_t_22 =>
      refine ⟨rfl, _, rfl, ?_⟩
      simp only [ftA_grant]
      try simp only [xi_0, xi_n0] at *
      grind [xo_t, xo_f, Int32.not_lt, Int32.not_le]
    case g3_c_16 =>
      exact ⟨_, rfl⟩
    case g4_c_37 =>
      exact ⟨_, rfl, xl_has (by decide) hpre.A (xi_n0.mp h8)⟩
    case g5_t_73 =>
      refine ⟨rfl, _, rfl, ?_⟩
      simp only [ftA_grant]
      try simp only [xi_0, xi_n0] at *
      grind [xo_t, xo_f, Int32.not_lt, Int32.not_le]
    case g6_i_51 =>
      exact xl_has (by decide) hpre.A (xi_n0.mp h8)
    case g7_t_73 =>
      refine ⟨rfl, _, rfl, ?_⟩
      simp only [ftA_grant]
      try simp only [xi_0, xi_n0] at *
      grind [xo_t, xo_f, Int32.not_lt, Int32.not_le]
    case g8_i_66 =>
      exact xl_has (by decide) hpre.A (xi_n0.mp h8)
    case g9_c_67 =>
      exact ⟨_, _, rfl, xl_has (by decide) hpre.P (xi_n0.mp h19), (hpre.a (xi_n0.mp h8)).2⟩
    case g10_c_88 =>
      exact ⟨_, rfl, xl_has (by decide) hpre.A (xi_n0.mp h8)⟩
    case g11_c_107 =>
      exact ⟨_, rfl, xl_has (by decide) hpre.A (xi_n0.mp h8), (hpre.a (xi_n0.mp h8)).1, hpre.1⟩
    case g12_c_147 =>
      exact ⟨_, _, rfl, xl_has (by decide) hpre.A (xi_n0.mp h8)⟩
    case g13_w_151 =>
      first | rfl | exact xi_nb
    case g14_r_151 =>
      try change xd_fd M (M 20 a.toNatClampNeg) (M 21 a.toNatClampNeg) (M 22 a.toNatClampNeg) (M 18 a.toNatClampNeg) = -1 at h113
      try change ¬ xd_fd M (M 20 a.toNatClampNeg) (M 21 a.toNatClampNeg) (M 22 a.toNatClampNeg) (M 18 a.toNatClampNeg) = -1 at h113
      refine ⟨?_, ?_, ?_⟩
      · simp only [ftA_grant]
        rw [xo_f (fun z => z ⟨xi_n0.mp h8, xi_n0.mp h19⟩), xo_f (fun z => z ⟨xi_n0.mp h40, h53, xi_n0.mp h70⟩)]
      · simp only [fA_grant]
        first | rw [xi_xf (xi_0.mp h91)] | rw [xi_xt (xi_n0.mp h91), xi_xt h113] | rw [xi_xt (xi_n0.mp h91), xi_xf h113]
        all_goals rfl
      · simp only [fA_grant]
        first | rw [if_neg (xi_0.mp h91)] | rw [if_pos (xi_n0.mp h91), if_pos h113] | rw [if_pos (xi_n0.mp h91), if_neg h113]
        all_goals rfl
    case g15_i_131 =>
      exact xl_has (by decide) hpre.A (xi_n0.mp h8)
    case g16_c_133 =>
      exact ⟨_, _, rfl, hpre.1⟩
    case g17_c_136 =>
      exact ⟨_, _, _, rfl, fun z => xl_room (by decide) rfl hpre.H (Int32.not_le.mpr z)⟩
    case g18_w_140 =>
      first | rfl | exact xi_nb
    case g19_r_140 =>
      try change xd_fd M (M 20 a.toNatClampNeg) (M 21 a.toNatClampNeg) (M 22 a.toNatClampNeg) (M 18 a.toNatClampNeg) = -1 at h113
      try change ¬ xd_fd M (M 20 a.toNatClampNeg) (M 21 a.toNatClampNeg) (M 22 a.toNatClampNeg) (M 18 a.toNatClampNeg) = -1 at h113
      refine ⟨?_, ?_, ?_⟩
      · simp only [ftA_grant]
        rw [xo_f (fun z => z ⟨xi_n0.mp h8, xi_n0.mp h19⟩), xo_f (fun z => z ⟨xi_n0.mp h40, h53, xi_n0.mp h70⟩)]
      · simp only [fA_grant]
        first | rw [xi_xf (xi_0.mp h91)] | rw [xi_xt (xi_n0.mp h91), xi_xt h113] | rw [xi_xt (xi_n0.mp h91), xi_xf h113]
        all_goals rfl
      · simp only [fA_grant]
        first | rw [if_neg (xi_0.mp h91)] | rw [if_pos (xi_n0.mp h91), if_pos h113] | rw [if_pos (xi_n0.mp h91), if_neg h113]
        all_goals rfl
    case g20_c_100 =>
      exact ⟨_, _, rfl, xl_has (by decide) hpre.A (xi_n0.mp h8)⟩
    case g21_w_104 =>
      first | rfl | exact xi_nb
    case g22_r_104 =>
      try change xd_fd M (M 20 a.toNatClampNeg) (M 21 a.toNatClampNeg) (M 22 a.toNatClampNeg) (M 18 a.toNatClampNeg) = -1 at h113
      try change ¬ xd_fd M (M 20 a.toNatClampNeg) (M 21 a.toNatClampNeg) (M 22 a.toNatClampNeg) (M 18 a.toNatClampNeg) = -1 at h113
      refine ⟨?_, ?_, ?_⟩
      · simp only [ftA_grant]
        rw [xo_f (fun z => z ⟨xi_n0.mp h8, xi_n0.mp h19⟩), xo_f (fun z => z ⟨xi_n0.mp h40, h53, xi_n0.mp h70⟩)]
      · simp only [fA_grant]
        first | rw [xi_xf (xi_0.mp h91)] | rw [xi_xt (xi_n0.mp h91), xi_xt h113] | rw [xi_xt (xi_n0.mp h91), xi_xf h113]
        all_goals rfl
      · simp only [fA_grant]
        first | rw [if_neg (xi_0.mp h91)] | rw [if_pos (xi_n0.mp h91), if_pos h113] | rw [if_pos (xi_n0.mp h91), if_neg h113]
        all_goals rfl
    case g23_t_73 =>
      refine ⟨rfl, _, rfl, ?_⟩
      simp only [ftA_grant]
      try simp only [xi_0, xi_n0] at *
      grind [xo_t, xo_f, Int32.not_lt, Int32.not_le]
    case g24_t_22 =>
      refine ⟨rfl, _, rfl, ?_⟩
      simp only [ftA_grant]
      try simp only [xi_0, xi_n0] at *
      grind [xo_t, xo_f, Int32.not_lt, Int32.not_le]
def pA_withdraw (as : List Value) (M : xm_M) : Prop := ∃ a : Int32, as = [.ref 0, .int a] ∧ xv_I M
noncomputable def fA_withdraw (as : List Value) (M : xm_M) : Option Value × xm_M := match as with
  | [_, .int a] => (some (.int (xd_hd (M 7) (M 20 a.toNatClampNeg) (M 21 a.toNatClampNeg) (M 22 a.toNatClampNeg))), (xm_up M 23 a.toNatClampNeg 3))
  | _ => (none, M)
noncomputable def ftA_withdraw (as : List Value) (M : xm_M) : Option String := match as with
  | [_, .int a] => xo_ (¬ (0 ≤ a ∧ a ≤ M 4 0 - 1)) (some "java/lang/IllegalArgumentException") (xo_ (M 23 a.toNatClampNeg = 3) (some "java/lang/IllegalStateException") (none))
  | _ => none
noncomputable def tA_withdraw : List (Nat × xm_C) := [(190, sK_has), (234, sA_halfDaysOf)]
theorem lA_withdraw (l : Launch) : ∀ n C, (n, C) ∈ tA_withdraw → xm_lkS l "AbsenceRows" xt_T xk_ns xr_p xk_cl xk_tA n C ∨ xm_lkV l "AbsenceRows" xt_T xk_ns xr_p xk_cl xk_tA n C := fun n C h => (show ∀ q ∈ tA_withdraw, xm_lkS l "AbsenceRows" xt_T xk_ns xr_p xk_cl xk_tA q.1 q.2 ∨ xm_lkV l "AbsenceRows" xt_T xk_ns xr_p xk_cl xk_tA q.1 q.2 from List.forall_mem_cons.mpr ⟨Or.inr ⟨xy_K_has, xb_K_has, 2, (some .boolean), xr_ 1, 1, 4, 4, [none, some 18, some 19, some 20, some 21, some 22, some 23, some 24], xk_T4, 8, rfl, rfl, ⟨xe_K_has, xw_41, ⟨by decide, by decide, by decide +kernel⟩, ⟨Nat.le_of_ble_eq_true rfl, Nat.le_of_ble_eq_true rfl⟩, rfl, rfl⟩, xw_572, xw_573, xw_574, rfl, rfl, vK_has, Or.inl ⟨rfl, uK_has, cK_has l⟩⟩, List.forall_mem_cons.mpr ⟨Or.inr ⟨xy_A_halfDaysOf, xb_A_halfDaysOf, 2, (some .int), xr_ 2, 1, 0, 0, [some 1, some 2, some 3, some 4, some 5, some 6, none, none, none], xk_T0, 9, rfl, rfl, ⟨xe_A_halfDaysOf, xw_37, ⟨by decide, by decide, by decide +kernel⟩, ⟨Nat.le_of_ble_eq_true rfl, Nat.le_of_ble_eq_true rfl⟩, rfl, rfl⟩, xw_413, xw_415, xw_4, rfl, rfl, vA_halfDaysOf, Or.inl ⟨rfl, uA_halfDaysOf, cA_halfDaysOf l⟩⟩, fun _ h => absurd h List.not_mem_nil⟩⟩) (n, C) h
def ttA_withdraw : List (Nat × xm_Q) := [(11, (91, 227, 95, false, "java/lang/IllegalArgumentException", "no such ask")), (34, (102, 232, 106, false, "java/lang/IllegalStateException", "it was withdrawn"))]
theorem toA_withdraw : ∀ q ∈ ttA_withdraw, xm_thr "AbsenceRows" xt_T xk_ns xh_ss xb_A_withdraw q.1 q.2 := List.forall_mem_cons.mpr ⟨⟨⟨by decide +kernel, by decide +kernel, by decide +kernel, by decide +kernel, by decide +kernel⟩, by decide, xh_cl_IllegalArgumentException, xh_in_IllegalArgumentException, xh_at_IllegalArgumentException, xh_ot_IllegalArgumentException, List.mem_of_getElem? (i := 21) rfl⟩, List.forall_mem_cons.mpr ⟨⟨⟨by decide +kernel, by decide +kernel, by decide +kernel, by decide +kernel, by decide +kernel⟩, by decide, xh_cl_IllegalStateException, xh_in_IllegalStateException, xh_at_IllegalStateException, xh_ot_IllegalStateException, List.mem_of_getElem? (i := 22) rfl⟩, fun _ h => absurd h List.not_mem_nil⟩⟩
set_option maxRecDepth 20000 in
set_option maxHeartbeats 4000000 in
theorem cA_withdraw (l : Launch) (hl : l.stackTraces = false) : xm_Th l xy_A_withdraw (Cond.code xy_A_withdraw xb_A_withdraw 2 (some .int) :: xt_T) xr_p "AbsenceRows" xh_ss xk_cl xk_ns xk_tA pA_withdraw fA_withdraw ftA_withdraw := by
  refine xm_mk_th (rt := .int) (fl := xf_A) (ct := tA_withdraw) (cn := []) (cj := []) (tt := ttA_withdraw) hl (by decide) xs_A xd_A_withdraw rfl (Or.inr rfl) (lA_withdraw l) toA_withdraw ⟨Nat.le_of_ble_eq_true rfl, Nat.le_of_ble_eq_true rfl, rfl, rfl⟩ (fun _ _ _ _ _ _ _ _ => False) ?_ ?_ ?_ (fun _ _ _ _ _ _ _ _ _ h => h.elim) ?_
  · rintro as M ⟨a, rfl, hpre⟩; exact Nat.le_of_ble_eq_true rfl
  · rintro as M ⟨a, rfl, hpre⟩; simp [fA_withdraw]
  · rintro as M v ⟨a, rfl, hpre⟩ h; simp [fA_withdraw] at h
  · rintro as M ⟨a, rfl, hpre⟩
    refine ⟨600, (And.intro rfl (And.intro rfl (And.intro (Nat.le_of_ble_eq_true rfl) (And.intro (Nat.le_of_ble_eq_true rfl) (And.intro ?g1_c_5 (And.intro (by decide) (And.intro (fun h8 => (And.intro rfl (And.intro rfl (And.intro rfl (And.intro ?g2_i_29 (And.intro (by decide) (And.intro (fun h31 => (And.intro rfl (And.intro rfl (And.intro rfl (And.intro ?g3_i_53 (And.intro rfl (And.intro (Nat.le_of_ble_eq_true rfl) (And.intro (Nat.le_of_ble_eq_true rfl) (And.intro ?g4_c_56 (And.intro ?g5_w_59 ?g6_r_59)))))))))) (fun h31 => ?g7_t_34)))))))) (fun h8 => ?g8_t_11))))))))⟩
    case g1_c_5 =>
      exact ⟨_, rfl⟩
    case g2_i_29 =>
      exact xl_has (by decide) hpre.A (xi_n0.mp h8)
    case g3_i_53 =>
      exact xl_has (by decide) hpre.A (xi_n0.mp h8)
    case g4_c_56 =>
      exact ⟨_, rfl, xl_has (by decide) hpre.A (xi_n0.mp h8), (hpre.a (xi_n0.mp h8)).1⟩
    case g5_w_59 =>
      first | rfl | exact xi_nb
    case g6_r_59 =>
      refine ⟨?_, rfl, rfl⟩
      simp only [ftA_withdraw]
      try simp only [xi_0, xi_n0] at *
      grind [xo_t, xo_f, Int32.not_lt, Int32.not_le]
    case g7_t_34 =>
      refine ⟨rfl, _, rfl, ?_⟩
      simp only [ftA_withdraw]
      try simp only [xi_0, xi_n0] at *
      grind [xo_t, xo_f, Int32.not_lt, Int32.not_le]
    case g8_t_11 =>
      refine ⟨rfl, _, rfl, ?_⟩
      simp only [ftA_withdraw]
      try simp only [xi_0, xi_n0] at *
      grind [xo_t, xo_f, Int32.not_lt, Int32.not_le]
def pA_askAt (as : List Value) (M : xm_M) : Prop := ∃ a x : Int32, as = [.ref 0, .int a, .int x] ∧ xv_I M
noncomputable def fA_askAt (as : List Value) (M : xm_M) : Option Value × xm_M := match as with
  | [_, .int a, .int x] => (some (.int (xi_x (x = 0) (M 23 a.toNatClampNeg) (xi_x (x = 1) (xd_hd (M 7) (M 20 a.toNatClampNeg) (M 21 a.toNatClampNeg) (M 22 a.toNatClampNeg)) (xi_x (x = 2) (M 24 a.toNatClampNeg) (xi_x (x = 3) (M 18 a.toNatClampNeg) (xi_x (x = 4) (M 19 a.toNatClampNeg) (0))))))), M)
  | _ => (none, M)
noncomputable def ftA_askAt (as : List Value) (M : xm_M) : Option String := match as with
  | [_, .int a, .int x] => xo_ (¬ (0 ≤ a ∧ a ≤ M 4 0 - 1)) (some "java/lang/IllegalArgumentException") (xo_ (¬ (x = 0 ∨ x = 1 ∨ x = 2 ∨ x = 3 ∨ x = 4)) (some "java/lang/IllegalArgumentException") (none))
  | _ => none
noncomputable def tA_askAt : List (Nat × xm_C) := [(190, sK_has), (234, sA_halfDaysOf)]
theorem lA_askAt (l : Launch) : ∀ n C, (n, C) ∈ tA_askAt → xm_lkS l "AbsenceRows" xt_T xk_ns xr_p xk_cl xk_tA n C ∨ xm_lkV l "AbsenceRows" xt_T xk_ns xr_p xk_cl xk_tA n C := fun n C h => (show ∀ q ∈ tA_askAt, xm_lkS l "AbsenceRows" xt_T xk_ns xr_p xk_cl xk_tA q.1 q.2 ∨ xm_lkV l "AbsenceRows" xt_T xk_ns xr_p xk_cl xk_tA q.1 q.2 from List.forall_mem_cons.mpr ⟨Or.inr ⟨xy_K_has, xb_K_has, 2, (some .boolean), xr_ 1, 1, 4, 4, [none, some 18, some 19, some 20, some 21, some 22, some 23, some 24], xk_T4, 8, rfl, rfl, ⟨xe_K_has, xw_41, ⟨by decide, by decide, by decide +kernel⟩, ⟨Nat.le_of_ble_eq_true rfl, Nat.le_of_ble_eq_true rfl⟩, rfl, rfl⟩, xw_572, xw_573, xw_574, rfl, rfl, vK_has, Or.inl ⟨rfl, uK_has, cK_has l⟩⟩, List.forall_mem_cons.mpr ⟨Or.inr ⟨xy_A_halfDaysOf, xb_A_halfDaysOf, 2, (some .int), xr_ 2, 1, 0, 0, [some 1, some 2, some 3, some 4, some 5, some 6, none, none, none], xk_T0, 9, rfl, rfl, ⟨xe_A_halfDaysOf, xw_37, ⟨by decide, by decide, by decide +kernel⟩, ⟨Nat.le_of_ble_eq_true rfl, Nat.le_of_ble_eq_true rfl⟩, rfl, rfl⟩, xw_413, xw_415, xw_4, rfl, rfl, vA_halfDaysOf, Or.inl ⟨rfl, uA_halfDaysOf, cA_halfDaysOf l⟩⟩, fun _ h => absurd h List.not_mem_nil⟩⟩) (n, C) h
def ttA_askAt : List (Nat × xm_Q) := [(11, (91, 227, 95, false, "java/lang/IllegalArgumentException", "no such ask")), (102, (91, 240, 95, false, "java/lang/IllegalArgumentException", "no such what"))]
theorem toA_askAt : ∀ q ∈ ttA_askAt, xm_thr "AbsenceRows" xt_T xk_ns xh_ss xb_A_askAt q.1 q.2 := List.forall_mem_cons.mpr ⟨⟨⟨by decide +kernel, by decide +kernel, by decide +kernel, by decide +kernel, by decide +kernel⟩, by decide, xh_cl_IllegalArgumentException, xh_in_IllegalArgumentException, xh_at_IllegalArgumentException, xh_ot_IllegalArgumentException, List.mem_of_getElem? (i := 21) rfl⟩, List.forall_mem_cons.mpr ⟨⟨⟨by decide +kernel, by decide +kernel, by decide +kernel, by decide +kernel, by decide +kernel⟩, by decide, xh_cl_IllegalArgumentException, xh_in_IllegalArgumentException, xh_at_IllegalArgumentException, xh_ot_IllegalArgumentException, List.mem_of_getElem? (i := 23) rfl⟩, fun _ h => absurd h List.not_mem_nil⟩⟩
set_option maxRecDepth 20000 in
set_option maxHeartbeats 4000000 in
theorem cA_askAt (l : Launch) (hl : l.stackTraces = false) : xm_Th l xy_A_askAt (Cond.code xy_A_askAt xb_A_askAt 3 (some .int) :: xt_T) xr_p "AbsenceRows" xh_ss xk_cl xk_ns xk_tA pA_askAt fA_askAt ftA_askAt := by
  refine xm_mk_th (rt := .int) (fl := xf_A) (ct := tA_askAt) (cn := []) (cj := []) (tt := ttA_askAt) hl (by decide) xs_A xd_A_askAt rfl (Or.inr rfl) (lA_askAt l) toA_askAt ⟨Nat.le_of_ble_eq_true rfl, Nat.le_of_ble_eq_true rfl, rfl, rfl⟩ (fun _ _ _ _ _ _ _ _ => False) ?_ ?_ ?_ (fun _ _ _ _ _ _ _ _ _ h => h.elim) ?_
  · rintro as M ⟨a, x, rfl, hpre⟩; exact Nat.le_of_ble_eq_true rfl
  · rintro as M ⟨a, x, rfl, hpre⟩; simp [fA_askAt]
  · rintro as M v ⟨a, x, rfl, hpre⟩ h; simp [fA_askAt] at h
  · rintro as M ⟨a, x, rfl, hpre⟩
    refine ⟨600, (And.intro rfl (And.intro rfl (And.intro (Nat.le_of_ble_eq_true rfl) (And.intro (Nat.le_of_ble_eq_true rfl) (And.intro ?g1_c_5 (And.intro (by decide) (And.intro (fun h8 => (And.intro (fun h22 => (And.intro (by decide) ?g2_t_102)) (And.intro (by decide) (And.intro (fun h22 => (And.intro (by decide) (And.intro rfl (And.intro rfl (And.intro rfl (And.intro ?g15_i_64 (And.intro ?g16_w_65 ?g17_r_65))))))) (And.intro (fun h22 => (And.intro (by decide) (And.intro rfl (And.intro (Nat.le_of_ble_eq_true rfl) (And.intro (Nat.le_of_ble_eq_true rfl) (And.intro ?g12_c_68 (And.intro ?g13_w_71 ?g14_r_71))))))) (And.intro (fun h22 => (And.intro (by decide) (And.intro rfl (And.intro rfl (And.intro rfl (And.intro ?g9_i_80 (And.intro ?g10_w_81 ?g11_r_81))))))) (And.intro (fun h22 => (And.intro (by decide) (And.intro rfl (And.intro rfl (And.intro rfl (And.intro ?g6_i_90 (And.intro ?g7_w_91 ?g8_r_91))))))) (And.intro (fun h22 => (And.intro (by decide) (And.intro rfl (And.intro rfl (And.intro rfl (And.intro ?g3_i_100 (And.intro ?g4_w_101 ?g5_r_101))))))) True.intro)))))))) (fun h8 => ?g18_t_11))))))))⟩
    case g1_c_5 =>
      exact ⟨_, rfl⟩
    case g2_t_102 =>
      refine ⟨rfl, _, rfl, ?_⟩
      simp only [ftA_askAt]
      rw [xo_f (fun z => z (xi_n0.mp h8)), xo_t (fun z => ?_)]
      have hz : ¬ x = 0 ∧ ¬ x = 1 ∧ ¬ x = 2 ∧ ¬ x = 3 ∧ ¬ x = 4 := ⟨xl_td h22 _, xl_td h22 _, xl_td h22 _, xl_td h22 _, xl_td h22 _⟩
      grind
    case g3_i_100 =>
      exact xl_has (by decide) hpre.A (xi_n0.mp h8)
    case g4_w_101 =>
      first | rfl | exact xi_nb
    case g5_r_101 =>
      have hz := xl_tb h22
      refine ⟨?_, xl_some ?_, rfl⟩
      · simp only [ftA_askAt]
        rw [xo_f (fun z => z (xi_n0.mp h8)), xo_f (fun z => z (by rw [hz]; decide))]
      · subst hz
        simp [xi_x]
        try rfl
    case g6_i_90 =>
      exact xl_has (by decide) hpre.A (xi_n0.mp h8)
    case g7_w_91 =>
      first | rfl | exact xi_nb
    case g8_r_91 =>
      have hz := xl_tb h22
      refine ⟨?_, xl_some ?_, rfl⟩
      · simp only [ftA_askAt]
        rw [xo_f (fun z => z (xi_n0.mp h8)), xo_f (fun z => z (by rw [hz]; decide))]
      · subst hz
        simp [xi_x]
        try rfl
    case g9_i_80 =>
      exact xl_has (by decide) hpre.A (xi_n0.mp h8)
    case g10_w_81 =>
      first | rfl | exact xi_nb
    case g11_r_81 =>
      have hz := xl_tb h22
      refine ⟨?_, xl_some ?_, rfl⟩
      · simp only [ftA_askAt]
        rw [xo_f (fun z => z (xi_n0.mp h8)), xo_f (fun z => z (by rw [hz]; decide))]
      · subst hz
        simp [xi_x]
        try rfl
    case g12_c_68 =>
      exact ⟨_, rfl, xl_has (by decide) hpre.A (xi_n0.mp h8), (hpre.a (xi_n0.mp h8)).1⟩
    case g13_w_71 =>
      first | rfl | exact xi_nb
    case g14_r_71 =>
      have hz := xl_tb h22
      refine ⟨?_, xl_some ?_, rfl⟩
      · simp only [ftA_askAt]
        rw [xo_f (fun z => z (xi_n0.mp h8)), xo_f (fun z => z (by rw [hz]; decide))]
      · subst hz
        simp [xi_x]
        try rfl
    case g15_i_64 =>
      exact xl_has (by decide) hpre.A (xi_n0.mp h8)
    case g16_w_65 =>
      first | rfl | exact xi_nb
    case g17_r_65 =>
      have hz := xl_tb h22
      refine ⟨?_, xl_some ?_, rfl⟩
      · simp only [ftA_askAt]
        rw [xo_f (fun z => z (xi_n0.mp h8)), xo_f (fun z => z (by rw [hz]; decide))]
      · subst hz
        simp [xi_x]
        try rfl
    case g18_t_11 =>
      refine ⟨rfl, _, rfl, ?_⟩
      simp only [ftA_askAt]
      try simp only [xi_0, xi_n0] at *
      grind [xo_t, xo_f, Int32.not_lt, Int32.not_le]
def pA_left (as : List Value) (M : xm_M) : Prop := ∃ p y x : Int32, as = [.ref 0, .int p, .int y, .int x] ∧ xv_I M
noncomputable def fA_left (as : List Value) (M : xm_M) : Option Value × xm_M := match as with
  | [_, .int p, .int y, .int x] => (some (.int (xi_x (x = 0) (xi_x (y = 0) (xd_py M (M 11 p.toNatClampNeg) (M 12 p.toNatClampNeg) p 0 0) (xd_py M (M 11 p.toNatClampNeg) (M 12 p.toNatClampNeg) p 1 0 + xd_pc (M 0 6) (M 12 p.toNatClampNeg) (xd_py M (M 11 p.toNatClampNeg) (M 12 p.toNatClampNeg) p 0 0))) (730 * M 12 p.toNatClampNeg) / ((fun z : Int32 => if (1 : Int32) < z then z else 1) (xq_g 1000 (if 0 ≤ (xi_x (y = 0) (xd_py M (M 11 p.toNatClampNeg) (M 12 p.toNatClampNeg) p 0 0) (xd_py M (M 11 p.toNatClampNeg) (M 12 p.toNatClampNeg) p 1 0 + xd_pc (M 0 6) (M 12 p.toNatClampNeg) (xd_py M (M 11 p.toNatClampNeg) (M 12 p.toNatClampNeg) p 0 0))) then (xi_x (y = 0) (xd_py M (M 11 p.toNatClampNeg) (M 12 p.toNatClampNeg) p 0 0) (xd_py M (M 11 p.toNatClampNeg) (M 12 p.toNatClampNeg) p 1 0 + xd_pc (M 0 6) (M 12 p.toNatClampNeg) (xd_py M (M 11 p.toNatClampNeg) (M 12 p.toNatClampNeg) p 0 0))) else -(xi_x (y = 0) (xd_py M (M 11 p.toNatClampNeg) (M 12 p.toNatClampNeg) p 0 0) (xd_py M (M 11 p.toNatClampNeg) (M 12 p.toNatClampNeg) p 1 0 + xd_pc (M 0 6) (M 12 p.toNatClampNeg) (xd_py M (M 11 p.toNatClampNeg) (M 12 p.toNatClampNeg) p 0 0)))) (730 * M 12 p.toNatClampNeg))))), M)
  | _ => (none, M)
noncomputable def ftA_left (as : List Value) (M : xm_M) : Option String := match as with
  | [_, .int p, .int y, .int x] => xo_ (¬ ((0 ≤ p ∧ p ≤ M 2 0 - 1) ∧ (0 ≤ y ∧ y ≤ 1) ∧ (0 ≤ x ∧ x ≤ 1))) (some "java/lang/IllegalArgumentException") (none)
  | _ => none
noncomputable def tA_left : List (Nat × xm_C) := [(88, sP_has), (61, sA_isWithin), (244, sA_partsLeft), (247, sA_partsOfDay), (250, sA_greatestDivisor)]
theorem lA_left (l : Launch) : ∀ n C, (n, C) ∈ tA_left → xm_lkS l "AbsenceRows" xt_T xk_ns xr_p xk_cl xk_tA n C ∨ xm_lkV l "AbsenceRows" xt_T xk_ns xr_p xk_cl xk_tA n C := fun n C h => (show ∀ q ∈ tA_left, xm_lkS l "AbsenceRows" xt_T xk_ns xr_p xk_cl xk_tA q.1 q.2 ∨ xm_lkV l "AbsenceRows" xt_T xk_ns xr_p xk_cl xk_tA q.1 q.2 from List.forall_mem_cons.mpr ⟨Or.inr ⟨xy_P_has, xb_P_has, 2, (some .boolean), xr_ 1, 1, 2, 2, [none, some 8, some 9, some 10, some 11, some 12, some 13, some 14], xk_T2, 8, rfl, rfl, ⟨xe_P_has, xw_39, ⟨by decide, by decide, by decide +kernel⟩, ⟨Nat.le_of_ble_eq_true rfl, Nat.le_of_ble_eq_true rfl⟩, rfl, rfl⟩, xw_372, xw_373, xw_374, rfl, rfl, vP_has, Or.inl ⟨rfl, uP_has, cP_has l⟩⟩, List.forall_mem_cons.mpr ⟨Or.inl ⟨xy_A_isWithin, xb_A_isWithin, 3, (some .boolean), xr_ 0, rfl, ⟨xe_A_isWithin, xw_37, ⟨by decide, by decide, by decide +kernel⟩, ⟨Nat.le_of_ble_eq_true rfl, Nat.le_of_ble_eq_true rfl⟩, rfl, rfl⟩, xw_269, Or.inl xw_268, Or.inl ⟨rfl, uA_isWithin, cA_isWithin l⟩⟩, List.forall_mem_cons.mpr ⟨Or.inr ⟨xy_A_partsLeft, xb_A_partsLeft, 6, (some .int), xr_ 5, 2, 0, 0, [some 1, some 2, some 3, some 4, some 5, some 6, none, none, none], xk_T0, 9, rfl, rfl, ⟨xe_A_partsLeft, xw_37, ⟨by decide, by decide, by decide +kernel⟩, ⟨Nat.le_of_ble_eq_true rfl, Nat.le_of_ble_eq_true rfl⟩, rfl, rfl⟩, xw_658, xw_660, xw_11, rfl, rfl, vA_partsLeft, Or.inl ⟨rfl, uA_partsLeft, cA_partsLeft l⟩⟩, List.forall_mem_cons.mpr ⟨Or.inl ⟨xy_A_partsOfDay, xb_A_partsOfDay, 1, (some .int), xr_ 0, rfl, ⟨xe_A_partsOfDay, xw_37, ⟨by decide, by decide, by decide +kernel⟩, ⟨Nat.le_of_ble_eq_true rfl, Nat.le_of_ble_eq_true rfl⟩, rfl, rfl⟩, xw_446, Or.inl xw_445, Or.inl ⟨rfl, uA_partsOfDay, cA_partsOfDay l⟩⟩, List.forall_mem_cons.mpr ⟨Or.inl ⟨xy_A_greatestDivisor, xb_A_greatestDivisor, 6, (some .int), xr_ 1, rfl, ⟨xe_A_greatestDivisor, xw_37, ⟨by decide, by decide, by decide +kernel⟩, ⟨Nat.le_of_ble_eq_true rfl, Nat.le_of_ble_eq_true rfl⟩, rfl, rfl⟩, xw_663, Or.inl xw_662, Or.inl ⟨rfl, uA_greatestDivisor, cA_greatestDivisor l⟩⟩, fun _ h => absurd h List.not_mem_nil⟩⟩⟩⟩⟩) (n, C) h
def ttA_left : List (Nat × xm_Q) := [(29, (91, 242, 95, false, "java/lang/IllegalArgumentException", "no such person, year or what"))]
theorem toA_left : ∀ q ∈ ttA_left, xm_thr "AbsenceRows" xt_T xk_ns xh_ss xb_A_left q.1 q.2 := List.forall_mem_cons.mpr ⟨⟨⟨by decide +kernel, by decide +kernel, by decide +kernel, by decide +kernel, by decide +kernel⟩, by decide, xh_cl_IllegalArgumentException, xh_in_IllegalArgumentException, xh_at_IllegalArgumentException, xh_ot_IllegalArgumentException, List.mem_of_getElem? (i := 24) rfl⟩, fun _ h => absurd h List.not_mem_nil⟩
set_option maxRecDepth 20000 in
set_option maxHeartbeats 4000000 in
theorem cA_left (l : Launch) (hl : l.stackTraces = false) : xm_Th l xy_A_left (Cond.code xy_A_left xb_A_left 7 (some .int) :: xt_T) xr_p "AbsenceRows" xh_ss xk_cl xk_ns xk_tA pA_left fA_left ftA_left := by
  refine xm_mk_th (rt := .int) (fl := xf_A) (ct := tA_left) (cn := []) (cj := []) (tt := ttA_left) hl (by decide) xs_A xd_A_left rfl (Or.inr rfl) (lA_left l) toA_left ⟨Nat.le_of_ble_eq_true rfl, Nat.le_of_ble_eq_true rfl, rfl, rfl⟩ (fun _ _ _ _ _ _ _ _ => False) ?_ ?_ ?_ (fun _ _ _ _ _ _ _ _ _ h => h.elim) ?_
  · rintro as M ⟨p, y, x, rfl, hpre⟩; exact Nat.le_of_ble_eq_true rfl
  · rintro as M ⟨p, y, x, rfl, hpre⟩; simp [fA_left]
  · rintro as M v ⟨p, y, x, rfl, hpre⟩ h; simp [fA_left] at h
  · rintro as M ⟨p, y, x, rfl, hpre⟩
    refine ⟨600, (And.intro rfl (And.intro rfl (And.intro (Nat.le_of_ble_eq_true rfl) (And.intro (Nat.le_of_ble_eq_true rfl) (And.intro ?g1_c_5 (And.intro (by decide) (And.intro (fun h8 => ?g2_t_29) (fun h8 => (And.intro rfl (And.intro (Nat.le_of_ble_eq_true rfl) (And.intro (Nat.le_of_ble_eq_true rfl) (And.intro ?g3_c_14 (And.intro (by decide) (And.intro (fun h17 => ?g4_t_29) (fun h17 => (And.intro rfl (And.intro (Nat.le_of_ble_eq_true rfl) (And.intro (Nat.le_of_ble_eq_true rfl) (And.intro ?g5_c_23 (And.intro (by decide) (And.intro (fun h26 => (And.intro rfl (And.intro (Nat.le_of_ble_eq_true rfl) (And.intro (Nat.le_of_ble_eq_true rfl) (And.intro ?g6_c_42 (And.intro (Nat.le_of_ble_eq_true rfl) (And.intro rfl (And.intro rfl (And.intro rfl (And.intro ?g7_i_55 (And.intro rfl (And.intro (Nat.le_of_ble_eq_true rfl) (And.intro (Nat.le_of_ble_eq_true rfl) (And.intro ?g8_c_56 (And.intro (Nat.le_of_ble_eq_true rfl) (And.intro rfl (And.intro (Nat.le_of_ble_eq_true rfl) (And.intro (Nat.le_of_ble_eq_true rfl) (And.intro ?g9_c_65 (And.intro (Nat.le_of_ble_eq_true rfl) (And.intro (by decide) (And.intro (fun h71 => (And.intro ?g10_n_83 (And.intro ?g11_w_84 ?g12_r_84))) (fun h71 => (And.intro (by decide) (And.intro ?g13_n_83 (And.intro ?g14_w_84 ?g15_r_84)))))))))))))))))))))))))) (fun h26 => ?g16_t_29))))))))))))))))))))))⟩
    case g1_c_5 =>
      exact ⟨_, rfl⟩
    case g2_t_29 =>
      refine ⟨rfl, _, rfl, ?_⟩
      simp only [ftA_left]
      try simp only [xi_0, xi_n0] at *
      grind [xo_t, xo_f, Int32.not_lt, Int32.not_le]
    case g3_c_14 =>
      exact ⟨_, _, _, rfl⟩
    case g4_t_29 =>
      refine ⟨rfl, _, rfl, ?_⟩
      simp only [ftA_left]
      try simp only [xi_0, xi_n0] at *
      grind [xo_t, xo_f, Int32.not_lt, Int32.not_le]
    case g5_c_23 =>
      exact ⟨_, _, _, rfl⟩
    case g6_c_42 =>
      exact ⟨_, _, rfl, xl_has (by decide) hpre.P (xi_n0.mp h8), hpre.K⟩
    case g7_i_55 =>
      exact xl_has (by decide) hpre.P (xi_n0.mp h8)
    case g8_c_56 =>
      exact ⟨_, rfl⟩
    case g9_c_65 =>
      exact ⟨_, _, rfl⟩
    case g10_n_83 =>
      exact xl_m1 _
    case g11_w_84 =>
      first | rfl | exact xi_nb
    case g12_r_84 =>
      refine ⟨?_, xl_some ?_, rfl⟩
      · simp only [ftA_left]
        rw [xo_f (fun z => z ⟨xi_n0.mp h8, xi_n0.mp h17, xi_n0.mp h26⟩)]
      · first | rw [xi_xt h71] | rw [xi_xf h71]
        all_goals rfl
    case g13_n_83 =>
      exact xl_m1 _
    case g14_w_84 =>
      first | rfl | exact xi_nb
    case g15_r_84 =>
      refine ⟨?_, xl_some ?_, rfl⟩
      · simp only [ftA_left]
        rw [xo_f (fun z => z ⟨xi_n0.mp h8, xi_n0.mp h17, xi_n0.mp h26⟩)]
      · first | rw [xi_xt h71] | rw [xi_xf h71]
        all_goals rfl
    case g16_t_29 =>
      refine ⟨rfl, _, rfl, ?_⟩
      simp only [ftA_left]
      try simp only [xi_0, xi_n0] at *
      grind [xo_t, xo_f, Int32.not_lt, Int32.not_le]
def pA_absent (as : List Value) (M : xm_M) : Prop := ∃ p d : Int32, as = [.ref 0, .int p, .int d] ∧ xv_I M
noncomputable def fA_absent (as : List Value) (M : xm_M) : Option Value × xm_M := match as with
  | [_, .int p, .int d] => (some (.int (xi_b (¬ xd_abs M d &&& ((1 : Int32) <<< (p &&& 31)) = 0))), M)
  | _ => (none, M)
noncomputable def ftA_absent (as : List Value) (M : xm_M) : Option String := match as with
  | [_, .int p, .int d] => xo_ (¬ (0 ≤ p ∧ p ≤ M 2 0 - 1)) (some "java/lang/IllegalArgumentException") (xo_ (¬ (0 ≤ d ∧ d ≤ 729)) (some "java/lang/IndexOutOfBoundsException") (none))
  | _ => none
noncomputable def tA_absent : List (Nat × xm_C) := [(88, sP_has), (65, sA_isDay), (253, sK_absentOn), (149, sA_holds)]
theorem lA_absent (l : Launch) : ∀ n C, (n, C) ∈ tA_absent → xm_lkS l "AbsenceRows" xt_T xk_ns xr_p xk_cl xk_tA n C ∨ xm_lkV l "AbsenceRows" xt_T xk_ns xr_p xk_cl xk_tA n C := fun n C h => (show ∀ q ∈ tA_absent, xm_lkS l "AbsenceRows" xt_T xk_ns xr_p xk_cl xk_tA q.1 q.2 ∨ xm_lkV l "AbsenceRows" xt_T xk_ns xr_p xk_cl xk_tA q.1 q.2 from List.forall_mem_cons.mpr ⟨Or.inr ⟨xy_P_has, xb_P_has, 2, (some .boolean), xr_ 1, 1, 2, 2, [none, some 8, some 9, some 10, some 11, some 12, some 13, some 14], xk_T2, 8, rfl, rfl, ⟨xe_P_has, xw_39, ⟨by decide, by decide, by decide +kernel⟩, ⟨Nat.le_of_ble_eq_true rfl, Nat.le_of_ble_eq_true rfl⟩, rfl, rfl⟩, xw_372, xw_373, xw_374, rfl, rfl, vP_has, Or.inl ⟨rfl, uP_has, cP_has l⟩⟩, List.forall_mem_cons.mpr ⟨Or.inl ⟨xy_A_isDay, xb_A_isDay, 1, (some .boolean), xr_ 1, rfl, ⟨xe_A_isDay, xw_37, ⟨by decide, by decide, by decide +kernel⟩, ⟨Nat.le_of_ble_eq_true rfl, Nat.le_of_ble_eq_true rfl⟩, rfl, rfl⟩, xw_272, Or.inl xw_271, Or.inl ⟨rfl, uA_isDay, cA_isDay l⟩⟩, List.forall_mem_cons.mpr ⟨Or.inr ⟨xy_K_absentOn, xb_K_absentOn, 4, (some .int), xr_ 1, 1, 4, 4, [none, some 18, some 19, some 20, some 21, some 22, some 23, some 24], xk_T4, 8, rfl, rfl, ⟨xe_K_absentOn, xw_41, ⟨by decide, by decide, by decide +kernel⟩, ⟨Nat.le_of_ble_eq_true rfl, Nat.le_of_ble_eq_true rfl⟩, rfl, rfl⟩, xw_614, xw_615, xw_616, rfl, rfl, vK_absentOn, Or.inl ⟨rfl, uK_absentOn, cK_absentOn l⟩⟩, List.forall_mem_cons.mpr ⟨Or.inl ⟨xy_A_holds, xb_A_holds, 2, (some .boolean), xr_ 1, rfl, ⟨xe_A_holds, xw_37, ⟨by decide, by decide, by decide +kernel⟩, ⟨Nat.le_of_ble_eq_true rfl, Nat.le_of_ble_eq_true rfl⟩, rfl, rfl⟩, xw_526, Or.inl xw_525, Or.inl ⟨rfl, uA_holds, cA_holds l⟩⟩, fun _ h => absurd h List.not_mem_nil⟩⟩⟩⟩) (n, C) h
def ttA_absent : List (Nat × xm_Q) := [(11, (91, 93, 95, false, "java/lang/IllegalArgumentException", "no such person")), (28, (69, 118, 73, false, "java/lang/IndexOutOfBoundsException", "no such day"))]
theorem toA_absent : ∀ q ∈ ttA_absent, xm_thr "AbsenceRows" xt_T xk_ns xh_ss xb_A_absent q.1 q.2 := List.forall_mem_cons.mpr ⟨⟨⟨by decide +kernel, by decide +kernel, by decide +kernel, by decide +kernel, by decide +kernel⟩, by decide, xh_cl_IllegalArgumentException, xh_in_IllegalArgumentException, xh_at_IllegalArgumentException, xh_ot_IllegalArgumentException, List.mem_of_getElem? (i := 2) rfl⟩, List.forall_mem_cons.mpr ⟨⟨⟨by decide +kernel, by decide +kernel, by decide +kernel, by decide +kernel, by decide +kernel⟩, by decide, xh_cl_IndexOutOfBoundsException, xh_in_IndexOutOfBoundsException, xh_at_IndexOutOfBoundsException, xh_ot_IndexOutOfBoundsException, List.mem_of_getElem? (i := 7) rfl⟩, fun _ h => absurd h List.not_mem_nil⟩⟩
set_option maxRecDepth 20000 in
set_option maxHeartbeats 4000000 in
theorem cA_absent (l : Launch) (hl : l.stackTraces = false) : xm_Th l xy_A_absent (Cond.code xy_A_absent xb_A_absent 3 (some .boolean) :: xt_T) xr_p "AbsenceRows" xh_ss xk_cl xk_ns xk_tA pA_absent fA_absent ftA_absent := by
  refine xm_mk_th (rt := .boolean) (fl := xf_A) (ct := tA_absent) (cn := []) (cj := []) (tt := ttA_absent) hl (by decide) xs_A xd_A_absent rfl (Or.inr rfl) (lA_absent l) toA_absent ⟨Nat.le_of_ble_eq_true rfl, Nat.le_of_ble_eq_true rfl, rfl, rfl⟩ (fun _ _ _ _ _ _ _ _ => False) ?_ ?_ ?_ (fun _ _ _ _ _ _ _ _ _ h => h.elim) ?_
  · rintro as M ⟨p, d, rfl, hpre⟩; exact Nat.le_of_ble_eq_true rfl
  · rintro as M ⟨p, d, rfl, hpre⟩; simp [fA_absent]
  · rintro as M v ⟨p, d, rfl, hpre⟩ h; simp [fA_absent] at h
  · rintro as M ⟨p, d, rfl, hpre⟩
    refine ⟨600, (And.intro rfl (And.intro rfl (And.intro (Nat.le_of_ble_eq_true rfl) (And.intro (Nat.le_of_ble_eq_true rfl) (And.intro ?g1_c_5 (And.intro (by decide) (And.intro (fun h8 => (And.intro rfl (And.intro (Nat.le_of_ble_eq_true rfl) (And.intro (Nat.le_of_ble_eq_true rfl) (And.intro ?g2_c_22 (And.intro (by decide) (And.intro (fun h25 => (And.intro rfl (And.intro rfl (And.intro (Nat.le_of_ble_eq_true rfl) (And.intro (Nat.le_of_ble_eq_true rfl) (And.intro ?g3_c_43 (And.intro rfl (And.intro (Nat.le_of_ble_eq_true rfl) (And.intro (Nat.le_of_ble_eq_true rfl) (And.intro ?g4_c_47 (And.intro ?g5_w_50 ?g6_r_50))))))))))) (fun h25 => ?g7_t_28)))))))) (fun h8 => ?g8_t_11))))))))⟩
    case g1_c_5 =>
      exact ⟨_, rfl⟩
    case g2_c_22 =>
      exact ⟨_, rfl⟩
    case g3_c_43 =>
      exact ⟨_, rfl, hpre.A⟩
    case g4_c_47 =>
      exact ⟨_, _, rfl⟩
    case g5_w_50 =>
      first | rfl | exact xi_nb
    case g6_r_50 =>
      refine ⟨?_, rfl, rfl⟩
      simp only [ftA_absent]
      try simp only [xi_0, xi_n0] at *
      grind [xo_t, xo_f, Int32.not_lt, Int32.not_le]
    case g7_t_28 =>
      refine ⟨rfl, _, rfl, ?_⟩
      simp only [ftA_absent]
      try simp only [xi_0, xi_n0] at *
      grind [xo_t, xo_f, Int32.not_lt, Int32.not_le]
    case g8_t_11 =>
      refine ⟨rfl, _, rfl, ?_⟩
      simp only [ftA_absent]
      try simp only [xi_0, xi_n0] at *
      grind [xo_t, xo_f, Int32.not_lt, Int32.not_le]
def pA_present (as : List Value) (M : xm_M) : Prop := ∃ w d : Int32, as = [.ref 0, .int w, .int d] ∧ xv_I M
noncomputable def fA_present (as : List Value) (M : xm_M) : Option Value × xm_M := match as with
  | [_, .int w, .int d] => (some (.int (xd_bc (M 17 w.toNatClampNeg &&& xd_aw M d ||| xd_come M w d))), M)
  | _ => (none, M)
noncomputable def ftA_present (as : List Value) (M : xm_M) : Option String := match as with
  | [_, .int w, .int d] => xo_ (¬ (0 ≤ w ∧ w ≤ M 3 0 - 1)) (some "java/lang/IllegalArgumentException") (xo_ (¬ (0 ≤ d ∧ d ≤ 729)) (some "java/lang/IndexOutOfBoundsException") (none))
  | _ => none
noncomputable def tA_present : List (Nat × xm_C) := [(143, sW_has), (65, sA_isDay), (258, sA_atWorkOn), (261, sL_comeTo), (158, sI_bitCount)]
theorem lA_present (l : Launch) : ∀ n C, (n, C) ∈ tA_present → xm_lkS l "AbsenceRows" xt_T xk_ns xr_p xk_cl xk_tA n C ∨ xm_lkV l "AbsenceRows" xt_T xk_ns xr_p xk_cl xk_tA n C := fun n C h => (show ∀ q ∈ tA_present, xm_lkS l "AbsenceRows" xt_T xk_ns xr_p xk_cl xk_tA q.1 q.2 ∨ xm_lkV l "AbsenceRows" xt_T xk_ns xr_p xk_cl xk_tA q.1 q.2 from List.forall_mem_cons.mpr ⟨Or.inr ⟨xy_W_has, xb_W_has, 2, (some .boolean), xr_ 1, 1, 3, 3, [none, some 15, some 16, some 17], xk_T3, 4, rfl, rfl, ⟨xe_W_has, xw_40, ⟨by decide, by decide, by decide +kernel⟩, ⟨Nat.le_of_ble_eq_true rfl, Nat.le_of_ble_eq_true rfl⟩, rfl, rfl⟩, xw_519, xw_520, xw_521, rfl, rfl, vW_has, Or.inl ⟨rfl, uW_has, cW_has l⟩⟩, List.forall_mem_cons.mpr ⟨Or.inl ⟨xy_A_isDay, xb_A_isDay, 1, (some .boolean), xr_ 1, rfl, ⟨xe_A_isDay, xw_37, ⟨by decide, by decide, by decide +kernel⟩, ⟨Nat.le_of_ble_eq_true rfl, Nat.le_of_ble_eq_true rfl⟩, rfl, rfl⟩, xw_272, Or.inl xw_271, Or.inl ⟨rfl, uA_isDay, cA_isDay l⟩⟩, List.forall_mem_cons.mpr ⟨Or.inr ⟨xy_A_atWorkOn, xb_A_atWorkOn, 2, (some .int), xr_ 2, 1, 0, 0, [some 1, some 2, some 3, some 4, some 5, some 6, none, none, none], xk_T0, 9, rfl, rfl, ⟨xe_A_atWorkOn, xw_37, ⟨by decide, by decide, by decide +kernel⟩, ⟨Nat.le_of_ble_eq_true rfl, Nat.le_of_ble_eq_true rfl⟩, rfl, rfl⟩, xw_605, xw_607, xw_10, rfl, rfl, vA_atWorkOn, Or.inl ⟨rfl, uA_atWorkOn, cA_atWorkOn l⟩⟩, List.forall_mem_cons.mpr ⟨Or.inr ⟨xy_L_comeTo, xb_L_comeTo, 5, (some .int), xr_ 1, 2, 6, 6, [none, some 28, some 29, some 30, some 31, some 32, some 33], xk_T6, 7, rfl, rfl, ⟨xe_L_comeTo, xw_43, ⟨by decide, by decide, by decide +kernel⟩, ⟨Nat.le_of_ble_eq_true rfl, Nat.le_of_ble_eq_true rfl⟩, rfl, rfl⟩, xw_620, xw_621, xw_622, rfl, rfl, vL_comeTo, Or.inl ⟨rfl, uL_comeTo, cL_comeTo l⟩⟩, List.forall_mem_cons.mpr ⟨Or.inl ⟨xy_I_bitCount, xb_I_bitCount, 1, (some .int), xr_ 0, rfl, ⟨xe_I_bitCount, xw_53, ⟨by decide, by decide, by decide +kernel⟩, ⟨Nat.le_of_ble_eq_true rfl, Nat.le_of_ble_eq_true rfl⟩, rfl, rfl⟩, xw_533, Or.inl xw_532, Or.inl ⟨rfl, uI_bitCount, cI_bitCount l⟩⟩, fun _ h => absurd h List.not_mem_nil⟩⟩⟩⟩⟩) (n, C) h
def ttA_present : List (Nat × xm_Q) := [(11, (91, 256, 95, true, "java/lang/IllegalArgumentException", "no such crew")), (29, (69, 118, 73, false, "java/lang/IndexOutOfBoundsException", "no such day"))]
theorem toA_present : ∀ q ∈ ttA_present, xm_thr "AbsenceRows" xt_T xk_ns xh_ss xb_A_present q.1 q.2 := List.forall_mem_cons.mpr ⟨⟨⟨by decide +kernel, by decide +kernel, by decide +kernel, by decide +kernel, by decide +kernel⟩, by decide, xh_cl_IllegalArgumentException, xh_in_IllegalArgumentException, xh_at_IllegalArgumentException, xh_ot_IllegalArgumentException, List.mem_of_getElem? (i := 25) rfl⟩, List.forall_mem_cons.mpr ⟨⟨⟨by decide +kernel, by decide +kernel, by decide +kernel, by decide +kernel, by decide +kernel⟩, by decide, xh_cl_IndexOutOfBoundsException, xh_in_IndexOutOfBoundsException, xh_at_IndexOutOfBoundsException, xh_ot_IndexOutOfBoundsException, List.mem_of_getElem? (i := 7) rfl⟩, fun _ h => absurd h List.not_mem_nil⟩⟩
set_option maxRecDepth 20000 in
set_option maxHeartbeats 4000000 in
theorem cA_present (l : Launch) (hl : l.stackTraces = false) : xm_Th l xy_A_present (Cond.code xy_A_present xb_A_present 3 (some .int) :: xt_T) xr_p "AbsenceRows" xh_ss xk_cl xk_ns xk_tA pA_present fA_present ftA_present := by
  refine xm_mk_th (rt := .int) (fl := xf_A) (ct := tA_present) (cn := []) (cj := []) (tt := ttA_present) hl (by decide) xs_A xd_A_present rfl (Or.inr rfl) (lA_present l) toA_present ⟨Nat.le_of_ble_eq_true rfl, Nat.le_of_ble_eq_true rfl, rfl, rfl⟩ (fun _ _ _ _ _ _ _ _ => False) ?_ ?_ ?_ (fun _ _ _ _ _ _ _ _ _ h => h.elim) ?_
  · rintro as M ⟨w, d, rfl, hpre⟩; exact Nat.le_of_ble_eq_true rfl
  · rintro as M ⟨w, d, rfl, hpre⟩; simp [fA_present]
  · rintro as M v ⟨w, d, rfl, hpre⟩ h; simp [fA_present] at h
  · rintro as M ⟨w, d, rfl, hpre⟩
    refine ⟨600, (And.intro rfl (And.intro rfl (And.intro (Nat.le_of_ble_eq_true rfl) (And.intro (Nat.le_of_ble_eq_true rfl) (And.intro ?g1_c_5 (And.intro (by decide) (And.intro (fun h8 => (And.intro rfl (And.intro (Nat.le_of_ble_eq_true rfl) (And.intro (Nat.le_of_ble_eq_true rfl) (And.intro ?g2_c_23 (And.intro (by decide) (And.intro (fun h26 => (And.intro rfl (And.intro rfl (And.intro rfl (And.intro ?g3_i_47 (And.intro rfl (And.intro (Nat.le_of_ble_eq_true rfl) (And.intro (Nat.le_of_ble_eq_true rfl) (And.intro ?g4_c_50 (And.intro rfl (And.intro rfl (And.intro (Nat.le_of_ble_eq_true rfl) (And.intro (Nat.le_of_ble_eq_true rfl) (And.intro ?g5_c_60 (And.intro rfl (And.intro (Nat.le_of_ble_eq_true rfl) (And.intro (Nat.le_of_ble_eq_true rfl) (And.intro ?g6_c_64 (And.intro ?g7_w_67 ?g8_r_67))))))))))))))))))) (fun h26 => ?g9_t_29)))))))) (fun h8 => ?g10_t_11))))))))⟩
    case g1_c_5 =>
      exact ⟨_, rfl⟩
    case g2_c_23 =>
      exact ⟨_, rfl⟩
    case g3_i_47 =>
      exact xl_has (by decide) hpre.W (xi_n0.mp h8)
    case g4_c_50 =>
      exact ⟨_, rfl, hpre.1⟩
    case g5_c_60 =>
      exact ⟨_, _, rfl, hpre.L⟩
    case g6_c_64 =>
      exact ⟨_, rfl⟩
    case g7_w_67 =>
      first | rfl | exact xi_nb
    case g8_r_67 =>
      refine ⟨?_, rfl, rfl⟩
      simp only [ftA_present]
      try simp only [xi_0, xi_n0] at *
      grind [xo_t, xo_f, Int32.not_lt, Int32.not_le]
    case g9_t_29 =>
      refine ⟨rfl, _, rfl, ?_⟩
      simp only [ftA_present]
      try simp only [xi_0, xi_n0] at *
      grind [xo_t, xo_f, Int32.not_lt, Int32.not_le]
    case g10_t_11 =>
      refine ⟨rfl, _, rfl, ?_⟩
      simp only [ftA_present]
      try simp only [xi_0, xi_n0] at *
      grind [xo_t, xo_f, Int32.not_lt, Int32.not_le]
def pA_held (as : List Value) (M : xm_M) : Prop := ∃ i x : Int32, as = [.ref 0, .int i, .int x] ∧ xv_I M
noncomputable def fA_held (as : List Value) (M : xm_M) : Option Value × xm_M := match as with
  | [_, .int i, .int x] => (some (.int (xi_x (x = 0) (M 25 i.toNatClampNeg) (xi_x (x = 1) (M 26 i.toNatClampNeg) (xi_x (x = 2) (M 27 i.toNatClampNeg) (0))))), M)
  | _ => (none, M)
noncomputable def ftA_held (as : List Value) (M : xm_M) : Option String := match as with
  | [_, .int i, .int x] => xo_ (¬ (0 ≤ i ∧ i ≤ M 5 0 - 1)) (some "java/lang/IllegalArgumentException") (xo_ (¬ (x = 0 ∨ x = 1 ∨ x = 2)) (some "java/lang/IllegalArgumentException") (none))
  | _ => none
noncomputable def tA_held : List (Nat × xm_C) := [(264, sH_has)]
theorem lA_held (l : Launch) : ∀ n C, (n, C) ∈ tA_held → xm_lkS l "AbsenceRows" xt_T xk_ns xr_p xk_cl xk_tA n C ∨ xm_lkV l "AbsenceRows" xt_T xk_ns xr_p xk_cl xk_tA n C := fun n C h => (show ∀ q ∈ tA_held, xm_lkS l "AbsenceRows" xt_T xk_ns xr_p xk_cl xk_tA q.1 q.2 ∨ xm_lkV l "AbsenceRows" xt_T xk_ns xr_p xk_cl xk_tA q.1 q.2 from List.forall_mem_cons.mpr ⟨Or.inr ⟨xy_H_has, xb_H_has, 2, (some .boolean), xr_ 1, 1, 5, 5, [none, some 25, some 26, some 27], xk_T5, 4, rfl, rfl, ⟨xe_H_has, xw_42, ⟨by decide, by decide, by decide +kernel⟩, ⟨Nat.le_of_ble_eq_true rfl, Nat.le_of_ble_eq_true rfl⟩, rfl, rfl⟩, xw_690, xw_691, xw_692, rfl, rfl, vH_has, Or.inl ⟨rfl, uH_has, cH_has l⟩⟩, fun _ h => absurd h List.not_mem_nil⟩) (n, C) h
def ttA_held : List (Nat × xm_Q) := [(11, (91, 265, 95, true, "java/lang/IllegalArgumentException", "no such row")), (78, (91, 240, 95, false, "java/lang/IllegalArgumentException", "no such what"))]
theorem toA_held : ∀ q ∈ ttA_held, xm_thr "AbsenceRows" xt_T xk_ns xh_ss xb_A_held q.1 q.2 := List.forall_mem_cons.mpr ⟨⟨⟨by decide +kernel, by decide +kernel, by decide +kernel, by decide +kernel, by decide +kernel⟩, by decide, xh_cl_IllegalArgumentException, xh_in_IllegalArgumentException, xh_at_IllegalArgumentException, xh_ot_IllegalArgumentException, List.mem_of_getElem? (i := 26) rfl⟩, List.forall_mem_cons.mpr ⟨⟨⟨by decide +kernel, by decide +kernel, by decide +kernel, by decide +kernel, by decide +kernel⟩, by decide, xh_cl_IllegalArgumentException, xh_in_IllegalArgumentException, xh_at_IllegalArgumentException, xh_ot_IllegalArgumentException, List.mem_of_getElem? (i := 23) rfl⟩, fun _ h => absurd h List.not_mem_nil⟩⟩
set_option maxRecDepth 20000 in
set_option maxHeartbeats 4000000 in
theorem cA_held (l : Launch) (hl : l.stackTraces = false) : xm_Th l xy_A_held (Cond.code xy_A_held xb_A_held 3 (some .int) :: xt_T) xr_p "AbsenceRows" xh_ss xk_cl xk_ns xk_tA pA_held fA_held ftA_held := by
  refine xm_mk_th (rt := .int) (fl := xf_A) (ct := tA_held) (cn := []) (cj := []) (tt := ttA_held) hl (by decide) xs_A xd_A_held rfl (Or.inr rfl) (lA_held l) toA_held ⟨Nat.le_of_ble_eq_true rfl, Nat.le_of_ble_eq_true rfl, rfl, rfl⟩ (fun _ _ _ _ _ _ _ _ => False) ?_ ?_ ?_ (fun _ _ _ _ _ _ _ _ _ h => h.elim) ?_
  · rintro as M ⟨i, x, rfl, hpre⟩; exact Nat.le_of_ble_eq_true rfl
  · rintro as M ⟨i, x, rfl, hpre⟩; simp [fA_held]
  · rintro as M v ⟨i, x, rfl, hpre⟩ h; simp [fA_held] at h
  · rintro as M ⟨i, x, rfl, hpre⟩
    refine ⟨600, (And.intro rfl (And.intro rfl (And.intro (Nat.le_of_ble_eq_true rfl) (And.intro (Nat.le_of_ble_eq_true rfl) (And.intro ?g1_c_5 (And.intro (by decide) (And.intro (fun h8 => (And.intro (fun h23 => (And.intro (by decide) ?g2_t_78)) (And.intro (by decide) (And.intro (fun h23 => (And.intro (by decide) (And.intro rfl (And.intro rfl (And.intro rfl (And.intro ?g9_i_56 (And.intro ?g10_w_57 ?g11_r_57))))))) (And.intro (fun h23 => (And.intro (by decide) (And.intro rfl (And.intro rfl (And.intro rfl (And.intro ?g6_i_66 (And.intro ?g7_w_67 ?g8_r_67))))))) (And.intro (fun h23 => (And.intro (by decide) (And.intro rfl (And.intro rfl (And.intro rfl (And.intro ?g3_i_76 (And.intro ?g4_w_77 ?g5_r_77))))))) True.intro)))))) (fun h8 => ?g12_t_11))))))))⟩
    case g1_c_5 =>
      exact ⟨_, rfl⟩
    case g2_t_78 =>
      refine ⟨rfl, _, rfl, ?_⟩
      simp only [ftA_held]
      rw [xo_f (fun z => z (xi_n0.mp h8)), xo_t (fun z => ?_)]
      have hz : ¬ x = 0 ∧ ¬ x = 1 ∧ ¬ x = 2 := ⟨xl_td h23 _, xl_td h23 _, xl_td h23 _⟩
      grind
    case g3_i_76 =>
      exact xl_has (by decide) hpre.H (xi_n0.mp h8)
    case g4_w_77 =>
      first | rfl | exact xi_nb
    case g5_r_77 =>
      have hz := xl_tb h23
      refine ⟨?_, xl_some ?_, rfl⟩
      · simp only [ftA_held]
        rw [xo_f (fun z => z (xi_n0.mp h8)), xo_f (fun z => z (by rw [hz]; decide))]
      · subst hz
        simp [xi_x]
        try rfl
    case g6_i_66 =>
      exact xl_has (by decide) hpre.H (xi_n0.mp h8)
    case g7_w_67 =>
      first | rfl | exact xi_nb
    case g8_r_67 =>
      have hz := xl_tb h23
      refine ⟨?_, xl_some ?_, rfl⟩
      · simp only [ftA_held]
        rw [xo_f (fun z => z (xi_n0.mp h8)), xo_f (fun z => z (by rw [hz]; decide))]
      · subst hz
        simp [xi_x]
        try rfl
    case g9_i_56 =>
      exact xl_has (by decide) hpre.H (xi_n0.mp h8)
    case g10_w_57 =>
      first | rfl | exact xi_nb
    case g11_r_57 =>
      have hz := xl_tb h23
      refine ⟨?_, xl_some ?_, rfl⟩
      · simp only [ftA_held]
        rw [xo_f (fun z => z (xi_n0.mp h8)), xo_f (fun z => z (by rw [hz]; decide))]
      · subst hz
        simp [xi_x]
        try rfl
    case g12_t_11 =>
      refine ⟨rfl, _, rfl, ?_⟩
      simp only [ftA_held]
      try simp only [xi_0, xi_n0] at *
      grind [xo_t, xo_f, Int32.not_lt, Int32.not_le]
def pA_bar (as : List Value) (M : xm_M) : Prop := ∃ p s u : Int32, as = [.ref 0, .int p, .int s, .int u] ∧ xv_I M
noncomputable def fA_bar (as : List Value) (M : xm_M) : Option Value × xm_M := match as with
  | [_, .int p, .int s, .int u] => (none, (xm_up M 14 (p * 8 + s).toNatClampNeg u))
  | _ => (none, M)
noncomputable def ftA_bar (as : List Value) (M : xm_M) : Option String := match as with
  | [_, .int p, .int s, .int u] => xo_ (¬ ((0 ≤ p ∧ p ≤ M 2 0 - 1) ∧ (0 ≤ s ∧ s ≤ 7))) (some "java/lang/IllegalArgumentException") (xo_ (¬ (0 ≤ u ∧ u ≤ 729)) (some "java/lang/IndexOutOfBoundsException") (none))
  | _ => none
noncomputable def tA_bar : List (Nat × xm_C) := [(88, sP_has), (61, sA_isWithin), (65, sA_isDay)]
theorem lA_bar (l : Launch) : ∀ n C, (n, C) ∈ tA_bar → xm_lkS l "AbsenceRows" xt_T xk_ns xr_p xk_cl xk_tA n C ∨ xm_lkV l "AbsenceRows" xt_T xk_ns xr_p xk_cl xk_tA n C := fun n C h => (show ∀ q ∈ tA_bar, xm_lkS l "AbsenceRows" xt_T xk_ns xr_p xk_cl xk_tA q.1 q.2 ∨ xm_lkV l "AbsenceRows" xt_T xk_ns xr_p xk_cl xk_tA q.1 q.2 from List.forall_mem_cons.mpr ⟨Or.inr ⟨xy_P_has, xb_P_has, 2, (some .boolean), xr_ 1, 1, 2, 2, [none, some 8, some 9, some 10, some 11, some 12, some 13, some 14], xk_T2, 8, rfl, rfl, ⟨xe_P_has, xw_39, ⟨by decide, by decide, by decide +kernel⟩, ⟨Nat.le_of_ble_eq_true rfl, Nat.le_of_ble_eq_true rfl⟩, rfl, rfl⟩, xw_372, xw_373, xw_374, rfl, rfl, vP_has, Or.inl ⟨rfl, uP_has, cP_has l⟩⟩, List.forall_mem_cons.mpr ⟨Or.inl ⟨xy_A_isWithin, xb_A_isWithin, 3, (some .boolean), xr_ 0, rfl, ⟨xe_A_isWithin, xw_37, ⟨by decide, by decide, by decide +kernel⟩, ⟨Nat.le_of_ble_eq_true rfl, Nat.le_of_ble_eq_true rfl⟩, rfl, rfl⟩, xw_269, Or.inl xw_268, Or.inl ⟨rfl, uA_isWithin, cA_isWithin l⟩⟩, List.forall_mem_cons.mpr ⟨Or.inl ⟨xy_A_isDay, xb_A_isDay, 1, (some .boolean), xr_ 1, rfl, ⟨xe_A_isDay, xw_37, ⟨by decide, by decide, by decide +kernel⟩, ⟨Nat.le_of_ble_eq_true rfl, Nat.le_of_ble_eq_true rfl⟩, rfl, rfl⟩, xw_272, Or.inl xw_271, Or.inl ⟨rfl, uA_isDay, cA_isDay l⟩⟩, fun _ h => absurd h List.not_mem_nil⟩⟩⟩) (n, C) h
def ttA_bar : List (Nat × xm_Q) := [(21, (91, 276, 95, true, "java/lang/IllegalArgumentException", "no such person or skill")), (39, (69, 118, 73, false, "java/lang/IndexOutOfBoundsException", "no such day"))]
theorem toA_bar : ∀ q ∈ ttA_bar, xm_thr "AbsenceRows" xt_T xk_ns xh_ss xb_A_bar q.1 q.2 := List.forall_mem_cons.mpr ⟨⟨⟨by decide +kernel, by decide +kernel, by decide +kernel, by decide +kernel, by decide +kernel⟩, by decide, xh_cl_IllegalArgumentException, xh_in_IllegalArgumentException, xh_at_IllegalArgumentException, xh_ot_IllegalArgumentException, List.mem_of_getElem? (i := 27) rfl⟩, List.forall_mem_cons.mpr ⟨⟨⟨by decide +kernel, by decide +kernel, by decide +kernel, by decide +kernel, by decide +kernel⟩, by decide, xh_cl_IndexOutOfBoundsException, xh_in_IndexOutOfBoundsException, xh_at_IndexOutOfBoundsException, xh_ot_IndexOutOfBoundsException, List.mem_of_getElem? (i := 7) rfl⟩, fun _ h => absurd h List.not_mem_nil⟩⟩
set_option maxRecDepth 20000 in
set_option maxHeartbeats 4000000 in
theorem cA_bar (l : Launch) (hl : l.stackTraces = false) : xm_Th l xy_A_bar (Cond.code xy_A_bar xb_A_bar 4 none :: xt_T) xr_p "AbsenceRows" xh_ss xk_cl xk_ns xk_tA pA_bar fA_bar ftA_bar := by
  refine xm_mk_th (rt := .int) (fl := xf_A) (ct := tA_bar) (cn := []) (cj := []) (tt := ttA_bar) hl (by decide) xs_A xd_A_bar rfl (Or.inl rfl) (lA_bar l) toA_bar ⟨Nat.le_of_ble_eq_true rfl, Nat.le_of_ble_eq_true rfl, rfl, rfl⟩ (fun _ _ _ _ _ _ _ _ => False) ?_ ?_ ?_ (fun _ _ _ _ _ _ _ _ _ h => h.elim) ?_
  · rintro as M ⟨p, s, u, rfl, hpre⟩; exact Nat.le_of_ble_eq_true rfl
  · rintro as M ⟨p, s, u, rfl, hpre⟩; simp [fA_bar]
  · rintro as M v ⟨p, s, u, rfl, hpre⟩ h; simp [fA_bar] at h
  · rintro as M ⟨p, s, u, rfl, hpre⟩
    refine ⟨600, (And.intro rfl (And.intro rfl (And.intro (Nat.le_of_ble_eq_true rfl) (And.intro (Nat.le_of_ble_eq_true rfl) (And.intro ?g1_c_5 (And.intro (by decide) (And.intro (fun h8 => ?g2_t_21) (fun h8 => (And.intro rfl (And.intro (Nat.le_of_ble_eq_true rfl) (And.intro (Nat.le_of_ble_eq_true rfl) (And.intro ?g3_c_15 (And.intro (by decide) (And.intro (fun h18 => (And.intro rfl (And.intro (Nat.le_of_ble_eq_true rfl) (And.intro (Nat.le_of_ble_eq_true rfl) (And.intro ?g4_c_33 (And.intro (by decide) (And.intro (fun h36 => (And.intro rfl (And.intro rfl (And.intro rfl (And.intro ?g5_i_63 ?g6_r_64))))) (fun h36 => ?g7_t_39)))))))) (fun h18 => ?g8_t_21)))))))))))))))⟩
    case g1_c_5 =>
      exact ⟨_, rfl⟩
    case g2_t_21 =>
      refine ⟨rfl, _, rfl, ?_⟩
      simp only [ftA_bar]
      try simp only [xi_0, xi_n0] at *
      grind [xo_t, xo_f, Int32.not_lt, Int32.not_le]
    case g3_c_15 =>
      exact ⟨_, _, _, rfl⟩
    case g4_c_33 =>
      exact ⟨_, rfl⟩
    case g5_i_63 =>
      exact xl_b8 (xl_has (by decide) hpre.P (xi_n0.mp h8)) (xl_8 (xi_n0.mp h18))
    case g6_r_64 =>
      refine ⟨?_, rfl, rfl⟩
      simp only [ftA_bar]
      try simp only [xi_0, xi_n0] at *
      grind [xo_t, xo_f, Int32.not_lt, Int32.not_le]
    case g7_t_39 =>
      refine ⟨rfl, _, rfl, ?_⟩
      simp only [ftA_bar]
      try simp only [xi_0, xi_n0] at *
      grind [xo_t, xo_f, Int32.not_lt, Int32.not_le]
    case g8_t_21 =>
      refine ⟨rfl, _, rfl, ?_⟩
      simp only [ftA_bar]
      try simp only [xi_0, xi_n0] at *
      grind [xo_t, xo_f, Int32.not_lt, Int32.not_le]
def pA_patience (as : List Value) (M : xm_M) : Prop := ∃ u : Int32, as = [.ref 0, .int u] ∧ xv_I M
noncomputable def fA_patience (as : List Value) (M : xm_M) : Option Value × xm_M := match as with
  | [_, .int u] => (none, (xm_up M 0 7 u))
  | _ => (none, M)
noncomputable def ftA_patience (as : List Value) (M : xm_M) : Option String := match as with
  | [_, .int u] => xo_ (¬ (1 ≤ u ∧ u ≤ 48)) (some "java/lang/IndexOutOfBoundsException") (none)
  | _ => none
noncomputable def tA_patience : List (Nat × xm_C) := [(61, sA_isWithin)]
theorem lA_patience (l : Launch) : ∀ n C, (n, C) ∈ tA_patience → xm_lkS l "AbsenceRows" xt_T xk_ns xr_p xk_cl xk_tA n C ∨ xm_lkV l "AbsenceRows" xt_T xk_ns xr_p xk_cl xk_tA n C := fun n C h => (show ∀ q ∈ tA_patience, xm_lkS l "AbsenceRows" xt_T xk_ns xr_p xk_cl xk_tA q.1 q.2 ∨ xm_lkV l "AbsenceRows" xt_T xk_ns xr_p xk_cl xk_tA q.1 q.2 from List.forall_mem_cons.mpr ⟨Or.inl ⟨xy_A_isWithin, xb_A_isWithin, 3, (some .boolean), xr_ 0, rfl, ⟨xe_A_isWithin, xw_37, ⟨by decide, by decide, by decide +kernel⟩, ⟨Nat.le_of_ble_eq_true rfl, Nat.le_of_ble_eq_true rfl⟩, rfl, rfl⟩, xw_269, Or.inl xw_268, Or.inl ⟨rfl, uA_isWithin, cA_isWithin l⟩⟩, fun _ h => absurd h List.not_mem_nil⟩) (n, C) h
def ttA_patience : List (Nat × xm_Q) := [(10, (69, 281, 73, true, "java/lang/IndexOutOfBoundsException", "hours"))]
theorem toA_patience : ∀ q ∈ ttA_patience, xm_thr "AbsenceRows" xt_T xk_ns xh_ss xb_A_patience q.1 q.2 := List.forall_mem_cons.mpr ⟨⟨⟨by decide +kernel, by decide +kernel, by decide +kernel, by decide +kernel, by decide +kernel⟩, by decide, xh_cl_IndexOutOfBoundsException, xh_in_IndexOutOfBoundsException, xh_at_IndexOutOfBoundsException, xh_ot_IndexOutOfBoundsException, List.mem_of_getElem? (i := 28) rfl⟩, fun _ h => absurd h List.not_mem_nil⟩
set_option maxRecDepth 20000 in
set_option maxHeartbeats 4000000 in
theorem cA_patience (l : Launch) (hl : l.stackTraces = false) : xm_Th l xy_A_patience (Cond.code xy_A_patience xb_A_patience 2 none :: xt_T) xr_p "AbsenceRows" xh_ss xk_cl xk_ns xk_tA pA_patience fA_patience ftA_patience := by
  refine xm_mk_th (rt := .int) (fl := xf_A) (ct := tA_patience) (cn := []) (cj := []) (tt := ttA_patience) hl (by decide) xs_A xd_A_patience rfl (Or.inl rfl) (lA_patience l) toA_patience ⟨Nat.le_of_ble_eq_true rfl, Nat.le_of_ble_eq_true rfl, rfl, rfl⟩ (fun _ _ _ _ _ _ _ _ => False) ?_ ?_ ?_ (fun _ _ _ _ _ _ _ _ _ h => h.elim) ?_
  · rintro as M ⟨u, rfl, hpre⟩; exact Nat.le_of_ble_eq_true rfl
  · rintro as M ⟨u, rfl, hpre⟩; simp [fA_patience]
  · rintro as M v ⟨u, rfl, hpre⟩ h; simp [fA_patience] at h
  · rintro as M ⟨u, rfl, hpre⟩
    refine ⟨600, (And.intro rfl (And.intro (Nat.le_of_ble_eq_true rfl) (And.intro (Nat.le_of_ble_eq_true rfl) (And.intro ?g1_c_4 (And.intro (by decide) (And.intro (fun h7 => (And.intro rfl ?g2_r_26)) (fun h7 => ?g3_t_10)))))))⟩
    case g1_c_4 =>
      exact ⟨_, _, _, rfl⟩
    case g2_r_26 =>
      refine ⟨?_, rfl, rfl⟩
      simp only [ftA_patience]
      try simp only [xi_0, xi_n0] at *
      grind [xo_t, xo_f, Int32.not_lt, Int32.not_le]
    case g3_t_10 =>
      refine ⟨rfl, _, rfl, ?_⟩
      simp only [ftA_patience]
      try simp only [xi_0, xi_n0] at *
      grind [xo_t, xo_f, Int32.not_lt, Int32.not_le]
def pA_call (as : List Value) (M : xm_M) : Prop := ∃ w d : Int32, as = [.ref 0, .int w, .int d] ∧ xv_I M
noncomputable def fA_call (as : List Value) (M : xm_M) : Option Value × xm_M := match as with
  | [_, .int w, .int d] => (some (.int (M 6 0 + 1 - 1)), xm_nx (fL_add [.ref 6, .int w, .int d] M).2 (M 6 0 + 1 - 1))
  | _ => (none, M)
noncomputable def ftA_call (as : List Value) (M : xm_M) : Option String := match as with
  | [_, .int w, .int d] => xo_ (¬ (0 ≤ w ∧ w ≤ M 3 0 - 1)) (some "java/lang/IllegalArgumentException") (xo_ (¬ ((0 ≤ d ∧ d ≤ 729) ∧ M 0 8 / 24 ≤ d)) (some "java/lang/IndexOutOfBoundsException") (xo_ (60 ≤ M 6 0) (some "java/lang/UnsupportedOperationException") (none)))
  | _ => none
noncomputable def tA_call : List (Nat × xm_C) := [(143, sW_has), (65, sA_isDay), (288, sL_add), (289, sA_askNext)]
theorem lA_call (l : Launch) : ∀ n C, (n, C) ∈ tA_call → xm_lkS l "AbsenceRows" xt_T xk_ns xr_p xk_cl xk_tA n C ∨ xm_lkV l "AbsenceRows" xt_T xk_ns xr_p xk_cl xk_tA n C := fun n C h => (show ∀ q ∈ tA_call, xm_lkS l "AbsenceRows" xt_T xk_ns xr_p xk_cl xk_tA q.1 q.2 ∨ xm_lkV l "AbsenceRows" xt_T xk_ns xr_p xk_cl xk_tA q.1 q.2 from List.forall_mem_cons.mpr ⟨Or.inr ⟨xy_W_has, xb_W_has, 2, (some .boolean), xr_ 1, 1, 3, 3, [none, some 15, some 16, some 17], xk_T3, 4, rfl, rfl, ⟨xe_W_has, xw_40, ⟨by decide, by decide, by decide +kernel⟩, ⟨Nat.le_of_ble_eq_true rfl, Nat.le_of_ble_eq_true rfl⟩, rfl, rfl⟩, xw_519, xw_520, xw_521, rfl, rfl, vW_has, Or.inl ⟨rfl, uW_has, cW_has l⟩⟩, List.forall_mem_cons.mpr ⟨Or.inl ⟨xy_A_isDay, xb_A_isDay, 1, (some .boolean), xr_ 1, rfl, ⟨xe_A_isDay, xw_37, ⟨by decide, by decide, by decide +kernel⟩, ⟨Nat.le_of_ble_eq_true rfl, Nat.le_of_ble_eq_true rfl⟩, rfl, rfl⟩, xw_272, Or.inl xw_271, Or.inl ⟨rfl, uA_isDay, cA_isDay l⟩⟩, List.forall_mem_cons.mpr ⟨Or.inr ⟨xy_L_add, xb_L_add, 3, (some .int), xr_ 0, 2, 6, 6, [none, some 28, some 29, some 30, some 31, some 32, some 33], xk_T6, 7, rfl, rfl, ⟨xe_L_add, xw_43, ⟨by decide, by decide, by decide +kernel⟩, ⟨Nat.le_of_ble_eq_true rfl, Nat.le_of_ble_eq_true rfl⟩, rfl, rfl⟩, xw_721, xw_722, xw_723, rfl, rfl, vL_add, Or.inr ⟨rfl, cL_add l⟩⟩, List.forall_mem_cons.mpr ⟨Or.inr ⟨xy_A_askNext, xb_A_askNext, 3, none, xr_ 4, 1, 0, 0, [some 1, some 2, some 3, some 4, some 5, some 6, none, none, none], xk_T0, 9, rfl, rfl, ⟨xe_A_askNext, xw_37, ⟨by decide, by decide, by decide +kernel⟩, ⟨Nat.le_of_ble_eq_true rfl, Nat.le_of_ble_eq_true rfl⟩, rfl, rfl⟩, xw_725, xw_727, xw_12, rfl, rfl, vA_askNext, Or.inr ⟨rfl, cA_askNext l⟩⟩, fun _ h => absurd h List.not_mem_nil⟩⟩⟩⟩) (n, C) h
def ttA_call : List (Nat × xm_Q) := [(11, (91, 256, 95, true, "java/lang/IllegalArgumentException", "no such crew")), (40, (69, 283, 73, true, "java/lang/IndexOutOfBoundsException", "no such day, or it is over")), (63, (79, 286, 83, true, "java/lang/UnsupportedOperationException", "no room for a call"))]
theorem toA_call : ∀ q ∈ ttA_call, xm_thr "AbsenceRows" xt_T xk_ns xh_ss xb_A_call q.1 q.2 := List.forall_mem_cons.mpr ⟨⟨⟨by decide +kernel, by decide +kernel, by decide +kernel, by decide +kernel, by decide +kernel⟩, by decide, xh_cl_IllegalArgumentException, xh_in_IllegalArgumentException, xh_at_IllegalArgumentException, xh_ot_IllegalArgumentException, List.mem_of_getElem? (i := 25) rfl⟩, List.forall_mem_cons.mpr ⟨⟨⟨by decide +kernel, by decide +kernel, by decide +kernel, by decide +kernel, by decide +kernel⟩, by decide, xh_cl_IndexOutOfBoundsException, xh_in_IndexOutOfBoundsException, xh_at_IndexOutOfBoundsException, xh_ot_IndexOutOfBoundsException, List.mem_of_getElem? (i := 29) rfl⟩, List.forall_mem_cons.mpr ⟨⟨⟨by decide +kernel, by decide +kernel, by decide +kernel, by decide +kernel, by decide +kernel⟩, by decide, xh_cl_UnsupportedOperationException, xh_in_UnsupportedOperationException, xh_at_UnsupportedOperationException, xh_ot_UnsupportedOperationException, List.mem_of_getElem? (i := 30) rfl⟩, fun _ h => absurd h List.not_mem_nil⟩⟩⟩
set_option maxRecDepth 20000 in
set_option maxHeartbeats 4000000 in
theorem cA_call (l : Launch) (hl : l.stackTraces = false) : xm_Th l xy_A_call (Cond.code xy_A_call xb_A_call 4 (some .int) :: xt_T) xr_p "AbsenceRows" xh_ss xk_cl xk_ns xk_tA pA_call fA_call ftA_call := by
  refine xm_mk_th (rt := .int) (fl := xf_A) (ct := tA_call) (cn := []) (cj := []) (tt := ttA_call) hl (by decide) xs_A xd_A_call rfl (Or.inr rfl) (lA_call l) toA_call ⟨Nat.le_of_ble_eq_true rfl, Nat.le_of_ble_eq_true rfl, rfl, rfl⟩ (fun _ _ _ _ _ _ _ _ => False) ?_ ?_ ?_ (fun _ _ _ _ _ _ _ _ _ h => h.elim) ?_
  · rintro as M ⟨w, d, rfl, hpre⟩; exact Nat.le_of_ble_eq_true rfl
  · rintro as M ⟨w, d, rfl, hpre⟩; simp [fA_call]
  · rintro as M v ⟨w, d, rfl, hpre⟩ h; simp [fA_call] at h
  · rintro as M ⟨w, d, rfl, hpre⟩
    refine ⟨600, (And.intro rfl (And.intro rfl (And.intro (Nat.le_of_ble_eq_true rfl) (And.intro (Nat.le_of_ble_eq_true rfl) (And.intro ?g1_c_5 (And.intro (by decide) (And.intro (fun h8 => (And.intro rfl (And.intro (Nat.le_of_ble_eq_true rfl) (And.intro (Nat.le_of_ble_eq_true rfl) (And.intro ?g2_c_23 (And.intro (by decide) (And.intro (fun h26 => ?g3_t_40) (fun h26 => (And.intro rfl (And.intro ?g4_n_36 (And.intro (by decide) (And.intro (fun h37 => (And.intro rfl (And.intro rfl (And.intro (by decide) (And.intro (fun h60 => (And.intro rfl (And.intro rfl (And.intro (Nat.le_of_ble_eq_true rfl) (And.intro (Nat.le_of_ble_eq_true rfl) (And.intro ?g5_c_80 (And.intro (Nat.le_of_ble_eq_true rfl) (And.intro rfl (And.intro (Nat.le_of_ble_eq_true rfl) (And.intro (Nat.le_of_ble_eq_true rfl) (And.intro ?g6_c_86 (And.intro ?g7_w_90 ?g8_r_90)))))))))))) (fun h60 => ?g9_t_63)))))) (fun h37 => ?g10_t_40))))))))))))) (fun h8 => ?g11_t_11))))))))⟩
    case g1_c_5 =>
      exact ⟨_, rfl⟩
    case g2_c_23 =>
      exact ⟨_, rfl⟩
    case g3_t_40 =>
      refine ⟨rfl, _, rfl, ?_⟩
      simp only [ftA_call]
      try simp only [xi_0, xi_n0] at *
      grind [xo_t, xo_f, Int32.not_lt, Int32.not_le]
    case g4_n_36 =>
      decide
    case g5_c_80 =>
      exact ⟨_, _, rfl, xl_room (by decide) rfl hpre.L (Int32.not_le.mpr h60)⟩
    case g6_c_86 =>
      exact ⟨_, rfl, xl_cadd (xl_has (by decide) hpre.W (xi_n0.mp h8)) hpre (xl_room (by decide) rfl hpre.L (Int32.not_le.mpr h60))⟩
    case g7_w_90 =>
      first | rfl | exact xi_nb
    case g8_r_90 =>
      refine ⟨?_, rfl, rfl⟩
      simp only [ftA_call]
      try simp only [xi_0, xi_n0] at *
      grind [xo_t, xo_f, Int32.not_lt, Int32.not_le]
    case g9_t_63 =>
      refine ⟨rfl, _, rfl, ?_⟩
      simp only [ftA_call]
      try simp only [xi_0, xi_n0] at *
      grind [xo_t, xo_f, Int32.not_lt, Int32.not_le]
    case g10_t_40 =>
      refine ⟨rfl, _, rfl, ?_⟩
      simp only [ftA_call]
      try simp only [xi_0, xi_n0] at *
      grind [xo_t, xo_f, Int32.not_lt, Int32.not_le]
    case g11_t_11 =>
      refine ⟨rfl, _, rfl, ?_⟩
      simp only [ftA_call]
      try simp only [xi_0, xi_n0] at *
      grind [xo_t, xo_f, Int32.not_lt, Int32.not_le]
def pA_answer (as : List Value) (M : xm_M) : Prop := ∃ k b : Int32, as = [.ref 0, .int k, .int b] ∧ xv_I M
noncomputable def fA_answer (as : List Value) (M : xm_M) : Option Value × xm_M := match as with
  | [_, .int k, .int b] => (some (.int ((@ite xm_M (b = 0) (Classical.propDecidable _) (xm_nx M k) ((fL_fill [.ref 6, .int k] M).2)) 30 k.toNatClampNeg)), @ite xm_M (b = 0) (Classical.propDecidable _) (xm_nx M k) ((fL_fill [.ref 6, .int k] M).2))
  | _ => (none, M)
noncomputable def ftA_answer (as : List Value) (M : xm_M) : Option String := match as with
  | [_, .int k, .int b] => xo_ (¬ (0 ≤ k ∧ k ≤ M 6 0 - 1)) (some "java/lang/IllegalArgumentException") (xo_ (¬ M 30 k.toNatClampNeg = 0) (some "java/lang/IllegalStateException") (none))
  | _ => none
noncomputable def tA_answer : List (Nat × xm_C) := [(293, sL_has), (299, sL_fill), (289, sA_askNext)]
theorem lA_answer (l : Launch) : ∀ n C, (n, C) ∈ tA_answer → xm_lkS l "AbsenceRows" xt_T xk_ns xr_p xk_cl xk_tA n C ∨ xm_lkV l "AbsenceRows" xt_T xk_ns xr_p xk_cl xk_tA n C := fun n C h => (show ∀ q ∈ tA_answer, xm_lkS l "AbsenceRows" xt_T xk_ns xr_p xk_cl xk_tA q.1 q.2 ∨ xm_lkV l "AbsenceRows" xt_T xk_ns xr_p xk_cl xk_tA q.1 q.2 from List.forall_mem_cons.mpr ⟨Or.inr ⟨xy_L_has, xb_L_has, 2, (some .boolean), xr_ 1, 1, 6, 6, [none, some 28, some 29, some 30, some 31, some 32, some 33], xk_T6, 7, rfl, rfl, ⟨xe_L_has, xw_43, ⟨by decide, by decide, by decide +kernel⟩, ⟨Nat.le_of_ble_eq_true rfl, Nat.le_of_ble_eq_true rfl⟩, rfl, rfl⟩, xw_760, xw_761, xw_762, rfl, rfl, vL_has, Or.inl ⟨rfl, uL_has, cL_has l⟩⟩, List.forall_mem_cons.mpr ⟨Or.inr ⟨xy_L_fill, xb_L_fill, 2, none, xr_ 0, 1, 6, 6, [none, some 28, some 29, some 30, some 31, some 32, some 33], xk_T6, 7, rfl, rfl, ⟨xe_L_fill, xw_43, ⟨by decide, by decide, by decide +kernel⟩, ⟨Nat.le_of_ble_eq_true rfl, Nat.le_of_ble_eq_true rfl⟩, rfl, rfl⟩, xw_767, xw_768, xw_769, rfl, rfl, vL_fill, Or.inr ⟨rfl, cL_fill l⟩⟩, List.forall_mem_cons.mpr ⟨Or.inr ⟨xy_A_askNext, xb_A_askNext, 3, none, xr_ 4, 1, 0, 0, [some 1, some 2, some 3, some 4, some 5, some 6, none, none, none], xk_T0, 9, rfl, rfl, ⟨xe_A_askNext, xw_37, ⟨by decide, by decide, by decide +kernel⟩, ⟨Nat.le_of_ble_eq_true rfl, Nat.le_of_ble_eq_true rfl⟩, rfl, rfl⟩, xw_725, xw_727, xw_12, rfl, rfl, vA_askNext, Or.inr ⟨rfl, cA_askNext l⟩⟩, fun _ h => absurd h List.not_mem_nil⟩⟩⟩) (n, C) h
def ttA_answer : List (Nat × xm_Q) := [(11, (91, 294, 95, true, "java/lang/IllegalArgumentException", "no such call")), (34, (102, 297, 106, true, "java/lang/IllegalStateException", "it does not wait"))]
theorem toA_answer : ∀ q ∈ ttA_answer, xm_thr "AbsenceRows" xt_T xk_ns xh_ss xb_A_answer q.1 q.2 := List.forall_mem_cons.mpr ⟨⟨⟨by decide +kernel, by decide +kernel, by decide +kernel, by decide +kernel, by decide +kernel⟩, by decide, xh_cl_IllegalArgumentException, xh_in_IllegalArgumentException, xh_at_IllegalArgumentException, xh_ot_IllegalArgumentException, List.mem_of_getElem? (i := 31) rfl⟩, List.forall_mem_cons.mpr ⟨⟨⟨by decide +kernel, by decide +kernel, by decide +kernel, by decide +kernel, by decide +kernel⟩, by decide, xh_cl_IllegalStateException, xh_in_IllegalStateException, xh_at_IllegalStateException, xh_ot_IllegalStateException, List.mem_of_getElem? (i := 32) rfl⟩, fun _ h => absurd h List.not_mem_nil⟩⟩
set_option maxRecDepth 20000 in
set_option maxHeartbeats 4000000 in
theorem cA_answer (l : Launch) (hl : l.stackTraces = false) : xm_Th l xy_A_answer (Cond.code xy_A_answer xb_A_answer 3 (some .int) :: xt_T) xr_p "AbsenceRows" xh_ss xk_cl xk_ns xk_tA pA_answer fA_answer ftA_answer := by
  refine xm_mk_th (rt := .int) (fl := xf_A) (ct := tA_answer) (cn := []) (cj := []) (tt := ttA_answer) hl (by decide) xs_A xd_A_answer rfl (Or.inr rfl) (lA_answer l) toA_answer ⟨Nat.le_of_ble_eq_true rfl, Nat.le_of_ble_eq_true rfl, rfl, rfl⟩ (fun _ _ _ _ _ _ _ _ => False) ?_ ?_ ?_ (fun _ _ _ _ _ _ _ _ _ h => h.elim) ?_
  · rintro as M ⟨k, b, rfl, hpre⟩; exact Nat.le_of_ble_eq_true rfl
  · rintro as M ⟨k, b, rfl, hpre⟩; simp [fA_answer]
  · rintro as M v ⟨k, b, rfl, hpre⟩ h; simp [fA_answer] at h
  · rintro as M ⟨k, b, rfl, hpre⟩
    refine ⟨600, (And.intro rfl (And.intro rfl (And.intro (Nat.le_of_ble_eq_true rfl) (And.intro (Nat.le_of_ble_eq_true rfl) (And.intro ?g1_c_5 (And.intro (by decide) (And.intro (fun h8 => (And.intro rfl (And.intro rfl (And.intro rfl (And.intro ?g2_i_30 (And.intro (by decide) (And.intro (fun h31 => (And.intro (by decide) (And.intro (fun h46 => (And.intro rfl (And.intro (Nat.le_of_ble_eq_true rfl) (And.intro (Nat.le_of_ble_eq_true rfl) (And.intro ?g3_c_62 (And.intro rfl (And.intro rfl (And.intro rfl (And.intro ?g4_i_73 (And.intro ?g5_w_74 ?g6_r_74)))))))))) (fun h46 => (And.intro rfl (And.intro rfl (And.intro (Nat.le_of_ble_eq_true rfl) (And.intro (Nat.le_of_ble_eq_true rfl) (And.intro ?g7_c_54 (And.intro (by decide) (And.intro rfl (And.intro rfl (And.intro rfl (And.intro ?g8_i_73 (And.intro ?g9_w_74 ?g10_r_74))))))))))))))) (fun h31 => ?g11_t_34)))))))) (fun h8 => ?g12_t_11))))))))⟩
    case g1_c_5 =>
      exact ⟨_, rfl⟩
    case g2_i_30 =>
      exact xl_has (by decide) hpre.L (xi_n0.mp h8)
    case g3_c_62 =>
      exact ⟨_, rfl, xl_has (by decide) hpre.L (xi_n0.mp h8), hpre.c (xi_n0.mp h8), hpre.1⟩
    case g4_i_73 =>
      exact xl_has (by decide) hpre.L (xi_n0.mp h8)
    case g5_w_74 =>
      first | rfl | exact xi_nb
    case g6_r_74 =>
      refine ⟨?_, ?_, ?_⟩
      · simp only [ftA_answer]
        rw [xo_f (fun z => z (xi_n0.mp h8)), xo_f (fun z => z h31)]
      · simp only [fA_answer]
        first | rw [if_pos h46] | rw [if_neg h46]
        all_goals rfl
      · simp only [fA_answer]
        first | rw [if_pos h46] | rw [if_neg h46]
        all_goals rfl
    case g7_c_54 =>
      exact ⟨_, rfl, xl_has (by decide) hpre.L (xi_n0.mp h8)⟩
    case g8_i_73 =>
      exact xl_has (by decide) hpre.L (xi_n0.mp h8)
    case g9_w_74 =>
      first | rfl | exact xi_nb
    case g10_r_74 =>
      refine ⟨?_, ?_, ?_⟩
      · simp only [ftA_answer]
        rw [xo_f (fun z => z (xi_n0.mp h8)), xo_f (fun z => z h31)]
      · simp only [fA_answer]
        first | rw [if_pos h46] | rw [if_neg h46]
        all_goals rfl
      · simp only [fA_answer]
        first | rw [if_pos h46] | rw [if_neg h46]
        all_goals rfl
    case g11_t_34 =>
      refine ⟨rfl, _, rfl, ?_⟩
      simp only [ftA_answer]
      try simp only [xi_0, xi_n0] at *
      grind [xo_t, xo_f, Int32.not_lt, Int32.not_le]
    case g12_t_11 =>
      refine ⟨rfl, _, rfl, ?_⟩
      simp only [ftA_answer]
      try simp only [xi_0, xi_n0] at *
      grind [xo_t, xo_f, Int32.not_lt, Int32.not_le]
def pA_callAt (as : List Value) (M : xm_M) : Prop := ∃ k x : Int32, as = [.ref 0, .int k, .int x] ∧ xv_I M
noncomputable def fA_callAt (as : List Value) (M : xm_M) : Option Value × xm_M := match as with
  | [_, .int k, .int x] => (some (.int (xi_x (x = 0) (M 30 k.toNatClampNeg) (xi_x (x = 1) (M 31 k.toNatClampNeg) (xi_x (x = 2) (xd_bc (M 32 k.toNatClampNeg)) (xi_x (x = 3) (M 33 k.toNatClampNeg) (0)))))), M)
  | _ => (none, M)
noncomputable def ftA_callAt (as : List Value) (M : xm_M) : Option String := match as with
  | [_, .int k, .int x] => xo_ (¬ (0 ≤ k ∧ k ≤ M 6 0 - 1)) (some "java/lang/IllegalArgumentException") (xo_ (¬ (x = 0 ∨ x = 1 ∨ x = 2 ∨ x = 3)) (some "java/lang/IllegalArgumentException") (none))
  | _ => none
noncomputable def tA_callAt : List (Nat × xm_C) := [(293, sL_has), (158, sI_bitCount)]
theorem lA_callAt (l : Launch) : ∀ n C, (n, C) ∈ tA_callAt → xm_lkS l "AbsenceRows" xt_T xk_ns xr_p xk_cl xk_tA n C ∨ xm_lkV l "AbsenceRows" xt_T xk_ns xr_p xk_cl xk_tA n C := fun n C h => (show ∀ q ∈ tA_callAt, xm_lkS l "AbsenceRows" xt_T xk_ns xr_p xk_cl xk_tA q.1 q.2 ∨ xm_lkV l "AbsenceRows" xt_T xk_ns xr_p xk_cl xk_tA q.1 q.2 from List.forall_mem_cons.mpr ⟨Or.inr ⟨xy_L_has, xb_L_has, 2, (some .boolean), xr_ 1, 1, 6, 6, [none, some 28, some 29, some 30, some 31, some 32, some 33], xk_T6, 7, rfl, rfl, ⟨xe_L_has, xw_43, ⟨by decide, by decide, by decide +kernel⟩, ⟨Nat.le_of_ble_eq_true rfl, Nat.le_of_ble_eq_true rfl⟩, rfl, rfl⟩, xw_760, xw_761, xw_762, rfl, rfl, vL_has, Or.inl ⟨rfl, uL_has, cL_has l⟩⟩, List.forall_mem_cons.mpr ⟨Or.inl ⟨xy_I_bitCount, xb_I_bitCount, 1, (some .int), xr_ 0, rfl, ⟨xe_I_bitCount, xw_53, ⟨by decide, by decide, by decide +kernel⟩, ⟨Nat.le_of_ble_eq_true rfl, Nat.le_of_ble_eq_true rfl⟩, rfl, rfl⟩, xw_533, Or.inl xw_532, Or.inl ⟨rfl, uI_bitCount, cI_bitCount l⟩⟩, fun _ h => absurd h List.not_mem_nil⟩⟩) (n, C) h
def ttA_callAt : List (Nat × xm_Q) := [(11, (91, 294, 95, true, "java/lang/IllegalArgumentException", "no such call")), (95, (91, 240, 95, false, "java/lang/IllegalArgumentException", "no such what"))]
theorem toA_callAt : ∀ q ∈ ttA_callAt, xm_thr "AbsenceRows" xt_T xk_ns xh_ss xb_A_callAt q.1 q.2 := List.forall_mem_cons.mpr ⟨⟨⟨by decide +kernel, by decide +kernel, by decide +kernel, by decide +kernel, by decide +kernel⟩, by decide, xh_cl_IllegalArgumentException, xh_in_IllegalArgumentException, xh_at_IllegalArgumentException, xh_ot_IllegalArgumentException, List.mem_of_getElem? (i := 31) rfl⟩, List.forall_mem_cons.mpr ⟨⟨⟨by decide +kernel, by decide +kernel, by decide +kernel, by decide +kernel, by decide +kernel⟩, by decide, xh_cl_IllegalArgumentException, xh_in_IllegalArgumentException, xh_at_IllegalArgumentException, xh_ot_IllegalArgumentException, List.mem_of_getElem? (i := 23) rfl⟩, fun _ h => absurd h List.not_mem_nil⟩⟩
set_option maxRecDepth 20000 in
set_option maxHeartbeats 4000000 in
theorem cA_callAt (l : Launch) (hl : l.stackTraces = false) : xm_Th l xy_A_callAt (Cond.code xy_A_callAt xb_A_callAt 3 (some .int) :: xt_T) xr_p "AbsenceRows" xh_ss xk_cl xk_ns xk_tA pA_callAt fA_callAt ftA_callAt := by
  refine xm_mk_th (rt := .int) (fl := xf_A) (ct := tA_callAt) (cn := []) (cj := []) (tt := ttA_callAt) hl (by decide) xs_A xd_A_callAt rfl (Or.inr rfl) (lA_callAt l) toA_callAt ⟨Nat.le_of_ble_eq_true rfl, Nat.le_of_ble_eq_true rfl, rfl, rfl⟩ (fun _ _ _ _ _ _ _ _ => False) ?_ ?_ ?_ (fun _ _ _ _ _ _ _ _ _ h => h.elim) ?_
  · rintro as M ⟨k, x, rfl, hpre⟩; exact Nat.le_of_ble_eq_true rfl
  · rintro as M ⟨k, x, rfl, hpre⟩; simp [fA_callAt]
  · rintro as M v ⟨k, x, rfl, hpre⟩ h; simp [fA_callAt] at h
  · rintro as M ⟨k, x, rfl, hpre⟩
    refine ⟨600, (And.intro rfl (And.intro rfl (And.intro (Nat.le_of_ble_eq_true rfl) (And.intro (Nat.le_of_ble_eq_true rfl) (And.intro ?g1_c_5 (And.intro (by decide) (And.intro (fun h8 => (And.intro (fun h23 => (And.intro (by decide) ?g2_t_95)) (And.intro (by decide) (And.intro (fun h23 => (And.intro (by decide) (And.intro rfl (And.intro rfl (And.intro rfl (And.intro ?g13_i_60 (And.intro ?g14_w_61 ?g15_r_61))))))) (And.intro (fun h23 => (And.intro (by decide) (And.intro rfl (And.intro rfl (And.intro rfl (And.intro ?g10_i_70 (And.intro ?g11_w_71 ?g12_r_71))))))) (And.intro (fun h23 => (And.intro (by decide) (And.intro rfl (And.intro rfl (And.intro rfl (And.intro ?g6_i_80 (And.intro rfl (And.intro (Nat.le_of_ble_eq_true rfl) (And.intro (Nat.le_of_ble_eq_true rfl) (And.intro ?g7_c_81 (And.intro ?g8_w_84 ?g9_r_84))))))))))) (And.intro (fun h23 => (And.intro (by decide) (And.intro rfl (And.intro rfl (And.intro rfl (And.intro ?g3_i_93 (And.intro ?g4_w_94 ?g5_r_94))))))) True.intro))))))) (fun h8 => ?g16_t_11))))))))⟩
    case g1_c_5 =>
      exact ⟨_, rfl⟩
    case g2_t_95 =>
      refine ⟨rfl, _, rfl, ?_⟩
      simp only [ftA_callAt]
      rw [xo_f (fun z => z (xi_n0.mp h8)), xo_t (fun z => ?_)]
      have hz : ¬ x = 0 ∧ ¬ x = 1 ∧ ¬ x = 2 ∧ ¬ x = 3 := ⟨xl_td h23 _, xl_td h23 _, xl_td h23 _, xl_td h23 _⟩
      grind
    case g3_i_93 =>
      exact xl_has (by decide) hpre.L (xi_n0.mp h8)
    case g4_w_94 =>
      first | rfl | exact xi_nb
    case g5_r_94 =>
      have hz := xl_tb h23
      refine ⟨?_, xl_some ?_, rfl⟩
      · simp only [ftA_callAt]
        rw [xo_f (fun z => z (xi_n0.mp h8)), xo_f (fun z => z (by rw [hz]; decide))]
      · subst hz
        simp [xi_x]
        try rfl
    case g6_i_80 =>
      exact xl_has (by decide) hpre.L (xi_n0.mp h8)
    case g7_c_81 =>
      exact ⟨_, rfl⟩
    case g8_w_84 =>
      first | rfl | exact xi_nb
    case g9_r_84 =>
      have hz := xl_tb h23
      refine ⟨?_, xl_some ?_, rfl⟩
      · simp only [ftA_callAt]
        rw [xo_f (fun z => z (xi_n0.mp h8)), xo_f (fun z => z (by rw [hz]; decide))]
      · subst hz
        simp [xi_x]
        try rfl
    case g10_i_70 =>
      exact xl_has (by decide) hpre.L (xi_n0.mp h8)
    case g11_w_71 =>
      first | rfl | exact xi_nb
    case g12_r_71 =>
      have hz := xl_tb h23
      refine ⟨?_, xl_some ?_, rfl⟩
      · simp only [ftA_callAt]
        rw [xo_f (fun z => z (xi_n0.mp h8)), xo_f (fun z => z (by rw [hz]; decide))]
      · subst hz
        simp [xi_x]
        try rfl
    case g13_i_60 =>
      exact xl_has (by decide) hpre.L (xi_n0.mp h8)
    case g14_w_61 =>
      first | rfl | exact xi_nb
    case g15_r_61 =>
      have hz := xl_tb h23
      refine ⟨?_, xl_some ?_, rfl⟩
      · simp only [ftA_callAt]
        rw [xo_f (fun z => z (xi_n0.mp h8)), xo_f (fun z => z (by rw [hz]; decide))]
      · subst hz
        simp [xi_x]
        try rfl
    case g16_t_11 =>
      refine ⟨rfl, _, rfl, ?_⟩
      simp only [ftA_callAt]
      try simp only [xi_0, xi_n0] at *
      grind [xo_t, xo_f, Int32.not_lt, Int32.not_le]
def pA_asked (as : List Value) (M : xm_M) : Prop := ∃ p : Int32, as = [.ref 0, .int p] ∧ xv_I M
noncomputable def fA_asked (as : List Value) (M : xm_M) : Option Value × xm_M := match as with
  | [_, .int p] => (some (.int (M 13 p.toNatClampNeg)), M)
  | _ => (none, M)
noncomputable def ftA_asked (as : List Value) (M : xm_M) : Option String := match as with
  | [_, .int p] => xo_ (¬ (0 ≤ p ∧ p ≤ M 2 0 - 1)) (some "java/lang/IllegalArgumentException") (none)
  | _ => none
noncomputable def tA_asked : List (Nat × xm_C) := [(88, sP_has)]
theorem lA_asked (l : Launch) : ∀ n C, (n, C) ∈ tA_asked → xm_lkS l "AbsenceRows" xt_T xk_ns xr_p xk_cl xk_tA n C ∨ xm_lkV l "AbsenceRows" xt_T xk_ns xr_p xk_cl xk_tA n C := fun n C h => (show ∀ q ∈ tA_asked, xm_lkS l "AbsenceRows" xt_T xk_ns xr_p xk_cl xk_tA q.1 q.2 ∨ xm_lkV l "AbsenceRows" xt_T xk_ns xr_p xk_cl xk_tA q.1 q.2 from List.forall_mem_cons.mpr ⟨Or.inr ⟨xy_P_has, xb_P_has, 2, (some .boolean), xr_ 1, 1, 2, 2, [none, some 8, some 9, some 10, some 11, some 12, some 13, some 14], xk_T2, 8, rfl, rfl, ⟨xe_P_has, xw_39, ⟨by decide, by decide, by decide +kernel⟩, ⟨Nat.le_of_ble_eq_true rfl, Nat.le_of_ble_eq_true rfl⟩, rfl, rfl⟩, xw_372, xw_373, xw_374, rfl, rfl, vP_has, Or.inl ⟨rfl, uP_has, cP_has l⟩⟩, fun _ h => absurd h List.not_mem_nil⟩) (n, C) h
def ttA_asked : List (Nat × xm_Q) := [(11, (91, 93, 95, false, "java/lang/IllegalArgumentException", "no such person"))]
theorem toA_asked : ∀ q ∈ ttA_asked, xm_thr "AbsenceRows" xt_T xk_ns xh_ss xb_A_asked q.1 q.2 := List.forall_mem_cons.mpr ⟨⟨⟨by decide +kernel, by decide +kernel, by decide +kernel, by decide +kernel, by decide +kernel⟩, by decide, xh_cl_IllegalArgumentException, xh_in_IllegalArgumentException, xh_at_IllegalArgumentException, xh_ot_IllegalArgumentException, List.mem_of_getElem? (i := 2) rfl⟩, fun _ h => absurd h List.not_mem_nil⟩
set_option maxRecDepth 20000 in
set_option maxHeartbeats 4000000 in
theorem cA_asked (l : Launch) (hl : l.stackTraces = false) : xm_Th l xy_A_asked (Cond.code xy_A_asked xb_A_asked 2 (some .int) :: xt_T) xr_p "AbsenceRows" xh_ss xk_cl xk_ns xk_tA pA_asked fA_asked ftA_asked := by
  refine xm_mk_th (rt := .int) (fl := xf_A) (ct := tA_asked) (cn := []) (cj := []) (tt := ttA_asked) hl (by decide) xs_A xd_A_asked rfl (Or.inr rfl) (lA_asked l) toA_asked ⟨Nat.le_of_ble_eq_true rfl, Nat.le_of_ble_eq_true rfl, rfl, rfl⟩ (fun _ _ _ _ _ _ _ _ => False) ?_ ?_ ?_ (fun _ _ _ _ _ _ _ _ _ h => h.elim) ?_
  · rintro as M ⟨p, rfl, hpre⟩; exact Nat.le_of_ble_eq_true rfl
  · rintro as M ⟨p, rfl, hpre⟩; simp [fA_asked]
  · rintro as M v ⟨p, rfl, hpre⟩ h; simp [fA_asked] at h
  · rintro as M ⟨p, rfl, hpre⟩
    refine ⟨600, (And.intro rfl (And.intro rfl (And.intro (Nat.le_of_ble_eq_true rfl) (And.intro (Nat.le_of_ble_eq_true rfl) (And.intro ?g1_c_5 (And.intro (by decide) (And.intro (fun h8 => (And.intro rfl (And.intro rfl (And.intro rfl (And.intro ?g2_i_29 (And.intro ?g3_w_30 ?g4_r_30)))))) (fun h8 => ?g5_t_11))))))))⟩
    case g1_c_5 =>
      exact ⟨_, rfl⟩
    case g2_i_29 =>
      exact xl_has (by decide) hpre.P (xi_n0.mp h8)
    case g3_w_30 =>
      first | rfl | exact xi_nb
    case g4_r_30 =>
      refine ⟨?_, rfl, rfl⟩
      simp only [ftA_asked]
      try simp only [xi_0, xi_n0] at *
      grind [xo_t, xo_f, Int32.not_lt, Int32.not_le]
    case g5_t_11 =>
      refine ⟨rfl, _, rfl, ?_⟩
      simp only [ftA_asked]
      try simp only [xi_0, xi_n0] at *
      grind [xo_t, xo_f, Int32.not_lt, Int32.not_le]
def pA_goOnWithoutAnswer (as : List Value) (M : xm_M) : Prop := as = [.ref 0] ∧ xv_I M
noncomputable def fA_goOnWithoutAnswer (as : List Value) (M : xm_M) : Option Value × xm_M := match as with
  | [_] => (some (.int ((xq_go M (M 6 0).toNatClampNeg).1)), (xq_go M (M 6 0).toNatClampNeg).2)
  | _ => (none, M)
noncomputable abbrev sA_goOnWithoutAnswer : xm_C := (0, 1, 1, pA_goOnWithoutAnswer, fA_goOnWithoutAnswer)
theorem vA_goOnWithoutAnswer : ∀ as M, pA_goOnWithoutAnswer as M → ∃ as1, as = .ref 0 :: as1 := by
  rintro as M ⟨rfl, hpre⟩
  exact ⟨_, rfl⟩
noncomputable def tA_goOnWithoutAnswer : List (Nat × xm_C) := [(289, sA_askNext)]
theorem lA_goOnWithoutAnswer (l : Launch) : ∀ n C, (n, C) ∈ tA_goOnWithoutAnswer → xm_lkS l "AbsenceRows" xt_T xk_ns (xr_ 5) xk_cl xk_tA n C ∨ xm_lkV l "AbsenceRows" xt_T xk_ns (xr_ 5) xk_cl xk_tA n C := fun n C h => (show ∀ q ∈ tA_goOnWithoutAnswer, xm_lkS l "AbsenceRows" xt_T xk_ns (xr_ 5) xk_cl xk_tA q.1 q.2 ∨ xm_lkV l "AbsenceRows" xt_T xk_ns (xr_ 5) xk_cl xk_tA q.1 q.2 from List.forall_mem_cons.mpr ⟨Or.inr ⟨xy_A_askNext, xb_A_askNext, 3, none, xr_ 4, 1, 0, 0, [some 1, some 2, some 3, some 4, some 5, some 6, none, none, none], xk_T0, 9, rfl, rfl, ⟨xe_A_askNext, xw_37, ⟨by decide, by decide, by decide +kernel⟩, ⟨Nat.le_of_ble_eq_true rfl, Nat.le_of_ble_eq_true rfl⟩, rfl, rfl⟩, xw_725, xw_727, xw_12, rfl, rfl, vA_askNext, Or.inr ⟨rfl, cA_askNext l⟩⟩, fun _ h => absurd h List.not_mem_nil⟩) (n, C) h
set_option maxRecDepth 20000 in
set_option maxHeartbeats 2000000 in
theorem cA_goOnWithoutAnswer (l : Launch) : xm_Wr l xy_A_goOnWithoutAnswer (Cond.code xy_A_goOnWithoutAnswer xb_A_goOnWithoutAnswer 3 (some .int) :: xt_T) (xr_ 5) xk_cl xk_ns xk_tA pA_goOnWithoutAnswer fA_goOnWithoutAnswer := by
  refine xm_mk_wr (rt := .int) (fl := xf_A) (ct := tA_goOnWithoutAnswer) (cn := []) (cj := []) (plainFor_of_name (by decide)) xs_A xd_A_goOnWithoutAnswer rfl (Or.inr rfl) (lA_goOnWithoutAnswer l) (fun as M j pc ls st M2 cl => match as with | [_] => (∃ i c : Nat, M 6 0 = nI c ∧ c ≤ 60 ∧ i ≤ c ∧ j = c - i ∧ xv_s M (xq_go M i).2 ∧ pc = 4 ∧ ls = [(0, .ref 0), (1, .int (xq_go M i).1), (2, .int (nI i))] ∧ st = [] ∧ M2 = (xq_go M i).2) | _ => False) ?_ ?_ ?_ ?_ ?_
  · rintro as M ⟨rfl, hpre⟩; exact Nat.le_of_ble_eq_true rfl
  · rintro as M ⟨rfl, hpre⟩; simp [fA_goOnWithoutAnswer]
  · rintro as M v ⟨rfl, hpre⟩ h; first | rfl | (simp [fA_goOnWithoutAnswer] at h)
  · rintro as M ⟨rfl, hpre⟩ j pc ls st M2 cl ⟨i, c, hc, hc20, hic, hj, hs, rfl, rfl, rfl, rfl⟩
    have e6 : (xq_go M i).2 6 = M 6 := hs 6 (by decide) (by decide) (by decide) (by decide) (by decide)
    have e0 : (xq_go M i).2 0 = M 0 := hs 0 (by decide) (by decide) (by decide) (by decide) (by decide)
    have hI2 := hs.I hpre
    refine ⟨400, (And.intro rfl (And.intro rfl (And.intro (by decide) (And.intro (fun h12 => (And.intro ?g1001_w_58 ?g1002_r_58)) (fun h12 => (And.intro rfl (And.intro rfl (And.intro rfl (And.intro ?g1003_i_23 (And.intro (by decide) (And.intro (fun h24 => (And.intro (Nat.le_of_ble_eq_true rfl) (And.intro (by decide) ?g1004_k_4))) (fun h24 => (And.intro rfl (And.intro rfl (And.intro rfl (And.intro ?g1005_i_35 (And.intro rfl (And.intro (by decide) (And.intro (fun h40 => (And.intro (Nat.le_of_ble_eq_true rfl) (And.intro (by decide) ?g1006_k_4))) (fun h40 => (And.intro rfl (And.intro (Nat.le_of_ble_eq_true rfl) (And.intro (Nat.le_of_ble_eq_true rfl) (And.intro ?g1007_c_45 (And.intro (Nat.le_of_ble_eq_true rfl) (And.intro (Nat.le_of_ble_eq_true rfl) (And.intro (by decide) ?g1008_k_4)))))))))))))))))))))))))))⟩
    case g1001_w_58 =>
      first | rfl | exact xi_nb
    case g1002_r_58 =>
      rw [e6] at h12
      obtain rfl := xl_end hc (by omega) hic (by assumption)
      refine ⟨xl_some ?_, ?_⟩
      · rw [hc, nI_clamp (by omega)]
      · simp only [fA_goOnWithoutAnswer]
        rw [hc, nI_clamp (by omega)]
    case g1003_i_23 =>
      rw [e6] at h12
      exact vp_in_nI (Nat.lt_of_lt_of_le (xl_lt hc hic h12) hc20) (by decide)
    case g1004_k_4 =>
      rw [e6] at h12
      have hlt := xl_lt hc hic h12
      have e1 : (nI i).toNatClampNeg = i := nI_clamp (by omega)
      simp only [e1, e0] at *
      by_cases hz : (xq_go M i).2 30 i = 0 ∧ (xq_go M i).2 33 i ≤ M 0 8
      · have e5 := xq_go1t hz
        refine ⟨c - (i + 1), by omega, i + 1, c, hc, hc20, by omega, rfl, xq_go_s M (i + 1), rfl, ?_, rfl, ?_⟩
        · rw [nI_succ, e5]; all_goals first | rfl | grind [Int32.not_lt, Int32.not_le]
        · rw [e5]; all_goals first | rfl | grind [Int32.not_lt, Int32.not_le]
      · have e5 := xq_go1f hz
        refine ⟨c - (i + 1), by omega, i + 1, c, hc, hc20, by omega, rfl, xq_go_s M (i + 1), rfl, ?_, rfl, ?_⟩
        · rw [nI_succ, e5]; all_goals first | rfl | grind [Int32.not_lt, Int32.not_le]
        · rw [e5]; all_goals first | rfl | grind [Int32.not_lt, Int32.not_le]
    case g1005_i_35 =>
      rw [e6] at h12
      exact vp_in_nI (Nat.lt_of_lt_of_le (xl_lt hc hic h12) hc20) (by decide)
    case g1006_k_4 =>
      rw [e6] at h12
      have hlt := xl_lt hc hic h12
      have e1 : (nI i).toNatClampNeg = i := nI_clamp (by omega)
      simp only [e1, e0] at *
      by_cases hz : (xq_go M i).2 30 i = 0 ∧ (xq_go M i).2 33 i ≤ M 0 8
      · have e5 := xq_go1t hz
        refine ⟨c - (i + 1), by omega, i + 1, c, hc, hc20, by omega, rfl, xq_go_s M (i + 1), rfl, ?_, rfl, ?_⟩
        · rw [nI_succ, e5]; all_goals first | rfl | grind [Int32.not_lt, Int32.not_le]
        · rw [e5]; all_goals first | rfl | grind [Int32.not_lt, Int32.not_le]
      · have e5 := xq_go1f hz
        refine ⟨c - (i + 1), by omega, i + 1, c, hc, hc20, by omega, rfl, xq_go_s M (i + 1), rfl, ?_, rfl, ?_⟩
        · rw [nI_succ, e5]; all_goals first | rfl | grind [Int32.not_lt, Int32.not_le]
        · rw [e5]; all_goals first | rfl | grind [Int32.not_lt, Int32.not_le]
    case g1007_c_45 =>
      rw [e6] at h12
      have hlt := xl_lt hc hic h12
      refine ⟨_, rfl, vp_in_nI (Nat.lt_of_lt_of_le hlt hc20) (by decide), hI2.2.2.2 _ ?_, hI2.1⟩
      rw [e6, hc, nI_clamp (by omega), nI_clamp (by omega)]; exact hlt
    case g1008_k_4 =>
      rw [e6] at h12
      have hlt := xl_lt hc hic h12
      have e1 : (nI i).toNatClampNeg = i := nI_clamp (by omega)
      simp only [e1, e0] at *
      by_cases hz : (xq_go M i).2 30 i = 0 ∧ (xq_go M i).2 33 i ≤ M 0 8
      · have e5 := xq_go1t hz
        refine ⟨c - (i + 1), by omega, i + 1, c, hc, hc20, by omega, rfl, xq_go_s M (i + 1), rfl, ?_, rfl, ?_⟩
        · rw [nI_succ, e5]; all_goals first | rfl | grind [Int32.not_lt, Int32.not_le]
        · rw [e5]; all_goals first | rfl | grind [Int32.not_lt, Int32.not_le]
      · have e5 := xq_go1f hz
        refine ⟨c - (i + 1), by omega, i + 1, c, hc, hc20, by omega, rfl, xq_go_s M (i + 1), rfl, ?_, rfl, ?_⟩
        · rw [nI_succ, e5]; all_goals first | rfl | grind [Int32.not_lt, Int32.not_le]
        · rw [e5]; all_goals first | rfl | grind [Int32.not_lt, Int32.not_le]
  · rintro as M ⟨rfl, hpre⟩
    refine ⟨400, (And.intro (Nat.le_of_ble_eq_true rfl) (And.intro (Nat.le_of_ble_eq_true rfl) ?g1_k_4))⟩
    case g1_k_4 =>
      obtain ⟨c0, h1, h2⟩ := hpre.L
      exact ⟨c0 - 0, 0, c0, h2, h1, Nat.zero_le _, rfl, xv_s.rf M, rfl, rfl, rfl, rfl⟩
def pA_tick (as : List Value) (M : xm_M) : Prop := ∃ u : Int32, as = [.ref 0, .int u] ∧ xv_I M
noncomputable def fA_tick (as : List Value) (M : xm_M) : Option Value × xm_M := match as with
  | [_, .int u] => (some (.int (xq_tk (M 0 8 + u) u.toNatClampNeg (0, M)).1), xm_up (xq_tk (M 0 8 + u) u.toNatClampNeg (0, M)).2 0 8 (M 0 8 + u))
  | _ => (none, M)
noncomputable def ftA_tick (as : List Value) (M : xm_M) : Option String := match as with
  | [_, .int u] => xo_ (¬ ((1 ≤ u ∧ u ≤ 2000) ∧ u ≤ 17519 - M 0 8)) (some "java/lang/IndexOutOfBoundsException") (none)
  | _ => none
noncomputable def tA_tick : List (Nat × xm_C) := [(61, sA_isWithin), (312, sL_earliestNextAt), (316, sA_goOnWithoutAnswer)]
theorem lA_tick (l : Launch) : ∀ n C, (n, C) ∈ tA_tick → xm_lkS l "AbsenceRows" xt_T xk_ns xr_p xk_cl xk_tA n C ∨ xm_lkV l "AbsenceRows" xt_T xk_ns xr_p xk_cl xk_tA n C := fun n C h => (show ∀ q ∈ tA_tick, xm_lkS l "AbsenceRows" xt_T xk_ns xr_p xk_cl xk_tA q.1 q.2 ∨ xm_lkV l "AbsenceRows" xt_T xk_ns xr_p xk_cl xk_tA q.1 q.2 from List.forall_mem_cons.mpr ⟨Or.inl ⟨xy_A_isWithin, xb_A_isWithin, 3, (some .boolean), xr_ 0, rfl, ⟨xe_A_isWithin, xw_37, ⟨by decide, by decide, by decide +kernel⟩, ⟨Nat.le_of_ble_eq_true rfl, Nat.le_of_ble_eq_true rfl⟩, rfl, rfl⟩, xw_269, Or.inl xw_268, Or.inl ⟨rfl, uA_isWithin, cA_isWithin l⟩⟩, List.forall_mem_cons.mpr ⟨Or.inr ⟨xy_L_earliestNextAt, xb_L_earliestNextAt, 3, (some .int), xr_ 0, 0, 6, 6, [none, some 28, some 29, some 30, some 31, some 32, some 33], xk_T6, 7, rfl, rfl, ⟨xe_L_earliestNextAt, xw_43, ⟨by decide, by decide, by decide +kernel⟩, ⟨Nat.le_of_ble_eq_true rfl, Nat.le_of_ble_eq_true rfl⟩, rfl, rfl⟩, xw_792, xw_793, xw_794, rfl, rfl, vL_earliestNextAt, Or.inl ⟨rfl, uL_earliestNextAt, cL_earliestNextAt l⟩⟩, List.forall_mem_cons.mpr ⟨Or.inr ⟨xy_A_goOnWithoutAnswer, xb_A_goOnWithoutAnswer, 3, (some .int), xr_ 5, 0, 0, 0, [some 1, some 2, some 3, some 4, some 5, some 6, none, none, none], xk_T0, 9, rfl, rfl, ⟨xe_A_goOnWithoutAnswer, xw_37, ⟨by decide, by decide, by decide +kernel⟩, ⟨Nat.le_of_ble_eq_true rfl, Nat.le_of_ble_eq_true rfl⟩, rfl, rfl⟩, xw_796, xw_798, xw_14, rfl, rfl, vA_goOnWithoutAnswer, Or.inr ⟨rfl, cA_goOnWithoutAnswer l⟩⟩, fun _ h => absurd h List.not_mem_nil⟩⟩⟩) (n, C) h
def ttA_tick : List (Nat × xm_Q) := [(23, (69, 281, 73, true, "java/lang/IndexOutOfBoundsException", "hours"))]
theorem toA_tick : ∀ q ∈ ttA_tick, xm_thr "AbsenceRows" xt_T xk_ns xh_ss xb_A_tick q.1 q.2 := List.forall_mem_cons.mpr ⟨⟨⟨by decide +kernel, by decide +kernel, by decide +kernel, by decide +kernel, by decide +kernel⟩, by decide, xh_cl_IndexOutOfBoundsException, xh_in_IndexOutOfBoundsException, xh_at_IndexOutOfBoundsException, xh_ot_IndexOutOfBoundsException, List.mem_of_getElem? (i := 28) rfl⟩, fun _ h => absurd h List.not_mem_nil⟩
set_option maxRecDepth 20000 in
set_option maxHeartbeats 4000000 in
theorem cA_tick (l : Launch) (hl : l.stackTraces = false) : xm_Th l xy_A_tick (Cond.code xy_A_tick xb_A_tick 6 (some .int) :: xt_T) xr_p "AbsenceRows" xh_ss xk_cl xk_ns xk_tA pA_tick fA_tick ftA_tick := by
  refine xm_mk_th (rt := .int) (fl := xf_A) (ct := tA_tick) (cn := []) (cj := []) (tt := ttA_tick) hl (by decide) xs_A xd_A_tick rfl (Or.inr rfl) (lA_tick l) toA_tick ⟨Nat.le_of_ble_eq_true rfl, Nat.le_of_ble_eq_true rfl, rfl, rfl⟩ (fun as M j pc ls st M2 cl => match as with | [_, .int u] => (∃ (i n : Nat) (s : Int32 × xm_M), u = nI n ∧ n ≤ 2000 ∧ i ≤ n ∧ j = n - i ∧ xq_tk (M 0 8 + u) (n - i) s = xq_tk (M 0 8 + u) n (0, M) ∧ xv_I s.2 ∧ ftA_tick [.ref 0, .int u] M = none ∧ pc = 46 ∧ ls = [(0, .ref 0), (1, .int u), (2, .int (M 0 8 + u)), (3, .int s.1), (4, .int (nI i))] ∧ st = [] ∧ M2 = s.2) | _ => False) ?_ ?_ ?_ ?_ ?_
  · rintro as M ⟨u, rfl, hpre⟩; exact Nat.le_of_ble_eq_true rfl
  · rintro as M ⟨u, rfl, hpre⟩; simp [fA_tick]
  · rintro as M v ⟨u, rfl, hpre⟩ h; simp [fA_tick] at h
  · rintro as M ⟨u, rfl, hpre⟩ j pc ls st M2 cl ⟨i, n, s, hu, hn, hi, hj, hq, hI, hft, rfl, rfl, rfl, rfl⟩
    refine ⟨600, (And.intro (by decide) (And.intro (fun h49 => (And.intro rfl (And.intro ?g1001_w_101 ?g1002_r_101))) (fun h49 => (And.intro rfl (And.intro rfl (And.intro (Nat.le_of_ble_eq_true rfl) (And.intro (Nat.le_of_ble_eq_true rfl) (And.intro ?g1003_c_56 (And.intro (Nat.le_of_ble_eq_true rfl) (And.intro (by decide) (And.intro (fun h64 => (And.intro rfl (And.intro ?g1004_w_101 ?g1005_r_101))) (fun h64 => (And.intro (by decide) (And.intro (fun h70 => (And.intro rfl (And.intro rfl (And.intro (Nat.le_of_ble_eq_true rfl) (And.intro (Nat.le_of_ble_eq_true rfl) (And.intro ?g1006_c_84 (And.intro (Nat.le_of_ble_eq_true rfl) (And.intro (Nat.le_of_ble_eq_true rfl) (And.intro (by decide) ?g1007_k_46))))))))) (fun h70 => (And.intro (by decide) (And.intro rfl (And.intro ?g1008_w_101 ?g1009_r_101))))))))))))))))))⟩
    case g1001_w_101 =>
      first | rfl | exact xi_nb
    case g1002_r_101 =>
      refine ⟨hft, ?_, ?_⟩
      all_goals
        simp only [fA_tick]
        rw [hu, nI_clamp (by omega), ← hu, ← hq]
        first
        | (rw [xq_tk1t (s := s) (e := M 0 8 + u) (Or.inl h64)]; done)
        | (rw [xq_tk1t (s := s) (e := M 0 8 + u) (Or.inr (Int32.not_le.mp h70))]; done)
        | (rw [xq_tk1t (s := s) (e := M 0 8 + u) (Or.inl h64)]; rfl)
        | (rw [xq_tk1t (s := s) (e := M 0 8 + u) (Or.inr (Int32.not_le.mp h70))]; rfl)
        | (rw [xl_end hu (by omega) hi h49, Nat.sub_self]; rfl)
    case g1003_c_56 =>
      exact ⟨rfl, hI.L⟩
    case g1004_w_101 =>
      first | rfl | exact xi_nb
    case g1005_r_101 =>
      refine ⟨hft, ?_, ?_⟩
      all_goals
        simp only [fA_tick]
        rw [hu, nI_clamp (by omega), ← hu, ← hq]
        first
        | (rw [xq_tk1t (s := s) (e := M 0 8 + u) (Or.inl h64)]; done)
        | (rw [xq_tk1t (s := s) (e := M 0 8 + u) (Or.inr (Int32.not_le.mp h70))]; done)
        | (rw [xq_tk1t (s := s) (e := M 0 8 + u) (Or.inl h64)]; rfl)
        | (rw [xq_tk1t (s := s) (e := M 0 8 + u) (Or.inr (Int32.not_le.mp h70))]; rfl)
        | (rw [xl_end hu (by omega) hi h49, Nat.sub_self]; rfl)
    case g1006_c_84 =>
      exact ⟨rfl, hI.hr _⟩
    case g1007_k_46 =>
      have hlt := xl_lt hu hi h49
      have hz : ¬ (xq_n s.2 = -1 ∨ M 0 8 + u < xq_n s.2) := fun z => z.elim h64 (Int32.not_lt.mpr h70)
      refine ⟨n - (i + 1), by omega, i + 1, n, xq_r s (xq_n s.2), hu, hn, by omega, rfl, ?_, hI.r _, hft, rfl, ?_, rfl, rfl⟩
      · rw [← hq, show n - i = n - (i + 1) + 1 by omega, xq_tk1f hz]
      · rw [nI_succ]; rfl
    case g1008_w_101 =>
      first | rfl | exact xi_nb
    case g1009_r_101 =>
      refine ⟨hft, ?_, ?_⟩
      all_goals
        simp only [fA_tick]
        rw [hu, nI_clamp (by omega), ← hu, ← hq]
        first
        | (rw [xq_tk1t (s := s) (e := M 0 8 + u) (Or.inl h64)]; done)
        | (rw [xq_tk1t (s := s) (e := M 0 8 + u) (Or.inr (Int32.not_le.mp h70))]; done)
        | (rw [xq_tk1t (s := s) (e := M 0 8 + u) (Or.inl h64)]; rfl)
        | (rw [xq_tk1t (s := s) (e := M 0 8 + u) (Or.inr (Int32.not_le.mp h70))]; rfl)
        | (rw [xl_end hu (by omega) hi h49, Nat.sub_self]; rfl)
  · rintro as M ⟨u, rfl, hpre⟩
    refine ⟨600, (And.intro rfl (And.intro (Nat.le_of_ble_eq_true rfl) (And.intro (Nat.le_of_ble_eq_true rfl) (And.intro ?g1_c_5 (And.intro (by decide) (And.intro (fun h8 => ?g2_t_23) (fun h8 => (And.intro rfl (And.intro (by decide) (And.intro (fun h20 => (And.intro rfl (And.intro (Nat.le_of_ble_eq_true rfl) (And.intro (Nat.le_of_ble_eq_true rfl) (And.intro (Nat.le_of_ble_eq_true rfl) ?g3_k_46))))) (fun h20 => ?g4_t_23)))))))))))⟩
    case g1_c_5 =>
      exact ⟨_, _, _, rfl⟩
    case g2_t_23 =>
      refine ⟨rfl, _, rfl, ?_⟩
      simp only [ftA_tick]
      rw [xo_t (fun z => by first | exact xi_0.mp h8 z.1 | exact absurd z.2 (Int32.not_le.mpr h20) | exact h20 z.2)]
    case g3_k_46 =>
      have hz : (1 ≤ u ∧ u ≤ 2000) ∧ u ≤ 17519 - M 0 8 := ⟨xi_n0.mp h8, h20⟩
      have hv : vp_in u 2001 := by
        rw [vp_in_iff]
        obtain ⟨⟨h1, h2⟩, -⟩ := hz
        rw [Int32.le_iff_toInt_le] at h1 h2
        have e0 : (1 : Int32).toInt = 1 := rfl
        have e1 : (2000 : Int32).toInt = 2000 := rfl
        omega
      obtain ⟨n0, hn0, hu0⟩ := vp_in_of hv (by decide)
      refine ⟨n0 - 0, 0, n0, (0, M), hu0, by omega, Nat.zero_le _, rfl, rfl, hpre, ?_, rfl, rfl, rfl, rfl⟩
      simp only [ftA_tick]
      rw [xo_f (fun z => z hz)]
    case g4_t_23 =>
      refine ⟨rfl, _, rfl, ?_⟩
      simp only [ftA_tick]
      rw [xo_t (fun z => by first | exact xi_0.mp h8 z.1 | exact absurd z.2 (Int32.not_le.mpr h20) | exact h20 z.2)]
