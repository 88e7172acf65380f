/-! THE CLASS's own numbers: what is left, who is there, who is next -/
noncomputable def xd_hd (fr : Nat → Int32) (f t h : Int32) : Int32 := xq_s (fun i => xi_w (nI (f.toNatClampNeg + i) - nI (f.toNatClampNeg + i) / 7 * 7 < 5 ∧ fr (nI (f.toNatClampNeg + i)).toNatClampNeg = 0) (1 + xi_b (¬ ((nI (f.toNatClampNeg + i) = f ∧ ¬ h &&& 1 = 0) ∨ (nI (f.toNatClampNeg + i) = t ∧ ¬ h &&& 2 = 0))))) (t.toNatClampNeg + 1 - f.toNatClampNeg)
noncomputable def xd_hh (M : xm_M) (p y : Int32) : Int32 := xq_s (fun i => xi_w (M 19 i = 0 ∧ ¬ M 23 i = 3 ∧ M 18 i = p ∧ M 20 i / 365 = y) (xd_hd (M 7) (M 20 i) (M 21 i) (M 22 i))) (M 4 0).toNatClampNeg
def xd_dt (s y : Int32) : Int32 := (fun z : Int32 => if (0 : Int32) < z then z else 0) ((fun z : Int32 => if z < 365 then z else 365) ((y + 1) * 365 - s))
noncomputable def xd_py (M : xm_M) (u d p y x : Int32) : Int32 := 2 * u * xd_dt (M 10 p.toNatClampNeg) y - 365 * d * (xd_hh M p y + x)
def xd_pc (cr d z : Int32) : Int32 := (fun w : Int32 => if (0 : Int32) < w then w else 0) (if cr * (730 * d) < z then cr * (730 * d) else z)
def xd_en (M : xm_M) (u d p a b : Int32) : Prop := 0 ≤ xd_py M u d p 0 a ∧ 0 ≤ xd_py M u d p 1 b + xd_pc (M 0 6) d (xd_py M u d p 0 a)
/-- the asks are within their arrays, their days within the calendar -/
def xv_K (M : xm_M) : Prop := ∃ c, c ≤ 80 ∧ M 4 0 = nI c ∧ ∀ i, i < c → xv_span (M 20 i) (M 21 i)
theorem xv_K.n {M : xm_M} (h : xv_K M) : ∃ c, c ≤ 80 ∧ M 4 0 = nI c := by
  obtain ⟨c, h1, h2, -⟩ := h
  exact ⟨c, h1, h2⟩
def pA_halfDaysOf (as : List Value) (M : xm_M) : Prop := ∃ a : Int32, as = [.ref 0, .int a] ∧ vp_in a 80 ∧ xv_span (M 20 a.toNatClampNeg) (M 21 a.toNatClampNeg)
noncomputable def fA_halfDaysOf (as : List Value) (M : xm_M) : Option Value × xm_M := match as with
  | [_, .int a] => (some (.int (xd_hd (M 7) (M 20 a.toNatClampNeg) (M 21 a.toNatClampNeg) (M 22 a.toNatClampNeg))), M)
  | _ => (none, M)
noncomputable abbrev sA_halfDaysOf : xm_C := (0, 2, 0, pA_halfDaysOf, fA_halfDaysOf)
theorem uA_halfDaysOf : ∀ as M, (fA_halfDaysOf as M).2 = M := by
  intro as M
  unfold fA_halfDaysOf
  split <;> rfl
theorem vA_halfDaysOf : ∀ as M, pA_halfDaysOf as M → ∃ as1, as = .ref 0 :: as1 := by
  rintro as M ⟨a, rfl, ⟨hp1, hp2⟩⟩
  exact ⟨_, rfl⟩
noncomputable def tA_halfDaysOf : List (Nat × xm_C) := [(342, sC_halfDays)]
theorem lA_halfDaysOf (l : Launch) : ∀ n C, (n, C) ∈ tA_halfDaysOf → xm_lkS l "AbsenceRows" xt_T xk_ns (xr_ 2) xk_cl xk_tA n C ∨ xm_lkV l "AbsenceRows" xt_T xk_ns (xr_ 2) xk_cl xk_tA n C := fun n C h => (show ∀ q ∈ tA_halfDaysOf, xm_lkS l "AbsenceRows" xt_T xk_ns (xr_ 2) xk_cl xk_tA q.1 q.2 ∨ xm_lkV l "AbsenceRows" xt_T xk_ns (xr_ 2) xk_cl xk_tA q.1 q.2 from List.forall_mem_cons.mpr ⟨Or.inr ⟨xy_C_halfDays, xb_C_halfDays, 6, (some .int), xr_ 1, 3, 1, 1, [some 7], xk_T1, 1, rfl, rfl, ⟨xe_C_halfDays, xw_38, ⟨by decide, by decide, by decide +kernel⟩, ⟨Nat.le_of_ble_eq_true rfl, Nat.le_of_ble_eq_true rfl⟩, rfl, rfl⟩, xw_417, xw_418, xw_419, rfl, rfl, vC_halfDays, Or.inl ⟨rfl, uC_halfDays, cC_halfDays l⟩⟩, fun _ h => absurd h List.not_mem_nil⟩) (n, C) h
set_option maxRecDepth 20000 in
set_option maxHeartbeats 2000000 in
theorem cA_halfDaysOf (l : Launch) : xm_Pu l xy_A_halfDaysOf (Cond.code xy_A_halfDaysOf xb_A_halfDaysOf 2 (some .int) :: xt_T) (xr_ 2) xk_cl xk_ns xk_tA pA_halfDaysOf fA_halfDaysOf := by
  refine xm_mk_pu (rt := .int) (fl := xf_A) (ct := tA_halfDaysOf) (cn := []) (cj := []) (plainFor_of_name (by decide)) xs_A xd_A_halfDaysOf rfl (Or.inr rfl) (lA_halfDaysOf l) (fun _ _ _ _ _ _ _ _ => False) ?_ ?_ ?_ (fun _ _ _ _ _ _ _ _ _ h => h.elim) ?_
  · rintro as M ⟨a, rfl, ⟨hp1, hp2⟩⟩; exact Nat.le_of_ble_eq_true rfl
  · rintro as M ⟨a, rfl, ⟨hp1, hp2⟩⟩; simp [fA_halfDaysOf]
  · rintro as M v ⟨a, rfl, ⟨hp1, hp2⟩⟩ h; first | rfl | (simp [fA_halfDaysOf] at h)
  · rintro as M ⟨a, rfl, ⟨hp1, hp2⟩⟩
    refine ⟨400, (And.intro rfl (And.intro rfl (And.intro rfl (And.intro rfl (And.intro ?g1_i_12 (And.intro rfl (And.intro rfl (And.intro rfl (And.intro ?g2_i_21 (And.intro rfl (And.intro rfl (And.intro rfl (And.intro ?g3_i_30 (And.intro rfl (And.intro (Nat.le_of_ble_eq_true rfl) (And.intro (Nat.le_of_ble_eq_true rfl) (And.intro ?g4_c_31 (And.intro ?g5_w_34 ?g6_r_34))))))))))))))))))⟩
    case g1_i_12 =>
      exact hp1
    case g2_i_21 =>
      exact hp1
    case g3_i_30 =>
      exact hp1
    case g4_c_31 =>
      exact ⟨_, _, _, rfl, hp2⟩
    case g5_w_34 =>
      first | rfl | exact xi_nb
    case g6_r_34 =>
      exact ⟨rfl, rfl⟩
def pA_halfDaysOfHoliday (as : List Value) (M : xm_M) : Prop := ∃ p y : Int32, as = [.ref 0, .int p, .int y] ∧ xv_K M
noncomputable def fA_halfDaysOfHoliday (as : List Value) (M : xm_M) : Option Value × xm_M := match as with
  | [_, .int p, .int y] => (some (.int (xd_hh M p y)), M)
  | _ => (none, M)
noncomputable abbrev sA_halfDaysOfHoliday : xm_C := (0, 3, 0, pA_halfDaysOfHoliday, fA_halfDaysOfHoliday)
theorem uA_halfDaysOfHoliday : ∀ as M, (fA_halfDaysOfHoliday as M).2 = M := by
  intro as M
  unfold fA_halfDaysOfHoliday
  split <;> rfl
theorem vA_halfDaysOfHoliday : ∀ as M, pA_halfDaysOfHoliday as M → ∃ as1, as = .ref 0 :: as1 := by
  rintro as M ⟨p, y, rfl, hpre⟩
  exact ⟨_, rfl⟩
noncomputable def tA_halfDaysOfHoliday : List (Nat × xm_C) := [(354, sK_takesFromBudget), (165, sA_yearOf), (234, sA_halfDaysOf)]
theorem lA_halfDaysOfHoliday (l : Launch) : ∀ n C, (n, C) ∈ tA_halfDaysOfHoliday → xm_lkS l "AbsenceRows" xt_T xk_ns (xr_ 3) xk_cl xk_tA n C ∨ xm_lkV l "AbsenceRows" xt_T xk_ns (xr_ 3) xk_cl xk_tA n C := fun n C h => (show ∀ q ∈ tA_halfDaysOfHoliday, xm_lkS l "AbsenceRows" xt_T xk_ns (xr_ 3) xk_cl xk_tA q.1 q.2 ∨ xm_lkV l "AbsenceRows" xt_T xk_ns (xr_ 3) xk_cl xk_tA q.1 q.2 from List.forall_mem_cons.mpr ⟨Or.inr ⟨xy_K_takesFromBudget, xb_K_takesFromBudget, 2, (some .boolean), xr_ 0, 1, 4, 4, [none, some 18, some 19, some 20, some 21, some 22, some 23, some 24], xk_T4, 8, rfl, rfl, ⟨xe_K_takesFromBudget, xw_41, ⟨by decide, by decide, by decide +kernel⟩, ⟨Nat.le_of_ble_eq_true rfl, Nat.le_of_ble_eq_true rfl⟩, rfl, rfl⟩, xw_406, xw_407, xw_408, rfl, rfl, vK_takesFromBudget, Or.inl ⟨rfl, uK_takesFromBudget, cK_takesFromBudget l⟩⟩, List.forall_mem_cons.mpr ⟨Or.inl ⟨xy_A_yearOf, xb_A_yearOf, 1, (some .int), xr_ 0, rfl, ⟨xe_A_yearOf, xw_37, ⟨by decide, by decide, by decide +kernel⟩, ⟨Nat.le_of_ble_eq_true rfl, Nat.le_of_ble_eq_true rfl⟩, rfl, rfl⟩, xw_411, Or.inl xw_410, Or.inl ⟨rfl, uA_yearOf, cA_yearOf l⟩⟩, List.forall_mem_cons.mpr ⟨Or.inr ⟨xy_A_halfDaysOf, xb_A_halfDaysOf, 2, (some .int), xr_ 2, 1, 0, 0, [some 1, some 2, some 3, some 4, some 5, some 6, none, none, none], xk_T0, 9, rfl, rfl, ⟨xe_A_halfDaysOf, xw_37, ⟨by decide, by decide, by decide +kernel⟩, ⟨Nat.le_of_ble_eq_true rfl, Nat.le_of_ble_eq_true rfl⟩, rfl, rfl⟩, xw_413, xw_415, xw_4, rfl, rfl, vA_halfDaysOf, Or.inl ⟨rfl, uA_halfDaysOf, cA_halfDaysOf l⟩⟩, fun _ h => absurd h List.not_mem_nil⟩⟩⟩) (n, C) h
set_option maxRecDepth 20000 in
set_option maxHeartbeats 2000000 in
theorem cA_halfDaysOfHoliday (l : Launch) : xm_Pu l xy_A_halfDaysOfHoliday (Cond.code xy_A_halfDaysOfHoliday xb_A_halfDaysOfHoliday 5 (some .int) :: xt_T) (xr_ 3) xk_cl xk_ns xk_tA pA_halfDaysOfHoliday fA_halfDaysOfHoliday := by
  refine xm_mk_pu (rt := .int) (fl := xf_A) (ct := tA_halfDaysOfHoliday) (cn := []) (cj := []) (plainFor_of_name (by decide)) xs_A xd_A_halfDaysOfHoliday rfl (Or.inr rfl) (lA_halfDaysOfHoliday l) (fun as M j pc ls st M2 cl => match as with | [_, .int p, .int y] => (∃ i c : Nat, M 4 0 = nI c ∧ c ≤ 80 ∧ i ≤ c ∧ j = c - i ∧ (∀ k, k < c → xv_span (M 20 k) (M 21 k)) ∧ pc = 5 ∧ ls = [(0, .ref 0), (1, .int p), (2, .int y), (3, .int (xq_s (fun i => xi_w (M 19 i = 0 ∧ ¬ M 23 i = 3 ∧ M 18 i = p ∧ M 20 i / 365 = y) (xd_hd (M 7) (M 20 i) (M 21 i) (M 22 i))) i)), (4, .int (nI i))] ∧ st = [] ∧ M2 = M ∧ cl = 0) | _ => False) ?_ ?_ ?_ ?_ ?_
  · rintro as M ⟨p, y, rfl, hpre⟩; exact Nat.le_of_ble_eq_true rfl
  · rintro as M ⟨p, y, rfl, hpre⟩; simp [fA_halfDaysOfHoliday]
  · rintro as M v ⟨p, y, rfl, hpre⟩ h; first | rfl | (simp [fA_halfDaysOfHoliday] at h)
  · rintro as M ⟨p, y, rfl, hpre⟩ j pc ls st M2 cl ⟨i, c, hc, hc20, hic, hj, hsp, rfl, rfl, rfl, rfl, rfl⟩
    refine ⟨400, (And.intro rfl (And.intro rfl (And.intro (by decide) (And.intro (fun h14 => (And.intro ?g1001_w_76 ?g1002_r_76)) (fun h14 => (And.intro rfl (And.intro rfl (And.intro (Nat.le_of_ble_eq_true rfl) (And.intro (Nat.le_of_ble_eq_true rfl) (And.intro ?g1003_c_23 (And.intro (by decide) (And.intro (fun h26 => (And.intro (Nat.le_of_ble_eq_true rfl) (And.intro (by decide) ?g1004_k_5))) (fun h26 => (And.intro rfl (And.intro rfl (And.intro rfl (And.intro ?g1005_i_38 (And.intro (by decide) (And.intro (fun h40 => (And.intro (Nat.le_of_ble_eq_true rfl) (And.intro (by decide) ?g1006_k_5))) (fun h40 => (And.intro rfl (And.intro rfl (And.intro rfl (And.intro ?g1007_i_52 (And.intro rfl (And.intro (Nat.le_of_ble_eq_true rfl) (And.intro (Nat.le_of_ble_eq_true rfl) (And.intro ?g1008_c_53 (And.intro (by decide) (And.intro (fun h57 => (And.intro (Nat.le_of_ble_eq_true rfl) (And.intro (by decide) ?g1009_k_5))) (fun h57 => (And.intro rfl (And.intro (Nat.le_of_ble_eq_true rfl) (And.intro (Nat.le_of_ble_eq_true rfl) (And.intro ?g1010_c_64 (And.intro (Nat.le_of_ble_eq_true rfl) (And.intro (Nat.le_of_ble_eq_true rfl) (And.intro (by decide) ?g1011_k_5))))))))))))))))))))))))))))))))))))))⟩
    case g1001_w_76 =>
      first | rfl | exact xi_nb
    case g1002_r_76 =>
      obtain rfl := xl_end hc (by omega) hic (by assumption)
      refine ⟨xl_some ?_, rfl⟩
      unfold xd_hh
      rw [hc, nI_clamp (by omega)]
    case g1003_c_23 =>
      exact ⟨_, rfl, vp_in_nI (Nat.lt_of_lt_of_le (xl_lt hc hic h14) hc20) (by decide)⟩
    case g1004_k_5 =>
      have hlt := xl_lt hc hic h14
      have e1 : (nI i).toNatClampNeg = i := nI_clamp (by omega)
      refine ⟨c - (i + 1), by omega, i + 1, c, hc, hc20, by omega, rfl, hsp, rfl, ?_, rfl, rfl, rfl⟩
      rw [nI_succ, xq_s1]
      simp only [e1, xi_0, xi_n0] at *
      first | (rw [xi_wt (by grind)]; rfl) | (rw [xi_wf (by grind), xi_add0]; rfl)
    case g1005_i_38 =>
      exact vp_in_nI (Nat.lt_of_lt_of_le (xl_lt hc hic h14) hc20) (by decide)
    case g1006_k_5 =>
      have hlt := xl_lt hc hic h14
      have e1 : (nI i).toNatClampNeg = i := nI_clamp (by omega)
      refine ⟨c - (i + 1), by omega, i + 1, c, hc, hc20, by omega, rfl, hsp, rfl, ?_, rfl, rfl, rfl⟩
      rw [nI_succ, xq_s1]
      simp only [e1, xi_0, xi_n0] at *
      first | (rw [xi_wt (by grind)]; rfl) | (rw [xi_wf (by grind), xi_add0]; rfl)
    case g1007_i_52 =>
      exact vp_in_nI (Nat.lt_of_lt_of_le (xl_lt hc hic h14) hc20) (by decide)
    case g1008_c_53 =>
      exact ⟨_, rfl⟩
    case g1009_k_5 =>
      have hlt := xl_lt hc hic h14
      have e1 : (nI i).toNatClampNeg = i := nI_clamp (by omega)
      refine ⟨c - (i + 1), by omega, i + 1, c, hc, hc20, by omega, rfl, hsp, rfl, ?_, rfl, rfl, rfl⟩
      rw [nI_succ, xq_s1]
      simp only [e1, xi_0, xi_n0] at *
      first | (rw [xi_wt (by grind)]; rfl) | (rw [xi_wf (by grind), xi_add0]; rfl)
    case g1010_c_64 =>
      have hlt := xl_lt hc hic h14
      refine ⟨_, rfl, vp_in_nI (Nat.lt_of_lt_of_le hlt hc20) (by decide), ?_⟩
      rw [nI_clamp (by omega)]; exact hsp i hlt
    case g1011_k_5 =>
      have hlt := xl_lt hc hic h14
      have e1 : (nI i).toNatClampNeg = i := nI_clamp (by omega)
      refine ⟨c - (i + 1), by omega, i + 1, c, hc, hc20, by omega, rfl, hsp, rfl, ?_, rfl, rfl, rfl⟩
      rw [nI_succ, xq_s1]
      simp only [e1, xi_0, xi_n0] at *
      first | (rw [xi_wt (by grind)]; rfl) | (rw [xi_wf (by grind), xi_add0]; rfl)
  · rintro as M ⟨p, y, rfl, hpre⟩
    refine ⟨400, (And.intro (Nat.le_of_ble_eq_true rfl) (And.intro (Nat.le_of_ble_eq_true rfl) ?g1_k_5))⟩
    case g1_k_5 =>
      obtain ⟨c0, h1, h2, h3⟩ := hpre
      exact ⟨c0 - 0, 0, c0, h2, h1, Nat.zero_le _, rfl, h3, rfl, rfl, rfl, rfl, rfl⟩
def pA_partsOfYear (as : List Value) (M : xm_M) : Prop := ∃ u d p y x : Int32, as = [.ref 0, .int u, .int d, .int p, .int y, .int x] ∧ vp_in p 20 ∧ xv_K M
noncomputable def fA_partsOfYear (as : List Value) (M : xm_M) : Option Value × xm_M := match as with
  | [_, .int u, .int d, .int p, .int y, .int x] => (some (.int (xd_py M u d p y x)), M)
  | _ => (none, M)
noncomputable abbrev sA_partsOfYear : xm_C := (0, 6, 0, pA_partsOfYear, fA_partsOfYear)
theorem uA_partsOfYear : ∀ as M, (fA_partsOfYear as M).2 = M := by
  intro as M
  unfold fA_partsOfYear
  split <;> rfl
theorem vA_partsOfYear : ∀ as M, pA_partsOfYear as M → ∃ as1, as = .ref 0 :: as1 := by
  rintro as M ⟨u, d, p, y, x, rfl, ⟨hp1, hp2⟩⟩
  exact ⟨_, rfl⟩
noncomputable def tA_partsOfYear : List (Nat × xm_C) := [(319, sA_halfDaysOfHoliday), (322, sP_daysThere), (325, sA_partsOfHalfDay)]
theorem lA_partsOfYear (l : Launch) : ∀ n C, (n, C) ∈ tA_partsOfYear → xm_lkS l "AbsenceRows" xt_T xk_ns (xr_ 4) xk_cl xk_tA n C ∨ xm_lkV l "AbsenceRows" xt_T xk_ns (xr_ 4) xk_cl xk_tA n C := fun n C h => (show ∀ q ∈ tA_partsOfYear, xm_lkS l "AbsenceRows" xt_T xk_ns (xr_ 4) xk_cl xk_tA q.1 q.2 ∨ xm_lkV l "AbsenceRows" xt_T xk_ns (xr_ 4) xk_cl xk_tA q.1 q.2 from List.forall_mem_cons.mpr ⟨Or.inr ⟨xy_A_halfDaysOfHoliday, xb_A_halfDaysOfHoliday, 5, (some .int), xr_ 3, 2, 0, 0, [some 1, some 2, some 3, some 4, some 5, some 6, none, none, none], xk_T0, 9, rfl, rfl, ⟨xe_A_halfDaysOfHoliday, xw_37, ⟨by decide, by decide, by decide +kernel⟩, ⟨Nat.le_of_ble_eq_true rfl, Nat.le_of_ble_eq_true rfl⟩, rfl, rfl⟩, xw_402, xw_404, xw_3, rfl, rfl, vA_halfDaysOfHoliday, Or.inl ⟨rfl, uA_halfDaysOfHoliday, cA_halfDaysOfHoliday l⟩⟩, List.forall_mem_cons.mpr ⟨Or.inr ⟨xy_P_daysThere, xb_P_daysThere, 4, (some .int), xr_ 1, 2, 2, 2, [none, some 8, some 9, some 10, some 11, some 12, some 13, some 14], xk_T2, 8, rfl, rfl, ⟨xe_P_daysThere, xw_39, ⟨by decide, by decide, by decide +kernel⟩, ⟨Nat.le_of_ble_eq_true rfl, Nat.le_of_ble_eq_true rfl⟩, rfl, rfl⟩, xw_428, xw_429, xw_430, rfl, rfl, vP_daysThere, Or.inl ⟨rfl, uP_daysThere, cP_daysThere l⟩⟩, List.forall_mem_cons.mpr ⟨Or.inl ⟨xy_A_partsOfHalfDay, xb_A_partsOfHalfDay, 1, (some .int), xr_ 0, rfl, ⟨xe_A_partsOfHalfDay, xw_37, ⟨by decide, by decide, by decide +kernel⟩, ⟨Nat.le_of_ble_eq_true rfl, Nat.le_of_ble_eq_true rfl⟩, rfl, rfl⟩, xw_439, Or.inl xw_438, Or.inl ⟨rfl, uA_partsOfHalfDay, cA_partsOfHalfDay l⟩⟩, fun _ h => absurd h List.not_mem_nil⟩⟩⟩) (n, C) h
set_option maxRecDepth 20000 in
set_option maxHeartbeats 2000000 in
theorem cA_partsOfYear (l : Launch) : xm_Pu l xy_A_partsOfYear (Cond.code xy_A_partsOfYear xb_A_partsOfYear 7 (some .int) :: xt_T) (xr_ 4) xk_cl xk_ns xk_tA pA_partsOfYear fA_partsOfYear := by
  refine xm_mk_pu (rt := .int) (fl := xf_A) (ct := tA_partsOfYear) (cn := []) (cj := []) (plainFor_of_name (by decide)) xs_A xd_A_partsOfYear rfl (Or.inr rfl) (lA_partsOfYear l) (fun _ _ _ _ _ _ _ _ => False) ?_ ?_ ?_ (fun _ _ _ _ _ _ _ _ _ h => h.elim) ?_
  · rintro as M ⟨u, d, p, y, x, rfl, ⟨hp1, hp2⟩⟩; exact Nat.le_of_ble_eq_true rfl
  · rintro as M ⟨u, d, p, y, x, rfl, ⟨hp1, hp2⟩⟩; simp [fA_partsOfYear]
  · rintro as M v ⟨u, d, p, y, x, rfl, ⟨hp1, hp2⟩⟩ h; first | rfl | (simp [fA_partsOfYear] at h)
  · rintro as M ⟨u, d, p, y, x, rfl, ⟨hp1, hp2⟩⟩
    refine ⟨400, (And.intro rfl (And.intro (Nat.le_of_ble_eq_true rfl) (And.intro (Nat.le_of_ble_eq_true rfl) (And.intro ?g1_c_4 (And.intro (Nat.le_of_ble_eq_true rfl) (And.intro rfl (And.intro rfl (And.intro (Nat.le_of_ble_eq_true rfl) (And.intro (Nat.le_of_ble_eq_true rfl) (And.intro ?g2_c_22 (And.intro rfl (And.intro (Nat.le_of_ble_eq_true rfl) (And.intro (Nat.le_of_ble_eq_true rfl) (And.intro ?g3_c_27 (And.intro ?g4_w_34 ?g5_r_34)))))))))))))))⟩
    case g1_c_4 =>
      exact ⟨_, _, rfl, hp2⟩
    case g2_c_22 =>
      exact ⟨_, _, rfl, hp1⟩
    case g3_c_27 =>
      exact ⟨_, rfl⟩
    case g4_w_34 =>
      first | rfl | exact xi_nb
    case g5_r_34 =>
      exact ⟨rfl, rfl⟩
def pA_partsCarried (as : List Value) (M : xm_M) : Prop := ∃ d z : Int32, as = [.ref 0, .int d, .int z]
noncomputable def fA_partsCarried (as : List Value) (M : xm_M) : Option Value × xm_M := match as with
  | [_, .int d, .int z] => (some (.int (xd_pc (M 0 6) d z)), M)
  | _ => (none, M)
noncomputable abbrev sA_partsCarried : xm_C := (0, 3, 0, pA_partsCarried, fA_partsCarried)
theorem uA_partsCarried : ∀ as M, (fA_partsCarried as M).2 = M := by
  intro as M
  unfold fA_partsCarried
  split <;> rfl
theorem vA_partsCarried : ∀ as M, pA_partsCarried as M → ∃ as1, as = .ref 0 :: as1 := by
  rintro as M ⟨d, z, rfl⟩
  exact ⟨_, rfl⟩
noncomputable def tA_partsCarried : List (Nat × xm_C) := [(247, sA_partsOfDay), (328, sJ_min), (333, sJ_max)]
theorem lA_partsCarried (l : Launch) : ∀ n C, (n, C) ∈ tA_partsCarried → xm_lkS l "AbsenceRows" xt_T xk_ns (xr_ 1) xk_cl xk_tA n C ∨ xm_lkV l "AbsenceRows" xt_T xk_ns (xr_ 1) xk_cl xk_tA n C := fun n C h => (show ∀ q ∈ tA_partsCarried, xm_lkS l "AbsenceRows" xt_T xk_ns (xr_ 1) xk_cl xk_tA q.1 q.2 ∨ xm_lkV l "AbsenceRows" xt_T xk_ns (xr_ 1) xk_cl xk_tA q.1 q.2 from List.forall_mem_cons.mpr ⟨Or.inl ⟨xy_A_partsOfDay, xb_A_partsOfDay, 1, (some .int), xr_ 0, rfl, ⟨xe_A_partsOfDay, xw_37, ⟨by decide, by decide, by decide +kernel⟩, ⟨Nat.le_of_ble_eq_true rfl, Nat.le_of_ble_eq_true rfl⟩, rfl, rfl⟩, xw_446, Or.inl xw_445, Or.inl ⟨rfl, uA_partsOfDay, cA_partsOfDay l⟩⟩, List.forall_mem_cons.mpr ⟨Or.inl ⟨xy_J_min, xb_J_min, 2, (some .int), xr_ 0, rfl, ⟨xe_J_min, xw_51, ⟨by decide, by decide, by decide +kernel⟩, ⟨Nat.le_of_ble_eq_true rfl, Nat.le_of_ble_eq_true rfl⟩, rfl, rfl⟩, xw_433, Or.inl xw_448, Or.inl ⟨rfl, uJ_min, cJ_min l⟩⟩, List.forall_mem_cons.mpr ⟨Or.inl ⟨xy_J_max, xb_J_max, 2, (some .int), xr_ 0, rfl, ⟨xe_J_max, xw_51, ⟨by decide, by decide, by decide +kernel⟩, ⟨Nat.le_of_ble_eq_true rfl, Nat.le_of_ble_eq_true rfl⟩, rfl, rfl⟩, xw_436, Or.inl xw_449, Or.inl ⟨rfl, uJ_max, cJ_max l⟩⟩, fun _ h => absurd h List.not_mem_nil⟩⟩⟩) (n, C) h
set_option maxRecDepth 20000 in
set_option maxHeartbeats 2000000 in
theorem cA_partsCarried (l : Launch) : xm_Pu l xy_A_partsCarried (Cond.code xy_A_partsCarried xb_A_partsCarried 3 (some .int) :: xt_T) (xr_ 1) xk_cl xk_ns xk_tA pA_partsCarried fA_partsCarried := by
  refine xm_mk_pu (rt := .int) (fl := xf_A) (ct := tA_partsCarried) (cn := []) (cj := []) (plainFor_of_name (by decide)) xs_A xd_A_partsCarried rfl (Or.inr rfl) (lA_partsCarried l) (fun _ _ _ _ _ _ _ _ => False) ?_ ?_ ?_ (fun _ _ _ _ _ _ _ _ _ h => h.elim) ?_
  · rintro as M ⟨d, z, rfl⟩; exact Nat.le_of_ble_eq_true rfl
  · rintro as M ⟨d, z, rfl⟩; simp [fA_partsCarried]
  · rintro as M v ⟨d, z, rfl⟩ h; first | rfl | (simp [fA_partsCarried] at h)
  · rintro as M ⟨d, z, rfl⟩
    refine ⟨400, (And.intro rfl (And.intro rfl (And.intro (Nat.le_of_ble_eq_true rfl) (And.intro (Nat.le_of_ble_eq_true rfl) (And.intro ?g1_c_7 (And.intro rfl (And.intro (Nat.le_of_ble_eq_true rfl) (And.intro (Nat.le_of_ble_eq_true rfl) (And.intro ?g2_c_11 (And.intro rfl (And.intro (Nat.le_of_ble_eq_true rfl) (And.intro (Nat.le_of_ble_eq_true rfl) (And.intro ?g3_c_14 (And.intro ?g4_w_17 ?g5_r_17))))))))))))))⟩
    case g1_c_7 =>
      exact ⟨_, rfl⟩
    case g2_c_11 =>
      exact ⟨_, _, rfl⟩
    case g3_c_14 =>
      exact ⟨_, _, rfl⟩
    case g4_w_17 =>
      first | rfl | exact xi_nb
    case g5_r_17 =>
      exact ⟨rfl, rfl⟩
def pA_partsLeft (as : List Value) (M : xm_M) : Prop := ∃ p y : Int32, as = [.ref 0, .int p, .int y] ∧ vp_in p 20 ∧ xv_K M
noncomputable def fA_partsLeft (as : List Value) (M : xm_M) : Option Value × xm_M := match as with
  | [_, .int p, .int y] => (some (.int (xi_x (y = 0) (xd_py M (M 11 p.toNatClampNeg) (M 12 p.toNatClampNeg) p 0 0) (xd_py M (M 11 p.toNatClampNeg) (M 12 p.toNatClampNeg) p 1 0 + xd_pc (M 0 6) (M 12 p.toNatClampNeg) (xd_py M (M 11 p.toNatClampNeg) (M 12 p.toNatClampNeg) p 0 0)))), M)
  | _ => (none, M)
noncomputable abbrev sA_partsLeft : xm_C := (0, 3, 0, pA_partsLeft, fA_partsLeft)
theorem uA_partsLeft : ∀ as M, (fA_partsLeft as M).2 = M := by
  intro as M
  unfold fA_partsLeft
  split <;> rfl
theorem vA_partsLeft : ∀ as M, pA_partsLeft as M → ∃ as1, as = .ref 0 :: as1 := by
  rintro as M ⟨p, y, rfl, ⟨hp1, hp2⟩⟩
  exact ⟨_, rfl⟩
noncomputable def tA_partsLeft : List (Nat × xm_C) := [(336, sA_partsOfYear), (339, sA_partsCarried)]
theorem lA_partsLeft (l : Launch) : ∀ n C, (n, C) ∈ tA_partsLeft → xm_lkS l "AbsenceRows" xt_T xk_ns (xr_ 5) xk_cl xk_tA n C ∨ xm_lkV l "AbsenceRows" xt_T xk_ns (xr_ 5) xk_cl xk_tA n C := fun n C h => (show ∀ q ∈ tA_partsLeft, xm_lkS l "AbsenceRows" xt_T xk_ns (xr_ 5) xk_cl xk_tA q.1 q.2 ∨ xm_lkV l "AbsenceRows" xt_T xk_ns (xr_ 5) xk_cl xk_tA q.1 q.2 from List.forall_mem_cons.mpr ⟨Or.inr ⟨xy_A_partsOfYear, xb_A_partsOfYear, 7, (some .int), xr_ 4, 5, 0, 0, [some 1, some 2, some 3, some 4, some 5, some 6, none, none, none], xk_T0, 9, rfl, rfl, ⟨xe_A_partsOfYear, xw_37, ⟨by decide, by decide, by decide +kernel⟩, ⟨Nat.le_of_ble_eq_true rfl, Nat.le_of_ble_eq_true rfl⟩, rfl, rfl⟩, xw_398, xw_400, xw_2, rfl, rfl, vA_partsOfYear, Or.inl ⟨rfl, uA_partsOfYear, cA_partsOfYear l⟩⟩, List.forall_mem_cons.mpr ⟨Or.inr ⟨xy_A_partsCarried, xb_A_partsCarried, 3, (some .int), xr_ 1, 2, 0, 0, [some 1, some 2, some 3, some 4, some 5, some 6, none, none, none], xk_T0, 9, rfl, rfl, ⟨xe_A_partsCarried, xw_37, ⟨by decide, by decide, by decide +kernel⟩, ⟨Nat.le_of_ble_eq_true rfl, Nat.le_of_ble_eq_true rfl⟩, rfl, rfl⟩, xw_441, xw_443, xw_5, rfl, rfl, vA_partsCarried, Or.inl ⟨rfl, uA_partsCarried, cA_partsCarried l⟩⟩, fun _ h => absurd h List.not_mem_nil⟩⟩) (n, C) h
set_option maxRecDepth 20000 in
set_option maxHeartbeats 2000000 in
theorem cA_partsLeft (l : Launch) : xm_Pu l xy_A_partsLeft (Cond.code xy_A_partsLeft xb_A_partsLeft 6 (some .int) :: xt_T) (xr_ 5) xk_cl xk_ns xk_tA pA_partsLeft fA_partsLeft := by
  refine xm_mk_pu (rt := .int) (fl := xf_A) (ct := tA_partsLeft) (cn := []) (cj := []) (plainFor_of_name (by decide)) xs_A xd_A_partsLeft rfl (Or.inr rfl) (lA_partsLeft l) (fun _ _ _ _ _ _ _ _ => False) ?_ ?_ ?_ (fun _ _ _ _ _ _ _ _ _ h => h.elim) ?_
  · rintro as M ⟨p, y, rfl, ⟨hp1, hp2⟩⟩; exact Nat.le_of_ble_eq_true rfl
  · rintro as M ⟨p, y, rfl, ⟨hp1, hp2⟩⟩; simp [fA_partsLeft]
  · rintro as M v ⟨p, y, rfl, ⟨hp1, hp2⟩⟩ h; first | rfl | (simp [fA_partsLeft] at h)
  · rintro as M ⟨p, y, rfl, ⟨hp1, hp2⟩⟩
    refine ⟨400, (And.intro rfl (And.intro rfl (And.intro rfl (And.intro ?g1_i_8 (And.intro (Nat.le_of_ble_eq_true rfl) (And.intro rfl (And.intro rfl (And.intro rfl (And.intro ?g2_i_18 (And.intro (Nat.le_of_ble_eq_true rfl) (And.intro rfl (And.intro (Nat.le_of_ble_eq_true rfl) (And.intro (Nat.le_of_ble_eq_true rfl) (And.intro ?g3_c_28 (And.intro (Nat.le_of_ble_eq_true rfl) (And.intro (by decide) (And.intro (fun h34 => (And.intro rfl (And.intro (Nat.le_of_ble_eq_true rfl) (And.intro (Nat.le_of_ble_eq_true rfl) (And.intro ?g4_c_47 (And.intro rfl (And.intro (Nat.le_of_ble_eq_true rfl) (And.intro (Nat.le_of_ble_eq_true rfl) (And.intro ?g5_c_55 (And.intro ?g6_w_59 ?g7_r_59)))))))))) (fun h34 => (And.intro ?g8_w_39 ?g9_r_39)))))))))))))))))))⟩
    case g1_i_8 =>
      exact hp1
    case g2_i_18 =>
      exact hp1
    case g3_c_28 =>
      exact ⟨_, _, _, _, _, rfl, hp1, hp2⟩
    case g4_c_47 =>
      exact ⟨_, _, _, _, _, rfl, hp1, hp2⟩
    case g5_c_55 =>
      exact ⟨_, _, rfl⟩
    case g6_w_59 =>
      first | rfl | exact xi_nb
    case g7_r_59 =>
      exact ⟨xl_some (xi_xf h34).symm, rfl⟩
    case g8_w_39 =>
      first | rfl | exact xi_nb
    case g9_r_39 =>
      exact ⟨xl_some (xi_xt h34).symm, rfl⟩
def pA_isEnough (as : List Value) (M : xm_M) : Prop := ∃ u d p a b : Int32, as = [.ref 0, .int u, .int d, .int p, .int a, .int b] ∧ vp_in p 20 ∧ xv_K M
noncomputable def fA_isEnough (as : List Value) (M : xm_M) : Option Value × xm_M := match as with
  | [_, .int u, .int d, .int p, .int a, .int b] => (some (.int (xi_b (xd_en M u d p a b))), M)
  | _ => (none, M)
noncomputable abbrev sA_isEnough : xm_C := (0, 6, 0, pA_isEnough, fA_isEnough)
theorem uA_isEnough : ∀ as M, (fA_isEnough as M).2 = M := by
  intro as M
  unfold fA_isEnough
  split <;> rfl
theorem vA_isEnough : ∀ as M, pA_isEnough as M → ∃ as1, as = .ref 0 :: as1 := by
  rintro as M ⟨u, d, p, a, b, rfl, ⟨hp1, hp2⟩⟩
  exact ⟨_, rfl⟩
noncomputable def tA_isEnough : List (Nat × xm_C) := [(336, sA_partsOfYear), (339, sA_partsCarried)]
theorem lA_isEnough (l : Launch) : ∀ n C, (n, C) ∈ tA_isEnough → xm_lkS l "AbsenceRows" xt_T xk_ns (xr_ 5) xk_cl xk_tA n C ∨ xm_lkV l "AbsenceRows" xt_T xk_ns (xr_ 5) xk_cl xk_tA n C := fun n C h => (show ∀ q ∈ tA_isEnough, xm_lkS l "AbsenceRows" xt_T xk_ns (xr_ 5) xk_cl xk_tA q.1 q.2 ∨ xm_lkV l "AbsenceRows" xt_T xk_ns (xr_ 5) xk_cl xk_tA q.1 q.2 from List.forall_mem_cons.mpr ⟨Or.inr ⟨xy_A_partsOfYear, xb_A_partsOfYear, 7, (some .int), xr_ 4, 5, 0, 0, [some 1, some 2, some 3, some 4, some 5, some 6, none, none, none], xk_T0, 9, rfl, rfl, ⟨xe_A_partsOfYear, xw_37, ⟨by decide, by decide, by decide +kernel⟩, ⟨Nat.le_of_ble_eq_true rfl, Nat.le_of_ble_eq_true rfl⟩, rfl, rfl⟩, xw_398, xw_400, xw_2, rfl, rfl, vA_partsOfYear, Or.inl ⟨rfl, uA_partsOfYear, cA_partsOfYear l⟩⟩, List.forall_mem_cons.mpr ⟨Or.inr ⟨xy_A_partsCarried, xb_A_partsCarried, 3, (some .int), xr_ 1, 2, 0, 0, [some 1, some 2, some 3, some 4, some 5, some 6, none, none, none], xk_T0, 9, rfl, rfl, ⟨xe_A_partsCarried, xw_37, ⟨by decide, by decide, by decide +kernel⟩, ⟨Nat.le_of_ble_eq_true rfl, Nat.le_of_ble_eq_true rfl⟩, rfl, rfl⟩, xw_441, xw_443, xw_5, rfl, rfl, vA_partsCarried, Or.inl ⟨rfl, uA_partsCarried, cA_partsCarried l⟩⟩, fun _ h => absurd h List.not_mem_nil⟩⟩) (n, C) h
set_option maxRecDepth 20000 in
set_option maxHeartbeats 2000000 in
theorem cA_isEnough (l : Launch) : xm_Pu l xy_A_isEnough (Cond.code xy_A_isEnough xb_A_isEnough 8 (some .boolean) :: xt_T) (xr_ 5) xk_cl xk_ns xk_tA pA_isEnough fA_isEnough := by
  refine xm_mk_pu (rt := .boolean) (fl := xf_A) (ct := tA_isEnough) (cn := []) (cj := []) (plainFor_of_name (by decide)) xs_A xd_A_isEnough rfl (Or.inr rfl) (lA_isEnough l) (fun _ _ _ _ _ _ _ _ => False) ?_ ?_ ?_ (fun _ _ _ _ _ _ _ _ _ h => h.elim) ?_
  · rintro as M ⟨u, d, p, a, b, rfl, ⟨hp1, hp2⟩⟩; exact Nat.le_of_ble_eq_true rfl
  · rintro as M ⟨u, d, p, a, b, rfl, ⟨hp1, hp2⟩⟩; simp [fA_isEnough]
  · rintro as M v ⟨u, d, p, a, b, rfl, ⟨hp1, hp2⟩⟩ h; first | rfl | (simp [fA_isEnough] at h)
  · rintro as M ⟨u, d, p, a, b, rfl, ⟨hp1, hp2⟩⟩
    refine ⟨400, (And.intro rfl (And.intro (Nat.le_of_ble_eq_true rfl) (And.intro (Nat.le_of_ble_eq_true rfl) (And.intro ?g1_c_7 (And.intro (Nat.le_of_ble_eq_true rfl) (And.intro rfl (And.intro (Nat.le_of_ble_eq_true rfl) (And.intro (Nat.le_of_ble_eq_true rfl) (And.intro ?g2_c_19 (And.intro (Nat.le_of_ble_eq_true rfl) (And.intro (by decide) (And.intro (fun h26 => (And.intro ?g3_w_47 ?g4_r_47)) (fun h26 => (And.intro rfl (And.intro (Nat.le_of_ble_eq_true rfl) (And.intro (Nat.le_of_ble_eq_true rfl) (And.intro ?g5_c_35 (And.intro (by decide) (And.intro (fun h39 => (And.intro ?g6_w_47 ?g7_r_47)) (fun h39 => (And.intro (by decide) (And.intro ?g8_w_47 ?g9_r_47))))))))))))))))))))))⟩
    case g1_c_7 =>
      exact ⟨_, _, _, _, _, rfl, hp1, hp2⟩
    case g2_c_19 =>
      exact ⟨_, _, _, _, _, rfl, hp1, hp2⟩
    case g3_w_47 =>
      first | rfl | exact xi_nb
    case g4_r_47 =>
      exact ⟨xl_some (xi_f (fun z => absurd h26 (Int32.not_lt.mpr z.1))).symm, rfl⟩
    case g5_c_35 =>
      exact ⟨_, _, rfl⟩
    case g6_w_47 =>
      first | rfl | exact xi_nb
    case g7_r_47 =>
      exact ⟨xl_some (xi_f (fun z => absurd h39 (Int32.not_lt.mpr z.2))).symm, rfl⟩
    case g8_w_47 =>
      first | rfl | exact xi_nb
    case g9_r_47 =>
      exact ⟨xl_some (xi_t ⟨Int32.not_lt.mp h26, Int32.not_lt.mp h39⟩).symm, rfl⟩
def pA_isEnoughFor (as : List Value) (M : xm_M) : Prop := ∃ p f t h : Int32, as = [.ref 0, .int p, .int f, .int t, .int h] ∧ vp_in p 20 ∧ xv_K M ∧ xv_span f t
noncomputable def fA_isEnoughFor (as : List Value) (M : xm_M) : Option Value × xm_M := match as with
  | [_, .int p, .int f, .int t, .int h] => (some (.int (xi_b (xd_en M (M 11 p.toNatClampNeg) (M 12 p.toNatClampNeg) p (xi_x (f / 365 = 0) (xd_hd (M 7) f t h) 0) (xd_hd (M 7) f t h - xi_x (f / 365 = 0) (xd_hd (M 7) f t h) 0)))), M)
  | _ => (none, M)
noncomputable abbrev sA_isEnoughFor : xm_C := (0, 5, 0, pA_isEnoughFor, fA_isEnoughFor)
theorem uA_isEnoughFor : ∀ as M, (fA_isEnoughFor as M).2 = M := by
  intro as M
  unfold fA_isEnoughFor
  split <;> rfl
theorem vA_isEnoughFor : ∀ as M, pA_isEnoughFor as M → ∃ as1, as = .ref 0 :: as1 := by
  rintro as M ⟨p, f, t, h, rfl, ⟨hp1, hp2, hp3⟩⟩
  exact ⟨_, rfl⟩
noncomputable def tA_isEnoughFor : List (Nat × xm_C) := [(342, sC_halfDays), (165, sA_yearOf), (98, sA_isEnough)]
theorem lA_isEnoughFor (l : Launch) : ∀ n C, (n, C) ∈ tA_isEnoughFor → xm_lkS l "AbsenceRows" xt_T xk_ns (xr_ 6) xk_cl xk_tA n C ∨ xm_lkV l "AbsenceRows" xt_T xk_ns (xr_ 6) xk_cl xk_tA n C := fun n C h => (show ∀ q ∈ tA_isEnoughFor, xm_lkS l "AbsenceRows" xt_T xk_ns (xr_ 6) xk_cl xk_tA q.1 q.2 ∨ xm_lkV l "AbsenceRows" xt_T xk_ns (xr_ 6) xk_cl xk_tA q.1 q.2 from List.forall_mem_cons.mpr ⟨Or.inr ⟨xy_C_halfDays, xb_C_halfDays, 6, (some .int), xr_ 1, 3, 1, 1, [some 7], xk_T1, 1, rfl, rfl, ⟨xe_C_halfDays, xw_38, ⟨by decide, by decide, by decide +kernel⟩, ⟨Nat.le_of_ble_eq_true rfl, Nat.le_of_ble_eq_true rfl⟩, rfl, rfl⟩, xw_417, xw_418, xw_419, rfl, rfl, vC_halfDays, Or.inl ⟨rfl, uC_halfDays, cC_halfDays l⟩⟩, List.forall_mem_cons.mpr ⟨Or.inl ⟨xy_A_yearOf, xb_A_yearOf, 1, (some .int), xr_ 0, rfl, ⟨xe_A_yearOf, xw_37, ⟨by decide, by decide, by decide +kernel⟩, ⟨Nat.le_of_ble_eq_true rfl, Nat.le_of_ble_eq_true rfl⟩, rfl, rfl⟩, xw_411, Or.inl xw_410, Or.inl ⟨rfl, uA_yearOf, cA_yearOf l⟩⟩, List.forall_mem_cons.mpr ⟨Or.inr ⟨xy_A_isEnough, xb_A_isEnough, 8, (some .boolean), xr_ 5, 5, 0, 0, [some 1, some 2, some 3, some 4, some 5, some 6, none, none, none], xk_T0, 9, rfl, rfl, ⟨xe_A_isEnough, xw_37, ⟨by decide, by decide, by decide +kernel⟩, ⟨Nat.le_of_ble_eq_true rfl, Nat.le_of_ble_eq_true rfl⟩, rfl, rfl⟩, xw_394, xw_396, xw_1, rfl, rfl, vA_isEnough, Or.inl ⟨rfl, uA_isEnough, cA_isEnough l⟩⟩, fun _ h => absurd h List.not_mem_nil⟩⟩⟩) (n, C) h
set_option maxRecDepth 20000 in
set_option maxHeartbeats 2000000 in
theorem cA_isEnoughFor (l : Launch) : xm_Pu l xy_A_isEnoughFor (Cond.code xy_A_isEnoughFor xb_A_isEnoughFor 7 (some .boolean) :: xt_T) (xr_ 6) xk_cl xk_ns xk_tA pA_isEnoughFor fA_isEnoughFor := by
  refine xm_mk_pu (rt := .boolean) (fl := xf_A) (ct := tA_isEnoughFor) (cn := []) (cj := []) (plainFor_of_name (by decide)) xs_A xd_A_isEnoughFor rfl (Or.inr rfl) (lA_isEnoughFor l) (fun _ _ _ _ _ _ _ _ => False) ?_ ?_ ?_ (fun _ _ _ _ _ _ _ _ _ h => h.elim) ?_
  · rintro as M ⟨p, f, t, h, rfl, ⟨hp1, hp2, hp3⟩⟩; exact Nat.le_of_ble_eq_true rfl
  · rintro as M ⟨p, f, t, h, rfl, ⟨hp1, hp2, hp3⟩⟩; simp [fA_isEnoughFor]
  · rintro as M v ⟨p, f, t, h, rfl, ⟨hp1, hp2, hp3⟩⟩ h; first | rfl | (simp [fA_isEnoughFor] at h)
  · rintro as M ⟨p, f, t, h, rfl, ⟨hp1, hp2, hp3⟩⟩
    refine ⟨400, (And.intro rfl (And.intro rfl (And.intro (Nat.le_of_ble_eq_true rfl) (And.intro (Nat.le_of_ble_eq_true rfl) (And.intro ?g1_c_8 (And.intro (Nat.le_of_ble_eq_true rfl) (And.intro rfl (And.intro (Nat.le_of_ble_eq_true rfl) (And.intro (Nat.le_of_ble_eq_true rfl) (And.intro ?g2_c_14 (And.intro (by decide) (And.intro (fun h17 => (And.intro (Nat.le_of_ble_eq_true rfl) (And.intro rfl (And.intro rfl (And.intro rfl (And.intro ?g3_i_37 (And.intro rfl (And.intro rfl (And.intro rfl (And.intro ?g4_i_46 (And.intro rfl (And.intro (Nat.le_of_ble_eq_true rfl) (And.intro (Nat.le_of_ble_eq_true rfl) (And.intro ?g5_c_55 (And.intro ?g6_w_58 ?g7_r_58))))))))))))))) (fun h17 => (And.intro (by decide) (And.intro (Nat.le_of_ble_eq_true rfl) (And.intro rfl (And.intro rfl (And.intro rfl (And.intro ?g8_i_37 (And.intro rfl (And.intro rfl (And.intro rfl (And.intro ?g9_i_46 (And.intro rfl (And.intro (Nat.le_of_ble_eq_true rfl) (And.intro (Nat.le_of_ble_eq_true rfl) (And.intro ?g10_c_55 (And.intro ?g11_w_58 ?g12_r_58))))))))))))))))))))))))))))⟩
    case g1_c_8 =>
      exact ⟨_, _, _, rfl, hp3⟩
    case g2_c_14 =>
      exact ⟨_, rfl⟩
    case g3_i_37 =>
      exact hp1
    case g4_i_46 =>
      exact hp1
    case g5_c_55 =>
      exact ⟨_, _, _, _, _, rfl, hp1, hp2⟩
    case g6_w_58 =>
      first | rfl | exact xi_nb
    case g7_r_58 =>
      refine ⟨?_, rfl⟩
      first | (show _ = some (Value.int (xi_b (xd_en M _ _ p _ _))); rw [xi_xt h17]; rfl) | (show _ = some (Value.int (xi_b (xd_en M _ _ p _ _))); rw [xi_xf h17]; rfl)
    case g8_i_37 =>
      exact hp1
    case g9_i_46 =>
      exact hp1
    case g10_c_55 =>
      exact ⟨_, _, _, _, _, rfl, hp1, hp2⟩
    case g11_w_58 =>
      first | rfl | exact xi_nb
    case g12_r_58 =>
      refine ⟨?_, rfl⟩
      first | (show _ = some (Value.int (xi_b (xd_en M _ _ p _ _))); rw [xi_xt h17]; rfl) | (show _ = some (Value.int (xi_b (xd_en M _ _ p _ _))); rw [xi_xf h17]; rfl)
