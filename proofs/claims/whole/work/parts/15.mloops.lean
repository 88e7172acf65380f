def pM_isAbsent (as : List Value) (M : xm_M) : Prop := ∃ p d : Int32, as = [.ref 0, .int p, .int d] ∧ xv_n (M 0 16) 81
noncomputable def fM_isAbsent (as : List Value) (M : xm_M) : Option Value × xm_M := match as with
  | [_, .int p, .int d] => (some (.int (xi_b (∃ i, i < (M 0 16).toNatClampNeg ∧ ym_abi M p d i))), M)
  | _ => (none, M)
noncomputable abbrev sM_isAbsent : xm_C := (0, 3, 0, pM_isAbsent, fM_isAbsent)
theorem uM_isAbsent : ∀ as M, (fM_isAbsent as M).2 = M := by
  intro as M
  unfold fM_isAbsent
  split <;> rfl
theorem vM_isAbsent : ∀ as M, pM_isAbsent as M → ∃ as1, as = .ref 0 :: as1 := by
  rintro as M ⟨p, d, rfl, ⟨c0, hc0, hc1⟩⟩
  exact ⟨_, rfl⟩
noncomputable def tM_isAbsent : List (Nat × xm_C) := [(102, sM_in), (123, sM_isHalf)]
theorem lM_isAbsent (l : Launch) : ∀ n C, (n, C) ∈ tM_isAbsent → xm_lkS l "AbsenceRowsModel" xt_T xk_ns (xr_ 1) xk_cl xk_tM n C ∨ xm_lkV l "AbsenceRowsModel" xt_T xk_ns (xr_ 1) xk_cl xk_tM n C := fun n C h => (show ∀ q ∈ tM_isAbsent, xm_lkS l "AbsenceRowsModel" xt_T xk_ns (xr_ 1) xk_cl xk_tM q.1 q.2 ∨ xm_lkV l "AbsenceRowsModel" xt_T xk_ns (xr_ 1) xk_cl xk_tM q.1 q.2 from List.forall_mem_cons.mpr ⟨Or.inl ⟨xy_M_in, xb_M_in, 3, (some .boolean), xr_ 0, rfl, ⟨xe_M_in, xw_44, ⟨by decide, by decide, by decide +kernel⟩, ⟨Nat.le_of_ble_eq_true rfl, Nat.le_of_ble_eq_true rfl⟩, rfl, rfl⟩, xw_927, Or.inl xw_926, Or.inl ⟨rfl, uM_in, cM_in l⟩⟩, List.forall_mem_cons.mpr ⟨Or.inr ⟨xy_M_isHalf, xb_M_isHalf, 3, (some .boolean), xr_ 0, 2, 0, 7, [none, none, some 1, none, some 2, some 3, some 4, some 5, some 6, some 7, some 8, none, none, some 9, some 10, some 11, none, some 12, some 13, some 14, some 15, some 16, some 17, some 18, none, some 19, some 20, some 21, none, some 22, some 23, some 24, some 25, some 26, some 27, some 28, none], xk_T7, 37, rfl, rfl, ⟨xe_M_isHalf, xw_44, ⟨by decide, by decide, by decide +kernel⟩, ⟨Nat.le_of_ble_eq_true rfl, Nat.le_of_ble_eq_true rfl⟩, rfl, rfl⟩, xw_965, xw_967, xw_22, rfl, rfl, vM_isHalf, Or.inl ⟨rfl, uM_isHalf, cM_isHalf l⟩⟩, fun _ h => absurd h List.not_mem_nil⟩⟩) (n, C) h
set_option maxRecDepth 20000 in
set_option maxHeartbeats 2000000 in
theorem cM_isAbsent (l : Launch) : xm_Pu l xy_M_isAbsent (Cond.code xy_M_isAbsent xb_M_isAbsent 4 (some .boolean) :: xt_T) (xr_ 1) xk_cl xk_ns xk_tM pM_isAbsent fM_isAbsent := by
  refine xm_mk_pu (rt := .boolean) (fl := xf_M) (ct := tM_isAbsent) (cn := []) (cj := xj_M) (plainFor_of_name (by decide)) xs_M xd_M_isAbsent rfl (Or.inr rfl) (lM_isAbsent l) (fun as M j pc ls st M2 cl => match as with | [_, .int p, .int d] => (∃ i c : Nat, M 0 16 = nI c ∧ c ≤ 81 ∧ i ≤ c ∧ j = c - i ∧ (∀ u, u < i → ¬ ym_abi M p d u) ∧ pc = 2 ∧ ls = [(0, .ref 0), (1, .int p), (2, .int d), (3, .int (nI i))] ∧ st = [] ∧ M2 = M ∧ cl = 0) | _ => False) ?_ ?_ ?_ ?_ ?_
  · rintro as M ⟨p, d, rfl, ⟨c0, hc0, hc1⟩⟩; exact Nat.le_of_ble_eq_true rfl
  · rintro as M ⟨p, d, rfl, ⟨c0, hc0, hc1⟩⟩; simp [fM_isAbsent]
  · rintro as M v ⟨p, d, rfl, ⟨c0, hc0, hc1⟩⟩ h; first | rfl | (simp [fM_isAbsent] at h)
  · rintro as M ⟨p, d, rfl, ⟨c0, hc0, hc1⟩⟩ j pc ls st M2 cl ⟨i, c, hc, hc20, hic, hj, hno, rfl, rfl, rfl, rfl, rfl⟩
    refine ⟨400, (And.intro rfl (And.intro (by decide) (And.intro (fun h7 => (And.intro ?g1001_w_67 ?g1002_r_67)) (fun h7 => (And.intro rfl (And.intro rfl (And.intro ?g1003_i_15 (And.intro (by decide) (And.intro (fun h17 => (And.intro (Nat.le_of_ble_eq_true rfl) (And.intro (by decide) ?g1004_k_2))) (fun h17 => (And.intro rfl (And.intro rfl (And.intro ?g1005_i_25 (And.intro (by decide) (And.intro (fun h27 => (And.intro (Nat.le_of_ble_eq_true rfl) (And.intro (by decide) ?g1006_k_2))) (fun h27 => (And.intro rfl (And.intro rfl (And.intro ?g1007_i_36 (And.intro rfl (And.intro rfl (And.intro ?g1008_i_42 (And.intro rfl (And.intro (Nat.le_of_ble_eq_true rfl) (And.intro (Nat.le_of_ble_eq_true rfl) (And.intro ?g1009_c_43 (And.intro (by decide) (And.intro (fun h46 => (And.intro (Nat.le_of_ble_eq_true rfl) (And.intro (by decide) ?g1010_k_2))) (fun h46 => (And.intro rfl (And.intro (Nat.le_of_ble_eq_true rfl) (And.intro (Nat.le_of_ble_eq_true rfl) (And.intro ?g1011_c_52 (And.intro (by decide) (And.intro (fun h55 => (And.intro (Nat.le_of_ble_eq_true rfl) (And.intro (by decide) ?g1012_k_2))) (fun h55 => (And.intro ?g1013_w_59 ?g1014_r_59)))))))))))))))))))))))))))))))))))))⟩
    case g1001_w_67 =>
      first | rfl | exact xi_nb
    case g1002_r_67 =>
      obtain rfl := xl_end hc (by omega) hic (by assumption)
      refine ⟨xl_some (xi_f ?_).symm, rfl⟩
      rintro ⟨u, hu, hh⟩
      rw [hc, nI_clamp (by omega)] at hu
      exact hno u hu hh
    case g1003_i_15 =>
      first | exact vp_in_nI (Nat.lt_of_lt_of_le (xl_lt hc hic h7) hc20) (by decide) | assumption
    case g1004_k_2 =>
      have hlt := xl_lt hc hic h7
      have e1 : (nI i).toNatClampNeg = i := nI_clamp (by omega)
      refine ⟨c - (i + 1), by omega, i + 1, c, hc, hc20, by omega, rfl, ?_, rfl, ?_, rfl, rfl, rfl⟩
      · intro u hu
        rcases Nat.lt_or_ge u i with q | q
        · exact hno u q
        · obtain rfl : u = i := by omega
          intro z
          simp only [e1, xi_0, xi_n0, ym_abi] at *
          grind [Int32.not_lt, Int32.not_le]
      · rw [nI_succ]; rfl
    case g1005_i_25 =>
      first | exact vp_in_nI (Nat.lt_of_lt_of_le (xl_lt hc hic h7) hc20) (by decide) | assumption
    case g1006_k_2 =>
      have hlt := xl_lt hc hic h7
      have e1 : (nI i).toNatClampNeg = i := nI_clamp (by omega)
      refine ⟨c - (i + 1), by omega, i + 1, c, hc, hc20, by omega, rfl, ?_, rfl, ?_, rfl, rfl, rfl⟩
      · intro u hu
        rcases Nat.lt_or_ge u i with q | q
        · exact hno u q
        · obtain rfl : u = i := by omega
          intro z
          simp only [e1, xi_0, xi_n0, ym_abi] at *
          grind [Int32.not_lt, Int32.not_le]
      · rw [nI_succ]; rfl
    case g1007_i_36 =>
      first | exact vp_in_nI (Nat.lt_of_lt_of_le (xl_lt hc hic h7) hc20) (by decide) | assumption
    case g1008_i_42 =>
      first | exact vp_in_nI (Nat.lt_of_lt_of_le (xl_lt hc hic h7) hc20) (by decide) | assumption
    case g1009_c_43 =>
      exact ⟨_, _, _, rfl⟩
    case g1010_k_2 =>
      have hlt := xl_lt hc hic h7
      have e1 : (nI i).toNatClampNeg = i := nI_clamp (by omega)
      refine ⟨c - (i + 1), by omega, i + 1, c, hc, hc20, by omega, rfl, ?_, rfl, ?_, rfl, rfl, rfl⟩
      · intro u hu
        rcases Nat.lt_or_ge u i with q | q
        · exact hno u q
        · obtain rfl : u = i := by omega
          intro z
          simp only [e1, xi_0, xi_n0, ym_abi] at *
          grind [Int32.not_lt, Int32.not_le]
      · rw [nI_succ]; rfl
    case g1011_c_52 =>
      exact ⟨_, _, rfl, vp_in_nI (Nat.lt_of_lt_of_le (xl_lt hc hic h7) hc20) (by decide)⟩
    case g1012_k_2 =>
      have hlt := xl_lt hc hic h7
      have e1 : (nI i).toNatClampNeg = i := nI_clamp (by omega)
      refine ⟨c - (i + 1), by omega, i + 1, c, hc, hc20, by omega, rfl, ?_, rfl, ?_, rfl, rfl, rfl⟩
      · intro u hu
        rcases Nat.lt_or_ge u i with q | q
        · exact hno u q
        · obtain rfl : u = i := by omega
          intro z
          simp only [e1, xi_0, xi_n0, ym_abi] at *
          grind [Int32.not_lt, Int32.not_le]
      · rw [nI_succ]; rfl
    case g1013_w_59 =>
      first | rfl | exact xi_nb
    case g1014_r_59 =>
      have hlt := xl_lt hc hic h7
      have e1 : (nI i).toNatClampNeg = i := nI_clamp (by omega)
      have hP : ym_abi M2 p d i := by
        simp only [e1, xi_0, xi_n0, ym_abi] at *
        grind [Int32.not_lt, Int32.not_le]
      refine ⟨xl_some (xi_t ⟨i, ?_, hP⟩).symm, rfl⟩
      rw [hc, nI_clamp (by omega)]; exact hlt
  · rintro as M ⟨p, d, rfl, ⟨c0, hc0, hc1⟩⟩
    refine ⟨400, (And.intro (Nat.le_of_ble_eq_true rfl) ?g1_k_2)⟩
    case g1_k_2 =>
      exact ⟨c0 - 0, 0, c0, hc1, hc0, Nat.zero_le _, rfl, fun u hu => absurd hu (Nat.not_lt_zero u), rfl, rfl, rfl, rfl, rfl⟩
def pM_comes (as : List Value) (M : xm_M) : Prop := ∃ w p d : Int32, as = [.ref 0, .int w, .int p, .int d] ∧ xv_n (M 0 28) 60
noncomputable def fM_comes (as : List Value) (M : xm_M) : Option Value × xm_M := match as with
  | [_, .int w, .int p, .int d] => (some (.int (xi_b (∃ i, i < (M 0 28).toNatClampNeg ∧ ym_coi M w p d i))), M)
  | _ => (none, M)
noncomputable abbrev sM_comes : xm_C := (0, 4, 0, pM_comes, fM_comes)
theorem uM_comes : ∀ as M, (fM_comes as M).2 = M := by
  intro as M
  unfold fM_comes
  split <;> rfl
theorem vM_comes : ∀ as M, pM_comes as M → ∃ as1, as = .ref 0 :: as1 := by
  rintro as M ⟨w, p, d, rfl, ⟨c0, hc0, hc1⟩⟩
  exact ⟨_, rfl⟩
noncomputable def tM_comes : List (Nat × xm_C) := []
theorem lM_comes (l : Launch) : ∀ n C, (n, C) ∈ tM_comes → xm_lkS l "AbsenceRowsModel" xt_T xk_ns (xr_ 0) xk_cl xk_tM n C ∨ xm_lkV l "AbsenceRowsModel" xt_T xk_ns (xr_ 0) xk_cl xk_tM n C := fun n C h => (show ∀ q ∈ tM_comes, xm_lkS l "AbsenceRowsModel" xt_T xk_ns (xr_ 0) xk_cl xk_tM q.1 q.2 ∨ xm_lkV l "AbsenceRowsModel" xt_T xk_ns (xr_ 0) xk_cl xk_tM q.1 q.2 from fun _ h => absurd h List.not_mem_nil) (n, C) h
set_option maxRecDepth 20000 in
set_option maxHeartbeats 2000000 in
theorem cM_comes (l : Launch) : xm_Pu l xy_M_comes (Cond.code xy_M_comes xb_M_comes 5 (some .boolean) :: xt_T) (xr_ 0) xk_cl xk_ns xk_tM pM_comes fM_comes := by
  refine xm_mk_pu (rt := .boolean) (fl := xf_M) (ct := tM_comes) (cn := []) (cj := xj_M) (plainFor_of_name (by decide)) xs_M xd_M_comes rfl (Or.inr rfl) (lM_comes l) (fun as M j pc ls st M2 cl => match as with | [_, .int w, .int p, .int d] => (∃ i c : Nat, M 0 28 = nI c ∧ c ≤ 60 ∧ i ≤ c ∧ j = c - i ∧ (∀ u, u < i → ¬ ym_coi M w p d u) ∧ pc = 3 ∧ ls = [(0, .ref 0), (1, .int w), (2, .int p), (3, .int d), (4, .int (nI i))] ∧ st = [] ∧ M2 = M ∧ cl = 0) | _ => False) ?_ ?_ ?_ ?_ ?_
  · rintro as M ⟨w, p, d, rfl, ⟨c0, hc0, hc1⟩⟩; exact Nat.le_of_ble_eq_true rfl
  · rintro as M ⟨w, p, d, rfl, ⟨c0, hc0, hc1⟩⟩; simp [fM_comes]
  · rintro as M v ⟨w, p, d, rfl, ⟨c0, hc0, hc1⟩⟩ h; first | rfl | (simp [fM_comes] at h)
  · rintro as M ⟨w, p, d, rfl, ⟨c0, hc0, hc1⟩⟩ j pc ls st M2 cl ⟨i, c, hc, hc20, hic, hj, hno, rfl, rfl, rfl, rfl, rfl⟩
    refine ⟨400, (And.intro rfl (And.intro (by decide) (And.intro (fun h9 => (And.intro ?g1001_w_65 ?g1002_r_65)) (fun h9 => (And.intro rfl (And.intro rfl (And.intro ?g1003_i_18 (And.intro (by decide) (And.intro (fun h20 => (And.intro (Nat.le_of_ble_eq_true rfl) (And.intro (by decide) ?g1004_k_3))) (fun h20 => (And.intro rfl (And.intro rfl (And.intro ?g1005_i_29 (And.intro (by decide) (And.intro (fun h31 => (And.intro (Nat.le_of_ble_eq_true rfl) (And.intro (by decide) ?g1006_k_3))) (fun h31 => (And.intro rfl (And.intro rfl (And.intro ?g1007_i_40 (And.intro (by decide) (And.intro (fun h42 => (And.intro (Nat.le_of_ble_eq_true rfl) (And.intro (by decide) ?g1008_k_3))) (fun h42 => (And.intro rfl (And.intro rfl (And.intro ?g1009_i_51 (And.intro (by decide) (And.intro (fun h53 => (And.intro (Nat.le_of_ble_eq_true rfl) (And.intro (by decide) ?g1010_k_3))) (fun h53 => (And.intro ?g1011_w_57 ?g1012_r_57)))))))))))))))))))))))))))))⟩
    case g1001_w_65 =>
      first | rfl | exact xi_nb
    case g1002_r_65 =>
      obtain rfl := xl_end hc (by omega) hic (by assumption)
      refine ⟨xl_some (xi_f ?_).symm, rfl⟩
      rintro ⟨u, hu, hh⟩
      rw [hc, nI_clamp (by omega)] at hu
      exact hno u hu hh
    case g1003_i_18 =>
      first | exact vp_in_nI (Nat.lt_of_lt_of_le (xl_lt hc hic h9) hc20) (by decide) | assumption
    case g1004_k_3 =>
      have hlt := xl_lt hc hic h9
      have e1 : (nI i).toNatClampNeg = i := nI_clamp (by omega)
      refine ⟨c - (i + 1), by omega, i + 1, c, hc, hc20, by omega, rfl, ?_, rfl, ?_, rfl, rfl, rfl⟩
      · intro u hu
        rcases Nat.lt_or_ge u i with q | q
        · exact hno u q
        · obtain rfl : u = i := by omega
          intro z
          simp only [e1, xi_0, xi_n0, ym_coi] at *
          grind [Int32.not_lt, Int32.not_le]
      · rw [nI_succ]; rfl
    case g1005_i_29 =>
      first | exact vp_in_nI (Nat.lt_of_lt_of_le (xl_lt hc hic h9) hc20) (by decide) | assumption
    case g1006_k_3 =>
      have hlt := xl_lt hc hic h9
      have e1 : (nI i).toNatClampNeg = i := nI_clamp (by omega)
      refine ⟨c - (i + 1), by omega, i + 1, c, hc, hc20, by omega, rfl, ?_, rfl, ?_, rfl, rfl, rfl⟩
      · intro u hu
        rcases Nat.lt_or_ge u i with q | q
        · exact hno u q
        · obtain rfl : u = i := by omega
          intro z
          simp only [e1, xi_0, xi_n0, ym_coi] at *
          grind [Int32.not_lt, Int32.not_le]
      · rw [nI_succ]; rfl
    case g1007_i_40 =>
      first | exact vp_in_nI (Nat.lt_of_lt_of_le (xl_lt hc hic h9) hc20) (by decide) | assumption
    case g1008_k_3 =>
      have hlt := xl_lt hc hic h9
      have e1 : (nI i).toNatClampNeg = i := nI_clamp (by omega)
      refine ⟨c - (i + 1), by omega, i + 1, c, hc, hc20, by omega, rfl, ?_, rfl, ?_, rfl, rfl, rfl⟩
      · intro u hu
        rcases Nat.lt_or_ge u i with q | q
        · exact hno u q
        · obtain rfl : u = i := by omega
          intro z
          simp only [e1, xi_0, xi_n0, ym_coi] at *
          grind [Int32.not_lt, Int32.not_le]
      · rw [nI_succ]; rfl
    case g1009_i_51 =>
      first | exact vp_in_nI (Nat.lt_of_lt_of_le (xl_lt hc hic h9) hc20) (by decide) | assumption
    case g1010_k_3 =>
      have hlt := xl_lt hc hic h9
      have e1 : (nI i).toNatClampNeg = i := nI_clamp (by omega)
      refine ⟨c - (i + 1), by omega, i + 1, c, hc, hc20, by omega, rfl, ?_, rfl, ?_, rfl, rfl, rfl⟩
      · intro u hu
        rcases Nat.lt_or_ge u i with q | q
        · exact hno u q
        · obtain rfl : u = i := by omega
          intro z
          simp only [e1, xi_0, xi_n0, ym_coi] at *
          grind [Int32.not_lt, Int32.not_le]
      · rw [nI_succ]; rfl
    case g1011_w_57 =>
      first | rfl | exact xi_nb
    case g1012_r_57 =>
      have hlt := xl_lt hc hic h9
      have e1 : (nI i).toNatClampNeg = i := nI_clamp (by omega)
      have hP : ym_coi M2 w p d i := by
        simp only [e1, xi_0, xi_n0, ym_coi] at *
        grind [Int32.not_lt, Int32.not_le]
      refine ⟨xl_some (xi_t ⟨i, ?_, hP⟩).symm, rfl⟩
      rw [hc, nI_clamp (by omega)]; exact hlt
  · rintro as M ⟨w, p, d, rfl, ⟨c0, hc0, hc1⟩⟩
    refine ⟨400, (And.intro (Nat.le_of_ble_eq_true rfl) ?g1_k_3)⟩
    case g1_k_3 =>
      exact ⟨c0 - 0, 0, c0, hc1, hc0, Nat.zero_le _, rfl, fun u hu => absurd hu (Nat.not_lt_zero u), rfl, rfl, rfl, rfl, rfl⟩
def pM_isPresent (as : List Value) (M : xm_M) : Prop := ∃ w p d : Int32, as = [.ref 0, .int w, .int p, .int d] ∧ vp_in w 6 ∧ vp_in p 20 ∧ xv_n (M 0 16) 81 ∧ xv_n (M 0 28) 60
noncomputable def fM_isPresent (as : List Value) (M : xm_M) : Option Value × xm_M := match as with
  | [_, .int w, .int p, .int d] => (some (.int (xi_b (ym_pr M w p d))), M)
  | _ => (none, M)
noncomputable abbrev sM_isPresent : xm_C := (0, 4, 0, pM_isPresent, fM_isPresent)
theorem uM_isPresent : ∀ as M, (fM_isPresent as M).2 = M := by
  intro as M
  unfold fM_isPresent
  split <;> rfl
theorem vM_isPresent : ∀ as M, pM_isPresent as M → ∃ as1, as = .ref 0 :: as1 := by
  rintro as M ⟨w, p, d, rfl, ⟨hw, hp, hA, hL⟩⟩
  exact ⟨_, rfl⟩
noncomputable def tM_isPresent : List (Nat × xm_C) := [(163, sM_isAbsent), (166, sM_comes)]
theorem lM_isPresent (l : Launch) : ∀ n C, (n, C) ∈ tM_isPresent → xm_lkS l "AbsenceRowsModel" xt_T xk_ns (xr_ 2) xk_cl xk_tM n C ∨ xm_lkV l "AbsenceRowsModel" xt_T xk_ns (xr_ 2) xk_cl xk_tM n C := fun n C h => (show ∀ q ∈ tM_isPresent, xm_lkS l "AbsenceRowsModel" xt_T xk_ns (xr_ 2) xk_cl xk_tM q.1 q.2 ∨ xm_lkV l "AbsenceRowsModel" xt_T xk_ns (xr_ 2) xk_cl xk_tM q.1 q.2 from List.forall_mem_cons.mpr ⟨Or.inr ⟨xy_M_isAbsent, xb_M_isAbsent, 4, (some .boolean), xr_ 1, 2, 0, 7, [none, none, some 1, none, some 2, some 3, some 4, some 5, some 6, some 7, some 8, none, none, some 9, some 10, some 11, none, some 12, some 13, some 14, some 15, some 16, some 17, some 18, none, some 19, some 20, some 21, none, some 22, some 23, some 24, some 25, some 26, some 27, some 28, none], xk_T7, 37, rfl, rfl, ⟨xe_M_isAbsent, xw_44, ⟨by decide, by decide, by decide +kernel⟩, ⟨Nat.le_of_ble_eq_true rfl, Nat.le_of_ble_eq_true rfl⟩, rfl, rfl⟩, xw_1002, xw_1004, xw_25, rfl, rfl, vM_isAbsent, Or.inl ⟨rfl, uM_isAbsent, cM_isAbsent l⟩⟩, List.forall_mem_cons.mpr ⟨Or.inr ⟨xy_M_comes, xb_M_comes, 5, (some .boolean), xr_ 0, 3, 0, 7, [none, none, some 1, none, some 2, some 3, some 4, some 5, some 6, some 7, some 8, none, none, some 9, some 10, some 11, none, some 12, some 13, some 14, some 15, some 16, some 17, some 18, none, some 19, some 20, some 21, none, some 22, some 23, some 24, some 25, some 26, some 27, some 28, none], xk_T7, 37, rfl, rfl, ⟨xe_M_comes, xw_44, ⟨by decide, by decide, by decide +kernel⟩, ⟨Nat.le_of_ble_eq_true rfl, Nat.le_of_ble_eq_true rfl⟩, rfl, rfl⟩, xw_1018, xw_1020, xw_28, rfl, rfl, vM_comes, Or.inl ⟨rfl, uM_comes, cM_comes l⟩⟩, fun _ h => absurd h List.not_mem_nil⟩⟩) (n, C) h
set_option maxRecDepth 20000 in
set_option maxHeartbeats 2000000 in
theorem cM_isPresent (l : Launch) : xm_Pu l xy_M_isPresent (Cond.code xy_M_isPresent xb_M_isPresent 4 (some .boolean) :: xt_T) (xr_ 2) xk_cl xk_ns xk_tM pM_isPresent fM_isPresent := by
  refine xm_mk_pu (rt := .boolean) (fl := xf_M) (ct := tM_isPresent) (cn := []) (cj := xj_M) (plainFor_of_name (by decide)) xs_M xd_M_isPresent rfl (Or.inr rfl) (lM_isPresent l) (fun _ _ _ _ _ _ _ _ => False) ?_ ?_ ?_ (fun _ _ _ _ _ _ _ _ _ h => h.elim) ?_
  · rintro as M ⟨w, p, d, rfl, ⟨hw, hp, hA, hL⟩⟩; exact Nat.le_of_ble_eq_true rfl
  · rintro as M ⟨w, p, d, rfl, ⟨hw, hp, hA, hL⟩⟩; simp [fM_isPresent]
  · rintro as M v ⟨w, p, d, rfl, ⟨hw, hp, hA, hL⟩⟩ h; first | rfl | (simp [fM_isPresent] at h)
  · rintro as M ⟨w, p, d, rfl, ⟨hw, hp, hA, hL⟩⟩
    refine ⟨400, (And.intro rfl (And.intro rfl (And.intro ?g1_i_10 (And.intro (by decide) (And.intro (fun h11 => (And.intro rfl (And.intro (Nat.le_of_ble_eq_true rfl) (And.intro (Nat.le_of_ble_eq_true rfl) (And.intro ?g2_c_37 (And.intro (by decide) (And.intro (fun h40 => (And.intro ?g3_w_48 ?g4_r_48)) (fun h40 => (And.intro (by decide) (And.intro ?g5_w_48 ?g6_r_48)))))))))) (fun h11 => (And.intro rfl (And.intro rfl (And.intro ?g7_i_19 (And.intro (by decide) (And.intro (fun h21 => (And.intro rfl (And.intro (Nat.le_of_ble_eq_true rfl) (And.intro (Nat.le_of_ble_eq_true rfl) (And.intro ?g8_c_37 (And.intro (by decide) (And.intro (fun h40 => (And.intro ?g9_w_48 ?g10_r_48)) (fun h40 => (And.intro (by decide) (And.intro ?g11_w_48 ?g12_r_48)))))))))) (fun h21 => (And.intro rfl (And.intro (Nat.le_of_ble_eq_true rfl) (And.intro (Nat.le_of_ble_eq_true rfl) (And.intro ?g13_c_27 (And.intro (by decide) (And.intro (fun h30 => (And.intro (by decide) (And.intro ?g14_w_48 ?g15_r_48))) (fun h30 => (And.intro rfl (And.intro (Nat.le_of_ble_eq_true rfl) (And.intro (Nat.le_of_ble_eq_true rfl) (And.intro ?g16_c_37 (And.intro (by decide) (And.intro (fun h40 => (And.intro ?g17_w_48 ?g18_r_48)) (fun h40 => (And.intro (by decide) (And.intro ?g19_w_48 ?g20_r_48))))))))))))))))))))))))))))⟩
    case g1_i_10 =>
      exact yl_20 hw hp (by decide)
    case g2_c_37 =>
      exact ⟨_, _, _, rfl, hL⟩
    case g3_w_48 =>
      first | rfl | exact xi_nb
    case g4_r_48 =>
      refine ⟨congrArg (fun z => some (Value.int z)) ?_, rfl⟩
      by_cases hz : ym_pr M w p d
      · rw [xi_t hz]; unfold ym_pr ym_abs ym_com at hz; simp only [xi_0, xi_n0] at *; first | rfl | (exfalso; grind [Int32.not_lt, Int32.not_le])
      · rw [xi_f hz]; unfold ym_pr ym_abs ym_com at hz; simp only [xi_0, xi_n0] at *; first | rfl | (exfalso; grind [Int32.not_lt, Int32.not_le])
    case g5_w_48 =>
      first | rfl | exact xi_nb
    case g6_r_48 =>
      refine ⟨congrArg (fun z => some (Value.int z)) ?_, rfl⟩
      by_cases hz : ym_pr M w p d
      · rw [xi_t hz]; unfold ym_pr ym_abs ym_com at hz; simp only [xi_0, xi_n0] at *; first | rfl | (exfalso; grind [Int32.not_lt, Int32.not_le])
      · rw [xi_f hz]; unfold ym_pr ym_abs ym_com at hz; simp only [xi_0, xi_n0] at *; first | rfl | (exfalso; grind [Int32.not_lt, Int32.not_le])
    case g7_i_19 =>
      exact hp
    case g8_c_37 =>
      exact ⟨_, _, _, rfl, hL⟩
    case g9_w_48 =>
      first | rfl | exact xi_nb
    case g10_r_48 =>
      refine ⟨congrArg (fun z => some (Value.int z)) ?_, rfl⟩
      by_cases hz : ym_pr M w p d
      · rw [xi_t hz]; unfold ym_pr ym_abs ym_com at hz; simp only [xi_0, xi_n0] at *; first | rfl | (exfalso; grind [Int32.not_lt, Int32.not_le])
      · rw [xi_f hz]; unfold ym_pr ym_abs ym_com at hz; simp only [xi_0, xi_n0] at *; first | rfl | (exfalso; grind [Int32.not_lt, Int32.not_le])
    case g11_w_48 =>
      first | rfl | exact xi_nb
    case g12_r_48 =>
      refine ⟨congrArg (fun z => some (Value.int z)) ?_, rfl⟩
      by_cases hz : ym_pr M w p d
      · rw [xi_t hz]; unfold ym_pr ym_abs ym_com at hz; simp only [xi_0, xi_n0] at *; first | rfl | (exfalso; grind [Int32.not_lt, Int32.not_le])
      · rw [xi_f hz]; unfold ym_pr ym_abs ym_com at hz; simp only [xi_0, xi_n0] at *; first | rfl | (exfalso; grind [Int32.not_lt, Int32.not_le])
    case g13_c_27 =>
      exact ⟨_, _, rfl, hA⟩
    case g14_w_48 =>
      first | rfl | exact xi_nb
    case g15_r_48 =>
      refine ⟨congrArg (fun z => some (Value.int z)) ?_, rfl⟩
      by_cases hz : ym_pr M w p d
      · rw [xi_t hz]; unfold ym_pr ym_abs ym_com at hz; simp only [xi_0, xi_n0] at *; first | rfl | (exfalso; grind [Int32.not_lt, Int32.not_le])
      · rw [xi_f hz]; unfold ym_pr ym_abs ym_com at hz; simp only [xi_0, xi_n0] at *; first | rfl | (exfalso; grind [Int32.not_lt, Int32.not_le])
    case g16_c_37 =>
      exact ⟨_, _, _, rfl, hL⟩
    case g17_w_48 =>
      first | rfl | exact xi_nb
    case g18_r_48 =>
      refine ⟨congrArg (fun z => some (Value.int z)) ?_, rfl⟩
      by_cases hz : ym_pr M w p d
      · rw [xi_t hz]; unfold ym_pr ym_abs ym_com at hz; simp only [xi_0, xi_n0] at *; first | rfl | (exfalso; grind [Int32.not_lt, Int32.not_le])
      · rw [xi_f hz]; unfold ym_pr ym_abs ym_com at hz; simp only [xi_0, xi_n0] at *; first | rfl | (exfalso; grind [Int32.not_lt, Int32.not_le])
    case g19_w_48 =>
      first | rfl | exact xi_nb
    case g20_r_48 =>
      refine ⟨congrArg (fun z => some (Value.int z)) ?_, rfl⟩
      by_cases hz : ym_pr M w p d
      · rw [xi_t hz]; unfold ym_pr ym_abs ym_com at hz; simp only [xi_0, xi_n0] at *; first | rfl | (exfalso; grind [Int32.not_lt, Int32.not_le])
      · rw [xi_f hz]; unfold ym_pr ym_abs ym_com at hz; simp only [xi_0, xi_n0] at *; first | rfl | (exfalso; grind [Int32.not_lt, Int32.not_le])
def pM_count (as : List Value) (M : xm_M) : Prop := ∃ w d : Int32, as = [.ref 0, .int w, .int d] ∧ vp_in w 6 ∧ xv_n (M 0 3) 20 ∧ xv_n (M 0 16) 81 ∧ xv_n (M 0 28) 60
noncomputable def fM_count (as : List Value) (M : xm_M) : Option Value × xm_M := match as with
  | [_, .int w, .int d] => (some (.int (ym_cnt M w d)), M)
  | _ => (none, M)
noncomputable abbrev sM_count : xm_C := (0, 3, 0, pM_count, fM_count)
theorem uM_count : ∀ as M, (fM_count as M).2 = M := by
  intro as M
  unfold fM_count
  split <;> rfl
theorem vM_count : ∀ as M, pM_count as M → ∃ as1, as = .ref 0 :: as1 := by
  rintro as M ⟨w, d, rfl, ⟨hw, ⟨c0, hc0, hc1⟩, hA, hL⟩⟩
  exact ⟨_, rfl⟩
noncomputable def tM_count : List (Nat × xm_C) := [(169, sM_isPresent)]
theorem lM_count (l : Launch) : ∀ n C, (n, C) ∈ tM_count → xm_lkS l "AbsenceRowsModel" xt_T xk_ns (xr_ 3) xk_cl xk_tM n C ∨ xm_lkV l "AbsenceRowsModel" xt_T xk_ns (xr_ 3) xk_cl xk_tM n C := fun n C h => (show ∀ q ∈ tM_count, xm_lkS l "AbsenceRowsModel" xt_T xk_ns (xr_ 3) xk_cl xk_tM q.1 q.2 ∨ xm_lkV l "AbsenceRowsModel" xt_T xk_ns (xr_ 3) xk_cl xk_tM q.1 q.2 from List.forall_mem_cons.mpr ⟨Or.inr ⟨xy_M_isPresent, xb_M_isPresent, 4, (some .boolean), xr_ 2, 3, 0, 7, [none, none, some 1, none, some 2, some 3, some 4, some 5, some 6, some 7, some 8, none, none, some 9, some 10, some 11, none, some 12, some 13, some 14, some 15, some 16, some 17, some 18, none, some 19, some 20, some 21, none, some 22, some 23, some 24, some 25, some 26, some 27, some 28, none], xk_T7, 37, rfl, rfl, ⟨xe_M_isPresent, xw_44, ⟨by decide, by decide, by decide +kernel⟩, ⟨Nat.le_of_ble_eq_true rfl, Nat.le_of_ble_eq_true rfl⟩, rfl, rfl⟩, xw_1014, xw_1016, xw_27, rfl, rfl, vM_isPresent, Or.inl ⟨rfl, uM_isPresent, cM_isPresent l⟩⟩, fun _ h => absurd h List.not_mem_nil⟩) (n, C) h
set_option maxRecDepth 20000 in
set_option maxHeartbeats 2000000 in
theorem cM_count (l : Launch) : xm_Pu l xy_M_count (Cond.code xy_M_count xb_M_count 5 (some .int) :: xt_T) (xr_ 3) xk_cl xk_ns xk_tM pM_count fM_count := by
  refine xm_mk_pu (rt := .int) (fl := xf_M) (ct := tM_count) (cn := []) (cj := xj_M) (plainFor_of_name (by decide)) xs_M xd_M_count rfl (Or.inr rfl) (lM_count l) (fun as M j pc ls st M2 cl => match as with | [_, .int w, .int d] => (∃ i c : Nat, M 0 3 = nI c ∧ c ≤ 20 ∧ i ≤ c ∧ j = c - i ∧ pc = 5 ∧ ls = [(0, .ref 0), (1, .int w), (2, .int d), (3, .int (xq_s (fun i => xi_b (ym_pr M w (nI i) d)) i)), (4, .int (nI i))] ∧ st = [] ∧ M2 = M ∧ cl = 0) | _ => False) ?_ ?_ ?_ ?_ ?_
  · rintro as M ⟨w, d, rfl, ⟨hw, ⟨c0, hc0, hc1⟩, hA, hL⟩⟩; exact Nat.le_of_ble_eq_true rfl
  · rintro as M ⟨w, d, rfl, ⟨hw, ⟨c0, hc0, hc1⟩, hA, hL⟩⟩; simp [fM_count]
  · rintro as M v ⟨w, d, rfl, ⟨hw, ⟨c0, hc0, hc1⟩, hA, hL⟩⟩ h; first | rfl | (simp [fM_count] at h)
  · rintro as M ⟨w, d, rfl, ⟨hw, ⟨c0, hc0, hc1⟩, hA, hL⟩⟩ j pc ls st M2 cl ⟨i, c, hc, hc20, hic, hj, rfl, rfl, rfl, rfl, rfl⟩
    refine ⟨400, (And.intro rfl (And.intro (by decide) (And.intro (fun h11 => (And.intro ?g1001_w_35 ?g1002_r_35)) (fun h11 => (And.intro rfl (And.intro (Nat.le_of_ble_eq_true rfl) (And.intro (Nat.le_of_ble_eq_true rfl) (And.intro ?g1003_c_19 (And.intro (by decide) (And.intro (fun h22 => (And.intro (Nat.le_of_ble_eq_true rfl) (And.intro (by decide) ?g1004_k_5))) (fun h22 => (And.intro (Nat.le_of_ble_eq_true rfl) (And.intro (Nat.le_of_ble_eq_true rfl) (And.intro (by decide) ?g1005_k_5))))))))))))))⟩
    case g1001_w_35 =>
      first | rfl | exact xi_nb
    case g1002_r_35 =>
      obtain rfl := xl_end hc (by omega) hic (by assumption)
      refine ⟨xl_some ?_, rfl⟩
      unfold ym_cnt
      rw [hc, nI_clamp (by omega)]
    case g1003_c_19 =>
      exact ⟨_, _, _, rfl, hw, vp_in_nI (Nat.lt_of_lt_of_le (xl_lt hc hic h11) hc20) (by decide), hA, hL⟩
    case g1004_k_5 =>
      have hlt := xl_lt hc hic h11
      have e1 : (nI i).toNatClampNeg = i := nI_clamp (by omega)
      refine ⟨c - (i + 1), by omega, i + 1, c, hc, hc20, by omega, rfl, rfl, ?_, rfl, rfl, rfl⟩
      rw [nI_succ, xq_s1]
      first | (rw [xi_t (xi_n0.mp h22)]; rfl) | (rw [xi_f (xi_0.mp h22), xi_add0]; rfl)
    case g1005_k_5 =>
      have hlt := xl_lt hc hic h11
      have e1 : (nI i).toNatClampNeg = i := nI_clamp (by omega)
      refine ⟨c - (i + 1), by omega, i + 1, c, hc, hc20, by omega, rfl, rfl, ?_, rfl, rfl, rfl⟩
      rw [nI_succ, xq_s1]
      first | (rw [xi_t (xi_n0.mp h22)]; rfl) | (rw [xi_f (xi_0.mp h22), xi_add0]; rfl)
  · rintro as M ⟨w, d, rfl, ⟨hw, ⟨c0, hc0, hc1⟩, hA, hL⟩⟩
    refine ⟨400, (And.intro (Nat.le_of_ble_eq_true rfl) (And.intro (Nat.le_of_ble_eq_true rfl) ?g1_k_5))⟩
    case g1_k_5 =>
      exact ⟨c0 - 0, 0, c0, hc1, hc0, Nat.zero_le _, rfl, rfl, rfl, rfl, rfl, rfl⟩
def pM_shortage (as : List Value) (M : xm_M) : Prop := ∃ a : Int32, as = [.ref 0, .int a] ∧ vp_in a 81 ∧ xv_span (M 14 a.toNatClampNeg) (M 15 a.toNatClampNeg) ∧ vp_in (M 12 a.toNatClampNeg) 20 ∧ xv_n (M 0 12) 6 ∧ xv_n (M 0 3) 20 ∧ xv_n (M 0 16) 81 ∧ xv_n (M 0 28) 60
noncomputable def fM_shortage (as : List Value) (M : xm_M) : Option Value × xm_M := match as with
  | [_, .int a] => (some (.int (ym_sh M (M 14 a.toNatClampNeg) (M 15 a.toNatClampNeg) (M 16 a.toNatClampNeg) (M 12 a.toNatClampNeg))), M)
  | _ => (none, M)
noncomputable abbrev sM_shortage : xm_C := (0, 2, 0, pM_shortage, fM_shortage)
theorem uM_shortage : ∀ as M, (fM_shortage as M).2 = M := by
  intro as M
  unfold fM_shortage
  split <;> rfl
theorem vM_shortage : ∀ as M, pM_shortage as M → ∃ as1, as = .ref 0 :: as1 := by
  rintro as M ⟨a, rfl, ⟨hp1, ⟨a0, b0, ha0, hb0, hab0, hb70⟩, hwho, hW, hP, hA, hL⟩⟩
  exact ⟨_, rfl⟩
noncomputable def tM_shortage : List (Nat × xm_C) := [(120, sM_isWork), (123, sM_isHalf), (169, sM_isPresent), (166, sM_comes), (172, sM_count)]
theorem lM_shortage (l : Launch) : ∀ n C, (n, C) ∈ tM_shortage → xm_lkS l "AbsenceRowsModel" xt_T xk_ns (xr_ 4) xk_cl xk_tM n C ∨ xm_lkV l "AbsenceRowsModel" xt_T xk_ns (xr_ 4) xk_cl xk_tM n C := fun n C h => (show ∀ q ∈ tM_shortage, xm_lkS l "AbsenceRowsModel" xt_T xk_ns (xr_ 4) xk_cl xk_tM q.1 q.2 ∨ xm_lkV l "AbsenceRowsModel" xt_T xk_ns (xr_ 4) xk_cl xk_tM q.1 q.2 from List.forall_mem_cons.mpr ⟨Or.inr ⟨xy_M_isWork, xb_M_isWork, 2, (some .boolean), xr_ 0, 1, 0, 7, [none, none, some 1, none, some 2, some 3, some 4, some 5, some 6, some 7, some 8, none, none, some 9, some 10, some 11, none, some 12, some 13, some 14, some 15, some 16, some 17, some 18, none, some 19, some 20, some 21, none, some 22, some 23, some 24, some 25, some 26, some 27, some 28, none], xk_T7, 37, rfl, rfl, ⟨xe_M_isWork, xw_44, ⟨by decide, by decide, by decide +kernel⟩, ⟨Nat.le_of_ble_eq_true rfl, Nat.le_of_ble_eq_true rfl⟩, rfl, rfl⟩, xw_961, xw_963, xw_21, rfl, rfl, vM_isWork, Or.inl ⟨rfl, uM_isWork, cM_isWork l⟩⟩, List.forall_mem_cons.mpr ⟨Or.inr ⟨xy_M_isHalf, xb_M_isHalf, 3, (some .boolean), xr_ 0, 2, 0, 7, [none, none, some 1, none, some 2, some 3, some 4, some 5, some 6, some 7, some 8, none, none, some 9, some 10, some 11, none, some 12, some 13, some 14, some 15, some 16, some 17, some 18, none, some 19, some 20, some 21, none, some 22, some 23, some 24, some 25, some 26, some 27, some 28, none], xk_T7, 37, rfl, rfl, ⟨xe_M_isHalf, xw_44, ⟨by decide, by decide, by decide +kernel⟩, ⟨Nat.le_of_ble_eq_true rfl, Nat.le_of_ble_eq_true rfl⟩, rfl, rfl⟩, xw_965, xw_967, xw_22, rfl, rfl, vM_isHalf, Or.inl ⟨rfl, uM_isHalf, cM_isHalf l⟩⟩, List.forall_mem_cons.mpr ⟨Or.inr ⟨xy_M_isPresent, xb_M_isPresent, 4, (some .boolean), xr_ 2, 3, 0, 7, [none, none, some 1, none, some 2, some 3, some 4, some 5, some 6, some 7, some 8, none, none, some 9, some 10, some 11, none, some 12, some 13, some 14, some 15, some 16, some 17, some 18, none, some 19, some 20, some 21, none, some 22, some 23, some 24, some 25, some 26, some 27, some 28, none], xk_T7, 37, rfl, rfl, ⟨xe_M_isPresent, xw_44, ⟨by decide, by decide, by decide +kernel⟩, ⟨Nat.le_of_ble_eq_true rfl, Nat.le_of_ble_eq_true rfl⟩, rfl, rfl⟩, xw_1014, xw_1016, xw_27, rfl, rfl, vM_isPresent, Or.inl ⟨rfl, uM_isPresent, cM_isPresent l⟩⟩, List.forall_mem_cons.mpr ⟨Or.inr ⟨xy_M_comes, xb_M_comes, 5, (some .boolean), xr_ 0, 3, 0, 7, [none, none, some 1, none, some 2, some 3, some 4, some 5, some 6, some 7, some 8, none, none, some 9, some 10, some 11, none, some 12, some 13, some 14, some 15, some 16, some 17, some 18, none, some 19, some 20, some 21, none, some 22, some 23, some 24, some 25, some 26, some 27, some 28, none], xk_T7, 37, rfl, rfl, ⟨xe_M_comes, xw_44, ⟨by decide, by decide, by decide +kernel⟩, ⟨Nat.le_of_ble_eq_true rfl, Nat.le_of_ble_eq_true rfl⟩, rfl, rfl⟩, xw_1018, xw_1020, xw_28, rfl, rfl, vM_comes, Or.inl ⟨rfl, uM_comes, cM_comes l⟩⟩, List.forall_mem_cons.mpr ⟨Or.inr ⟨xy_M_count, xb_M_count, 5, (some .int), xr_ 3, 2, 0, 7, [none, none, some 1, none, some 2, some 3, some 4, some 5, some 6, some 7, some 8, none, none, some 9, some 10, some 11, none, some 12, some 13, some 14, some 15, some 16, some 17, some 18, none, some 19, some 20, some 21, none, some 22, some 23, some 24, some 25, some 26, some 27, some 28, none], xk_T7, 37, rfl, rfl, ⟨xe_M_count, xw_44, ⟨by decide, by decide, by decide +kernel⟩, ⟨Nat.le_of_ble_eq_true rfl, Nat.le_of_ble_eq_true rfl⟩, rfl, rfl⟩, xw_1010, xw_1012, xw_26, rfl, rfl, vM_count, Or.inl ⟨rfl, uM_count, cM_count l⟩⟩, fun _ h => absurd h List.not_mem_nil⟩⟩⟩⟩⟩) (n, C) h
set_option maxRecDepth 20000 in
set_option maxHeartbeats 2000000 in
theorem cM_shortage (l : Launch) : xm_Pu l xy_M_shortage (Cond.code xy_M_shortage xb_M_shortage 4 (some .int) :: xt_T) (xr_ 4) xk_cl xk_ns xk_tM pM_shortage fM_shortage := by
  refine xm_mk_pu (rt := .int) (fl := xf_M) (ct := tM_shortage) (cn := []) (cj := xj_M) (plainFor_of_name (by decide)) xs_M xd_M_shortage rfl (Or.inr rfl) (lM_shortage l) (fun as M j pc ls st M2 cl => match as with | [_, .int a] => (∃ i x b : Nat, M 14 a.toNatClampNeg = nI x ∧ M 15 a.toNatClampNeg = nI b ∧ x ≤ b ∧ b < 730 ∧ i ≤ b + 1 - x ∧ j = 10 * (b + 1 - x - i) + 9 ∧ (∀ k, k < i → ¬ ym_dy M (M 14 a.toNatClampNeg) (M 15 a.toNatClampNeg) (M 16 a.toNatClampNeg) (M 12 a.toNatClampNeg) x k) ∧ pc = 7 ∧ ls = [(0, .ref 0), (1, .int a), (2, .int (nI (x + i)))] ∧ st = [] ∧ M2 = M ∧ cl = 0) ∨ (∃ i s x b c : Nat, M 14 a.toNatClampNeg = nI x ∧ M 15 a.toNatClampNeg = nI b ∧ x ≤ b ∧ b < 730 ∧ x + i ≤ b ∧ (∀ k, k < i → ¬ ym_dy M (M 14 a.toNatClampNeg) (M 15 a.toNatClampNeg) (M 16 a.toNatClampNeg) (M 12 a.toNatClampNeg) x k) ∧ M 0 12 = nI c ∧ c ≤ 6 ∧ s ≤ c ∧ j = 10 * (b + 1 - x - i) + (c - s) ∧ ym_wk (M 1) (nI (x + i)) ∧ ¬ ym_hf (nI (x + i)) (M 14 a.toNatClampNeg) (M 15 a.toNatClampNeg) (M 16 a.toNatClampNeg) ∧ (∀ k, k < s → ¬ ym_csi M (M 12 a.toNatClampNeg) (nI (x + i)) k) ∧ pc = 39 ∧ ls = [(0, .ref 0), (1, .int a), (2, .int (nI (x + i))), (3, .int (nI s))] ∧ st = [] ∧ M2 = M ∧ cl = 0) | _ => False) ?_ ?_ ?_ ?_ ?_
  · rintro as M ⟨a, rfl, ⟨hp1, ⟨a0, b0, ha0, hb0, hab0, hb70⟩, hwho, hW, hP, hA, hL⟩⟩; exact Nat.le_of_ble_eq_true rfl
  · rintro as M ⟨a, rfl, ⟨hp1, ⟨a0, b0, ha0, hb0, hab0, hb70⟩, hwho, hW, hP, hA, hL⟩⟩; simp [fM_shortage]
  · rintro as M v ⟨a, rfl, ⟨hp1, ⟨a0, b0, ha0, hb0, hab0, hb70⟩, hwho, hW, hP, hA, hL⟩⟩ h; first | rfl | (simp [fM_shortage] at h)
  · rintro as M ⟨a, rfl, ⟨hp1, ⟨a0, b0, ha0, hb0, hab0, hb70⟩, hwho, hW, hP, hA, hL⟩⟩ j pc ls st M2 cl (⟨i, x, b, ha, hb, hab, hb7, hi, hj, hno, rfl, rfl, rfl, rfl, rfl⟩ | ⟨i, s, x, b, c, ha, hb, hab, hb7, hle, hno, hc, hc20, hic, hj, hwk, hhf, hnc, rfl, rfl, rfl, rfl, rfl⟩)
    · skip
      refine ⟨400, (And.intro rfl (And.intro rfl (And.intro ?g1001_i_13 (And.intro (by decide) (And.intro (fun h14 => (And.intro ?g1002_w_114 ?g1003_r_114)) (fun h14 => (And.intro rfl (And.intro (Nat.le_of_ble_eq_true rfl) (And.intro (Nat.le_of_ble_eq_true rfl) (And.intro ?g1004_c_19 (And.intro (by decide) (And.intro (fun h22 => (And.intro (Nat.le_of_ble_eq_true rfl) (And.intro (by decide) ?g1005_k_7))) (fun h22 => (And.intro rfl (And.intro (Nat.le_of_ble_eq_true rfl) (And.intro (Nat.le_of_ble_eq_true rfl) (And.intro ?g1006_c_28 (And.intro (by decide) (And.intro (fun h31 => (And.intro (Nat.le_of_ble_eq_true rfl) ?g1007_k_39)) (fun h31 => (And.intro (by decide) (And.intro (Nat.le_of_ble_eq_true rfl) (And.intro (by decide) ?g1008_k_7)))))))))))))))))))))))⟩
      case g1001_i_13 =>
        exact hp1
      case g1002_w_114 =>
        first | rfl | exact xi_nb
      case g1003_r_114 =>
        obtain rfl : i = b + 1 - x := xl_de ha hb hb7 hab hi (by assumption)
        have e9 := xq_f_no hno
        refine ⟨xl_some ?_, rfl⟩
        unfold ym_sh
        rw [xi_xt]
        · rfl
        · unfold ym_fd
          rw [ha, hb] at e9 ⊢
          rw [nI_clamp (by omega), nI_clamp (by omega)]; exact e9
      case g1004_c_19 =>
        exact ⟨_, rfl, xl_d ha hb hb7 h14⟩
      case g1005_k_7 =>
        have hlt := xl_dl ha hb hb7 h14
        refine ⟨10 * (b + 1 - x - (i + 1)) + 9, by omega, Or.inl ⟨i + 1, x, b, ha, hb, hab, hb7, by omega, rfl, ?_, rfl, ?_, rfl, rfl, rfl⟩⟩
        · intro k hk
          rcases Nat.lt_or_ge k i with q | q
          · exact hno k q
          · obtain rfl : k = i := by omega
            rintro ⟨z1, z2, z3⟩
            first | exact xi_0.mp h22 z1 | exact z2 (xi_n0.mp h31)
        · rw [← Nat.add_assoc, nI_succ]; rfl
      case g1006_c_28 =>
        exact ⟨_, _, rfl, hp1⟩
      case g1007_k_39 =>
        have hlt := xl_dl ha hb hb7 h14
        obtain ⟨c0, h1, h2⟩ := hW
        exact ⟨10 * (b + 1 - x - i) + (c0 - 0), by omega, Or.inr ⟨i, 0, x, b, c0, ha, hb, hab, hb7, hlt, hno, h2, h1, Nat.zero_le _, rfl, xi_n0.mp h22, xi_0.mp h31, fun k hk => absurd hk (Nat.not_lt_zero k), rfl, rfl, rfl, rfl, rfl⟩⟩
      case g1008_k_7 =>
        have hlt := xl_dl ha hb hb7 h14
        refine ⟨10 * (b + 1 - x - (i + 1)) + 9, by omega, Or.inl ⟨i + 1, x, b, ha, hb, hab, hb7, by omega, rfl, ?_, rfl, ?_, rfl, rfl, rfl⟩⟩
        · intro k hk
          rcases Nat.lt_or_ge k i with q | q
          · exact hno k q
          · obtain rfl : k = i := by omega
            rintro ⟨z1, z2, z3⟩
            first | exact xi_0.mp h22 z1 | exact z2 (xi_n0.mp h31)
        · rw [← Nat.add_assoc, nI_succ]; rfl
    · skip
      refine ⟨400, (And.intro rfl (And.intro (by decide) (And.intro (fun h44 => (And.intro (Nat.le_of_ble_eq_true rfl) (And.intro (by decide) ?g2001_k_7))) (fun h44 => (And.intro rfl (And.intro rfl (And.intro ?g2002_i_54 (And.intro rfl (And.intro (Nat.le_of_ble_eq_true rfl) (And.intro (Nat.le_of_ble_eq_true rfl) (And.intro ?g2003_c_56 (And.intro (by decide) (And.intro (fun h59 => (And.intro (Nat.le_of_ble_eq_true rfl) (And.intro (by decide) ?g2004_k_39))) (fun h59 => (And.intro rfl (And.intro rfl (And.intro ?g2005_i_69 (And.intro rfl (And.intro (Nat.le_of_ble_eq_true rfl) (And.intro (Nat.le_of_ble_eq_true rfl) (And.intro ?g2006_c_71 (And.intro (by decide) (And.intro (fun h74 => (And.intro (Nat.le_of_ble_eq_true rfl) (And.intro (by decide) ?g2007_k_39))) (fun h74 => (And.intro rfl (And.intro (Nat.le_of_ble_eq_true rfl) (And.intro (Nat.le_of_ble_eq_true rfl) (And.intro ?g2008_c_80 (And.intro rfl (And.intro rfl (And.intro ?g2009_i_90 (And.intro (by decide) (And.intro (fun h91 => (And.intro (Nat.le_of_ble_eq_true rfl) (And.intro (by decide) ?g2010_k_39))) (fun h91 => (And.intro ?g2011_w_100 ?g2012_r_100)))))))))))))))))))))))))))))))))))⟩
      case g2001_k_7 =>
        have e2 := xl_end hc (by omega) hic (by assumption)
        subst e2
        refine ⟨10 * (b + 1 - x - (i + 1)) + 9, by omega, Or.inl ⟨i + 1, x, b, ha, hb, hab, hb7, by omega, rfl, ?_, rfl, ?_, rfl, rfl, rfl⟩⟩
        · intro k hk
          rcases Nat.lt_or_ge k i with q | q
          · exact hno k q
          · obtain rfl : k = i := by omega
            rintro ⟨z1, z2, z3⟩
            apply z3
            unfold ym_cs
            rw [hc, nI_clamp (by omega)]
            exact xq_f_no hnc
        · rw [← Nat.add_assoc, nI_succ]; rfl
      case g2002_i_54 =>
        first | exact hp1 | exact vp_in_nI (Nat.lt_of_lt_of_le (xl_lt hc hic h44) hc20) (by decide)
      case g2003_c_56 =>
        exact ⟨_, _, _, rfl, vp_in_nI (Nat.lt_of_lt_of_le (xl_lt hc hic h44) hc20) (by decide), hwho, hA, hL⟩
      case g2004_k_39 =>
        have hlt := xl_lt hc hic h44
        have e1 : (nI s).toNatClampNeg = s := nI_clamp (by omega)
        refine ⟨10 * (b + 1 - x - i) + (c - (s + 1)), by omega, Or.inr ⟨i, s + 1, x, b, c, ha, hb, hab, hb7, hle, hno, hc, hc20, by omega, rfl, hwk, hhf, ?_, rfl, ?_, rfl, rfl, rfl⟩⟩
        · intro k hk
          rcases Nat.lt_or_ge k s with q | q
          · exact hnc k q
          · obtain rfl : k = s := by omega
            rintro ⟨z1, z2, z3⟩
            first
            | exact xi_0.mp h59 z1
            | exact z2 (xi_n0.mp h74)
            | (rw [e1] at h91; exact absurd z3 (Int32.not_lt.mpr h91))
        · rw [nI_succ]; rfl
      case g2005_i_69 =>
        first | exact hp1 | exact vp_in_nI (Nat.lt_of_lt_of_le (xl_lt hc hic h44) hc20) (by decide)
      case g2006_c_71 =>
        exact ⟨_, _, _, rfl, hL⟩
      case g2007_k_39 =>
        have hlt := xl_lt hc hic h44
        have e1 : (nI s).toNatClampNeg = s := nI_clamp (by omega)
        refine ⟨10 * (b + 1 - x - i) + (c - (s + 1)), by omega, Or.inr ⟨i, s + 1, x, b, c, ha, hb, hab, hb7, hle, hno, hc, hc20, by omega, rfl, hwk, hhf, ?_, rfl, ?_, rfl, rfl, rfl⟩⟩
        · intro k hk
          rcases Nat.lt_or_ge k s with q | q
          · exact hnc k q
          · obtain rfl : k = s := by omega
            rintro ⟨z1, z2, z3⟩
            first
            | exact xi_0.mp h59 z1
            | exact z2 (xi_n0.mp h74)
            | (rw [e1] at h91; exact absurd z3 (Int32.not_lt.mpr h91))
        · rw [nI_succ]; rfl
      case g2008_c_80 =>
        exact ⟨_, _, rfl, vp_in_nI (Nat.lt_of_lt_of_le (xl_lt hc hic h44) hc20) (by decide), hP, hA, hL⟩
      case g2009_i_90 =>
        first | exact hp1 | exact vp_in_nI (Nat.lt_of_lt_of_le (xl_lt hc hic h44) hc20) (by decide)
      case g2010_k_39 =>
        have hlt := xl_lt hc hic h44
        have e1 : (nI s).toNatClampNeg = s := nI_clamp (by omega)
        refine ⟨10 * (b + 1 - x - i) + (c - (s + 1)), by omega, Or.inr ⟨i, s + 1, x, b, c, ha, hb, hab, hb7, hle, hno, hc, hc20, by omega, rfl, hwk, hhf, ?_, rfl, ?_, rfl, rfl, rfl⟩⟩
        · intro k hk
          rcases Nat.lt_or_ge k s with q | q
          · exact hnc k q
          · obtain rfl : k = s := by omega
            rintro ⟨z1, z2, z3⟩
            first
            | exact xi_0.mp h59 z1
            | exact z2 (xi_n0.mp h74)
            | (rw [e1] at h91; exact absurd z3 (Int32.not_lt.mpr h91))
        · rw [nI_succ]; rfl
      case g2011_w_100 =>
        first | rfl | exact xi_nb
      case g2012_r_100 =>
        have hlt := xl_lt hc hic h44
        have e1 : (nI s).toNatClampNeg = s := nI_clamp (by omega)
        rw [e1] at h91
        have hz : ym_csi M2 (M2 12 a.toNatClampNeg) (nI (x + i)) s := ⟨xi_n0.mp h59, xi_0.mp h74, Int32.not_le.mp h91⟩
        have e5 : ym_cs M2 (M2 12 a.toNatClampNeg) (nI (x + i)) = nI s := by
          unfold ym_cs
          rw [hc, nI_clamp (by omega)]
          exact xq_f_is hz hnc (by omega) c hlt
        have hd : ym_dy M2 (M2 14 a.toNatClampNeg) (M2 15 a.toNatClampNeg) (M2 16 a.toNatClampNeg) (M2 12 a.toNatClampNeg) x i := ⟨hwk, hhf, by rw [e5]; exact xq_ne (by omega)⟩
        have e9 := xq_f_is hd hno (by omega) (b + 1 - x) (by omega)
        have e10 : ym_fd M2 (M2 14 a.toNatClampNeg) (M2 15 a.toNatClampNeg) (M2 16 a.toNatClampNeg) (M2 12 a.toNatClampNeg) = nI i := by
          unfold ym_fd
          rw [ha, hb] at e9 ⊢
          rw [nI_clamp (by omega), nI_clamp (by omega)]; exact e9
        refine ⟨xl_some ?_, rfl⟩
        unfold ym_sh
        rw [e10, xi_xf (xq_ne (by omega)), ha, nI_add, e5]; rfl
  · rintro as M ⟨a, rfl, ⟨hp1, ⟨a0, b0, ha0, hb0, hab0, hb70⟩, hwho, hW, hP, hA, hL⟩⟩
    refine ⟨400, (And.intro rfl (And.intro rfl (And.intro ?g1_i_5 (And.intro (Nat.le_of_ble_eq_true rfl) ?g2_k_7))))⟩
    case g1_i_5 =>
      exact hp1
    case g2_k_7 =>
      refine ⟨10 * (b0 + 1 - a0 - 0) + 9, Or.inl ⟨0, a0, b0, ha0, hb0, hab0, hb70, Nat.zero_le _, rfl, fun k hk => absurd hk (Nat.not_lt_zero k), rfl, ?_, rfl, rfl, rfl⟩⟩
      rw [Nat.add_zero, ← ha0]; rfl
def pM_hasSkills (as : List Value) (M : xm_M) : Prop := ∃ p w d : Int32, as = [.ref 0, .int p, .int w, .int d] ∧ vp_in p 20
noncomputable def fM_hasSkills (as : List Value) (M : xm_M) : Option Value × xm_M := match as with
  | [_, .int p, .int w, .int d] => (some (.int (xi_b (ym_sk M p w d))), M)
  | _ => (none, M)
noncomputable abbrev sM_hasSkills : xm_C := (0, 4, 0, pM_hasSkills, fM_hasSkills)
theorem uM_hasSkills : ∀ as M, (fM_hasSkills as M).2 = M := by
  intro as M
  unfold fM_hasSkills
  split <;> rfl
theorem vM_hasSkills : ∀ as M, pM_hasSkills as M → ∃ as1, as = .ref 0 :: as1 := by
  rintro as M ⟨p, w, d, rfl, hpre⟩
  exact ⟨_, rfl⟩
noncomputable def tM_hasSkills : List (Nat × xm_C) := []
theorem lM_hasSkills (l : Launch) : ∀ n C, (n, C) ∈ tM_hasSkills → xm_lkS l "AbsenceRowsModel" xt_T xk_ns (xr_ 0) xk_cl xk_tM n C ∨ xm_lkV l "AbsenceRowsModel" xt_T xk_ns (xr_ 0) xk_cl xk_tM n C := fun n C h => (show ∀ q ∈ tM_hasSkills, xm_lkS l "AbsenceRowsModel" xt_T xk_ns (xr_ 0) xk_cl xk_tM q.1 q.2 ∨ xm_lkV l "AbsenceRowsModel" xt_T xk_ns (xr_ 0) xk_cl xk_tM q.1 q.2 from fun _ h => absurd h List.not_mem_nil) (n, C) h
set_option maxRecDepth 20000 in
set_option maxHeartbeats 2000000 in
theorem cM_hasSkills (l : Launch) : xm_Pu l xy_M_hasSkills (Cond.code xy_M_hasSkills xb_M_hasSkills 5 (some .boolean) :: xt_T) (xr_ 0) xk_cl xk_ns xk_tM pM_hasSkills fM_hasSkills := by
  refine xm_mk_pu (rt := .boolean) (fl := xf_M) (ct := tM_hasSkills) (cn := []) (cj := xj_M) (plainFor_of_name (by decide)) xs_M xd_M_hasSkills rfl (Or.inr rfl) (lM_hasSkills l) (fun as M j pc ls st M2 cl => match as with | [_, .int p, .int w, .int d] => (∃ i : Nat, i ≤ 8 ∧ j = 8 - i ∧ (∀ k, k < i → ¬ ym_ski M p w d k) ∧ pc = 3 ∧ ls = [(0, .ref 0), (1, .int p), (2, .int w), (3, .int d), (4, .int (nI i))] ∧ st = [] ∧ M2 = M ∧ cl = 0) | _ => False) ?_ ?_ ?_ ?_ ?_
  · rintro as M ⟨p, w, d, rfl, hpre⟩; exact Nat.le_of_ble_eq_true rfl
  · rintro as M ⟨p, w, d, rfl, hpre⟩; simp [fM_hasSkills]
  · rintro as M v ⟨p, w, d, rfl, hpre⟩ h; first | rfl | (simp [fM_hasSkills] at h)
  · rintro as M ⟨p, w, d, rfl, hpre⟩ j pc ls st M2 cl ⟨i, hi, hj, hno, rfl, rfl, rfl, rfl, rfl⟩
    refine ⟨400, (And.intro (by decide) (And.intro (fun h7 => (And.intro ?g1001_w_59 ?g1002_r_59)) (fun h7 => (And.intro (by decide) (And.intro (fun h17 => (And.intro (Nat.le_of_ble_eq_true rfl) (And.intro (by decide) ?g1003_k_3))) (fun h17 => (And.intro rfl (And.intro rfl (And.intro ?g1004_i_25 (And.intro (by decide) (And.intro (fun h31 => (And.intro ?g1005_w_51 ?g1006_r_51)) (fun h31 => (And.intro rfl (And.intro rfl (And.intro ?g1007_i_46 (And.intro (by decide) (And.intro (fun h47 => (And.intro (Nat.le_of_ble_eq_true rfl) (And.intro (by decide) ?g1008_k_3))) (fun h47 => (And.intro ?g1009_w_51 ?g1010_r_51)))))))))))))))))))⟩
    case g1001_w_59 =>
      first | rfl | exact xi_nb
    case g1002_r_59 =>
      obtain rfl := xl_end (x := Int32.ofInt 8) (c := 8) rfl (by decide) hi h7
      exact ⟨xl_some (xi_t hno).symm, rfl⟩
    case g1003_k_3 =>
      have hlt := xl_lt (x := Int32.ofInt 8) (c := 8) rfl hi h7
      refine ⟨8 - (i + 1), by omega, i + 1, by omega, rfl, ?_, rfl, ?_, rfl, rfl, rfl⟩
      · intro k hk
        rcases Nat.lt_or_ge k i with q | q
        · exact hno k q
        · obtain rfl : k = i := by omega
          rintro ⟨z1, z2⟩
          first
          | exact h17 z1
          | exact z2.elim h31 (fun z3 => absurd z3 (Int32.not_lt.mpr h47))
      · rw [nI_succ]; rfl
    case g1004_i_25 =>
      exact hpre
    case g1005_w_51 =>
      first | rfl | exact xi_nb
    case g1006_r_51 =>
      have hlt := xl_lt (x := Int32.ofInt 8) (c := 8) rfl hi h7
      refine ⟨xl_some (xi_f (fun z => z i hlt ⟨h17, ?_⟩)).symm, rfl⟩
      first | exact Or.inl h31 | exact Or.inr (Int32.not_le.mp h47)
    case g1007_i_46 =>
      exact yl_8 hpre (vp_in_nI (xl_lt (x := Int32.ofInt 8) (c := 8) rfl hi h7) (by decide))
    case g1008_k_3 =>
      have hlt := xl_lt (x := Int32.ofInt 8) (c := 8) rfl hi h7
      refine ⟨8 - (i + 1), by omega, i + 1, by omega, rfl, ?_, rfl, ?_, rfl, rfl, rfl⟩
      · intro k hk
        rcases Nat.lt_or_ge k i with q | q
        · exact hno k q
        · obtain rfl : k = i := by omega
          rintro ⟨z1, z2⟩
          first
          | exact h17 z1
          | exact z2.elim h31 (fun z3 => absurd z3 (Int32.not_lt.mpr h47))
      · rw [nI_succ]; rfl
    case g1009_w_51 =>
      first | rfl | exact xi_nb
    case g1010_r_51 =>
      have hlt := xl_lt (x := Int32.ofInt 8) (c := 8) rfl hi h7
      refine ⟨xl_some (xi_f (fun z => z i hlt ⟨h17, ?_⟩)).symm, rfl⟩
      first | exact Or.inl h31 | exact Or.inr (Int32.not_le.mp h47)
  · rintro as M ⟨p, w, d, rfl, hpre⟩
    refine ⟨400, (And.intro (Nat.le_of_ble_eq_true rfl) ?g1_k_3)⟩
    case g1_k_3 =>
      exact ⟨8 - 0, 0, Nat.zero_le _, rfl, fun k hk => absurd hk (Nat.not_lt_zero k), rfl, rfl, rfl, rfl, rfl⟩
def pM_isFree (as : List Value) (M : xm_M) : Prop := ∃ p k : Int32, as = [.ref 0, .int p, .int k] ∧ xv_n (M 0 28) 60 ∧ vp_in k 60
noncomputable def fM_isFree (as : List Value) (M : xm_M) : Option Value × xm_M := match as with
  | [_, .int p, .int k] => (some (.int (xi_b (∀ i, i < (M 0 28).toNatClampNeg → ¬ ym_fri M p k i))), M)
  | _ => (none, M)
noncomputable abbrev sM_isFree : xm_C := (0, 3, 0, pM_isFree, fM_isFree)
theorem uM_isFree : ∀ as M, (fM_isFree as M).2 = M := by
  intro as M
  unfold fM_isFree
  split <;> rfl
theorem vM_isFree : ∀ as M, pM_isFree as M → ∃ as1, as = .ref 0 :: as1 := by
  rintro as M ⟨p, k, rfl, ⟨⟨c0, hc0, hc1⟩, hk6⟩⟩
  exact ⟨_, rfl⟩
noncomputable def tM_isFree : List (Nat × xm_C) := []
theorem lM_isFree (l : Launch) : ∀ n C, (n, C) ∈ tM_isFree → xm_lkS l "AbsenceRowsModel" xt_T xk_ns (xr_ 0) xk_cl xk_tM n C ∨ xm_lkV l "AbsenceRowsModel" xt_T xk_ns (xr_ 0) xk_cl xk_tM n C := fun n C h => (show ∀ q ∈ tM_isFree, xm_lkS l "AbsenceRowsModel" xt_T xk_ns (xr_ 0) xk_cl xk_tM q.1 q.2 ∨ xm_lkV l "AbsenceRowsModel" xt_T xk_ns (xr_ 0) xk_cl xk_tM q.1 q.2 from fun _ h => absurd h List.not_mem_nil) (n, C) h
set_option maxRecDepth 20000 in
set_option maxHeartbeats 2000000 in
theorem cM_isFree (l : Launch) : xm_Pu l xy_M_isFree (Cond.code xy_M_isFree xb_M_isFree 4 (some .boolean) :: xt_T) (xr_ 0) xk_cl xk_ns xk_tM pM_isFree fM_isFree := by
  refine xm_mk_pu (rt := .boolean) (fl := xf_M) (ct := tM_isFree) (cn := []) (cj := xj_M) (plainFor_of_name (by decide)) xs_M xd_M_isFree rfl (Or.inr rfl) (lM_isFree l) (fun as M j pc ls st M2 cl => match as with | [_, .int p, .int k] => (∃ i c : Nat, M 0 28 = nI c ∧ c ≤ 60 ∧ i ≤ c ∧ j = c - i ∧ (∀ u, u < i → ¬ ym_fri M p k u) ∧ pc = 2 ∧ ls = [(0, .ref 0), (1, .int p), (2, .int k), (3, .int (nI i))] ∧ st = [] ∧ M2 = M ∧ cl = 0) | _ => False) ?_ ?_ ?_ ?_ ?_
  · rintro as M ⟨p, k, rfl, ⟨⟨c0, hc0, hc1⟩, hk6⟩⟩; exact Nat.le_of_ble_eq_true rfl
  · rintro as M ⟨p, k, rfl, ⟨⟨c0, hc0, hc1⟩, hk6⟩⟩; simp [fM_isFree]
  · rintro as M v ⟨p, k, rfl, ⟨⟨c0, hc0, hc1⟩, hk6⟩⟩ h; first | rfl | (simp [fM_isFree] at h)
  · rintro as M ⟨p, k, rfl, ⟨⟨c0, hc0, hc1⟩, hk6⟩⟩ j pc ls st M2 cl ⟨i, c, hc, hc20, hic, hj, hno, rfl, rfl, rfl, rfl, rfl⟩
    refine ⟨400, (And.intro rfl (And.intro (by decide) (And.intro (fun h7 => (And.intro ?g1001_w_59 ?g1002_r_59)) (fun h7 => (And.intro (by decide) (And.intro (fun h12 => (And.intro (Nat.le_of_ble_eq_true rfl) (And.intro (by decide) ?g1003_k_2))) (fun h12 => (And.intro rfl (And.intro rfl (And.intro ?g1004_i_20 (And.intro rfl (And.intro rfl (And.intro ?g1005_i_26 (And.intro (by decide) (And.intro (fun h27 => (And.intro (Nat.le_of_ble_eq_true rfl) (And.intro (by decide) ?g1006_k_2))) (fun h27 => (And.intro rfl (And.intro rfl (And.intro ?g1007_i_35 (And.intro (by decide) (And.intro (fun h37 => (And.intro (Nat.le_of_ble_eq_true rfl) (And.intro (by decide) ?g1008_k_2))) (fun h37 => (And.intro rfl (And.intro rfl (And.intro ?g1009_i_45 (And.intro (by decide) (And.intro (fun h47 => (And.intro (Nat.le_of_ble_eq_true rfl) (And.intro (by decide) ?g1010_k_2))) (fun h47 => (And.intro ?g1011_w_51 ?g1012_r_51)))))))))))))))))))))))))))))⟩
    case g1001_w_59 =>
      first | rfl | exact xi_nb
    case g1002_r_59 =>
      obtain rfl := xl_end hc (by omega) hic (by assumption)
      refine ⟨xl_some (xi_t ?_).symm, rfl⟩
      intro u hu
      rw [hc, nI_clamp (by omega)] at hu
      exact hno u hu
    case g1003_k_2 =>
      have hlt := xl_lt hc hic h7
      have e1 : (nI i).toNatClampNeg = i := nI_clamp (by omega)
      refine ⟨c - (i + 1), by omega, i + 1, c, hc, hc20, by omega, rfl, ?_, rfl, ?_, rfl, rfl, rfl⟩
      · intro u hu
        rcases Nat.lt_or_ge u i with q | q
        · exact hno u q
        · obtain rfl : u = i := by omega
          intro z
          simp only [e1, xi_0, xi_n0, ym_fri] at *
          grind [Int32.not_lt, Int32.not_le]
      · rw [nI_succ]; rfl
    case g1004_i_20 =>
      first | exact vp_in_nI (Nat.lt_of_lt_of_le (xl_lt hc hic h7) hc20) (by decide) | assumption
    case g1005_i_26 =>
      first | exact vp_in_nI (Nat.lt_of_lt_of_le (xl_lt hc hic h7) hc20) (by decide) | assumption
    case g1006_k_2 =>
      have hlt := xl_lt hc hic h7
      have e1 : (nI i).toNatClampNeg = i := nI_clamp (by omega)
      refine ⟨c - (i + 1), by omega, i + 1, c, hc, hc20, by omega, rfl, ?_, rfl, ?_, rfl, rfl, rfl⟩
      · intro u hu
        rcases Nat.lt_or_ge u i with q | q
        · exact hno u q
        · obtain rfl : u = i := by omega
          intro z
          simp only [e1, xi_0, xi_n0, ym_fri] at *
          grind [Int32.not_lt, Int32.not_le]
      · rw [nI_succ]; rfl
    case g1007_i_35 =>
      first | exact vp_in_nI (Nat.lt_of_lt_of_le (xl_lt hc hic h7) hc20) (by decide) | assumption
    case g1008_k_2 =>
      have hlt := xl_lt hc hic h7
      have e1 : (nI i).toNatClampNeg = i := nI_clamp (by omega)
      refine ⟨c - (i + 1), by omega, i + 1, c, hc, hc20, by omega, rfl, ?_, rfl, ?_, rfl, rfl, rfl⟩
      · intro u hu
        rcases Nat.lt_or_ge u i with q | q
        · exact hno u q
        · obtain rfl : u = i := by omega
          intro z
          simp only [e1, xi_0, xi_n0, ym_fri] at *
          grind [Int32.not_lt, Int32.not_le]
      · rw [nI_succ]; rfl
    case g1009_i_45 =>
      first | exact vp_in_nI (Nat.lt_of_lt_of_le (xl_lt hc hic h7) hc20) (by decide) | assumption
    case g1010_k_2 =>
      have hlt := xl_lt hc hic h7
      have e1 : (nI i).toNatClampNeg = i := nI_clamp (by omega)
      refine ⟨c - (i + 1), by omega, i + 1, c, hc, hc20, by omega, rfl, ?_, rfl, ?_, rfl, rfl, rfl⟩
      · intro u hu
        rcases Nat.lt_or_ge u i with q | q
        · exact hno u q
        · obtain rfl : u = i := by omega
          intro z
          simp only [e1, xi_0, xi_n0, ym_fri] at *
          grind [Int32.not_lt, Int32.not_le]
      · rw [nI_succ]; rfl
    case g1011_w_51 =>
      first | rfl | exact xi_nb
    case g1012_r_51 =>
      have hlt := xl_lt hc hic h7
      have e1 : (nI i).toNatClampNeg = i := nI_clamp (by omega)
      have hP : ym_fri M2 p k i := by
        simp only [e1, xi_0, xi_n0, ym_fri] at *
        grind [Int32.not_lt, Int32.not_le]
      refine ⟨xl_some (xi_f (fun z => z i ?_ hP)).symm, rfl⟩
      rw [hc, nI_clamp (by omega)]; exact hlt
  · rintro as M ⟨p, k, rfl, ⟨⟨c0, hc0, hc1⟩, hk6⟩⟩
    refine ⟨400, (And.intro (Nat.le_of_ble_eq_true rfl) ?g1_k_2)⟩
    case g1_k_2 =>
      exact ⟨c0 - 0, 0, c0, hc1, hc0, Nat.zero_le _, rfl, fun u hu => absurd hu (Nat.not_lt_zero u), rfl, rfl, rfl, rfl, rfl⟩
