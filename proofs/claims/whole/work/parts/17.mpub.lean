def pM_person (as : List Value) (M : xm_M) : Prop := ∃ s r d : Int32, as = [.ref 0, .int s, .int r, .int d] ∧ xv_J M
noncomputable def fM_person (as : List Value) (M : xm_M) : Option Value × xm_M := match as with
  | [_, .int s, .int r, .int d] => (some (.int (xi_x (xg_n 1 (xi_b (((0 ≤ s ∧ s ≤ 255) ∧ (0 ≤ r ∧ r ≤ 9) ∧ (0 ≤ d ∧ d ≤ 729)))) 1 (xi_b (M 0 3 < 20)) = 0) (M 0 3 + 1 - 1) 0)), @ite xm_M (xg_n 1 (xi_b (((0 ≤ s ∧ s ≤ 255) ∧ (0 ≤ r ∧ r ≤ 9) ∧ (0 ≤ d ∧ d ≤ 729)))) 1 (xi_b (M 0 3 < 20)) = 0) (Classical.propDecidable _) ((xm_up (xm_up (xm_up (xm_up (xm_up (xm_up (xm_up M 0 0 (xq_t 10 (xg_n 1 (xi_b (((0 ≤ s ∧ s ≤ 255) ∧ (0 ≤ r ∧ r ≤ 9) ∧ (0 ≤ d ∧ d ≤ 729)))) 1 (xi_b (M 0 3 < 20))))) 2 (M 0 3).toNatClampNeg s) 3 (M 0 3).toNatClampNeg r) 4 (M 0 3).toNatClampNeg d) 5 (M 0 3).toNatClampNeg 0) 6 (M 0 3).toNatClampNeg 1) 0 3 (M 0 3 + 1))) (xm_up M 0 0 (xq_t 10 (xg_n 1 (xi_b (((0 ≤ s ∧ s ≤ 255) ∧ (0 ≤ r ∧ r ≤ 9) ∧ (0 ≤ d ∧ d ≤ 729)))) 1 (xi_b (M 0 3 < 20))))))
  | _ => (none, M)
noncomputable abbrev sM_person : xm_C := (0, 4, 1, pM_person, fM_person)
theorem vM_person : ∀ as M, pM_person as M → ∃ as1, as = .ref 0 :: as1 := by
  rintro as M ⟨s, r, d, rfl, hpre⟩
  exact ⟨_, rfl⟩
noncomputable def tM_person : List (Nat × xm_C) := [(102, sM_in), (112, sM_isDay), (116, sM_goes)]
theorem lM_person (l : Launch) : ∀ n C, (n, C) ∈ tM_person → xm_lkS l "AbsenceRowsModel" xt_T xk_ns (xr_ 2) xk_cl xk_tM n C ∨ xm_lkV l "AbsenceRowsModel" xt_T xk_ns (xr_ 2) xk_cl xk_tM n C := fun n C h => (show ∀ q ∈ tM_person, xm_lkS l "AbsenceRowsModel" xt_T xk_ns (xr_ 2) xk_cl xk_tM q.1 q.2 ∨ xm_lkV l "AbsenceRowsModel" xt_T xk_ns (xr_ 2) xk_cl xk_tM q.1 q.2 from List.forall_mem_cons.mpr ⟨Or.inl ⟨xy_M_in, xb_M_in, 3, (some .boolean), xr_ 0, rfl, ⟨xe_M_in, xw_44, ⟨by decide, by decide, by decide +kernel⟩, ⟨Nat.le_of_ble_eq_true rfl, Nat.le_of_ble_eq_true rfl⟩, rfl, rfl⟩, xw_927, Or.inl xw_926, Or.inl ⟨rfl, uM_in, cM_in l⟩⟩, List.forall_mem_cons.mpr ⟨Or.inl ⟨xy_M_isDay, xb_M_isDay, 1, (some .boolean), xr_ 1, rfl, ⟨xe_M_isDay, xw_44, ⟨by decide, by decide, by decide +kernel⟩, ⟨Nat.le_of_ble_eq_true rfl, Nat.le_of_ble_eq_true rfl⟩, rfl, rfl⟩, xw_930, Or.inl xw_929, Or.inl ⟨rfl, uM_isDay, cM_isDay l⟩⟩, List.forall_mem_cons.mpr ⟨Or.inr ⟨xy_M_goes, xb_M_goes, 8, (some .boolean), xr_ 0, 5, 0, 7, [none, none, some 1, none, some 2, some 3, some 4, some 5, some 6, some 7, some 8, none, none, some 9, some 10, some 11, none, some 12, some 13, some 14, some 15, some 16, some 17, some 18, none, some 19, some 20, some 21, none, some 22, some 23, some 24, some 25, some 26, some 27, some 28, none], xk_T7, 37, rfl, rfl, ⟨xe_M_goes, xw_44, ⟨by decide, by decide, by decide +kernel⟩, ⟨Nat.le_of_ble_eq_true rfl, Nat.le_of_ble_eq_true rfl⟩, rfl, rfl⟩, xw_932, xw_934, xw_15, rfl, rfl, vM_goes, Or.inr ⟨rfl, cM_goes l⟩⟩, fun _ h => absurd h List.not_mem_nil⟩⟩⟩) (n, C) h
set_option maxRecDepth 20000 in
set_option maxHeartbeats 2000000 in
theorem cM_person (l : Launch) : xm_Wr l xy_M_person (Cond.code xy_M_person xb_M_person 4 (some .int) :: xt_T) (xr_ 2) xk_cl xk_ns xk_tM pM_person fM_person := by
  refine xm_mk_wr (rt := .int) (fl := xf_M) (ct := tM_person) (cn := []) (cj := xj_M) (plainFor_of_name (by decide)) xs_M xd_M_person rfl (Or.inr rfl) (lM_person l) (fun as M j pc ls st M2 cl => match as with | [_, .int s, .int r, .int d] => (j = 1000000 ∧ pc = 52 ∧ ls = [(0, .ref 0), (1, .int s), (2, .int r), (3, .int d)] ∧ st = [.int (xi_b (M 0 3 < 20)), .int 1, .int (xi_b (((0 ≤ s ∧ s ≤ 255) ∧ (0 ≤ r ∧ r ≤ 9) ∧ (0 ≤ d ∧ d ≤ 729)))), .int 1, .int 10, .ref 0] ∧ M2 = M) | _ => False) ?_ ?_ ?_ ?_ ?_
  · rintro as M ⟨s, r, d, rfl, hpre⟩; exact Nat.le_of_ble_eq_true rfl
  · rintro as M ⟨s, r, d, rfl, hpre⟩; simp [fM_person]
  · rintro as M v ⟨s, r, d, rfl, hpre⟩ h; first | rfl | (simp [fM_person] at h)
  · rintro as M ⟨s, r, d, rfl, hpre⟩ j pc ls st M2 cl ⟨hj, rfl, rfl, rfl, rfl⟩
    refine ⟨400, (And.intro rfl (And.intro (Nat.le_of_ble_eq_true rfl) (And.intro (Nat.le_of_ble_eq_true rfl) (And.intro ?g1001_c_52 (And.intro (by decide) (And.intro (fun h55 => (And.intro rfl (And.intro rfl (And.intro rfl (And.intro ?g1002_i_69 (And.intro rfl (And.intro rfl (And.intro rfl (And.intro ?g1003_i_79 (And.intro rfl (And.intro rfl (And.intro rfl (And.intro ?g1004_i_89 (And.intro rfl (And.intro rfl (And.intro rfl (And.intro ?g1005_i_99 (And.intro rfl (And.intro rfl (And.intro rfl (And.intro ?g1006_i_109 (And.intro rfl (And.intro rfl (And.intro rfl (And.intro rfl (And.intro ?g1007_w_126 ?g1008_r_126)))))))))))))))))))))))))) (fun h55 => (And.intro ?g1009_w_59 ?g1010_r_59))))))))⟩
    case g1001_c_52 =>
      exact ⟨_, _, _, _, _, rfl⟩
    case g1002_i_69 =>
      exact xl_room (by decide) rfl hpre.P (Int32.not_le.mpr (xi_n0.mp (xg_0 (xi_n0.mp h55)).2.2.2))
    case g1003_i_79 =>
      exact xl_room (by decide) rfl hpre.P (Int32.not_le.mpr (xi_n0.mp (xg_0 (xi_n0.mp h55)).2.2.2))
    case g1004_i_89 =>
      exact xl_room (by decide) rfl hpre.P (Int32.not_le.mpr (xi_n0.mp (xg_0 (xi_n0.mp h55)).2.2.2))
    case g1005_i_99 =>
      exact xl_room (by decide) rfl hpre.P (Int32.not_le.mpr (xi_n0.mp (xg_0 (xi_n0.mp h55)).2.2.2))
    case g1006_i_109 =>
      exact xl_room (by decide) rfl hpre.P (Int32.not_le.mpr (xi_n0.mp (xg_0 (xi_n0.mp h55)).2.2.2))
    case g1007_w_126 =>
      first | rfl | exact xi_nb
    case g1008_r_126 =>
      first
      | exact ⟨xl_some (xi_xf (xi_0.mp h55)).symm, (if_neg (xi_0.mp h55)).symm⟩
      | exact ⟨xl_some (xi_xf (xi_0.mp h55)).symm, rfl⟩
      | exact ⟨xl_some (xi_xt (xi_n0.mp h55)).symm, (if_pos (xi_n0.mp h55)).symm⟩
      | exact ⟨xl_some (xi_xt (xi_n0.mp h55)).symm, rfl⟩
      | exact ⟨rfl, (if_neg (xi_0.mp h55)).symm⟩
      | exact ⟨rfl, (if_pos (xi_n0.mp h55)).symm⟩
      | exact ⟨rfl, rfl⟩
    case g1009_w_59 =>
      first | rfl | exact xi_nb
    case g1010_r_59 =>
      first
      | exact ⟨xl_some (xi_xf (xi_0.mp h55)).symm, (if_neg (xi_0.mp h55)).symm⟩
      | exact ⟨xl_some (xi_xf (xi_0.mp h55)).symm, rfl⟩
      | exact ⟨xl_some (xi_xt (xi_n0.mp h55)).symm, (if_pos (xi_n0.mp h55)).symm⟩
      | exact ⟨xl_some (xi_xt (xi_n0.mp h55)).symm, rfl⟩
      | exact ⟨rfl, (if_neg (xi_0.mp h55)).symm⟩
      | exact ⟨rfl, (if_pos (xi_n0.mp h55)).symm⟩
      | exact ⟨rfl, rfl⟩
  · rintro as M ⟨s, r, d, rfl, hpre⟩
    refine ⟨400, (And.intro rfl (And.intro (Nat.le_of_ble_eq_true rfl) (And.intro (Nat.le_of_ble_eq_true rfl) (And.intro ?g1_c_9 (And.intro (by decide) (And.intro (fun h12 => (And.intro rfl (And.intro (by decide) (And.intro (fun h44 => ?g2_k_52) (fun h44 => (And.intro (by decide) ?g3_k_52)))))) (fun h12 => (And.intro rfl (And.intro (Nat.le_of_ble_eq_true rfl) (And.intro (Nat.le_of_ble_eq_true rfl) (And.intro ?g4_c_19 (And.intro (by decide) (And.intro (fun h22 => (And.intro rfl (And.intro (by decide) (And.intro (fun h44 => ?g5_k_52) (fun h44 => (And.intro (by decide) ?g6_k_52)))))) (fun h22 => (And.intro rfl (And.intro (Nat.le_of_ble_eq_true rfl) (And.intro (Nat.le_of_ble_eq_true rfl) (And.intro ?g7_c_26 (And.intro (by decide) (And.intro (fun h29 => (And.intro rfl (And.intro (by decide) (And.intro (fun h44 => ?g8_k_52) (fun h44 => (And.intro (by decide) ?g9_k_52)))))) (fun h29 => (And.intro (by decide) (And.intro rfl (And.intro (by decide) (And.intro (fun h44 => ?g10_k_52) (fun h44 => (And.intro (by decide) ?g11_k_52)))))))))))))))))))))))))))⟩
    case g1_c_9 =>
      exact ⟨_, _, _, rfl⟩
    case g2_k_52 =>
      refine ⟨1000000, ⟨rfl, rfl, rfl, ?_, rfl⟩⟩
      rcases Classical.em (((0 ≤ s ∧ s ≤ 255) ∧ (0 ≤ r ∧ r ≤ 9) ∧ (0 ≤ d ∧ d ≤ 729))) with z0 | z0 <;> rcases Classical.em (M 0 3 < 20) with z1 | z1 <;> (first | rw [xi_t z0] | rw [xi_f z0] | skip) <;> (first | rw [xi_t z1] | rw [xi_f z1] | skip) <;> (first | rfl | (exfalso; simp only [xi_0, xi_n0] at *; grind [Int32.not_lt, Int32.not_le]))
    case g3_k_52 =>
      refine ⟨1000000, ⟨rfl, rfl, rfl, ?_, rfl⟩⟩
      rcases Classical.em (((0 ≤ s ∧ s ≤ 255) ∧ (0 ≤ r ∧ r ≤ 9) ∧ (0 ≤ d ∧ d ≤ 729))) with z0 | z0 <;> rcases Classical.em (M 0 3 < 20) with z1 | z1 <;> (first | rw [xi_t z0] | rw [xi_f z0] | skip) <;> (first | rw [xi_t z1] | rw [xi_f z1] | skip) <;> (first | rfl | (exfalso; simp only [xi_0, xi_n0] at *; grind [Int32.not_lt, Int32.not_le]))
    case g4_c_19 =>
      exact ⟨_, _, _, rfl⟩
    case g5_k_52 =>
      refine ⟨1000000, ⟨rfl, rfl, rfl, ?_, rfl⟩⟩
      rcases Classical.em (((0 ≤ s ∧ s ≤ 255) ∧ (0 ≤ r ∧ r ≤ 9) ∧ (0 ≤ d ∧ d ≤ 729))) with z0 | z0 <;> rcases Classical.em (M 0 3 < 20) with z1 | z1 <;> (first | rw [xi_t z0] | rw [xi_f z0] | skip) <;> (first | rw [xi_t z1] | rw [xi_f z1] | skip) <;> (first | rfl | (exfalso; simp only [xi_0, xi_n0] at *; grind [Int32.not_lt, Int32.not_le]))
    case g6_k_52 =>
      refine ⟨1000000, ⟨rfl, rfl, rfl, ?_, rfl⟩⟩
      rcases Classical.em (((0 ≤ s ∧ s ≤ 255) ∧ (0 ≤ r ∧ r ≤ 9) ∧ (0 ≤ d ∧ d ≤ 729))) with z0 | z0 <;> rcases Classical.em (M 0 3 < 20) with z1 | z1 <;> (first | rw [xi_t z0] | rw [xi_f z0] | skip) <;> (first | rw [xi_t z1] | rw [xi_f z1] | skip) <;> (first | rfl | (exfalso; simp only [xi_0, xi_n0] at *; grind [Int32.not_lt, Int32.not_le]))
    case g7_c_26 =>
      exact ⟨_, rfl⟩
    case g8_k_52 =>
      refine ⟨1000000, ⟨rfl, rfl, rfl, ?_, rfl⟩⟩
      rcases Classical.em (((0 ≤ s ∧ s ≤ 255) ∧ (0 ≤ r ∧ r ≤ 9) ∧ (0 ≤ d ∧ d ≤ 729))) with z0 | z0 <;> rcases Classical.em (M 0 3 < 20) with z1 | z1 <;> (first | rw [xi_t z0] | rw [xi_f z0] | skip) <;> (first | rw [xi_t z1] | rw [xi_f z1] | skip) <;> (first | rfl | (exfalso; simp only [xi_0, xi_n0] at *; grind [Int32.not_lt, Int32.not_le]))
    case g9_k_52 =>
      refine ⟨1000000, ⟨rfl, rfl, rfl, ?_, rfl⟩⟩
      rcases Classical.em (((0 ≤ s ∧ s ≤ 255) ∧ (0 ≤ r ∧ r ≤ 9) ∧ (0 ≤ d ∧ d ≤ 729))) with z0 | z0 <;> rcases Classical.em (M 0 3 < 20) with z1 | z1 <;> (first | rw [xi_t z0] | rw [xi_f z0] | skip) <;> (first | rw [xi_t z1] | rw [xi_f z1] | skip) <;> (first | rfl | (exfalso; simp only [xi_0, xi_n0] at *; grind [Int32.not_lt, Int32.not_le]))
    case g10_k_52 =>
      refine ⟨1000000, ⟨rfl, rfl, rfl, ?_, rfl⟩⟩
      rcases Classical.em (((0 ≤ s ∧ s ≤ 255) ∧ (0 ≤ r ∧ r ≤ 9) ∧ (0 ≤ d ∧ d ≤ 729))) with z0 | z0 <;> rcases Classical.em (M 0 3 < 20) with z1 | z1 <;> (first | rw [xi_t z0] | rw [xi_f z0] | skip) <;> (first | rw [xi_t z1] | rw [xi_f z1] | skip) <;> (first | rfl | (exfalso; simp only [xi_0, xi_n0] at *; grind [Int32.not_lt, Int32.not_le]))
    case g11_k_52 =>
      refine ⟨1000000, ⟨rfl, rfl, rfl, ?_, rfl⟩⟩
      rcases Classical.em (((0 ≤ s ∧ s ≤ 255) ∧ (0 ≤ r ∧ r ≤ 9) ∧ (0 ≤ d ∧ d ≤ 729))) with z0 | z0 <;> rcases Classical.em (M 0 3 < 20) with z1 | z1 <;> (first | rw [xi_t z0] | rw [xi_f z0] | skip) <;> (first | rw [xi_t z1] | rw [xi_f z1] | skip) <;> (first | rfl | (exfalso; simp only [xi_0, xi_n0] at *; grind [Int32.not_lt, Int32.not_le]))
def pM_crew (as : List Value) (M : xm_M) : Prop := ∃ s r : Int32, as = [.ref 0, .int s, .int r] ∧ xv_J M
noncomputable def fM_crew (as : List Value) (M : xm_M) : Option Value × xm_M := match as with
  | [_, .int s, .int r] => (some (.int (xi_x (xg_n 1 (xi_b (((0 ≤ s ∧ s ≤ 255) ∧ (0 ≤ r ∧ r ≤ 20)))) 1 (xi_b (M 0 12 < 6)) = 0) (M 0 12 + 1 - 1) 0)), @ite xm_M (xg_n 1 (xi_b (((0 ≤ s ∧ s ≤ 255) ∧ (0 ≤ r ∧ r ≤ 20)))) 1 (xi_b (M 0 12 < 6)) = 0) (Classical.propDecidable _) ((xm_up (xm_up (xm_up (xm_up M 0 0 (xq_t 10 (xg_n 1 (xi_b (((0 ≤ s ∧ s ≤ 255) ∧ (0 ≤ r ∧ r ≤ 20)))) 1 (xi_b (M 0 12 < 6))))) 9 (M 0 12).toNatClampNeg s) 10 (M 0 12).toNatClampNeg r) 0 12 (M 0 12 + 1))) (xm_up M 0 0 (xq_t 10 (xg_n 1 (xi_b (((0 ≤ s ∧ s ≤ 255) ∧ (0 ≤ r ∧ r ≤ 20)))) 1 (xi_b (M 0 12 < 6))))))
  | _ => (none, M)
noncomputable abbrev sM_crew : xm_C := (0, 3, 1, pM_crew, fM_crew)
theorem vM_crew : ∀ as M, pM_crew as M → ∃ as1, as = .ref 0 :: as1 := by
  rintro as M ⟨s, r, rfl, hpre⟩
  exact ⟨_, rfl⟩
noncomputable def tM_crew : List (Nat × xm_C) := [(102, sM_in), (116, sM_goes)]
theorem lM_crew (l : Launch) : ∀ n C, (n, C) ∈ tM_crew → xm_lkS l "AbsenceRowsModel" xt_T xk_ns (xr_ 1) xk_cl xk_tM n C ∨ xm_lkV l "AbsenceRowsModel" xt_T xk_ns (xr_ 1) xk_cl xk_tM n C := fun n C h => (show ∀ q ∈ tM_crew, xm_lkS l "AbsenceRowsModel" xt_T xk_ns (xr_ 1) xk_cl xk_tM q.1 q.2 ∨ xm_lkV l "AbsenceRowsModel" xt_T xk_ns (xr_ 1) xk_cl xk_tM q.1 q.2 from List.forall_mem_cons.mpr ⟨Or.inl ⟨xy_M_in, xb_M_in, 3, (some .boolean), xr_ 0, rfl, ⟨xe_M_in, xw_44, ⟨by decide, by decide, by decide +kernel⟩, ⟨Nat.le_of_ble_eq_true rfl, Nat.le_of_ble_eq_true rfl⟩, rfl, rfl⟩, xw_927, Or.inl xw_926, Or.inl ⟨rfl, uM_in, cM_in l⟩⟩, List.forall_mem_cons.mpr ⟨Or.inr ⟨xy_M_goes, xb_M_goes, 8, (some .boolean), xr_ 0, 5, 0, 7, [none, none, some 1, none, some 2, some 3, some 4, some 5, some 6, some 7, some 8, none, none, some 9, some 10, some 11, none, some 12, some 13, some 14, some 15, some 16, some 17, some 18, none, some 19, some 20, some 21, none, some 22, some 23, some 24, some 25, some 26, some 27, some 28, none], xk_T7, 37, rfl, rfl, ⟨xe_M_goes, xw_44, ⟨by decide, by decide, by decide +kernel⟩, ⟨Nat.le_of_ble_eq_true rfl, Nat.le_of_ble_eq_true rfl⟩, rfl, rfl⟩, xw_932, xw_934, xw_15, rfl, rfl, vM_goes, Or.inr ⟨rfl, cM_goes l⟩⟩, fun _ h => absurd h List.not_mem_nil⟩⟩) (n, C) h
set_option maxRecDepth 20000 in
set_option maxHeartbeats 2000000 in
theorem cM_crew (l : Launch) : xm_Wr l xy_M_crew (Cond.code xy_M_crew xb_M_crew 3 (some .int) :: xt_T) (xr_ 1) xk_cl xk_ns xk_tM pM_crew fM_crew := by
  refine xm_mk_wr (rt := .int) (fl := xf_M) (ct := tM_crew) (cn := []) (cj := xj_M) (plainFor_of_name (by decide)) xs_M xd_M_crew rfl (Or.inr rfl) (lM_crew l) (fun as M j pc ls st M2 cl => match as with | [_, .int s, .int r] => (j = 1000000 ∧ pc = 45 ∧ ls = [(0, .ref 0), (1, .int s), (2, .int r)] ∧ st = [.int (xi_b (M 0 12 < 6)), .int 1, .int (xi_b (((0 ≤ s ∧ s ≤ 255) ∧ (0 ≤ r ∧ r ≤ 20)))), .int 1, .int 10, .ref 0] ∧ M2 = M) | _ => False) ?_ ?_ ?_ ?_ ?_
  · rintro as M ⟨s, r, rfl, hpre⟩; exact Nat.le_of_ble_eq_true rfl
  · rintro as M ⟨s, r, rfl, hpre⟩; simp [fM_crew]
  · rintro as M v ⟨s, r, rfl, hpre⟩ h; first | rfl | (simp [fM_crew] at h)
  · rintro as M ⟨s, r, rfl, hpre⟩ j pc ls st M2 cl ⟨hj, rfl, rfl, rfl, rfl⟩
    refine ⟨400, (And.intro rfl (And.intro (Nat.le_of_ble_eq_true rfl) (And.intro (Nat.le_of_ble_eq_true rfl) (And.intro ?g1001_c_45 (And.intro (by decide) (And.intro (fun h48 => (And.intro rfl (And.intro rfl (And.intro rfl (And.intro ?g1002_i_62 (And.intro rfl (And.intro rfl (And.intro rfl (And.intro ?g1003_i_72 (And.intro rfl (And.intro rfl (And.intro rfl (And.intro rfl (And.intro ?g1004_w_89 ?g1005_r_89)))))))))))))) (fun h48 => (And.intro ?g1006_w_52 ?g1007_r_52))))))))⟩
    case g1001_c_45 =>
      exact ⟨_, _, _, _, _, rfl⟩
    case g1002_i_62 =>
      exact xl_room (by decide) rfl hpre.W (Int32.not_le.mpr (xi_n0.mp (xg_0 (xi_n0.mp h48)).2.2.2))
    case g1003_i_72 =>
      exact xl_room (by decide) rfl hpre.W (Int32.not_le.mpr (xi_n0.mp (xg_0 (xi_n0.mp h48)).2.2.2))
    case g1004_w_89 =>
      first | rfl | exact xi_nb
    case g1005_r_89 =>
      first
      | exact ⟨xl_some (xi_xf (xi_0.mp h48)).symm, (if_neg (xi_0.mp h48)).symm⟩
      | exact ⟨xl_some (xi_xf (xi_0.mp h48)).symm, rfl⟩
      | exact ⟨xl_some (xi_xt (xi_n0.mp h48)).symm, (if_pos (xi_n0.mp h48)).symm⟩
      | exact ⟨xl_some (xi_xt (xi_n0.mp h48)).symm, rfl⟩
      | exact ⟨rfl, (if_neg (xi_0.mp h48)).symm⟩
      | exact ⟨rfl, (if_pos (xi_n0.mp h48)).symm⟩
      | exact ⟨rfl, rfl⟩
    case g1006_w_52 =>
      first | rfl | exact xi_nb
    case g1007_r_52 =>
      first
      | exact ⟨xl_some (xi_xf (xi_0.mp h48)).symm, (if_neg (xi_0.mp h48)).symm⟩
      | exact ⟨xl_some (xi_xf (xi_0.mp h48)).symm, rfl⟩
      | exact ⟨xl_some (xi_xt (xi_n0.mp h48)).symm, (if_pos (xi_n0.mp h48)).symm⟩
      | exact ⟨xl_some (xi_xt (xi_n0.mp h48)).symm, rfl⟩
      | exact ⟨rfl, (if_neg (xi_0.mp h48)).symm⟩
      | exact ⟨rfl, (if_pos (xi_n0.mp h48)).symm⟩
      | exact ⟨rfl, rfl⟩
  · rintro as M ⟨s, r, rfl, hpre⟩
    refine ⟨400, (And.intro rfl (And.intro (Nat.le_of_ble_eq_true rfl) (And.intro (Nat.le_of_ble_eq_true rfl) (And.intro ?g1_c_9 (And.intro (by decide) (And.intro (fun h12 => (And.intro rfl (And.intro (by decide) (And.intro (fun h37 => ?g2_k_45) (fun h37 => (And.intro (by decide) ?g3_k_45)))))) (fun h12 => (And.intro rfl (And.intro (Nat.le_of_ble_eq_true rfl) (And.intro (Nat.le_of_ble_eq_true rfl) (And.intro ?g4_c_19 (And.intro (by decide) (And.intro (fun h22 => (And.intro rfl (And.intro (by decide) (And.intro (fun h37 => ?g5_k_45) (fun h37 => (And.intro (by decide) ?g6_k_45)))))) (fun h22 => (And.intro (by decide) (And.intro rfl (And.intro (by decide) (And.intro (fun h37 => ?g7_k_45) (fun h37 => (And.intro (by decide) ?g8_k_45))))))))))))))))))))⟩
    case g1_c_9 =>
      exact ⟨_, _, _, rfl⟩
    case g2_k_45 =>
      refine ⟨1000000, ⟨rfl, rfl, rfl, ?_, rfl⟩⟩
      rcases Classical.em (((0 ≤ s ∧ s ≤ 255) ∧ (0 ≤ r ∧ r ≤ 20))) with z0 | z0 <;> rcases Classical.em (M 0 12 < 6) with z1 | z1 <;> (first | rw [xi_t z0] | rw [xi_f z0] | skip) <;> (first | rw [xi_t z1] | rw [xi_f z1] | skip) <;> (first | rfl | (exfalso; simp only [xi_0, xi_n0] at *; grind [Int32.not_lt, Int32.not_le]))
    case g3_k_45 =>
      refine ⟨1000000, ⟨rfl, rfl, rfl, ?_, rfl⟩⟩
      rcases Classical.em (((0 ≤ s ∧ s ≤ 255) ∧ (0 ≤ r ∧ r ≤ 20))) with z0 | z0 <;> rcases Classical.em (M 0 12 < 6) with z1 | z1 <;> (first | rw [xi_t z0] | rw [xi_f z0] | skip) <;> (first | rw [xi_t z1] | rw [xi_f z1] | skip) <;> (first | rfl | (exfalso; simp only [xi_0, xi_n0] at *; grind [Int32.not_lt, Int32.not_le]))
    case g4_c_19 =>
      exact ⟨_, _, _, rfl⟩
    case g5_k_45 =>
      refine ⟨1000000, ⟨rfl, rfl, rfl, ?_, rfl⟩⟩
      rcases Classical.em (((0 ≤ s ∧ s ≤ 255) ∧ (0 ≤ r ∧ r ≤ 20))) with z0 | z0 <;> rcases Classical.em (M 0 12 < 6) with z1 | z1 <;> (first | rw [xi_t z0] | rw [xi_f z0] | skip) <;> (first | rw [xi_t z1] | rw [xi_f z1] | skip) <;> (first | rfl | (exfalso; simp only [xi_0, xi_n0] at *; grind [Int32.not_lt, Int32.not_le]))
    case g6_k_45 =>
      refine ⟨1000000, ⟨rfl, rfl, rfl, ?_, rfl⟩⟩
      rcases Classical.em (((0 ≤ s ∧ s ≤ 255) ∧ (0 ≤ r ∧ r ≤ 20))) with z0 | z0 <;> rcases Classical.em (M 0 12 < 6) with z1 | z1 <;> (first | rw [xi_t z0] | rw [xi_f z0] | skip) <;> (first | rw [xi_t z1] | rw [xi_f z1] | skip) <;> (first | rfl | (exfalso; simp only [xi_0, xi_n0] at *; grind [Int32.not_lt, Int32.not_le]))
    case g7_k_45 =>
      refine ⟨1000000, ⟨rfl, rfl, rfl, ?_, rfl⟩⟩
      rcases Classical.em (((0 ≤ s ∧ s ≤ 255) ∧ (0 ≤ r ∧ r ≤ 20))) with z0 | z0 <;> rcases Classical.em (M 0 12 < 6) with z1 | z1 <;> (first | rw [xi_t z0] | rw [xi_f z0] | skip) <;> (first | rw [xi_t z1] | rw [xi_f z1] | skip) <;> (first | rfl | (exfalso; simp only [xi_0, xi_n0] at *; grind [Int32.not_lt, Int32.not_le]))
    case g8_k_45 =>
      refine ⟨1000000, ⟨rfl, rfl, rfl, ?_, rfl⟩⟩
      rcases Classical.em (((0 ≤ s ∧ s ≤ 255) ∧ (0 ≤ r ∧ r ≤ 20))) with z0 | z0 <;> rcases Classical.em (M 0 12 < 6) with z1 | z1 <;> (first | rw [xi_t z0] | rw [xi_f z0] | skip) <;> (first | rw [xi_t z1] | rw [xi_f z1] | skip) <;> (first | rfl | (exfalso; simp only [xi_0, xi_n0] at *; grind [Int32.not_lt, Int32.not_le]))
def pM_carry (as : List Value) (M : xm_M) : Prop := ∃ d : Int32, as = [.ref 0, .int d] ∧ xv_J M
noncomputable def fM_carry (as : List Value) (M : xm_M) : Option Value × xm_M := match as with
  | [_, .int d] => (none, @ite xm_M (xg_n 1 (xi_b (0 ≤ d ∧ d ≤ 100)) (xi_b (M 0 11 ≤ d)) 1 = 0) (Classical.propDecidable _) ((xm_up (xm_up M 0 0 (xq_t 6 (xg_n 1 (xi_b (0 ≤ d ∧ d ≤ 100)) (xi_b (M 0 11 ≤ d)) 1))) 0 11 d)) (xm_up M 0 0 (xq_t 6 (xg_n 1 (xi_b (0 ≤ d ∧ d ≤ 100)) (xi_b (M 0 11 ≤ d)) 1))))
  | _ => (none, M)
noncomputable abbrev sM_carry : xm_C := (0, 2, 1, pM_carry, fM_carry)
theorem vM_carry : ∀ as M, pM_carry as M → ∃ as1, as = .ref 0 :: as1 := by
  rintro as M ⟨d, rfl, hpre⟩
  exact ⟨_, rfl⟩
noncomputable def tM_carry : List (Nat × xm_C) := [(102, sM_in), (116, sM_goes)]
theorem lM_carry (l : Launch) : ∀ n C, (n, C) ∈ tM_carry → xm_lkS l "AbsenceRowsModel" xt_T xk_ns (xr_ 1) xk_cl xk_tM n C ∨ xm_lkV l "AbsenceRowsModel" xt_T xk_ns (xr_ 1) xk_cl xk_tM n C := fun n C h => (show ∀ q ∈ tM_carry, xm_lkS l "AbsenceRowsModel" xt_T xk_ns (xr_ 1) xk_cl xk_tM q.1 q.2 ∨ xm_lkV l "AbsenceRowsModel" xt_T xk_ns (xr_ 1) xk_cl xk_tM q.1 q.2 from List.forall_mem_cons.mpr ⟨Or.inl ⟨xy_M_in, xb_M_in, 3, (some .boolean), xr_ 0, rfl, ⟨xe_M_in, xw_44, ⟨by decide, by decide, by decide +kernel⟩, ⟨Nat.le_of_ble_eq_true rfl, Nat.le_of_ble_eq_true rfl⟩, rfl, rfl⟩, xw_927, Or.inl xw_926, Or.inl ⟨rfl, uM_in, cM_in l⟩⟩, List.forall_mem_cons.mpr ⟨Or.inr ⟨xy_M_goes, xb_M_goes, 8, (some .boolean), xr_ 0, 5, 0, 7, [none, none, some 1, none, some 2, some 3, some 4, some 5, some 6, some 7, some 8, none, none, some 9, some 10, some 11, none, some 12, some 13, some 14, some 15, some 16, some 17, some 18, none, some 19, some 20, some 21, none, some 22, some 23, some 24, some 25, some 26, some 27, some 28, none], xk_T7, 37, rfl, rfl, ⟨xe_M_goes, xw_44, ⟨by decide, by decide, by decide +kernel⟩, ⟨Nat.le_of_ble_eq_true rfl, Nat.le_of_ble_eq_true rfl⟩, rfl, rfl⟩, xw_932, xw_934, xw_15, rfl, rfl, vM_goes, Or.inr ⟨rfl, cM_goes l⟩⟩, fun _ h => absurd h List.not_mem_nil⟩⟩) (n, C) h
set_option maxRecDepth 20000 in
set_option maxHeartbeats 2000000 in
theorem cM_carry (l : Launch) : xm_Wr l xy_M_carry (Cond.code xy_M_carry xb_M_carry 2 none :: xt_T) (xr_ 1) xk_cl xk_ns xk_tM pM_carry fM_carry := by
  refine xm_mk_wr (rt := .int) (fl := xf_M) (ct := tM_carry) (cn := []) (cj := xj_M) (plainFor_of_name (by decide)) xs_M xd_M_carry rfl (Or.inl rfl) (lM_carry l) (fun as M j pc ls st M2 cl => match as with | [_, .int d] => (j = 1000000 ∧ pc = 25 ∧ ls = [(0, .ref 0), (1, .int d)] ∧ st = [.int 1, .int (xi_b (M 0 11 ≤ d)), .int (xi_b (0 ≤ d ∧ d ≤ 100)), .int 1, .int 6, .ref 0] ∧ M2 = M) | _ => False) ?_ ?_ ?_ ?_ ?_
  · rintro as M ⟨d, rfl, hpre⟩; exact Nat.le_of_ble_eq_true rfl
  · rintro as M ⟨d, rfl, hpre⟩; simp [fM_carry]
  · rintro as M v ⟨d, rfl, hpre⟩ h; first | rfl | (simp [fM_carry] at h)
  · rintro as M ⟨d, rfl, hpre⟩ j pc ls st M2 cl ⟨hj, rfl, rfl, rfl, rfl⟩
    refine ⟨400, (And.intro rfl (And.intro (Nat.le_of_ble_eq_true rfl) (And.intro (Nat.le_of_ble_eq_true rfl) (And.intro ?g1001_c_25 (And.intro (by decide) (And.intro (fun h28 => ?g1002_r_36) (fun h28 => (And.intro rfl ?g1003_r_36))))))))⟩
    case g1001_c_25 =>
      exact ⟨_, _, _, _, _, rfl⟩
    case g1002_r_36 =>
      first
      | exact ⟨xl_some (xi_xf (xi_0.mp h28)).symm, (if_neg (xi_0.mp h28)).symm⟩
      | exact ⟨xl_some (xi_xf (xi_0.mp h28)).symm, rfl⟩
      | exact ⟨xl_some (xi_xt (xi_n0.mp h28)).symm, (if_pos (xi_n0.mp h28)).symm⟩
      | exact ⟨xl_some (xi_xt (xi_n0.mp h28)).symm, rfl⟩
      | exact ⟨rfl, (if_neg (xi_0.mp h28)).symm⟩
      | exact ⟨rfl, (if_pos (xi_n0.mp h28)).symm⟩
      | exact ⟨rfl, rfl⟩
    case g1003_r_36 =>
      first
      | exact ⟨xl_some (xi_xf (xi_0.mp h28)).symm, (if_neg (xi_0.mp h28)).symm⟩
      | exact ⟨xl_some (xi_xf (xi_0.mp h28)).symm, rfl⟩
      | exact ⟨xl_some (xi_xt (xi_n0.mp h28)).symm, (if_pos (xi_n0.mp h28)).symm⟩
      | exact ⟨xl_some (xi_xt (xi_n0.mp h28)).symm, rfl⟩
      | exact ⟨rfl, (if_neg (xi_0.mp h28)).symm⟩
      | exact ⟨rfl, (if_pos (xi_n0.mp h28)).symm⟩
      | exact ⟨rfl, rfl⟩
  · rintro as M ⟨d, rfl, hpre⟩
    refine ⟨400, (And.intro rfl (And.intro (Nat.le_of_ble_eq_true rfl) (And.intro (Nat.le_of_ble_eq_true rfl) (And.intro ?g1_c_8 (And.intro rfl (And.intro (by decide) (And.intro (fun h16 => ?g2_k_25) (fun h16 => (And.intro (by decide) ?g3_k_25)))))))))⟩
    case g1_c_8 =>
      exact ⟨_, _, _, rfl⟩
    case g2_k_25 =>
      refine ⟨1000000, ⟨rfl, rfl, rfl, ?_, rfl⟩⟩
      rcases Classical.em (M 0 11 ≤ d) with z0 | z0 <;> (first | rw [xi_t z0] | rw [xi_f z0] | skip) <;> (first | rfl | (exfalso; simp only [xi_0, xi_n0] at *; grind [Int32.not_lt, Int32.not_le]))
    case g3_k_25 =>
      refine ⟨1000000, ⟨rfl, rfl, rfl, ?_, rfl⟩⟩
      rcases Classical.em (M 0 11 ≤ d) with z0 | z0 <;> (first | rw [xi_t z0] | rw [xi_f z0] | skip) <;> (first | rfl | (exfalso; simp only [xi_0, xi_n0] at *; grind [Int32.not_lt, Int32.not_le]))
def pM_holiday (as : List Value) (M : xm_M) : Prop := ∃ d : Int32, as = [.ref 0, .int d] ∧ xv_J M
noncomputable def fM_holiday (as : List Value) (M : xm_M) : Option Value × xm_M := match as with
  | [_, .int d] => (none, @ite xm_M (xg_n 1 (xi_b (0 ≤ d ∧ d ≤ 729)) (xi_b ((0 ≤ d ∧ d ≤ 729) ∧ M 1 d.toNatClampNeg = 0)) 1 = 0) (Classical.propDecidable _) ((xm_up (xm_up M 0 0 (xq_t 6 (xg_n 1 (xi_b (0 ≤ d ∧ d ≤ 729)) (xi_b ((0 ≤ d ∧ d ≤ 729) ∧ M 1 d.toNatClampNeg = 0)) 1))) 1 d.toNatClampNeg 1)) (xm_up M 0 0 (xq_t 6 (xg_n 1 (xi_b (0 ≤ d ∧ d ≤ 729)) (xi_b ((0 ≤ d ∧ d ≤ 729) ∧ M 1 d.toNatClampNeg = 0)) 1))))
  | _ => (none, M)
noncomputable abbrev sM_holiday : xm_C := (0, 2, 1, pM_holiday, fM_holiday)
theorem vM_holiday : ∀ as M, pM_holiday as M → ∃ as1, as = .ref 0 :: as1 := by
  rintro as M ⟨d, rfl, hpre⟩
  exact ⟨_, rfl⟩
noncomputable def tM_holiday : List (Nat × xm_C) := [(112, sM_isDay), (116, sM_goes)]
theorem lM_holiday (l : Launch) : ∀ n C, (n, C) ∈ tM_holiday → xm_lkS l "AbsenceRowsModel" xt_T xk_ns (xr_ 2) xk_cl xk_tM n C ∨ xm_lkV l "AbsenceRowsModel" xt_T xk_ns (xr_ 2) xk_cl xk_tM n C := fun n C h => (show ∀ q ∈ tM_holiday, xm_lkS l "AbsenceRowsModel" xt_T xk_ns (xr_ 2) xk_cl xk_tM q.1 q.2 ∨ xm_lkV l "AbsenceRowsModel" xt_T xk_ns (xr_ 2) xk_cl xk_tM q.1 q.2 from List.forall_mem_cons.mpr ⟨Or.inl ⟨xy_M_isDay, xb_M_isDay, 1, (some .boolean), xr_ 1, rfl, ⟨xe_M_isDay, xw_44, ⟨by decide, by decide, by decide +kernel⟩, ⟨Nat.le_of_ble_eq_true rfl, Nat.le_of_ble_eq_true rfl⟩, rfl, rfl⟩, xw_930, Or.inl xw_929, Or.inl ⟨rfl, uM_isDay, cM_isDay l⟩⟩, List.forall_mem_cons.mpr ⟨Or.inr ⟨xy_M_goes, xb_M_goes, 8, (some .boolean), xr_ 0, 5, 0, 7, [none, none, some 1, none, some 2, some 3, some 4, some 5, some 6, some 7, some 8, none, none, some 9, some 10, some 11, none, some 12, some 13, some 14, some 15, some 16, some 17, some 18, none, some 19, some 20, some 21, none, some 22, some 23, some 24, some 25, some 26, some 27, some 28, none], xk_T7, 37, rfl, rfl, ⟨xe_M_goes, xw_44, ⟨by decide, by decide, by decide +kernel⟩, ⟨Nat.le_of_ble_eq_true rfl, Nat.le_of_ble_eq_true rfl⟩, rfl, rfl⟩, xw_932, xw_934, xw_15, rfl, rfl, vM_goes, Or.inr ⟨rfl, cM_goes l⟩⟩, fun _ h => absurd h List.not_mem_nil⟩⟩) (n, C) h
set_option maxRecDepth 20000 in
set_option maxHeartbeats 2000000 in
theorem cM_holiday (l : Launch) : xm_Wr l xy_M_holiday (Cond.code xy_M_holiday xb_M_holiday 2 none :: xt_T) (xr_ 2) xk_cl xk_ns xk_tM pM_holiday fM_holiday := by
  refine xm_mk_wr (rt := .int) (fl := xf_M) (ct := tM_holiday) (cn := []) (cj := xj_M) (plainFor_of_name (by decide)) xs_M xd_M_holiday rfl (Or.inl rfl) (lM_holiday l) (fun as M j pc ls st M2 cl => match as with | [_, .int d] => (j = 1000000 ∧ pc = 30 ∧ ls = [(0, .ref 0), (1, .int d)] ∧ st = [.int 1, .int (xi_b ((0 ≤ d ∧ d ≤ 729) ∧ M 1 d.toNatClampNeg = 0)), .int (xi_b (0 ≤ d ∧ d ≤ 729)), .int 1, .int 6, .ref 0] ∧ M2 = M) | _ => False) ?_ ?_ ?_ ?_ ?_
  · rintro as M ⟨d, rfl, hpre⟩; exact Nat.le_of_ble_eq_true rfl
  · rintro as M ⟨d, rfl, hpre⟩; simp [fM_holiday]
  · rintro as M v ⟨d, rfl, hpre⟩ h; first | rfl | (simp [fM_holiday] at h)
  · rintro as M ⟨d, rfl, hpre⟩ j pc ls st M2 cl ⟨hj, rfl, rfl, rfl, rfl⟩
    refine ⟨400, (And.intro rfl (And.intro (Nat.le_of_ble_eq_true rfl) (And.intro (Nat.le_of_ble_eq_true rfl) (And.intro ?g1001_c_30 (And.intro (by decide) (And.intro (fun h33 => ?g1002_r_43) (fun h33 => (And.intro rfl (And.intro ?g1003_z_42 (And.intro rfl (And.intro ?g1004_i_42 ?g1005_r_43)))))))))))⟩
    case g1001_c_30 =>
      exact ⟨_, _, _, _, _, rfl⟩
    case g1002_r_43 =>
      first
      | exact ⟨xl_some (xi_xf (xi_0.mp h33)).symm, (if_neg (xi_0.mp h33)).symm⟩
      | exact ⟨xl_some (xi_xf (xi_0.mp h33)).symm, rfl⟩
      | exact ⟨xl_some (xi_xt (xi_n0.mp h33)).symm, (if_pos (xi_n0.mp h33)).symm⟩
      | exact ⟨xl_some (xi_xt (xi_n0.mp h33)).symm, rfl⟩
      | exact ⟨rfl, (if_neg (xi_0.mp h33)).symm⟩
      | exact ⟨rfl, (if_pos (xi_n0.mp h33)).symm⟩
      | exact ⟨rfl, rfl⟩
    case g1003_z_42 =>
      rfl
    case g1004_i_42 =>
      exact xl_day (xi_n0.mp (xg_0 (xi_n0.mp h33)).2.1)
    case g1005_r_43 =>
      first
      | exact ⟨xl_some (xi_xf (xi_0.mp h33)).symm, (if_neg (xi_0.mp h33)).symm⟩
      | exact ⟨xl_some (xi_xf (xi_0.mp h33)).symm, rfl⟩
      | exact ⟨xl_some (xi_xt (xi_n0.mp h33)).symm, (if_pos (xi_n0.mp h33)).symm⟩
      | exact ⟨xl_some (xi_xt (xi_n0.mp h33)).symm, rfl⟩
      | exact ⟨rfl, (if_neg (xi_0.mp h33)).symm⟩
      | exact ⟨rfl, (if_pos (xi_n0.mp h33)).symm⟩
      | exact ⟨rfl, rfl⟩
  · rintro as M ⟨d, rfl, hpre⟩
    refine ⟨400, (And.intro rfl (And.intro (Nat.le_of_ble_eq_true rfl) (And.intro (Nat.le_of_ble_eq_true rfl) (And.intro ?g1_c_5 (And.intro rfl (And.intro (Nat.le_of_ble_eq_true rfl) (And.intro (Nat.le_of_ble_eq_true rfl) (And.intro ?g2_c_9 (And.intro (by decide) (And.intro (fun h12 => ?g3_k_30) (fun h12 => (And.intro rfl (And.intro rfl (And.intro ?g4_i_20 (And.intro (by decide) (And.intro (fun h21 => ?g5_k_30) (fun h21 => (And.intro (by decide) ?g6_k_30))))))))))))))))))⟩
    case g1_c_5 =>
      exact ⟨_, rfl⟩
    case g2_c_9 =>
      exact ⟨_, rfl⟩
    case g3_k_30 =>
      refine ⟨1000000, ⟨rfl, rfl, rfl, ?_, rfl⟩⟩
      rcases Classical.em ((0 ≤ d ∧ d ≤ 729) ∧ M 1 d.toNatClampNeg = 0) with z0 | z0 <;> (first | rw [xi_t z0] | rw [xi_f z0] | skip) <;> (first | rfl | (exfalso; simp only [xi_0, xi_n0] at *; grind [Int32.not_lt, Int32.not_le]))
    case g4_i_20 =>
      exact xl_day (xi_n0.mp h12)
    case g5_k_30 =>
      refine ⟨1000000, ⟨rfl, rfl, rfl, ?_, rfl⟩⟩
      rcases Classical.em ((0 ≤ d ∧ d ≤ 729) ∧ M 1 d.toNatClampNeg = 0) with z0 | z0 <;> (first | rw [xi_t z0] | rw [xi_f z0] | skip) <;> (first | rfl | (exfalso; simp only [xi_0, xi_n0] at *; grind [Int32.not_lt, Int32.not_le]))
    case g6_k_30 =>
      refine ⟨1000000, ⟨rfl, rfl, rfl, ?_, rfl⟩⟩
      rcases Classical.em ((0 ≤ d ∧ d ≤ 729) ∧ M 1 d.toNatClampNeg = 0) with z0 | z0 <;> (first | rw [xi_t z0] | rw [xi_f z0] | skip) <;> (first | rfl | (exfalso; simp only [xi_0, xi_n0] at *; grind [Int32.not_lt, Int32.not_le]))
def pM_working (as : List Value) (M : xm_M) : Prop := ∃ f t : Int32, as = [.ref 0, .int f, .int t] ∧ xv_J M
noncomputable def fM_working (as : List Value) (M : xm_M) : Option Value × xm_M := match as with
  | [_, .int f, .int t] => (some (.int (xi_x (xg_n 1 (xi_b (((0 ≤ f ∧ f ≤ 729) ∧ (0 ≤ t ∧ t ≤ 729) ∧ f ≤ t))) 1 1 = 0) (xq_s (fun i => xi_w (nI (f.toNatClampNeg + i) - nI (f.toNatClampNeg + i) / 7 * 7 < 5 ∧ M 1 (nI (f.toNatClampNeg + i)).toNatClampNeg = 0) 1) (t.toNatClampNeg + 1 - f.toNatClampNeg)) 0)), (xm_up M 0 0 (xq_t 2 (xg_n 1 (xi_b (((0 ≤ f ∧ f ≤ 729) ∧ (0 ≤ t ∧ t ≤ 729) ∧ f ≤ t))) 1 1))))
  | _ => (none, M)
noncomputable abbrev sM_working : xm_C := (0, 3, 1, pM_working, fM_working)
theorem vM_working : ∀ as M, pM_working as M → ∃ as1, as = .ref 0 :: as1 := by
  rintro as M ⟨f, t, rfl, hpre⟩
  exact ⟨_, rfl⟩
noncomputable def tM_working : List (Nat × xm_C) := [(112, sM_isDay), (116, sM_goes), (120, sM_isWork)]
theorem lM_working (l : Launch) : ∀ n C, (n, C) ∈ tM_working → xm_lkS l "AbsenceRowsModel" xt_T xk_ns (xr_ 2) xk_cl xk_tM n C ∨ xm_lkV l "AbsenceRowsModel" xt_T xk_ns (xr_ 2) xk_cl xk_tM n C := fun n C h => (show ∀ q ∈ tM_working, xm_lkS l "AbsenceRowsModel" xt_T xk_ns (xr_ 2) xk_cl xk_tM q.1 q.2 ∨ xm_lkV l "AbsenceRowsModel" xt_T xk_ns (xr_ 2) xk_cl xk_tM q.1 q.2 from List.forall_mem_cons.mpr ⟨Or.inl ⟨xy_M_isDay, xb_M_isDay, 1, (some .boolean), xr_ 1, rfl, ⟨xe_M_isDay, xw_44, ⟨by decide, by decide, by decide +kernel⟩, ⟨Nat.le_of_ble_eq_true rfl, Nat.le_of_ble_eq_true rfl⟩, rfl, rfl⟩, xw_930, Or.inl xw_929, Or.inl ⟨rfl, uM_isDay, cM_isDay l⟩⟩, List.forall_mem_cons.mpr ⟨Or.inr ⟨xy_M_goes, xb_M_goes, 8, (some .boolean), xr_ 0, 5, 0, 7, [none, none, some 1, none, some 2, some 3, some 4, some 5, some 6, some 7, some 8, none, none, some 9, some 10, some 11, none, some 12, some 13, some 14, some 15, some 16, some 17, some 18, none, some 19, some 20, some 21, none, some 22, some 23, some 24, some 25, some 26, some 27, some 28, none], xk_T7, 37, rfl, rfl, ⟨xe_M_goes, xw_44, ⟨by decide, by decide, by decide +kernel⟩, ⟨Nat.le_of_ble_eq_true rfl, Nat.le_of_ble_eq_true rfl⟩, rfl, rfl⟩, xw_932, xw_934, xw_15, rfl, rfl, vM_goes, Or.inr ⟨rfl, cM_goes l⟩⟩, List.forall_mem_cons.mpr ⟨Or.inr ⟨xy_M_isWork, xb_M_isWork, 2, (some .boolean), xr_ 0, 1, 0, 7, [none, none, some 1, none, some 2, some 3, some 4, some 5, some 6, some 7, some 8, none, none, some 9, some 10, some 11, none, some 12, some 13, some 14, some 15, some 16, some 17, some 18, none, some 19, some 20, some 21, none, some 22, some 23, some 24, some 25, some 26, some 27, some 28, none], xk_T7, 37, rfl, rfl, ⟨xe_M_isWork, xw_44, ⟨by decide, by decide, by decide +kernel⟩, ⟨Nat.le_of_ble_eq_true rfl, Nat.le_of_ble_eq_true rfl⟩, rfl, rfl⟩, xw_961, xw_963, xw_21, rfl, rfl, vM_isWork, Or.inl ⟨rfl, uM_isWork, cM_isWork l⟩⟩, fun _ h => absurd h List.not_mem_nil⟩⟩⟩) (n, C) h
set_option maxRecDepth 20000 in
set_option maxHeartbeats 2000000 in
theorem cM_working (l : Launch) : xm_Wr l xy_M_working (Cond.code xy_M_working xb_M_working 5 (some .int) :: xt_T) (xr_ 2) xk_cl xk_ns xk_tM pM_working fM_working := by
  refine xm_mk_wr (rt := .int) (fl := xf_M) (ct := tM_working) (cn := []) (cj := xj_M) (plainFor_of_name (by decide)) xs_M xd_M_working rfl (Or.inr rfl) (lM_working l) (fun as M j pc ls st M2 cl => match as with | [_, .int f, .int t] => (j = 1000000 ∧ pc = 29 ∧ ls = [(0, .ref 0), (1, .int f), (2, .int t)] ∧ st = [.int 1, .int 1, .int (xi_b (((0 ≤ f ∧ f ≤ 729) ∧ (0 ≤ t ∧ t ≤ 729) ∧ f ≤ t))), .int 1, .int 2, .ref 0] ∧ M2 = M) ∨ (∃ i a b : Nat, f = nI a ∧ t = nI b ∧ a ≤ b ∧ b < 730 ∧ i ≤ b + 1 - a ∧ j = b + 1 - a - i ∧ xg_n 1 (xi_b (((0 ≤ f ∧ f ≤ 729) ∧ (0 ≤ t ∧ t ≤ 729) ∧ f ≤ t))) 1 1 = 0 ∧ pc = 42 ∧ ls = [(0, .ref 0), (1, .int f), (2, .int t), (3, .int (xq_s (fun i => xi_w (nI (a + i) - nI (a + i) / 7 * 7 < 5 ∧ M 1 (nI (a + i)).toNatClampNeg = 0) 1) i)), (4, .int (nI (a + i)))] ∧ st = [] ∧ M2 = (xm_up M 0 0 (xq_t 2 (xg_n 1 (xi_b (((0 ≤ f ∧ f ≤ 729) ∧ (0 ≤ t ∧ t ≤ 729) ∧ f ≤ t))) 1 1)))) | _ => False) ?_ ?_ ?_ ?_ ?_
  · rintro as M ⟨f, t, rfl, hpre⟩; exact Nat.le_of_ble_eq_true rfl
  · rintro as M ⟨f, t, rfl, hpre⟩; simp [fM_working]
  · rintro as M v ⟨f, t, rfl, hpre⟩ h; first | rfl | (simp [fM_working] at h)
  · rintro as M ⟨f, t, rfl, hpre⟩ j pc ls st M2 cl (⟨hj, rfl, rfl, rfl, rfl⟩ | ⟨i, a, b, ha, hb, hab, hb7, hi, hj, hT, rfl, rfl, rfl, rfl⟩)
    · skip
      refine ⟨400, (And.intro rfl (And.intro (Nat.le_of_ble_eq_true rfl) (And.intro (Nat.le_of_ble_eq_true rfl) (And.intro ?g1001_c_29 (And.intro (by decide) (And.intro (fun h32 => (And.intro (Nat.le_of_ble_eq_true rfl) (And.intro (Nat.le_of_ble_eq_true rfl) ?g1002_k_42))) (fun h32 => (And.intro ?g1003_w_36 ?g1004_r_36))))))))⟩
      case g1001_c_29 =>
        exact ⟨_, _, _, _, _, rfl⟩
      case g1002_k_42 =>
        have hz := xi_n0.mp (xg_0 (xi_n0.mp h32)).2.1
        obtain ⟨a0, b0, ha0, hb0, hab0, hb70⟩ := xl_span hz.1 hz.2.1 hz.2.2
        refine ⟨b0 + 1 - a0 - 0, by omega, Or.inr ⟨0, a0, b0, ha0, hb0, hab0, hb70, Nat.zero_le _, rfl, xi_n0.mp h32, rfl, ?_, rfl, rfl⟩⟩
        rw [ha0, hb0, Nat.add_zero]; rfl
      case g1003_w_36 =>
        first | rfl | exact xi_nb
      case g1004_r_36 =>
        first
        | exact ⟨xl_some (xi_xf (xi_0.mp h32)).symm, (if_neg (xi_0.mp h32)).symm⟩
        | exact ⟨xl_some (xi_xf (xi_0.mp h32)).symm, rfl⟩
        | exact ⟨xl_some (xi_xt (xi_n0.mp h32)).symm, (if_pos (xi_n0.mp h32)).symm⟩
        | exact ⟨xl_some (xi_xt (xi_n0.mp h32)).symm, rfl⟩
        | exact ⟨rfl, (if_neg (xi_0.mp h32)).symm⟩
        | exact ⟨rfl, (if_pos (xi_n0.mp h32)).symm⟩
        | exact ⟨rfl, rfl⟩
    · skip
      refine ⟨400, (And.intro (by decide) (And.intro (fun h45 => (And.intro ?g2001_w_67 ?g2002_r_67)) (fun h45 => (And.intro rfl (And.intro (Nat.le_of_ble_eq_true rfl) (And.intro (Nat.le_of_ble_eq_true rfl) (And.intro ?g2003_c_51 (And.intro (by decide) (And.intro (fun h54 => (And.intro (Nat.le_of_ble_eq_true rfl) (And.intro (by decide) ?g2004_k_42))) (fun h54 => (And.intro (Nat.le_of_ble_eq_true rfl) (And.intro (Nat.le_of_ble_eq_true rfl) (And.intro (by decide) ?g2005_k_42)))))))))))))⟩
      case g2001_w_67 =>
        first | rfl | exact xi_nb
      case g2002_r_67 =>
        obtain rfl : i = b + 1 - a := xl_de ha hb hb7 hab hi (by assumption)
        refine ⟨?_, rfl⟩
        simp only [fM_working]
        rw [xi_xt hT, ha, hb, nI_clamp (by omega), nI_clamp (by omega)]
      case g2003_c_51 =>
        exact ⟨_, rfl, xl_d ha hb hb7 h45⟩
      case g2004_k_42 =>
        have hlt := xl_dl ha hb hb7 h45
        have e1 : (nI (a + i)).toNatClampNeg = a + i := nI_clamp (by omega)
        refine ⟨b + 1 - a - (i + 1), by omega, Or.inr ⟨i + 1, a, b, ha, hb, hab, hb7, by omega, rfl, hT, rfl, ?_, rfl, rfl⟩⟩
        rw [← Nat.add_assoc, nI_succ, xq_s1]
        first | (have hw : nI (a + i) - nI (a + i) / 7 * 7 < 5 ∧ M 1 (nI (a + i)).toNatClampNeg = 0 := xi_n0.mp h54; rw [xi_wt hw]; rfl) | (have hw : ¬ (nI (a + i) - nI (a + i) / 7 * 7 < 5 ∧ M 1 (nI (a + i)).toNatClampNeg = 0) := xi_0.mp h54; rw [xi_wf hw, xi_add0]; rfl)
      case g2005_k_42 =>
        have hlt := xl_dl ha hb hb7 h45
        have e1 : (nI (a + i)).toNatClampNeg = a + i := nI_clamp (by omega)
        refine ⟨b + 1 - a - (i + 1), by omega, Or.inr ⟨i + 1, a, b, ha, hb, hab, hb7, by omega, rfl, hT, rfl, ?_, rfl, rfl⟩⟩
        rw [← Nat.add_assoc, nI_succ, xq_s1]
        first | (have hw : nI (a + i) - nI (a + i) / 7 * 7 < 5 ∧ M 1 (nI (a + i)).toNatClampNeg = 0 := xi_n0.mp h54; rw [xi_wt hw]; rfl) | (have hw : ¬ (nI (a + i) - nI (a + i) / 7 * 7 < 5 ∧ M 1 (nI (a + i)).toNatClampNeg = 0) := xi_0.mp h54; rw [xi_wf hw, xi_add0]; rfl)
  · rintro as M ⟨f, t, rfl, hpre⟩
    refine ⟨400, (And.intro rfl (And.intro (Nat.le_of_ble_eq_true rfl) (And.intro (Nat.le_of_ble_eq_true rfl) (And.intro ?g1_c_4 (And.intro (by decide) (And.intro (fun h7 => ?g2_k_29) (fun h7 => (And.intro rfl (And.intro (Nat.le_of_ble_eq_true rfl) (And.intro (Nat.le_of_ble_eq_true rfl) (And.intro ?g3_c_11 (And.intro (by decide) (And.intro (fun h14 => ?g4_k_29) (fun h14 => (And.intro (by decide) (And.intro (fun h19 => ?g5_k_29) (fun h19 => (And.intro (by decide) ?g6_k_29))))))))))))))))))⟩
    case g1_c_4 =>
      exact ⟨_, rfl⟩
    case g2_k_29 =>
      refine ⟨1000000, Or.inl ⟨rfl, rfl, rfl, ?_, rfl⟩⟩
      rcases Classical.em (((0 ≤ f ∧ f ≤ 729) ∧ (0 ≤ t ∧ t ≤ 729) ∧ f ≤ t)) with z0 | z0 <;> (first | rw [xi_t z0] | rw [xi_f z0] | skip) <;> (first | rfl | (exfalso; simp only [xi_0, xi_n0] at *; grind [Int32.not_lt, Int32.not_le]))
    case g3_c_11 =>
      exact ⟨_, rfl⟩
    case g4_k_29 =>
      refine ⟨1000000, Or.inl ⟨rfl, rfl, rfl, ?_, rfl⟩⟩
      rcases Classical.em (((0 ≤ f ∧ f ≤ 729) ∧ (0 ≤ t ∧ t ≤ 729) ∧ f ≤ t)) with z0 | z0 <;> (first | rw [xi_t z0] | rw [xi_f z0] | skip) <;> (first | rfl | (exfalso; simp only [xi_0, xi_n0] at *; grind [Int32.not_lt, Int32.not_le]))
    case g5_k_29 =>
      refine ⟨1000000, Or.inl ⟨rfl, rfl, rfl, ?_, rfl⟩⟩
      rcases Classical.em (((0 ≤ f ∧ f ≤ 729) ∧ (0 ≤ t ∧ t ≤ 729) ∧ f ≤ t)) with z0 | z0 <;> (first | rw [xi_t z0] | rw [xi_f z0] | skip) <;> (first | rfl | (exfalso; simp only [xi_0, xi_n0] at *; grind [Int32.not_lt, Int32.not_le]))
    case g6_k_29 =>
      refine ⟨1000000, Or.inl ⟨rfl, rfl, rfl, ?_, rfl⟩⟩
      rcases Classical.em (((0 ≤ f ∧ f ≤ 729) ∧ (0 ≤ t ∧ t ≤ 729) ∧ f ≤ t)) with z0 | z0 <;> (first | rw [xi_t z0] | rw [xi_f z0] | skip) <;> (first | rfl | (exfalso; simp only [xi_0, xi_n0] at *; grind [Int32.not_lt, Int32.not_le]))
def pM_member (as : List Value) (M : xm_M) : Prop := ∃ w p b : Int32, as = [.ref 0, .int w, .int p, .int b] ∧ (b = 0 ∨ b = 1) ∧ xv_J M
noncomputable def fM_member (as : List Value) (M : xm_M) : Option Value × xm_M := match as with
  | [_, .int w, .int p, .int b] => (some (.int (xi_x (xg_n (xi_b ((0 ≤ w ∧ w ≤ M 0 12 - 1) ∧ (0 ≤ p ∧ p ≤ M 0 3 - 1))) 1 (xi_b (((0 ≤ w ∧ w ≤ M 0 12 - 1) ∧ (0 ≤ p ∧ p ≤ M 0 3 - 1)) ∧ ¬ M 11 (w * 20 + p).toNatClampNeg = b)) 1 = 0) (xq_s (fun i => xi_b (¬ (xm_up (xm_up M 0 0 (xq_t 5 (xg_n (xi_b ((0 ≤ w ∧ w ≤ M 0 12 - 1) ∧ (0 ≤ p ∧ p ≤ M 0 3 - 1))) 1 (xi_b (((0 ≤ w ∧ w ≤ M 0 12 - 1) ∧ (0 ≤ p ∧ p ≤ M 0 3 - 1)) ∧ ¬ M 11 (w * 20 + p).toNatClampNeg = b)) 1))) 11 (w * 20 + p).toNatClampNeg b) 11 (w * 20 + nI i).toNatClampNeg = 0)) (M 0 3).toNatClampNeg) 0)), @ite xm_M (xg_n (xi_b ((0 ≤ w ∧ w ≤ M 0 12 - 1) ∧ (0 ≤ p ∧ p ≤ M 0 3 - 1))) 1 (xi_b (((0 ≤ w ∧ w ≤ M 0 12 - 1) ∧ (0 ≤ p ∧ p ≤ M 0 3 - 1)) ∧ ¬ M 11 (w * 20 + p).toNatClampNeg = b)) 1 = 0) (Classical.propDecidable _) (xm_up (xm_up M 0 0 (xq_t 5 (xg_n (xi_b ((0 ≤ w ∧ w ≤ M 0 12 - 1) ∧ (0 ≤ p ∧ p ≤ M 0 3 - 1))) 1 (xi_b (((0 ≤ w ∧ w ≤ M 0 12 - 1) ∧ (0 ≤ p ∧ p ≤ M 0 3 - 1)) ∧ ¬ M 11 (w * 20 + p).toNatClampNeg = b)) 1))) 11 (w * 20 + p).toNatClampNeg b) (xm_up M 0 0 (xq_t 5 (xg_n (xi_b ((0 ≤ w ∧ w ≤ M 0 12 - 1) ∧ (0 ≤ p ∧ p ≤ M 0 3 - 1))) 1 (xi_b (((0 ≤ w ∧ w ≤ M 0 12 - 1) ∧ (0 ≤ p ∧ p ≤ M 0 3 - 1)) ∧ ¬ M 11 (w * 20 + p).toNatClampNeg = b)) 1))))
  | _ => (none, M)
noncomputable abbrev sM_member : xm_C := (0, 4, 1, pM_member, fM_member)
theorem vM_member : ∀ as M, pM_member as M → ∃ as1, as = .ref 0 :: as1 := by
  rintro as M ⟨w, p, b, rfl, ⟨hb, hpre⟩⟩
  exact ⟨_, rfl⟩
noncomputable def tM_member : List (Nat × xm_C) := [(157, sM_isCrew), (151, sM_isPerson), (116, sM_goes)]
theorem lM_member (l : Launch) : ∀ n C, (n, C) ∈ tM_member → xm_lkS l "AbsenceRowsModel" xt_T xk_ns (xr_ 2) xk_cl xk_tM n C ∨ xm_lkV l "AbsenceRowsModel" xt_T xk_ns (xr_ 2) xk_cl xk_tM n C := fun n C h => (show ∀ q ∈ tM_member, xm_lkS l "AbsenceRowsModel" xt_T xk_ns (xr_ 2) xk_cl xk_tM q.1 q.2 ∨ xm_lkV l "AbsenceRowsModel" xt_T xk_ns (xr_ 2) xk_cl xk_tM q.1 q.2 from List.forall_mem_cons.mpr ⟨Or.inr ⟨xy_M_isCrew, xb_M_isCrew, 2, (some .boolean), xr_ 1, 1, 0, 7, [none, none, some 1, none, some 2, some 3, some 4, some 5, some 6, some 7, some 8, none, none, some 9, some 10, some 11, none, some 12, some 13, some 14, some 15, some 16, some 17, some 18, none, some 19, some 20, some 21, none, some 22, some 23, some 24, some 25, some 26, some 27, some 28, none], xk_T7, 37, rfl, rfl, ⟨xe_M_isCrew, xw_44, ⟨by decide, by decide, by decide +kernel⟩, ⟨Nat.le_of_ble_eq_true rfl, Nat.le_of_ble_eq_true rfl⟩, rfl, rfl⟩, xw_994, xw_996, xw_24, rfl, rfl, vM_isCrew, Or.inl ⟨rfl, uM_isCrew, cM_isCrew l⟩⟩, List.forall_mem_cons.mpr ⟨Or.inr ⟨xy_M_isPerson, xb_M_isPerson, 2, (some .boolean), xr_ 1, 1, 0, 7, [none, none, some 1, none, some 2, some 3, some 4, some 5, some 6, some 7, some 8, none, none, some 9, some 10, some 11, none, some 12, some 13, some 14, some 15, some 16, some 17, some 18, none, some 19, some 20, some 21, none, some 22, some 23, some 24, some 25, some 26, some 27, some 28, none], xk_T7, 37, rfl, rfl, ⟨xe_M_isPerson, xw_44, ⟨by decide, by decide, by decide +kernel⟩, ⟨Nat.le_of_ble_eq_true rfl, Nat.le_of_ble_eq_true rfl⟩, rfl, rfl⟩, xw_940, xw_942, xw_16, rfl, rfl, vM_isPerson, Or.inl ⟨rfl, uM_isPerson, cM_isPerson l⟩⟩, List.forall_mem_cons.mpr ⟨Or.inr ⟨xy_M_goes, xb_M_goes, 8, (some .boolean), xr_ 0, 5, 0, 7, [none, none, some 1, none, some 2, some 3, some 4, some 5, some 6, some 7, some 8, none, none, some 9, some 10, some 11, none, some 12, some 13, some 14, some 15, some 16, some 17, some 18, none, some 19, some 20, some 21, none, some 22, some 23, some 24, some 25, some 26, some 27, some 28, none], xk_T7, 37, rfl, rfl, ⟨xe_M_goes, xw_44, ⟨by decide, by decide, by decide +kernel⟩, ⟨Nat.le_of_ble_eq_true rfl, Nat.le_of_ble_eq_true rfl⟩, rfl, rfl⟩, xw_932, xw_934, xw_15, rfl, rfl, vM_goes, Or.inr ⟨rfl, cM_goes l⟩⟩, fun _ h => absurd h List.not_mem_nil⟩⟩⟩) (n, C) h
set_option maxRecDepth 20000 in
set_option maxHeartbeats 2000000 in
theorem cM_member (l : Launch) : xm_Wr l xy_M_member (Cond.code xy_M_member xb_M_member 7 (some .int) :: xt_T) (xr_ 2) xk_cl xk_ns xk_tM pM_member fM_member := by
  refine xm_mk_wr (rt := .int) (fl := xf_M) (ct := tM_member) (cn := []) (cj := xj_M) (plainFor_of_name (by decide)) xs_M xd_M_member rfl (Or.inr rfl) (lM_member l) (fun as M j pc ls st M2 cl => match as with | [_, .int w, .int p, .int b] => (j = 101 ∧ pc = 23 ∧ ls = [(0, .ref 0), (1, .int w), (2, .int p), (3, .int b), (4, .int (xi_b ((0 ≤ w ∧ w ≤ M 0 12 - 1) ∧ (0 ≤ p ∧ p ≤ M 0 3 - 1))))] ∧ st = [] ∧ M2 = M) ∨ (j = 100 ∧ pc = 54 ∧ ls = [(0, .ref 0), (1, .int w), (2, .int p), (3, .int b), (4, .int (xi_b ((0 ≤ w ∧ w ≤ M 0 12 - 1) ∧ (0 ≤ p ∧ p ≤ M 0 3 - 1))))] ∧ st = [.int 1, .int (xi_b (((0 ≤ w ∧ w ≤ M 0 12 - 1) ∧ (0 ≤ p ∧ p ≤ M 0 3 - 1)) ∧ ¬ M 11 (w * 20 + p).toNatClampNeg = b)), .int 1, .int (xi_b ((0 ≤ w ∧ w ≤ M 0 12 - 1) ∧ (0 ≤ p ∧ p ≤ M 0 3 - 1))), .int 5, .ref 0] ∧ M2 = M) ∨ (∃ i c : Nat, M 0 3 = nI c ∧ c ≤ 20 ∧ i ≤ c ∧ j = c - i ∧ xg_n (xi_b ((0 ≤ w ∧ w ≤ M 0 12 - 1) ∧ (0 ≤ p ∧ p ≤ M 0 3 - 1))) 1 (xi_b (((0 ≤ w ∧ w ≤ M 0 12 - 1) ∧ (0 ≤ p ∧ p ≤ M 0 3 - 1)) ∧ ¬ M 11 (w * 20 + p).toNatClampNeg = b)) 1 = 0 ∧ pc = 80 ∧ ls = [(0, .ref 0), (1, .int w), (2, .int p), (3, .int b), (4, .int (xi_b ((0 ≤ w ∧ w ≤ M 0 12 - 1) ∧ (0 ≤ p ∧ p ≤ M 0 3 - 1)))), (5, .int (xq_s (fun i => xi_b (¬ (xm_up (xm_up M 0 0 (xq_t 5 (xg_n (xi_b ((0 ≤ w ∧ w ≤ M 0 12 - 1) ∧ (0 ≤ p ∧ p ≤ M 0 3 - 1))) 1 (xi_b (((0 ≤ w ∧ w ≤ M 0 12 - 1) ∧ (0 ≤ p ∧ p ≤ M 0 3 - 1)) ∧ ¬ M 11 (w * 20 + p).toNatClampNeg = b)) 1))) 11 (w * 20 + p).toNatClampNeg b) 11 (w * 20 + nI i).toNatClampNeg = 0)) i)), (6, .int (nI i))] ∧ st = [] ∧ M2 = (xm_up (xm_up M 0 0 (xq_t 5 (xg_n (xi_b ((0 ≤ w ∧ w ≤ M 0 12 - 1) ∧ (0 ≤ p ∧ p ≤ M 0 3 - 1))) 1 (xi_b (((0 ≤ w ∧ w ≤ M 0 12 - 1) ∧ (0 ≤ p ∧ p ≤ M 0 3 - 1)) ∧ ¬ M 11 (w * 20 + p).toNatClampNeg = b)) 1))) 11 (w * 20 + p).toNatClampNeg b)) | _ => False) ?_ ?_ ?_ ?_ ?_
  · rintro as M ⟨w, p, b, rfl, ⟨hb, hpre⟩⟩; exact Nat.le_of_ble_eq_true rfl
  · rintro as M ⟨w, p, b, rfl, ⟨hb, hpre⟩⟩; simp [fM_member]
  · rintro as M v ⟨w, p, b, rfl, ⟨hb, hpre⟩⟩ h; first | rfl | (simp [fM_member] at h)
  · rintro as M ⟨w, p, b, rfl, ⟨hb, hpre⟩⟩ j pc ls st M2 cl (⟨hj, rfl, rfl, rfl, rfl⟩ | ⟨hj, rfl, rfl, rfl, rfl⟩ | ⟨i, c, hc, hc20, hic, hj, hT, rfl, rfl, rfl, rfl⟩)
    · skip
      refine ⟨400, (And.intro (by decide) (And.intro (fun h30 => ?g1001_k_54) (fun h30 => (And.intro rfl (And.intro rfl (And.intro ?g1002_i_43 (And.intro (by decide) (And.intro (fun h45 => ?g1003_k_54) (fun h45 => (And.intro (by decide) ?g1004_k_54))))))))))⟩
      case g1001_k_54 =>
        refine ⟨100, by omega, Or.inr (Or.inl ⟨rfl, rfl, rfl, ?_, rfl⟩)⟩
        rcases Classical.em (((0 ≤ w ∧ w ≤ M2 0 12 - 1) ∧ (0 ≤ p ∧ p ≤ M2 0 3 - 1)) ∧ ¬ M2 11 (w * 20 + p).toNatClampNeg = b) with z0 | z0 <;> (first | rw [xi_t z0] | rw [xi_f z0]) <;> (first | rfl | (exfalso; simp only [xi_0, xi_n0] at *; grind [Int32.not_lt, Int32.not_le]))
      case g1002_i_43 =>
        exact yl_20 (xl_has (by decide) hpre.W (xi_n0.mp h30).1) (xl_has (by decide) hpre.P (xi_n0.mp h30).2) (by decide)
      case g1003_k_54 =>
        refine ⟨100, by omega, Or.inr (Or.inl ⟨rfl, rfl, rfl, ?_, rfl⟩)⟩
        rcases Classical.em (((0 ≤ w ∧ w ≤ M2 0 12 - 1) ∧ (0 ≤ p ∧ p ≤ M2 0 3 - 1)) ∧ ¬ M2 11 (w * 20 + p).toNatClampNeg = b) with z0 | z0 <;> (first | rw [xi_t z0] | rw [xi_f z0]) <;> (first | rfl | (exfalso; simp only [xi_0, xi_n0] at *; grind [Int32.not_lt, Int32.not_le]))
      case g1004_k_54 =>
        refine ⟨100, by omega, Or.inr (Or.inl ⟨rfl, rfl, rfl, ?_, rfl⟩)⟩
        rcases Classical.em (((0 ≤ w ∧ w ≤ M2 0 12 - 1) ∧ (0 ≤ p ∧ p ≤ M2 0 3 - 1)) ∧ ¬ M2 11 (w * 20 + p).toNatClampNeg = b) with z0 | z0 <;> (first | rw [xi_t z0] | rw [xi_f z0]) <;> (first | rfl | (exfalso; simp only [xi_0, xi_n0] at *; grind [Int32.not_lt, Int32.not_le]))
    · skip
      refine ⟨400, (And.intro rfl (And.intro (Nat.le_of_ble_eq_true rfl) (And.intro (Nat.le_of_ble_eq_true rfl) (And.intro ?g2001_c_54 (And.intro (by decide) (And.intro (fun h57 => (And.intro rfl (And.intro ?g2002_z_73 (And.intro rfl (And.intro ?g2003_i_73 (And.intro (Nat.le_of_ble_eq_true rfl) (And.intro (Nat.le_of_ble_eq_true rfl) ?g2004_k_80))))))) (fun h57 => (And.intro ?g2005_w_61 ?g2006_r_61))))))))⟩
      case g2001_c_54 =>
        exact ⟨_, _, _, _, _, rfl⟩
      case g2002_z_73 =>
        rcases hb with rfl | rfl <;> rfl
      case g2003_i_73 =>
        have hz := xi_n0.mp (xg_0 (xi_n0.mp h57)).1
        exact yl_20 (xl_has (by decide) hpre.W hz.1) (xl_has (by decide) hpre.P hz.2) (by decide)
      case g2004_k_80 =>
        obtain ⟨c0, hc0, hc1⟩ := hpre.P
        exact ⟨c0 - 0, by omega, Or.inr (Or.inr ⟨0, c0, hc1, hc0, Nat.zero_le _, rfl, xi_n0.mp h57, rfl, rfl, rfl, rfl⟩)⟩
      case g2005_w_61 =>
        first | rfl | exact xi_nb
      case g2006_r_61 =>
        refine ⟨?_, ?_⟩
        · simp only [fM_member]
          rw [xi_xf (xi_0.mp h57)]; rfl
        · simp only [fM_member]
          rw [if_neg (xi_0.mp h57)]; rfl
    · skip
      have hzk := xi_n0.mp (xg_0 hT).1
      refine ⟨400, (And.intro rfl (And.intro (by decide) (And.intro (fun h86 => (And.intro ?g3001_w_115 ?g3002_r_115)) (fun h86 => (And.intro rfl (And.intro rfl (And.intro ?g3003_i_100 (And.intro (by decide) (And.intro (fun h101 => (And.intro (Nat.le_of_ble_eq_true rfl) (And.intro (by decide) ?g3004_k_80))) (fun h101 => (And.intro (Nat.le_of_ble_eq_true rfl) (And.intro (Nat.le_of_ble_eq_true rfl) (And.intro (by decide) ?g3005_k_80)))))))))))))⟩
      case g3001_w_115 =>
        first | rfl | exact xi_nb
      case g3002_r_115 =>
        obtain rfl := xl_end hc (by omega) hic (by assumption)
        refine ⟨?_, ?_⟩
        · simp only [fM_member]
          rw [xi_xt hT, hc, nI_clamp (by omega)]
        · simp only [fM_member]
          rw [if_pos hT]
      case g3003_i_100 =>
        exact yl_20 (xl_has (by decide) hpre.W hzk.1) (vp_in_nI (Nat.lt_of_lt_of_le (xl_lt hc hic h86) hc20) (by decide)) (by decide)
      case g3004_k_80 =>
        have hlt := xl_lt hc hic h86
        refine ⟨c - (i + 1), by omega, Or.inr (Or.inr ⟨i + 1, c, hc, hc20, by omega, rfl, hT, rfl, ?_, rfl, rfl⟩)⟩
        rw [nI_succ, xq_s1]
        first | (have hw : ¬ (xm_up (xm_up M 0 0 (xq_t 5 (xg_n (xi_b ((0 ≤ w ∧ w ≤ M 0 12 - 1) ∧ (0 ≤ p ∧ p ≤ M 0 3 - 1))) 1 (xi_b (((0 ≤ w ∧ w ≤ M 0 12 - 1) ∧ (0 ≤ p ∧ p ≤ M 0 3 - 1)) ∧ ¬ M 11 (w * 20 + p).toNatClampNeg = b)) 1))) 11 (w * 20 + p).toNatClampNeg b) 11 (w * 20 + nI i).toNatClampNeg = 0 := h101; rw [xi_t hw]; rfl) | (have hw : ¬ ¬ (xm_up (xm_up M 0 0 (xq_t 5 (xg_n (xi_b ((0 ≤ w ∧ w ≤ M 0 12 - 1) ∧ (0 ≤ p ∧ p ≤ M 0 3 - 1))) 1 (xi_b (((0 ≤ w ∧ w ≤ M 0 12 - 1) ∧ (0 ≤ p ∧ p ≤ M 0 3 - 1)) ∧ ¬ M 11 (w * 20 + p).toNatClampNeg = b)) 1))) 11 (w * 20 + p).toNatClampNeg b) 11 (w * 20 + nI i).toNatClampNeg = 0 := Classical.not_not.mpr h101; rw [xi_f hw, xi_add0]; rfl)
      case g3005_k_80 =>
        have hlt := xl_lt hc hic h86
        refine ⟨c - (i + 1), by omega, Or.inr (Or.inr ⟨i + 1, c, hc, hc20, by omega, rfl, hT, rfl, ?_, rfl, rfl⟩)⟩
        rw [nI_succ, xq_s1]
        first | (have hw : ¬ (xm_up (xm_up M 0 0 (xq_t 5 (xg_n (xi_b ((0 ≤ w ∧ w ≤ M 0 12 - 1) ∧ (0 ≤ p ∧ p ≤ M 0 3 - 1))) 1 (xi_b (((0 ≤ w ∧ w ≤ M 0 12 - 1) ∧ (0 ≤ p ∧ p ≤ M 0 3 - 1)) ∧ ¬ M 11 (w * 20 + p).toNatClampNeg = b)) 1))) 11 (w * 20 + p).toNatClampNeg b) 11 (w * 20 + nI i).toNatClampNeg = 0 := h101; rw [xi_t hw]; rfl) | (have hw : ¬ ¬ (xm_up (xm_up M 0 0 (xq_t 5 (xg_n (xi_b ((0 ≤ w ∧ w ≤ M 0 12 - 1) ∧ (0 ≤ p ∧ p ≤ M 0 3 - 1))) 1 (xi_b (((0 ≤ w ∧ w ≤ M 0 12 - 1) ∧ (0 ≤ p ∧ p ≤ M 0 3 - 1)) ∧ ¬ M 11 (w * 20 + p).toNatClampNeg = b)) 1))) 11 (w * 20 + p).toNatClampNeg b) 11 (w * 20 + nI i).toNatClampNeg = 0 := Classical.not_not.mpr h101; rw [xi_f hw, xi_add0]; rfl)
  · rintro as M ⟨w, p, b, rfl, ⟨hb, hpre⟩⟩
    refine ⟨400, (And.intro rfl (And.intro (Nat.le_of_ble_eq_true rfl) (And.intro (Nat.le_of_ble_eq_true rfl) (And.intro ?g1_c_2 (And.intro (by decide) (And.intro (fun h5 => (And.intro (Nat.le_of_ble_eq_true rfl) ?g2_k_23)) (fun h5 => (And.intro rfl (And.intro (Nat.le_of_ble_eq_true rfl) (And.intro (Nat.le_of_ble_eq_true rfl) (And.intro ?g3_c_10 (And.intro (by decide) (And.intro (fun h13 => (And.intro (Nat.le_of_ble_eq_true rfl) ?g4_k_23)) (fun h13 => (And.intro (by decide) (And.intro (Nat.le_of_ble_eq_true rfl) ?g5_k_23))))))))))))))))⟩
    case g1_c_2 =>
      exact ⟨_, rfl⟩
    case g2_k_23 =>
      refine ⟨101, Or.inl ⟨rfl, rfl, ?_, rfl, rfl⟩⟩
      rcases Classical.em ((0 ≤ w ∧ w ≤ M 0 12 - 1) ∧ (0 ≤ p ∧ p ≤ M 0 3 - 1)) with z0 | z0 <;> (first | rw [xi_t z0] | rw [xi_f z0]) <;> (first | rfl | (exfalso; simp only [xi_0, xi_n0] at *; grind [Int32.not_lt, Int32.not_le]))
    case g3_c_10 =>
      exact ⟨_, rfl⟩
    case g4_k_23 =>
      refine ⟨101, Or.inl ⟨rfl, rfl, ?_, rfl, rfl⟩⟩
      rcases Classical.em ((0 ≤ w ∧ w ≤ M 0 12 - 1) ∧ (0 ≤ p ∧ p ≤ M 0 3 - 1)) with z0 | z0 <;> (first | rw [xi_t z0] | rw [xi_f z0]) <;> (first | rfl | (exfalso; simp only [xi_0, xi_n0] at *; grind [Int32.not_lt, Int32.not_le]))
    case g5_k_23 =>
      refine ⟨101, Or.inl ⟨rfl, rfl, ?_, rfl, rfl⟩⟩
      rcases Classical.em ((0 ≤ w ∧ w ≤ M 0 12 - 1) ∧ (0 ≤ p ∧ p ≤ M 0 3 - 1)) with z0 | z0 <;> (first | rw [xi_t z0] | rw [xi_f z0]) <;> (first | rfl | (exfalso; simp only [xi_0, xi_n0] at *; grind [Int32.not_lt, Int32.not_le]))
def pM_absent (as : List Value) (M : xm_M) : Prop := ∃ p d : Int32, as = [.ref 0, .int p, .int d] ∧ xv_J M
noncomputable def fM_absent (as : List Value) (M : xm_M) : Option Value × xm_M := match as with
  | [_, .int p, .int d] => (some (.int (xi_b (xg_n (xi_b ((0 ≤ p ∧ p ≤ M 0 3 - 1))) (xi_b (0 ≤ d ∧ d ≤ 729)) 1 1 = 0 ∧ ym_abs M p d))), (xm_up M 0 0 (xq_t 3 (xg_n (xi_b ((0 ≤ p ∧ p ≤ M 0 3 - 1))) (xi_b (0 ≤ d ∧ d ≤ 729)) 1 1))))
  | _ => (none, M)
noncomputable abbrev sM_absent : xm_C := (0, 3, 1, pM_absent, fM_absent)
theorem vM_absent : ∀ as M, pM_absent as M → ∃ as1, as = .ref 0 :: as1 := by
  rintro as M ⟨p, d, rfl, hpre⟩
  exact ⟨_, rfl⟩
noncomputable def tM_absent : List (Nat × xm_C) := [(151, sM_isPerson), (112, sM_isDay), (116, sM_goes), (163, sM_isAbsent)]
theorem lM_absent (l : Launch) : ∀ n C, (n, C) ∈ tM_absent → xm_lkS l "AbsenceRowsModel" xt_T xk_ns (xr_ 2) xk_cl xk_tM n C ∨ xm_lkV l "AbsenceRowsModel" xt_T xk_ns (xr_ 2) xk_cl xk_tM n C := fun n C h => (show ∀ q ∈ tM_absent, xm_lkS l "AbsenceRowsModel" xt_T xk_ns (xr_ 2) xk_cl xk_tM q.1 q.2 ∨ xm_lkV l "AbsenceRowsModel" xt_T xk_ns (xr_ 2) xk_cl xk_tM q.1 q.2 from List.forall_mem_cons.mpr ⟨Or.inr ⟨xy_M_isPerson, xb_M_isPerson, 2, (some .boolean), xr_ 1, 1, 0, 7, [none, none, some 1, none, some 2, some 3, some 4, some 5, some 6, some 7, some 8, none, none, some 9, some 10, some 11, none, some 12, some 13, some 14, some 15, some 16, some 17, some 18, none, some 19, some 20, some 21, none, some 22, some 23, some 24, some 25, some 26, some 27, some 28, none], xk_T7, 37, rfl, rfl, ⟨xe_M_isPerson, xw_44, ⟨by decide, by decide, by decide +kernel⟩, ⟨Nat.le_of_ble_eq_true rfl, Nat.le_of_ble_eq_true rfl⟩, rfl, rfl⟩, xw_940, xw_942, xw_16, rfl, rfl, vM_isPerson, Or.inl ⟨rfl, uM_isPerson, cM_isPerson l⟩⟩, List.forall_mem_cons.mpr ⟨Or.inl ⟨xy_M_isDay, xb_M_isDay, 1, (some .boolean), xr_ 1, rfl, ⟨xe_M_isDay, xw_44, ⟨by decide, by decide, by decide +kernel⟩, ⟨Nat.le_of_ble_eq_true rfl, Nat.le_of_ble_eq_true rfl⟩, rfl, rfl⟩, xw_930, Or.inl xw_929, Or.inl ⟨rfl, uM_isDay, cM_isDay l⟩⟩, List.forall_mem_cons.mpr ⟨Or.inr ⟨xy_M_goes, xb_M_goes, 8, (some .boolean), xr_ 0, 5, 0, 7, [none, none, some 1, none, some 2, some 3, some 4, some 5, some 6, some 7, some 8, none, none, some 9, some 10, some 11, none, some 12, some 13, some 14, some 15, some 16, some 17, some 18, none, some 19, some 20, some 21, none, some 22, some 23, some 24, some 25, some 26, some 27, some 28, none], xk_T7, 37, rfl, rfl, ⟨xe_M_goes, xw_44, ⟨by decide, by decide, by decide +kernel⟩, ⟨Nat.le_of_ble_eq_true rfl, Nat.le_of_ble_eq_true rfl⟩, rfl, rfl⟩, xw_932, xw_934, xw_15, rfl, rfl, vM_goes, Or.inr ⟨rfl, cM_goes l⟩⟩, List.forall_mem_cons.mpr ⟨Or.inr ⟨xy_M_isAbsent, xb_M_isAbsent, 4, (some .boolean), xr_ 1, 2, 0, 7, [none, none, some 1, none, some 2, some 3, some 4, some 5, some 6, some 7, some 8, none, none, some 9, some 10, some 11, none, some 12, some 13, some 14, some 15, some 16, some 17, some 18, none, some 19, some 20, some 21, none, some 22, some 23, some 24, some 25, some 26, some 27, some 28, none], xk_T7, 37, rfl, rfl, ⟨xe_M_isAbsent, xw_44, ⟨by decide, by decide, by decide +kernel⟩, ⟨Nat.le_of_ble_eq_true rfl, Nat.le_of_ble_eq_true rfl⟩, rfl, rfl⟩, xw_1002, xw_1004, xw_25, rfl, rfl, vM_isAbsent, Or.inl ⟨rfl, uM_isAbsent, cM_isAbsent l⟩⟩, fun _ h => absurd h List.not_mem_nil⟩⟩⟩⟩) (n, C) h
set_option maxRecDepth 20000 in
set_option maxHeartbeats 2000000 in
theorem cM_absent (l : Launch) : xm_Wr l xy_M_absent (Cond.code xy_M_absent xb_M_absent 3 (some .boolean) :: xt_T) (xr_ 2) xk_cl xk_ns xk_tM pM_absent fM_absent := by
  refine xm_mk_wr (rt := .boolean) (fl := xf_M) (ct := tM_absent) (cn := []) (cj := xj_M) (plainFor_of_name (by decide)) xs_M xd_M_absent rfl (Or.inr rfl) (lM_absent l) (fun _ _ _ _ _ _ _ _ => False) ?_ ?_ ?_ (fun _ _ _ _ _ _ _ _ _ h => h.elim) ?_
  · rintro as M ⟨p, d, rfl, hpre⟩; exact Nat.le_of_ble_eq_true rfl
  · rintro as M ⟨p, d, rfl, hpre⟩; simp [fM_absent]
  · rintro as M v ⟨p, d, rfl, hpre⟩ h; first | rfl | (simp [fM_absent] at h)
  · rintro as M ⟨p, d, rfl, hpre⟩
    refine ⟨400, (And.intro rfl (And.intro (Nat.le_of_ble_eq_true rfl) (And.intro (Nat.le_of_ble_eq_true rfl) (And.intro ?g1_c_4 (And.intro rfl (And.intro (Nat.le_of_ble_eq_true rfl) (And.intro (Nat.le_of_ble_eq_true rfl) (And.intro ?g2_c_8 (And.intro rfl (And.intro (Nat.le_of_ble_eq_true rfl) (And.intro (Nat.le_of_ble_eq_true rfl) (And.intro ?g3_c_13 (And.intro (by decide) (And.intro (fun h16 => (And.intro ?g4_w_33 ?g5_r_33)) (fun h16 => (And.intro rfl (And.intro (Nat.le_of_ble_eq_true rfl) (And.intro (Nat.le_of_ble_eq_true rfl) (And.intro ?g6_c_22 (And.intro (by decide) (And.intro (fun h25 => (And.intro ?g7_w_33 ?g8_r_33)) (fun h25 => (And.intro (by decide) (And.intro ?g9_w_33 ?g10_r_33))))))))))))))))))))))))⟩
    case g1_c_4 =>
      exact ⟨_, rfl⟩
    case g2_c_8 =>
      exact ⟨_, rfl⟩
    case g3_c_13 =>
      exact ⟨_, _, _, _, _, rfl⟩
    case g4_w_33 =>
      first | rfl | exact xi_nb
    case g5_r_33 =>
      refine ⟨xl_some ?_, rfl⟩
      first
      | exact (xi_t ⟨xi_n0.mp h16, xi_n0.mp h25⟩).symm
      | exact (xi_f (fun z => xi_0.mp h25 z.2)).symm
      | exact (xi_f (fun z => xi_0.mp h16 z.1)).symm
    case g6_c_22 =>
      exact ⟨_, _, rfl, hpre.A1⟩
    case g7_w_33 =>
      first | rfl | exact xi_nb
    case g8_r_33 =>
      refine ⟨xl_some ?_, rfl⟩
      first
      | exact (xi_t ⟨xi_n0.mp h16, xi_n0.mp h25⟩).symm
      | exact (xi_f (fun z => xi_0.mp h25 z.2)).symm
      | exact (xi_f (fun z => xi_0.mp h16 z.1)).symm
    case g9_w_33 =>
      first | rfl | exact xi_nb
    case g10_r_33 =>
      refine ⟨xl_some ?_, rfl⟩
      first
      | exact (xi_t ⟨xi_n0.mp h16, xi_n0.mp h25⟩).symm
      | exact (xi_f (fun z => xi_0.mp h25 z.2)).symm
      | exact (xi_f (fun z => xi_0.mp h16 z.1)).symm
def pM_present (as : List Value) (M : xm_M) : Prop := ∃ w d : Int32, as = [.ref 0, .int w, .int d] ∧ xv_J M
noncomputable def fM_present (as : List Value) (M : xm_M) : Option Value × xm_M := match as with
  | [_, .int w, .int d] => (some (.int (xi_x (xg_n (xi_b ((0 ≤ w ∧ w ≤ M 0 12 - 1))) (xi_b (0 ≤ d ∧ d ≤ 729)) 1 1 = 0) (ym_cnt M w d) 0)), (xm_up M 0 0 (xq_t 3 (xg_n (xi_b ((0 ≤ w ∧ w ≤ M 0 12 - 1))) (xi_b (0 ≤ d ∧ d ≤ 729)) 1 1))))
  | _ => (none, M)
noncomputable abbrev sM_present : xm_C := (0, 3, 1, pM_present, fM_present)
theorem vM_present : ∀ as M, pM_present as M → ∃ as1, as = .ref 0 :: as1 := by
  rintro as M ⟨w, d, rfl, hpre⟩
  exact ⟨_, rfl⟩
noncomputable def tM_present : List (Nat × xm_C) := [(157, sM_isCrew), (112, sM_isDay), (116, sM_goes), (172, sM_count)]
theorem lM_present (l : Launch) : ∀ n C, (n, C) ∈ tM_present → xm_lkS l "AbsenceRowsModel" xt_T xk_ns (xr_ 4) xk_cl xk_tM n C ∨ xm_lkV l "AbsenceRowsModel" xt_T xk_ns (xr_ 4) xk_cl xk_tM n C := fun n C h => (show ∀ q ∈ tM_present, xm_lkS l "AbsenceRowsModel" xt_T xk_ns (xr_ 4) xk_cl xk_tM q.1 q.2 ∨ xm_lkV l "AbsenceRowsModel" xt_T xk_ns (xr_ 4) xk_cl xk_tM q.1 q.2 from List.forall_mem_cons.mpr ⟨Or.inr ⟨xy_M_isCrew, xb_M_isCrew, 2, (some .boolean), xr_ 1, 1, 0, 7, [none, none, some 1, none, some 2, some 3, some 4, some 5, some 6, some 7, some 8, none, none, some 9, some 10, some 11, none, some 12, some 13, some 14, some 15, some 16, some 17, some 18, none, some 19, some 20, some 21, none, some 22, some 23, some 24, some 25, some 26, some 27, some 28, none], xk_T7, 37, rfl, rfl, ⟨xe_M_isCrew, xw_44, ⟨by decide, by decide, by decide +kernel⟩, ⟨Nat.le_of_ble_eq_true rfl, Nat.le_of_ble_eq_true rfl⟩, rfl, rfl⟩, xw_994, xw_996, xw_24, rfl, rfl, vM_isCrew, Or.inl ⟨rfl, uM_isCrew, cM_isCrew l⟩⟩, List.forall_mem_cons.mpr ⟨Or.inl ⟨xy_M_isDay, xb_M_isDay, 1, (some .boolean), xr_ 1, rfl, ⟨xe_M_isDay, xw_44, ⟨by decide, by decide, by decide +kernel⟩, ⟨Nat.le_of_ble_eq_true rfl, Nat.le_of_ble_eq_true rfl⟩, rfl, rfl⟩, xw_930, Or.inl xw_929, Or.inl ⟨rfl, uM_isDay, cM_isDay l⟩⟩, List.forall_mem_cons.mpr ⟨Or.inr ⟨xy_M_goes, xb_M_goes, 8, (some .boolean), xr_ 0, 5, 0, 7, [none, none, some 1, none, some 2, some 3, some 4, some 5, some 6, some 7, some 8, none, none, some 9, some 10, some 11, none, some 12, some 13, some 14, some 15, some 16, some 17, some 18, none, some 19, some 20, some 21, none, some 22, some 23, some 24, some 25, some 26, some 27, some 28, none], xk_T7, 37, rfl, rfl, ⟨xe_M_goes, xw_44, ⟨by decide, by decide, by decide +kernel⟩, ⟨Nat.le_of_ble_eq_true rfl, Nat.le_of_ble_eq_true rfl⟩, rfl, rfl⟩, xw_932, xw_934, xw_15, rfl, rfl, vM_goes, Or.inr ⟨rfl, cM_goes l⟩⟩, List.forall_mem_cons.mpr ⟨Or.inr ⟨xy_M_count, xb_M_count, 5, (some .int), xr_ 3, 2, 0, 7, [none, none, some 1, none, some 2, some 3, some 4, some 5, some 6, some 7, some 8, none, none, some 9, some 10, some 11, none, some 12, some 13, some 14, some 15, some 16, some 17, some 18, none, some 19, some 20, some 21, none, some 22, some 23, some 24, some 25, some 26, some 27, some 28, none], xk_T7, 37, rfl, rfl, ⟨xe_M_count, xw_44, ⟨by decide, by decide, by decide +kernel⟩, ⟨Nat.le_of_ble_eq_true rfl, Nat.le_of_ble_eq_true rfl⟩, rfl, rfl⟩, xw_1010, xw_1012, xw_26, rfl, rfl, vM_count, Or.inl ⟨rfl, uM_count, cM_count l⟩⟩, fun _ h => absurd h List.not_mem_nil⟩⟩⟩⟩) (n, C) h
set_option maxRecDepth 20000 in
set_option maxHeartbeats 2000000 in
theorem cM_present (l : Launch) : xm_Wr l xy_M_present (Cond.code xy_M_present xb_M_present 3 (some .int) :: xt_T) (xr_ 4) xk_cl xk_ns xk_tM pM_present fM_present := by
  refine xm_mk_wr (rt := .int) (fl := xf_M) (ct := tM_present) (cn := []) (cj := xj_M) (plainFor_of_name (by decide)) xs_M xd_M_present rfl (Or.inr rfl) (lM_present l) (fun _ _ _ _ _ _ _ _ => False) ?_ ?_ ?_ (fun _ _ _ _ _ _ _ _ _ h => h.elim) ?_
  · rintro as M ⟨w, d, rfl, hpre⟩; exact Nat.le_of_ble_eq_true rfl
  · rintro as M ⟨w, d, rfl, hpre⟩; simp [fM_present]
  · rintro as M v ⟨w, d, rfl, hpre⟩ h; first | rfl | (simp [fM_present] at h)
  · rintro as M ⟨w, d, rfl, hpre⟩
    refine ⟨400, (And.intro rfl (And.intro (Nat.le_of_ble_eq_true rfl) (And.intro (Nat.le_of_ble_eq_true rfl) (And.intro ?g1_c_4 (And.intro rfl (And.intro (Nat.le_of_ble_eq_true rfl) (And.intro (Nat.le_of_ble_eq_true rfl) (And.intro ?g2_c_8 (And.intro rfl (And.intro (Nat.le_of_ble_eq_true rfl) (And.intro (Nat.le_of_ble_eq_true rfl) (And.intro ?g3_c_13 (And.intro (by decide) (And.intro (fun h16 => (And.intro rfl (And.intro (Nat.le_of_ble_eq_true rfl) (And.intro (Nat.le_of_ble_eq_true rfl) (And.intro ?g4_c_24 (And.intro ?g5_w_27 ?g6_r_27)))))) (fun h16 => (And.intro ?g7_w_20 ?g8_r_20))))))))))))))))⟩
    case g1_c_4 =>
      exact ⟨_, rfl⟩
    case g2_c_8 =>
      exact ⟨_, rfl⟩
    case g3_c_13 =>
      exact ⟨_, _, _, _, _, rfl⟩
    case g4_c_24 =>
      exact ⟨_, _, rfl, xl_has (by decide) hpre.W (xi_n0.mp (xg_0 (xi_n0.mp h16)).1), hpre.P, hpre.A1, hpre.L⟩
    case g5_w_27 =>
      first | rfl | exact xi_nb
    case g6_r_27 =>
      first
      | exact ⟨xl_some (xi_xf (xi_0.mp h16)).symm, (if_neg (xi_0.mp h16)).symm⟩
      | exact ⟨xl_some (xi_xf (xi_0.mp h16)).symm, rfl⟩
      | exact ⟨xl_some (xi_xt (xi_n0.mp h16)).symm, (if_pos (xi_n0.mp h16)).symm⟩
      | exact ⟨xl_some (xi_xt (xi_n0.mp h16)).symm, rfl⟩
      | exact ⟨rfl, (if_neg (xi_0.mp h16)).symm⟩
      | exact ⟨rfl, (if_pos (xi_n0.mp h16)).symm⟩
      | exact ⟨rfl, rfl⟩
    case g7_w_20 =>
      first | rfl | exact xi_nb
    case g8_r_20 =>
      first
      | exact ⟨xl_some (xi_xf (xi_0.mp h16)).symm, (if_neg (xi_0.mp h16)).symm⟩
      | exact ⟨xl_some (xi_xf (xi_0.mp h16)).symm, rfl⟩
      | exact ⟨xl_some (xi_xt (xi_n0.mp h16)).symm, (if_pos (xi_n0.mp h16)).symm⟩
      | exact ⟨xl_some (xi_xt (xi_n0.mp h16)).symm, rfl⟩
      | exact ⟨rfl, (if_neg (xi_0.mp h16)).symm⟩
      | exact ⟨rfl, (if_pos (xi_n0.mp h16)).symm⟩
      | exact ⟨rfl, rfl⟩
def pM_withdraw (as : List Value) (M : xm_M) : Prop := ∃ a : Int32, as = [.ref 0, .int a] ∧ xv_J M
noncomputable def fM_withdraw (as : List Value) (M : xm_M) : Option Value × xm_M := match as with
  | [_, .int a] => (some (.int (xi_x (xg_n (xi_b ((0 ≤ a ∧ a ≤ M 0 16 - 1))) 1 (xi_b ((0 ≤ a ∧ a ≤ M 0 16 - 1) ∧ ¬ M 17 a.toNatClampNeg = 3)) 1 = 0) (xd_hd (M 1) (M 14 a.toNatClampNeg) (M 15 a.toNatClampNeg) (M 16 a.toNatClampNeg)) 0)), @ite xm_M (xg_n (xi_b ((0 ≤ a ∧ a ≤ M 0 16 - 1))) 1 (xi_b ((0 ≤ a ∧ a ≤ M 0 16 - 1) ∧ ¬ M 17 a.toNatClampNeg = 3)) 1 = 0) (Classical.propDecidable _) ((xm_up (xm_up M 0 0 (xq_t 5 (xg_n (xi_b ((0 ≤ a ∧ a ≤ M 0 16 - 1))) 1 (xi_b ((0 ≤ a ∧ a ≤ M 0 16 - 1) ∧ ¬ M 17 a.toNatClampNeg = 3)) 1))) 17 a.toNatClampNeg 3)) (xm_up M 0 0 (xq_t 5 (xg_n (xi_b ((0 ≤ a ∧ a ≤ M 0 16 - 1))) 1 (xi_b ((0 ≤ a ∧ a ≤ M 0 16 - 1) ∧ ¬ M 17 a.toNatClampNeg = 3)) 1))))
  | _ => (none, M)
noncomputable abbrev sM_withdraw : xm_C := (0, 2, 1, pM_withdraw, fM_withdraw)
theorem vM_withdraw : ∀ as M, pM_withdraw as M → ∃ as1, as = .ref 0 :: as1 := by
  rintro as M ⟨a, rfl, hpre⟩
  exact ⟨_, rfl⟩
noncomputable def tM_withdraw : List (Nat × xm_C) := [(180, sM_isAsk), (116, sM_goes), (132, sM_takes)]
theorem lM_withdraw (l : Launch) : ∀ n C, (n, C) ∈ tM_withdraw → xm_lkS l "AbsenceRowsModel" xt_T xk_ns (xr_ 2) xk_cl xk_tM n C ∨ xm_lkV l "AbsenceRowsModel" xt_T xk_ns (xr_ 2) xk_cl xk_tM n C := fun n C h => (show ∀ q ∈ tM_withdraw, xm_lkS l "AbsenceRowsModel" xt_T xk_ns (xr_ 2) xk_cl xk_tM q.1 q.2 ∨ xm_lkV l "AbsenceRowsModel" xt_T xk_ns (xr_ 2) xk_cl xk_tM q.1 q.2 from List.forall_mem_cons.mpr ⟨Or.inr ⟨xy_M_isAsk, xb_M_isAsk, 2, (some .boolean), xr_ 1, 1, 0, 7, [none, none, some 1, none, some 2, some 3, some 4, some 5, some 6, some 7, some 8, none, none, some 9, some 10, some 11, none, some 12, some 13, some 14, some 15, some 16, some 17, some 18, none, some 19, some 20, some 21, none, some 22, some 23, some 24, some 25, some 26, some 27, some 28, none], xk_T7, 37, rfl, rfl, ⟨xe_M_isAsk, xw_44, ⟨by decide, by decide, by decide +kernel⟩, ⟨Nat.le_of_ble_eq_true rfl, Nat.le_of_ble_eq_true rfl⟩, rfl, rfl⟩, xw_1034, xw_1036, xw_30, rfl, rfl, vM_isAsk, Or.inl ⟨rfl, uM_isAsk, cM_isAsk l⟩⟩, List.forall_mem_cons.mpr ⟨Or.inr ⟨xy_M_goes, xb_M_goes, 8, (some .boolean), xr_ 0, 5, 0, 7, [none, none, some 1, none, some 2, some 3, some 4, some 5, some 6, some 7, some 8, none, none, some 9, some 10, some 11, none, some 12, some 13, some 14, some 15, some 16, some 17, some 18, none, some 19, some 20, some 21, none, some 22, some 23, some 24, some 25, some 26, some 27, some 28, none], xk_T7, 37, rfl, rfl, ⟨xe_M_goes, xw_44, ⟨by decide, by decide, by decide +kernel⟩, ⟨Nat.le_of_ble_eq_true rfl, Nat.le_of_ble_eq_true rfl⟩, rfl, rfl⟩, xw_932, xw_934, xw_15, rfl, rfl, vM_goes, Or.inr ⟨rfl, cM_goes l⟩⟩, List.forall_mem_cons.mpr ⟨Or.inr ⟨xy_M_takes, xb_M_takes, 4, (some .int), xr_ 1, 1, 0, 7, [none, none, some 1, none, some 2, some 3, some 4, some 5, some 6, some 7, some 8, none, none, some 9, some 10, some 11, none, some 12, some 13, some 14, some 15, some 16, some 17, some 18, none, some 19, some 20, some 21, none, some 22, some 23, some 24, some 25, some 26, some 27, some 28, none], xk_T7, 37, rfl, rfl, ⟨xe_M_takes, xw_44, ⟨by decide, by decide, by decide +kernel⟩, ⟨Nat.le_of_ble_eq_true rfl, Nat.le_of_ble_eq_true rfl⟩, rfl, rfl⟩, xw_957, xw_959, xw_20, rfl, rfl, vM_takes, Or.inl ⟨rfl, uM_takes, cM_takes l⟩⟩, fun _ h => absurd h List.not_mem_nil⟩⟩⟩) (n, C) h
set_option maxRecDepth 20000 in
set_option maxHeartbeats 2000000 in
theorem cM_withdraw (l : Launch) : xm_Wr l xy_M_withdraw (Cond.code xy_M_withdraw xb_M_withdraw 2 (some .int) :: xt_T) (xr_ 2) xk_cl xk_ns xk_tM pM_withdraw fM_withdraw := by
  refine xm_mk_wr (rt := .int) (fl := xf_M) (ct := tM_withdraw) (cn := []) (cj := xj_M) (plainFor_of_name (by decide)) xs_M xd_M_withdraw rfl (Or.inr rfl) (lM_withdraw l) (fun as M j pc ls st M2 cl => match as with | [_, .int a] => (j = 1000000 ∧ pc = 32 ∧ ls = [(0, .ref 0), (1, .int a)] ∧ st = [.int 1, .int (xi_b ((0 ≤ a ∧ a ≤ M 0 16 - 1) ∧ ¬ M 17 a.toNatClampNeg = 3)), .int 1, .int (xi_b ((0 ≤ a ∧ a ≤ M 0 16 - 1))), .int 5, .ref 0] ∧ M2 = M) | _ => False) ?_ ?_ ?_ ?_ ?_
  · rintro as M ⟨a, rfl, hpre⟩; exact Nat.le_of_ble_eq_true rfl
  · rintro as M ⟨a, rfl, hpre⟩; simp [fM_withdraw]
  · rintro as M v ⟨a, rfl, hpre⟩ h; first | rfl | (simp [fM_withdraw] at h)
  · rintro as M ⟨a, rfl, hpre⟩ j pc ls st M2 cl ⟨hj, rfl, rfl, rfl, rfl⟩
    refine ⟨400, (And.intro rfl (And.intro (Nat.le_of_ble_eq_true rfl) (And.intro (Nat.le_of_ble_eq_true rfl) (And.intro ?g1001_c_32 (And.intro (by decide) (And.intro (fun h35 => (And.intro rfl (And.intro rfl (And.intro ?g1002_i_46 (And.intro rfl (And.intro (Nat.le_of_ble_eq_true rfl) (And.intro (Nat.le_of_ble_eq_true rfl) (And.intro ?g1003_c_49 (And.intro ?g1004_w_52 ?g1005_r_52))))))))) (fun h35 => (And.intro ?g1006_w_39 ?g1007_r_39))))))))⟩
    case g1001_c_32 =>
      exact ⟨_, _, _, _, _, rfl⟩
    case g1002_i_46 =>
      exact yl_81 (xl_has (by decide) hpre.A (xi_n0.mp (xg_0 (xi_n0.mp h35)).1))
    case g1003_c_49 =>
      exact ⟨_, rfl, yl_81 (xl_has (by decide) hpre.A (xi_n0.mp (xg_0 (xi_n0.mp h35)).1)), (hpre.a (xi_n0.mp (xg_0 (xi_n0.mp h35)).1)).1⟩
    case g1004_w_52 =>
      first | rfl | exact xi_nb
    case g1005_r_52 =>
      first
      | exact ⟨xl_some (xi_xf (xi_0.mp h35)).symm, (if_neg (xi_0.mp h35)).symm⟩
      | exact ⟨xl_some (xi_xf (xi_0.mp h35)).symm, rfl⟩
      | exact ⟨xl_some (xi_xt (xi_n0.mp h35)).symm, (if_pos (xi_n0.mp h35)).symm⟩
      | exact ⟨xl_some (xi_xt (xi_n0.mp h35)).symm, rfl⟩
      | exact ⟨rfl, (if_neg (xi_0.mp h35)).symm⟩
      | exact ⟨rfl, (if_pos (xi_n0.mp h35)).symm⟩
      | exact ⟨rfl, rfl⟩
    case g1006_w_39 =>
      first | rfl | exact xi_nb
    case g1007_r_39 =>
      first
      | exact ⟨xl_some (xi_xf (xi_0.mp h35)).symm, (if_neg (xi_0.mp h35)).symm⟩
      | exact ⟨xl_some (xi_xf (xi_0.mp h35)).symm, rfl⟩
      | exact ⟨xl_some (xi_xt (xi_n0.mp h35)).symm, (if_pos (xi_n0.mp h35)).symm⟩
      | exact ⟨xl_some (xi_xt (xi_n0.mp h35)).symm, rfl⟩
      | exact ⟨rfl, (if_neg (xi_0.mp h35)).symm⟩
      | exact ⟨rfl, (if_pos (xi_n0.mp h35)).symm⟩
      | exact ⟨rfl, rfl⟩
  · rintro as M ⟨a, rfl, hpre⟩
    refine ⟨400, (And.intro rfl (And.intro (Nat.le_of_ble_eq_true rfl) (And.intro (Nat.le_of_ble_eq_true rfl) (And.intro ?g1_c_4 (And.intro rfl (And.intro (Nat.le_of_ble_eq_true rfl) (And.intro (Nat.le_of_ble_eq_true rfl) (And.intro ?g2_c_10 (And.intro (by decide) (And.intro (fun h13 => ?g3_k_32) (fun h13 => (And.intro rfl (And.intro rfl (And.intro ?g4_i_21 (And.intro (by decide) (And.intro (fun h23 => ?g5_k_32) (fun h23 => (And.intro (by decide) ?g6_k_32))))))))))))))))))⟩
    case g1_c_4 =>
      exact ⟨_, rfl⟩
    case g2_c_10 =>
      exact ⟨_, rfl⟩
    case g3_k_32 =>
      refine ⟨1000000, ⟨rfl, rfl, rfl, ?_, rfl⟩⟩
      rcases Classical.em ((0 ≤ a ∧ a ≤ M 0 16 - 1) ∧ ¬ M 17 a.toNatClampNeg = 3) with z0 | z0 <;> (first | rw [xi_t z0] | rw [xi_f z0] | skip) <;> (first | rfl | (exfalso; simp only [xi_0, xi_n0] at *; grind [Int32.not_lt, Int32.not_le]))
    case g4_i_21 =>
      exact yl_81 (xl_has (by decide) hpre.A (xi_n0.mp h13))
    case g5_k_32 =>
      refine ⟨1000000, ⟨rfl, rfl, rfl, ?_, rfl⟩⟩
      rcases Classical.em ((0 ≤ a ∧ a ≤ M 0 16 - 1) ∧ ¬ M 17 a.toNatClampNeg = 3) with z0 | z0 <;> (first | rw [xi_t z0] | rw [xi_f z0] | skip) <;> (first | rfl | (exfalso; simp only [xi_0, xi_n0] at *; grind [Int32.not_lt, Int32.not_le]))
    case g6_k_32 =>
      refine ⟨1000000, ⟨rfl, rfl, rfl, ?_, rfl⟩⟩
      rcases Classical.em ((0 ≤ a ∧ a ≤ M 0 16 - 1) ∧ ¬ M 17 a.toNatClampNeg = 3) with z0 | z0 <;> (first | rw [xi_t z0] | rw [xi_f z0] | skip) <;> (first | rfl | (exfalso; simp only [xi_0, xi_n0] at *; grind [Int32.not_lt, Int32.not_le]))
def pM_askAt (as : List Value) (M : xm_M) : Prop := ∃ a x : Int32, as = [.ref 0, .int a, .int x] ∧ xv_J M
noncomputable def fM_askAt (as : List Value) (M : xm_M) : Option Value × xm_M := match as with
  | [_, .int a, .int x] => (some (.int (xi_x (xg_n (xi_b ((0 ≤ a ∧ a ≤ M 0 16 - 1) ∧ (0 ≤ x ∧ x ≤ 4))) 1 1 1 = 0) (xi_x (x = 0) (M 17 a.toNatClampNeg) (xi_x (x = 1) (xd_hd (M 1) (M 14 a.toNatClampNeg) (M 15 a.toNatClampNeg) (M 16 a.toNatClampNeg)) (xi_x (x = 2) (M 18 a.toNatClampNeg) (xi_x (x = 3) (M 12 a.toNatClampNeg) (M 13 a.toNatClampNeg))))) 0)), (xm_up M 0 0 (xq_t 1 (xg_n (xi_b ((0 ≤ a ∧ a ≤ M 0 16 - 1) ∧ (0 ≤ x ∧ x ≤ 4))) 1 1 1))))
  | _ => (none, M)
noncomputable abbrev sM_askAt : xm_C := (0, 3, 1, pM_askAt, fM_askAt)
theorem vM_askAt : ∀ as M, pM_askAt as M → ∃ as1, as = .ref 0 :: as1 := by
  rintro as M ⟨a, x, rfl, hpre⟩
  exact ⟨_, rfl⟩
noncomputable def tM_askAt : List (Nat × xm_C) := [(180, sM_isAsk), (102, sM_in), (116, sM_goes), (132, sM_takes)]
theorem lM_askAt (l : Launch) : ∀ n C, (n, C) ∈ tM_askAt → xm_lkS l "AbsenceRowsModel" xt_T xk_ns (xr_ 2) xk_cl xk_tM n C ∨ xm_lkV l "AbsenceRowsModel" xt_T xk_ns (xr_ 2) xk_cl xk_tM n C := fun n C h => (show ∀ q ∈ tM_askAt, xm_lkS l "AbsenceRowsModel" xt_T xk_ns (xr_ 2) xk_cl xk_tM q.1 q.2 ∨ xm_lkV l "AbsenceRowsModel" xt_T xk_ns (xr_ 2) xk_cl xk_tM q.1 q.2 from List.forall_mem_cons.mpr ⟨Or.inr ⟨xy_M_isAsk, xb_M_isAsk, 2, (some .boolean), xr_ 1, 1, 0, 7, [none, none, some 1, none, some 2, some 3, some 4, some 5, some 6, some 7, some 8, none, none, some 9, some 10, some 11, none, some 12, some 13, some 14, some 15, some 16, some 17, some 18, none, some 19, some 20, some 21, none, some 22, some 23, some 24, some 25, some 26, some 27, some 28, none], xk_T7, 37, rfl, rfl, ⟨xe_M_isAsk, xw_44, ⟨by decide, by decide, by decide +kernel⟩, ⟨Nat.le_of_ble_eq_true rfl, Nat.le_of_ble_eq_true rfl⟩, rfl, rfl⟩, xw_1034, xw_1036, xw_30, rfl, rfl, vM_isAsk, Or.inl ⟨rfl, uM_isAsk, cM_isAsk l⟩⟩, List.forall_mem_cons.mpr ⟨Or.inl ⟨xy_M_in, xb_M_in, 3, (some .boolean), xr_ 0, rfl, ⟨xe_M_in, xw_44, ⟨by decide, by decide, by decide +kernel⟩, ⟨Nat.le_of_ble_eq_true rfl, Nat.le_of_ble_eq_true rfl⟩, rfl, rfl⟩, xw_927, Or.inl xw_926, Or.inl ⟨rfl, uM_in, cM_in l⟩⟩, List.forall_mem_cons.mpr ⟨Or.inr ⟨xy_M_goes, xb_M_goes, 8, (some .boolean), xr_ 0, 5, 0, 7, [none, none, some 1, none, some 2, some 3, some 4, some 5, some 6, some 7, some 8, none, none, some 9, some 10, some 11, none, some 12, some 13, some 14, some 15, some 16, some 17, some 18, none, some 19, some 20, some 21, none, some 22, some 23, some 24, some 25, some 26, some 27, some 28, none], xk_T7, 37, rfl, rfl, ⟨xe_M_goes, xw_44, ⟨by decide, by decide, by decide +kernel⟩, ⟨Nat.le_of_ble_eq_true rfl, Nat.le_of_ble_eq_true rfl⟩, rfl, rfl⟩, xw_932, xw_934, xw_15, rfl, rfl, vM_goes, Or.inr ⟨rfl, cM_goes l⟩⟩, List.forall_mem_cons.mpr ⟨Or.inr ⟨xy_M_takes, xb_M_takes, 4, (some .int), xr_ 1, 1, 0, 7, [none, none, some 1, none, some 2, some 3, some 4, some 5, some 6, some 7, some 8, none, none, some 9, some 10, some 11, none, some 12, some 13, some 14, some 15, some 16, some 17, some 18, none, some 19, some 20, some 21, none, some 22, some 23, some 24, some 25, some 26, some 27, some 28, none], xk_T7, 37, rfl, rfl, ⟨xe_M_takes, xw_44, ⟨by decide, by decide, by decide +kernel⟩, ⟨Nat.le_of_ble_eq_true rfl, Nat.le_of_ble_eq_true rfl⟩, rfl, rfl⟩, xw_957, xw_959, xw_20, rfl, rfl, vM_takes, Or.inl ⟨rfl, uM_takes, cM_takes l⟩⟩, fun _ h => absurd h List.not_mem_nil⟩⟩⟩⟩) (n, C) h
set_option maxRecDepth 20000 in
set_option maxHeartbeats 2000000 in
theorem cM_askAt (l : Launch) : xm_Wr l xy_M_askAt (Cond.code xy_M_askAt xb_M_askAt 3 (some .int) :: xt_T) (xr_ 2) xk_cl xk_ns xk_tM pM_askAt fM_askAt := by
  refine xm_mk_wr (rt := .int) (fl := xf_M) (ct := tM_askAt) (cn := []) (cj := xj_M) (plainFor_of_name (by decide)) xs_M xd_M_askAt rfl (Or.inr rfl) (lM_askAt l) (fun as M j pc ls st M2 cl => match as with | [_, .int a, .int x] => (j = 1000000 ∧ pc = 27 ∧ ls = [(0, .ref 0), (1, .int a), (2, .int x)] ∧ st = [.int 1, .int 1, .int 1, .int (xi_b ((0 ≤ a ∧ a ≤ M 0 16 - 1) ∧ (0 ≤ x ∧ x ≤ 4))), .int 1, .ref 0] ∧ M2 = M) | _ => False) ?_ ?_ ?_ ?_ ?_
  · rintro as M ⟨a, x, rfl, hpre⟩; exact Nat.le_of_ble_eq_true rfl
  · rintro as M ⟨a, x, rfl, hpre⟩; simp [fM_askAt]
  · rintro as M v ⟨a, x, rfl, hpre⟩ h; first | rfl | (simp [fM_askAt] at h)
  · rintro as M ⟨a, x, rfl, hpre⟩ j pc ls st M2 cl ⟨hj, rfl, rfl, rfl, rfl⟩
    refine ⟨400, (And.intro rfl (And.intro (Nat.le_of_ble_eq_true rfl) (And.intro (Nat.le_of_ble_eq_true rfl) (And.intro ?g1001_c_27 (And.intro (by decide) (And.intro (fun h30 => (And.intro (by decide) (And.intro (fun h36 => (And.intro (by decide) (And.intro (fun h50 => (And.intro (by decide) (And.intro (fun h63 => (And.intro (by decide) (And.intro (fun h77 => (And.intro rfl (And.intro rfl (And.intro ?g1002_i_94 (And.intro ?g1003_w_95 ?g1004_r_95))))) (fun h77 => (And.intro rfl (And.intro rfl (And.intro ?g1005_i_85 (And.intro (by decide) (And.intro ?g1006_w_95 ?g1007_r_95))))))))) (fun h63 => (And.intro rfl (And.intro rfl (And.intro ?g1008_i_71 (And.intro (by decide) (And.intro ?g1009_w_95 ?g1010_r_95))))))))) (fun h50 => (And.intro rfl (And.intro (Nat.le_of_ble_eq_true rfl) (And.intro (Nat.le_of_ble_eq_true rfl) (And.intro ?g1011_c_55 (And.intro (by decide) (And.intro ?g1012_w_95 ?g1013_r_95)))))))))) (fun h36 => (And.intro rfl (And.intro rfl (And.intro ?g1014_i_44 (And.intro (by decide) (And.intro ?g1015_w_95 ?g1016_r_95))))))))) (fun h30 => (And.intro ?g1017_w_34 ?g1018_r_34))))))))⟩
    case g1001_c_27 =>
      exact ⟨_, _, _, _, _, rfl⟩
    case g1002_i_94 =>
      exact yl_81 (xl_has (by decide) hpre.A (xi_n0.mp (xg_0 (xi_n0.mp h30)).1).1)
    case g1003_w_95 =>
      first | rfl | exact xi_nb
    case g1004_r_95 =>
      first
      | exact ⟨xl_some (xi_xf (xi_0.mp h30)).symm, rfl⟩
      | (refine ⟨xl_some (Eq.trans (b := xi_x (x = 0) (M2 17 a.toNatClampNeg) (xi_x (x = 1) (xd_hd (M2 1) (M2 14 a.toNatClampNeg) (M2 15 a.toNatClampNeg) (M2 16 a.toNatClampNeg)) (xi_x (x = 2) (M2 18 a.toNatClampNeg) (xi_x (x = 3) (M2 12 a.toNatClampNeg) (M2 13 a.toNatClampNeg))))) ?_ (xi_xt (xi_n0.mp h30)).symm), rfl⟩
         first
         | exact (xi_xt h36).symm
         | exact ((xi_xf h36).trans (xi_xt h50)).symm
         | exact ((xi_xf h36).trans (((xi_xf h50).trans (xi_xt h63)))).symm
         | exact ((xi_xf h36).trans (((xi_xf h50).trans (((xi_xf h63).trans (xi_xt h77)))))).symm
         | exact ((xi_xf h36).trans (((xi_xf h50).trans (((xi_xf h63).trans ((xi_xf h77))))))).symm)
    case g1005_i_85 =>
      exact yl_81 (xl_has (by decide) hpre.A (xi_n0.mp (xg_0 (xi_n0.mp h30)).1).1)
    case g1006_w_95 =>
      first | rfl | exact xi_nb
    case g1007_r_95 =>
      first
      | exact ⟨xl_some (xi_xf (xi_0.mp h30)).symm, rfl⟩
      | (refine ⟨xl_some (Eq.trans (b := xi_x (x = 0) (M2 17 a.toNatClampNeg) (xi_x (x = 1) (xd_hd (M2 1) (M2 14 a.toNatClampNeg) (M2 15 a.toNatClampNeg) (M2 16 a.toNatClampNeg)) (xi_x (x = 2) (M2 18 a.toNatClampNeg) (xi_x (x = 3) (M2 12 a.toNatClampNeg) (M2 13 a.toNatClampNeg))))) ?_ (xi_xt (xi_n0.mp h30)).symm), rfl⟩
         first
         | exact (xi_xt h36).symm
         | exact ((xi_xf h36).trans (xi_xt h50)).symm
         | exact ((xi_xf h36).trans (((xi_xf h50).trans (xi_xt h63)))).symm
         | exact ((xi_xf h36).trans (((xi_xf h50).trans (((xi_xf h63).trans (xi_xt h77)))))).symm
         | exact ((xi_xf h36).trans (((xi_xf h50).trans (((xi_xf h63).trans ((xi_xf h77))))))).symm)
    case g1008_i_71 =>
      exact yl_81 (xl_has (by decide) hpre.A (xi_n0.mp (xg_0 (xi_n0.mp h30)).1).1)
    case g1009_w_95 =>
      first | rfl | exact xi_nb
    case g1010_r_95 =>
      first
      | exact ⟨xl_some (xi_xf (xi_0.mp h30)).symm, rfl⟩
      | (refine ⟨xl_some (Eq.trans (b := xi_x (x = 0) (M2 17 a.toNatClampNeg) (xi_x (x = 1) (xd_hd (M2 1) (M2 14 a.toNatClampNeg) (M2 15 a.toNatClampNeg) (M2 16 a.toNatClampNeg)) (xi_x (x = 2) (M2 18 a.toNatClampNeg) (xi_x (x = 3) (M2 12 a.toNatClampNeg) (M2 13 a.toNatClampNeg))))) ?_ (xi_xt (xi_n0.mp h30)).symm), rfl⟩
         first
         | exact (xi_xt h36).symm
         | exact ((xi_xf h36).trans (xi_xt h50)).symm
         | exact ((xi_xf h36).trans (((xi_xf h50).trans (xi_xt h63)))).symm
         | exact ((xi_xf h36).trans (((xi_xf h50).trans (((xi_xf h63).trans (xi_xt h77)))))).symm
         | exact ((xi_xf h36).trans (((xi_xf h50).trans (((xi_xf h63).trans ((xi_xf h77))))))).symm)
    case g1011_c_55 =>
      exact ⟨_, rfl, yl_81 (xl_has (by decide) hpre.A (xi_n0.mp (xg_0 (xi_n0.mp h30)).1).1), (hpre.a (xi_n0.mp (xg_0 (xi_n0.mp h30)).1).1).1⟩
    case g1012_w_95 =>
      first | rfl | exact xi_nb
    case g1013_r_95 =>
      first
      | exact ⟨xl_some (xi_xf (xi_0.mp h30)).symm, rfl⟩
      | (refine ⟨xl_some (Eq.trans (b := xi_x (x = 0) (M2 17 a.toNatClampNeg) (xi_x (x = 1) (xd_hd (M2 1) (M2 14 a.toNatClampNeg) (M2 15 a.toNatClampNeg) (M2 16 a.toNatClampNeg)) (xi_x (x = 2) (M2 18 a.toNatClampNeg) (xi_x (x = 3) (M2 12 a.toNatClampNeg) (M2 13 a.toNatClampNeg))))) ?_ (xi_xt (xi_n0.mp h30)).symm), rfl⟩
         first
         | exact (xi_xt h36).symm
         | exact ((xi_xf h36).trans (xi_xt h50)).symm
         | exact ((xi_xf h36).trans (((xi_xf h50).trans (xi_xt h63)))).symm
         | exact ((xi_xf h36).trans (((xi_xf h50).trans (((xi_xf h63).trans (xi_xt h77)))))).symm
         | exact ((xi_xf h36).trans (((xi_xf h50).trans (((xi_xf h63).trans ((xi_xf h77))))))).symm)
    case g1014_i_44 =>
      exact yl_81 (xl_has (by decide) hpre.A (xi_n0.mp (xg_0 (xi_n0.mp h30)).1).1)
    case g1015_w_95 =>
      first | rfl | exact xi_nb
    case g1016_r_95 =>
      first
      | exact ⟨xl_some (xi_xf (xi_0.mp h30)).symm, rfl⟩
      | (refine ⟨xl_some (Eq.trans (b := xi_x (x = 0) (M2 17 a.toNatClampNeg) (xi_x (x = 1) (xd_hd (M2 1) (M2 14 a.toNatClampNeg) (M2 15 a.toNatClampNeg) (M2 16 a.toNatClampNeg)) (xi_x (x = 2) (M2 18 a.toNatClampNeg) (xi_x (x = 3) (M2 12 a.toNatClampNeg) (M2 13 a.toNatClampNeg))))) ?_ (xi_xt (xi_n0.mp h30)).symm), rfl⟩
         first
         | exact (xi_xt h36).symm
         | exact ((xi_xf h36).trans (xi_xt h50)).symm
         | exact ((xi_xf h36).trans (((xi_xf h50).trans (xi_xt h63)))).symm
         | exact ((xi_xf h36).trans (((xi_xf h50).trans (((xi_xf h63).trans (xi_xt h77)))))).symm
         | exact ((xi_xf h36).trans (((xi_xf h50).trans (((xi_xf h63).trans ((xi_xf h77))))))).symm)
    case g1017_w_34 =>
      first | rfl | exact xi_nb
    case g1018_r_34 =>
      first
      | exact ⟨xl_some (xi_xf (xi_0.mp h30)).symm, rfl⟩
      | (refine ⟨xl_some (Eq.trans (b := xi_x (x = 0) (M2 17 a.toNatClampNeg) (xi_x (x = 1) (xd_hd (M2 1) (M2 14 a.toNatClampNeg) (M2 15 a.toNatClampNeg) (M2 16 a.toNatClampNeg)) (xi_x (x = 2) (M2 18 a.toNatClampNeg) (xi_x (x = 3) (M2 12 a.toNatClampNeg) (M2 13 a.toNatClampNeg))))) ?_ (xi_xt (xi_n0.mp h30)).symm), rfl⟩
         first
         | exact (xi_xt h36).symm
         | exact ((xi_xf h36).trans (xi_xt h50)).symm
         | exact ((xi_xf h36).trans (((xi_xf h50).trans (xi_xt h63)))).symm
         | exact ((xi_xf h36).trans (((xi_xf h50).trans (((xi_xf h63).trans (xi_xt h77)))))).symm
         | exact ((xi_xf h36).trans (((xi_xf h50).trans (((xi_xf h63).trans ((xi_xf h77))))))).symm)
  · rintro as M ⟨a, x, rfl, hpre⟩
    refine ⟨400, (And.intro rfl (And.intro (Nat.le_of_ble_eq_true rfl) (And.intro (Nat.le_of_ble_eq_true rfl) (And.intro ?g1_c_4 (And.intro (by decide) (And.intro (fun h7 => ?g2_k_27) (fun h7 => (And.intro rfl (And.intro (Nat.le_of_ble_eq_true rfl) (And.intro (Nat.le_of_ble_eq_true rfl) (And.intro ?g3_c_13 (And.intro (by decide) (And.intro (fun h16 => ?g4_k_27) (fun h16 => (And.intro (by decide) ?g5_k_27)))))))))))))))⟩
    case g1_c_4 =>
      exact ⟨_, rfl⟩
    case g2_k_27 =>
      refine ⟨1000000, ⟨rfl, rfl, rfl, ?_, rfl⟩⟩
      rcases Classical.em ((0 ≤ a ∧ a ≤ M 0 16 - 1) ∧ (0 ≤ x ∧ x ≤ 4)) with z0 | z0 <;> (first | rw [xi_t z0] | rw [xi_f z0] | skip) <;> (first | rfl | (exfalso; simp only [xi_0, xi_n0] at *; grind [Int32.not_lt, Int32.not_le]))
    case g3_c_13 =>
      exact ⟨_, _, _, rfl⟩
    case g4_k_27 =>
      refine ⟨1000000, ⟨rfl, rfl, rfl, ?_, rfl⟩⟩
      rcases Classical.em ((0 ≤ a ∧ a ≤ M 0 16 - 1) ∧ (0 ≤ x ∧ x ≤ 4)) with z0 | z0 <;> (first | rw [xi_t z0] | rw [xi_f z0] | skip) <;> (first | rfl | (exfalso; simp only [xi_0, xi_n0] at *; grind [Int32.not_lt, Int32.not_le]))
    case g5_k_27 =>
      refine ⟨1000000, ⟨rfl, rfl, rfl, ?_, rfl⟩⟩
      rcases Classical.em ((0 ≤ a ∧ a ≤ M 0 16 - 1) ∧ (0 ≤ x ∧ x ≤ 4)) with z0 | z0 <;> (first | rw [xi_t z0] | rw [xi_f z0] | skip) <;> (first | rfl | (exfalso; simp only [xi_0, xi_n0] at *; grind [Int32.not_lt, Int32.not_le]))
def pM_held (as : List Value) (M : xm_M) : Prop := ∃ i x : Int32, as = [.ref 0, .int i, .int x] ∧ xv_J M
noncomputable def fM_held (as : List Value) (M : xm_M) : Option Value × xm_M := match as with
  | [_, .int i, .int x] => (some (.int (xi_x (xg_n (xi_b ((0 ≤ i ∧ i ≤ M 0 24 - 1) ∧ (0 ≤ x ∧ x ≤ 2))) 1 1 1 = 0) (xi_x (x = 0) (M 19 i.toNatClampNeg) (xi_x (x = 1) (M 20 i.toNatClampNeg) (M 21 i.toNatClampNeg))) 0)), (xm_up M 0 0 (xq_t 1 (xg_n (xi_b ((0 ≤ i ∧ i ≤ M 0 24 - 1) ∧ (0 ≤ x ∧ x ≤ 2))) 1 1 1))))
  | _ => (none, M)
noncomputable abbrev sM_held : xm_C := (0, 3, 1, pM_held, fM_held)
theorem vM_held : ∀ as M, pM_held as M → ∃ as1, as = .ref 0 :: as1 := by
  rintro as M ⟨i, x, rfl, hpre⟩
  exact ⟨_, rfl⟩
noncomputable def tM_held : List (Nat × xm_C) := [(102, sM_in), (116, sM_goes)]
theorem lM_held (l : Launch) : ∀ n C, (n, C) ∈ tM_held → xm_lkS l "AbsenceRowsModel" xt_T xk_ns (xr_ 1) xk_cl xk_tM n C ∨ xm_lkV l "AbsenceRowsModel" xt_T xk_ns (xr_ 1) xk_cl xk_tM n C := fun n C h => (show ∀ q ∈ tM_held, xm_lkS l "AbsenceRowsModel" xt_T xk_ns (xr_ 1) xk_cl xk_tM q.1 q.2 ∨ xm_lkV l "AbsenceRowsModel" xt_T xk_ns (xr_ 1) xk_cl xk_tM q.1 q.2 from List.forall_mem_cons.mpr ⟨Or.inl ⟨xy_M_in, xb_M_in, 3, (some .boolean), xr_ 0, rfl, ⟨xe_M_in, xw_44, ⟨by decide, by decide, by decide +kernel⟩, ⟨Nat.le_of_ble_eq_true rfl, Nat.le_of_ble_eq_true rfl⟩, rfl, rfl⟩, xw_927, Or.inl xw_926, Or.inl ⟨rfl, uM_in, cM_in l⟩⟩, List.forall_mem_cons.mpr ⟨Or.inr ⟨xy_M_goes, xb_M_goes, 8, (some .boolean), xr_ 0, 5, 0, 7, [none, none, some 1, none, some 2, some 3, some 4, some 5, some 6, some 7, some 8, none, none, some 9, some 10, some 11, none, some 12, some 13, some 14, some 15, some 16, some 17, some 18, none, some 19, some 20, some 21, none, some 22, some 23, some 24, some 25, some 26, some 27, some 28, none], xk_T7, 37, rfl, rfl, ⟨xe_M_goes, xw_44, ⟨by decide, by decide, by decide +kernel⟩, ⟨Nat.le_of_ble_eq_true rfl, Nat.le_of_ble_eq_true rfl⟩, rfl, rfl⟩, xw_932, xw_934, xw_15, rfl, rfl, vM_goes, Or.inr ⟨rfl, cM_goes l⟩⟩, fun _ h => absurd h List.not_mem_nil⟩⟩) (n, C) h
set_option maxRecDepth 20000 in
set_option maxHeartbeats 2000000 in
theorem cM_held (l : Launch) : xm_Wr l xy_M_held (Cond.code xy_M_held xb_M_held 3 (some .int) :: xt_T) (xr_ 1) xk_cl xk_ns xk_tM pM_held fM_held := by
  refine xm_mk_wr (rt := .int) (fl := xf_M) (ct := tM_held) (cn := []) (cj := xj_M) (plainFor_of_name (by decide)) xs_M xd_M_held rfl (Or.inr rfl) (lM_held l) (fun as M j pc ls st M2 cl => match as with | [_, .int i, .int x] => (j = 1000000 ∧ pc = 33 ∧ ls = [(0, .ref 0), (1, .int i), (2, .int x)] ∧ st = [.int 1, .int 1, .int 1, .int (xi_b ((0 ≤ i ∧ i ≤ M 0 24 - 1) ∧ (0 ≤ x ∧ x ≤ 2))), .int 1, .ref 0] ∧ M2 = M) | _ => False) ?_ ?_ ?_ ?_ ?_
  · rintro as M ⟨i, x, rfl, hpre⟩; exact Nat.le_of_ble_eq_true rfl
  · rintro as M ⟨i, x, rfl, hpre⟩; simp [fM_held]
  · rintro as M v ⟨i, x, rfl, hpre⟩ h; first | rfl | (simp [fM_held] at h)
  · rintro as M ⟨i, x, rfl, hpre⟩ j pc ls st M2 cl ⟨hj, rfl, rfl, rfl, rfl⟩
    refine ⟨400, (And.intro rfl (And.intro (Nat.le_of_ble_eq_true rfl) (And.intro (Nat.le_of_ble_eq_true rfl) (And.intro ?g1001_c_33 (And.intro (by decide) (And.intro (fun h36 => (And.intro (by decide) (And.intro (fun h42 => (And.intro (by decide) (And.intro (fun h56 => (And.intro rfl (And.intro rfl (And.intro ?g1002_i_73 (And.intro ?g1003_w_74 ?g1004_r_74))))) (fun h56 => (And.intro rfl (And.intro rfl (And.intro ?g1005_i_64 (And.intro (by decide) (And.intro ?g1006_w_74 ?g1007_r_74))))))))) (fun h42 => (And.intro rfl (And.intro rfl (And.intro ?g1008_i_50 (And.intro (by decide) (And.intro ?g1009_w_74 ?g1010_r_74))))))))) (fun h36 => (And.intro ?g1011_w_40 ?g1012_r_40))))))))⟩
    case g1001_c_33 =>
      exact ⟨_, _, _, _, _, rfl⟩
    case g1002_i_73 =>
      exact xl_has (by decide) hpre.H (xi_n0.mp (xg_0 (xi_n0.mp h36)).1).1
    case g1003_w_74 =>
      first | rfl | exact xi_nb
    case g1004_r_74 =>
      first
      | exact ⟨xl_some (xi_xf (xi_0.mp h36)).symm, rfl⟩
      | (refine ⟨xl_some (Eq.trans (b := xi_x (x = 0) (M2 19 i.toNatClampNeg) (xi_x (x = 1) (M2 20 i.toNatClampNeg) (M2 21 i.toNatClampNeg))) ?_ (xi_xt (xi_n0.mp h36)).symm), rfl⟩
         first
         | exact (xi_xt h42).symm
         | exact ((xi_xf h42).trans (xi_xt h56)).symm
         | exact ((xi_xf h42).trans ((xi_xf h56))).symm)
    case g1005_i_64 =>
      exact xl_has (by decide) hpre.H (xi_n0.mp (xg_0 (xi_n0.mp h36)).1).1
    case g1006_w_74 =>
      first | rfl | exact xi_nb
    case g1007_r_74 =>
      first
      | exact ⟨xl_some (xi_xf (xi_0.mp h36)).symm, rfl⟩
      | (refine ⟨xl_some (Eq.trans (b := xi_x (x = 0) (M2 19 i.toNatClampNeg) (xi_x (x = 1) (M2 20 i.toNatClampNeg) (M2 21 i.toNatClampNeg))) ?_ (xi_xt (xi_n0.mp h36)).symm), rfl⟩
         first
         | exact (xi_xt h42).symm
         | exact ((xi_xf h42).trans (xi_xt h56)).symm
         | exact ((xi_xf h42).trans ((xi_xf h56))).symm)
    case g1008_i_50 =>
      exact xl_has (by decide) hpre.H (xi_n0.mp (xg_0 (xi_n0.mp h36)).1).1
    case g1009_w_74 =>
      first | rfl | exact xi_nb
    case g1010_r_74 =>
      first
      | exact ⟨xl_some (xi_xf (xi_0.mp h36)).symm, rfl⟩
      | (refine ⟨xl_some (Eq.trans (b := xi_x (x = 0) (M2 19 i.toNatClampNeg) (xi_x (x = 1) (M2 20 i.toNatClampNeg) (M2 21 i.toNatClampNeg))) ?_ (xi_xt (xi_n0.mp h36)).symm), rfl⟩
         first
         | exact (xi_xt h42).symm
         | exact ((xi_xf h42).trans (xi_xt h56)).symm
         | exact ((xi_xf h42).trans ((xi_xf h56))).symm)
    case g1011_w_40 =>
      first | rfl | exact xi_nb
    case g1012_r_40 =>
      first
      | exact ⟨xl_some (xi_xf (xi_0.mp h36)).symm, rfl⟩
      | (refine ⟨xl_some (Eq.trans (b := xi_x (x = 0) (M2 19 i.toNatClampNeg) (xi_x (x = 1) (M2 20 i.toNatClampNeg) (M2 21 i.toNatClampNeg))) ?_ (xi_xt (xi_n0.mp h36)).symm), rfl⟩
         first
         | exact (xi_xt h42).symm
         | exact ((xi_xf h42).trans (xi_xt h56)).symm
         | exact ((xi_xf h42).trans ((xi_xf h56))).symm)
  · rintro as M ⟨i, x, rfl, hpre⟩
    refine ⟨400, (And.intro rfl (And.intro rfl (And.intro (Nat.le_of_ble_eq_true rfl) (And.intro (Nat.le_of_ble_eq_true rfl) (And.intro ?g1_c_10 (And.intro (by decide) (And.intro (fun h13 => ?g2_k_33) (fun h13 => (And.intro rfl (And.intro (Nat.le_of_ble_eq_true rfl) (And.intro (Nat.le_of_ble_eq_true rfl) (And.intro ?g3_c_19 (And.intro (by decide) (And.intro (fun h22 => ?g4_k_33) (fun h22 => (And.intro (by decide) ?g5_k_33))))))))))))))))⟩
    case g1_c_10 =>
      exact ⟨_, _, _, rfl⟩
    case g2_k_33 =>
      refine ⟨1000000, ⟨rfl, rfl, rfl, ?_, rfl⟩⟩
      rcases Classical.em ((0 ≤ i ∧ i ≤ M 0 24 - 1) ∧ (0 ≤ x ∧ x ≤ 2)) with z0 | z0 <;> (first | rw [xi_t z0] | rw [xi_f z0] | skip) <;> (first | rfl | (exfalso; simp only [xi_0, xi_n0] at *; grind [Int32.not_lt, Int32.not_le]))
    case g3_c_19 =>
      exact ⟨_, _, _, rfl⟩
    case g4_k_33 =>
      refine ⟨1000000, ⟨rfl, rfl, rfl, ?_, rfl⟩⟩
      rcases Classical.em ((0 ≤ i ∧ i ≤ M 0 24 - 1) ∧ (0 ≤ x ∧ x ≤ 2)) with z0 | z0 <;> (first | rw [xi_t z0] | rw [xi_f z0] | skip) <;> (first | rfl | (exfalso; simp only [xi_0, xi_n0] at *; grind [Int32.not_lt, Int32.not_le]))
    case g5_k_33 =>
      refine ⟨1000000, ⟨rfl, rfl, rfl, ?_, rfl⟩⟩
      rcases Classical.em ((0 ≤ i ∧ i ≤ M 0 24 - 1) ∧ (0 ≤ x ∧ x ≤ 2)) with z0 | z0 <;> (first | rw [xi_t z0] | rw [xi_f z0] | skip) <;> (first | rfl | (exfalso; simp only [xi_0, xi_n0] at *; grind [Int32.not_lt, Int32.not_le]))
def pM_callAt (as : List Value) (M : xm_M) : Prop := ∃ k x : Int32, as = [.ref 0, .int k, .int x] ∧ xv_J M
noncomputable def fM_callAt (as : List Value) (M : xm_M) : Option Value × xm_M := match as with
  | [_, .int k, .int x] => (some (.int (xi_x (xg_n (xi_b ((0 ≤ k ∧ k ≤ M 0 28 - 1) ∧ (0 ≤ x ∧ x ≤ 3))) 1 1 1 = 0) (xi_x (x = 0) (M 24 k.toNatClampNeg) (xi_x (x = 1) (M 25 k.toNatClampNeg) (xi_x (x = 2) (M 26 k.toNatClampNeg) (M 27 k.toNatClampNeg)))) 0)), (xm_up M 0 0 (xq_t 1 (xg_n (xi_b ((0 ≤ k ∧ k ≤ M 0 28 - 1) ∧ (0 ≤ x ∧ x ≤ 3))) 1 1 1))))
  | _ => (none, M)
noncomputable abbrev sM_callAt : xm_C := (0, 3, 1, pM_callAt, fM_callAt)
theorem vM_callAt : ∀ as M, pM_callAt as M → ∃ as1, as = .ref 0 :: as1 := by
  rintro as M ⟨k, x, rfl, hpre⟩
  exact ⟨_, rfl⟩
noncomputable def tM_callAt : List (Nat × xm_C) := [(202, sM_isCall), (102, sM_in), (116, sM_goes)]
theorem lM_callAt (l : Launch) : ∀ n C, (n, C) ∈ tM_callAt → xm_lkS l "AbsenceRowsModel" xt_T xk_ns (xr_ 2) xk_cl xk_tM n C ∨ xm_lkV l "AbsenceRowsModel" xt_T xk_ns (xr_ 2) xk_cl xk_tM n C := fun n C h => (show ∀ q ∈ tM_callAt, xm_lkS l "AbsenceRowsModel" xt_T xk_ns (xr_ 2) xk_cl xk_tM q.1 q.2 ∨ xm_lkV l "AbsenceRowsModel" xt_T xk_ns (xr_ 2) xk_cl xk_tM q.1 q.2 from List.forall_mem_cons.mpr ⟨Or.inr ⟨xy_M_isCall, xb_M_isCall, 2, (some .boolean), xr_ 1, 1, 0, 7, [none, none, some 1, none, some 2, some 3, some 4, some 5, some 6, some 7, some 8, none, none, some 9, some 10, some 11, none, some 12, some 13, some 14, some 15, some 16, some 17, some 18, none, some 19, some 20, some 21, none, some 22, some 23, some 24, some 25, some 26, some 27, some 28, none], xk_T7, 37, rfl, rfl, ⟨xe_M_isCall, xw_44, ⟨by decide, by decide, by decide +kernel⟩, ⟨Nat.le_of_ble_eq_true rfl, Nat.le_of_ble_eq_true rfl⟩, rfl, rfl⟩, xw_1086, xw_1088, xw_35, rfl, rfl, vM_isCall, Or.inl ⟨rfl, uM_isCall, cM_isCall l⟩⟩, List.forall_mem_cons.mpr ⟨Or.inl ⟨xy_M_in, xb_M_in, 3, (some .boolean), xr_ 0, rfl, ⟨xe_M_in, xw_44, ⟨by decide, by decide, by decide +kernel⟩, ⟨Nat.le_of_ble_eq_true rfl, Nat.le_of_ble_eq_true rfl⟩, rfl, rfl⟩, xw_927, Or.inl xw_926, Or.inl ⟨rfl, uM_in, cM_in l⟩⟩, List.forall_mem_cons.mpr ⟨Or.inr ⟨xy_M_goes, xb_M_goes, 8, (some .boolean), xr_ 0, 5, 0, 7, [none, none, some 1, none, some 2, some 3, some 4, some 5, some 6, some 7, some 8, none, none, some 9, some 10, some 11, none, some 12, some 13, some 14, some 15, some 16, some 17, some 18, none, some 19, some 20, some 21, none, some 22, some 23, some 24, some 25, some 26, some 27, some 28, none], xk_T7, 37, rfl, rfl, ⟨xe_M_goes, xw_44, ⟨by decide, by decide, by decide +kernel⟩, ⟨Nat.le_of_ble_eq_true rfl, Nat.le_of_ble_eq_true rfl⟩, rfl, rfl⟩, xw_932, xw_934, xw_15, rfl, rfl, vM_goes, Or.inr ⟨rfl, cM_goes l⟩⟩, fun _ h => absurd h List.not_mem_nil⟩⟩⟩) (n, C) h
set_option maxRecDepth 20000 in
set_option maxHeartbeats 2000000 in
theorem cM_callAt (l : Launch) : xm_Wr l xy_M_callAt (Cond.code xy_M_callAt xb_M_callAt 3 (some .int) :: xt_T) (xr_ 2) xk_cl xk_ns xk_tM pM_callAt fM_callAt := by
  refine xm_mk_wr (rt := .int) (fl := xf_M) (ct := tM_callAt) (cn := []) (cj := xj_M) (plainFor_of_name (by decide)) xs_M xd_M_callAt rfl (Or.inr rfl) (lM_callAt l) (fun as M j pc ls st M2 cl => match as with | [_, .int k, .int x] => (j = 1000000 ∧ pc = 27 ∧ ls = [(0, .ref 0), (1, .int k), (2, .int x)] ∧ st = [.int 1, .int 1, .int 1, .int (xi_b ((0 ≤ k ∧ k ≤ M 0 28 - 1) ∧ (0 ≤ x ∧ x ≤ 3))), .int 1, .ref 0] ∧ M2 = M) | _ => False) ?_ ?_ ?_ ?_ ?_
  · rintro as M ⟨k, x, rfl, hpre⟩; exact Nat.le_of_ble_eq_true rfl
  · rintro as M ⟨k, x, rfl, hpre⟩; simp [fM_callAt]
  · rintro as M v ⟨k, x, rfl, hpre⟩ h; first | rfl | (simp [fM_callAt] at h)
  · rintro as M ⟨k, x, rfl, hpre⟩ j pc ls st M2 cl ⟨hj, rfl, rfl, rfl, rfl⟩
    refine ⟨400, (And.intro rfl (And.intro (Nat.le_of_ble_eq_true rfl) (And.intro (Nat.le_of_ble_eq_true rfl) (And.intro ?g1001_c_27 (And.intro (by decide) (And.intro (fun h30 => (And.intro (by decide) (And.intro (fun h36 => (And.intro (by decide) (And.intro (fun h50 => (And.intro (by decide) (And.intro (fun h64 => (And.intro rfl (And.intro rfl (And.intro ?g1002_i_81 (And.intro ?g1003_w_82 ?g1004_r_82))))) (fun h64 => (And.intro rfl (And.intro rfl (And.intro ?g1005_i_72 (And.intro (by decide) (And.intro ?g1006_w_82 ?g1007_r_82))))))))) (fun h50 => (And.intro rfl (And.intro rfl (And.intro ?g1008_i_58 (And.intro (by decide) (And.intro ?g1009_w_82 ?g1010_r_82))))))))) (fun h36 => (And.intro rfl (And.intro rfl (And.intro ?g1011_i_44 (And.intro (by decide) (And.intro ?g1012_w_82 ?g1013_r_82))))))))) (fun h30 => (And.intro ?g1014_w_34 ?g1015_r_34))))))))⟩
    case g1001_c_27 =>
      exact ⟨_, _, _, _, _, rfl⟩
    case g1002_i_81 =>
      exact xl_has (by decide) hpre.L (xi_n0.mp (xg_0 (xi_n0.mp h30)).1).1
    case g1003_w_82 =>
      first | rfl | exact xi_nb
    case g1004_r_82 =>
      first
      | exact ⟨xl_some (xi_xf (xi_0.mp h30)).symm, rfl⟩
      | (refine ⟨xl_some (Eq.trans (b := xi_x (x = 0) (M2 24 k.toNatClampNeg) (xi_x (x = 1) (M2 25 k.toNatClampNeg) (xi_x (x = 2) (M2 26 k.toNatClampNeg) (M2 27 k.toNatClampNeg)))) ?_ (xi_xt (xi_n0.mp h30)).symm), rfl⟩
         first
         | exact (xi_xt h36).symm
         | exact ((xi_xf h36).trans (xi_xt h50)).symm
         | exact ((xi_xf h36).trans (((xi_xf h50).trans (xi_xt h64)))).symm
         | exact ((xi_xf h36).trans (((xi_xf h50).trans ((xi_xf h64))))).symm)
    case g1005_i_72 =>
      exact xl_has (by decide) hpre.L (xi_n0.mp (xg_0 (xi_n0.mp h30)).1).1
    case g1006_w_82 =>
      first | rfl | exact xi_nb
    case g1007_r_82 =>
      first
      | exact ⟨xl_some (xi_xf (xi_0.mp h30)).symm, rfl⟩
      | (refine ⟨xl_some (Eq.trans (b := xi_x (x = 0) (M2 24 k.toNatClampNeg) (xi_x (x = 1) (M2 25 k.toNatClampNeg) (xi_x (x = 2) (M2 26 k.toNatClampNeg) (M2 27 k.toNatClampNeg)))) ?_ (xi_xt (xi_n0.mp h30)).symm), rfl⟩
         first
         | exact (xi_xt h36).symm
         | exact ((xi_xf h36).trans (xi_xt h50)).symm
         | exact ((xi_xf h36).trans (((xi_xf h50).trans (xi_xt h64)))).symm
         | exact ((xi_xf h36).trans (((xi_xf h50).trans ((xi_xf h64))))).symm)
    case g1008_i_58 =>
      exact xl_has (by decide) hpre.L (xi_n0.mp (xg_0 (xi_n0.mp h30)).1).1
    case g1009_w_82 =>
      first | rfl | exact xi_nb
    case g1010_r_82 =>
      first
      | exact ⟨xl_some (xi_xf (xi_0.mp h30)).symm, rfl⟩
      | (refine ⟨xl_some (Eq.trans (b := xi_x (x = 0) (M2 24 k.toNatClampNeg) (xi_x (x = 1) (M2 25 k.toNatClampNeg) (xi_x (x = 2) (M2 26 k.toNatClampNeg) (M2 27 k.toNatClampNeg)))) ?_ (xi_xt (xi_n0.mp h30)).symm), rfl⟩
         first
         | exact (xi_xt h36).symm
         | exact ((xi_xf h36).trans (xi_xt h50)).symm
         | exact ((xi_xf h36).trans (((xi_xf h50).trans (xi_xt h64)))).symm
         | exact ((xi_xf h36).trans (((xi_xf h50).trans ((xi_xf h64))))).symm)
    case g1011_i_44 =>
      exact xl_has (by decide) hpre.L (xi_n0.mp (xg_0 (xi_n0.mp h30)).1).1
    case g1012_w_82 =>
      first | rfl | exact xi_nb
    case g1013_r_82 =>
      first
      | exact ⟨xl_some (xi_xf (xi_0.mp h30)).symm, rfl⟩
      | (refine ⟨xl_some (Eq.trans (b := xi_x (x = 0) (M2 24 k.toNatClampNeg) (xi_x (x = 1) (M2 25 k.toNatClampNeg) (xi_x (x = 2) (M2 26 k.toNatClampNeg) (M2 27 k.toNatClampNeg)))) ?_ (xi_xt (xi_n0.mp h30)).symm), rfl⟩
         first
         | exact (xi_xt h36).symm
         | exact ((xi_xf h36).trans (xi_xt h50)).symm
         | exact ((xi_xf h36).trans (((xi_xf h50).trans (xi_xt h64)))).symm
         | exact ((xi_xf h36).trans (((xi_xf h50).trans ((xi_xf h64))))).symm)
    case g1014_w_34 =>
      first | rfl | exact xi_nb
    case g1015_r_34 =>
      first
      | exact ⟨xl_some (xi_xf (xi_0.mp h30)).symm, rfl⟩
      | (refine ⟨xl_some (Eq.trans (b := xi_x (x = 0) (M2 24 k.toNatClampNeg) (xi_x (x = 1) (M2 25 k.toNatClampNeg) (xi_x (x = 2) (M2 26 k.toNatClampNeg) (M2 27 k.toNatClampNeg)))) ?_ (xi_xt (xi_n0.mp h30)).symm), rfl⟩
         first
         | exact (xi_xt h36).symm
         | exact ((xi_xf h36).trans (xi_xt h50)).symm
         | exact ((xi_xf h36).trans (((xi_xf h50).trans (xi_xt h64)))).symm
         | exact ((xi_xf h36).trans (((xi_xf h50).trans ((xi_xf h64))))).symm)
  · rintro as M ⟨k, x, rfl, hpre⟩
    refine ⟨400, (And.intro rfl (And.intro (Nat.le_of_ble_eq_true rfl) (And.intro (Nat.le_of_ble_eq_true rfl) (And.intro ?g1_c_4 (And.intro (by decide) (And.intro (fun h7 => ?g2_k_27) (fun h7 => (And.intro rfl (And.intro (Nat.le_of_ble_eq_true rfl) (And.intro (Nat.le_of_ble_eq_true rfl) (And.intro ?g3_c_13 (And.intro (by decide) (And.intro (fun h16 => ?g4_k_27) (fun h16 => (And.intro (by decide) ?g5_k_27)))))))))))))))⟩
    case g1_c_4 =>
      exact ⟨_, rfl⟩
    case g2_k_27 =>
      refine ⟨1000000, ⟨rfl, rfl, rfl, ?_, rfl⟩⟩
      rcases Classical.em ((0 ≤ k ∧ k ≤ M 0 28 - 1) ∧ (0 ≤ x ∧ x ≤ 3)) with z0 | z0 <;> (first | rw [xi_t z0] | rw [xi_f z0] | skip) <;> (first | rfl | (exfalso; simp only [xi_0, xi_n0] at *; grind [Int32.not_lt, Int32.not_le]))
    case g3_c_13 =>
      exact ⟨_, _, _, rfl⟩
    case g4_k_27 =>
      refine ⟨1000000, ⟨rfl, rfl, rfl, ?_, rfl⟩⟩
      rcases Classical.em ((0 ≤ k ∧ k ≤ M 0 28 - 1) ∧ (0 ≤ x ∧ x ≤ 3)) with z0 | z0 <;> (first | rw [xi_t z0] | rw [xi_f z0] | skip) <;> (first | rfl | (exfalso; simp only [xi_0, xi_n0] at *; grind [Int32.not_lt, Int32.not_le]))
    case g5_k_27 =>
      refine ⟨1000000, ⟨rfl, rfl, rfl, ?_, rfl⟩⟩
      rcases Classical.em ((0 ≤ k ∧ k ≤ M 0 28 - 1) ∧ (0 ≤ x ∧ x ≤ 3)) with z0 | z0 <;> (first | rw [xi_t z0] | rw [xi_f z0] | skip) <;> (first | rfl | (exfalso; simp only [xi_0, xi_n0] at *; grind [Int32.not_lt, Int32.not_le]))
def pM_bar (as : List Value) (M : xm_M) : Prop := ∃ p s u : Int32, as = [.ref 0, .int p, .int s, .int u] ∧ xv_J M
noncomputable def fM_bar (as : List Value) (M : xm_M) : Option Value × xm_M := match as with
  | [_, .int p, .int s, .int u] => (none, @ite xm_M (xg_n (xi_b ((0 ≤ p ∧ p ≤ M 0 3 - 1) ∧ (0 ≤ s ∧ s ≤ 7))) (xi_b (0 ≤ u ∧ u ≤ 729)) 1 1 = 0) (Classical.propDecidable _) ((xm_up (xm_up M 0 0 (xq_t 3 (xg_n (xi_b ((0 ≤ p ∧ p ≤ M 0 3 - 1) ∧ (0 ≤ s ∧ s ≤ 7))) (xi_b (0 ≤ u ∧ u ≤ 729)) 1 1))) 8 (8 * p + s).toNatClampNeg u)) (xm_up M 0 0 (xq_t 3 (xg_n (xi_b ((0 ≤ p ∧ p ≤ M 0 3 - 1) ∧ (0 ≤ s ∧ s ≤ 7))) (xi_b (0 ≤ u ∧ u ≤ 729)) 1 1))))
  | _ => (none, M)
noncomputable abbrev sM_bar : xm_C := (0, 4, 1, pM_bar, fM_bar)
theorem vM_bar : ∀ as M, pM_bar as M → ∃ as1, as = .ref 0 :: as1 := by
  rintro as M ⟨p, s, u, rfl, hpre⟩
  exact ⟨_, rfl⟩
noncomputable def tM_bar : List (Nat × xm_C) := [(151, sM_isPerson), (102, sM_in), (112, sM_isDay), (116, sM_goes)]
theorem lM_bar (l : Launch) : ∀ n C, (n, C) ∈ tM_bar → xm_lkS l "AbsenceRowsModel" xt_T xk_ns (xr_ 2) xk_cl xk_tM n C ∨ xm_lkV l "AbsenceRowsModel" xt_T xk_ns (xr_ 2) xk_cl xk_tM n C := fun n C h => (show ∀ q ∈ tM_bar, xm_lkS l "AbsenceRowsModel" xt_T xk_ns (xr_ 2) xk_cl xk_tM q.1 q.2 ∨ xm_lkV l "AbsenceRowsModel" xt_T xk_ns (xr_ 2) xk_cl xk_tM q.1 q.2 from List.forall_mem_cons.mpr ⟨Or.inr ⟨xy_M_isPerson, xb_M_isPerson, 2, (some .boolean), xr_ 1, 1, 0, 7, [none, none, some 1, none, some 2, some 3, some 4, some 5, some 6, some 7, some 8, none, none, some 9, some 10, some 11, none, some 12, some 13, some 14, some 15, some 16, some 17, some 18, none, some 19, some 20, some 21, none, some 22, some 23, some 24, some 25, some 26, some 27, some 28, none], xk_T7, 37, rfl, rfl, ⟨xe_M_isPerson, xw_44, ⟨by decide, by decide, by decide +kernel⟩, ⟨Nat.le_of_ble_eq_true rfl, Nat.le_of_ble_eq_true rfl⟩, rfl, rfl⟩, xw_940, xw_942, xw_16, rfl, rfl, vM_isPerson, Or.inl ⟨rfl, uM_isPerson, cM_isPerson l⟩⟩, List.forall_mem_cons.mpr ⟨Or.inl ⟨xy_M_in, xb_M_in, 3, (some .boolean), xr_ 0, rfl, ⟨xe_M_in, xw_44, ⟨by decide, by decide, by decide +kernel⟩, ⟨Nat.le_of_ble_eq_true rfl, Nat.le_of_ble_eq_true rfl⟩, rfl, rfl⟩, xw_927, Or.inl xw_926, Or.inl ⟨rfl, uM_in, cM_in l⟩⟩, List.forall_mem_cons.mpr ⟨Or.inl ⟨xy_M_isDay, xb_M_isDay, 1, (some .boolean), xr_ 1, rfl, ⟨xe_M_isDay, xw_44, ⟨by decide, by decide, by decide +kernel⟩, ⟨Nat.le_of_ble_eq_true rfl, Nat.le_of_ble_eq_true rfl⟩, rfl, rfl⟩, xw_930, Or.inl xw_929, Or.inl ⟨rfl, uM_isDay, cM_isDay l⟩⟩, List.forall_mem_cons.mpr ⟨Or.inr ⟨xy_M_goes, xb_M_goes, 8, (some .boolean), xr_ 0, 5, 0, 7, [none, none, some 1, none, some 2, some 3, some 4, some 5, some 6, some 7, some 8, none, none, some 9, some 10, some 11, none, some 12, some 13, some 14, some 15, some 16, some 17, some 18, none, some 19, some 20, some 21, none, some 22, some 23, some 24, some 25, some 26, some 27, some 28, none], xk_T7, 37, rfl, rfl, ⟨xe_M_goes, xw_44, ⟨by decide, by decide, by decide +kernel⟩, ⟨Nat.le_of_ble_eq_true rfl, Nat.le_of_ble_eq_true rfl⟩, rfl, rfl⟩, xw_932, xw_934, xw_15, rfl, rfl, vM_goes, Or.inr ⟨rfl, cM_goes l⟩⟩, fun _ h => absurd h List.not_mem_nil⟩⟩⟩⟩) (n, C) h
set_option maxRecDepth 20000 in
set_option maxHeartbeats 2000000 in
theorem cM_bar (l : Launch) : xm_Wr l xy_M_bar (Cond.code xy_M_bar xb_M_bar 4 none :: xt_T) (xr_ 2) xk_cl xk_ns xk_tM pM_bar fM_bar := by
  refine xm_mk_wr (rt := .int) (fl := xf_M) (ct := tM_bar) (cn := []) (cj := xj_M) (plainFor_of_name (by decide)) xs_M xd_M_bar rfl (Or.inl rfl) (lM_bar l) (fun as M j pc ls st M2 cl => match as with | [_, .int p, .int s, .int u] => (j = 1000000 ∧ pc = 31 ∧ ls = [(0, .ref 0), (1, .int p), (2, .int s), (3, .int u)] ∧ st = [.int 1, .int 1, .int (xi_b (0 ≤ u ∧ u ≤ 729)), .int (xi_b ((0 ≤ p ∧ p ≤ M 0 3 - 1) ∧ (0 ≤ s ∧ s ≤ 7))), .int 3, .ref 0] ∧ M2 = M) | _ => False) ?_ ?_ ?_ ?_ ?_
  · rintro as M ⟨p, s, u, rfl, hpre⟩; exact Nat.le_of_ble_eq_true rfl
  · rintro as M ⟨p, s, u, rfl, hpre⟩; simp [fM_bar]
  · rintro as M v ⟨p, s, u, rfl, hpre⟩ h; first | rfl | (simp [fM_bar] at h)
  · rintro as M ⟨p, s, u, rfl, hpre⟩ j pc ls st M2 cl ⟨hj, rfl, rfl, rfl, rfl⟩
    refine ⟨400, (And.intro rfl (And.intro (Nat.le_of_ble_eq_true rfl) (And.intro (Nat.le_of_ble_eq_true rfl) (And.intro ?g1001_c_31 (And.intro (by decide) (And.intro (fun h34 => ?g1002_r_49) (fun h34 => (And.intro rfl (And.intro rfl (And.intro ?g1003_i_48 ?g1004_r_49))))))))))⟩
    case g1001_c_31 =>
      exact ⟨_, _, _, _, _, rfl⟩
    case g1002_r_49 =>
      first
      | exact ⟨xl_some (xi_xf (xi_0.mp h34)).symm, (if_neg (xi_0.mp h34)).symm⟩
      | exact ⟨xl_some (xi_xf (xi_0.mp h34)).symm, rfl⟩
      | exact ⟨xl_some (xi_xt (xi_n0.mp h34)).symm, (if_pos (xi_n0.mp h34)).symm⟩
      | exact ⟨xl_some (xi_xt (xi_n0.mp h34)).symm, rfl⟩
      | exact ⟨rfl, (if_neg (xi_0.mp h34)).symm⟩
      | exact ⟨rfl, (if_pos (xi_n0.mp h34)).symm⟩
      | exact ⟨rfl, rfl⟩
    case g1003_i_48 =>
      have hz := xi_n0.mp (xg_0 (xi_n0.mp h34)).1
      exact yl_8 (xl_has (by decide) hpre.P hz.1) (xl_8 hz.2)
    case g1004_r_49 =>
      first
      | exact ⟨xl_some (xi_xf (xi_0.mp h34)).symm, (if_neg (xi_0.mp h34)).symm⟩
      | exact ⟨xl_some (xi_xf (xi_0.mp h34)).symm, rfl⟩
      | exact ⟨xl_some (xi_xt (xi_n0.mp h34)).symm, (if_pos (xi_n0.mp h34)).symm⟩
      | exact ⟨xl_some (xi_xt (xi_n0.mp h34)).symm, rfl⟩
      | exact ⟨rfl, (if_neg (xi_0.mp h34)).symm⟩
      | exact ⟨rfl, (if_pos (xi_n0.mp h34)).symm⟩
      | exact ⟨rfl, rfl⟩
  · rintro as M ⟨p, s, u, rfl, hpre⟩
    refine ⟨400, (And.intro rfl (And.intro (Nat.le_of_ble_eq_true rfl) (And.intro (Nat.le_of_ble_eq_true rfl) (And.intro ?g1_c_4 (And.intro (by decide) (And.intro (fun h7 => (And.intro rfl (And.intro (Nat.le_of_ble_eq_true rfl) (And.intro (Nat.le_of_ble_eq_true rfl) (And.intro ?g2_c_26 ?g3_k_31))))) (fun h7 => (And.intro rfl (And.intro (Nat.le_of_ble_eq_true rfl) (And.intro (Nat.le_of_ble_eq_true rfl) (And.intro ?g4_c_14 (And.intro (by decide) (And.intro (fun h17 => (And.intro rfl (And.intro (Nat.le_of_ble_eq_true rfl) (And.intro (Nat.le_of_ble_eq_true rfl) (And.intro ?g5_c_26 ?g6_k_31))))) (fun h17 => (And.intro (by decide) (And.intro rfl (And.intro (Nat.le_of_ble_eq_true rfl) (And.intro (Nat.le_of_ble_eq_true rfl) (And.intro ?g7_c_26 ?g8_k_31)))))))))))))))))))⟩
    case g1_c_4 =>
      exact ⟨_, rfl⟩
    case g2_c_26 =>
      exact ⟨_, rfl⟩
    case g3_k_31 =>
      refine ⟨1000000, ⟨rfl, rfl, rfl, ?_, rfl⟩⟩
      rcases Classical.em ((0 ≤ p ∧ p ≤ M 0 3 - 1) ∧ (0 ≤ s ∧ s ≤ 7)) with z0 | z0 <;> (first | rw [xi_t z0] | rw [xi_f z0] | skip) <;> (first | rfl | (exfalso; simp only [xi_0, xi_n0] at *; grind [Int32.not_lt, Int32.not_le]))
    case g4_c_14 =>
      exact ⟨_, _, _, rfl⟩
    case g5_c_26 =>
      exact ⟨_, rfl⟩
    case g6_k_31 =>
      refine ⟨1000000, ⟨rfl, rfl, rfl, ?_, rfl⟩⟩
      rcases Classical.em ((0 ≤ p ∧ p ≤ M 0 3 - 1) ∧ (0 ≤ s ∧ s ≤ 7)) with z0 | z0 <;> (first | rw [xi_t z0] | rw [xi_f z0] | skip) <;> (first | rfl | (exfalso; simp only [xi_0, xi_n0] at *; grind [Int32.not_lt, Int32.not_le]))
    case g7_c_26 =>
      exact ⟨_, rfl⟩
    case g8_k_31 =>
      refine ⟨1000000, ⟨rfl, rfl, rfl, ?_, rfl⟩⟩
      rcases Classical.em ((0 ≤ p ∧ p ≤ M 0 3 - 1) ∧ (0 ≤ s ∧ s ≤ 7)) with z0 | z0 <;> (first | rw [xi_t z0] | rw [xi_f z0] | skip) <;> (first | rfl | (exfalso; simp only [xi_0, xi_n0] at *; grind [Int32.not_lt, Int32.not_le]))
def pM_patience (as : List Value) (M : xm_M) : Prop := ∃ u : Int32, as = [.ref 0, .int u] ∧ xv_J M
noncomputable def fM_patience (as : List Value) (M : xm_M) : Option Value × xm_M := match as with
  | [_, .int u] => (none, @ite xm_M (xg_n 1 (xi_b (1 ≤ u ∧ u ≤ 48)) 1 1 = 0) (Classical.propDecidable _) ((xm_up (xm_up M 0 0 (xq_t 2 (xg_n 1 (xi_b (1 ≤ u ∧ u ≤ 48)) 1 1))) 0 36 u)) (xm_up M 0 0 (xq_t 2 (xg_n 1 (xi_b (1 ≤ u ∧ u ≤ 48)) 1 1))))
  | _ => (none, M)
noncomputable abbrev sM_patience : xm_C := (0, 2, 1, pM_patience, fM_patience)
theorem vM_patience : ∀ as M, pM_patience as M → ∃ as1, as = .ref 0 :: as1 := by
  rintro as M ⟨u, rfl, hpre⟩
  exact ⟨_, rfl⟩
noncomputable def tM_patience : List (Nat × xm_C) := [(102, sM_in), (116, sM_goes)]
theorem lM_patience (l : Launch) : ∀ n C, (n, C) ∈ tM_patience → xm_lkS l "AbsenceRowsModel" xt_T xk_ns (xr_ 1) xk_cl xk_tM n C ∨ xm_lkV l "AbsenceRowsModel" xt_T xk_ns (xr_ 1) xk_cl xk_tM n C := fun n C h => (show ∀ q ∈ tM_patience, xm_lkS l "AbsenceRowsModel" xt_T xk_ns (xr_ 1) xk_cl xk_tM q.1 q.2 ∨ xm_lkV l "AbsenceRowsModel" xt_T xk_ns (xr_ 1) xk_cl xk_tM q.1 q.2 from List.forall_mem_cons.mpr ⟨Or.inl ⟨xy_M_in, xb_M_in, 3, (some .boolean), xr_ 0, rfl, ⟨xe_M_in, xw_44, ⟨by decide, by decide, by decide +kernel⟩, ⟨Nat.le_of_ble_eq_true rfl, Nat.le_of_ble_eq_true rfl⟩, rfl, rfl⟩, xw_927, Or.inl xw_926, Or.inl ⟨rfl, uM_in, cM_in l⟩⟩, List.forall_mem_cons.mpr ⟨Or.inr ⟨xy_M_goes, xb_M_goes, 8, (some .boolean), xr_ 0, 5, 0, 7, [none, none, some 1, none, some 2, some 3, some 4, some 5, some 6, some 7, some 8, none, none, some 9, some 10, some 11, none, some 12, some 13, some 14, some 15, some 16, some 17, some 18, none, some 19, some 20, some 21, none, some 22, some 23, some 24, some 25, some 26, some 27, some 28, none], xk_T7, 37, rfl, rfl, ⟨xe_M_goes, xw_44, ⟨by decide, by decide, by decide +kernel⟩, ⟨Nat.le_of_ble_eq_true rfl, Nat.le_of_ble_eq_true rfl⟩, rfl, rfl⟩, xw_932, xw_934, xw_15, rfl, rfl, vM_goes, Or.inr ⟨rfl, cM_goes l⟩⟩, fun _ h => absurd h List.not_mem_nil⟩⟩) (n, C) h
set_option maxRecDepth 20000 in
set_option maxHeartbeats 2000000 in
theorem cM_patience (l : Launch) : xm_Wr l xy_M_patience (Cond.code xy_M_patience xb_M_patience 2 none :: xt_T) (xr_ 1) xk_cl xk_ns xk_tM pM_patience fM_patience := by
  refine xm_mk_wr (rt := .int) (fl := xf_M) (ct := tM_patience) (cn := []) (cj := xj_M) (plainFor_of_name (by decide)) xs_M xd_M_patience rfl (Or.inl rfl) (lM_patience l) (fun _ _ _ _ _ _ _ _ => False) ?_ ?_ ?_ (fun _ _ _ _ _ _ _ _ _ h => h.elim) ?_
  · rintro as M ⟨u, rfl, hpre⟩; exact Nat.le_of_ble_eq_true rfl
  · rintro as M ⟨u, rfl, hpre⟩; simp [fM_patience]
  · rintro as M v ⟨u, rfl, hpre⟩ h; first | rfl | (simp [fM_patience] at h)
  · rintro as M ⟨u, rfl, hpre⟩
    refine ⟨400, (And.intro rfl (And.intro (Nat.le_of_ble_eq_true rfl) (And.intro (Nat.le_of_ble_eq_true rfl) (And.intro ?g1_c_7 (And.intro rfl (And.intro (Nat.le_of_ble_eq_true rfl) (And.intro (Nat.le_of_ble_eq_true rfl) (And.intro ?g2_c_12 (And.intro (by decide) (And.intro (fun h15 => ?g3_r_23) (fun h15 => (And.intro rfl ?g4_r_23))))))))))))⟩
    case g1_c_7 =>
      exact ⟨_, _, _, rfl⟩
    case g2_c_12 =>
      exact ⟨_, _, _, _, _, rfl⟩
    case g3_r_23 =>
      first
      | exact ⟨xl_some (xi_xf (xi_0.mp h15)).symm, (if_neg (xi_0.mp h15)).symm⟩
      | exact ⟨xl_some (xi_xf (xi_0.mp h15)).symm, rfl⟩
      | exact ⟨xl_some (xi_xt (xi_n0.mp h15)).symm, (if_pos (xi_n0.mp h15)).symm⟩
      | exact ⟨xl_some (xi_xt (xi_n0.mp h15)).symm, rfl⟩
      | exact ⟨rfl, (if_neg (xi_0.mp h15)).symm⟩
      | exact ⟨rfl, (if_pos (xi_n0.mp h15)).symm⟩
      | exact ⟨rfl, rfl⟩
    case g4_r_23 =>
      first
      | exact ⟨xl_some (xi_xf (xi_0.mp h15)).symm, (if_neg (xi_0.mp h15)).symm⟩
      | exact ⟨xl_some (xi_xf (xi_0.mp h15)).symm, rfl⟩
      | exact ⟨xl_some (xi_xt (xi_n0.mp h15)).symm, (if_pos (xi_n0.mp h15)).symm⟩
      | exact ⟨xl_some (xi_xt (xi_n0.mp h15)).symm, rfl⟩
      | exact ⟨rfl, (if_neg (xi_0.mp h15)).symm⟩
      | exact ⟨rfl, (if_pos (xi_n0.mp h15)).symm⟩
      | exact ⟨rfl, rfl⟩
def pM_asked (as : List Value) (M : xm_M) : Prop := ∃ p : Int32, as = [.ref 0, .int p] ∧ xv_J M
noncomputable def fM_asked (as : List Value) (M : xm_M) : Option Value × xm_M := match as with
  | [_, .int p] => (some (.int (xi_x (xg_n (xi_b ((0 ≤ p ∧ p ≤ M 0 3 - 1))) 1 1 1 = 0) (M 7 p.toNatClampNeg) 0)), (xm_up M 0 0 (xq_t 1 (xg_n (xi_b ((0 ≤ p ∧ p ≤ M 0 3 - 1))) 1 1 1))))
  | _ => (none, M)
noncomputable abbrev sM_asked : xm_C := (0, 2, 1, pM_asked, fM_asked)
theorem vM_asked : ∀ as M, pM_asked as M → ∃ as1, as = .ref 0 :: as1 := by
  rintro as M ⟨p, rfl, hpre⟩
  exact ⟨_, rfl⟩
noncomputable def tM_asked : List (Nat × xm_C) := [(151, sM_isPerson), (116, sM_goes)]
theorem lM_asked (l : Launch) : ∀ n C, (n, C) ∈ tM_asked → xm_lkS l "AbsenceRowsModel" xt_T xk_ns (xr_ 2) xk_cl xk_tM n C ∨ xm_lkV l "AbsenceRowsModel" xt_T xk_ns (xr_ 2) xk_cl xk_tM n C := fun n C h => (show ∀ q ∈ tM_asked, xm_lkS l "AbsenceRowsModel" xt_T xk_ns (xr_ 2) xk_cl xk_tM q.1 q.2 ∨ xm_lkV l "AbsenceRowsModel" xt_T xk_ns (xr_ 2) xk_cl xk_tM q.1 q.2 from List.forall_mem_cons.mpr ⟨Or.inr ⟨xy_M_isPerson, xb_M_isPerson, 2, (some .boolean), xr_ 1, 1, 0, 7, [none, none, some 1, none, some 2, some 3, some 4, some 5, some 6, some 7, some 8, none, none, some 9, some 10, some 11, none, some 12, some 13, some 14, some 15, some 16, some 17, some 18, none, some 19, some 20, some 21, none, some 22, some 23, some 24, some 25, some 26, some 27, some 28, none], xk_T7, 37, rfl, rfl, ⟨xe_M_isPerson, xw_44, ⟨by decide, by decide, by decide +kernel⟩, ⟨Nat.le_of_ble_eq_true rfl, Nat.le_of_ble_eq_true rfl⟩, rfl, rfl⟩, xw_940, xw_942, xw_16, rfl, rfl, vM_isPerson, Or.inl ⟨rfl, uM_isPerson, cM_isPerson l⟩⟩, List.forall_mem_cons.mpr ⟨Or.inr ⟨xy_M_goes, xb_M_goes, 8, (some .boolean), xr_ 0, 5, 0, 7, [none, none, some 1, none, some 2, some 3, some 4, some 5, some 6, some 7, some 8, none, none, some 9, some 10, some 11, none, some 12, some 13, some 14, some 15, some 16, some 17, some 18, none, some 19, some 20, some 21, none, some 22, some 23, some 24, some 25, some 26, some 27, some 28, none], xk_T7, 37, rfl, rfl, ⟨xe_M_goes, xw_44, ⟨by decide, by decide, by decide +kernel⟩, ⟨Nat.le_of_ble_eq_true rfl, Nat.le_of_ble_eq_true rfl⟩, rfl, rfl⟩, xw_932, xw_934, xw_15, rfl, rfl, vM_goes, Or.inr ⟨rfl, cM_goes l⟩⟩, fun _ h => absurd h List.not_mem_nil⟩⟩) (n, C) h
set_option maxRecDepth 20000 in
set_option maxHeartbeats 2000000 in
theorem cM_asked (l : Launch) : xm_Wr l xy_M_asked (Cond.code xy_M_asked xb_M_asked 2 (some .int) :: xt_T) (xr_ 2) xk_cl xk_ns xk_tM pM_asked fM_asked := by
  refine xm_mk_wr (rt := .int) (fl := xf_M) (ct := tM_asked) (cn := []) (cj := xj_M) (plainFor_of_name (by decide)) xs_M xd_M_asked rfl (Or.inr rfl) (lM_asked l) (fun _ _ _ _ _ _ _ _ => False) ?_ ?_ ?_ (fun _ _ _ _ _ _ _ _ _ h => h.elim) ?_
  · rintro as M ⟨p, rfl, hpre⟩; exact Nat.le_of_ble_eq_true rfl
  · rintro as M ⟨p, rfl, hpre⟩; simp [fM_asked]
  · rintro as M v ⟨p, rfl, hpre⟩ h; first | rfl | (simp [fM_asked] at h)
  · rintro as M ⟨p, rfl, hpre⟩
    refine ⟨400, (And.intro rfl (And.intro (Nat.le_of_ble_eq_true rfl) (And.intro (Nat.le_of_ble_eq_true rfl) (And.intro ?g1_c_4 (And.intro rfl (And.intro (Nat.le_of_ble_eq_true rfl) (And.intro (Nat.le_of_ble_eq_true rfl) (And.intro ?g2_c_10 (And.intro (by decide) (And.intro (fun h13 => (And.intro rfl (And.intro rfl (And.intro ?g3_i_23 (And.intro ?g4_w_24 ?g5_r_24))))) (fun h13 => (And.intro ?g6_w_17 ?g7_r_17))))))))))))⟩
    case g1_c_4 =>
      exact ⟨_, rfl⟩
    case g2_c_10 =>
      exact ⟨_, _, _, _, _, rfl⟩
    case g3_i_23 =>
      exact xl_has (by decide) hpre.P (xi_n0.mp (xg_0 (xi_n0.mp h13)).1)
    case g4_w_24 =>
      first | rfl | exact xi_nb
    case g5_r_24 =>
      first
      | exact ⟨xl_some (xi_xf (xi_0.mp h13)).symm, (if_neg (xi_0.mp h13)).symm⟩
      | exact ⟨xl_some (xi_xf (xi_0.mp h13)).symm, rfl⟩
      | exact ⟨xl_some (xi_xt (xi_n0.mp h13)).symm, (if_pos (xi_n0.mp h13)).symm⟩
      | exact ⟨xl_some (xi_xt (xi_n0.mp h13)).symm, rfl⟩
      | exact ⟨rfl, (if_neg (xi_0.mp h13)).symm⟩
      | exact ⟨rfl, (if_pos (xi_n0.mp h13)).symm⟩
      | exact ⟨rfl, rfl⟩
    case g6_w_17 =>
      first | rfl | exact xi_nb
    case g7_r_17 =>
      first
      | exact ⟨xl_some (xi_xf (xi_0.mp h13)).symm, (if_neg (xi_0.mp h13)).symm⟩
      | exact ⟨xl_some (xi_xf (xi_0.mp h13)).symm, rfl⟩
      | exact ⟨xl_some (xi_xt (xi_n0.mp h13)).symm, (if_pos (xi_n0.mp h13)).symm⟩
      | exact ⟨xl_some (xi_xt (xi_n0.mp h13)).symm, rfl⟩
      | exact ⟨rfl, (if_neg (xi_0.mp h13)).symm⟩
      | exact ⟨rfl, (if_pos (xi_n0.mp h13)).symm⟩
      | exact ⟨rfl, rfl⟩
