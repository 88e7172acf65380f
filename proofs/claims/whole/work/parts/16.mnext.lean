/-! THE MODEL's writers -/
noncomputable def ym_bk (M : xm_M) (k : Int32) : Int32 := ym_b M k (M 0 3).toNatClampNeg
noncomputable def ym_n3 (M : xm_M) (k : Int32) : xm_M := xm_up (xm_up (xm_up M 25 k.toNatClampNeg (ym_bk M k)) 24 k.toNatClampNeg (xi_x (ym_bk M k < 0) 2 0)) 27 k.toNatClampNeg (xi_x (ym_bk M k < 0) (-1) (M 0 1 + M 0 36))
noncomputable def ym_nx (M : xm_M) (k : Int32) : xm_M := @ite xm_M (ym_bk M k < 0) (Classical.propDecidable _) (ym_n3 M k) (xm_up (xm_up (xm_up (ym_n3 M k) 28 (k * 20 + ym_bk M k).toNatClampNeg 1) 26 k.toNatClampNeg (M 26 k.toNatClampNeg + 1)) 7 (ym_bk M k).toNatClampNeg (M 7 (ym_bk M k).toNatClampNeg + 1))
theorem ym_m1 : (-1 : Int32) < 0 := by decide
theorem ym_b_nn {M : xm_M} {k : Int32} {n : Nat} (hn : n ≤ 20) (h : ¬ ym_b M k n < 0) : vp_in (ym_b M k n) 20 := by
  rcases ym_b_in M k n with q | ⟨m, q1, q2⟩
  · exact absurd (by rw [q]; exact ym_m1) h
  · rw [q2]; exact vp_in_nI (by omega) (by decide)
theorem xg_0 {k r t m : Int32} (h : xg_n k r t m = 0) : ¬ k = 0 ∧ ¬ r = 0 ∧ ¬ t = 0 ∧ ¬ m = 0 := by
  unfold xg_n at h
  split at h
  · cases h
  · split at h
    · cases h
    · split at h
      · cases h
      · split at h
        · cases h
        · exact ⟨by assumption, by assumption, by assumption, by assumption⟩
/-- the model's places are within their arrays -/
def xv_J (M : xm_M) : Prop := xv_n (M 0 3) 20 ∧ xv_n (M 0 12) 6 ∧ xv_n (M 0 16) 80 ∧ xv_n (M 0 24) 100 ∧ xv_n (M 0 28) 60 ∧ (∀ i, i < (M 0 16).toNatClampNeg → xv_span (M 14 i) (M 15 i) ∧ vp_in (M 12 i) 20) ∧ (∀ i, i < (M 0 28).toNatClampNeg → vp_in (M 22 i) 6)
theorem xv_n.up {x : Int32} {a b : Nat} (h : xv_n x a) (hab : a ≤ b) : xv_n x b := by
  obtain ⟨c, h1, h2⟩ := h
  exact ⟨c, by omega, h2⟩
theorem xv_J.P {M : xm_M} (h : xv_J M) : xv_n (M 0 3) 20 := h.1
theorem xv_J.W {M : xm_M} (h : xv_J M) : xv_n (M 0 12) 6 := h.2.1
theorem xv_J.A {M : xm_M} (h : xv_J M) : xv_n (M 0 16) 80 := h.2.2.1
theorem xv_J.A1 {M : xm_M} (h : xv_J M) : xv_n (M 0 16) 81 := h.A.up (by decide)
theorem xv_J.H {M : xm_M} (h : xv_J M) : xv_n (M 0 24) 100 := h.2.2.2.1
theorem xv_J.L {M : xm_M} (h : xv_J M) : xv_n (M 0 28) 60 := h.2.2.2.2.1
theorem xv_J.a {M : xm_M} (h : xv_J M) {a : Int32} (ha : 0 ≤ a ∧ a ≤ M 0 16 - 1) : xv_span (M 14 a.toNatClampNeg) (M 15 a.toNatClampNeg) ∧ vp_in (M 12 a.toNatClampNeg) 20 := h.2.2.2.2.2.1 _ (xl_hasc (by decide) h.A ha)
theorem xv_J.c {M : xm_M} (h : xv_J M) {a : Int32} (ha : 0 ≤ a ∧ a ≤ M 0 28 - 1) : vp_in (M 22 a.toNatClampNeg) 6 := h.2.2.2.2.2.2 _ (xl_hasc (by decide) h.L ha)
theorem xv_J.B {M : xm_M} (h : xv_J M) : xv_B M := by
  obtain ⟨c, h1, h2⟩ := h.A
  refine ⟨c, by omega, h2, fun i hi => (h.2.2.2.2.2.1 i ?_).1⟩
  rw [h2, nI_clamp (by omega)]; exact hi
theorem yl_81 {x : Int32} (h : vp_in x 80) : vp_in x 81 := by
  rw [vp_in_iff] at h ⊢
  omega
theorem xg_e {k r t m k' r' t' m' : Int32} (h1 : k = k') (h2 : r = r') (h3 : t = t') (h4 : m = m') : xg_n k r t m = xg_n k' r' t' m' := by rw [h1, h2, h3, h4]
def pM_asksNext (as : List Value) (M : xm_M) : Prop := ∃ k : Int32, as = [.ref 0, .int k] ∧ vp_in k 60 ∧ vp_in (M 22 k.toNatClampNeg) 6 ∧ xv_n (M 0 3) 20 ∧ xv_n (M 0 16) 81 ∧ xv_n (M 0 28) 60
noncomputable def fM_asksNext (as : List Value) (M : xm_M) : Option Value × xm_M := match as with
  | [_, .int k] => (none, ym_nx M k)
  | _ => (none, M)
noncomputable abbrev sM_asksNext : xm_C := (0, 2, 1, pM_asksNext, fM_asksNext)
theorem vM_asksNext : ∀ as M, pM_asksNext as M → ∃ as1, as = .ref 0 :: as1 := by
  rintro as M ⟨k, rfl, ⟨hk, hw, hP, hA, hL⟩⟩
  exact ⟨_, rfl⟩
noncomputable def tM_asksNext : List (Nat × xm_C) := [(163, sM_isAbsent), (189, sM_hasSkills), (192, sM_isFree)]
theorem lM_asksNext (l : Launch) : ∀ n C, (n, C) ∈ tM_asksNext → xm_lkS l "AbsenceRowsModel" xt_T xk_ns (xr_ 2) xk_cl xk_tM n C ∨ xm_lkV l "AbsenceRowsModel" xt_T xk_ns (xr_ 2) xk_cl xk_tM n C := fun n C h => (show ∀ q ∈ tM_asksNext, xm_lkS l "AbsenceRowsModel" xt_T xk_ns (xr_ 2) xk_cl xk_tM q.1 q.2 ∨ xm_lkV l "AbsenceRowsModel" xt_T xk_ns (xr_ 2) xk_cl xk_tM q.1 q.2 from List.forall_mem_cons.mpr ⟨Or.inr ⟨xy_M_isAbsent, xb_M_isAbsent, 4, (some .boolean), xr_ 1, 2, 0, 7, [none, none, some 1, none, some 2, some 3, some 4, some 5, some 6, some 7, some 8, none, none, some 9, some 10, some 11, none, some 12, some 13, some 14, some 15, some 16, some 17, some 18, none, some 19, some 20, some 21, none, some 22, some 23, some 24, some 25, some 26, some 27, some 28, none], xk_T7, 37, rfl, rfl, ⟨xe_M_isAbsent, xw_44, ⟨by decide, by decide, by decide +kernel⟩, ⟨Nat.le_of_ble_eq_true rfl, Nat.le_of_ble_eq_true rfl⟩, rfl, rfl⟩, xw_1002, xw_1004, xw_25, rfl, rfl, vM_isAbsent, Or.inl ⟨rfl, uM_isAbsent, cM_isAbsent l⟩⟩, List.forall_mem_cons.mpr ⟨Or.inr ⟨xy_M_hasSkills, xb_M_hasSkills, 5, (some .boolean), xr_ 0, 3, 0, 7, [none, none, some 1, none, some 2, some 3, some 4, some 5, some 6, some 7, some 8, none, none, some 9, some 10, some 11, none, some 12, some 13, some 14, some 15, some 16, some 17, some 18, none, some 19, some 20, some 21, none, some 22, some 23, some 24, some 25, some 26, some 27, some 28, none], xk_T7, 37, rfl, rfl, ⟨xe_M_hasSkills, xw_44, ⟨by decide, by decide, by decide +kernel⟩, ⟨Nat.le_of_ble_eq_true rfl, Nat.le_of_ble_eq_true rfl⟩, rfl, rfl⟩, xw_1074, xw_1076, xw_33, rfl, rfl, vM_hasSkills, Or.inl ⟨rfl, uM_hasSkills, cM_hasSkills l⟩⟩, List.forall_mem_cons.mpr ⟨Or.inr ⟨xy_M_isFree, xb_M_isFree, 4, (some .boolean), xr_ 0, 2, 0, 7, [none, none, some 1, none, some 2, some 3, some 4, some 5, some 6, some 7, some 8, none, none, some 9, some 10, some 11, none, some 12, some 13, some 14, some 15, some 16, some 17, some 18, none, some 19, some 20, some 21, none, some 22, some 23, some 24, some 25, some 26, some 27, some 28, none], xk_T7, 37, rfl, rfl, ⟨xe_M_isFree, xw_44, ⟨by decide, by decide, by decide +kernel⟩, ⟨Nat.le_of_ble_eq_true rfl, Nat.le_of_ble_eq_true rfl⟩, rfl, rfl⟩, xw_1078, xw_1080, xw_34, rfl, rfl, vM_isFree, Or.inl ⟨rfl, uM_isFree, cM_isFree l⟩⟩, fun _ h => absurd h List.not_mem_nil⟩⟩⟩) (n, C) h
set_option maxRecDepth 20000 in
set_option maxHeartbeats 2000000 in
theorem cM_asksNext (l : Launch) : xm_Wr l xy_M_asksNext (Cond.code xy_M_asksNext xb_M_asksNext 5 none :: xt_T) (xr_ 2) xk_cl xk_ns xk_tM pM_asksNext fM_asksNext := by
  refine xm_mk_wr (rt := .int) (fl := xf_M) (ct := tM_asksNext) (cn := []) (cj := xj_M) (plainFor_of_name (by decide)) xs_M xd_M_asksNext rfl (Or.inl rfl) (lM_asksNext l) (fun as M j pc ls st M2 cl => match as with | [_, .int k] => (∃ i c : Nat, M 0 3 = nI c ∧ c ≤ 20 ∧ i ≤ c ∧ j = 10 + (c - i) ∧ pc = 12 ∧ ls = [(0, .ref 0), (1, .int k), (2, .int (M 23 k.toNatClampNeg)), (3, .int (ym_b M k i)), (4, .int (nI i))] ∧ st = [] ∧ M2 = M) ∨ (∃ x : Int32, j = 3 ∧ pc = 172 ∧ ls = [(0, .ref 0), (1, .int k), (2, .int (M 23 k.toNatClampNeg)), (3, .int (ym_bk M k)), (4, .int x)] ∧ st = [] ∧ M2 = M) ∨ (∃ x : Int32, j = 2 ∧ pc = 193 ∧ ls = [(0, .ref 0), (1, .int k), (2, .int (M 23 k.toNatClampNeg)), (3, .int (ym_bk M k)), (4, .int x)] ∧ st = [.int (xi_x (ym_bk M k < 0) 2 0), .int k, .ref 24] ∧ M2 = xm_up M 25 k.toNatClampNeg (ym_bk M k)) ∨ (∃ x : Int32, j = 1 ∧ pc = 216 ∧ ls = [(0, .ref 0), (1, .int k), (2, .int (M 23 k.toNatClampNeg)), (3, .int (ym_bk M k)), (4, .int x)] ∧ st = [.int (xi_x (ym_bk M k < 0) (-1) (M 0 1 + M 0 36)), .int k, .ref 27] ∧ M2 = xm_up (xm_up M 25 k.toNatClampNeg (ym_bk M k)) 24 k.toNatClampNeg (xi_x (ym_bk M k < 0) 2 0)) | _ => False) ?_ ?_ ?_ ?_ ?_
  · rintro as M ⟨k, rfl, ⟨hk, hw, hP, hA, hL⟩⟩; exact Nat.le_of_ble_eq_true rfl
  · rintro as M ⟨k, rfl, ⟨hk, hw, hP, hA, hL⟩⟩; simp [fM_asksNext]
  · rintro as M v ⟨k, rfl, ⟨hk, hw, hP, hA, hL⟩⟩ h; first | rfl | (simp [fM_asksNext] at h)
  · rintro as M ⟨k, rfl, ⟨hk, hw, hP, hA, hL⟩⟩ j pc ls st M2 cl (⟨i, c, hc, hc20, hic, hj, rfl, rfl, rfl, rfl⟩ | ⟨x, hj, rfl, rfl, rfl, rfl⟩ | ⟨x, hj, rfl, rfl, rfl, rfl⟩ | ⟨x, hj, rfl, rfl, rfl, rfl⟩)
    · skip
      refine ⟨400, (And.intro rfl (And.intro (by decide) (And.intro (fun h18 => ?g1001_k_172) (fun h18 => (And.intro rfl (And.intro rfl (And.intro ?g1002_i_27 (And.intro (by decide) (And.intro (fun h29 => (And.intro (Nat.le_of_ble_eq_true rfl) (And.intro (by decide) ?g1003_k_12))) (fun h29 => (And.intro rfl (And.intro rfl (And.intro rfl (And.intro ?g1004_i_41 (And.intro rfl (And.intro ?g1005_i_48 (And.intro (by decide) (And.intro (fun h49 => (And.intro (Nat.le_of_ble_eq_true rfl) (And.intro (by decide) ?g1006_k_12))) (fun h49 => (And.intro rfl (And.intro (Nat.le_of_ble_eq_true rfl) (And.intro (Nat.le_of_ble_eq_true rfl) (And.intro ?g1007_c_56 (And.intro (by decide) (And.intro (fun h59 => (And.intro (Nat.le_of_ble_eq_true rfl) (And.intro (by decide) ?g1008_k_12))) (fun h59 => (And.intro rfl (And.intro rfl (And.intro rfl (And.intro ?g1009_i_74 (And.intro rfl (And.intro ?g1010_i_75 (And.intro rfl (And.intro (Nat.le_of_ble_eq_true rfl) (And.intro (Nat.le_of_ble_eq_true rfl) (And.intro ?g1011_c_77 (And.intro (by decide) (And.intro (fun h80 => (And.intro (Nat.le_of_ble_eq_true rfl) (And.intro (by decide) ?g1012_k_12))) (fun h80 => (And.intro rfl (And.intro rfl (And.intro ?g1013_i_94 (And.intro (by decide) (And.intro (fun h95 => (And.intro (Nat.le_of_ble_eq_true rfl) (And.intro (by decide) ?g1014_k_12))) (fun h95 => (And.intro rfl (And.intro (Nat.le_of_ble_eq_true rfl) (And.intro (Nat.le_of_ble_eq_true rfl) (And.intro ?g1015_c_102 (And.intro (by decide) (And.intro (fun h105 => (And.intro (by decide) (And.intro (fun h112 => (And.intro (Nat.le_of_ble_eq_true rfl) (And.intro (Nat.le_of_ble_eq_true rfl) (And.intro (by decide) ?g1016_k_12)))) (fun h112 => (And.intro rfl (And.intro rfl (And.intro ?g1017_i_121 (And.intro rfl (And.intro rfl (And.intro ?g1018_i_127 (And.intro (by decide) (And.intro (fun h128 => (And.intro (Nat.le_of_ble_eq_true rfl) (And.intro (Nat.le_of_ble_eq_true rfl) (And.intro (by decide) ?g1019_k_12)))) (fun h128 => (And.intro rfl (And.intro rfl (And.intro ?g1020_i_137 (And.intro rfl (And.intro rfl (And.intro ?g1021_i_143 (And.intro (by decide) (And.intro (fun h144 => (And.intro (Nat.le_of_ble_eq_true rfl) (And.intro (by decide) ?g1022_k_12))) (fun h144 => (And.intro rfl (And.intro rfl (And.intro ?g1023_i_153 (And.intro rfl (And.intro rfl (And.intro ?g1024_i_159 (And.intro (by decide) (And.intro (fun h160 => (And.intro (Nat.le_of_ble_eq_true rfl) (And.intro (by decide) ?g1025_k_12))) (fun h160 => (And.intro (Nat.le_of_ble_eq_true rfl) (And.intro (Nat.le_of_ble_eq_true rfl) (And.intro (by decide) ?g1026_k_12)))))))))))))))))))))))))))))))))) (fun h105 => (And.intro (by decide) (And.intro (Nat.le_of_ble_eq_true rfl) (And.intro (by decide) ?g1027_k_12)))))))))))))))))))))))))))))))))))))))))))))))))))))))⟩
      case g1001_k_172 =>
        obtain rfl := xl_end hc (by omega) hic (by assumption)
        refine ⟨3, by omega, Or.inr (Or.inl ⟨nI i, rfl, rfl, ?_, rfl, rfl⟩)⟩
        unfold ym_bk
        rw [hc, nI_clamp (by omega)]; rfl
      case g1002_i_27 =>
        exact vp_in_nI (Nat.lt_of_lt_of_le (xl_lt hc hic h18) hc20) (by decide)
      case g1003_k_12 =>
        have hlt := xl_lt hc hic h18
        have e1 : (nI i).toNatClampNeg = i := nI_clamp (by omega)
        refine ⟨10 + (c - (i + 1)), by omega, Or.inl ⟨i + 1, c, hc, hc20, by omega, rfl, rfl, ?_, rfl, rfl⟩⟩
        rw [nI_succ, ym_b1]
        simp only [e1] at *
        by_cases hz : ym_ok M2 k i ∧ ym_bt M2 i (ym_b M2 k i)
        · rw [xi_xt hz]
          first | rfl | (exfalso; obtain ⟨⟨z1, z2, z3, z4, z5, z6⟩, z7⟩ := hz; simp only [xi_0, xi_n0, ym_bt, ym_abs, ym_sk, ym_fr] at *; grind [Int32.not_lt, Int32.not_le])
        · rw [xi_xf hz]
          first | rfl | (exfalso; apply hz; simp only [xi_0, xi_n0, ym_ok, ym_bt, ym_abs, ym_sk, ym_fr] at *; grind [Int32.not_lt, Int32.not_le])
      case g1004_i_41 =>
        exact hk
      case g1005_i_48 =>
        exact yl_20 hw (vp_in_nI (Nat.lt_of_lt_of_le (xl_lt hc hic h18) hc20) (by decide)) (by decide)
      case g1006_k_12 =>
        have hlt := xl_lt hc hic h18
        have e1 : (nI i).toNatClampNeg = i := nI_clamp (by omega)
        refine ⟨10 + (c - (i + 1)), by omega, Or.inl ⟨i + 1, c, hc, hc20, by omega, rfl, rfl, ?_, rfl, rfl⟩⟩
        rw [nI_succ, ym_b1]
        simp only [e1] at *
        by_cases hz : ym_ok M2 k i ∧ ym_bt M2 i (ym_b M2 k i)
        · rw [xi_xt hz]
          first | rfl | (exfalso; obtain ⟨⟨z1, z2, z3, z4, z5, z6⟩, z7⟩ := hz; simp only [xi_0, xi_n0, ym_bt, ym_abs, ym_sk, ym_fr] at *; grind [Int32.not_lt, Int32.not_le])
        · rw [xi_xf hz]
          first | rfl | (exfalso; apply hz; simp only [xi_0, xi_n0, ym_ok, ym_bt, ym_abs, ym_sk, ym_fr] at *; grind [Int32.not_lt, Int32.not_le])
      case g1007_c_56 =>
        exact ⟨_, _, rfl, hA⟩
      case g1008_k_12 =>
        have hlt := xl_lt hc hic h18
        have e1 : (nI i).toNatClampNeg = i := nI_clamp (by omega)
        refine ⟨10 + (c - (i + 1)), by omega, Or.inl ⟨i + 1, c, hc, hc20, by omega, rfl, rfl, ?_, rfl, rfl⟩⟩
        rw [nI_succ, ym_b1]
        simp only [e1] at *
        by_cases hz : ym_ok M2 k i ∧ ym_bt M2 i (ym_b M2 k i)
        · rw [xi_xt hz]
          first | rfl | (exfalso; obtain ⟨⟨z1, z2, z3, z4, z5, z6⟩, z7⟩ := hz; simp only [xi_0, xi_n0, ym_bt, ym_abs, ym_sk, ym_fr] at *; grind [Int32.not_lt, Int32.not_le])
        · rw [xi_xf hz]
          first | rfl | (exfalso; apply hz; simp only [xi_0, xi_n0, ym_ok, ym_bt, ym_abs, ym_sk, ym_fr] at *; grind [Int32.not_lt, Int32.not_le])
      case g1009_i_74 =>
        exact hk
      case g1010_i_75 =>
        exact hw
      case g1011_c_77 =>
        exact ⟨_, _, _, rfl, vp_in_nI (Nat.lt_of_lt_of_le (xl_lt hc hic h18) hc20) (by decide)⟩
      case g1012_k_12 =>
        have hlt := xl_lt hc hic h18
        have e1 : (nI i).toNatClampNeg = i := nI_clamp (by omega)
        refine ⟨10 + (c - (i + 1)), by omega, Or.inl ⟨i + 1, c, hc, hc20, by omega, rfl, rfl, ?_, rfl, rfl⟩⟩
        rw [nI_succ, ym_b1]
        simp only [e1] at *
        by_cases hz : ym_ok M2 k i ∧ ym_bt M2 i (ym_b M2 k i)
        · rw [xi_xt hz]
          first | rfl | (exfalso; obtain ⟨⟨z1, z2, z3, z4, z5, z6⟩, z7⟩ := hz; simp only [xi_0, xi_n0, ym_bt, ym_abs, ym_sk, ym_fr] at *; grind [Int32.not_lt, Int32.not_le])
        · rw [xi_xf hz]
          first | rfl | (exfalso; apply hz; simp only [xi_0, xi_n0, ym_ok, ym_bt, ym_abs, ym_sk, ym_fr] at *; grind [Int32.not_lt, Int32.not_le])
      case g1013_i_94 =>
        exact yl_20 hk (vp_in_nI (Nat.lt_of_lt_of_le (xl_lt hc hic h18) hc20) (by decide)) (by decide)
      case g1014_k_12 =>
        have hlt := xl_lt hc hic h18
        have e1 : (nI i).toNatClampNeg = i := nI_clamp (by omega)
        refine ⟨10 + (c - (i + 1)), by omega, Or.inl ⟨i + 1, c, hc, hc20, by omega, rfl, rfl, ?_, rfl, rfl⟩⟩
        rw [nI_succ, ym_b1]
        simp only [e1] at *
        by_cases hz : ym_ok M2 k i ∧ ym_bt M2 i (ym_b M2 k i)
        · rw [xi_xt hz]
          first | rfl | (exfalso; obtain ⟨⟨z1, z2, z3, z4, z5, z6⟩, z7⟩ := hz; simp only [xi_0, xi_n0, ym_bt, ym_abs, ym_sk, ym_fr] at *; grind [Int32.not_lt, Int32.not_le])
        · rw [xi_xf hz]
          first | rfl | (exfalso; apply hz; simp only [xi_0, xi_n0, ym_ok, ym_bt, ym_abs, ym_sk, ym_fr] at *; grind [Int32.not_lt, Int32.not_le])
      case g1015_c_102 =>
        exact ⟨_, _, rfl, hL, hk⟩
      case g1016_k_12 =>
        have hlt := xl_lt hc hic h18
        have e1 : (nI i).toNatClampNeg = i := nI_clamp (by omega)
        refine ⟨10 + (c - (i + 1)), by omega, Or.inl ⟨i + 1, c, hc, hc20, by omega, rfl, rfl, ?_, rfl, rfl⟩⟩
        rw [nI_succ, ym_b1]
        simp only [e1] at *
        by_cases hz : ym_ok M2 k i ∧ ym_bt M2 i (ym_b M2 k i)
        · rw [xi_xt hz]
          first | rfl | (exfalso; obtain ⟨⟨z1, z2, z3, z4, z5, z6⟩, z7⟩ := hz; simp only [xi_0, xi_n0, ym_bt, ym_abs, ym_sk, ym_fr] at *; grind [Int32.not_lt, Int32.not_le])
        · rw [xi_xf hz]
          first | rfl | (exfalso; apply hz; simp only [xi_0, xi_n0, ym_ok, ym_bt, ym_abs, ym_sk, ym_fr] at *; grind [Int32.not_lt, Int32.not_le])
      case g1017_i_121 =>
        exact vp_in_nI (Nat.lt_of_lt_of_le (xl_lt hc hic h18) hc20) (by decide)
      case g1018_i_127 =>
        exact ym_b_nn (by omega) h112
      case g1019_k_12 =>
        have hlt := xl_lt hc hic h18
        have e1 : (nI i).toNatClampNeg = i := nI_clamp (by omega)
        refine ⟨10 + (c - (i + 1)), by omega, Or.inl ⟨i + 1, c, hc, hc20, by omega, rfl, rfl, ?_, rfl, rfl⟩⟩
        rw [nI_succ, ym_b1]
        simp only [e1] at *
        by_cases hz : ym_ok M2 k i ∧ ym_bt M2 i (ym_b M2 k i)
        · rw [xi_xt hz]
          first | rfl | (exfalso; obtain ⟨⟨z1, z2, z3, z4, z5, z6⟩, z7⟩ := hz; simp only [xi_0, xi_n0, ym_bt, ym_abs, ym_sk, ym_fr] at *; grind [Int32.not_lt, Int32.not_le])
        · rw [xi_xf hz]
          first | rfl | (exfalso; apply hz; simp only [xi_0, xi_n0, ym_ok, ym_bt, ym_abs, ym_sk, ym_fr] at *; grind [Int32.not_lt, Int32.not_le])
      case g1020_i_137 =>
        exact vp_in_nI (Nat.lt_of_lt_of_le (xl_lt hc hic h18) hc20) (by decide)
      case g1021_i_143 =>
        exact ym_b_nn (by omega) h112
      case g1022_k_12 =>
        have hlt := xl_lt hc hic h18
        have e1 : (nI i).toNatClampNeg = i := nI_clamp (by omega)
        refine ⟨10 + (c - (i + 1)), by omega, Or.inl ⟨i + 1, c, hc, hc20, by omega, rfl, rfl, ?_, rfl, rfl⟩⟩
        rw [nI_succ, ym_b1]
        simp only [e1] at *
        by_cases hz : ym_ok M2 k i ∧ ym_bt M2 i (ym_b M2 k i)
        · rw [xi_xt hz]
          first | rfl | (exfalso; obtain ⟨⟨z1, z2, z3, z4, z5, z6⟩, z7⟩ := hz; simp only [xi_0, xi_n0, ym_bt, ym_abs, ym_sk, ym_fr] at *; grind [Int32.not_lt, Int32.not_le])
        · rw [xi_xf hz]
          first | rfl | (exfalso; apply hz; simp only [xi_0, xi_n0, ym_ok, ym_bt, ym_abs, ym_sk, ym_fr] at *; grind [Int32.not_lt, Int32.not_le])
      case g1023_i_153 =>
        exact vp_in_nI (Nat.lt_of_lt_of_le (xl_lt hc hic h18) hc20) (by decide)
      case g1024_i_159 =>
        exact ym_b_nn (by omega) h112
      case g1025_k_12 =>
        have hlt := xl_lt hc hic h18
        have e1 : (nI i).toNatClampNeg = i := nI_clamp (by omega)
        refine ⟨10 + (c - (i + 1)), by omega, Or.inl ⟨i + 1, c, hc, hc20, by omega, rfl, rfl, ?_, rfl, rfl⟩⟩
        rw [nI_succ, ym_b1]
        simp only [e1] at *
        by_cases hz : ym_ok M2 k i ∧ ym_bt M2 i (ym_b M2 k i)
        · rw [xi_xt hz]
          first | rfl | (exfalso; obtain ⟨⟨z1, z2, z3, z4, z5, z6⟩, z7⟩ := hz; simp only [xi_0, xi_n0, ym_bt, ym_abs, ym_sk, ym_fr] at *; grind [Int32.not_lt, Int32.not_le])
        · rw [xi_xf hz]
          first | rfl | (exfalso; apply hz; simp only [xi_0, xi_n0, ym_ok, ym_bt, ym_abs, ym_sk, ym_fr] at *; grind [Int32.not_lt, Int32.not_le])
      case g1026_k_12 =>
        have hlt := xl_lt hc hic h18
        have e1 : (nI i).toNatClampNeg = i := nI_clamp (by omega)
        refine ⟨10 + (c - (i + 1)), by omega, Or.inl ⟨i + 1, c, hc, hc20, by omega, rfl, rfl, ?_, rfl, rfl⟩⟩
        rw [nI_succ, ym_b1]
        simp only [e1] at *
        by_cases hz : ym_ok M2 k i ∧ ym_bt M2 i (ym_b M2 k i)
        · rw [xi_xt hz]
          first | rfl | (exfalso; obtain ⟨⟨z1, z2, z3, z4, z5, z6⟩, z7⟩ := hz; simp only [xi_0, xi_n0, ym_bt, ym_abs, ym_sk, ym_fr] at *; grind [Int32.not_lt, Int32.not_le])
        · rw [xi_xf hz]
          first | rfl | (exfalso; apply hz; simp only [xi_0, xi_n0, ym_ok, ym_bt, ym_abs, ym_sk, ym_fr] at *; grind [Int32.not_lt, Int32.not_le])
      case g1027_k_12 =>
        have hlt := xl_lt hc hic h18
        have e1 : (nI i).toNatClampNeg = i := nI_clamp (by omega)
        refine ⟨10 + (c - (i + 1)), by omega, Or.inl ⟨i + 1, c, hc, hc20, by omega, rfl, rfl, ?_, rfl, rfl⟩⟩
        rw [nI_succ, ym_b1]
        simp only [e1] at *
        by_cases hz : ym_ok M2 k i ∧ ym_bt M2 i (ym_b M2 k i)
        · rw [xi_xt hz]
          first | rfl | (exfalso; obtain ⟨⟨z1, z2, z3, z4, z5, z6⟩, z7⟩ := hz; simp only [xi_0, xi_n0, ym_bt, ym_abs, ym_sk, ym_fr] at *; grind [Int32.not_lt, Int32.not_le])
        · rw [xi_xf hz]
          first | rfl | (exfalso; apply hz; simp only [xi_0, xi_n0, ym_ok, ym_bt, ym_abs, ym_sk, ym_fr] at *; grind [Int32.not_lt, Int32.not_le])
    · skip
      refine ⟨400, (And.intro rfl (And.intro rfl (And.intro ?g2001_i_178 (And.intro rfl (And.intro (by decide) (And.intro (fun h185 => ?g2002_k_193) (fun h185 => (And.intro (by decide) ?g2003_k_193))))))))⟩
      case g2001_i_178 =>
        exact hk
      case g2002_k_193 =>
        refine ⟨2, by omega, Or.inr (Or.inr (Or.inl ⟨x, rfl, rfl, rfl, ?_, rfl⟩))⟩
        first | (rw [xi_xt (Int32.not_le.mp h185)]; rfl) | (rw [xi_xf (Int32.not_lt.mpr h185)]; rfl)
      case g2003_k_193 =>
        refine ⟨2, by omega, Or.inr (Or.inr (Or.inl ⟨x, rfl, rfl, rfl, ?_, rfl⟩))⟩
        first | (rw [xi_xt (Int32.not_le.mp h185)]; rfl) | (rw [xi_xf (Int32.not_lt.mpr h185)]; rfl)
    · skip
      refine ⟨400, (And.intro rfl (And.intro ?g3001_i_193 (And.intro rfl (And.intro (by decide) (And.intro (fun h200 => (And.intro rfl (And.intro rfl ?g3002_k_216))) (fun h200 => (And.intro (by decide) ?g3003_k_216)))))))⟩
      case g3001_i_193 =>
        exact hk
      case g3002_k_216 =>
        refine ⟨1, by omega, Or.inr (Or.inr (Or.inr ⟨x, rfl, rfl, rfl, ?_, rfl⟩))⟩
        first | (rw [xi_xt (v := -1) (w := M 0 1 + M 0 36) (Int32.not_le.mp h200)]; rfl) | (rw [xi_xf (v := -1) (w := M 0 1 + M 0 36) (Int32.not_lt.mpr h200)]; rfl)
      case g3003_k_216 =>
        refine ⟨1, by omega, Or.inr (Or.inr (Or.inr ⟨x, rfl, rfl, rfl, ?_, rfl⟩))⟩
        first | (rw [xi_xt (v := -1) (w := M 0 1 + M 0 36) (Int32.not_le.mp h200)]; rfl) | (rw [xi_xf (v := -1) (w := M 0 1 + M 0 36) (Int32.not_lt.mpr h200)]; rfl)
    · skip
      have hbk : ¬ ym_bk M k < 0 → vp_in (ym_bk M k) 20 := by
        obtain ⟨c0, hc0, hc1⟩ := hP
        unfold ym_bk
        rw [hc1, nI_clamp (by omega)]
        exact ym_b_nn hc0
      refine ⟨400, (And.intro rfl (And.intro ?g4001_i_216 (And.intro (by decide) (And.intro (fun h218 => (And.intro rfl (And.intro ?g4002_z_233 (And.intro rfl (And.intro ?g4003_i_233 (And.intro rfl (And.intro rfl (And.intro ?g4004_i_240 (And.intro rfl (And.intro ?g4005_i_243 (And.intro rfl (And.intro rfl (And.intro ?g4006_i_250 (And.intro rfl (And.intro ?g4007_i_253 ?g4008_r_254))))))))))))))) (fun h218 => ?g4009_r_221)))))⟩
      case g4001_i_216 =>
        exact hk
      case g4002_z_233 =>
        rfl
      case g4003_i_233 =>
        exact yl_20 hk (hbk (Int32.not_lt.mpr h218)) (by decide)
      case g4004_i_240 =>
        exact hk
      case g4005_i_243 =>
        exact hk
      case g4006_i_250 =>
        exact hbk (Int32.not_lt.mpr h218)
      case g4007_i_253 =>
        exact hbk (Int32.not_lt.mpr h218)
      case g4008_r_254 =>
        refine ⟨rfl, ?_⟩
        simp only [fM_asksNext, ym_nx]
        rw [if_neg (Int32.not_lt.mpr h218)]; rfl
      case g4009_r_221 =>
        refine ⟨rfl, ?_⟩
        simp only [fM_asksNext, ym_nx]
        rw [if_pos (Int32.not_le.mp h218)]; rfl
  · rintro as M ⟨k, rfl, ⟨hk, hw, hP, hA, hL⟩⟩
    refine ⟨400, (And.intro rfl (And.intro rfl (And.intro ?g1_i_5 (And.intro (Nat.le_of_ble_eq_true rfl) (And.intro (Nat.le_of_ble_eq_true rfl) (And.intro (Nat.le_of_ble_eq_true rfl) ?g2_k_12))))))⟩
    case g1_i_5 =>
      exact hk
    case g2_k_12 =>
      obtain ⟨c0, hc0, hc1⟩ := hP
      exact ⟨10 + (c0 - 0), Or.inl ⟨0, c0, hc1, hc0, Nat.zero_le _, rfl, rfl, rfl, rfl, rfl⟩⟩
