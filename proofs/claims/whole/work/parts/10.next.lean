/-! WHO IS THERE, WHO COMES, WHO IS NEXT: the class's own numbers -/
def xd_on (n : Int32) : Int32 := 1 <<< (n &&& 31)
def xd_us (x n : Int32) : Int32 := (x.toUInt32 >>> (n.toUInt32 &&& Int32.toUInt32 31)).toInt32
def xd_bc (x : Int32) : Int32 := (fun a : Int32 => (fun b : Int32 => (fun c : Int32 => (fun d : Int32 => (fun e : Int32 => e &&& 63) (d + xd_us d 16)) (c + xd_us c 8)) ((b + xd_us b 4) &&& 252645135)) ((a &&& 858993459) + (xd_us a 2 &&& 858993459))) (x - (xd_us x 1 &&& 1431655765))
noncomputable def xd_there (M : xm_M) (d : Int32) : Int32 := xq_o (fun i => xi_w (M 10 i ≤ d) (1 <<< (nI i &&& 31))) (M 2 0).toNatClampNeg
noncomputable def xd_abs (M : xm_M) (d : Int32) : Int32 := xq_o (fun i => xi_w (M 23 i = 2 ∧ M 20 i ≤ d ∧ d ≤ M 21 i ∧ ¬ ((d = M 20 i ∧ ¬ M 22 i &&& 1 = 0) ∨ (d = M 21 i ∧ ¬ M 22 i &&& 2 = 0))) (1 <<< (M 18 i &&& 31))) (M 4 0).toNatClampNeg
noncomputable def xd_come (M : xm_M) (w d : Int32) : Int32 := xq_o (fun i => xi_w (M 30 i = 1 ∧ M 28 i = w ∧ M 29 i = d) (1 <<< (M 31 i &&& 31))) (M 6 0).toNatClampNeg
noncomputable def xd_eng (M : xm_M) (d : Int32) : Int32 := xq_o (fun i => xi_w (M 29 i = d ∧ ¬ M 31 i = -1) (1 <<< (M 31 i &&& 31))) (M 6 0).toNatClampNeg
noncomputable def xd_aw (M : xm_M) (d : Int32) : Int32 := xd_there M d &&& (xd_abs M d ^^^ -1)
def xv_n (x : Int32) (N : Nat) : Prop := ∃ c, c ≤ N ∧ x = nI c
/-- the counts are within their arrays -/
def xv_C (M : xm_M) : Prop := xv_n (M 2 0) 20 ∧ xv_n (M 3 0) 6 ∧ xv_n (M 4 0) 80 ∧ xv_n (M 6 0) 60
noncomputable def xq_k (b : Nat → Int32) (s d : Int32) : Nat → Int32
  | 0 => s
  | n + 1 => xi_x (d < b n) (xq_k b s d n &&& (1 <<< (nI n &&& 31) ^^^ -1)) (xq_k b s d n)
theorem xq_k1 (b : Nat → Int32) (s d : Int32) (n : Nat) : xq_k b s d (n + 1) = xi_x (d < b n) (xq_k b s d n &&& (1 <<< (nI n &&& 31) ^^^ -1)) (xq_k b s d n) := rfl
noncomputable def xd_hs (M : xm_M) (p w d : Int32) : Prop := xq_k (fun n => M 14 (p * 8 + nI n).toNatClampNeg) (M 8 p.toNatClampNeg) d 8 &&& w = w
theorem xl_b {p : Int32} {i : Nat} (hp : vp_in p 20) (hi : i < 8) : vp_in (p * 8 + nI i) 160 := by
  obtain ⟨k, hk, rfl⟩ := vp_in_of hp (by decide)
  have e1 : nI k * 8 = nI (k * 8) := pk_mul k 8
  rw [e1, nI_add]
  exact vp_in_nI (by omega) (by decide)
/-- the first place of those below n that is such, or -1 -/
noncomputable def xq_f (P : Nat → Prop) : Nat → Int32
  | 0 => -1
  | n + 1 => xi_x (xq_f P n = -1) (xi_x (P n) (nI n) (-1)) (xq_f P n)
theorem xq_f_no {P : Nat → Prop} : ∀ {n : Nat}, (∀ k, k < n → ¬ P k) → xq_f P n = -1
  | 0, _ => rfl
  | n + 1, h => by
    have ih := xq_f_no (P := P) (n := n) (fun k hk => h k (by omega))
    show xi_x _ _ _ = -1
    rw [xi_xt ih, xi_xf (h n (by omega))]
theorem xq_ne {n : Nat} (h : n < 2 ^ 31) : ¬ nI n = -1 := by
  intro q
  have h1 := nI_toInt h
  rw [q] at h1
  have h2 : (-1 : Int32).toInt = -1 := by decide
  omega
theorem xq_f_is {P : Nat → Prop} {i : Nat} (hP : P i) (hno : ∀ k, k < i → ¬ P k) (hi : i < 2 ^ 31) : ∀ n, i < n → xq_f P n = nI i
  | 0, h => absurd h (Nat.not_lt_zero i)
  | n + 1, h => by
    show xi_x (xq_f P n = -1) _ _ = nI i
    rcases Nat.lt_or_ge i n with q | q
    · rw [xi_xf (by rw [xq_f_is hP hno hi n q]; exact xq_ne hi), xq_f_is hP hno hi n q]
    · obtain rfl : i = n := by omega
      rw [xi_xt (xq_f_no hno), xi_xt hP]
def xd_sh (M : xm_M) (p d : Int32) (i : Nat) : Prop := ¬ M 17 i &&& (1 <<< (p &&& 31)) = 0 ∧ xd_come M (nI i) d &&& (1 <<< (p &&& 31)) = 0 ∧ xd_bc (M 17 i &&& xd_aw M d &&& (1 <<< (p &&& 31) ^^^ -1) ||| xd_come M (nI i) d) < M 16 i
noncomputable def xd_cl (M : xm_M) (p d : Int32) : Int32 := xi_x (xd_aw M d &&& (1 <<< (p &&& 31)) = 0) (-1) (xq_f (xd_sh M p d) (M 3 0).toNatClampNeg)
def xd_dy (M : xm_M) (f t h p : Int32) (a k : Nat) : Prop := (nI (a + k) - nI (a + k) / 7 * 7 < 5 ∧ M 7 (nI (a + k)).toNatClampNeg = 0) ∧ ¬ ((nI (a + k) = f ∧ ¬ h &&& 1 = 0) ∨ (nI (a + k) = t ∧ ¬ h &&& 2 = 0)) ∧ ¬ xd_cl M p (nI (a + k)) = -1
noncomputable def xd_fd (M : xm_M) (f t h p : Int32) : Int32 := xi_x (xq_f (xd_dy M f t h p f.toNatClampNeg) (t.toNatClampNeg + 1 - f.toNatClampNeg) = -1) (-1) (f + xq_f (xd_dy M f t h p f.toNatClampNeg) (t.toNatClampNeg + 1 - f.toNatClampNeg))
def xd_gb (M : xm_M) (p b : Int32) : Prop := if M 9 p.toNatClampNeg = M 9 b.toNatClampNeg then M 13 p.toNatClampNeg < M 13 b.toNatClampNeg else M 9 b.toNatClampNeg < M 9 p.toNatClampNeg
noncomputable def xq_b (M : xm_M) (can w d : Int32) : Nat → Int32
  | 0 => -1
  | n + 1 => xi_x (¬ can &&& (1 <<< (nI n &&& 31)) = 0 ∧ xd_hs M (nI n) w d ∧ (xq_b M can w d n = -1 ∨ xd_gb M (nI n) (xq_b M can w d n))) (nI n) (xq_b M can w d n)
theorem xq_b1 (M : xm_M) (can w d : Int32) (n : Nat) : xq_b M can w d (n + 1) = xi_x (¬ can &&& (1 <<< (nI n &&& 31)) = 0 ∧ xd_hs M (nI n) w d ∧ (xq_b M can w d n = -1 ∨ xd_gb M (nI n) (xq_b M can w d n))) (nI n) (xq_b M can w d n) := rfl
theorem xq_b_in (M : xm_M) (can w d : Int32) : ∀ n, xq_b M can w d n = -1 ∨ ∃ m, m < n ∧ xq_b M can w d n = nI m
  | 0 => Or.inl rfl
  | n + 1 => by
    rw [xq_b1]
    by_cases h : (¬ can &&& (1 <<< (nI n &&& 31)) = 0 ∧ xd_hs M (nI n) w d ∧ (xq_b M can w d n = -1 ∨ xd_gb M (nI n) (xq_b M can w d n)))
    · rw [xi_xt h]; exact Or.inr ⟨n, by omega, rfl⟩
    · rw [xi_xf h]
      rcases xq_b_in M can w d n with q | ⟨m, q1, q2⟩
      · exact Or.inl q
      · exact Or.inr ⟨m, by omega, q2⟩
noncomputable def xd_can (M : xm_M) (w d k : Int32) : Int32 := xd_aw M d &&& (M 17 w.toNatClampNeg ^^^ -1) &&& (xd_eng M d ^^^ -1) &&& (M 32 k.toNatClampNeg ^^^ -1)
noncomputable def xd_nx (M : xm_M) (k : Int32) : Int32 := xq_b M (xd_can M (M 28 k.toNatClampNeg) (M 29 k.toNatClampNeg) k) (M 15 (M 28 k.toNatClampNeg).toNatClampNeg) (M 29 k.toNatClampNeg) (M 2 0).toNatClampNeg
def pI_bitCount (as : List Value) (M : xm_M) : Prop := ∃ x : Int32, as = [.int x]
noncomputable def fI_bitCount (as : List Value) (M : xm_M) : Option Value × xm_M := match as with
  | [.int x] => (some (.int (xd_bc x)), M)
  | _ => (none, M)
noncomputable abbrev sI_bitCount : xm_C := (1, 1, 0, pI_bitCount, fI_bitCount)
theorem uI_bitCount : ∀ as M, (fI_bitCount as M).2 = M := by
  intro as M
  unfold fI_bitCount
  split <;> rfl
noncomputable def tI_bitCount : List (Nat × xm_C) := []
theorem lI_bitCount (l : Launch) : ∀ n C, (n, C) ∈ tI_bitCount → xm_lkS l "java/lang/Integer" xt_T xk_ns (xr_ 0) xk_cl xk_tA n C ∨ xm_lkV l "java/lang/Integer" xt_T xk_ns (xr_ 0) xk_cl xk_tA n C := fun n C h => (show ∀ q ∈ tI_bitCount, xm_lkS l "java/lang/Integer" xt_T xk_ns (xr_ 0) xk_cl xk_tA q.1 q.2 ∨ xm_lkV l "java/lang/Integer" xt_T xk_ns (xr_ 0) xk_cl xk_tA q.1 q.2 from fun _ h => absurd h List.not_mem_nil) (n, C) h
set_option maxRecDepth 20000 in
set_option maxHeartbeats 2000000 in
theorem cI_bitCount (l : Launch) : xm_Pu l xy_I_bitCount (Cond.code xy_I_bitCount xb_I_bitCount 1 (some .int) :: xt_T) (xr_ 0) xk_cl xk_ns xk_tA pI_bitCount fI_bitCount := by
  refine xm_mk_pu (rt := .int) (fl := []) (ct := tI_bitCount) (cn := xc_I) (cj := []) (plainFor_of_name (by decide)) xs_I xd_I_bitCount rfl (Or.inr rfl) (lI_bitCount l) (fun _ _ _ _ _ _ _ _ => False) ?_ ?_ ?_ (fun _ _ _ _ _ _ _ _ _ h => h.elim) ?_
  · rintro as M ⟨x, rfl⟩; exact Nat.le_of_ble_eq_true rfl
  · rintro as M ⟨x, rfl⟩; simp [fI_bitCount]
  · rintro as M v ⟨x, rfl⟩ h; first | rfl | (simp [fI_bitCount] at h)
  · rintro as M ⟨x, rfl⟩
    refine ⟨400, (And.intro (Nat.le_of_ble_eq_true rfl) (And.intro (Nat.le_of_ble_eq_true rfl) (And.intro (Nat.le_of_ble_eq_true rfl) (And.intro (Nat.le_of_ble_eq_true rfl) (And.intro (Nat.le_of_ble_eq_true rfl) (And.intro ?g1_w_52 ?g2_r_52))))))⟩
    case g1_w_52 =>
      first | rfl | exact xi_nb
    case g2_r_52 =>
      exact ⟨rfl, rfl⟩
def pP_haveSkills (as : List Value) (M : xm_M) : Prop := ∃ p w d : Int32, as = [.ref 2, .int p, .int w, .int d] ∧ vp_in p 20
noncomputable def fP_haveSkills (as : List Value) (M : xm_M) : Option Value × xm_M := match as with
  | [_, .int p, .int w, .int d] => (some (.int (xi_b (xd_hs M p w d))), M)
  | _ => (none, M)
noncomputable abbrev sP_haveSkills : xm_C := (0, 4, 0, pP_haveSkills, fP_haveSkills)
theorem uP_haveSkills : ∀ as M, (fP_haveSkills as M).2 = M := by
  intro as M
  unfold fP_haveSkills
  split <;> rfl
theorem vP_haveSkills : ∀ as M, pP_haveSkills as M → ∃ as1, as = .ref 2 :: as1 := by
  rintro as M ⟨p, w, d, rfl, hpre⟩
  exact ⟨_, rfl⟩
noncomputable def tP_haveSkills : List (Nat × xm_C) := [(50, sA_only)]
theorem lP_haveSkills (l : Launch) : ∀ n C, (n, C) ∈ tP_haveSkills → xm_lkS l "AbsenceRows$Persons" xt_T xk_ns (xr_ 1) xk_cl xk_tA n C ∨ xm_lkV l "AbsenceRows$Persons" xt_T xk_ns (xr_ 1) xk_cl xk_tA n C := fun n C h => (show ∀ q ∈ tP_haveSkills, xm_lkS l "AbsenceRows$Persons" xt_T xk_ns (xr_ 1) xk_cl xk_tA q.1 q.2 ∨ xm_lkV l "AbsenceRows$Persons" xt_T xk_ns (xr_ 1) xk_cl xk_tA q.1 q.2 from List.forall_mem_cons.mpr ⟨Or.inl ⟨xy_A_only, xb_A_only, 1, (some .int), xr_ 0, rfl, ⟨xe_A_only, xw_37, ⟨by decide, by decide, by decide +kernel⟩, ⟨Nat.le_of_ble_eq_true rfl, Nat.le_of_ble_eq_true rfl⟩, rfl, rfl⟩, xw_529, Or.inr ⟨"AbsenceRows", xn_10⟩, Or.inl ⟨rfl, uA_only, cA_only l⟩⟩, fun _ h => absurd h List.not_mem_nil⟩) (n, C) h
set_option maxRecDepth 20000 in
set_option maxHeartbeats 2000000 in
theorem cP_haveSkills (l : Launch) : xm_Pu l xy_P_haveSkills (Cond.code xy_P_haveSkills xb_P_haveSkills 6 (some .boolean) :: xt_T) (xr_ 1) xk_cl xk_ns xk_tA pP_haveSkills fP_haveSkills := by
  refine xm_mk_pu (rt := .boolean) (fl := xf_P) (ct := tP_haveSkills) (cn := []) (cj := []) (plainFor_of_name (by decide)) xs_P xd_P_haveSkills rfl (Or.inr rfl) (lP_haveSkills l) (fun as M j pc ls st M2 cl => match as with | [_, .int p, .int w, .int d] => (∃ i : Nat, i ≤ 8 ∧ j = 8 - i ∧ pc = 11 ∧ ls = [(0, .ref 2), (1, .int p), (2, .int w), (3, .int d), (4, .int (xq_k (fun n => M 14 (p * 8 + nI n).toNatClampNeg) (M 8 p.toNatClampNeg) d i)), (5, .int (nI i))] ∧ st = [] ∧ M2 = M ∧ cl = 0) | _ => False) ?_ ?_ ?_ ?_ ?_
  · rintro as M ⟨p, w, d, rfl, hpre⟩; exact Nat.le_of_ble_eq_true rfl
  · rintro as M ⟨p, w, d, rfl, hpre⟩; simp [fP_haveSkills]
  · rintro as M v ⟨p, w, d, rfl, hpre⟩ h; first | rfl | (simp [fP_haveSkills] at h)
  · rintro as M ⟨p, w, d, rfl, hpre⟩ j pc ls st M2 cl ⟨i, hi, hj, rfl, rfl, rfl, rfl, rfl⟩
    refine ⟨400, (And.intro (by decide) (And.intro (fun h15 => (And.intro (by decide) (And.intro (fun h57 => (And.intro ?g1001_w_65 ?g1002_r_65)) (fun h57 => (And.intro (by decide) (And.intro ?g1003_w_65 ?g1004_r_65)))))) (fun h15 => (And.intro rfl (And.intro rfl (And.intro ?g1005_i_30 (And.intro (by decide) (And.intro (fun h31 => (And.intro (Nat.le_of_ble_eq_true rfl) (And.intro (by decide) ?g1006_k_11))) (fun h31 => (And.intro rfl (And.intro (Nat.le_of_ble_eq_true rfl) (And.intro (Nat.le_of_ble_eq_true rfl) (And.intro ?g1007_c_38 (And.intro (Nat.le_of_ble_eq_true rfl) (And.intro (Nat.le_of_ble_eq_true rfl) (And.intro (by decide) ?g1008_k_11))))))))))))))))⟩
    case g1001_w_65 =>
      first | rfl | exact xi_nb
    case g1002_r_65 =>
      obtain rfl := xl_end (x := Int32.ofInt 8) (c := 8) rfl (by decide) hi h15
      refine ⟨xl_some ?_, rfl⟩
      first | exact (xi_t h57).symm | exact (xi_f h57).symm
    case g1003_w_65 =>
      first | rfl | exact xi_nb
    case g1004_r_65 =>
      obtain rfl := xl_end (x := Int32.ofInt 8) (c := 8) rfl (by decide) hi h15
      refine ⟨xl_some ?_, rfl⟩
      first | exact (xi_t h57).symm | exact (xi_f h57).symm
    case g1005_i_30 =>
      exact xl_b hpre (xl_lt (x := Int32.ofInt 8) (c := 8) rfl hi h15)
    case g1006_k_11 =>
      have hlt := xl_lt (x := Int32.ofInt 8) (c := 8) rfl hi h15
      refine ⟨8 - (i + 1), by omega, i + 1, by omega, rfl, rfl, ?_, rfl, rfl, rfl⟩
      rw [nI_succ, xq_k1]
      first | (rw [xi_xt (c := d < M2 14 (p * 8 + nI i).toNatClampNeg) (Int32.not_le.mp h31)]; rfl) | (rw [xi_xf (c := d < M2 14 (p * 8 + nI i).toNatClampNeg) (Int32.not_lt.mpr h31)]; rfl)
    case g1007_c_38 =>
      exact ⟨_, rfl⟩
    case g1008_k_11 =>
      have hlt := xl_lt (x := Int32.ofInt 8) (c := 8) rfl hi h15
      refine ⟨8 - (i + 1), by omega, i + 1, by omega, rfl, rfl, ?_, rfl, rfl, rfl⟩
      rw [nI_succ, xq_k1]
      first | (rw [xi_xt (c := d < M2 14 (p * 8 + nI i).toNatClampNeg) (Int32.not_le.mp h31)]; rfl) | (rw [xi_xf (c := d < M2 14 (p * 8 + nI i).toNatClampNeg) (Int32.not_lt.mpr h31)]; rfl)
  · rintro as M ⟨p, w, d, rfl, hpre⟩
    refine ⟨400, (And.intro rfl (And.intro rfl (And.intro ?g1_i_5 (And.intro (Nat.le_of_ble_eq_true rfl) (And.intro (Nat.le_of_ble_eq_true rfl) ?g2_k_11)))))⟩
    case g1_i_5 =>
      exact hpre
    case g2_k_11 =>
      exact ⟨8 - 0, 0, Nat.zero_le _, rfl, rfl, rfl, rfl, rfl, rfl⟩
def pA_atWorkOn (as : List Value) (M : xm_M) : Prop := ∃ d : Int32, as = [.ref 0, .int d] ∧ xv_C M
noncomputable def fA_atWorkOn (as : List Value) (M : xm_M) : Option Value × xm_M := match as with
  | [_, .int d] => (some (.int (xd_aw M d)), M)
  | _ => (none, M)
noncomputable abbrev sA_atWorkOn : xm_C := (0, 2, 0, pA_atWorkOn, fA_atWorkOn)
theorem uA_atWorkOn : ∀ as M, (fA_atWorkOn as M).2 = M := by
  intro as M
  unfold fA_atWorkOn
  split <;> rfl
theorem vA_atWorkOn : ∀ as M, pA_atWorkOn as M → ∃ as1, as = .ref 0 :: as1 := by
  rintro as M ⟨d, rfl, ⟨hP, hW, hK, hL⟩⟩
  exact ⟨_, rfl⟩
noncomputable def tA_atWorkOn : List (Nat × xm_C) := [(360, sP_thereOn), (253, sK_absentOn)]
theorem lA_atWorkOn (l : Launch) : ∀ n C, (n, C) ∈ tA_atWorkOn → xm_lkS l "AbsenceRows" xt_T xk_ns (xr_ 2) xk_cl xk_tA n C ∨ xm_lkV l "AbsenceRows" xt_T xk_ns (xr_ 2) xk_cl xk_tA n C := fun n C h => (show ∀ q ∈ tA_atWorkOn, xm_lkS l "AbsenceRows" xt_T xk_ns (xr_ 2) xk_cl xk_tA q.1 q.2 ∨ xm_lkV l "AbsenceRows" xt_T xk_ns (xr_ 2) xk_cl xk_tA q.1 q.2 from List.forall_mem_cons.mpr ⟨Or.inr ⟨xy_P_thereOn, xb_P_thereOn, 4, (some .int), xr_ 1, 1, 2, 2, [none, some 8, some 9, some 10, some 11, some 12, some 13, some 14], xk_T2, 8, rfl, rfl, ⟨xe_P_thereOn, xw_39, ⟨by decide, by decide, by decide +kernel⟩, ⟨Nat.le_of_ble_eq_true rfl, Nat.le_of_ble_eq_true rfl⟩, rfl, rfl⟩, xw_609, xw_610, xw_611, rfl, rfl, vP_thereOn, Or.inl ⟨rfl, uP_thereOn, cP_thereOn l⟩⟩, List.forall_mem_cons.mpr ⟨Or.inr ⟨xy_K_absentOn, xb_K_absentOn, 4, (some .int), xr_ 1, 1, 4, 4, [none, some 18, some 19, some 20, some 21, some 22, some 23, some 24], xk_T4, 8, rfl, rfl, ⟨xe_K_absentOn, xw_41, ⟨by decide, by decide, by decide +kernel⟩, ⟨Nat.le_of_ble_eq_true rfl, Nat.le_of_ble_eq_true rfl⟩, rfl, rfl⟩, xw_614, xw_615, xw_616, rfl, rfl, vK_absentOn, Or.inl ⟨rfl, uK_absentOn, cK_absentOn l⟩⟩, fun _ h => absurd h List.not_mem_nil⟩⟩) (n, C) h
set_option maxRecDepth 20000 in
set_option maxHeartbeats 2000000 in
theorem cA_atWorkOn (l : Launch) : xm_Pu l xy_A_atWorkOn (Cond.code xy_A_atWorkOn xb_A_atWorkOn 2 (some .int) :: xt_T) (xr_ 2) xk_cl xk_ns xk_tA pA_atWorkOn fA_atWorkOn := by
  refine xm_mk_pu (rt := .int) (fl := xf_A) (ct := tA_atWorkOn) (cn := []) (cj := []) (plainFor_of_name (by decide)) xs_A xd_A_atWorkOn rfl (Or.inr rfl) (lA_atWorkOn l) (fun _ _ _ _ _ _ _ _ => False) ?_ ?_ ?_ (fun _ _ _ _ _ _ _ _ _ h => h.elim) ?_
  · rintro as M ⟨d, rfl, ⟨hP, hW, hK, hL⟩⟩; exact Nat.le_of_ble_eq_true rfl
  · rintro as M ⟨d, rfl, ⟨hP, hW, hK, hL⟩⟩; simp [fA_atWorkOn]
  · rintro as M v ⟨d, rfl, ⟨hP, hW, hK, hL⟩⟩ h; first | rfl | (simp [fA_atWorkOn] at h)
  · rintro as M ⟨d, rfl, ⟨hP, hW, hK, hL⟩⟩
    refine ⟨400, (And.intro rfl (And.intro rfl (And.intro (Nat.le_of_ble_eq_true rfl) (And.intro (Nat.le_of_ble_eq_true rfl) (And.intro ?g1_c_5 (And.intro rfl (And.intro rfl (And.intro (Nat.le_of_ble_eq_true rfl) (And.intro (Nat.le_of_ble_eq_true rfl) (And.intro ?g2_c_13 (And.intro ?g3_w_19 ?g4_r_19)))))))))))⟩
    case g1_c_5 =>
      exact ⟨_, rfl, hP⟩
    case g2_c_13 =>
      exact ⟨_, rfl, hK⟩
    case g3_w_19 =>
      first | rfl | exact xi_nb
    case g4_r_19 =>
      exact ⟨rfl, rfl⟩
def pA_crewLeftShort (as : List Value) (M : xm_M) : Prop := ∃ p d : Int32, as = [.ref 0, .int p, .int d] ∧ xv_C M
noncomputable def fA_crewLeftShort (as : List Value) (M : xm_M) : Option Value × xm_M := match as with
  | [_, .int p, .int d] => (some (.int (xd_cl M p d)), M)
  | _ => (none, M)
noncomputable abbrev sA_crewLeftShort : xm_C := (0, 3, 0, pA_crewLeftShort, fA_crewLeftShort)
theorem uA_crewLeftShort : ∀ as M, (fA_crewLeftShort as M).2 = M := by
  intro as M
  unfold fA_crewLeftShort
  split <;> rfl
theorem vA_crewLeftShort : ∀ as M, pA_crewLeftShort as M → ∃ as1, as = .ref 0 :: as1 := by
  rintro as M ⟨p, d, rfl, ⟨hP, hW, hK, hL⟩⟩
  exact ⟨_, rfl⟩
noncomputable def tA_crewLeftShort : List (Nat × xm_C) := [(258, sA_atWorkOn), (149, sA_holds), (261, sL_comeTo), (154, sA_only), (158, sI_bitCount)]
theorem lA_crewLeftShort (l : Launch) : ∀ n C, (n, C) ∈ tA_crewLeftShort → xm_lkS l "AbsenceRows" xt_T xk_ns (xr_ 3) xk_cl xk_tA n C ∨ xm_lkV l "AbsenceRows" xt_T xk_ns (xr_ 3) xk_cl xk_tA n C := fun n C h => (show ∀ q ∈ tA_crewLeftShort, xm_lkS l "AbsenceRows" xt_T xk_ns (xr_ 3) xk_cl xk_tA q.1 q.2 ∨ xm_lkV l "AbsenceRows" xt_T xk_ns (xr_ 3) xk_cl xk_tA q.1 q.2 from List.forall_mem_cons.mpr ⟨Or.inr ⟨xy_A_atWorkOn, xb_A_atWorkOn, 2, (some .int), xr_ 2, 1, 0, 0, [some 1, some 2, some 3, some 4, some 5, some 6, none, none, none], xk_T0, 9, rfl, rfl, ⟨xe_A_atWorkOn, xw_37, ⟨by decide, by decide, by decide +kernel⟩, ⟨Nat.le_of_ble_eq_true rfl, Nat.le_of_ble_eq_true rfl⟩, rfl, rfl⟩, xw_605, xw_607, xw_10, rfl, rfl, vA_atWorkOn, Or.inl ⟨rfl, uA_atWorkOn, cA_atWorkOn l⟩⟩, List.forall_mem_cons.mpr ⟨Or.inl ⟨xy_A_holds, xb_A_holds, 2, (some .boolean), xr_ 1, rfl, ⟨xe_A_holds, xw_37, ⟨by decide, by decide, by decide +kernel⟩, ⟨Nat.le_of_ble_eq_true rfl, Nat.le_of_ble_eq_true rfl⟩, rfl, rfl⟩, xw_526, Or.inl xw_525, Or.inl ⟨rfl, uA_holds, cA_holds l⟩⟩, List.forall_mem_cons.mpr ⟨Or.inr ⟨xy_L_comeTo, xb_L_comeTo, 5, (some .int), xr_ 1, 2, 6, 6, [none, some 28, some 29, some 30, some 31, some 32, some 33], xk_T6, 7, rfl, rfl, ⟨xe_L_comeTo, xw_43, ⟨by decide, by decide, by decide +kernel⟩, ⟨Nat.le_of_ble_eq_true rfl, Nat.le_of_ble_eq_true rfl⟩, rfl, rfl⟩, xw_620, xw_621, xw_622, rfl, rfl, vL_comeTo, Or.inl ⟨rfl, uL_comeTo, cL_comeTo l⟩⟩, List.forall_mem_cons.mpr ⟨Or.inl ⟨xy_A_only, xb_A_only, 1, (some .int), xr_ 0, rfl, ⟨xe_A_only, xw_37, ⟨by decide, by decide, by decide +kernel⟩, ⟨Nat.le_of_ble_eq_true rfl, Nat.le_of_ble_eq_true rfl⟩, rfl, rfl⟩, xw_529, Or.inl xw_528, Or.inl ⟨rfl, uA_only, cA_only l⟩⟩, List.forall_mem_cons.mpr ⟨Or.inl ⟨xy_I_bitCount, xb_I_bitCount, 1, (some .int), xr_ 0, rfl, ⟨xe_I_bitCount, xw_53, ⟨by decide, by decide, by decide +kernel⟩, ⟨Nat.le_of_ble_eq_true rfl, Nat.le_of_ble_eq_true rfl⟩, rfl, rfl⟩, xw_533, Or.inl xw_532, Or.inl ⟨rfl, uI_bitCount, cI_bitCount l⟩⟩, fun _ h => absurd h List.not_mem_nil⟩⟩⟩⟩⟩) (n, C) h
set_option maxRecDepth 20000 in
set_option maxHeartbeats 2000000 in
theorem cA_crewLeftShort (l : Launch) : xm_Pu l xy_A_crewLeftShort (Cond.code xy_A_crewLeftShort xb_A_crewLeftShort 7 (some .int) :: xt_T) (xr_ 3) xk_cl xk_ns xk_tA pA_crewLeftShort fA_crewLeftShort := by
  refine xm_mk_pu (rt := .int) (fl := xf_A) (ct := tA_crewLeftShort) (cn := []) (cj := []) (plainFor_of_name (by decide)) xs_A xd_A_crewLeftShort rfl (Or.inr rfl) (lA_crewLeftShort l) (fun as M j pc ls st M2 cl => match as with | [_, .int p, .int d] => (∃ i c : Nat, M 3 0 = nI c ∧ c ≤ 6 ∧ i ≤ c ∧ j = c - i ∧ ¬ xd_aw M d &&& (1 <<< (p &&& 31)) = 0 ∧ (∀ k, k < i → ¬ xd_sh M p d k) ∧ pc = 19 ∧ ls = [(0, .ref 0), (1, .int p), (2, .int d), (3, .int (xd_aw M d)), (4, .int (nI i))] ∧ st = [] ∧ M2 = M ∧ cl = 0) | _ => False) ?_ ?_ ?_ ?_ ?_
  · rintro as M ⟨p, d, rfl, ⟨hP, hW, hK, hL⟩⟩; exact Nat.le_of_ble_eq_true rfl
  · rintro as M ⟨p, d, rfl, ⟨hP, hW, hK, hL⟩⟩; simp [fA_crewLeftShort]
  · rintro as M v ⟨p, d, rfl, ⟨hP, hW, hK, hL⟩⟩ h; first | rfl | (simp [fA_crewLeftShort] at h)
  · rintro as M ⟨p, d, rfl, ⟨hP, hW, hK, hL⟩⟩ j pc ls st M2 cl ⟨i, c, hc, hc20, hic, hj, hat, hno, rfl, rfl, rfl, rfl, rfl⟩
    refine ⟨400, (And.intro rfl (And.intro rfl (And.intro (by decide) (And.intro (fun h28 => (And.intro ?g1001_w_124 ?g1002_r_124)) (fun h28 => (And.intro rfl (And.intro rfl (And.intro rfl (And.intro ?g1003_i_40 (And.intro rfl (And.intro (Nat.le_of_ble_eq_true rfl) (And.intro (Nat.le_of_ble_eq_true rfl) (And.intro ?g1004_c_42 (And.intro (by decide) (And.intro (fun h45 => (And.intro rfl (And.intro rfl (And.intro (Nat.le_of_ble_eq_true rfl) (And.intro (Nat.le_of_ble_eq_true rfl) (And.intro ?g1005_c_58 (And.intro (Nat.le_of_ble_eq_true rfl) (And.intro rfl (And.intro rfl (And.intro rfl (And.intro ?g1006_i_72 (And.intro rfl (And.intro (Nat.le_of_ble_eq_true rfl) (And.intro (Nat.le_of_ble_eq_true rfl) (And.intro ?g1007_c_76 (And.intro (Nat.le_of_ble_eq_true rfl) (And.intro rfl (And.intro (Nat.le_of_ble_eq_true rfl) (And.intro (Nat.le_of_ble_eq_true rfl) (And.intro ?g1008_c_90 (And.intro (by decide) (And.intro (fun h93 => (And.intro (Nat.le_of_ble_eq_true rfl) (And.intro (by decide) ?g1009_k_19))) (fun h93 => (And.intro rfl (And.intro (Nat.le_of_ble_eq_true rfl) (And.intro (Nat.le_of_ble_eq_true rfl) (And.intro ?g1010_c_98 (And.intro rfl (And.intro rfl (And.intro rfl (And.intro ?g1011_i_110 (And.intro (by decide) (And.intro (fun h111 => (And.intro (Nat.le_of_ble_eq_true rfl) (And.intro (by decide) ?g1012_k_19))) (fun h111 => (And.intro ?g1013_w_116 ?g1014_r_116))))))))))))))))))))))))))))))))))) (fun h45 => (And.intro (by decide) (And.intro (Nat.le_of_ble_eq_true rfl) (And.intro (by decide) ?g1015_k_19)))))))))))))))))))⟩
    case g1001_w_124 =>
      first | rfl | exact xi_nb
    case g1002_r_124 =>
      obtain rfl := xl_end hc (by omega) hic (by assumption)
      refine ⟨xl_some ?_, rfl⟩
      unfold xd_cl
      rw [xi_xf hat, hc, nI_clamp (by omega)]
      exact (xq_f_no hno).symm
    case g1003_i_40 =>
      exact vp_in_nI (Nat.lt_of_lt_of_le (xl_lt hc hic h28) hc20) (by decide)
    case g1004_c_42 =>
      exact ⟨_, _, rfl⟩
    case g1005_c_58 =>
      exact ⟨_, _, rfl, hL⟩
    case g1006_i_72 =>
      exact vp_in_nI (Nat.lt_of_lt_of_le (xl_lt hc hic h28) hc20) (by decide)
    case g1007_c_76 =>
      exact ⟨_, rfl⟩
    case g1008_c_90 =>
      exact ⟨_, _, rfl⟩
    case g1009_k_19 =>
      have hlt := xl_lt hc hic h28
      have e1 : (nI i).toNatClampNeg = i := nI_clamp (by omega)
      refine ⟨c - (i + 1), by omega, i + 1, c, hc, hc20, by omega, rfl, hat, ?_, rfl, ?_, rfl, rfl, rfl⟩
      · intro k hk
        rcases Nat.lt_or_ge k i with q | q
        · exact hno k q
        · obtain rfl : k = i := by omega
          intro z
          obtain ⟨z1, z2, z3⟩ := z
          simp only [e1, xi_0, xi_n0, xd_come] at *
          grind [Int32.not_lt, Int32.not_le]
      · rw [nI_succ]; rfl
    case g1010_c_98 =>
      exact ⟨_, rfl⟩
    case g1011_i_110 =>
      exact vp_in_nI (Nat.lt_of_lt_of_le (xl_lt hc hic h28) hc20) (by decide)
    case g1012_k_19 =>
      have hlt := xl_lt hc hic h28
      have e1 : (nI i).toNatClampNeg = i := nI_clamp (by omega)
      refine ⟨c - (i + 1), by omega, i + 1, c, hc, hc20, by omega, rfl, hat, ?_, rfl, ?_, rfl, rfl, rfl⟩
      · intro k hk
        rcases Nat.lt_or_ge k i with q | q
        · exact hno k q
        · obtain rfl : k = i := by omega
          intro z
          obtain ⟨z1, z2, z3⟩ := z
          simp only [e1, xi_0, xi_n0, xd_come] at *
          grind [Int32.not_lt, Int32.not_le]
      · rw [nI_succ]; rfl
    case g1013_w_116 =>
      first | rfl | exact xi_nb
    case g1014_r_116 =>
      have hlt := xl_lt hc hic h28
      have e1 : (nI i).toNatClampNeg = i := nI_clamp (by omega)
      refine ⟨xl_some ?_, rfl⟩
      unfold xd_cl
      rw [xi_xf hat, hc, nI_clamp (by omega)]
      refine (xq_f_is ?_ hno (by omega) c hlt).symm
      simp only [e1, xi_0, xi_n0, Classical.not_not] at *
      exact ⟨h45, h93, Int32.not_le.mp h111⟩
    case g1015_k_19 =>
      have hlt := xl_lt hc hic h28
      have e1 : (nI i).toNatClampNeg = i := nI_clamp (by omega)
      refine ⟨c - (i + 1), by omega, i + 1, c, hc, hc20, by omega, rfl, hat, ?_, rfl, ?_, rfl, rfl, rfl⟩
      · intro k hk
        rcases Nat.lt_or_ge k i with q | q
        · exact hno k q
        · obtain rfl : k = i := by omega
          intro z
          obtain ⟨z1, z2, z3⟩ := z
          simp only [e1, xi_0, xi_n0, xd_come] at *
          grind [Int32.not_lt, Int32.not_le]
      · rw [nI_succ]; rfl
  · rintro as M ⟨p, d, rfl, ⟨hP, hW, hK, hL⟩⟩
    refine ⟨400, (And.intro rfl (And.intro (Nat.le_of_ble_eq_true rfl) (And.intro (Nat.le_of_ble_eq_true rfl) (And.intro ?g1_c_2 (And.intro (Nat.le_of_ble_eq_true rfl) (And.intro rfl (And.intro (Nat.le_of_ble_eq_true rfl) (And.intro (Nat.le_of_ble_eq_true rfl) (And.intro ?g2_c_8 (And.intro (by decide) (And.intro (fun h11 => (And.intro (Nat.le_of_ble_eq_true rfl) ?g3_k_19)) (fun h11 => (And.intro ?g4_w_15 ?g5_r_15)))))))))))))⟩
    case g1_c_2 =>
      exact ⟨_, rfl, hP, hW, hK, hL⟩
    case g2_c_8 =>
      exact ⟨_, _, rfl⟩
    case g3_k_19 =>
      obtain ⟨c0, h1, h2⟩ := hW
      exact ⟨c0 - 0, 0, c0, h2, h1, Nat.zero_le _, rfl, xi_n0.mp h11, fun k hk => absurd hk (Nat.not_lt_zero k), rfl, rfl, rfl, rfl, rfl⟩
    case g4_w_15 =>
      first | rfl | exact xi_nb
    case g5_r_15 =>
      refine ⟨xl_some ?_, rfl⟩
      unfold xd_cl
      rw [xi_xt (Classical.not_not.mp (xi_0.mp h11))]; rfl
def pA_firstDayLeftShort (as : List Value) (M : xm_M) : Prop := ∃ a : Int32, as = [.ref 0, .int a] ∧ vp_in a 80 ∧ xv_span (M 20 a.toNatClampNeg) (M 21 a.toNatClampNeg) ∧ xv_C M
noncomputable def fA_firstDayLeftShort (as : List Value) (M : xm_M) : Option Value × xm_M := match as with
  | [_, .int a] => (some (.int (xd_fd M (M 20 a.toNatClampNeg) (M 21 a.toNatClampNeg) (M 22 a.toNatClampNeg) (M 18 a.toNatClampNeg))), M)
  | _ => (none, M)
noncomputable abbrev sA_firstDayLeftShort : xm_C := (0, 2, 0, pA_firstDayLeftShort, fA_firstDayLeftShort)
theorem uA_firstDayLeftShort : ∀ as M, (fA_firstDayLeftShort as M).2 = M := by
  intro as M
  unfold fA_firstDayLeftShort
  split <;> rfl
theorem vA_firstDayLeftShort : ∀ as M, pA_firstDayLeftShort as M → ∃ as1, as = .ref 0 :: as1 := by
  rintro as M ⟨a, rfl, ⟨hp1, ⟨a0, b0, ha0, hb0, hab0, hb70⟩, hC⟩⟩
  exact ⟨_, rfl⟩
noncomputable def tA_firstDayLeftShort : List (Nat × xm_C) := [(363, sC_isWorkingDay), (366, sA_isHalf), (217, sA_crewLeftShort)]
theorem lA_firstDayLeftShort (l : Launch) : ∀ n C, (n, C) ∈ tA_firstDayLeftShort → xm_lkS l "AbsenceRows" xt_T xk_ns (xr_ 4) xk_cl xk_tA n C ∨ xm_lkV l "AbsenceRows" xt_T xk_ns (xr_ 4) xk_cl xk_tA n C := fun n C h => (show ∀ q ∈ tA_firstDayLeftShort, xm_lkS l "AbsenceRows" xt_T xk_ns (xr_ 4) xk_cl xk_tA q.1 q.2 ∨ xm_lkV l "AbsenceRows" xt_T xk_ns (xr_ 4) xk_cl xk_tA q.1 q.2 from List.forall_mem_cons.mpr ⟨Or.inr ⟨xy_C_isWorkingDay, xb_C_isWorkingDay, 2, (some .boolean), xr_ 0, 1, 1, 1, [some 7], xk_T1, 1, rfl, rfl, ⟨xe_C_isWorkingDay, xw_38, ⟨by decide, by decide, by decide +kernel⟩, ⟨Nat.le_of_ble_eq_true rfl, Nat.le_of_ble_eq_true rfl⟩, rfl, rfl⟩, xw_599, xw_422, xw_423, rfl, rfl, vC_isWorkingDay, Or.inl ⟨rfl, uC_isWorkingDay, cC_isWorkingDay l⟩⟩, List.forall_mem_cons.mpr ⟨Or.inl ⟨xy_A_isHalf, xb_A_isHalf, 4, (some .boolean), xr_ 0, rfl, ⟨xe_A_isHalf, xw_37, ⟨by decide, by decide, by decide +kernel⟩, ⟨Nat.le_of_ble_eq_true rfl, Nat.le_of_ble_eq_true rfl⟩, rfl, rfl⟩, xw_426, Or.inl xw_600, Or.inl ⟨rfl, uA_isHalf, cA_isHalf l⟩⟩, List.forall_mem_cons.mpr ⟨Or.inr ⟨xy_A_crewLeftShort, xb_A_crewLeftShort, 7, (some .int), xr_ 3, 2, 0, 0, [some 1, some 2, some 3, some 4, some 5, some 6, none, none, none], xk_T0, 9, rfl, rfl, ⟨xe_A_crewLeftShort, xw_37, ⟨by decide, by decide, by decide +kernel⟩, ⟨Nat.le_of_ble_eq_true rfl, Nat.le_of_ble_eq_true rfl⟩, rfl, rfl⟩, xw_601, xw_603, xw_9, rfl, rfl, vA_crewLeftShort, Or.inl ⟨rfl, uA_crewLeftShort, cA_crewLeftShort l⟩⟩, fun _ h => absurd h List.not_mem_nil⟩⟩⟩) (n, C) h
set_option maxRecDepth 20000 in
set_option maxHeartbeats 2000000 in
theorem cA_firstDayLeftShort (l : Launch) : xm_Pu l xy_A_firstDayLeftShort (Cond.code xy_A_firstDayLeftShort xb_A_firstDayLeftShort 4 (some .int) :: xt_T) (xr_ 4) xk_cl xk_ns xk_tA pA_firstDayLeftShort fA_firstDayLeftShort := by
  refine xm_mk_pu (rt := .int) (fl := xf_A) (ct := tA_firstDayLeftShort) (cn := []) (cj := []) (plainFor_of_name (by decide)) xs_A xd_A_firstDayLeftShort rfl (Or.inr rfl) (lA_firstDayLeftShort l) (fun as M j pc ls st M2 cl => match as with | [_, .int a] => (∃ i x b : Nat, M 20 a.toNatClampNeg = nI x ∧ M 21 a.toNatClampNeg = nI b ∧ x ≤ b ∧ b < 730 ∧ i ≤ b + 1 - x ∧ j = b + 1 - x - i ∧ (∀ k, k < i → ¬ xd_dy M (M 20 a.toNatClampNeg) (M 21 a.toNatClampNeg) (M 22 a.toNatClampNeg) (M 18 a.toNatClampNeg) x k) ∧ pc = 10 ∧ ls = [(0, .ref 0), (1, .int a), (2, .int (nI (x + i)))] ∧ st = [] ∧ M2 = M ∧ cl = 0) | _ => False) ?_ ?_ ?_ ?_ ?_
  · rintro as M ⟨a, rfl, ⟨hp1, ⟨a0, b0, ha0, hb0, hab0, hb70⟩, hC⟩⟩; exact Nat.le_of_ble_eq_true rfl
  · rintro as M ⟨a, rfl, ⟨hp1, ⟨a0, b0, ha0, hb0, hab0, hb70⟩, hC⟩⟩; simp [fA_firstDayLeftShort]
  · rintro as M v ⟨a, rfl, ⟨hp1, ⟨a0, b0, ha0, hb0, hab0, hb70⟩, hC⟩⟩ h; first | rfl | (simp [fA_firstDayLeftShort] at h)
  · rintro as M ⟨a, rfl, ⟨hp1, ⟨a0, b0, ha0, hb0, hab0, hb70⟩, hC⟩⟩ j pc ls st M2 cl ⟨i, x, b, ha, hb, hab, hb7, hi, hj, hno, rfl, rfl, rfl, rfl, rfl⟩
    refine ⟨400, (And.intro rfl (And.intro rfl (And.intro rfl (And.intro ?g1001_i_19 (And.intro (by decide) (And.intro (fun h20 => (And.intro ?g1002_w_105 ?g1003_r_105)) (fun h20 => (And.intro rfl (And.intro rfl (And.intro (Nat.le_of_ble_eq_true rfl) (And.intro (Nat.le_of_ble_eq_true rfl) (And.intro ?g1004_c_28 (And.intro (by decide) (And.intro (fun h31 => (And.intro (Nat.le_of_ble_eq_true rfl) (And.intro (by decide) (And.intro (fun h75 => (And.intro (Nat.le_of_ble_eq_true rfl) (And.intro (by decide) ?g1005_k_10))) (fun h75 => (And.intro rfl (And.intro rfl (And.intro rfl (And.intro ?g1006_i_87 (And.intro rfl (And.intro (Nat.le_of_ble_eq_true rfl) (And.intro (Nat.le_of_ble_eq_true rfl) (And.intro ?g1007_c_89 (And.intro (by decide) (And.intro (fun h93 => (And.intro (Nat.le_of_ble_eq_true rfl) (And.intro (by decide) ?g1008_k_10))) (fun h93 => (And.intro ?g1009_w_97 ?g1010_r_97))))))))))))))))) (fun h31 => (And.intro rfl (And.intro rfl (And.intro rfl (And.intro ?g1011_i_43 (And.intro rfl (And.intro rfl (And.intro rfl (And.intro ?g1012_i_52 (And.intro rfl (And.intro rfl (And.intro rfl (And.intro ?g1013_i_61 (And.intro rfl (And.intro (Nat.le_of_ble_eq_true rfl) (And.intro (Nat.le_of_ble_eq_true rfl) (And.intro ?g1014_c_62 (And.intro (by decide) (And.intro (fun h65 => (And.intro (Nat.le_of_ble_eq_true rfl) (And.intro (by decide) (And.intro (fun h75 => (And.intro (Nat.le_of_ble_eq_true rfl) (And.intro (by decide) ?g1015_k_10))) (fun h75 => (And.intro rfl (And.intro rfl (And.intro rfl (And.intro ?g1016_i_87 (And.intro rfl (And.intro (Nat.le_of_ble_eq_true rfl) (And.intro (Nat.le_of_ble_eq_true rfl) (And.intro ?g1017_c_89 (And.intro (by decide) (And.intro (fun h93 => (And.intro (Nat.le_of_ble_eq_true rfl) (And.intro (by decide) ?g1018_k_10))) (fun h93 => (And.intro ?g1019_w_97 ?g1020_r_97))))))))))))))))) (fun h65 => (And.intro (by decide) (And.intro (Nat.le_of_ble_eq_true rfl) (And.intro (by decide) (And.intro (fun h75 => (And.intro (Nat.le_of_ble_eq_true rfl) (And.intro (by decide) ?g1021_k_10))) (fun h75 => (And.intro rfl (And.intro rfl (And.intro rfl (And.intro ?g1022_i_87 (And.intro rfl (And.intro (Nat.le_of_ble_eq_true rfl) (And.intro (Nat.le_of_ble_eq_true rfl) (And.intro ?g1023_c_89 (And.intro (by decide) (And.intro (fun h93 => (And.intro (Nat.le_of_ble_eq_true rfl) (And.intro (by decide) ?g1024_k_10))) (fun h93 => (And.intro ?g1025_w_97 ?g1026_r_97)))))))))))))))))))))))))))))))))))))))))))))))))))⟩
    case g1001_i_19 =>
      exact hp1
    case g1002_w_105 =>
      first | rfl | exact xi_nb
    case g1003_r_105 =>
      obtain rfl : i = b + 1 - x := xl_de ha hb hb7 hab hi (by assumption)
      have e9 := xq_f_no hno
      refine ⟨xl_some ?_, rfl⟩
      unfold xd_fd
      rw [ha, hb] at e9 ⊢
      rw [nI_clamp (by omega), nI_clamp (by omega), xi_xt e9]; rfl
    case g1004_c_28 =>
      exact ⟨_, rfl, xl_d ha hb hb7 h20⟩
    case g1005_k_10 =>
      have hlt := xl_dl ha hb hb7 h20
      refine ⟨b + 1 - x - (i + 1), by omega, i + 1, x, b, ha, hb, hab, hb7, by omega, rfl, ?_, rfl, ?_, rfl, rfl, rfl⟩
      · intro k hk
        rcases Nat.lt_or_ge k i with q | q
        · exact hno k q
        · obtain rfl : k = i := by omega
          intro z
          obtain ⟨z1, z2, z3⟩ := z
          simp only [xi_0, xi_n0] at *
          grind
      · rw [← Nat.add_assoc, nI_succ]; rfl
    case g1006_i_87 =>
      exact hp1
    case g1007_c_89 =>
      exact ⟨_, _, rfl, hC⟩
    case g1008_k_10 =>
      have hlt := xl_dl ha hb hb7 h20
      refine ⟨b + 1 - x - (i + 1), by omega, i + 1, x, b, ha, hb, hab, hb7, by omega, rfl, ?_, rfl, ?_, rfl, rfl, rfl⟩
      · intro k hk
        rcases Nat.lt_or_ge k i with q | q
        · exact hno k q
        · obtain rfl : k = i := by omega
          intro z
          obtain ⟨z1, z2, z3⟩ := z
          simp only [xi_0, xi_n0] at *
          grind
      · rw [← Nat.add_assoc, nI_succ]; rfl
    case g1009_w_97 =>
      first | rfl | exact xi_nb
    case g1010_r_97 =>
      have hlt := xl_dl ha hb hb7 h20
      have hP : xd_dy M2 (M2 20 a.toNatClampNeg) (M2 21 a.toNatClampNeg) (M2 22 a.toNatClampNeg) (M2 18 a.toNatClampNeg) x i := by first | exact absurd rfl h75 | exact ⟨xi_n0.mp h31, xi_0.mp h65, h93⟩
      have e9 := xq_f_is hP hno (by omega) (b + 1 - x) (by omega)
      refine ⟨xl_some ?_, rfl⟩
      unfold xd_fd
      rw [ha, hb] at e9 ⊢
      rw [nI_clamp (by omega), nI_clamp (by omega), e9, xi_xf (xq_ne (by omega)), nI_add]
    case g1011_i_43 =>
      exact hp1
    case g1012_i_52 =>
      exact hp1
    case g1013_i_61 =>
      exact hp1
    case g1014_c_62 =>
      exact ⟨_, _, _, _, rfl⟩
    case g1015_k_10 =>
      have hlt := xl_dl ha hb hb7 h20
      refine ⟨b + 1 - x - (i + 1), by omega, i + 1, x, b, ha, hb, hab, hb7, by omega, rfl, ?_, rfl, ?_, rfl, rfl, rfl⟩
      · intro k hk
        rcases Nat.lt_or_ge k i with q | q
        · exact hno k q
        · obtain rfl : k = i := by omega
          intro z
          obtain ⟨z1, z2, z3⟩ := z
          simp only [xi_0, xi_n0] at *
          grind
      · rw [← Nat.add_assoc, nI_succ]; rfl
    case g1016_i_87 =>
      exact hp1
    case g1017_c_89 =>
      exact ⟨_, _, rfl, hC⟩
    case g1018_k_10 =>
      have hlt := xl_dl ha hb hb7 h20
      refine ⟨b + 1 - x - (i + 1), by omega, i + 1, x, b, ha, hb, hab, hb7, by omega, rfl, ?_, rfl, ?_, rfl, rfl, rfl⟩
      · intro k hk
        rcases Nat.lt_or_ge k i with q | q
        · exact hno k q
        · obtain rfl : k = i := by omega
          intro z
          obtain ⟨z1, z2, z3⟩ := z
          simp only [xi_0, xi_n0] at *
          grind
      · rw [← Nat.add_assoc, nI_succ]; rfl
    case g1019_w_97 =>
      first | rfl | exact xi_nb
    case g1020_r_97 =>
      have hlt := xl_dl ha hb hb7 h20
      have hP : xd_dy M2 (M2 20 a.toNatClampNeg) (M2 21 a.toNatClampNeg) (M2 22 a.toNatClampNeg) (M2 18 a.toNatClampNeg) x i := by first | exact absurd rfl h75 | exact ⟨xi_n0.mp h31, xi_0.mp h65, h93⟩
      have e9 := xq_f_is hP hno (by omega) (b + 1 - x) (by omega)
      refine ⟨xl_some ?_, rfl⟩
      unfold xd_fd
      rw [ha, hb] at e9 ⊢
      rw [nI_clamp (by omega), nI_clamp (by omega), e9, xi_xf (xq_ne (by omega)), nI_add]
    case g1021_k_10 =>
      have hlt := xl_dl ha hb hb7 h20
      refine ⟨b + 1 - x - (i + 1), by omega, i + 1, x, b, ha, hb, hab, hb7, by omega, rfl, ?_, rfl, ?_, rfl, rfl, rfl⟩
      · intro k hk
        rcases Nat.lt_or_ge k i with q | q
        · exact hno k q
        · obtain rfl : k = i := by omega
          intro z
          obtain ⟨z1, z2, z3⟩ := z
          simp only [xi_0, xi_n0] at *
          grind
      · rw [← Nat.add_assoc, nI_succ]; rfl
    case g1022_i_87 =>
      exact hp1
    case g1023_c_89 =>
      exact ⟨_, _, rfl, hC⟩
    case g1024_k_10 =>
      have hlt := xl_dl ha hb hb7 h20
      refine ⟨b + 1 - x - (i + 1), by omega, i + 1, x, b, ha, hb, hab, hb7, by omega, rfl, ?_, rfl, ?_, rfl, rfl, rfl⟩
      · intro k hk
        rcases Nat.lt_or_ge k i with q | q
        · exact hno k q
        · obtain rfl : k = i := by omega
          intro z
          obtain ⟨z1, z2, z3⟩ := z
          simp only [xi_0, xi_n0] at *
          grind
      · rw [← Nat.add_assoc, nI_succ]; rfl
    case g1025_w_97 =>
      first | rfl | exact xi_nb
    case g1026_r_97 =>
      have hlt := xl_dl ha hb hb7 h20
      have hP : xd_dy M2 (M2 20 a.toNatClampNeg) (M2 21 a.toNatClampNeg) (M2 22 a.toNatClampNeg) (M2 18 a.toNatClampNeg) x i := by first | exact absurd rfl h75 | exact ⟨xi_n0.mp h31, xi_0.mp h65, h93⟩
      have e9 := xq_f_is hP hno (by omega) (b + 1 - x) (by omega)
      refine ⟨xl_some ?_, rfl⟩
      unfold xd_fd
      rw [ha, hb] at e9 ⊢
      rw [nI_clamp (by omega), nI_clamp (by omega), e9, xi_xf (xq_ne (by omega)), nI_add]
  · rintro as M ⟨a, rfl, ⟨hp1, ⟨a0, b0, ha0, hb0, hab0, hb70⟩, hC⟩⟩
    refine ⟨400, (And.intro rfl (And.intro rfl (And.intro rfl (And.intro ?g1_i_8 (And.intro (Nat.le_of_ble_eq_true rfl) ?g2_k_10)))))⟩
    case g1_i_8 =>
      exact hp1
    case g2_k_10 =>
      refine ⟨b0 + 1 - a0 - 0, 0, a0, b0, ha0, hb0, hab0, hb70, Nat.zero_le _, rfl, fun k hk => absurd hk (Nat.not_lt_zero k), rfl, ?_, rfl, rfl, rfl⟩
      rw [Nat.add_zero, ← ha0]; rfl
def pA_nextToAsk (as : List Value) (M : xm_M) : Prop := ∃ k : Int32, as = [.ref 0, .int k] ∧ vp_in k 60 ∧ vp_in (M 28 k.toNatClampNeg) 6 ∧ xv_C M
noncomputable def fA_nextToAsk (as : List Value) (M : xm_M) : Option Value × xm_M := match as with
  | [_, .int k] => (some (.int (xd_nx M k)), M)
  | _ => (none, M)
noncomputable abbrev sA_nextToAsk : xm_C := (0, 2, 0, pA_nextToAsk, fA_nextToAsk)
theorem uA_nextToAsk : ∀ as M, (fA_nextToAsk as M).2 = M := by
  intro as M
  unfold fA_nextToAsk
  split <;> rfl
theorem vA_nextToAsk : ∀ as M, pA_nextToAsk as M → ∃ as1, as = .ref 0 :: as1 := by
  rintro as M ⟨k, rfl, ⟨hk1, hk2, hC⟩⟩
  exact ⟨_, rfl⟩
noncomputable def tA_nextToAsk : List (Nat × xm_C) := [(258, sA_atWorkOn), (383, sL_engagedOn), (149, sA_holds), (389, sP_haveSkills), (392, sP_goesBefore)]
theorem lA_nextToAsk (l : Launch) : ∀ n C, (n, C) ∈ tA_nextToAsk → xm_lkS l "AbsenceRows" xt_T xk_ns (xr_ 3) xk_cl xk_tA n C ∨ xm_lkV l "AbsenceRows" xt_T xk_ns (xr_ 3) xk_cl xk_tA n C := fun n C h => (show ∀ q ∈ tA_nextToAsk, xm_lkS l "AbsenceRows" xt_T xk_ns (xr_ 3) xk_cl xk_tA q.1 q.2 ∨ xm_lkV l "AbsenceRows" xt_T xk_ns (xr_ 3) xk_cl xk_tA q.1 q.2 from List.forall_mem_cons.mpr ⟨Or.inr ⟨xy_A_atWorkOn, xb_A_atWorkOn, 2, (some .int), xr_ 2, 1, 0, 0, [some 1, some 2, some 3, some 4, some 5, some 6, none, none, none], xk_T0, 9, rfl, rfl, ⟨xe_A_atWorkOn, xw_37, ⟨by decide, by decide, by decide +kernel⟩, ⟨Nat.le_of_ble_eq_true rfl, Nat.le_of_ble_eq_true rfl⟩, rfl, rfl⟩, xw_605, xw_607, xw_10, rfl, rfl, vA_atWorkOn, Or.inl ⟨rfl, uA_atWorkOn, cA_atWorkOn l⟩⟩, List.forall_mem_cons.mpr ⟨Or.inr ⟨xy_L_engagedOn, xb_L_engagedOn, 4, (some .int), xr_ 1, 1, 6, 6, [none, some 28, some 29, some 30, some 31, some 32, some 33], xk_T6, 7, rfl, rfl, ⟨xe_L_engagedOn, xw_43, ⟨by decide, by decide, by decide +kernel⟩, ⟨Nat.le_of_ble_eq_true rfl, Nat.le_of_ble_eq_true rfl⟩, rfl, rfl⟩, xw_733, xw_734, xw_735, rfl, rfl, vL_engagedOn, Or.inl ⟨rfl, uL_engagedOn, cL_engagedOn l⟩⟩, List.forall_mem_cons.mpr ⟨Or.inl ⟨xy_A_holds, xb_A_holds, 2, (some .boolean), xr_ 1, rfl, ⟨xe_A_holds, xw_37, ⟨by decide, by decide, by decide +kernel⟩, ⟨Nat.le_of_ble_eq_true rfl, Nat.le_of_ble_eq_true rfl⟩, rfl, rfl⟩, xw_526, Or.inl xw_525, Or.inl ⟨rfl, uA_holds, cA_holds l⟩⟩, List.forall_mem_cons.mpr ⟨Or.inr ⟨xy_P_haveSkills, xb_P_haveSkills, 6, (some .boolean), xr_ 1, 3, 2, 2, [none, some 8, some 9, some 10, some 11, some 12, some 13, some 14], xk_T2, 8, rfl, rfl, ⟨xe_P_haveSkills, xw_39, ⟨by decide, by decide, by decide +kernel⟩, ⟨Nat.le_of_ble_eq_true rfl, Nat.le_of_ble_eq_true rfl⟩, rfl, rfl⟩, xw_737, xw_738, xw_739, rfl, rfl, vP_haveSkills, Or.inl ⟨rfl, uP_haveSkills, cP_haveSkills l⟩⟩, List.forall_mem_cons.mpr ⟨Or.inr ⟨xy_P_goesBefore, xb_P_goesBefore, 3, (some .boolean), xr_ 0, 2, 2, 2, [none, some 8, some 9, some 10, some 11, some 12, some 13, some 14], xk_T2, 8, rfl, rfl, ⟨xe_P_goesBefore, xw_39, ⟨by decide, by decide, by decide +kernel⟩, ⟨Nat.le_of_ble_eq_true rfl, Nat.le_of_ble_eq_true rfl⟩, rfl, rfl⟩, xw_741, xw_742, xw_743, rfl, rfl, vP_goesBefore, Or.inl ⟨rfl, uP_goesBefore, cP_goesBefore l⟩⟩, fun _ h => absurd h List.not_mem_nil⟩⟩⟩⟩⟩) (n, C) h
set_option maxRecDepth 20000 in
set_option maxHeartbeats 2000000 in
theorem cA_nextToAsk (l : Launch) : xm_Pu l xy_A_nextToAsk (Cond.code xy_A_nextToAsk xb_A_nextToAsk 7 (some .int) :: xt_T) (xr_ 3) xk_cl xk_ns xk_tA pA_nextToAsk fA_nextToAsk := by
  refine xm_mk_pu (rt := .int) (fl := xf_A) (ct := tA_nextToAsk) (cn := []) (cj := []) (plainFor_of_name (by decide)) xs_A xd_A_nextToAsk rfl (Or.inr rfl) (lA_nextToAsk l) (fun as M j pc ls st M2 cl => match as with | [_, .int k] => (∃ i c : Nat, M 2 0 = nI c ∧ c ≤ 20 ∧ i ≤ c ∧ j = c - i ∧ pc = 68 ∧ ls = [(0, .ref 0), (1, .int k), (2, .int (M 28 k.toNatClampNeg)), (3, .int (M 29 k.toNatClampNeg)), (4, .int (xd_can M (M 28 k.toNatClampNeg) (M 29 k.toNatClampNeg) k)), (5, .int (xq_b M (xd_can M (M 28 k.toNatClampNeg) (M 29 k.toNatClampNeg) k) (M 15 (M 28 k.toNatClampNeg).toNatClampNeg) (M 29 k.toNatClampNeg) i)), (6, .int (nI i))] ∧ st = [] ∧ M2 = M ∧ cl = 0) | _ => False) ?_ ?_ ?_ ?_ ?_
  · rintro as M ⟨k, rfl, ⟨hk1, hk2, hC⟩⟩; exact Nat.le_of_ble_eq_true rfl
  · rintro as M ⟨k, rfl, ⟨hk1, hk2, hC⟩⟩; simp [fA_nextToAsk]
  · rintro as M v ⟨k, rfl, ⟨hk1, hk2, hC⟩⟩ h; first | rfl | (simp [fA_nextToAsk] at h)
  · rintro as M ⟨k, rfl, ⟨hk1, hk2, hC⟩⟩ j pc ls st M2 cl ⟨i, c, hc, hc20, hic, hj, rfl, rfl, rfl, rfl, rfl⟩
    refine ⟨400, (And.intro rfl (And.intro rfl (And.intro (by decide) (And.intro (fun h77 => (And.intro ?g1001_w_144 ?g1002_r_144)) (fun h77 => (And.intro rfl (And.intro (Nat.le_of_ble_eq_true rfl) (And.intro (Nat.le_of_ble_eq_true rfl) (And.intro ?g1003_c_84 (And.intro (by decide) (And.intro (fun h87 => (And.intro (Nat.le_of_ble_eq_true rfl) (And.intro (by decide) ?g1004_k_68))) (fun h87 => (And.intro rfl (And.intro rfl (And.intro rfl (And.intro rfl (And.intro ?g1005_i_104 (And.intro rfl (And.intro (Nat.le_of_ble_eq_true rfl) (And.intro (Nat.le_of_ble_eq_true rfl) (And.intro ?g1006_c_106 (And.intro (by decide) (And.intro (fun h109 => (And.intro (Nat.le_of_ble_eq_true rfl) (And.intro (by decide) ?g1007_k_68))) (fun h109 => (And.intro (by decide) (And.intro (fun h115 => (And.intro (Nat.le_of_ble_eq_true rfl) (And.intro (Nat.le_of_ble_eq_true rfl) (And.intro (by decide) ?g1008_k_68)))) (fun h115 => (And.intro rfl (And.intro rfl (And.intro (Nat.le_of_ble_eq_true rfl) (And.intro (Nat.le_of_ble_eq_true rfl) (And.intro ?g1009_c_126 (And.intro (by decide) (And.intro (fun h129 => (And.intro (Nat.le_of_ble_eq_true rfl) (And.intro (by decide) ?g1010_k_68))) (fun h129 => (And.intro (Nat.le_of_ble_eq_true rfl) (And.intro (Nat.le_of_ble_eq_true rfl) (And.intro (by decide) ?g1011_k_68))))))))))))))))))))))))))))))))))))))⟩
    case g1001_w_144 =>
      first | rfl | exact xi_nb
    case g1002_r_144 =>
      obtain rfl := xl_end hc (by omega) hic (by assumption)
      refine ⟨xl_some ?_, rfl⟩
      unfold xd_nx
      rw [hc, nI_clamp (by omega)]
    case g1003_c_84 =>
      exact ⟨_, _, rfl⟩
    case g1004_k_68 =>
      have hlt := xl_lt hc hic h77
      refine ⟨c - (i + 1), by omega, i + 1, c, hc, hc20, by omega, rfl, rfl, ?_, rfl, rfl, rfl⟩
      rw [nI_succ, xq_b1]
      generalize hb : xq_b M2 (xd_can M2 (M2 28 k.toNatClampNeg) (M2 29 k.toNatClampNeg) k) (M2 15 (M2 28 k.toNatClampNeg).toNatClampNeg) (M2 29 k.toNatClampNeg) i = b at *
      by_cases hz : (¬ xd_can M2 (M2 28 k.toNatClampNeg) (M2 29 k.toNatClampNeg) k &&& (1 <<< (nI i &&& 31)) = 0 ∧ xd_hs M2 (nI i) (M2 15 (M2 28 k.toNatClampNeg).toNatClampNeg) (M2 29 k.toNatClampNeg) ∧ (b = -1 ∨ xd_gb M2 (nI i) b))
      · rw [xi_xt hz]
        first | rfl | (exfalso; obtain ⟨z1, z2, z3⟩ := hz; simp only [xi_0, xi_n0, xd_gb] at *; grind)
      · rw [xi_xf hz]
        first | rfl | (exfalso; apply hz; simp only [xi_0, xi_n0, xd_gb] at *; grind)
    case g1005_i_104 =>
      exact hk2
    case g1006_c_106 =>
      exact ⟨_, _, _, rfl, vp_in_nI (Nat.lt_of_lt_of_le (xl_lt hc hic h77) hc20) (by decide)⟩
    case g1007_k_68 =>
      have hlt := xl_lt hc hic h77
      refine ⟨c - (i + 1), by omega, i + 1, c, hc, hc20, by omega, rfl, rfl, ?_, rfl, rfl, rfl⟩
      rw [nI_succ, xq_b1]
      generalize hb : xq_b M2 (xd_can M2 (M2 28 k.toNatClampNeg) (M2 29 k.toNatClampNeg) k) (M2 15 (M2 28 k.toNatClampNeg).toNatClampNeg) (M2 29 k.toNatClampNeg) i = b at *
      by_cases hz : (¬ xd_can M2 (M2 28 k.toNatClampNeg) (M2 29 k.toNatClampNeg) k &&& (1 <<< (nI i &&& 31)) = 0 ∧ xd_hs M2 (nI i) (M2 15 (M2 28 k.toNatClampNeg).toNatClampNeg) (M2 29 k.toNatClampNeg) ∧ (b = -1 ∨ xd_gb M2 (nI i) b))
      · rw [xi_xt hz]
        first | rfl | (exfalso; obtain ⟨z1, z2, z3⟩ := hz; simp only [xi_0, xi_n0, xd_gb] at *; grind)
      · rw [xi_xf hz]
        first | rfl | (exfalso; apply hz; simp only [xi_0, xi_n0, xd_gb] at *; grind)
    case g1008_k_68 =>
      have hlt := xl_lt hc hic h77
      refine ⟨c - (i + 1), by omega, i + 1, c, hc, hc20, by omega, rfl, rfl, ?_, rfl, rfl, rfl⟩
      rw [nI_succ, xq_b1]
      generalize hb : xq_b M2 (xd_can M2 (M2 28 k.toNatClampNeg) (M2 29 k.toNatClampNeg) k) (M2 15 (M2 28 k.toNatClampNeg).toNatClampNeg) (M2 29 k.toNatClampNeg) i = b at *
      by_cases hz : (¬ xd_can M2 (M2 28 k.toNatClampNeg) (M2 29 k.toNatClampNeg) k &&& (1 <<< (nI i &&& 31)) = 0 ∧ xd_hs M2 (nI i) (M2 15 (M2 28 k.toNatClampNeg).toNatClampNeg) (M2 29 k.toNatClampNeg) ∧ (b = -1 ∨ xd_gb M2 (nI i) b))
      · rw [xi_xt hz]
        first | rfl | (exfalso; obtain ⟨z1, z2, z3⟩ := hz; simp only [xi_0, xi_n0, xd_gb] at *; grind)
      · rw [xi_xf hz]
        first | rfl | (exfalso; apply hz; simp only [xi_0, xi_n0, xd_gb] at *; grind)
    case g1009_c_126 =>
      have hlt := xl_lt hc hic h77
      refine ⟨_, _, rfl, vp_in_nI (Nat.lt_of_lt_of_le hlt hc20) (by decide), ?_⟩
      rcases xq_b_in M2 (xd_can M2 (M2 28 k.toNatClampNeg) (M2 29 k.toNatClampNeg) k) (M2 15 (M2 28 k.toNatClampNeg).toNatClampNeg) (M2 29 k.toNatClampNeg) i with q | ⟨m, q1, q2⟩
      · exact absurd q h115
      · rw [q2]; exact vp_in_nI (by omega) (by decide)
    case g1010_k_68 =>
      have hlt := xl_lt hc hic h77
      refine ⟨c - (i + 1), by omega, i + 1, c, hc, hc20, by omega, rfl, rfl, ?_, rfl, rfl, rfl⟩
      rw [nI_succ, xq_b1]
      generalize hb : xq_b M2 (xd_can M2 (M2 28 k.toNatClampNeg) (M2 29 k.toNatClampNeg) k) (M2 15 (M2 28 k.toNatClampNeg).toNatClampNeg) (M2 29 k.toNatClampNeg) i = b at *
      by_cases hz : (¬ xd_can M2 (M2 28 k.toNatClampNeg) (M2 29 k.toNatClampNeg) k &&& (1 <<< (nI i &&& 31)) = 0 ∧ xd_hs M2 (nI i) (M2 15 (M2 28 k.toNatClampNeg).toNatClampNeg) (M2 29 k.toNatClampNeg) ∧ (b = -1 ∨ xd_gb M2 (nI i) b))
      · rw [xi_xt hz]
        first | rfl | (exfalso; obtain ⟨z1, z2, z3⟩ := hz; simp only [xi_0, xi_n0, xd_gb] at *; grind)
      · rw [xi_xf hz]
        first | rfl | (exfalso; apply hz; simp only [xi_0, xi_n0, xd_gb] at *; grind)
    case g1011_k_68 =>
      have hlt := xl_lt hc hic h77
      refine ⟨c - (i + 1), by omega, i + 1, c, hc, hc20, by omega, rfl, rfl, ?_, rfl, rfl, rfl⟩
      rw [nI_succ, xq_b1]
      generalize hb : xq_b M2 (xd_can M2 (M2 28 k.toNatClampNeg) (M2 29 k.toNatClampNeg) k) (M2 15 (M2 28 k.toNatClampNeg).toNatClampNeg) (M2 29 k.toNatClampNeg) i = b at *
      by_cases hz : (¬ xd_can M2 (M2 28 k.toNatClampNeg) (M2 29 k.toNatClampNeg) k &&& (1 <<< (nI i &&& 31)) = 0 ∧ xd_hs M2 (nI i) (M2 15 (M2 28 k.toNatClampNeg).toNatClampNeg) (M2 29 k.toNatClampNeg) ∧ (b = -1 ∨ xd_gb M2 (nI i) b))
      · rw [xi_xt hz]
        first | rfl | (exfalso; obtain ⟨z1, z2, z3⟩ := hz; simp only [xi_0, xi_n0, xd_gb] at *; grind)
      · rw [xi_xf hz]
        first | rfl | (exfalso; apply hz; simp only [xi_0, xi_n0, xd_gb] at *; grind)
  · rintro as M ⟨k, rfl, ⟨hk1, hk2, hC⟩⟩
    refine ⟨400, (And.intro rfl (And.intro rfl (And.intro rfl (And.intro ?g1_i_8 (And.intro (Nat.le_of_ble_eq_true rfl) (And.intro rfl (And.intro rfl (And.intro rfl (And.intro ?g2_i_18 (And.intro (Nat.le_of_ble_eq_true rfl) (And.intro rfl (And.intro (Nat.le_of_ble_eq_true rfl) (And.intro (Nat.le_of_ble_eq_true rfl) (And.intro ?g3_c_22 (And.intro rfl (And.intro rfl (And.intro rfl (And.intro ?g4_i_33 (And.intro rfl (And.intro rfl (And.intro (Nat.le_of_ble_eq_true rfl) (And.intro (Nat.le_of_ble_eq_true rfl) (And.intro ?g5_c_42 (And.intro rfl (And.intro rfl (And.intro rfl (And.intro ?g6_i_56 (And.intro (Nat.le_of_ble_eq_true rfl) (And.intro (Nat.le_of_ble_eq_true rfl) (And.intro (Nat.le_of_ble_eq_true rfl) ?g7_k_68))))))))))))))))))))))))))))))⟩
    case g1_i_8 =>
      exact hk1
    case g2_i_18 =>
      exact hk1
    case g3_c_22 =>
      exact ⟨_, rfl, hC⟩
    case g4_i_33 =>
      exact hk2
    case g5_c_42 =>
      exact ⟨_, rfl, hC.2.2.2⟩
    case g6_i_56 =>
      exact hk1
    case g7_k_68 =>
      obtain ⟨c0, h1, h2⟩ := hC.1
      exact ⟨c0 - 0, 0, c0, h2, h1, Nat.zero_le _, rfl, rfl, rfl, rfl, rfl, rfl⟩
