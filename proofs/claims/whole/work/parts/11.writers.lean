/-! WRITERS of the class -/
noncomputable def xq_g : Nat → Int32 → Int32 → Int32
  | 0, a, _ => a
  | n + 1, a, b => xi_x (0 < b) (xq_g n b (a - a / b * b)) a
theorem xq_g_le {a b : Int32} (h : ¬ 0 < b) : ∀ n, xq_g n a b = a
  | 0 => rfl
  | n + 1 => by
    show xi_x _ _ _ = a
    rw [xi_xf h]
noncomputable def xm_an (M : xm_M) (k : Int32) (nx : Int32) : xm_M := xm_up (xm_up (xm_up (xm_up M 13 nx.toNatClampNeg (M 13 nx.toNatClampNeg + 1)) 31 k.toNatClampNeg nx) 32 k.toNatClampNeg (M 32 k.toNatClampNeg ||| (1 <<< (nx &&& 31)))) 33 k.toNatClampNeg (M 0 8 + M 0 7)
noncomputable def xm_fl (M : xm_M) (k : Int32) : xm_M := xm_up (xm_up (xm_up M 30 k.toNatClampNeg 2) 31 k.toNatClampNeg (-1)) 33 k.toNatClampNeg (-1)
noncomputable def xm_nx (M : xm_M) (k : Int32) : xm_M := @ite xm_M (xd_nx M k = -1) (Classical.propDecidable _) (xm_fl M k) (xm_an M k (xd_nx M k))
theorem xd_nx_in {M : xm_M} {k : Int32} (h : xv_n (M 2 0) 20) (hn : ¬ xd_nx M k = -1) : vp_in (xd_nx M k) 20 := by
  obtain ⟨c, h1, h2⟩ := h
  unfold xd_nx at hn ⊢
  rw [h2, nI_clamp (by omega)] at hn ⊢
  rcases xq_b_in M (xd_can M (M 28 k.toNatClampNeg) (M 29 k.toNatClampNeg) k) (M 15 (M 28 k.toNatClampNeg).toNatClampNeg) (M 29 k.toNatClampNeg) c with q | ⟨m, q1, q2⟩
  · exact absurd q hn
  · rw [q2]; exact vp_in_nI (by omega) (by decide)
theorem xm_up_id (M : xm_M) (p k : Nat) : xm_up M p k (M p k) = M := by
  funext a b
  by_cases h1 : a = p
  · by_cases h2 : b = k
    · simp [xm_up, h1, h2]
    · simp [xm_up, h1, h2]
  · simp [xm_up, h1]
def pA_greatestDivisor (as : List Value) (M : xm_M) : Prop := ∃ p d : Int32, as = [.int p, .int d]
noncomputable def fA_greatestDivisor (as : List Value) (M : xm_M) : Option Value × xm_M := match as with
  | [.int p, .int d] => (some (.int ((fun z : Int32 => if (1 : Int32) < z then z else 1) (xq_g 1000 (if 0 ≤ p then p else -p) d))), M)
  | _ => (none, M)
noncomputable abbrev sA_greatestDivisor : xm_C := (1, 2, 0, pA_greatestDivisor, fA_greatestDivisor)
theorem uA_greatestDivisor : ∀ as M, (fA_greatestDivisor as M).2 = M := by
  intro as M
  unfold fA_greatestDivisor
  split <;> rfl
noncomputable def tA_greatestDivisor : List (Nat × xm_C) := [(395, sJ_abs), (333, sJ_max)]
theorem lA_greatestDivisor (l : Launch) : ∀ n C, (n, C) ∈ tA_greatestDivisor → xm_lkS l "AbsenceRows" xt_T xk_ns (xr_ 1) xk_cl xk_tA n C ∨ xm_lkV l "AbsenceRows" xt_T xk_ns (xr_ 1) xk_cl xk_tA n C := fun n C h => (show ∀ q ∈ tA_greatestDivisor, xm_lkS l "AbsenceRows" xt_T xk_ns (xr_ 1) xk_cl xk_tA q.1 q.2 ∨ xm_lkV l "AbsenceRows" xt_T xk_ns (xr_ 1) xk_cl xk_tA q.1 q.2 from List.forall_mem_cons.mpr ⟨Or.inl ⟨xy_J_abs, xb_J_abs, 1, (some .int), xr_ 0, rfl, ⟨xe_J_abs, xw_51, ⟨by decide, by decide, by decide +kernel⟩, ⟨Nat.le_of_ble_eq_true rfl, Nat.le_of_ble_eq_true rfl⟩, rfl, rfl⟩, xw_666, Or.inl xw_665, Or.inl ⟨rfl, uJ_abs, cJ_abs l⟩⟩, List.forall_mem_cons.mpr ⟨Or.inl ⟨xy_J_max, xb_J_max, 2, (some .int), xr_ 0, rfl, ⟨xe_J_max, xw_51, ⟨by decide, by decide, by decide +kernel⟩, ⟨Nat.le_of_ble_eq_true rfl, Nat.le_of_ble_eq_true rfl⟩, rfl, rfl⟩, xw_436, Or.inl xw_449, Or.inl ⟨rfl, uJ_max, cJ_max l⟩⟩, fun _ h => absurd h List.not_mem_nil⟩⟩) (n, C) h
set_option maxRecDepth 20000 in
set_option maxHeartbeats 2000000 in
theorem cA_greatestDivisor (l : Launch) : xm_Pu l xy_A_greatestDivisor (Cond.code xy_A_greatestDivisor xb_A_greatestDivisor 6 (some .int) :: xt_T) (xr_ 1) xk_cl xk_ns xk_tA pA_greatestDivisor fA_greatestDivisor := by
  refine xm_mk_pu (rt := .int) (fl := xf_A) (ct := tA_greatestDivisor) (cn := []) (cj := []) (plainFor_of_name (by decide)) xs_A xd_A_greatestDivisor rfl (Or.inr rfl) (lA_greatestDivisor l) (fun as M j pc ls st M2 cl => match as with | [.int p, .int d] => (∃ s x y, s.toNatClampNeg ≤ 1000 ∧ s = nI s.toNatClampNeg ∧ j = 1000 - s.toNatClampNeg ∧ xq_g (1000 - s.toNatClampNeg) x y = xq_g 1000 (if 0 ≤ p then p else -p) d ∧ pc = 10 ∧ ls = [(0, .int p), (1, .int d), (2, .int x), (3, .int y), (4, .int s)] ∧ st = [] ∧ M2 = M ∧ cl = 0) | _ => False) ?_ ?_ ?_ ?_ ?_
  · rintro as M ⟨p, d, rfl⟩; exact Nat.le_of_ble_eq_true rfl
  · rintro as M ⟨p, d, rfl⟩; simp [fA_greatestDivisor]
  · rintro as M v ⟨p, d, rfl⟩ h; first | rfl | (simp [fA_greatestDivisor] at h)
  · rintro as M ⟨p, d, rfl⟩ j pc ls st M2 cl ⟨s, x, y, hs, hs1, hj, hg, rfl, rfl, rfl, rfl, rfl⟩
    refine ⟨400, (And.intro (by decide) (And.intro (fun h15 => (And.intro rfl (And.intro (Nat.le_of_ble_eq_true rfl) (And.intro (Nat.le_of_ble_eq_true rfl) (And.intro ?g1001_c_40 (And.intro ?g1002_w_43 ?g1003_r_43)))))) (fun h15 => (And.intro (by decide) (And.intro (fun h19 => (And.intro rfl (And.intro (Nat.le_of_ble_eq_true rfl) (And.intro (Nat.le_of_ble_eq_true rfl) (And.intro ?g1004_c_40 (And.intro ?g1005_w_43 ?g1006_r_43)))))) (fun h19 => (And.intro ?g1007_n_24 (And.intro (Nat.le_of_ble_eq_true rfl) (And.intro (Nat.le_of_ble_eq_true rfl) (And.intro (Nat.le_of_ble_eq_true rfl) (And.intro (Nat.le_of_ble_eq_true rfl) (And.intro (by decide) ?g1008_k_10))))))))))))⟩
    case g1001_c_40 =>
      exact ⟨_, _, rfl⟩
    case g1002_w_43 =>
      first | rfl | exact xi_nb
    case g1003_r_43 =>
      refine ⟨xl_some ?_, rfl⟩
      have hx : xq_g (1000 - s.toNatClampNeg) x y = x := by
        first
        | exact xq_g_le (Int32.not_lt.mpr h19) _
        | (have e1 := xl_end (x := Int32.ofInt 1000) (c := 1000) rfl (by decide) hs (by rw [← hs1]; exact h15)
           rw [e1]; rfl)
      rw [← hg, hx]
      rfl
    case g1004_c_40 =>
      exact ⟨_, _, rfl⟩
    case g1005_w_43 =>
      first | rfl | exact xi_nb
    case g1006_r_43 =>
      refine ⟨xl_some ?_, rfl⟩
      have hx : xq_g (1000 - s.toNatClampNeg) x y = x := by
        first
        | exact xq_g_le (Int32.not_lt.mpr h19) _
        | (have e1 := xl_end (x := Int32.ofInt 1000) (c := 1000) rfl (by decide) hs (by rw [← hs1]; exact h15)
           rw [e1]; rfl)
      rw [← hg, hx]
      rfl
    case g1007_n_24 =>
      exact fun z => h19 (by rw [z]; exact Int32.le_refl _)
    case g1008_k_10 =>
      have hlt := xl_lt (x := Int32.ofInt 1000) (c := 1000) rfl hs (by rw [← hs1]; exact h15)
      refine ⟨1000 - (s.toNatClampNeg + 1), by omega, nI (s.toNatClampNeg + 1), y, x - x / y * y, ?_, ?_, ?_, ?_, rfl, ?_, rfl, rfl, rfl⟩
      · rw [nI_clamp (by omega)]; omega
      · rw [nI_clamp (by omega)]
      · rw [nI_clamp (by omega)]
      · rw [nI_clamp (by omega), ← hg]
        obtain ⟨m, hm⟩ : ∃ m, 1000 - s.toNatClampNeg = m + 1 := ⟨1000 - s.toNatClampNeg - 1, by omega⟩
        rw [hm, show 1000 - (s.toNatClampNeg + 1) = m by omega]
        show _ = xi_x _ _ _
        rw [xi_xt (Int32.not_le.mp h19)]
      · rw [nI_succ, ← hs1]; rfl
  · rintro as M ⟨p, d, rfl⟩
    refine ⟨400, (And.intro rfl (And.intro (Nat.le_of_ble_eq_true rfl) (And.intro (Nat.le_of_ble_eq_true rfl) (And.intro ?g1_c_1 (And.intro (Nat.le_of_ble_eq_true rfl) (And.intro (Nat.le_of_ble_eq_true rfl) (And.intro (Nat.le_of_ble_eq_true rfl) ?g2_k_10)))))))⟩
    case g1_c_1 =>
      exact ⟨_, rfl⟩
    case g2_k_10 =>
      exact ⟨1000 - 0, 0, _, _, Nat.zero_le _, rfl, rfl, rfl, rfl, rfl, rfl, rfl, rfl⟩
def pP_add (as : List Value) (M : xm_M) : Prop := ∃ s r d : Int32, as = [.ref 2, .int s, .int r, .int d] ∧ vp_in (M 2 0) 20
noncomputable def fP_add (as : List Value) (M : xm_M) : Option Value × xm_M := match as with
  | [_, .int s, .int r, .int d] => (some (.int (M 2 0 + 1 - 1)), (xm_up (xm_up (xm_up (xm_up (xm_up M 8 (M 2 0).toNatClampNeg s) 9 (M 2 0).toNatClampNeg r) 10 (M 2 0).toNatClampNeg d) 12 (M 2 0).toNatClampNeg 1) 2 0 (M 2 0 + 1)))
  | _ => (none, M)
noncomputable abbrev sP_add : xm_C := (0, 4, 1, pP_add, fP_add)
theorem vP_add : ∀ as M, pP_add as M → ∃ as1, as = .ref 2 :: as1 := by
  rintro as M ⟨s, r, d, rfl, hpre⟩
  exact ⟨_, rfl⟩
noncomputable def tP_add : List (Nat × xm_C) := []
theorem lP_add (l : Launch) : ∀ n C, (n, C) ∈ tP_add → xm_lkS l "AbsenceRows$Persons" xt_T xk_ns (xr_ 0) xk_cl xk_tA n C ∨ xm_lkV l "AbsenceRows$Persons" xt_T xk_ns (xr_ 0) xk_cl xk_tA n C := fun n C h => (show ∀ q ∈ tP_add, xm_lkS l "AbsenceRows$Persons" xt_T xk_ns (xr_ 0) xk_cl xk_tA q.1 q.2 ∨ xm_lkV l "AbsenceRows$Persons" xt_T xk_ns (xr_ 0) xk_cl xk_tA q.1 q.2 from fun _ h => absurd h List.not_mem_nil) (n, C) h
set_option maxRecDepth 20000 in
set_option maxHeartbeats 2000000 in
theorem cP_add (l : Launch) : xm_Wr l xy_P_add (Cond.code xy_P_add xb_P_add 4 (some .int) :: xt_T) (xr_ 0) xk_cl xk_ns xk_tA pP_add fP_add := by
  refine xm_mk_wr (rt := .int) (fl := xf_P) (ct := tP_add) (cn := []) (cj := []) (plainFor_of_name (by decide)) xs_P xd_P_add rfl (Or.inr rfl) (lP_add l) (fun _ _ _ _ _ _ _ _ => False) ?_ ?_ ?_ (fun _ _ _ _ _ _ _ _ _ h => h.elim) ?_
  · rintro as M ⟨s, r, d, rfl, hpre⟩; exact Nat.le_of_ble_eq_true rfl
  · rintro as M ⟨s, r, d, rfl, hpre⟩; simp [fP_add]
  · rintro as M v ⟨s, r, d, rfl, hpre⟩ h; first | rfl | (simp [fP_add] at h)
  · rintro as M ⟨s, r, d, rfl, hpre⟩
    refine ⟨400, (And.intro rfl (And.intro rfl (And.intro rfl (And.intro ?g1_i_9 (And.intro rfl (And.intro rfl (And.intro rfl (And.intro ?g2_i_19 (And.intro rfl (And.intro rfl (And.intro rfl (And.intro ?g3_i_29 (And.intro rfl (And.intro rfl (And.intro rfl (And.intro ?g4_i_39 (And.intro rfl (And.intro rfl (And.intro rfl (And.intro rfl (And.intro ?g5_w_56 ?g6_r_56)))))))))))))))))))))⟩
    case g1_i_9 =>
      exact hpre
    case g2_i_19 =>
      exact hpre
    case g3_i_29 =>
      exact hpre
    case g4_i_39 =>
      exact hpre
    case g5_w_56 =>
      first | rfl | exact xi_nb
    case g6_r_56 =>
      exact ⟨rfl, rfl⟩
def pW_add (as : List Value) (M : xm_M) : Prop := ∃ s r : Int32, as = [.ref 3, .int s, .int r] ∧ vp_in (M 3 0) 6
noncomputable def fW_add (as : List Value) (M : xm_M) : Option Value × xm_M := match as with
  | [_, .int s, .int r] => (some (.int (M 3 0 + 1 - 1)), (xm_up (xm_up (xm_up M 15 (M 3 0).toNatClampNeg s) 16 (M 3 0).toNatClampNeg r) 3 0 (M 3 0 + 1)))
  | _ => (none, M)
noncomputable abbrev sW_add : xm_C := (0, 3, 1, pW_add, fW_add)
theorem vW_add : ∀ as M, pW_add as M → ∃ as1, as = .ref 3 :: as1 := by
  rintro as M ⟨s, r, rfl, hpre⟩
  exact ⟨_, rfl⟩
noncomputable def tW_add : List (Nat × xm_C) := []
theorem lW_add (l : Launch) : ∀ n C, (n, C) ∈ tW_add → xm_lkS l "AbsenceRows$Crews" xt_T xk_ns (xr_ 0) xk_cl xk_tA n C ∨ xm_lkV l "AbsenceRows$Crews" xt_T xk_ns (xr_ 0) xk_cl xk_tA n C := fun n C h => (show ∀ q ∈ tW_add, xm_lkS l "AbsenceRows$Crews" xt_T xk_ns (xr_ 0) xk_cl xk_tA q.1 q.2 ∨ xm_lkV l "AbsenceRows$Crews" xt_T xk_ns (xr_ 0) xk_cl xk_tA q.1 q.2 from fun _ h => absurd h List.not_mem_nil) (n, C) h
set_option maxRecDepth 20000 in
set_option maxHeartbeats 2000000 in
theorem cW_add (l : Launch) : xm_Wr l xy_W_add (Cond.code xy_W_add xb_W_add 3 (some .int) :: xt_T) (xr_ 0) xk_cl xk_ns xk_tA pW_add fW_add := by
  refine xm_mk_wr (rt := .int) (fl := xf_W) (ct := tW_add) (cn := []) (cj := []) (plainFor_of_name (by decide)) xs_W xd_W_add rfl (Or.inr rfl) (lW_add l) (fun _ _ _ _ _ _ _ _ => False) ?_ ?_ ?_ (fun _ _ _ _ _ _ _ _ _ h => h.elim) ?_
  · rintro as M ⟨s, r, rfl, hpre⟩; exact Nat.le_of_ble_eq_true rfl
  · rintro as M ⟨s, r, rfl, hpre⟩; simp [fW_add]
  · rintro as M v ⟨s, r, rfl, hpre⟩ h; first | rfl | (simp [fW_add] at h)
  · rintro as M ⟨s, r, rfl, hpre⟩
    refine ⟨400, (And.intro rfl (And.intro rfl (And.intro rfl (And.intro ?g1_i_9 (And.intro rfl (And.intro rfl (And.intro rfl (And.intro ?g2_i_19 (And.intro rfl (And.intro rfl (And.intro rfl (And.intro rfl (And.intro ?g3_w_36 ?g4_r_36)))))))))))))⟩
    case g1_i_9 =>
      exact hpre
    case g2_i_19 =>
      exact hpre
    case g3_w_36 =>
      first | rfl | exact xi_nb
    case g4_r_36 =>
      exact ⟨rfl, rfl⟩
def pK_add (as : List Value) (M : xm_M) : Prop := ∃ p k f t h : Int32, as = [.ref 4, .int p, .int k, .int f, .int t, .int h] ∧ vp_in (M 4 0) 80
noncomputable def fK_add (as : List Value) (M : xm_M) : Option Value × xm_M := match as with
  | [_, .int p, .int k, .int f, .int t, .int h] => (some (.int (M 4 0 + 1 - 1)), (xm_up (xm_up (xm_up (xm_up (xm_up (xm_up (xm_up (xm_up M 18 (M 4 0).toNatClampNeg p) 19 (M 4 0).toNatClampNeg k) 20 (M 4 0).toNatClampNeg f) 21 (M 4 0).toNatClampNeg t) 22 (M 4 0).toNatClampNeg h) 23 (M 4 0).toNatClampNeg (xi_x (k = 1) 2 0)) 24 (M 4 0).toNatClampNeg (-1)) 4 0 (M 4 0 + 1)))
  | _ => (none, M)
noncomputable abbrev sK_add : xm_C := (0, 6, 1, pK_add, fK_add)
theorem vK_add : ∀ as M, pK_add as M → ∃ as1, as = .ref 4 :: as1 := by
  rintro as M ⟨p, k, f, t, h, rfl, hpre⟩
  exact ⟨_, rfl⟩
noncomputable def tK_add : List (Nat × xm_C) := []
theorem lK_add (l : Launch) : ∀ n C, (n, C) ∈ tK_add → xm_lkS l "AbsenceRows$Asks" xt_T xk_ns (xr_ 0) xk_cl xk_tA n C ∨ xm_lkV l "AbsenceRows$Asks" xt_T xk_ns (xr_ 0) xk_cl xk_tA n C := fun n C h => (show ∀ q ∈ tK_add, xm_lkS l "AbsenceRows$Asks" xt_T xk_ns (xr_ 0) xk_cl xk_tA q.1 q.2 ∨ xm_lkV l "AbsenceRows$Asks" xt_T xk_ns (xr_ 0) xk_cl xk_tA q.1 q.2 from fun _ h => absurd h List.not_mem_nil) (n, C) h
set_option maxRecDepth 20000 in
set_option maxHeartbeats 2000000 in
theorem cK_add (l : Launch) : xm_Wr l xy_K_add (Cond.code xy_K_add xb_K_add 6 (some .int) :: xt_T) (xr_ 0) xk_cl xk_ns xk_tA pK_add fK_add := by
  refine xm_mk_wr (rt := .int) (fl := xf_K) (ct := tK_add) (cn := []) (cj := []) (plainFor_of_name (by decide)) xs_K xd_K_add rfl (Or.inr rfl) (lK_add l) (fun _ _ _ _ _ _ _ _ => False) ?_ ?_ ?_ (fun _ _ _ _ _ _ _ _ _ h => h.elim) ?_
  · rintro as M ⟨p, k, f, t, h, rfl, hpre⟩; exact Nat.le_of_ble_eq_true rfl
  · rintro as M ⟨p, k, f, t, h, rfl, hpre⟩; simp [fK_add]
  · rintro as M v ⟨p, k, f, t, h, rfl, hpre⟩ h; first | rfl | (simp [fK_add] at h)
  · rintro as M ⟨p, k, f, t, h, rfl, hpre⟩
    refine ⟨400, (And.intro rfl (And.intro rfl (And.intro rfl (And.intro ?g1_i_9 (And.intro rfl (And.intro rfl (And.intro rfl (And.intro ?g2_i_19 (And.intro rfl (And.intro rfl (And.intro rfl (And.intro ?g3_i_29 (And.intro rfl (And.intro rfl (And.intro rfl (And.intro ?g4_i_40 (And.intro rfl (And.intro rfl (And.intro rfl (And.intro ?g5_i_51 (And.intro rfl (And.intro rfl (And.intro (by decide) (And.intro (fun h62 => (And.intro rfl (And.intro ?g6_i_70 (And.intro rfl (And.intro rfl (And.intro rfl (And.intro ?g7_i_80 (And.intro rfl (And.intro rfl (And.intro rfl (And.intro rfl (And.intro ?g8_w_97 ?g9_r_97)))))))))))) (fun h62 => (And.intro (by decide) (And.intro rfl (And.intro ?g10_i_70 (And.intro rfl (And.intro rfl (And.intro rfl (And.intro ?g11_i_80 (And.intro rfl (And.intro rfl (And.intro rfl (And.intro rfl (And.intro ?g12_w_97 ?g13_r_97)))))))))))))))))))))))))))))))))))))⟩
    case g1_i_9 =>
      exact hpre
    case g2_i_19 =>
      exact hpre
    case g3_i_29 =>
      exact hpre
    case g4_i_40 =>
      exact hpre
    case g5_i_51 =>
      exact hpre
    case g6_i_70 =>
      exact hpre
    case g7_i_80 =>
      exact hpre
    case g8_w_97 =>
      first | rfl | exact xi_nb
    case g9_r_97 =>
      refine ⟨rfl, ?_⟩
      by_cases hz : k = 1
      · simp only [fK_add, xi_xt hz]
        first | rfl | exact absurd hz h62
      · simp only [fK_add, xi_xf hz]
        first | rfl | exact absurd h62 hz
    case g10_i_70 =>
      exact hpre
    case g11_i_80 =>
      exact hpre
    case g12_w_97 =>
      first | rfl | exact xi_nb
    case g13_r_97 =>
      refine ⟨rfl, ?_⟩
      by_cases hz : k = 1
      · simp only [fK_add, xi_xt hz]
        first | rfl | exact absurd hz h62
      · simp only [fK_add, xi_xf hz]
        first | rfl | exact absurd h62 hz
def pL_add (as : List Value) (M : xm_M) : Prop := ∃ w d : Int32, as = [.ref 6, .int w, .int d] ∧ vp_in (M 6 0) 60
noncomputable def fL_add (as : List Value) (M : xm_M) : Option Value × xm_M := match as with
  | [_, .int w, .int d] => (some (.int (M 6 0 + 1 - 1)), (xm_up (xm_up (xm_up (xm_up (xm_up (xm_up M 28 (M 6 0).toNatClampNeg w) 29 (M 6 0).toNatClampNeg d) 30 (M 6 0).toNatClampNeg 0) 31 (M 6 0).toNatClampNeg (-1)) 33 (M 6 0).toNatClampNeg (-1)) 6 0 (M 6 0 + 1)))
  | _ => (none, M)
noncomputable abbrev sL_add : xm_C := (0, 3, 1, pL_add, fL_add)
theorem vL_add : ∀ as M, pL_add as M → ∃ as1, as = .ref 6 :: as1 := by
  rintro as M ⟨w, d, rfl, hpre⟩
  exact ⟨_, rfl⟩
noncomputable def tL_add : List (Nat × xm_C) := []
theorem lL_add (l : Launch) : ∀ n C, (n, C) ∈ tL_add → xm_lkS l "AbsenceRows$Calls" xt_T xk_ns (xr_ 0) xk_cl xk_tA n C ∨ xm_lkV l "AbsenceRows$Calls" xt_T xk_ns (xr_ 0) xk_cl xk_tA n C := fun n C h => (show ∀ q ∈ tL_add, xm_lkS l "AbsenceRows$Calls" xt_T xk_ns (xr_ 0) xk_cl xk_tA q.1 q.2 ∨ xm_lkV l "AbsenceRows$Calls" xt_T xk_ns (xr_ 0) xk_cl xk_tA q.1 q.2 from fun _ h => absurd h List.not_mem_nil) (n, C) h
set_option maxRecDepth 20000 in
set_option maxHeartbeats 2000000 in
theorem cL_add (l : Launch) : xm_Wr l xy_L_add (Cond.code xy_L_add xb_L_add 3 (some .int) :: xt_T) (xr_ 0) xk_cl xk_ns xk_tA pL_add fL_add := by
  refine xm_mk_wr (rt := .int) (fl := xf_L) (ct := tL_add) (cn := []) (cj := []) (plainFor_of_name (by decide)) xs_L xd_L_add rfl (Or.inr rfl) (lL_add l) (fun _ _ _ _ _ _ _ _ => False) ?_ ?_ ?_ (fun _ _ _ _ _ _ _ _ _ h => h.elim) ?_
  · rintro as M ⟨w, d, rfl, hpre⟩; exact Nat.le_of_ble_eq_true rfl
  · rintro as M ⟨w, d, rfl, hpre⟩; simp [fL_add]
  · rintro as M v ⟨w, d, rfl, hpre⟩ h; first | rfl | (simp [fL_add] at h)
  · rintro as M ⟨w, d, rfl, hpre⟩
    refine ⟨400, (And.intro rfl (And.intro rfl (And.intro rfl (And.intro ?g1_i_9 (And.intro rfl (And.intro rfl (And.intro rfl (And.intro ?g2_i_19 (And.intro rfl (And.intro rfl (And.intro rfl (And.intro ?g3_i_29 (And.intro rfl (And.intro rfl (And.intro rfl (And.intro ?g4_i_39 (And.intro rfl (And.intro rfl (And.intro rfl (And.intro ?g5_i_49 (And.intro rfl (And.intro rfl (And.intro rfl (And.intro rfl (And.intro ?g6_w_66 ?g7_r_66)))))))))))))))))))))))))⟩
    case g1_i_9 =>
      exact hpre
    case g2_i_19 =>
      exact hpre
    case g3_i_29 =>
      exact hpre
    case g4_i_39 =>
      exact hpre
    case g5_i_49 =>
      exact hpre
    case g6_w_66 =>
      first | rfl | exact xi_nb
    case g7_r_66 =>
      exact ⟨rfl, rfl⟩
def pL_waitFor (as : List Value) (M : xm_M) : Prop := ∃ k n u : Int32, as = [.ref 6, .int k, .int n, .int u] ∧ vp_in k 60
noncomputable def fL_waitFor (as : List Value) (M : xm_M) : Option Value × xm_M := match as with
  | [_, .int k, .int n, .int u] => (none, (xm_up (xm_up (xm_up M 31 k.toNatClampNeg n) 32 k.toNatClampNeg (M 32 k.toNatClampNeg ||| (1 <<< (n &&& 31)))) 33 k.toNatClampNeg u))
  | _ => (none, M)
noncomputable abbrev sL_waitFor : xm_C := (0, 4, 1, pL_waitFor, fL_waitFor)
theorem vL_waitFor : ∀ as M, pL_waitFor as M → ∃ as1, as = .ref 6 :: as1 := by
  rintro as M ⟨k, n, u, rfl, hpre⟩
  exact ⟨_, rfl⟩
noncomputable def tL_waitFor : List (Nat × xm_C) := [(38, sA_only)]
theorem lL_waitFor (l : Launch) : ∀ n C, (n, C) ∈ tL_waitFor → xm_lkS l "AbsenceRows$Calls" xt_T xk_ns (xr_ 1) xk_cl xk_tA n C ∨ xm_lkV l "AbsenceRows$Calls" xt_T xk_ns (xr_ 1) xk_cl xk_tA n C := fun n C h => (show ∀ q ∈ tL_waitFor, xm_lkS l "AbsenceRows$Calls" xt_T xk_ns (xr_ 1) xk_cl xk_tA q.1 q.2 ∨ xm_lkV l "AbsenceRows$Calls" xt_T xk_ns (xr_ 1) xk_cl xk_tA q.1 q.2 from List.forall_mem_cons.mpr ⟨Or.inl ⟨xy_A_only, xb_A_only, 1, (some .int), xr_ 0, rfl, ⟨xe_A_only, xw_37, ⟨by decide, by decide, by decide +kernel⟩, ⟨Nat.le_of_ble_eq_true rfl, Nat.le_of_ble_eq_true rfl⟩, rfl, rfl⟩, xw_529, Or.inr ⟨"AbsenceRows", xn_13⟩, Or.inl ⟨rfl, uA_only, cA_only l⟩⟩, fun _ h => absurd h List.not_mem_nil⟩) (n, C) h
set_option maxRecDepth 20000 in
set_option maxHeartbeats 2000000 in
theorem cL_waitFor (l : Launch) : xm_Wr l xy_L_waitFor (Cond.code xy_L_waitFor xb_L_waitFor 4 none :: xt_T) (xr_ 1) xk_cl xk_ns xk_tA pL_waitFor fL_waitFor := by
  refine xm_mk_wr (rt := .int) (fl := xf_L) (ct := tL_waitFor) (cn := []) (cj := []) (plainFor_of_name (by decide)) xs_L xd_L_waitFor rfl (Or.inl rfl) (lL_waitFor l) (fun _ _ _ _ _ _ _ _ => False) ?_ ?_ ?_ (fun _ _ _ _ _ _ _ _ _ h => h.elim) ?_
  · rintro as M ⟨k, n, u, rfl, hpre⟩; exact Nat.le_of_ble_eq_true rfl
  · rintro as M ⟨k, n, u, rfl, hpre⟩; simp [fL_waitFor]
  · rintro as M v ⟨k, n, u, rfl, hpre⟩ h; first | rfl | (simp [fL_waitFor] at h)
  · rintro as M ⟨k, n, u, rfl, hpre⟩
    refine ⟨400, (And.intro rfl (And.intro rfl (And.intro ?g1_i_6 (And.intro rfl (And.intro rfl (And.intro ?g2_i_13 (And.intro rfl (And.intro (Nat.le_of_ble_eq_true rfl) (And.intro (Nat.le_of_ble_eq_true rfl) (And.intro ?g3_c_15 (And.intro rfl (And.intro ?g4_i_19 (And.intro rfl (And.intro rfl (And.intro ?g5_i_26 ?g6_r_27)))))))))))))))⟩
    case g1_i_6 =>
      exact hpre
    case g2_i_13 =>
      exact hpre
    case g3_c_15 =>
      exact ⟨_, rfl⟩
    case g4_i_19 =>
      exact hpre
    case g5_i_26 =>
      exact hpre
    case g6_r_27 =>
      exact ⟨rfl, rfl⟩
def pL_fill (as : List Value) (M : xm_M) : Prop := ∃ k : Int32, as = [.ref 6, .int k] ∧ vp_in k 60
noncomputable def fL_fill (as : List Value) (M : xm_M) : Option Value × xm_M := match as with
  | [_, .int k] => (none, (xm_up (xm_up M 30 k.toNatClampNeg 1) 33 k.toNatClampNeg (-1)))
  | _ => (none, M)
noncomputable abbrev sL_fill : xm_C := (0, 2, 1, pL_fill, fL_fill)
theorem vL_fill : ∀ as M, pL_fill as M → ∃ as1, as = .ref 6 :: as1 := by
  rintro as M ⟨k, rfl, hpre⟩
  exact ⟨_, rfl⟩
noncomputable def tL_fill : List (Nat × xm_C) := []
theorem lL_fill (l : Launch) : ∀ n C, (n, C) ∈ tL_fill → xm_lkS l "AbsenceRows$Calls" xt_T xk_ns (xr_ 0) xk_cl xk_tA n C ∨ xm_lkV l "AbsenceRows$Calls" xt_T xk_ns (xr_ 0) xk_cl xk_tA n C := fun n C h => (show ∀ q ∈ tL_fill, xm_lkS l "AbsenceRows$Calls" xt_T xk_ns (xr_ 0) xk_cl xk_tA q.1 q.2 ∨ xm_lkV l "AbsenceRows$Calls" xt_T xk_ns (xr_ 0) xk_cl xk_tA q.1 q.2 from fun _ h => absurd h List.not_mem_nil) (n, C) h
set_option maxRecDepth 20000 in
set_option maxHeartbeats 2000000 in
theorem cL_fill (l : Launch) : xm_Wr l xy_L_fill (Cond.code xy_L_fill xb_L_fill 2 none :: xt_T) (xr_ 0) xk_cl xk_ns xk_tA pL_fill fL_fill := by
  refine xm_mk_wr (rt := .int) (fl := xf_L) (ct := tL_fill) (cn := []) (cj := []) (plainFor_of_name (by decide)) xs_L xd_L_fill rfl (Or.inl rfl) (lL_fill l) (fun _ _ _ _ _ _ _ _ => False) ?_ ?_ ?_ (fun _ _ _ _ _ _ _ _ _ h => h.elim) ?_
  · rintro as M ⟨k, rfl, hpre⟩; exact Nat.le_of_ble_eq_true rfl
  · rintro as M ⟨k, rfl, hpre⟩; simp [fL_fill]
  · rintro as M v ⟨k, rfl, hpre⟩ h; first | rfl | (simp [fL_fill] at h)
  · rintro as M ⟨k, rfl, hpre⟩
    refine ⟨400, (And.intro rfl (And.intro rfl (And.intro ?g1_i_6 (And.intro rfl (And.intro rfl (And.intro ?g2_i_13 ?g3_r_14))))))⟩
    case g1_i_6 =>
      exact hpre
    case g2_i_13 =>
      exact hpre
    case g3_r_14 =>
      exact ⟨rfl, rfl⟩
def pL_fail (as : List Value) (M : xm_M) : Prop := ∃ k : Int32, as = [.ref 6, .int k] ∧ vp_in k 60
noncomputable def fL_fail (as : List Value) (M : xm_M) : Option Value × xm_M := match as with
  | [_, .int k] => (none, xm_fl M k)
  | _ => (none, M)
noncomputable abbrev sL_fail : xm_C := (0, 2, 1, pL_fail, fL_fail)
theorem vL_fail : ∀ as M, pL_fail as M → ∃ as1, as = .ref 6 :: as1 := by
  rintro as M ⟨k, rfl, hpre⟩
  exact ⟨_, rfl⟩
noncomputable def tL_fail : List (Nat × xm_C) := []
theorem lL_fail (l : Launch) : ∀ n C, (n, C) ∈ tL_fail → xm_lkS l "AbsenceRows$Calls" xt_T xk_ns (xr_ 0) xk_cl xk_tA n C ∨ xm_lkV l "AbsenceRows$Calls" xt_T xk_ns (xr_ 0) xk_cl xk_tA n C := fun n C h => (show ∀ q ∈ tL_fail, xm_lkS l "AbsenceRows$Calls" xt_T xk_ns (xr_ 0) xk_cl xk_tA q.1 q.2 ∨ xm_lkV l "AbsenceRows$Calls" xt_T xk_ns (xr_ 0) xk_cl xk_tA q.1 q.2 from fun _ h => absurd h List.not_mem_nil) (n, C) h
set_option maxRecDepth 20000 in
set_option maxHeartbeats 2000000 in
theorem cL_fail (l : Launch) : xm_Wr l xy_L_fail (Cond.code xy_L_fail xb_L_fail 2 none :: xt_T) (xr_ 0) xk_cl xk_ns xk_tA pL_fail fL_fail := by
  refine xm_mk_wr (rt := .int) (fl := xf_L) (ct := tL_fail) (cn := []) (cj := []) (plainFor_of_name (by decide)) xs_L xd_L_fail rfl (Or.inl rfl) (lL_fail l) (fun _ _ _ _ _ _ _ _ => False) ?_ ?_ ?_ (fun _ _ _ _ _ _ _ _ _ h => h.elim) ?_
  · rintro as M ⟨k, rfl, hpre⟩; exact Nat.le_of_ble_eq_true rfl
  · rintro as M ⟨k, rfl, hpre⟩; simp [fL_fail]
  · rintro as M v ⟨k, rfl, hpre⟩ h; first | rfl | (simp [fL_fail] at h)
  · rintro as M ⟨k, rfl, hpre⟩
    refine ⟨400, (And.intro rfl (And.intro rfl (And.intro ?g1_i_6 (And.intro rfl (And.intro rfl (And.intro ?g2_i_13 (And.intro rfl (And.intro rfl (And.intro ?g3_i_20 ?g4_r_21)))))))))⟩
    case g1_i_6 =>
      exact hpre
    case g2_i_13 =>
      exact hpre
    case g3_i_20 =>
      exact hpre
    case g4_r_21 =>
      exact ⟨rfl, rfl⟩
def pK_makeFirstStep (as : List Value) (M : xm_M) : Prop := ∃ a w : Int32, as = [.ref 4, .int a, .int w] ∧ vp_in a 80
noncomputable def fK_makeFirstStep (as : List Value) (M : xm_M) : Option Value × xm_M := match as with
  | [_, .int a, .int w] => (none, (xm_up (xm_up M 24 a.toNatClampNeg w) 23 a.toNatClampNeg 1))
  | _ => (none, M)
noncomputable abbrev sK_makeFirstStep : xm_C := (0, 3, 1, pK_makeFirstStep, fK_makeFirstStep)
theorem vK_makeFirstStep : ∀ as M, pK_makeFirstStep as M → ∃ as1, as = .ref 4 :: as1 := by
  rintro as M ⟨a, w, rfl, hpre⟩
  exact ⟨_, rfl⟩
noncomputable def tK_makeFirstStep : List (Nat × xm_C) := []
theorem lK_makeFirstStep (l : Launch) : ∀ n C, (n, C) ∈ tK_makeFirstStep → xm_lkS l "AbsenceRows$Asks" xt_T xk_ns (xr_ 0) xk_cl xk_tA n C ∨ xm_lkV l "AbsenceRows$Asks" xt_T xk_ns (xr_ 0) xk_cl xk_tA n C := fun n C h => (show ∀ q ∈ tK_makeFirstStep, xm_lkS l "AbsenceRows$Asks" xt_T xk_ns (xr_ 0) xk_cl xk_tA q.1 q.2 ∨ xm_lkV l "AbsenceRows$Asks" xt_T xk_ns (xr_ 0) xk_cl xk_tA q.1 q.2 from fun _ h => absurd h List.not_mem_nil) (n, C) h
set_option maxRecDepth 20000 in
set_option maxHeartbeats 2000000 in
theorem cK_makeFirstStep (l : Launch) : xm_Wr l xy_K_makeFirstStep (Cond.code xy_K_makeFirstStep xb_K_makeFirstStep 3 none :: xt_T) (xr_ 0) xk_cl xk_ns xk_tA pK_makeFirstStep fK_makeFirstStep := by
  refine xm_mk_wr (rt := .int) (fl := xf_K) (ct := tK_makeFirstStep) (cn := []) (cj := []) (plainFor_of_name (by decide)) xs_K xd_K_makeFirstStep rfl (Or.inl rfl) (lK_makeFirstStep l) (fun _ _ _ _ _ _ _ _ => False) ?_ ?_ ?_ (fun _ _ _ _ _ _ _ _ _ h => h.elim) ?_
  · rintro as M ⟨a, w, rfl, hpre⟩; exact Nat.le_of_ble_eq_true rfl
  · rintro as M ⟨a, w, rfl, hpre⟩; simp [fK_makeFirstStep]
  · rintro as M v ⟨a, w, rfl, hpre⟩ h; first | rfl | (simp [fK_makeFirstStep] at h)
  · rintro as M ⟨a, w, rfl, hpre⟩
    refine ⟨400, (And.intro rfl (And.intro rfl (And.intro ?g1_i_6 (And.intro rfl (And.intro rfl (And.intro ?g2_i_13 ?g3_r_14))))))⟩
    case g1_i_6 =>
      exact hpre
    case g2_i_13 =>
      exact hpre
    case g3_r_14 =>
      exact ⟨rfl, rfl⟩
def pK_makeLastStep (as : List Value) (M : xm_M) : Prop := ∃ a w : Int32, as = [.ref 4, .int a, .int w] ∧ vp_in a 80
noncomputable def fK_makeLastStep (as : List Value) (M : xm_M) : Option Value × xm_M := match as with
  | [_, .int a, .int w] => (none, xm_up (xm_up M 24 a.toNatClampNeg (xi_x (M 24 a.toNatClampNeg = -1) w (M 24 a.toNatClampNeg))) 23 a.toNatClampNeg 2)
  | _ => (none, M)
noncomputable abbrev sK_makeLastStep : xm_C := (0, 3, 1, pK_makeLastStep, fK_makeLastStep)
theorem vK_makeLastStep : ∀ as M, pK_makeLastStep as M → ∃ as1, as = .ref 4 :: as1 := by
  rintro as M ⟨a, w, rfl, hpre⟩
  exact ⟨_, rfl⟩
noncomputable def tK_makeLastStep : List (Nat × xm_C) := []
theorem lK_makeLastStep (l : Launch) : ∀ n C, (n, C) ∈ tK_makeLastStep → xm_lkS l "AbsenceRows$Asks" xt_T xk_ns (xr_ 0) xk_cl xk_tA n C ∨ xm_lkV l "AbsenceRows$Asks" xt_T xk_ns (xr_ 0) xk_cl xk_tA n C := fun n C h => (show ∀ q ∈ tK_makeLastStep, xm_lkS l "AbsenceRows$Asks" xt_T xk_ns (xr_ 0) xk_cl xk_tA q.1 q.2 ∨ xm_lkV l "AbsenceRows$Asks" xt_T xk_ns (xr_ 0) xk_cl xk_tA q.1 q.2 from fun _ h => absurd h List.not_mem_nil) (n, C) h
set_option maxRecDepth 20000 in
set_option maxHeartbeats 2000000 in
theorem cK_makeLastStep (l : Launch) : xm_Wr l xy_K_makeLastStep (Cond.code xy_K_makeLastStep xb_K_makeLastStep 3 none :: xt_T) (xr_ 0) xk_cl xk_ns xk_tA pK_makeLastStep fK_makeLastStep := by
  refine xm_mk_wr (rt := .int) (fl := xf_K) (ct := tK_makeLastStep) (cn := []) (cj := []) (plainFor_of_name (by decide)) xs_K xd_K_makeLastStep rfl (Or.inl rfl) (lK_makeLastStep l) (fun _ _ _ _ _ _ _ _ => False) ?_ ?_ ?_ (fun _ _ _ _ _ _ _ _ _ h => h.elim) ?_
  · rintro as M ⟨a, w, rfl, hpre⟩; exact Nat.le_of_ble_eq_true rfl
  · rintro as M ⟨a, w, rfl, hpre⟩; simp [fK_makeLastStep]
  · rintro as M v ⟨a, w, rfl, hpre⟩ h; first | rfl | (simp [fK_makeLastStep] at h)
  · rintro as M ⟨a, w, rfl, hpre⟩
    refine ⟨400, (And.intro rfl (And.intro rfl (And.intro ?g1_i_5 (And.intro (by decide) (And.intro (fun h7 => (And.intro rfl (And.intro rfl (And.intro ?g2_i_23 ?g3_r_24)))) (fun h7 => (And.intro rfl (And.intro rfl (And.intro ?g4_i_16 (And.intro rfl (And.intro rfl (And.intro ?g5_i_23 ?g6_r_24))))))))))))⟩
    case g1_i_5 =>
      exact hpre
    case g2_i_23 =>
      exact hpre
    case g3_r_24 =>
      refine ⟨rfl, ?_⟩
      by_cases hz : M 24 a.toNatClampNeg = -1
      · simp only [fK_makeLastStep, xi_xt hz]
        first | rfl | exact absurd hz h7
      · simp only [fK_makeLastStep, xi_xf hz]
        first | exact absurd h7 hz | rw [xm_up_id]; rfl
    case g4_i_16 =>
      exact hpre
    case g5_i_23 =>
      exact hpre
    case g6_r_24 =>
      refine ⟨rfl, ?_⟩
      by_cases hz : M 24 a.toNatClampNeg = -1
      · simp only [fK_makeLastStep, xi_xt hz]
        first | rfl | exact absurd hz h7
      · simp only [fK_makeLastStep, xi_xf hz]
        first | exact absurd h7 hz | rw [xm_up_id]; rfl
def pH_keep (as : List Value) (M : xm_M) : Prop := ∃ a d w : Int32, as = [.ref 5, .int a, .int d, .int w] ∧ (M 5 0 < 100 → vp_in (M 5 0) 100)
noncomputable def fH_keep (as : List Value) (M : xm_M) : Option Value × xm_M := match as with
  | [_, .int a, .int d, .int w] => (none, (@ite xm_M (M 5 0 < 100) (Classical.propDecidable _) (xm_up (xm_up (xm_up (xm_up M 25 (M 5 0).toNatClampNeg a) 26 (M 5 0).toNatClampNeg d) 27 (M 5 0).toNatClampNeg w) 5 0 (M 5 0 + 1)) M))
  | _ => (none, M)
noncomputable abbrev sH_keep : xm_C := (0, 4, 1, pH_keep, fH_keep)
theorem vH_keep : ∀ as M, pH_keep as M → ∃ as1, as = .ref 5 :: as1 := by
  rintro as M ⟨a, d, w, rfl, hpre⟩
  exact ⟨_, rfl⟩
noncomputable def tH_keep : List (Nat × xm_C) := []
theorem lH_keep (l : Launch) : ∀ n C, (n, C) ∈ tH_keep → xm_lkS l "AbsenceRows$HeldRows" xt_T xk_ns (xr_ 0) xk_cl xk_tA n C ∨ xm_lkV l "AbsenceRows$HeldRows" xt_T xk_ns (xr_ 0) xk_cl xk_tA n C := fun n C h => (show ∀ q ∈ tH_keep, xm_lkS l "AbsenceRows$HeldRows" xt_T xk_ns (xr_ 0) xk_cl xk_tA q.1 q.2 ∨ xm_lkV l "AbsenceRows$HeldRows" xt_T xk_ns (xr_ 0) xk_cl xk_tA q.1 q.2 from fun _ h => absurd h List.not_mem_nil) (n, C) h
set_option maxRecDepth 20000 in
set_option maxHeartbeats 2000000 in
theorem cH_keep (l : Launch) : xm_Wr l xy_H_keep (Cond.code xy_H_keep xb_H_keep 4 none :: xt_T) (xr_ 0) xk_cl xk_ns xk_tA pH_keep fH_keep := by
  refine xm_mk_wr (rt := .int) (fl := xf_H) (ct := tH_keep) (cn := []) (cj := []) (plainFor_of_name (by decide)) xs_H xd_H_keep rfl (Or.inl rfl) (lH_keep l) (fun _ _ _ _ _ _ _ _ => False) ?_ ?_ ?_ (fun _ _ _ _ _ _ _ _ _ h => h.elim) ?_
  · rintro as M ⟨a, d, w, rfl, hpre⟩; exact Nat.le_of_ble_eq_true rfl
  · rintro as M ⟨a, d, w, rfl, hpre⟩; simp [fH_keep]
  · rintro as M v ⟨a, d, w, rfl, hpre⟩ h; first | rfl | (simp [fH_keep] at h)
  · rintro as M ⟨a, d, w, rfl, hpre⟩
    refine ⟨400, (And.intro rfl (And.intro (by decide) (And.intro (fun h6 => ?g1_r_49) (fun h6 => (And.intro rfl (And.intro rfl (And.intro rfl (And.intro ?g2_i_18 (And.intro rfl (And.intro rfl (And.intro rfl (And.intro ?g3_i_28 (And.intro rfl (And.intro rfl (And.intro rfl (And.intro ?g4_i_38 (And.intro rfl (And.intro rfl (And.intro rfl ?g5_r_49)))))))))))))))))))⟩
    case g1_r_49 =>
      refine ⟨rfl, ?_⟩
      by_cases hz : M 5 0 < 100
      · simp only [fH_keep, if_pos hz]
        all_goals first | rfl | exact absurd h6 (Int32.not_le.mpr hz)
      · simp only [fH_keep, if_neg hz]
        all_goals first | rfl | exact absurd (Int32.not_le.mp h6) hz
    case g2_i_18 =>
      exact hpre (Int32.not_le.mp h6)
    case g3_i_28 =>
      exact hpre (Int32.not_le.mp h6)
    case g4_i_38 =>
      exact hpre (Int32.not_le.mp h6)
    case g5_r_49 =>
      refine ⟨rfl, ?_⟩
      by_cases hz : M 5 0 < 100
      · simp only [fH_keep, if_pos hz]
        all_goals first | rfl | exact absurd h6 (Int32.not_le.mpr hz)
      · simp only [fH_keep, if_neg hz]
        all_goals first | rfl | exact absurd (Int32.not_le.mp h6) hz
def pA_askNext (as : List Value) (M : xm_M) : Prop := ∃ k : Int32, as = [.ref 0, .int k] ∧ vp_in k 60 ∧ vp_in (M 28 k.toNatClampNeg) 6 ∧ xv_C M
noncomputable def fA_askNext (as : List Value) (M : xm_M) : Option Value × xm_M := match as with
  | [_, .int k] => (none, xm_nx M k)
  | _ => (none, M)
noncomputable abbrev sA_askNext : xm_C := (0, 2, 1, pA_askNext, fA_askNext)
theorem vA_askNext : ∀ as M, pA_askNext as M → ∃ as1, as = .ref 0 :: as1 := by
  rintro as M ⟨k, rfl, ⟨hk1, hk2, hC⟩⟩
  exact ⟨_, rfl⟩
noncomputable def tA_askNext : List (Nat × xm_C) := [(372, sA_nextToAsk), (375, sL_fail), (378, sL_waitFor)]
theorem lA_askNext (l : Launch) : ∀ n C, (n, C) ∈ tA_askNext → xm_lkS l "AbsenceRows" xt_T xk_ns (xr_ 4) xk_cl xk_tA n C ∨ xm_lkV l "AbsenceRows" xt_T xk_ns (xr_ 4) xk_cl xk_tA n C := fun n C h => (show ∀ q ∈ tA_askNext, xm_lkS l "AbsenceRows" xt_T xk_ns (xr_ 4) xk_cl xk_tA q.1 q.2 ∨ xm_lkV l "AbsenceRows" xt_T xk_ns (xr_ 4) xk_cl xk_tA q.1 q.2 from List.forall_mem_cons.mpr ⟨Or.inr ⟨xy_A_nextToAsk, xb_A_nextToAsk, 7, (some .int), xr_ 3, 1, 0, 0, [some 1, some 2, some 3, some 4, some 5, some 6, none, none, none], xk_T0, 9, rfl, rfl, ⟨xe_A_nextToAsk, xw_37, ⟨by decide, by decide, by decide +kernel⟩, ⟨Nat.le_of_ble_eq_true rfl, Nat.le_of_ble_eq_true rfl⟩, rfl, rfl⟩, xw_729, xw_731, xw_13, rfl, rfl, vA_nextToAsk, Or.inl ⟨rfl, uA_nextToAsk, cA_nextToAsk l⟩⟩, List.forall_mem_cons.mpr ⟨Or.inr ⟨xy_L_fail, xb_L_fail, 2, none, xr_ 0, 1, 6, 6, [none, some 28, some 29, some 30, some 31, some 32, some 33], xk_T6, 7, rfl, rfl, ⟨xe_L_fail, xw_43, ⟨by decide, by decide, by decide +kernel⟩, ⟨Nat.le_of_ble_eq_true rfl, Nat.le_of_ble_eq_true rfl⟩, rfl, rfl⟩, xw_745, xw_746, xw_747, rfl, rfl, vL_fail, Or.inr ⟨rfl, cL_fail l⟩⟩, List.forall_mem_cons.mpr ⟨Or.inr ⟨xy_L_waitFor, xb_L_waitFor, 4, none, xr_ 1, 3, 6, 6, [none, some 28, some 29, some 30, some 31, some 32, some 33], xk_T6, 7, rfl, rfl, ⟨xe_L_waitFor, xw_43, ⟨by decide, by decide, by decide +kernel⟩, ⟨Nat.le_of_ble_eq_true rfl, Nat.le_of_ble_eq_true rfl⟩, rfl, rfl⟩, xw_749, xw_750, xw_751, rfl, rfl, vL_waitFor, Or.inr ⟨rfl, cL_waitFor l⟩⟩, fun _ h => absurd h List.not_mem_nil⟩⟩⟩) (n, C) h
set_option maxRecDepth 20000 in
set_option maxHeartbeats 2000000 in
theorem cA_askNext (l : Launch) : xm_Wr l xy_A_askNext (Cond.code xy_A_askNext xb_A_askNext 3 none :: xt_T) (xr_ 4) xk_cl xk_ns xk_tA pA_askNext fA_askNext := by
  refine xm_mk_wr (rt := .int) (fl := xf_A) (ct := tA_askNext) (cn := []) (cj := []) (plainFor_of_name (by decide)) xs_A xd_A_askNext rfl (Or.inl rfl) (lA_askNext l) (fun _ _ _ _ _ _ _ _ => False) ?_ ?_ ?_ (fun _ _ _ _ _ _ _ _ _ h => h.elim) ?_
  · rintro as M ⟨k, rfl, ⟨hk1, hk2, hC⟩⟩; exact Nat.le_of_ble_eq_true rfl
  · rintro as M ⟨k, rfl, ⟨hk1, hk2, hC⟩⟩; simp [fA_askNext]
  · rintro as M v ⟨k, rfl, ⟨hk1, hk2, hC⟩⟩ h; first | rfl | (simp [fA_askNext] at h)
  · rintro as M ⟨k, rfl, ⟨hk1, hk2, hC⟩⟩
    refine ⟨400, (And.intro rfl (And.intro (Nat.le_of_ble_eq_true rfl) (And.intro (Nat.le_of_ble_eq_true rfl) (And.intro ?g1_c_2 (And.intro (Nat.le_of_ble_eq_true rfl) (And.intro (by decide) (And.intro (fun h8 => (And.intro rfl (And.intro rfl (And.intro rfl (And.intro ?g2_i_31 (And.intro rfl (And.intro ?g3_i_34 (And.intro rfl (And.intro rfl (And.intro rfl (And.intro rfl (And.intro (Nat.le_of_ble_eq_true rfl) (And.intro (Nat.le_of_ble_eq_true rfl) (And.intro ?g4_c_50 ?g5_r_53)))))))))))))) (fun h8 => (And.intro rfl (And.intro rfl (And.intro (Nat.le_of_ble_eq_true rfl) (And.intro (Nat.le_of_ble_eq_true rfl) (And.intro ?g6_c_16 (And.intro (by decide) ?g7_r_53))))))))))))))⟩
    case g1_c_2 =>
      exact ⟨_, rfl, hk1, hk2, hC⟩
    case g2_i_31 =>
      exact xd_nx_in hC.1 h8
    case g3_i_34 =>
      exact xd_nx_in hC.1 h8
    case g4_c_50 =>
      exact ⟨_, _, _, rfl, hk1⟩
    case g5_r_53 =>
      refine ⟨rfl, ?_⟩
      by_cases hz : xd_nx M k = -1
      · simp only [fA_askNext, xm_nx, if_pos hz]
        first | rfl | exact absurd hz h8
      · simp only [fA_askNext, xm_nx, if_neg hz]
        first | rfl | exact absurd h8 hz
    case g6_c_16 =>
      exact ⟨_, rfl, hk1⟩
    case g7_r_53 =>
      refine ⟨rfl, ?_⟩
      by_cases hz : xd_nx M k = -1
      · simp only [fA_askNext, xm_nx, if_pos hz]
        first | rfl | exact absurd hz h8
      · simp only [fA_askNext, xm_nx, if_neg hz]
        first | rfl | exact absurd h8 hz
