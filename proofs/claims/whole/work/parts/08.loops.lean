/-! NUMBERS for loops: folds, counters -/
noncomputable def xi_w (c : Prop) (v : Int32) : Int32 := @ite Int32 c (Classical.propDecidable c) v 0
theorem xi_wt {c : Prop} {v : Int32} (h : c) : xi_w c v = v := by simp [xi_w, h]
theorem xi_wf {c : Prop} {v : Int32} (h : ¬ c) : xi_w c v = 0 := by simp [xi_w, h]
def xq_s (g : Nat → Int32) : Nat → Int32
  | 0 => 0
  | n + 1 => xq_s g n + g n
def xq_o (g : Nat → Int32) : Nat → Int32
  | 0 => 0
  | n + 1 => xq_o g n ||| g n
theorem xq_s1 (g : Nat → Int32) (n : Nat) : xq_s g (n + 1) = xq_s g n + g n := rfl
theorem xq_o1 (g : Nat → Int32) (n : Nat) : xq_o g (n + 1) = xq_o g n ||| g n := rfl
theorem xi_or0 (x : Int32) : x ||| 0 = x := by
  apply Int32.toBitVec_inj.mp
  simp
theorem xl_lt {x : Int32} {c i : Nat} (hx : x = nI c) (hi : i ≤ c) (h : ¬ x ≤ nI i) : i < c := by
  rcases Nat.lt_or_ge i c with q | q
  · exact q
  · have e : i = c := by omega
    exact absurd (by rw [hx, e]; exact Int32.le_refl _) h
theorem xl_end {x : Int32} {c i : Nat} (hx : x = nI c) (hc : c < 2 ^ 31) (hi : i ≤ c) (h : x ≤ nI i) : i = c := by
  rcases Nat.lt_or_ge i c with q | q
  · exact absurd (by rw [← hx]; exact h) (nI_ge q hc)
  · omega
theorem xl_ls2 {a b c d : Int32} {x y : Value} {s t : Nat} {r : List (Nat × Value)} (h1 : a = c) (h2 : b = d) : ((s, Value.int a) :: (t, Value.int b) :: r) = ((s, Value.int c) :: (t, Value.int d) :: r) := by rw [h1, h2]
noncomputable def xi_x (c : Prop) (v w : Int32) : Int32 := @ite Int32 c (Classical.propDecidable c) v w
theorem xi_xt {c : Prop} {v w : Int32} (h : c) : xi_x c v w = v := by simp [xi_x, h]
theorem xi_xf {c : Prop} {v w : Int32} (h : ¬ c) : xi_x c v w = w := by simp [xi_x, h]
/-- the earliest of those that are not -1 -/
noncomputable def xq_m (x : Nat → Int32) : Nat → Int32
  | 0 => -1
  | n + 1 => xi_x (¬ x n = -1 ∧ (xq_m x n = -1 ∨ x n < xq_m x n)) (x n) (xq_m x n)
theorem xq_m1 (x : Nat → Int32) (n : Nat) : xq_m x (n + 1) = xi_x (¬ x n = -1 ∧ (xq_m x n = -1 ∨ x n < xq_m x n)) (x n) (xq_m x n) := rfl
theorem xi_add0 (x : Int32) : x + 0 = x := by simp
def xv_span (f t : Int32) : Prop := ∃ a b : Nat, f = nI a ∧ t = nI b ∧ a ≤ b ∧ b < 730
theorem xl_dl {f t : Int32} {a b i : Nat} (_ : f = nI a) (hb : t = nI b) (hb7 : b < 730) (h : ¬ t < nI (a + i)) (hi : a + i < 2 ^ 31 := by omega) : a + i ≤ b := by
  rcases Nat.lt_or_ge b (a + i) with q | q
  · exact absurd (by rw [hb]; exact nI_lt q hi) h
  · exact q
theorem xl_d {f t : Int32} {a b i : Nat} (ha : f = nI a) (hb : t = nI b) (hb7 : b < 730) (h : ¬ t < nI (a + i)) (hi : a + i < 2 ^ 31 := by omega) : vp_in (nI (a + i)) 730 := vp_in_nI (Nat.lt_of_le_of_lt (xl_dl ha hb hb7 h hi) hb7) (by decide)
theorem xl_de {f t : Int32} {a b i : Nat} (_ : f = nI a) (hb : t = nI b) (hb7 : b < 730) (hab : a ≤ b) (hi : i ≤ b + 1 - a) (h : t < nI (a + i)) : i = b + 1 - a := by
  rcases Nat.lt_or_ge b (a + i) with q | q
  · omega
  · exact absurd (by rw [← hb]; exact h) (nI_nlt q (by omega))
theorem xl_some {a b : Int32} (h : a = b) : some (Value.int a) = some (Value.int b) := by rw [h]
def pP_thereOn (as : List Value) (M : xm_M) : Prop := ∃ d : Int32, as = [.ref 2, .int d] ∧ (∃ c, c ≤ 20 ∧ M 2 0 = nI c)
noncomputable def fP_thereOn (as : List Value) (M : xm_M) : Option Value × xm_M := match as with
  | [_, .int d] => (some (.int (xq_o (fun i => xi_w (M 10 i ≤ d) (1 <<< (nI i &&& 31))) (M 2 0).toNatClampNeg)), M)
  | _ => (none, M)
noncomputable abbrev sP_thereOn : xm_C := (0, 2, 0, pP_thereOn, fP_thereOn)
theorem uP_thereOn : ∀ as M, (fP_thereOn as M).2 = M := by
  intro as M
  unfold fP_thereOn
  split <;> rfl
theorem vP_thereOn : ∀ as M, pP_thereOn as M → ∃ as1, as = .ref 2 :: as1 := by
  rintro as M ⟨d, rfl, ⟨c0, hc0, hc1⟩⟩
  exact ⟨_, rfl⟩
noncomputable def tP_thereOn : List (Nat × xm_C) := [(50, sA_only)]
theorem lP_thereOn (l : Launch) : ∀ n C, (n, C) ∈ tP_thereOn → xm_lkS l "AbsenceRows$Persons" xt_T xk_ns (xr_ 1) xk_cl xk_tA n C ∨ xm_lkV l "AbsenceRows$Persons" xt_T xk_ns (xr_ 1) xk_cl xk_tA n C := fun n C h => (show ∀ q ∈ tP_thereOn, xm_lkS l "AbsenceRows$Persons" xt_T xk_ns (xr_ 1) xk_cl xk_tA q.1 q.2 ∨ xm_lkV l "AbsenceRows$Persons" xt_T xk_ns (xr_ 1) xk_cl xk_tA q.1 q.2 from List.forall_mem_cons.mpr ⟨Or.inl ⟨xy_A_only, xb_A_only, 1, (some .int), xr_ 0, rfl, ⟨xe_A_only, xw_37, ⟨by decide, by decide, by decide +kernel⟩, ⟨Nat.le_of_ble_eq_true rfl, Nat.le_of_ble_eq_true rfl⟩, rfl, rfl⟩, xw_529, Or.inr ⟨"AbsenceRows", xn_10⟩, Or.inl ⟨rfl, uA_only, cA_only l⟩⟩, fun _ h => absurd h List.not_mem_nil⟩) (n, C) h
set_option maxRecDepth 20000 in
set_option maxHeartbeats 2000000 in
theorem cP_thereOn (l : Launch) : xm_Pu l xy_P_thereOn (Cond.code xy_P_thereOn xb_P_thereOn 4 (some .int) :: xt_T) (xr_ 1) xk_cl xk_ns xk_tA pP_thereOn fP_thereOn := by
  refine xm_mk_pu (rt := .int) (fl := xf_P) (ct := tP_thereOn) (cn := []) (cj := []) (plainFor_of_name (by decide)) xs_P xd_P_thereOn rfl (Or.inr rfl) (lP_thereOn l) (fun as M j pc ls st M2 cl => match as with | [_, .int d] => (∃ i c : Nat, M 2 0 = nI c ∧ c ≤ 20 ∧ i ≤ c ∧ j = c - i ∧ pc = 4 ∧ ls = [(0, .ref 2), (1, .int d), (2, .int (xq_o (fun i => xi_w (M 10 i ≤ d) (1 <<< (nI i &&& 31))) i)), (3, .int (nI i))] ∧ st = [] ∧ M2 = M ∧ cl = 0) | _ => False) ?_ ?_ ?_ ?_ ?_
  · rintro as M ⟨d, rfl, ⟨c0, hc0, hc1⟩⟩; exact Nat.le_of_ble_eq_true rfl
  · rintro as M ⟨d, rfl, ⟨c0, hc0, hc1⟩⟩; simp [fP_thereOn]
  · rintro as M v ⟨d, rfl, ⟨c0, hc0, hc1⟩⟩ h; first | rfl | (simp [fP_thereOn] at h)
  · rintro as M ⟨d, rfl, ⟨c0, hc0, hc1⟩⟩ j pc ls st M2 cl ⟨i, c, hc, hc20, hic, hj, rfl, rfl, rfl, rfl, rfl⟩
    refine ⟨400, (And.intro rfl (And.intro (by decide) (And.intro (fun h9 => (And.intro ?g1001_w_36 ?g1002_r_36)) (fun h9 => (And.intro rfl (And.intro rfl (And.intro ?g1003_i_17 (And.intro (by decide) (And.intro (fun h19 => (And.intro (Nat.le_of_ble_eq_true rfl) (And.intro (by decide) ?g1004_k_4))) (fun h19 => (And.intro rfl (And.intro (Nat.le_of_ble_eq_true rfl) (And.intro (Nat.le_of_ble_eq_true rfl) (And.intro ?g1005_c_24 (And.intro (Nat.le_of_ble_eq_true rfl) (And.intro (Nat.le_of_ble_eq_true rfl) (And.intro (by decide) ?g1006_k_4)))))))))))))))))⟩
    case g1001_w_36 =>
      first | rfl | exact xi_nb
    case g1002_r_36 =>
      obtain rfl := xl_end hc (by omega) hic (by assumption)
      refine ⟨xl_some ?_, rfl⟩
      rw [hc, nI_clamp (by omega)]
    case g1003_i_17 =>
      exact vp_in_nI (Nat.lt_of_lt_of_le (xl_lt hc hic h9) hc20) (by decide)
    case g1004_k_4 =>
      have hlt := xl_lt hc hic h9
      have e1 : (nI i).toNatClampNeg = i := nI_clamp (by omega)
      refine ⟨c - (i + 1), by omega, i + 1, c, hc, hc20, by omega, rfl, rfl, ?_, rfl, rfl, rfl⟩
      rw [nI_succ, xq_o1]
      simp only [e1] at *
      first | (rw [xi_wt (by grind [Int32.not_lt, Int32.not_le])]; rfl) | (rw [xi_wf (by grind [Int32.not_lt, Int32.not_le]), xi_or0]; rfl)
    case g1005_c_24 =>
      exact ⟨_, rfl⟩
    case g1006_k_4 =>
      have hlt := xl_lt hc hic h9
      have e1 : (nI i).toNatClampNeg = i := nI_clamp (by omega)
      refine ⟨c - (i + 1), by omega, i + 1, c, hc, hc20, by omega, rfl, rfl, ?_, rfl, rfl, rfl⟩
      rw [nI_succ, xq_o1]
      simp only [e1] at *
      first | (rw [xi_wt (by grind [Int32.not_lt, Int32.not_le])]; rfl) | (rw [xi_wf (by grind [Int32.not_lt, Int32.not_le]), xi_or0]; rfl)
  · rintro as M ⟨d, rfl, ⟨c0, hc0, hc1⟩⟩
    refine ⟨400, (And.intro (Nat.le_of_ble_eq_true rfl) (And.intro (Nat.le_of_ble_eq_true rfl) ?g1_k_4))⟩
    case g1_k_4 =>
      exact ⟨c0 - 0, 0, c0, hc1, hc0, Nat.zero_le _, rfl, rfl, rfl, rfl, rfl, rfl⟩
def pK_absentOn (as : List Value) (M : xm_M) : Prop := ∃ d : Int32, as = [.ref 4, .int d] ∧ (∃ c, c ≤ 80 ∧ M 4 0 = nI c)
noncomputable def fK_absentOn (as : List Value) (M : xm_M) : Option Value × xm_M := match as with
  | [_, .int d] => (some (.int (xq_o (fun i => xi_w (M 23 i = 2 ∧ M 20 i ≤ d ∧ d ≤ M 21 i ∧ ¬ ((d = M 20 i ∧ ¬ M 22 i &&& 1 = 0) ∨ (d = M 21 i ∧ ¬ M 22 i &&& 2 = 0))) (1 <<< (M 18 i &&& 31))) (M 4 0).toNatClampNeg)), M)
  | _ => (none, M)
noncomputable abbrev sK_absentOn : xm_C := (0, 2, 0, pK_absentOn, fK_absentOn)
theorem uK_absentOn : ∀ as M, (fK_absentOn as M).2 = M := by
  intro as M
  unfold fK_absentOn
  split <;> rfl
theorem vK_absentOn : ∀ as M, pK_absentOn as M → ∃ as1, as = .ref 4 :: as1 := by
  rintro as M ⟨d, rfl, ⟨c0, hc0, hc1⟩⟩
  exact ⟨_, rfl⟩
noncomputable def tK_absentOn : List (Nat × xm_C) := [(41, sA_isHalf), (45, sA_only)]
theorem lK_absentOn (l : Launch) : ∀ n C, (n, C) ∈ tK_absentOn → xm_lkS l "AbsenceRows$Asks" xt_T xk_ns (xr_ 1) xk_cl xk_tA n C ∨ xm_lkV l "AbsenceRows$Asks" xt_T xk_ns (xr_ 1) xk_cl xk_tA n C := fun n C h => (show ∀ q ∈ tK_absentOn, xm_lkS l "AbsenceRows$Asks" xt_T xk_ns (xr_ 1) xk_cl xk_tA q.1 q.2 ∨ xm_lkV l "AbsenceRows$Asks" xt_T xk_ns (xr_ 1) xk_cl xk_tA q.1 q.2 from List.forall_mem_cons.mpr ⟨Or.inl ⟨xy_A_isHalf, xb_A_isHalf, 4, (some .boolean), xr_ 0, rfl, ⟨xe_A_isHalf, xw_37, ⟨by decide, by decide, by decide +kernel⟩, ⟨Nat.le_of_ble_eq_true rfl, Nat.le_of_ble_eq_true rfl⟩, rfl, rfl⟩, xw_426, Or.inr ⟨"AbsenceRows", xn_11⟩, Or.inl ⟨rfl, uA_isHalf, cA_isHalf l⟩⟩, List.forall_mem_cons.mpr ⟨Or.inl ⟨xy_A_only, xb_A_only, 1, (some .int), xr_ 0, rfl, ⟨xe_A_only, xw_37, ⟨by decide, by decide, by decide +kernel⟩, ⟨Nat.le_of_ble_eq_true rfl, Nat.le_of_ble_eq_true rfl⟩, rfl, rfl⟩, xw_529, Or.inr ⟨"AbsenceRows", xn_12⟩, Or.inl ⟨rfl, uA_only, cA_only l⟩⟩, fun _ h => absurd h List.not_mem_nil⟩⟩) (n, C) h
set_option maxRecDepth 20000 in
set_option maxHeartbeats 2000000 in
theorem cK_absentOn (l : Launch) : xm_Pu l xy_K_absentOn (Cond.code xy_K_absentOn xb_K_absentOn 4 (some .int) :: xt_T) (xr_ 1) xk_cl xk_ns xk_tA pK_absentOn fK_absentOn := by
  refine xm_mk_pu (rt := .int) (fl := xf_K) (ct := tK_absentOn) (cn := []) (cj := []) (plainFor_of_name (by decide)) xs_K xd_K_absentOn rfl (Or.inr rfl) (lK_absentOn l) (fun as M j pc ls st M2 cl => match as with | [_, .int d] => (∃ i c : Nat, M 4 0 = nI c ∧ c ≤ 80 ∧ i ≤ c ∧ j = c - i ∧ pc = 4 ∧ ls = [(0, .ref 4), (1, .int d), (2, .int (xq_o (fun i => xi_w (M 23 i = 2 ∧ M 20 i ≤ d ∧ d ≤ M 21 i ∧ ¬ ((d = M 20 i ∧ ¬ M 22 i &&& 1 = 0) ∨ (d = M 21 i ∧ ¬ M 22 i &&& 2 = 0))) (1 <<< (M 18 i &&& 31))) i)), (3, .int (nI i))] ∧ st = [] ∧ M2 = M ∧ cl = 0) | _ => False) ?_ ?_ ?_ ?_ ?_
  · rintro as M ⟨d, rfl, ⟨c0, hc0, hc1⟩⟩; exact Nat.le_of_ble_eq_true rfl
  · rintro as M ⟨d, rfl, ⟨c0, hc0, hc1⟩⟩; simp [fK_absentOn]
  · rintro as M v ⟨d, rfl, ⟨c0, hc0, hc1⟩⟩ h; first | rfl | (simp [fK_absentOn] at h)
  · rintro as M ⟨d, rfl, ⟨c0, hc0, hc1⟩⟩ j pc ls st M2 cl ⟨i, c, hc, hc20, hic, hj, rfl, rfl, rfl, rfl, rfl⟩
    refine ⟨400, (And.intro rfl (And.intro (by decide) (And.intro (fun h9 => (And.intro ?g1001_w_86 ?g1002_r_86)) (fun h9 => (And.intro rfl (And.intro rfl (And.intro ?g1003_i_17 (And.intro (by decide) (And.intro (fun h19 => (And.intro (Nat.le_of_ble_eq_true rfl) (And.intro (by decide) ?g1004_k_4))) (fun h19 => (And.intro rfl (And.intro rfl (And.intro ?g1005_i_27 (And.intro (by decide) (And.intro (fun h29 => (And.intro (Nat.le_of_ble_eq_true rfl) (And.intro (by decide) ?g1006_k_4))) (fun h29 => (And.intro rfl (And.intro rfl (And.intro ?g1007_i_38 (And.intro (by decide) (And.intro (fun h39 => (And.intro (Nat.le_of_ble_eq_true rfl) (And.intro (by decide) ?g1008_k_4))) (fun h39 => (And.intro rfl (And.intro rfl (And.intro ?g1009_i_48 (And.intro rfl (And.intro rfl (And.intro ?g1010_i_54 (And.intro rfl (And.intro rfl (And.intro ?g1011_i_60 (And.intro rfl (And.intro (Nat.le_of_ble_eq_true rfl) (And.intro (Nat.le_of_ble_eq_true rfl) (And.intro ?g1012_c_61 (And.intro (by decide) (And.intro (fun h64 => (And.intro (Nat.le_of_ble_eq_true rfl) (And.intro (by decide) ?g1013_k_4))) (fun h64 => (And.intro rfl (And.intro rfl (And.intro ?g1014_i_73 (And.intro rfl (And.intro (Nat.le_of_ble_eq_true rfl) (And.intro (Nat.le_of_ble_eq_true rfl) (And.intro ?g1015_c_74 (And.intro (Nat.le_of_ble_eq_true rfl) (And.intro (Nat.le_of_ble_eq_true rfl) (And.intro (by decide) ?g1016_k_4))))))))))))))))))))))))))))))))))))))))))))))))⟩
    case g1001_w_86 =>
      first | rfl | exact xi_nb
    case g1002_r_86 =>
      obtain rfl := xl_end hc (by omega) hic (by assumption)
      refine ⟨xl_some ?_, rfl⟩
      rw [hc, nI_clamp (by omega)]
    case g1003_i_17 =>
      exact vp_in_nI (Nat.lt_of_lt_of_le (xl_lt hc hic h9) hc20) (by decide)
    case g1004_k_4 =>
      have hlt := xl_lt hc hic h9
      have e1 : (nI i).toNatClampNeg = i := nI_clamp (by omega)
      refine ⟨c - (i + 1), by omega, i + 1, c, hc, hc20, by omega, rfl, rfl, ?_, rfl, rfl, rfl⟩
      rw [nI_succ, xq_o1]
      simp only [e1] at *
      try simp only [xi_0, xi_n0] at *
      first | (rw [xi_wt (by grind [Int32.not_lt, Int32.not_le])]; rfl) | (rw [xi_wf (by grind [Int32.not_lt, Int32.not_le]), xi_or0]; rfl)
    case g1005_i_27 =>
      exact vp_in_nI (Nat.lt_of_lt_of_le (xl_lt hc hic h9) hc20) (by decide)
    case g1006_k_4 =>
      have hlt := xl_lt hc hic h9
      have e1 : (nI i).toNatClampNeg = i := nI_clamp (by omega)
      refine ⟨c - (i + 1), by omega, i + 1, c, hc, hc20, by omega, rfl, rfl, ?_, rfl, rfl, rfl⟩
      rw [nI_succ, xq_o1]
      simp only [e1] at *
      try simp only [xi_0, xi_n0] at *
      first | (rw [xi_wt (by grind [Int32.not_lt, Int32.not_le])]; rfl) | (rw [xi_wf (by grind [Int32.not_lt, Int32.not_le]), xi_or0]; rfl)
    case g1007_i_38 =>
      exact vp_in_nI (Nat.lt_of_lt_of_le (xl_lt hc hic h9) hc20) (by decide)
    case g1008_k_4 =>
      have hlt := xl_lt hc hic h9
      have e1 : (nI i).toNatClampNeg = i := nI_clamp (by omega)
      refine ⟨c - (i + 1), by omega, i + 1, c, hc, hc20, by omega, rfl, rfl, ?_, rfl, rfl, rfl⟩
      rw [nI_succ, xq_o1]
      simp only [e1] at *
      try simp only [xi_0, xi_n0] at *
      first | (rw [xi_wt (by grind [Int32.not_lt, Int32.not_le])]; rfl) | (rw [xi_wf (by grind [Int32.not_lt, Int32.not_le]), xi_or0]; rfl)
    case g1009_i_48 =>
      exact vp_in_nI (Nat.lt_of_lt_of_le (xl_lt hc hic h9) hc20) (by decide)
    case g1010_i_54 =>
      exact vp_in_nI (Nat.lt_of_lt_of_le (xl_lt hc hic h9) hc20) (by decide)
    case g1011_i_60 =>
      exact vp_in_nI (Nat.lt_of_lt_of_le (xl_lt hc hic h9) hc20) (by decide)
    case g1012_c_61 =>
      exact ⟨_, _, _, _, rfl⟩
    case g1013_k_4 =>
      have hlt := xl_lt hc hic h9
      have e1 : (nI i).toNatClampNeg = i := nI_clamp (by omega)
      refine ⟨c - (i + 1), by omega, i + 1, c, hc, hc20, by omega, rfl, rfl, ?_, rfl, rfl, rfl⟩
      rw [nI_succ, xq_o1]
      simp only [e1] at *
      try simp only [xi_0, xi_n0] at *
      first | (rw [xi_wt (by grind [Int32.not_lt, Int32.not_le])]; rfl) | (rw [xi_wf (by grind [Int32.not_lt, Int32.not_le]), xi_or0]; rfl)
    case g1014_i_73 =>
      exact vp_in_nI (Nat.lt_of_lt_of_le (xl_lt hc hic h9) hc20) (by decide)
    case g1015_c_74 =>
      exact ⟨_, rfl⟩
    case g1016_k_4 =>
      have hlt := xl_lt hc hic h9
      have e1 : (nI i).toNatClampNeg = i := nI_clamp (by omega)
      refine ⟨c - (i + 1), by omega, i + 1, c, hc, hc20, by omega, rfl, rfl, ?_, rfl, rfl, rfl⟩
      rw [nI_succ, xq_o1]
      simp only [e1] at *
      try simp only [xi_0, xi_n0] at *
      first | (rw [xi_wt (by grind [Int32.not_lt, Int32.not_le])]; rfl) | (rw [xi_wf (by grind [Int32.not_lt, Int32.not_le]), xi_or0]; rfl)
  · rintro as M ⟨d, rfl, ⟨c0, hc0, hc1⟩⟩
    refine ⟨400, (And.intro (Nat.le_of_ble_eq_true rfl) (And.intro (Nat.le_of_ble_eq_true rfl) ?g1_k_4))⟩
    case g1_k_4 =>
      exact ⟨c0 - 0, 0, c0, hc1, hc0, Nat.zero_le _, rfl, rfl, rfl, rfl, rfl, rfl⟩
def pL_comeTo (as : List Value) (M : xm_M) : Prop := ∃ w d : Int32, as = [.ref 6, .int w, .int d] ∧ (∃ c, c ≤ 60 ∧ M 6 0 = nI c)
noncomputable def fL_comeTo (as : List Value) (M : xm_M) : Option Value × xm_M := match as with
  | [_, .int w, .int d] => (some (.int (xq_o (fun i => xi_w (M 30 i = 1 ∧ M 28 i = w ∧ M 29 i = d) (1 <<< (M 31 i &&& 31))) (M 6 0).toNatClampNeg)), M)
  | _ => (none, M)
noncomputable abbrev sL_comeTo : xm_C := (0, 3, 0, pL_comeTo, fL_comeTo)
theorem uL_comeTo : ∀ as M, (fL_comeTo as M).2 = M := by
  intro as M
  unfold fL_comeTo
  split <;> rfl
theorem vL_comeTo : ∀ as M, pL_comeTo as M → ∃ as1, as = .ref 6 :: as1 := by
  rintro as M ⟨w, d, rfl, ⟨c0, hc0, hc1⟩⟩
  exact ⟨_, rfl⟩
noncomputable def tL_comeTo : List (Nat × xm_C) := [(38, sA_only)]
theorem lL_comeTo (l : Launch) : ∀ n C, (n, C) ∈ tL_comeTo → xm_lkS l "AbsenceRows$Calls" xt_T xk_ns (xr_ 1) xk_cl xk_tA n C ∨ xm_lkV l "AbsenceRows$Calls" xt_T xk_ns (xr_ 1) xk_cl xk_tA n C := fun n C h => (show ∀ q ∈ tL_comeTo, xm_lkS l "AbsenceRows$Calls" xt_T xk_ns (xr_ 1) xk_cl xk_tA q.1 q.2 ∨ xm_lkV l "AbsenceRows$Calls" xt_T xk_ns (xr_ 1) xk_cl xk_tA q.1 q.2 from List.forall_mem_cons.mpr ⟨Or.inl ⟨xy_A_only, xb_A_only, 1, (some .int), xr_ 0, rfl, ⟨xe_A_only, xw_37, ⟨by decide, by decide, by decide +kernel⟩, ⟨Nat.le_of_ble_eq_true rfl, Nat.le_of_ble_eq_true rfl⟩, rfl, rfl⟩, xw_529, Or.inr ⟨"AbsenceRows", xn_13⟩, Or.inl ⟨rfl, uA_only, cA_only l⟩⟩, fun _ h => absurd h List.not_mem_nil⟩) (n, C) h
set_option maxRecDepth 20000 in
set_option maxHeartbeats 2000000 in
theorem cL_comeTo (l : Launch) : xm_Pu l xy_L_comeTo (Cond.code xy_L_comeTo xb_L_comeTo 5 (some .int) :: xt_T) (xr_ 1) xk_cl xk_ns xk_tA pL_comeTo fL_comeTo := by
  refine xm_mk_pu (rt := .int) (fl := xf_L) (ct := tL_comeTo) (cn := []) (cj := []) (plainFor_of_name (by decide)) xs_L xd_L_comeTo rfl (Or.inr rfl) (lL_comeTo l) (fun as M j pc ls st M2 cl => match as with | [_, .int w, .int d] => (∃ i c : Nat, M 6 0 = nI c ∧ c ≤ 60 ∧ i ≤ c ∧ j = c - i ∧ pc = 5 ∧ ls = [(0, .ref 6), (1, .int w), (2, .int d), (3, .int (xq_o (fun i => xi_w (M 30 i = 1 ∧ M 28 i = w ∧ M 29 i = d) (1 <<< (M 31 i &&& 31))) i)), (4, .int (nI i))] ∧ st = [] ∧ M2 = M ∧ cl = 0) | _ => False) ?_ ?_ ?_ ?_ ?_
  · rintro as M ⟨w, d, rfl, ⟨c0, hc0, hc1⟩⟩; exact Nat.le_of_ble_eq_true rfl
  · rintro as M ⟨w, d, rfl, ⟨c0, hc0, hc1⟩⟩; simp [fL_comeTo]
  · rintro as M v ⟨w, d, rfl, ⟨c0, hc0, hc1⟩⟩ h; first | rfl | (simp [fL_comeTo] at h)
  · rintro as M ⟨w, d, rfl, ⟨c0, hc0, hc1⟩⟩ j pc ls st M2 cl ⟨i, c, hc, hc20, hic, hj, rfl, rfl, rfl, rfl, rfl⟩
    refine ⟨400, (And.intro rfl (And.intro (by decide) (And.intro (fun h11 => (And.intro ?g1001_w_67 ?g1002_r_67)) (fun h11 => (And.intro rfl (And.intro rfl (And.intro ?g1003_i_20 (And.intro (by decide) (And.intro (fun h22 => (And.intro (Nat.le_of_ble_eq_true rfl) (And.intro (by decide) ?g1004_k_5))) (fun h22 => (And.intro rfl (And.intro rfl (And.intro ?g1005_i_31 (And.intro (by decide) (And.intro (fun h33 => (And.intro (Nat.le_of_ble_eq_true rfl) (And.intro (by decide) ?g1006_k_5))) (fun h33 => (And.intro rfl (And.intro rfl (And.intro ?g1007_i_42 (And.intro (by decide) (And.intro (fun h44 => (And.intro (Nat.le_of_ble_eq_true rfl) (And.intro (by decide) ?g1008_k_5))) (fun h44 => (And.intro rfl (And.intro rfl (And.intro ?g1009_i_54 (And.intro rfl (And.intro (Nat.le_of_ble_eq_true rfl) (And.intro (Nat.le_of_ble_eq_true rfl) (And.intro ?g1010_c_55 (And.intro (Nat.le_of_ble_eq_true rfl) (And.intro (Nat.le_of_ble_eq_true rfl) (And.intro (by decide) ?g1011_k_5))))))))))))))))))))))))))))))))⟩
    case g1001_w_67 =>
      first | rfl | exact xi_nb
    case g1002_r_67 =>
      obtain rfl := xl_end hc (by omega) hic (by assumption)
      refine ⟨xl_some ?_, rfl⟩
      rw [hc, nI_clamp (by omega)]
    case g1003_i_20 =>
      exact vp_in_nI (Nat.lt_of_lt_of_le (xl_lt hc hic h11) hc20) (by decide)
    case g1004_k_5 =>
      have hlt := xl_lt hc hic h11
      have e1 : (nI i).toNatClampNeg = i := nI_clamp (by omega)
      refine ⟨c - (i + 1), by omega, i + 1, c, hc, hc20, by omega, rfl, rfl, ?_, rfl, rfl, rfl⟩
      rw [nI_succ, xq_o1]
      simp only [e1] at *
      try simp only [xi_0, xi_n0] at *
      first | (rw [xi_wt (by grind [Int32.not_lt, Int32.not_le])]; rfl) | (rw [xi_wf (by grind [Int32.not_lt, Int32.not_le]), xi_or0]; rfl)
    case g1005_i_31 =>
      exact vp_in_nI (Nat.lt_of_lt_of_le (xl_lt hc hic h11) hc20) (by decide)
    case g1006_k_5 =>
      have hlt := xl_lt hc hic h11
      have e1 : (nI i).toNatClampNeg = i := nI_clamp (by omega)
      refine ⟨c - (i + 1), by omega, i + 1, c, hc, hc20, by omega, rfl, rfl, ?_, rfl, rfl, rfl⟩
      rw [nI_succ, xq_o1]
      simp only [e1] at *
      try simp only [xi_0, xi_n0] at *
      first | (rw [xi_wt (by grind [Int32.not_lt, Int32.not_le])]; rfl) | (rw [xi_wf (by grind [Int32.not_lt, Int32.not_le]), xi_or0]; rfl)
    case g1007_i_42 =>
      exact vp_in_nI (Nat.lt_of_lt_of_le (xl_lt hc hic h11) hc20) (by decide)
    case g1008_k_5 =>
      have hlt := xl_lt hc hic h11
      have e1 : (nI i).toNatClampNeg = i := nI_clamp (by omega)
      refine ⟨c - (i + 1), by omega, i + 1, c, hc, hc20, by omega, rfl, rfl, ?_, rfl, rfl, rfl⟩
      rw [nI_succ, xq_o1]
      simp only [e1] at *
      try simp only [xi_0, xi_n0] at *
      first | (rw [xi_wt (by grind [Int32.not_lt, Int32.not_le])]; rfl) | (rw [xi_wf (by grind [Int32.not_lt, Int32.not_le]), xi_or0]; rfl)
    case g1009_i_54 =>
      exact vp_in_nI (Nat.lt_of_lt_of_le (xl_lt hc hic h11) hc20) (by decide)
    case g1010_c_55 =>
      exact ⟨_, rfl⟩
    case g1011_k_5 =>
      have hlt := xl_lt hc hic h11
      have e1 : (nI i).toNatClampNeg = i := nI_clamp (by omega)
      refine ⟨c - (i + 1), by omega, i + 1, c, hc, hc20, by omega, rfl, rfl, ?_, rfl, rfl, rfl⟩
      rw [nI_succ, xq_o1]
      simp only [e1] at *
      try simp only [xi_0, xi_n0] at *
      first | (rw [xi_wt (by grind [Int32.not_lt, Int32.not_le])]; rfl) | (rw [xi_wf (by grind [Int32.not_lt, Int32.not_le]), xi_or0]; rfl)
  · rintro as M ⟨w, d, rfl, ⟨c0, hc0, hc1⟩⟩
    refine ⟨400, (And.intro (Nat.le_of_ble_eq_true rfl) (And.intro (Nat.le_of_ble_eq_true rfl) ?g1_k_5))⟩
    case g1_k_5 =>
      exact ⟨c0 - 0, 0, c0, hc1, hc0, Nat.zero_le _, rfl, rfl, rfl, rfl, rfl, rfl⟩
def pL_engagedOn (as : List Value) (M : xm_M) : Prop := ∃ d : Int32, as = [.ref 6, .int d] ∧ (∃ c, c ≤ 60 ∧ M 6 0 = nI c)
noncomputable def fL_engagedOn (as : List Value) (M : xm_M) : Option Value × xm_M := match as with
  | [_, .int d] => (some (.int (xq_o (fun i => xi_w (M 29 i = d ∧ ¬ M 31 i = -1) (1 <<< (M 31 i &&& 31))) (M 6 0).toNatClampNeg)), M)
  | _ => (none, M)
noncomputable abbrev sL_engagedOn : xm_C := (0, 2, 0, pL_engagedOn, fL_engagedOn)
theorem uL_engagedOn : ∀ as M, (fL_engagedOn as M).2 = M := by
  intro as M
  unfold fL_engagedOn
  split <;> rfl
theorem vL_engagedOn : ∀ as M, pL_engagedOn as M → ∃ as1, as = .ref 6 :: as1 := by
  rintro as M ⟨d, rfl, ⟨c0, hc0, hc1⟩⟩
  exact ⟨_, rfl⟩
noncomputable def tL_engagedOn : List (Nat × xm_C) := [(38, sA_only)]
theorem lL_engagedOn (l : Launch) : ∀ n C, (n, C) ∈ tL_engagedOn → xm_lkS l "AbsenceRows$Calls" xt_T xk_ns (xr_ 1) xk_cl xk_tA n C ∨ xm_lkV l "AbsenceRows$Calls" xt_T xk_ns (xr_ 1) xk_cl xk_tA n C := fun n C h => (show ∀ q ∈ tL_engagedOn, xm_lkS l "AbsenceRows$Calls" xt_T xk_ns (xr_ 1) xk_cl xk_tA q.1 q.2 ∨ xm_lkV l "AbsenceRows$Calls" xt_T xk_ns (xr_ 1) xk_cl xk_tA q.1 q.2 from List.forall_mem_cons.mpr ⟨Or.inl ⟨xy_A_only, xb_A_only, 1, (some .int), xr_ 0, rfl, ⟨xe_A_only, xw_37, ⟨by decide, by decide, by decide +kernel⟩, ⟨Nat.le_of_ble_eq_true rfl, Nat.le_of_ble_eq_true rfl⟩, rfl, rfl⟩, xw_529, Or.inr ⟨"AbsenceRows", xn_13⟩, Or.inl ⟨rfl, uA_only, cA_only l⟩⟩, fun _ h => absurd h List.not_mem_nil⟩) (n, C) h
set_option maxRecDepth 20000 in
set_option maxHeartbeats 2000000 in
theorem cL_engagedOn (l : Launch) : xm_Pu l xy_L_engagedOn (Cond.code xy_L_engagedOn xb_L_engagedOn 4 (some .int) :: xt_T) (xr_ 1) xk_cl xk_ns xk_tA pL_engagedOn fL_engagedOn := by
  refine xm_mk_pu (rt := .int) (fl := xf_L) (ct := tL_engagedOn) (cn := []) (cj := []) (plainFor_of_name (by decide)) xs_L xd_L_engagedOn rfl (Or.inr rfl) (lL_engagedOn l) (fun as M j pc ls st M2 cl => match as with | [_, .int d] => (∃ i c : Nat, M 6 0 = nI c ∧ c ≤ 60 ∧ i ≤ c ∧ j = c - i ∧ pc = 4 ∧ ls = [(0, .ref 6), (1, .int d), (2, .int (xq_o (fun i => xi_w (M 29 i = d ∧ ¬ M 31 i = -1) (1 <<< (M 31 i &&& 31))) i)), (3, .int (nI i))] ∧ st = [] ∧ M2 = M ∧ cl = 0) | _ => False) ?_ ?_ ?_ ?_ ?_
  · rintro as M ⟨d, rfl, ⟨c0, hc0, hc1⟩⟩; exact Nat.le_of_ble_eq_true rfl
  · rintro as M ⟨d, rfl, ⟨c0, hc0, hc1⟩⟩; simp [fL_engagedOn]
  · rintro as M v ⟨d, rfl, ⟨c0, hc0, hc1⟩⟩ h; first | rfl | (simp [fL_engagedOn] at h)
  · rintro as M ⟨d, rfl, ⟨c0, hc0, hc1⟩⟩ j pc ls st M2 cl ⟨i, c, hc, hc20, hic, hj, rfl, rfl, rfl, rfl, rfl⟩
    refine ⟨400, (And.intro rfl (And.intro (by decide) (And.intro (fun h9 => (And.intro ?g1001_w_51 ?g1002_r_51)) (fun h9 => (And.intro rfl (And.intro rfl (And.intro ?g1003_i_17 (And.intro (by decide) (And.intro (fun h19 => (And.intro (Nat.le_of_ble_eq_true rfl) (And.intro (by decide) ?g1004_k_4))) (fun h19 => (And.intro rfl (And.intro rfl (And.intro ?g1005_i_27 (And.intro (by decide) (And.intro (fun h29 => (And.intro (Nat.le_of_ble_eq_true rfl) (And.intro (by decide) ?g1006_k_4))) (fun h29 => (And.intro rfl (And.intro rfl (And.intro ?g1007_i_38 (And.intro rfl (And.intro (Nat.le_of_ble_eq_true rfl) (And.intro (Nat.le_of_ble_eq_true rfl) (And.intro ?g1008_c_39 (And.intro (Nat.le_of_ble_eq_true rfl) (And.intro (Nat.le_of_ble_eq_true rfl) (And.intro (by decide) ?g1009_k_4))))))))))))))))))))))))))⟩
    case g1001_w_51 =>
      first | rfl | exact xi_nb
    case g1002_r_51 =>
      obtain rfl := xl_end hc (by omega) hic (by assumption)
      refine ⟨xl_some ?_, rfl⟩
      rw [hc, nI_clamp (by omega)]
    case g1003_i_17 =>
      exact vp_in_nI (Nat.lt_of_lt_of_le (xl_lt hc hic h9) hc20) (by decide)
    case g1004_k_4 =>
      have hlt := xl_lt hc hic h9
      have e1 : (nI i).toNatClampNeg = i := nI_clamp (by omega)
      refine ⟨c - (i + 1), by omega, i + 1, c, hc, hc20, by omega, rfl, rfl, ?_, rfl, rfl, rfl⟩
      rw [nI_succ, xq_o1]
      simp only [e1] at *
      try simp only [xi_0, xi_n0] at *
      first | (rw [xi_wt (by grind [Int32.not_lt, Int32.not_le])]; rfl) | (rw [xi_wf (by grind [Int32.not_lt, Int32.not_le]), xi_or0]; rfl)
    case g1005_i_27 =>
      exact vp_in_nI (Nat.lt_of_lt_of_le (xl_lt hc hic h9) hc20) (by decide)
    case g1006_k_4 =>
      have hlt := xl_lt hc hic h9
      have e1 : (nI i).toNatClampNeg = i := nI_clamp (by omega)
      refine ⟨c - (i + 1), by omega, i + 1, c, hc, hc20, by omega, rfl, rfl, ?_, rfl, rfl, rfl⟩
      rw [nI_succ, xq_o1]
      simp only [e1] at *
      try simp only [xi_0, xi_n0] at *
      first | (rw [xi_wt (by grind [Int32.not_lt, Int32.not_le])]; rfl) | (rw [xi_wf (by grind [Int32.not_lt, Int32.not_le]), xi_or0]; rfl)
    case g1007_i_38 =>
      exact vp_in_nI (Nat.lt_of_lt_of_le (xl_lt hc hic h9) hc20) (by decide)
    case g1008_c_39 =>
      exact ⟨_, rfl⟩
    case g1009_k_4 =>
      have hlt := xl_lt hc hic h9
      have e1 : (nI i).toNatClampNeg = i := nI_clamp (by omega)
      refine ⟨c - (i + 1), by omega, i + 1, c, hc, hc20, by omega, rfl, rfl, ?_, rfl, rfl, rfl⟩
      rw [nI_succ, xq_o1]
      simp only [e1] at *
      try simp only [xi_0, xi_n0] at *
      first | (rw [xi_wt (by grind [Int32.not_lt, Int32.not_le])]; rfl) | (rw [xi_wf (by grind [Int32.not_lt, Int32.not_le]), xi_or0]; rfl)
  · rintro as M ⟨d, rfl, ⟨c0, hc0, hc1⟩⟩
    refine ⟨400, (And.intro (Nat.le_of_ble_eq_true rfl) (And.intro (Nat.le_of_ble_eq_true rfl) ?g1_k_4))⟩
    case g1_k_4 =>
      exact ⟨c0 - 0, 0, c0, hc1, hc0, Nat.zero_le _, rfl, rfl, rfl, rfl, rfl, rfl⟩
def pL_earliestNextAt (as : List Value) (M : xm_M) : Prop := as = [.ref 6] ∧ (∃ c, c ≤ 60 ∧ M 6 0 = nI c)
noncomputable def fL_earliestNextAt (as : List Value) (M : xm_M) : Option Value × xm_M := match as with
  | [_] => (some (.int (xq_m (M 33) (M 6 0).toNatClampNeg)), M)
  | _ => (none, M)
noncomputable abbrev sL_earliestNextAt : xm_C := (0, 1, 0, pL_earliestNextAt, fL_earliestNextAt)
theorem uL_earliestNextAt : ∀ as M, (fL_earliestNextAt as M).2 = M := by
  intro as M
  unfold fL_earliestNextAt
  split <;> rfl
theorem vL_earliestNextAt : ∀ as M, pL_earliestNextAt as M → ∃ as1, as = .ref 6 :: as1 := by
  rintro as M ⟨rfl, ⟨c0, hc0, hc1⟩⟩
  exact ⟨_, rfl⟩
noncomputable def tL_earliestNextAt : List (Nat × xm_C) := []
theorem lL_earliestNextAt (l : Launch) : ∀ n C, (n, C) ∈ tL_earliestNextAt → xm_lkS l "AbsenceRows$Calls" xt_T xk_ns (xr_ 0) xk_cl xk_tA n C ∨ xm_lkV l "AbsenceRows$Calls" xt_T xk_ns (xr_ 0) xk_cl xk_tA n C := fun n C h => (show ∀ q ∈ tL_earliestNextAt, xm_lkS l "AbsenceRows$Calls" xt_T xk_ns (xr_ 0) xk_cl xk_tA q.1 q.2 ∨ xm_lkV l "AbsenceRows$Calls" xt_T xk_ns (xr_ 0) xk_cl xk_tA q.1 q.2 from fun _ h => absurd h List.not_mem_nil) (n, C) h
set_option maxRecDepth 20000 in
set_option maxHeartbeats 2000000 in
theorem cL_earliestNextAt (l : Launch) : xm_Pu l xy_L_earliestNextAt (Cond.code xy_L_earliestNextAt xb_L_earliestNextAt 3 (some .int) :: xt_T) (xr_ 0) xk_cl xk_ns xk_tA pL_earliestNextAt fL_earliestNextAt := by
  refine xm_mk_pu (rt := .int) (fl := xf_L) (ct := tL_earliestNextAt) (cn := []) (cj := []) (plainFor_of_name (by decide)) xs_L xd_L_earliestNextAt rfl (Or.inr rfl) (lL_earliestNextAt l) (fun as M j pc ls st M2 cl => match as with | [_] => (∃ i c : Nat, M 6 0 = nI c ∧ c ≤ 60 ∧ i ≤ c ∧ j = c - i ∧ pc = 4 ∧ ls = [(0, .ref 6), (1, .int (xq_m (M 33) i)), (2, .int (nI i))] ∧ st = [] ∧ M2 = M ∧ cl = 0) | _ => False) ?_ ?_ ?_ ?_ ?_
  · rintro as M ⟨rfl, ⟨c0, hc0, hc1⟩⟩; exact Nat.le_of_ble_eq_true rfl
  · rintro as M ⟨rfl, ⟨c0, hc0, hc1⟩⟩; simp [fL_earliestNextAt]
  · rintro as M v ⟨rfl, ⟨c0, hc0, hc1⟩⟩ h; first | rfl | (simp [fL_earliestNextAt] at h)
  · rintro as M ⟨rfl, ⟨c0, hc0, hc1⟩⟩ j pc ls st M2 cl ⟨i, c, hc, hc20, hic, hj, rfl, rfl, rfl, rfl, rfl⟩
    refine ⟨400, (And.intro rfl (And.intro (by decide) (And.intro (fun h9 => (And.intro ?g1001_w_51 ?g1002_r_51)) (fun h9 => (And.intro rfl (And.intro rfl (And.intro ?g1003_i_17 (And.intro (by decide) (And.intro (fun h19 => (And.intro (Nat.le_of_ble_eq_true rfl) (And.intro (by decide) ?g1004_k_4))) (fun h19 => (And.intro (by decide) (And.intro (fun h24 => (And.intro rfl (And.intro rfl (And.intro ?g1005_i_42 (And.intro (Nat.le_of_ble_eq_true rfl) (And.intro (Nat.le_of_ble_eq_true rfl) (And.intro (by decide) ?g1006_k_4))))))) (fun h24 => (And.intro rfl (And.intro rfl (And.intro ?g1007_i_32 (And.intro (by decide) (And.intro (fun h34 => (And.intro (Nat.le_of_ble_eq_true rfl) (And.intro (by decide) ?g1008_k_4))) (fun h34 => (And.intro rfl (And.intro rfl (And.intro ?g1009_i_42 (And.intro (Nat.le_of_ble_eq_true rfl) (And.intro (Nat.le_of_ble_eq_true rfl) (And.intro (by decide) ?g1010_k_4)))))))))))))))))))))))))⟩
    case g1001_w_51 =>
      first | rfl | exact xi_nb
    case g1002_r_51 =>
      obtain rfl := xl_end hc (by omega) hic (by assumption)
      refine ⟨xl_some ?_, rfl⟩
      rw [hc, nI_clamp (by omega)]
    case g1003_i_17 =>
      exact vp_in_nI (Nat.lt_of_lt_of_le (xl_lt hc hic h9) hc20) (by decide)
    case g1004_k_4 =>
      have hlt := xl_lt hc hic h9
      have e1 : (nI i).toNatClampNeg = i := nI_clamp (by omega)
      refine ⟨c - (i + 1), by omega, i + 1, c, hc, hc20, by omega, rfl, rfl, ?_, rfl, rfl, rfl⟩
      rw [nI_succ, xq_m1]
      simp only [e1] at *
      first | (rw [xi_xt (by grind [Int32.not_lt, Int32.not_le])]; rfl) | (rw [xi_xf (by grind [Int32.not_lt, Int32.not_le])]; rfl)
    case g1005_i_42 =>
      exact vp_in_nI (Nat.lt_of_lt_of_le (xl_lt hc hic h9) hc20) (by decide)
    case g1006_k_4 =>
      have hlt := xl_lt hc hic h9
      have e1 : (nI i).toNatClampNeg = i := nI_clamp (by omega)
      refine ⟨c - (i + 1), by omega, i + 1, c, hc, hc20, by omega, rfl, rfl, ?_, rfl, rfl, rfl⟩
      rw [nI_succ, xq_m1]
      simp only [e1] at *
      first | (rw [xi_xt (by grind [Int32.not_lt, Int32.not_le])]; rfl) | (rw [xi_xf (by grind [Int32.not_lt, Int32.not_le])]; rfl)
    case g1007_i_32 =>
      exact vp_in_nI (Nat.lt_of_lt_of_le (xl_lt hc hic h9) hc20) (by decide)
    case g1008_k_4 =>
      have hlt := xl_lt hc hic h9
      have e1 : (nI i).toNatClampNeg = i := nI_clamp (by omega)
      refine ⟨c - (i + 1), by omega, i + 1, c, hc, hc20, by omega, rfl, rfl, ?_, rfl, rfl, rfl⟩
      rw [nI_succ, xq_m1]
      simp only [e1] at *
      first | (rw [xi_xt (by grind [Int32.not_lt, Int32.not_le])]; rfl) | (rw [xi_xf (by grind [Int32.not_lt, Int32.not_le])]; rfl)
    case g1009_i_42 =>
      exact vp_in_nI (Nat.lt_of_lt_of_le (xl_lt hc hic h9) hc20) (by decide)
    case g1010_k_4 =>
      have hlt := xl_lt hc hic h9
      have e1 : (nI i).toNatClampNeg = i := nI_clamp (by omega)
      refine ⟨c - (i + 1), by omega, i + 1, c, hc, hc20, by omega, rfl, rfl, ?_, rfl, rfl, rfl⟩
      rw [nI_succ, xq_m1]
      simp only [e1] at *
      first | (rw [xi_xt (by grind [Int32.not_lt, Int32.not_le])]; rfl) | (rw [xi_xf (by grind [Int32.not_lt, Int32.not_le])]; rfl)
  · rintro as M ⟨rfl, ⟨c0, hc0, hc1⟩⟩
    refine ⟨400, (And.intro (Nat.le_of_ble_eq_true rfl) (And.intro (Nat.le_of_ble_eq_true rfl) ?g1_k_4))⟩
    case g1_k_4 =>
      exact ⟨c0 - 0, 0, c0, hc1, hc0, Nat.zero_le _, rfl, rfl, rfl, rfl, rfl, rfl⟩
def pK_overlap (as : List Value) (M : xm_M) : Prop := ∃ p f t : Int32, as = [.ref 4, .int p, .int f, .int t] ∧ (∃ c, c ≤ 80 ∧ M 4 0 = nI c)
noncomputable def fK_overlap (as : List Value) (M : xm_M) : Option Value × xm_M := match as with
  | [_, .int p, .int f, .int t] => (some (.int (xi_b (∃ i, i < (M 4 0).toNatClampNeg ∧ M 18 i = p ∧ ¬ M 23 i = 3 ∧ M 20 i ≤ t ∧ f ≤ M 21 i))), M)
  | _ => (none, M)
noncomputable abbrev sK_overlap : xm_C := (0, 4, 0, pK_overlap, fK_overlap)
theorem uK_overlap : ∀ as M, (fK_overlap as M).2 = M := by
  intro as M
  unfold fK_overlap
  split <;> rfl
theorem vK_overlap : ∀ as M, pK_overlap as M → ∃ as1, as = .ref 4 :: as1 := by
  rintro as M ⟨p, f, t, rfl, ⟨c0, hc0, hc1⟩⟩
  exact ⟨_, rfl⟩
noncomputable def tK_overlap : List (Nat × xm_C) := []
theorem lK_overlap (l : Launch) : ∀ n C, (n, C) ∈ tK_overlap → xm_lkS l "AbsenceRows$Asks" xt_T xk_ns (xr_ 0) xk_cl xk_tA n C ∨ xm_lkV l "AbsenceRows$Asks" xt_T xk_ns (xr_ 0) xk_cl xk_tA n C := fun n C h => (show ∀ q ∈ tK_overlap, xm_lkS l "AbsenceRows$Asks" xt_T xk_ns (xr_ 0) xk_cl xk_tA q.1 q.2 ∨ xm_lkV l "AbsenceRows$Asks" xt_T xk_ns (xr_ 0) xk_cl xk_tA q.1 q.2 from fun _ h => absurd h List.not_mem_nil) (n, C) h
set_option maxRecDepth 20000 in
set_option maxHeartbeats 2000000 in
theorem cK_overlap (l : Launch) : xm_Pu l xy_K_overlap (Cond.code xy_K_overlap xb_K_overlap 5 (some .boolean) :: xt_T) (xr_ 0) xk_cl xk_ns xk_tA pK_overlap fK_overlap := by
  refine xm_mk_pu (rt := .boolean) (fl := xf_K) (ct := tK_overlap) (cn := []) (cj := []) (plainFor_of_name (by decide)) xs_K xd_K_overlap rfl (Or.inr rfl) (lK_overlap l) (fun as M j pc ls st M2 cl => match as with | [_, .int p, .int f, .int t] => (∃ i c : Nat, M 4 0 = nI c ∧ c ≤ 80 ∧ i ≤ c ∧ j = c - i ∧ (∀ k, k < i → ¬ (M 18 k = p ∧ ¬ M 23 k = 3 ∧ M 20 k ≤ t ∧ f ≤ M 21 k)) ∧ pc = 3 ∧ ls = [(0, .ref 4), (1, .int p), (2, .int f), (3, .int t), (4, .int (nI i))] ∧ st = [] ∧ M2 = M ∧ cl = 0) | _ => False) ?_ ?_ ?_ ?_ ?_
  · rintro as M ⟨p, f, t, rfl, ⟨c0, hc0, hc1⟩⟩; exact Nat.le_of_ble_eq_true rfl
  · rintro as M ⟨p, f, t, rfl, ⟨c0, hc0, hc1⟩⟩; simp [fK_overlap]
  · rintro as M v ⟨p, f, t, rfl, ⟨c0, hc0, hc1⟩⟩ h; first | rfl | (simp [fK_overlap] at h)
  · rintro as M ⟨p, f, t, rfl, ⟨c0, hc0, hc1⟩⟩ j pc ls st M2 cl ⟨i, c, hc, hc20, hic, hj, hno, rfl, rfl, rfl, rfl, rfl⟩
    refine ⟨400, (And.intro rfl (And.intro (by decide) (And.intro (fun h9 => (And.intro ?g1001_w_65 ?g1002_r_65)) (fun h9 => (And.intro rfl (And.intro rfl (And.intro ?g1003_i_18 (And.intro (by decide) (And.intro (fun h20 => (And.intro (Nat.le_of_ble_eq_true rfl) (And.intro (by decide) ?g1004_k_3))) (fun h20 => (And.intro rfl (And.intro rfl (And.intro ?g1005_i_29 (And.intro (by decide) (And.intro (fun h31 => (And.intro (Nat.le_of_ble_eq_true rfl) (And.intro (by decide) ?g1006_k_3))) (fun h31 => (And.intro rfl (And.intro rfl (And.intro ?g1007_i_40 (And.intro (by decide) (And.intro (fun h42 => (And.intro (Nat.le_of_ble_eq_true rfl) (And.intro (by decide) ?g1008_k_3))) (fun h42 => (And.intro rfl (And.intro rfl (And.intro ?g1009_i_52 (And.intro (by decide) (And.intro (fun h53 => (And.intro (Nat.le_of_ble_eq_true rfl) (And.intro (by decide) ?g1010_k_3))) (fun h53 => (And.intro ?g1011_w_57 ?g1012_r_57)))))))))))))))))))))))))))))⟩
    case g1001_w_65 =>
      first | rfl | exact xi_nb
    case g1002_r_65 =>
      obtain rfl := xl_end hc (by omega) hic (by assumption)
      refine ⟨xl_some (xi_f ?_).symm, rfl⟩
      rintro ⟨k, hk, hh⟩
      rw [hc, nI_clamp (by omega)] at hk
      exact hno k hk hh
    case g1003_i_18 =>
      exact vp_in_nI (Nat.lt_of_lt_of_le (xl_lt hc hic h9) hc20) (by decide)
    case g1004_k_3 =>
      have hlt := xl_lt hc hic h9
      have e1 : (nI i).toNatClampNeg = i := nI_clamp (by omega)
      refine ⟨c - (i + 1), by omega, i + 1, c, hc, hc20, by omega, rfl, ?_, rfl, ?_, rfl, rfl, rfl⟩
      · intro k hk
        rcases Nat.lt_or_ge k i with q | q
        · exact hno k q
        · obtain rfl : k = i := by omega
          simp only [e1] at *
          grind [Int32.not_lt, Int32.not_le]
      · rw [nI_succ]; rfl
    case g1005_i_29 =>
      exact vp_in_nI (Nat.lt_of_lt_of_le (xl_lt hc hic h9) hc20) (by decide)
    case g1006_k_3 =>
      have hlt := xl_lt hc hic h9
      have e1 : (nI i).toNatClampNeg = i := nI_clamp (by omega)
      refine ⟨c - (i + 1), by omega, i + 1, c, hc, hc20, by omega, rfl, ?_, rfl, ?_, rfl, rfl, rfl⟩
      · intro k hk
        rcases Nat.lt_or_ge k i with q | q
        · exact hno k q
        · obtain rfl : k = i := by omega
          simp only [e1] at *
          grind [Int32.not_lt, Int32.not_le]
      · rw [nI_succ]; rfl
    case g1007_i_40 =>
      exact vp_in_nI (Nat.lt_of_lt_of_le (xl_lt hc hic h9) hc20) (by decide)
    case g1008_k_3 =>
      have hlt := xl_lt hc hic h9
      have e1 : (nI i).toNatClampNeg = i := nI_clamp (by omega)
      refine ⟨c - (i + 1), by omega, i + 1, c, hc, hc20, by omega, rfl, ?_, rfl, ?_, rfl, rfl, rfl⟩
      · intro k hk
        rcases Nat.lt_or_ge k i with q | q
        · exact hno k q
        · obtain rfl : k = i := by omega
          simp only [e1] at *
          grind [Int32.not_lt, Int32.not_le]
      · rw [nI_succ]; rfl
    case g1009_i_52 =>
      exact vp_in_nI (Nat.lt_of_lt_of_le (xl_lt hc hic h9) hc20) (by decide)
    case g1010_k_3 =>
      have hlt := xl_lt hc hic h9
      have e1 : (nI i).toNatClampNeg = i := nI_clamp (by omega)
      refine ⟨c - (i + 1), by omega, i + 1, c, hc, hc20, by omega, rfl, ?_, rfl, ?_, rfl, rfl, rfl⟩
      · intro k hk
        rcases Nat.lt_or_ge k i with q | q
        · exact hno k q
        · obtain rfl : k = i := by omega
          simp only [e1] at *
          grind [Int32.not_lt, Int32.not_le]
      · rw [nI_succ]; rfl
    case g1011_w_57 =>
      first | rfl | exact xi_nb
    case g1012_r_57 =>
      have hlt := xl_lt hc hic h9
      have e1 : (nI i).toNatClampNeg = i := nI_clamp (by omega)
      refine ⟨xl_some (xi_t ⟨i, ?_, ?_⟩).symm, rfl⟩
      · rw [hc, nI_clamp (by omega)]; exact hlt
      · simp only [e1] at *
        grind [Int32.not_lt, Int32.not_le]
  · rintro as M ⟨p, f, t, rfl, ⟨c0, hc0, hc1⟩⟩
    refine ⟨400, (And.intro (Nat.le_of_ble_eq_true rfl) ?g1_k_3)⟩
    case g1_k_3 =>
      exact ⟨c0 - 0, 0, c0, hc1, hc0, Nat.zero_le _, rfl, fun k hk => absurd hk (Nat.not_lt_zero k), rfl, rfl, rfl, rfl, rfl⟩
def pC_workingDays (as : List Value) (M : xm_M) : Prop := ∃ f t : Int32, as = [.ref 1, .int f, .int t] ∧ xv_span f t
noncomputable def fC_workingDays (as : List Value) (M : xm_M) : Option Value × xm_M := match as with
  | [_, .int f, .int t] => (some (.int (xq_s (fun i => xi_w (nI (f.toNatClampNeg + i) - nI (f.toNatClampNeg + i) / 7 * 7 < 5 ∧ M 7 (nI (f.toNatClampNeg + i)).toNatClampNeg = 0) 1) (t.toNatClampNeg + 1 - f.toNatClampNeg))), M)
  | _ => (none, M)
noncomputable abbrev sC_workingDays : xm_C := (0, 3, 0, pC_workingDays, fC_workingDays)
theorem uC_workingDays : ∀ as M, (fC_workingDays as M).2 = M := by
  intro as M
  unfold fC_workingDays
  split <;> rfl
theorem vC_workingDays : ∀ as M, pC_workingDays as M → ∃ as1, as = .ref 1 :: as1 := by
  rintro as M ⟨f, t, rfl, ⟨a0, b0, ha0, hb0, hab0, hb70⟩⟩
  exact ⟨_, rfl⟩
noncomputable def tC_workingDays : List (Nat × xm_C) := [(15, sC_isWorkingDay)]
theorem lC_workingDays (l : Launch) : ∀ n C, (n, C) ∈ tC_workingDays → xm_lkS l "AbsenceRows$Calendar" xt_T xk_ns (xr_ 1) xk_cl xk_tA n C ∨ xm_lkV l "AbsenceRows$Calendar" xt_T xk_ns (xr_ 1) xk_cl xk_tA n C := fun n C h => (show ∀ q ∈ tC_workingDays, xm_lkS l "AbsenceRows$Calendar" xt_T xk_ns (xr_ 1) xk_cl xk_tA q.1 q.2 ∨ xm_lkV l "AbsenceRows$Calendar" xt_T xk_ns (xr_ 1) xk_cl xk_tA q.1 q.2 from List.forall_mem_cons.mpr ⟨Or.inr ⟨xy_C_isWorkingDay, xb_C_isWorkingDay, 2, (some .boolean), xr_ 0, 1, 1, 1, [some 7], xk_T1, 1, rfl, rfl, ⟨xe_C_isWorkingDay, xw_38, ⟨by decide, by decide, by decide +kernel⟩, ⟨Nat.le_of_ble_eq_true rfl, Nat.le_of_ble_eq_true rfl⟩, rfl, rfl⟩, xw_421, xw_422, xw_423, rfl, rfl, vC_isWorkingDay, Or.inl ⟨rfl, uC_isWorkingDay, cC_isWorkingDay l⟩⟩, fun _ h => absurd h List.not_mem_nil⟩) (n, C) h
set_option maxRecDepth 20000 in
set_option maxHeartbeats 2000000 in
theorem cC_workingDays (l : Launch) : xm_Pu l xy_C_workingDays (Cond.code xy_C_workingDays xb_C_workingDays 5 (some .int) :: xt_T) (xr_ 1) xk_cl xk_ns xk_tA pC_workingDays fC_workingDays := by
  refine xm_mk_pu (rt := .int) (fl := xf_C) (ct := tC_workingDays) (cn := []) (cj := []) (plainFor_of_name (by decide)) xs_C xd_C_workingDays rfl (Or.inr rfl) (lC_workingDays l) (fun as M j pc ls st M2 cl => match as with | [_, .int f, .int t] => (∃ i a b : Nat, f = nI a ∧ t = nI b ∧ a ≤ b ∧ b < 730 ∧ i ≤ b + 1 - a ∧ j = b + 1 - a - i ∧ pc = 5 ∧ ls = [(0, .ref 1), (1, .int f), (2, .int t), (3, .int (xq_s (fun i => xi_w (nI (a + i) - nI (a + i) / 7 * 7 < 5 ∧ M 7 (nI (a + i)).toNatClampNeg = 0) 1) i)), (4, .int (nI (a + i)))] ∧ st = [] ∧ M2 = M ∧ cl = 0) | _ => False) ?_ ?_ ?_ ?_ ?_
  · rintro as M ⟨f, t, rfl, ⟨a0, b0, ha0, hb0, hab0, hb70⟩⟩; exact Nat.le_of_ble_eq_true rfl
  · rintro as M ⟨f, t, rfl, ⟨a0, b0, ha0, hb0, hab0, hb70⟩⟩; simp [fC_workingDays]
  · rintro as M v ⟨f, t, rfl, ⟨a0, b0, ha0, hb0, hab0, hb70⟩⟩ h; first | rfl | (simp [fC_workingDays] at h)
  · rintro as M ⟨f, t, rfl, ⟨a0, b0, ha0, hb0, hab0, hb70⟩⟩ j pc ls st M2 cl ⟨i, a, b, ha, hb, hab, hb7, hi, hj, rfl, rfl, rfl, rfl, rfl⟩
    refine ⟨400, (And.intro (by decide) (And.intro (fun h8 => (And.intro ?g1001_w_30 ?g1002_r_30)) (fun h8 => (And.intro rfl (And.intro (Nat.le_of_ble_eq_true rfl) (And.intro (Nat.le_of_ble_eq_true rfl) (And.intro ?g1003_c_14 (And.intro (by decide) (And.intro (fun h17 => (And.intro (Nat.le_of_ble_eq_true rfl) (And.intro (by decide) ?g1004_k_5))) (fun h17 => (And.intro (Nat.le_of_ble_eq_true rfl) (And.intro (Nat.le_of_ble_eq_true rfl) (And.intro (by decide) ?g1005_k_5)))))))))))))⟩
    case g1001_w_30 =>
      first | rfl | exact xi_nb
    case g1002_r_30 =>
      obtain rfl : i = b + 1 - a := xl_de ha hb hb7 hab hi (by assumption)
      refine ⟨xl_some ?_, rfl⟩
      rw [ha, hb, nI_clamp (by omega), nI_clamp (by omega)]
    case g1003_c_14 =>
      exact ⟨_, rfl, xl_d ha hb hb7 h8⟩
    case g1004_k_5 =>
      have hlt := xl_dl ha hb hb7 h8
      have e1 : (nI (a + i)).toNatClampNeg = a + i := nI_clamp (by omega)
      refine ⟨b + 1 - a - (i + 1), by omega, i + 1, a, b, ha, hb, hab, hb7, by omega, rfl, rfl, ?_, rfl, rfl, rfl⟩
      rw [← Nat.add_assoc, nI_succ, xq_s1]
      simp only [e1, xi_0, xi_n0] at *
      first | (rw [xi_wt (by grind [Int32.not_lt, Int32.not_le]), xi_t (by grind [Int32.not_lt, Int32.not_le])]; rfl) | (rw [xi_wt (by grind [Int32.not_lt, Int32.not_le]), xi_f (by grind [Int32.not_lt, Int32.not_le])]; rfl) | (rw [xi_wt (by grind [Int32.not_lt, Int32.not_le])]; rfl) | (rw [xi_wf (by grind [Int32.not_lt, Int32.not_le]), xi_add0]; rfl)
    case g1005_k_5 =>
      have hlt := xl_dl ha hb hb7 h8
      have e1 : (nI (a + i)).toNatClampNeg = a + i := nI_clamp (by omega)
      refine ⟨b + 1 - a - (i + 1), by omega, i + 1, a, b, ha, hb, hab, hb7, by omega, rfl, rfl, ?_, rfl, rfl, rfl⟩
      rw [← Nat.add_assoc, nI_succ, xq_s1]
      simp only [e1, xi_0, xi_n0] at *
      first | (rw [xi_wt (by grind [Int32.not_lt, Int32.not_le]), xi_t (by grind [Int32.not_lt, Int32.not_le])]; rfl) | (rw [xi_wt (by grind [Int32.not_lt, Int32.not_le]), xi_f (by grind [Int32.not_lt, Int32.not_le])]; rfl) | (rw [xi_wt (by grind [Int32.not_lt, Int32.not_le])]; rfl) | (rw [xi_wf (by grind [Int32.not_lt, Int32.not_le]), xi_add0]; rfl)
  · rintro as M ⟨f, t, rfl, ⟨a0, b0, ha0, hb0, hab0, hb70⟩⟩
    refine ⟨400, (And.intro (Nat.le_of_ble_eq_true rfl) (And.intro (Nat.le_of_ble_eq_true rfl) ?g1_k_5))⟩
    case g1_k_5 =>
      refine ⟨b0 + 1 - a0 - 0, 0, a0, b0, ha0, hb0, hab0, hb70, Nat.zero_le _, rfl, rfl, ?_, rfl, rfl, rfl⟩
      rw [ha0, hb0, Nat.add_zero]; rfl
def pC_halfDays (as : List Value) (M : xm_M) : Prop := ∃ f t h : Int32, as = [.ref 1, .int f, .int t, .int h] ∧ xv_span f t
noncomputable def fC_halfDays (as : List Value) (M : xm_M) : Option Value × xm_M := match as with
  | [_, .int f, .int t, .int h] => (some (.int (xq_s (fun i => xi_w (nI (f.toNatClampNeg + i) - nI (f.toNatClampNeg + i) / 7 * 7 < 5 ∧ M 7 (nI (f.toNatClampNeg + i)).toNatClampNeg = 0) (1 + xi_b (¬ ((nI (f.toNatClampNeg + i) = f ∧ ¬ h &&& 1 = 0) ∨ (nI (f.toNatClampNeg + i) = t ∧ ¬ h &&& 2 = 0))))) (t.toNatClampNeg + 1 - f.toNatClampNeg))), M)
  | _ => (none, M)
noncomputable abbrev sC_halfDays : xm_C := (0, 4, 0, pC_halfDays, fC_halfDays)
theorem uC_halfDays : ∀ as M, (fC_halfDays as M).2 = M := by
  intro as M
  unfold fC_halfDays
  split <;> rfl
theorem vC_halfDays : ∀ as M, pC_halfDays as M → ∃ as1, as = .ref 1 :: as1 := by
  rintro as M ⟨f, t, h, rfl, ⟨a0, b0, ha0, hb0, hab0, hb70⟩⟩
  exact ⟨_, rfl⟩
noncomputable def tC_halfDays : List (Nat × xm_C) := [(15, sC_isWorkingDay), (19, sA_isHalf)]
theorem lC_halfDays (l : Launch) : ∀ n C, (n, C) ∈ tC_halfDays → xm_lkS l "AbsenceRows$Calendar" xt_T xk_ns (xr_ 1) xk_cl xk_tA n C ∨ xm_lkV l "AbsenceRows$Calendar" xt_T xk_ns (xr_ 1) xk_cl xk_tA n C := fun n C h => (show ∀ q ∈ tC_halfDays, xm_lkS l "AbsenceRows$Calendar" xt_T xk_ns (xr_ 1) xk_cl xk_tA q.1 q.2 ∨ xm_lkV l "AbsenceRows$Calendar" xt_T xk_ns (xr_ 1) xk_cl xk_tA q.1 q.2 from List.forall_mem_cons.mpr ⟨Or.inr ⟨xy_C_isWorkingDay, xb_C_isWorkingDay, 2, (some .boolean), xr_ 0, 1, 1, 1, [some 7], xk_T1, 1, rfl, rfl, ⟨xe_C_isWorkingDay, xw_38, ⟨by decide, by decide, by decide +kernel⟩, ⟨Nat.le_of_ble_eq_true rfl, Nat.le_of_ble_eq_true rfl⟩, rfl, rfl⟩, xw_421, xw_422, xw_423, rfl, rfl, vC_isWorkingDay, Or.inl ⟨rfl, uC_isWorkingDay, cC_isWorkingDay l⟩⟩, List.forall_mem_cons.mpr ⟨Or.inl ⟨xy_A_isHalf, xb_A_isHalf, 4, (some .boolean), xr_ 0, rfl, ⟨xe_A_isHalf, xw_37, ⟨by decide, by decide, by decide +kernel⟩, ⟨Nat.le_of_ble_eq_true rfl, Nat.le_of_ble_eq_true rfl⟩, rfl, rfl⟩, xw_426, Or.inr ⟨"AbsenceRows", xn_7⟩, Or.inl ⟨rfl, uA_isHalf, cA_isHalf l⟩⟩, fun _ h => absurd h List.not_mem_nil⟩⟩) (n, C) h
set_option maxRecDepth 20000 in
set_option maxHeartbeats 2000000 in
theorem cC_halfDays (l : Launch) : xm_Pu l xy_C_halfDays (Cond.code xy_C_halfDays xb_C_halfDays 6 (some .int) :: xt_T) (xr_ 1) xk_cl xk_ns xk_tA pC_halfDays fC_halfDays := by
  refine xm_mk_pu (rt := .int) (fl := xf_C) (ct := tC_halfDays) (cn := []) (cj := []) (plainFor_of_name (by decide)) xs_C xd_C_halfDays rfl (Or.inr rfl) (lC_halfDays l) (fun as M j pc ls st M2 cl => match as with | [_, .int f, .int t, .int h] => (∃ i a b : Nat, f = nI a ∧ t = nI b ∧ a ≤ b ∧ b < 730 ∧ i ≤ b + 1 - a ∧ j = b + 1 - a - i ∧ pc = 6 ∧ ls = [(0, .ref 1), (1, .int f), (2, .int t), (3, .int h), (4, .int (xq_s (fun i => xi_w (nI (a + i) - nI (a + i) / 7 * 7 < 5 ∧ M 7 (nI (a + i)).toNatClampNeg = 0) (1 + xi_b (¬ ((nI (a + i) = f ∧ ¬ h &&& 1 = 0) ∨ (nI (a + i) = t ∧ ¬ h &&& 2 = 0))))) i)), (5, .int (nI (a + i)))] ∧ st = [] ∧ M2 = M ∧ cl = 0) | _ => False) ?_ ?_ ?_ ?_ ?_
  · rintro as M ⟨f, t, h, rfl, ⟨a0, b0, ha0, hb0, hab0, hb70⟩⟩; exact Nat.le_of_ble_eq_true rfl
  · rintro as M ⟨f, t, h, rfl, ⟨a0, b0, ha0, hb0, hab0, hb70⟩⟩; simp [fC_halfDays]
  · rintro as M v ⟨f, t, h, rfl, ⟨a0, b0, ha0, hb0, hab0, hb70⟩⟩ h; first | rfl | (simp [fC_halfDays] at h)
  · rintro as M ⟨f, t, h, rfl, ⟨a0, b0, ha0, hb0, hab0, hb70⟩⟩ j pc ls st M2 cl ⟨i, a, b, ha, hb, hab, hb7, hi, hj, rfl, rfl, rfl, rfl, rfl⟩
    refine ⟨400, (And.intro (by decide) (And.intro (fun h9 => (And.intro ?g1001_w_50 ?g1002_r_50)) (fun h9 => (And.intro rfl (And.intro (Nat.le_of_ble_eq_true rfl) (And.intro (Nat.le_of_ble_eq_true rfl) (And.intro ?g1003_c_15 (And.intro (by decide) (And.intro (fun h18 => (And.intro (Nat.le_of_ble_eq_true rfl) (And.intro (by decide) ?g1004_k_6))) (fun h18 => (And.intro rfl (And.intro (Nat.le_of_ble_eq_true rfl) (And.intro (Nat.le_of_ble_eq_true rfl) (And.intro ?g1005_c_28 (And.intro (by decide) (And.intro (fun h31 => (And.intro (Nat.le_of_ble_eq_true rfl) (And.intro (Nat.le_of_ble_eq_true rfl) (And.intro (by decide) ?g1006_k_6)))) (fun h31 => (And.intro (by decide) (And.intro (Nat.le_of_ble_eq_true rfl) (And.intro (Nat.le_of_ble_eq_true rfl) (And.intro (by decide) ?g1007_k_6)))))))))))))))))))))⟩
    case g1001_w_50 =>
      first | rfl | exact xi_nb
    case g1002_r_50 =>
      obtain rfl : i = b + 1 - a := xl_de ha hb hb7 hab hi (by assumption)
      refine ⟨xl_some ?_, rfl⟩
      rw [ha, hb, nI_clamp (by omega), nI_clamp (by omega)]
    case g1003_c_15 =>
      exact ⟨_, rfl, xl_d ha hb hb7 h9⟩
    case g1004_k_6 =>
      have hlt := xl_dl ha hb hb7 h9
      have e1 : (nI (a + i)).toNatClampNeg = a + i := nI_clamp (by omega)
      refine ⟨b + 1 - a - (i + 1), by omega, i + 1, a, b, ha, hb, hab, hb7, by omega, rfl, rfl, ?_, rfl, rfl, rfl⟩
      rw [← Nat.add_assoc, nI_succ, xq_s1]
      simp only [e1, xi_0, xi_n0] at *
      first | (rw [xi_wt (by grind [Int32.not_lt, Int32.not_le]), xi_t (by grind [Int32.not_lt, Int32.not_le])]; rfl) | (rw [xi_wt (by grind [Int32.not_lt, Int32.not_le]), xi_f (by grind [Int32.not_lt, Int32.not_le])]; rfl) | (rw [xi_wt (by grind [Int32.not_lt, Int32.not_le])]; rfl) | (rw [xi_wf (by grind [Int32.not_lt, Int32.not_le]), xi_add0]; rfl)
    case g1005_c_28 =>
      exact ⟨_, _, _, _, rfl⟩
    case g1006_k_6 =>
      have hlt := xl_dl ha hb hb7 h9
      have e1 : (nI (a + i)).toNatClampNeg = a + i := nI_clamp (by omega)
      refine ⟨b + 1 - a - (i + 1), by omega, i + 1, a, b, ha, hb, hab, hb7, by omega, rfl, rfl, ?_, rfl, rfl, rfl⟩
      rw [← Nat.add_assoc, nI_succ, xq_s1]
      simp only [e1, xi_0, xi_n0] at *
      first | (rw [xi_wt (by grind [Int32.not_lt, Int32.not_le]), xi_t (by grind [Int32.not_lt, Int32.not_le])]; rfl) | (rw [xi_wt (by grind [Int32.not_lt, Int32.not_le]), xi_f (by grind [Int32.not_lt, Int32.not_le])]; rfl) | (rw [xi_wt (by grind [Int32.not_lt, Int32.not_le])]; rfl) | (rw [xi_wf (by grind [Int32.not_lt, Int32.not_le]), xi_add0]; rfl)
    case g1007_k_6 =>
      have hlt := xl_dl ha hb hb7 h9
      have e1 : (nI (a + i)).toNatClampNeg = a + i := nI_clamp (by omega)
      refine ⟨b + 1 - a - (i + 1), by omega, i + 1, a, b, ha, hb, hab, hb7, by omega, rfl, rfl, ?_, rfl, rfl, rfl⟩
      rw [← Nat.add_assoc, nI_succ, xq_s1]
      simp only [e1, xi_0, xi_n0] at *
      first | (rw [xi_wt (by grind [Int32.not_lt, Int32.not_le]), xi_t (by grind [Int32.not_lt, Int32.not_le])]; rfl) | (rw [xi_wt (by grind [Int32.not_lt, Int32.not_le]), xi_f (by grind [Int32.not_lt, Int32.not_le])]; rfl) | (rw [xi_wt (by grind [Int32.not_lt, Int32.not_le])]; rfl) | (rw [xi_wf (by grind [Int32.not_lt, Int32.not_le]), xi_add0]; rfl)
  · rintro as M ⟨f, t, h, rfl, ⟨a0, b0, ha0, hb0, hab0, hb70⟩⟩
    refine ⟨400, (And.intro (Nat.le_of_ble_eq_true rfl) (And.intro (Nat.le_of_ble_eq_true rfl) ?g1_k_6))⟩
    case g1_k_6 =>
      refine ⟨b0 + 1 - a0 - 0, 0, a0, b0, ha0, hb0, hab0, hb70, Nat.zero_le _, rfl, rfl, ?_, rfl, rfl, rfl⟩
      rw [ha0, hb0, Nat.add_zero]; rfl
