/-! NUMBERS for loops: folds, counters -/
noncomputable def xi_w (c : Prop) (v : Int32) : Int32 := @ite Int32 c (Classical.propDecidable c) v 0
theorem xi_wt {c : Prop} {v : Int32} (h : c) : xi_w c v = v := by simp [xi_w, h]
theorem xi_wf {c : Prop} {v : Int32} (h : ¬ c) : xi_w c v = 0 := by simp [xi_w, h]
def xq_s (g : Nat → Int32) : Nat → Int32
  | 0 => 0
  | n + 1 => xq_s g n + g n
def xq_o (g : Nat → Int32) : Nat → Int32
  | 0 => 0
  | n + 1 => xq_o g n ||| g n
theorem xq_s1 (g : Nat → Int32) (n : Nat) : xq_s g (n + 1) = xq_s g n + g n := rfl
theorem xq_o1 (g : Nat → Int32) (n : Nat) : xq_o g (n + 1) = xq_o g n ||| g n := rfl
theorem xi_or0 (x : Int32) : x ||| 0 = x := by
  apply Int32.toBitVec_inj.mp
  simp
theorem xl_lt {x : Int32} {c i : Nat} (hx : x = nI c) (hi : i ≤ c) (h : ¬ x ≤ nI i) : i < c := by
  rcases Nat.lt_or_ge i c with q | q
  · exact q
  · have e : i = c := by omega
    exact absurd (by rw [hx, e]; exact Int32.le_refl _) h
theorem xl_end {x : Int32} {c i : Nat} (hx : x = nI c) (hc : c < 2 ^ 31) (hi : i ≤ c) (h : x ≤ nI i) : i = c := by
  rcases Nat.lt_or_ge i c with q | q
  · exact absurd (by rw [← hx]; exact h) (nI_ge q hc)
  · omega
theorem xl_ls2 {a b c d : Int32} {x y : Value} {s t : Nat} {r : List (Nat × Value)} (h1 : a = c) (h2 : b = d) : ((s, Value.int a) :: (t, Value.int b) :: r) = ((s, Value.int c) :: (t, Value.int d) :: r) := by rw [h1, h2]
theorem xl_some {a b : Int32} (h : a = b) : some (Value.int a) = some (Value.int b) := by rw [h]
def pP_thereOn (as : List Value) (M : xm_M) : Prop := ∃ d : Int32, as = [.ref 2, .int d] ∧ (∃ c, c ≤ 20 ∧ M 2 0 = nI c)
noncomputable def fP_thereOn (as : List Value) (M : xm_M) : Option Value × xm_M := match as with
  | [_, .int d] => (some (.int (xq_o (fun i => xi_w (M 10 i ≤ d) (1 <<< (nI i &&& 31))) (M 2 0).toNatClampNeg)), M)
  | _ => (none, M)
noncomputable abbrev sP_thereOn : xm_C := (0, 2, 0, pP_thereOn, fP_thereOn)
theorem uP_thereOn : ∀ as M, (fP_thereOn as M).2 = M := by
  intro as M
  unfold fP_thereOn
  split <;> rfl
theorem vP_thereOn : ∀ as M, pP_thereOn as M → ∃ as1, as = .ref 2 :: as1 := by
  rintro as M ⟨d, rfl, ⟨c0, hc0, hc1⟩⟩
  exact ⟨_, rfl⟩
noncomputable def tP_thereOn : List (Nat × xm_C) := [(50, sA_only)]
theorem lP_thereOn (l : Launch) : ∀ n C, (n, C) ∈ tP_thereOn → xm_lkS l "AbsenceRows$Persons" xt_T xk_ns (xr_ 1) xk_cl xk_tA n C ∨ xm_lkV l "AbsenceRows$Persons" xt_T xk_ns (xr_ 1) xk_cl xk_tA n C := fun n C h => (show ∀ q ∈ tP_thereOn, xm_lkS l "AbsenceRows$Persons" xt_T xk_ns (xr_ 1) xk_cl xk_tA q.1 q.2 ∨ xm_lkV l "AbsenceRows$Persons" xt_T xk_ns (xr_ 1) xk_cl xk_tA q.1 q.2 from List.forall_mem_cons.mpr ⟨Or.inl ⟨xy_A_only, xb_A_only, 1, (some .int), xr_ 0, rfl, ⟨xe_A_only, xw_37, ⟨by decide, by decide, by decide +kernel⟩, ⟨Nat.le_of_ble_eq_true rfl, Nat.le_of_ble_eq_true rfl⟩, rfl, rfl⟩, xw_529, Or.inr ⟨"AbsenceRows", xn_10⟩, Or.inl ⟨rfl, uA_only, cA_only l⟩⟩, fun _ h => absurd h List.not_mem_nil⟩) (n, C) h
set_option maxRecDepth 20000 in
set_option maxHeartbeats 2000000 in
theorem cP_thereOn (l : Launch) : xm_Pu l xy_P_thereOn (Cond.code xy_P_thereOn xb_P_thereOn 4 (some .int) :: xt_T) (xr_ 1) xk_cl xk_ns xk_tA pP_thereOn fP_thereOn := by
  refine xm_mk_pu (rt := .int) (fl := xf_P) (ct := tP_thereOn) (cn := []) (cj := []) (plainFor_of_name (by decide)) xs_P xd_P_thereOn rfl (Or.inr rfl) (lP_thereOn l) (fun as M j pc ls st M2 cl => match as with | [_, .int d] => (∃ i c : Nat, M 2 0 = nI c ∧ c ≤ 20 ∧ i ≤ c ∧ j = c - i ∧ pc = 4 ∧ ls = [(0, .ref 2), (1, .int d), (2, .int (xq_o (fun i => xi_w (M 10 i ≤ d) (1 <<< (nI i &&& 31))) i)), (3, .int (nI i))] ∧ st = [] ∧ M2 = M ∧ cl = 0) | _ => False) ?_ ?_ ?_ ?_ ?_
  · rintro as M ⟨d, rfl, ⟨c0, hc0, hc1⟩⟩; exact Nat.le_of_ble_eq_true rfl
  · rintro as M ⟨d, rfl, ⟨c0, hc0, hc1⟩⟩; simp [fP_thereOn]
  · rintro as M v ⟨d, rfl, ⟨c0, hc0, hc1⟩⟩ h; first | rfl | (simp [fP_thereOn] at h)
  · rintro as M ⟨d, rfl, ⟨c0, hc0, hc1⟩⟩ j pc ls st M2 cl ⟨i, c, hc, hc20, hic, hj, rfl, rfl, rfl, rfl, rfl⟩
    refine ⟨400, (And.intro rfl (And.intro (by decide) (And.intro (fun h9 => (And.intro ?g1001_w_36 ?g1002_r_36)) (fun h9 => (And.intro rfl (And.intro rfl (And.intro ?g1003_i_17 (And.intro (by decide) (And.intro (fun h19 => (And.intro (Nat.le_of_ble_eq_true rfl) (And.intro (by decide) ?g1004_k_4))) (fun h19 => (And.intro rfl (And.intro (Nat.le_of_ble_eq_true rfl) (And.intro (Nat.le_of_ble_eq_true rfl) (And.intro ?g1005_c_24 (And.intro (Nat.le_of_ble_eq_true rfl) (And.intro (Nat.le_of_ble_eq_true rfl) (And.intro (by decide) ?g1006_k_4)))))))))))))))))⟩
    case g1001_w_36 =>
      first | rfl | exact xi_nb
    case g1002_r_36 =>
      obtain rfl := xl_end hc (by omega) hic (by assumption)
      refine ⟨xl_some ?_, rfl⟩
      rw [hc, nI_clamp (by omega)]
    case g1003_i_17 =>
      exact vp_in_nI (Nat.lt_of_lt_of_le (xl_lt hc hic h9) hc20) (by decide)
    case g1004_k_4 =>
      have hlt := xl_lt hc hic h9
      have e1 : (nI i).toNatClampNeg = i := nI_clamp (by omega)
      refine ⟨c - (i + 1), by omega, i + 1, c, hc, hc20, by omega, rfl, rfl, ?_, rfl, rfl, rfl⟩
      rw [nI_succ, xq_o1]
      simp only [e1] at *
      first | (rw [xi_wt (by grind [Int32.not_lt, Int32.not_le])]; rfl) | (rw [xi_wf (by grind [Int32.not_lt, Int32.not_le]), xi_or0]; rfl)
    case g1005_c_24 =>
      exact ⟨_, rfl⟩
    case g1006_k_4 =>
      have hlt := xl_lt hc hic h9
      have e1 : (nI i).toNatClampNeg = i := nI_clamp (by omega)
      refine ⟨c - (i + 1), by omega, i + 1, c, hc, hc20, by omega, rfl, rfl, ?_, rfl, rfl, rfl⟩
      rw [nI_succ, xq_o1]
      simp only [e1] at *
      first | (rw [xi_wt (by grind [Int32.not_lt, Int32.not_le])]; rfl) | (rw [xi_wf (by grind [Int32.not_lt, Int32.not_le]), xi_or0]; rfl)
  · rintro as M ⟨d, rfl, ⟨c0, hc0, hc1⟩⟩
    refine ⟨400, (And.intro (Nat.le_of_ble_eq_true rfl) (And.intro (Nat.le_of_ble_eq_true rfl) ?g1_k_4))⟩
    case g1_k_4 =>
      exact ⟨c0 - 0, 0, c0, hc1, hc0, Nat.zero_le _, rfl, rfl, rfl, rfl, rfl, rfl⟩
