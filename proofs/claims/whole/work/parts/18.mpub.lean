/-! THE MODEL's further public methods -/
theorem yl_cadd {M : xm_M} {w d x : Int32} (hw : vp_in w 6) (hJ : xv_J M) (hr : vp_in (M 0 28) 60) : vp_in (M 0 28 + 1 - 1) 60 ∧ vp_in ((xm_up (xm_up (xm_up (xm_up (xm_up M 0 0 x) 22 (M 0 28).toNatClampNeg w) 23 (M 0 28).toNatClampNeg d) 25 (M 0 28).toNatClampNeg (-1)) 0 28 (M 0 28 + 1)) 22 (M 0 28 + 1 - 1).toNatClampNeg) 6 ∧ xv_n (M 0 3) 20 ∧ xv_n (M 0 16) 81 ∧ xv_n (M 0 28 + 1) 60 := by
  have e1 : M 0 28 + 1 - 1 = M 0 28 := by simp
  rw [e1]
  refine ⟨hr, ?_, hJ.P, hJ.A1, ?_⟩
  · have e2 : (xm_up (xm_up (xm_up (xm_up (xm_up M 0 0 x) 22 (M 0 28).toNatClampNeg w) 23 (M 0 28).toNatClampNeg d) 25 (M 0 28).toNatClampNeg (-1)) 0 28 (M 0 28 + 1)) 22 (M 0 28).toNatClampNeg = w := by simp [xm_up]
    rw [e2]; exact hw
  · obtain ⟨c, hc, h1⟩ := vp_in_of hr (by decide)
    refine ⟨c + 1, by omega, ?_⟩
    rw [nI_succ, ← h1]
/-- one hour's turn of the calls -/
noncomputable def ym_go (M : xm_M) : Nat → Int32 × xm_M
  | 0 => (0, M)
  | n + 1 => @ite (Int32 × xm_M) ((ym_go M n).2 24 n = 0 ∧ (ym_go M n).2 27 n ≤ (ym_go M n).2 0 1) (Classical.propDecidable _) ((ym_go M n).1 + 1, ym_nx (ym_go M n).2 (nI n)) (ym_go M n)
theorem ym_go1t {M : xm_M} {n : Nat} (h : (ym_go M n).2 24 n = 0 ∧ (ym_go M n).2 27 n ≤ (ym_go M n).2 0 1) : ym_go M (n + 1) = ((ym_go M n).1 + 1, ym_nx (ym_go M n).2 (nI n)) := if_pos h
theorem ym_go1f {M : xm_M} {n : Nat} (h : ¬ ((ym_go M n).2 24 n = 0 ∧ (ym_go M n).2 27 n ≤ (ym_go M n).2 0 1)) : ym_go M (n + 1) = ym_go M n := if_neg h
noncomputable def ym_h (s : Int32 × xm_M) : Int32 × xm_M := (s.1 + (ym_go (xm_up s.2 0 1 (s.2 0 1 + 1)) (s.2 0 28).toNatClampNeg).1, (ym_go (xm_up s.2 0 1 (s.2 0 1 + 1)) (s.2 0 28).toNatClampNeg).2)
noncomputable def ym_tk (M : xm_M) : Nat → Int32 × xm_M
  | 0 => (0, M)
  | n + 1 => ym_h (ym_tk M n)
/-- places that the calls' turns leave as they are -/
def yv_s (M N : xm_M) : Prop := ∀ p, p ≠ 7 → p ≠ 24 → p ≠ 25 → p ≠ 26 → p ≠ 27 → p ≠ 28 → N p = M p
theorem yv_s.rf (M : xm_M) : yv_s M M := fun _ _ _ _ _ _ _ => rfl
theorem yv_s.tr {M N O : xm_M} (h : yv_s M N) (g : yv_s N O) : yv_s M O := fun p a b c d e f => (g p a b c d e f).trans (h p a b c d e f)
theorem yv_s.nx (M : xm_M) (k : Int32) : yv_s M (ym_nx M k) := by
  intro p a b c d e f
  unfold ym_nx ym_n3
  by_cases h : ym_bk M k < 0
  · rw [if_pos h, xm_up_ne e, xm_up_ne b, xm_up_ne c]
  · rw [if_neg h, xm_up_ne a, xm_up_ne d, xm_up_ne f, xm_up_ne e, xm_up_ne b, xm_up_ne c]
theorem yv_s.J {M N : xm_M} (h : yv_s M N) (hJ : xv_J M) : xv_J N := by
  unfold xv_J at *
  rw [h 0, h 14, h 15, h 12, h 22] <;> first | exact hJ | decide
theorem ym_go_s (M : xm_M) : ∀ n, yv_s M (ym_go M n).2
  | 0 => yv_s.rf M
  | n + 1 => by
    by_cases h : (ym_go M n).2 24 n = 0 ∧ (ym_go M n).2 27 n ≤ (ym_go M n).2 0 1
    · rw [ym_go1t h]; exact (ym_go_s M n).tr (yv_s.nx _ _)
    · rw [ym_go1f h]; exact ym_go_s M n
theorem ym_tk_J {M : xm_M} (hJ : xv_J M) : ∀ n, xv_J (ym_tk M n).2 ∧ (ym_tk M n).2 0 28 = M 0 28
  | 0 => ⟨hJ, rfl⟩
  | n + 1 => by
    obtain ⟨h1, h2⟩ := ym_tk_J hJ n
    have h3 := ym_go_s (xm_up (ym_tk M n).2 0 1 ((ym_tk M n).2 0 1 + 1)) ((ym_tk M n).2 0 28).toNatClampNeg
    refine ⟨h3.J h1, ?_⟩
    have h4 := congrFun (h3 0 (by decide) (by decide) (by decide) (by decide) (by decide) (by decide)) 28
    exact h4.trans h2
noncomputable def ym_ab (x : Int64) : Int64 := ym_xj (x < 0) (-x) x
noncomputable def ym_gd (M : xm_M) (p y : Int32) : Nat := Nat.gcd (ym_ab (ym_ro M p y)).toInt.toNat (730 * M 6 p.toNatClampNeg).toInt64.toInt.toNat
theorem yl_n {k : Nat} (h : k < 2 ^ 63) : (lN k).toInt.toNat = k := by
  have e := Int64.toInt_ofNat_of_lt h
  show (Int64.ofNat k).toInt.toNat = k
  rw [e]; rfl
theorem yl_of {x : Int64} (h : 0 ≤ x.toInt) : ∃ k, k < 2 ^ 63 ∧ x = lN k := by
  refine pk_lOf ?_
  rw [Int64.lt_iff_toInt_lt]
  have e0 : (0 : Int64).toInt = 0 := rfl
  omega
/-- asks: a day of it is one of another; whether it may be -/
def ym_hit (M : xm_M) (p f t : Int32) (u : Nat) : Prop := M 12 u = p ∧ ¬ M 17 u = 3 ∧ f ≤ M 15 u ∧ M 14 u ≤ t
def ym_kp (M : xm_M) (p k : Int32) : Prop := (0 ≤ p ∧ p ≤ M 0 3 - 1) ∧ (0 ≤ k ∧ k ≤ 2)
def ym_rg (f t h : Int32) : Prop := (0 ≤ f ∧ f ≤ 729) ∧ (0 ≤ t ∧ t ≤ 729) ∧ f ≤ t ∧ f / 365 = t / 365 ∧ (0 ≤ h ∧ h ≤ 3) ∧ (f < t ∨ h < 3)
def ym_r0 (M : xm_M) (p k f t h : Int32) (n : Nat) : Prop := (ym_kp M p k ∧ ym_rg f t h) ∧ ∀ u, u < n → ¬ ym_hit M p f t u
noncomputable def ym_mp (M : xm_M) (p k f t h : Int32) : xm_M := (fM_put [.ref 0, .int p, .int k, .int f, .int t, .int h] M).2
noncomputable def ym_mq (M : xm_M) (p k f t h : Int32) : xm_M := @ite xm_M (ym_r0 M p k f t h (M 0 16).toNatClampNeg ∧ k = 0) (Classical.propDecidable _) (xm_up (ym_mp M p k f t h) 0 16 (M 0 16 + 1 - 1)) M
def ym_ri (M : xm_M) (p k f t h : Int32) : Prop := ym_r0 M p k f t h (M 0 16).toNatClampNeg ∧ (k = 0 → ym_en (ym_mp M p k f t h) p)
theorem ym_mq16 (M : xm_M) (p k f t h : Int32) : ym_mq M p k f t h 0 16 = M 0 16 := by
  unfold ym_mq
  by_cases hz : ym_r0 M p k f t h (M 0 16).toNatClampNeg ∧ k = 0
  · rw [if_pos hz]
    have e1 : (xm_up (ym_mp M p k f t h) 0 16 (M 0 16 + 1 - 1)) 0 16 = M 0 16 + 1 - 1 := by simp [xm_up]
    rw [e1]; simp
  · rw [if_neg hz]
theorem yl_put {M : xm_M} (hJ : xv_J M) (p k f t h : Int32) (hs : xv_span f t) : xv_B (ym_mp M p k f t h) := by
  obtain ⟨c, hc, h1⟩ := hJ.A
  refine ⟨c + 1, by omega, ?_, ?_⟩
  · rw [nI_succ, ← h1]; rfl
  · intro i hi
    have e1 : (M 0 16).toNatClampNeg = c := by rw [h1, nI_clamp (by omega)]
    rcases Nat.lt_or_ge i c with q | q
    · have e2 : ym_mp M p k f t h 14 i = M 14 i := by
        have : i ≠ c := by omega
        simp [ym_mp, fM_put, xm_up, e1, this]
      have e3 : ym_mp M p k f t h 15 i = M 15 i := by
        have : i ≠ c := by omega
        simp [ym_mp, fM_put, xm_up, e1, this]
      rw [e2, e3]
      exact (hJ.2.2.2.2.2.1 i (by rw [e1]; exact q)).1
    · have e4 : i = c := by omega
      subst e4
      have e2 : ym_mp M p k f t h 14 i = f := by simp [ym_mp, fM_put, xm_up, e1]
      have e3 : ym_mp M p k f t h 15 i = t := by simp [ym_mp, fM_put, xm_up, e1]
      rw [e2, e3]; exact hs
theorem yl_rb {M : xm_M} {p u d : Int32} : xm_up (xm_up (xm_up (xm_up M 5 p.toNatClampNeg u) 6 p.toNatClampNeg d) 5 p.toNatClampNeg (M 5 p.toNatClampNeg)) 6 p.toNatClampNeg (M 6 p.toNatClampNeg) = M := by
  funext a b
  simp only [xm_up]
  split
  · next h => subst h; split
              · next h2 => subst h2; rfl
              · simp
  · split
    · next h => subst h; split
                · next h2 => subst h2; rfl
                · rfl
    · rfl
theorem yl_rb2 {M : xm_M} {p : Int32} : xm_up (xm_up M 5 p.toNatClampNeg (M 5 p.toNatClampNeg)) 6 p.toNatClampNeg (M 6 p.toNatClampNeg) = M := by
  have e1 := xm_up_id M 5 p.toNatClampNeg
  rw [e1, xm_up_id]
theorem yl_y1 {y : Int32} (h : 0 ≤ y ∧ y ≤ 1) : y = 0 ∨ y = 1 := by
  obtain ⟨h1, h2⟩ := h
  rw [Int32.le_iff_toInt_le] at h1 h2
  have e0 : (0 : Int32).toInt = 0 := rfl
  have e1 : (1 : Int32).toInt = 1 := rfl
  rcases (show y.toInt = 0 ∨ y.toInt = 1 by omega) with q | q
  · exact Or.inl (Int32.toInt_inj.mp (q.trans e0.symm))
  · exact Or.inr (Int32.toInt_inj.mp (q.trans e1.symm))
def pM_call (as : List Value) (M : xm_M) : Prop := ∃ w d : Int32, as = [.ref 0, .int w, .int d] ∧ xv_J M
noncomputable def fM_call (as : List Value) (M : xm_M) : Option Value × xm_M := match as with
  | [_, .int w, .int d] => (some (.int (xi_x (xg_n (xi_b ((0 ≤ w ∧ w ≤ M 0 12 - 1))) (xi_b ((0 ≤ d ∧ d ≤ 729) ∧ M 0 1 / 24 ≤ d)) 1 (xi_b (M 0 28 < 60)) = 0) ((ym_nx (xm_up (xm_up (xm_up (xm_up (xm_up M 0 0 (xq_t 11 (xg_n (xi_b ((0 ≤ w ∧ w ≤ M 0 12 - 1))) (xi_b ((0 ≤ d ∧ d ≤ 729) ∧ M 0 1 / 24 ≤ d)) 1 (xi_b (M 0 28 < 60))))) 22 (M 0 28).toNatClampNeg w) 23 (M 0 28).toNatClampNeg d) 25 (M 0 28).toNatClampNeg (-1)) 0 28 (M 0 28 + 1)) (M 0 28 + 1 - 1)) 0 28 - 1) 0)), @ite xm_M (xg_n (xi_b ((0 ≤ w ∧ w ≤ M 0 12 - 1))) (xi_b ((0 ≤ d ∧ d ≤ 729) ∧ M 0 1 / 24 ≤ d)) 1 (xi_b (M 0 28 < 60)) = 0) (Classical.propDecidable _) (ym_nx (xm_up (xm_up (xm_up (xm_up (xm_up M 0 0 (xq_t 11 (xg_n (xi_b ((0 ≤ w ∧ w ≤ M 0 12 - 1))) (xi_b ((0 ≤ d ∧ d ≤ 729) ∧ M 0 1 / 24 ≤ d)) 1 (xi_b (M 0 28 < 60))))) 22 (M 0 28).toNatClampNeg w) 23 (M 0 28).toNatClampNeg d) 25 (M 0 28).toNatClampNeg (-1)) 0 28 (M 0 28 + 1)) (M 0 28 + 1 - 1)) (xm_up M 0 0 (xq_t 11 (xg_n (xi_b ((0 ≤ w ∧ w ≤ M 0 12 - 1))) (xi_b ((0 ≤ d ∧ d ≤ 729) ∧ M 0 1 / 24 ≤ d)) 1 (xi_b (M 0 28 < 60))))))
  | _ => (none, M)
noncomputable abbrev sM_call : xm_C := (0, 3, 1, pM_call, fM_call)
theorem vM_call : ∀ as M, pM_call as M → ∃ as1, as = .ref 0 :: as1 := by
  rintro as M ⟨w, d, rfl, hpre⟩
  exact ⟨_, rfl⟩
noncomputable def tM_call : List (Nat × xm_C) := [(157, sM_isCrew), (112, sM_isDay), (116, sM_goes), (198, sM_asksNext)]
theorem lM_call (l : Launch) : ∀ n C, (n, C) ∈ tM_call → xm_lkS l "AbsenceRowsModel" xt_T xk_ns (xr_ 3) xk_cl xk_tM n C ∨ xm_lkV l "AbsenceRowsModel" xt_T xk_ns (xr_ 3) xk_cl xk_tM n C := fun n C h => (show ∀ q ∈ tM_call, xm_lkS l "AbsenceRowsModel" xt_T xk_ns (xr_ 3) xk_cl xk_tM q.1 q.2 ∨ xm_lkV l "AbsenceRowsModel" xt_T xk_ns (xr_ 3) xk_cl xk_tM q.1 q.2 from List.forall_mem_cons.mpr ⟨Or.inr ⟨xy_M_isCrew, xb_M_isCrew, 2, (some .boolean), xr_ 1, 1, 0, 7, [none, none, some 1, none, some 2, some 3, some 4, some 5, some 6, some 7, some 8, none, none, some 9, some 10, some 11, none, some 12, some 13, some 14, some 15, some 16, some 17, some 18, none, some 19, some 20, some 21, none, some 22, some 23, some 24, some 25, some 26, some 27, some 28, none], xk_T7, 37, rfl, rfl, ⟨xe_M_isCrew, xw_44, ⟨by decide, by decide, by decide +kernel⟩, ⟨Nat.le_of_ble_eq_true rfl, Nat.le_of_ble_eq_true rfl⟩, rfl, rfl⟩, xw_994, xw_996, xw_24, rfl, rfl, vM_isCrew, Or.inl ⟨rfl, uM_isCrew, cM_isCrew l⟩⟩, List.forall_mem_cons.mpr ⟨Or.inl ⟨xy_M_isDay, xb_M_isDay, 1, (some .boolean), xr_ 1, rfl, ⟨xe_M_isDay, xw_44, ⟨by decide, by decide, by decide +kernel⟩, ⟨Nat.le_of_ble_eq_true rfl, Nat.le_of_ble_eq_true rfl⟩, rfl, rfl⟩, xw_930, Or.inl xw_929, Or.inl ⟨rfl, uM_isDay, cM_isDay l⟩⟩, List.forall_mem_cons.mpr ⟨Or.inr ⟨xy_M_goes, xb_M_goes, 8, (some .boolean), xr_ 0, 5, 0, 7, [none, none, some 1, none, some 2, some 3, some 4, some 5, some 6, some 7, some 8, none, none, some 9, some 10, some 11, none, some 12, some 13, some 14, some 15, some 16, some 17, some 18, none, some 19, some 20, some 21, none, some 22, some 23, some 24, some 25, some 26, some 27, some 28, none], xk_T7, 37, rfl, rfl, ⟨xe_M_goes, xw_44, ⟨by decide, by decide, by decide +kernel⟩, ⟨Nat.le_of_ble_eq_true rfl, Nat.le_of_ble_eq_true rfl⟩, rfl, rfl⟩, xw_932, xw_934, xw_15, rfl, rfl, vM_goes, Or.inr ⟨rfl, cM_goes l⟩⟩, List.forall_mem_cons.mpr ⟨Or.inr ⟨xy_M_asksNext, xb_M_asksNext, 5, none, xr_ 2, 1, 0, 7, [none, none, some 1, none, some 2, some 3, some 4, some 5, some 6, some 7, some 8, none, none, some 9, some 10, some 11, none, some 12, some 13, some 14, some 15, some 16, some 17, some 18, none, some 19, some 20, some 21, none, some 22, some 23, some 24, some 25, some 26, some 27, some 28, none], xk_T7, 37, rfl, rfl, ⟨xe_M_asksNext, xw_44, ⟨by decide, by decide, by decide +kernel⟩, ⟨Nat.le_of_ble_eq_true rfl, Nat.le_of_ble_eq_true rfl⟩, rfl, rfl⟩, xw_1070, xw_1072, xw_32, rfl, rfl, vM_asksNext, Or.inr ⟨rfl, cM_asksNext l⟩⟩, fun _ h => absurd h List.not_mem_nil⟩⟩⟩⟩) (n, C) h
set_option maxRecDepth 20000 in
set_option maxHeartbeats 2000000 in
theorem cM_call (l : Launch) : xm_Wr l xy_M_call (Cond.code xy_M_call xb_M_call 3 (some .int) :: xt_T) (xr_ 3) xk_cl xk_ns xk_tM pM_call fM_call := by
  refine xm_mk_wr (rt := .int) (fl := xf_M) (ct := tM_call) (cn := []) (cj := xj_M) (plainFor_of_name (by decide)) xs_M xd_M_call rfl (Or.inr rfl) (lM_call l) (fun as M j pc ls st M2 cl => match as with | [_, .int w, .int d] => (j = 1000000 ∧ pc = 46 ∧ ls = [(0, .ref 0), (1, .int w), (2, .int d)] ∧ st = [.int (xi_b (M 0 28 < 60)), .int 1, .int (xi_b ((0 ≤ d ∧ d ≤ 729) ∧ M 0 1 / 24 ≤ d)), .int (xi_b ((0 ≤ w ∧ w ≤ M 0 12 - 1))), .int 11, .ref 0] ∧ M2 = M) | _ => False) ?_ ?_ ?_ ?_ ?_
  · rintro as M ⟨w, d, rfl, hpre⟩; exact Nat.le_of_ble_eq_true rfl
  · rintro as M ⟨w, d, rfl, hpre⟩; simp [fM_call]
  · rintro as M v ⟨w, d, rfl, hpre⟩ h; first | rfl | (simp [fM_call] at h)
  · rintro as M ⟨w, d, rfl, hpre⟩ j pc ls st M2 cl ⟨hj, rfl, rfl, rfl, rfl⟩
    refine ⟨400, (And.intro rfl (And.intro (Nat.le_of_ble_eq_true rfl) (And.intro (Nat.le_of_ble_eq_true rfl) (And.intro ?g1001_c_46 (And.intro (by decide) (And.intro (fun h49 => (And.intro rfl (And.intro rfl (And.intro rfl (And.intro ?g1002_i_63 (And.intro rfl (And.intro rfl (And.intro rfl (And.intro ?g1003_i_73 (And.intro rfl (And.intro rfl (And.intro rfl (And.intro ?g1004_i_83 (And.intro rfl (And.intro rfl (And.intro rfl (And.intro rfl (And.intro rfl (And.intro (Nat.le_of_ble_eq_true rfl) (And.intro (Nat.le_of_ble_eq_true rfl) (And.intro ?g1005_c_101 (And.intro rfl (And.intro ?g1006_w_110 ?g1007_r_110))))))))))))))))))))))) (fun h49 => (And.intro ?g1008_w_53 ?g1009_r_53))))))))⟩
    case g1001_c_46 =>
      exact ⟨_, _, _, _, _, rfl⟩
    case g1002_i_63 =>
      exact xl_room (by decide) rfl hpre.L (Int32.not_le.mpr (xi_n0.mp (xg_0 (xi_n0.mp h49)).2.2.2))
    case g1003_i_73 =>
      exact xl_room (by decide) rfl hpre.L (Int32.not_le.mpr (xi_n0.mp (xg_0 (xi_n0.mp h49)).2.2.2))
    case g1004_i_83 =>
      exact xl_room (by decide) rfl hpre.L (Int32.not_le.mpr (xi_n0.mp (xg_0 (xi_n0.mp h49)).2.2.2))
    case g1005_c_101 =>
      exact ⟨_, rfl, yl_cadd (M := M2) (w := w) (d := d) (x := xq_t 11 (xg_n (xi_b ((0 ≤ w ∧ w ≤ M2 0 12 - 1))) (xi_b ((0 ≤ d ∧ d ≤ 729) ∧ M2 0 1 / 24 ≤ d)) 1 (xi_b (M2 0 28 < 60)))) (xl_has (by decide) hpre.W (xi_n0.mp (xg_0 (xi_n0.mp h49)).1)) hpre (xl_room (by decide) rfl hpre.L (Int32.not_le.mpr (xi_n0.mp (xg_0 (xi_n0.mp h49)).2.2.2)))⟩
    case g1006_w_110 =>
      first | rfl | exact xi_nb
    case g1007_r_110 =>
      exact ⟨xl_some (xi_xt (xi_n0.mp h49)).symm, (if_pos (xi_n0.mp h49)).symm⟩
    case g1008_w_53 =>
      first | rfl | exact xi_nb
    case g1009_r_53 =>
      exact ⟨xl_some (xi_xf (xi_0.mp h49)).symm, (if_neg (xi_0.mp h49)).symm⟩
  · rintro as M ⟨w, d, rfl, hpre⟩
    refine ⟨400, (And.intro rfl (And.intro (Nat.le_of_ble_eq_true rfl) (And.intro (Nat.le_of_ble_eq_true rfl) (And.intro ?g1_c_5 (And.intro rfl (And.intro (Nat.le_of_ble_eq_true rfl) (And.intro (Nat.le_of_ble_eq_true rfl) (And.intro ?g2_c_9 (And.intro (by decide) (And.intro (fun h12 => (And.intro rfl (And.intro (by decide) (And.intro (fun h38 => ?g3_k_46) (fun h38 => (And.intro (by decide) ?g4_k_46)))))) (fun h12 => (And.intro rfl (And.intro ?g5_n_22 (And.intro (by decide) (And.intro (fun h23 => (And.intro rfl (And.intro (by decide) (And.intro (fun h38 => ?g6_k_46) (fun h38 => (And.intro (by decide) ?g7_k_46)))))) (fun h23 => (And.intro (by decide) (And.intro rfl (And.intro (by decide) (And.intro (fun h38 => ?g8_k_46) (fun h38 => (And.intro (by decide) ?g9_k_46))))))))))))))))))))))⟩
    case g1_c_5 =>
      exact ⟨_, rfl⟩
    case g2_c_9 =>
      exact ⟨_, rfl⟩
    case g3_k_46 =>
      refine ⟨1000000, ⟨rfl, rfl, rfl, ?_, rfl⟩⟩
      rcases Classical.em ((0 ≤ d ∧ d ≤ 729) ∧ M 0 1 / 24 ≤ d) with z0 | z0 <;> rcases Classical.em (M 0 28 < 60) with z1 | z1 <;> (first | rw [xi_t z0] | rw [xi_f z0] | skip) <;> (first | rw [xi_t z1] | rw [xi_f z1] | skip) <;> (first | rfl | (exfalso; simp only [xi_0, xi_n0] at *; grind [Int32.not_lt, Int32.not_le]))
    case g4_k_46 =>
      refine ⟨1000000, ⟨rfl, rfl, rfl, ?_, rfl⟩⟩
      rcases Classical.em ((0 ≤ d ∧ d ≤ 729) ∧ M 0 1 / 24 ≤ d) with z0 | z0 <;> rcases Classical.em (M 0 28 < 60) with z1 | z1 <;> (first | rw [xi_t z0] | rw [xi_f z0] | skip) <;> (first | rw [xi_t z1] | rw [xi_f z1] | skip) <;> (first | rfl | (exfalso; simp only [xi_0, xi_n0] at *; grind [Int32.not_lt, Int32.not_le]))
    case g5_n_22 =>
      decide
    case g6_k_46 =>
      refine ⟨1000000, ⟨rfl, rfl, rfl, ?_, rfl⟩⟩
      rcases Classical.em ((0 ≤ d ∧ d ≤ 729) ∧ M 0 1 / 24 ≤ d) with z0 | z0 <;> rcases Classical.em (M 0 28 < 60) with z1 | z1 <;> (first | rw [xi_t z0] | rw [xi_f z0] | skip) <;> (first | rw [xi_t z1] | rw [xi_f z1] | skip) <;> (first | rfl | (exfalso; simp only [xi_0, xi_n0] at *; grind [Int32.not_lt, Int32.not_le]))
    case g7_k_46 =>
      refine ⟨1000000, ⟨rfl, rfl, rfl, ?_, rfl⟩⟩
      rcases Classical.em ((0 ≤ d ∧ d ≤ 729) ∧ M 0 1 / 24 ≤ d) with z0 | z0 <;> rcases Classical.em (M 0 28 < 60) with z1 | z1 <;> (first | rw [xi_t z0] | rw [xi_f z0] | skip) <;> (first | rw [xi_t z1] | rw [xi_f z1] | skip) <;> (first | rfl | (exfalso; simp only [xi_0, xi_n0] at *; grind [Int32.not_lt, Int32.not_le]))
    case g8_k_46 =>
      refine ⟨1000000, ⟨rfl, rfl, rfl, ?_, rfl⟩⟩
      rcases Classical.em ((0 ≤ d ∧ d ≤ 729) ∧ M 0 1 / 24 ≤ d) with z0 | z0 <;> rcases Classical.em (M 0 28 < 60) with z1 | z1 <;> (first | rw [xi_t z0] | rw [xi_f z0] | skip) <;> (first | rw [xi_t z1] | rw [xi_f z1] | skip) <;> (first | rfl | (exfalso; simp only [xi_0, xi_n0] at *; grind [Int32.not_lt, Int32.not_le]))
    case g9_k_46 =>
      refine ⟨1000000, ⟨rfl, rfl, rfl, ?_, rfl⟩⟩
      rcases Classical.em ((0 ≤ d ∧ d ≤ 729) ∧ M 0 1 / 24 ≤ d) with z0 | z0 <;> rcases Classical.em (M 0 28 < 60) with z1 | z1 <;> (first | rw [xi_t z0] | rw [xi_f z0] | skip) <;> (first | rw [xi_t z1] | rw [xi_f z1] | skip) <;> (first | rfl | (exfalso; simp only [xi_0, xi_n0] at *; grind [Int32.not_lt, Int32.not_le]))
def pM_answer (as : List Value) (M : xm_M) : Prop := ∃ k b : Int32, as = [.ref 0, .int k, .int b] ∧ xv_J M
noncomputable def fM_answer (as : List Value) (M : xm_M) : Option Value × xm_M := match as with
  | [_, .int k, .int b] => (some (.int (xi_x (xg_n (xi_b ((0 ≤ k ∧ k ≤ M 0 28 - 1))) 1 (xi_b ((0 ≤ k ∧ k ≤ M 0 28 - 1) ∧ M 24 k.toNatClampNeg = 0)) 1 = 0) ((@ite xm_M (b = 0) (Classical.propDecidable _) (ym_nx (xm_up M 0 0 (xq_t 5 (xg_n (xi_b ((0 ≤ k ∧ k ≤ M 0 28 - 1))) 1 (xi_b ((0 ≤ k ∧ k ≤ M 0 28 - 1) ∧ M 24 k.toNatClampNeg = 0)) 1))) k) (xm_up (xm_up (xm_up M 0 0 (xq_t 5 (xg_n (xi_b ((0 ≤ k ∧ k ≤ M 0 28 - 1))) 1 (xi_b ((0 ≤ k ∧ k ≤ M 0 28 - 1) ∧ M 24 k.toNatClampNeg = 0)) 1))) 24 k.toNatClampNeg 1) 27 k.toNatClampNeg (-1))) 24 k.toNatClampNeg) 0)), @ite xm_M (xg_n (xi_b ((0 ≤ k ∧ k ≤ M 0 28 - 1))) 1 (xi_b ((0 ≤ k ∧ k ≤ M 0 28 - 1) ∧ M 24 k.toNatClampNeg = 0)) 1 = 0) (Classical.propDecidable _) ((@ite xm_M (b = 0) (Classical.propDecidable _) (ym_nx (xm_up M 0 0 (xq_t 5 (xg_n (xi_b ((0 ≤ k ∧ k ≤ M 0 28 - 1))) 1 (xi_b ((0 ≤ k ∧ k ≤ M 0 28 - 1) ∧ M 24 k.toNatClampNeg = 0)) 1))) k) (xm_up (xm_up (xm_up M 0 0 (xq_t 5 (xg_n (xi_b ((0 ≤ k ∧ k ≤ M 0 28 - 1))) 1 (xi_b ((0 ≤ k ∧ k ≤ M 0 28 - 1) ∧ M 24 k.toNatClampNeg = 0)) 1))) 24 k.toNatClampNeg 1) 27 k.toNatClampNeg (-1)))) (xm_up M 0 0 (xq_t 5 (xg_n (xi_b ((0 ≤ k ∧ k ≤ M 0 28 - 1))) 1 (xi_b ((0 ≤ k ∧ k ≤ M 0 28 - 1) ∧ M 24 k.toNatClampNeg = 0)) 1))))
  | _ => (none, M)
noncomputable abbrev sM_answer : xm_C := (0, 3, 1, pM_answer, fM_answer)
theorem vM_answer : ∀ as M, pM_answer as M → ∃ as1, as = .ref 0 :: as1 := by
  rintro as M ⟨k, b, rfl, hpre⟩
  exact ⟨_, rfl⟩
noncomputable def tM_answer : List (Nat × xm_C) := [(202, sM_isCall), (116, sM_goes), (198, sM_asksNext)]
theorem lM_answer (l : Launch) : ∀ n C, (n, C) ∈ tM_answer → xm_lkS l "AbsenceRowsModel" xt_T xk_ns (xr_ 3) xk_cl xk_tM n C ∨ xm_lkV l "AbsenceRowsModel" xt_T xk_ns (xr_ 3) xk_cl xk_tM n C := fun n C h => (show ∀ q ∈ tM_answer, xm_lkS l "AbsenceRowsModel" xt_T xk_ns (xr_ 3) xk_cl xk_tM q.1 q.2 ∨ xm_lkV l "AbsenceRowsModel" xt_T xk_ns (xr_ 3) xk_cl xk_tM q.1 q.2 from List.forall_mem_cons.mpr ⟨Or.inr ⟨xy_M_isCall, xb_M_isCall, 2, (some .boolean), xr_ 1, 1, 0, 7, [none, none, some 1, none, some 2, some 3, some 4, some 5, some 6, some 7, some 8, none, none, some 9, some 10, some 11, none, some 12, some 13, some 14, some 15, some 16, some 17, some 18, none, some 19, some 20, some 21, none, some 22, some 23, some 24, some 25, some 26, some 27, some 28, none], xk_T7, 37, rfl, rfl, ⟨xe_M_isCall, xw_44, ⟨by decide, by decide, by decide +kernel⟩, ⟨Nat.le_of_ble_eq_true rfl, Nat.le_of_ble_eq_true rfl⟩, rfl, rfl⟩, xw_1086, xw_1088, xw_35, rfl, rfl, vM_isCall, Or.inl ⟨rfl, uM_isCall, cM_isCall l⟩⟩, List.forall_mem_cons.mpr ⟨Or.inr ⟨xy_M_goes, xb_M_goes, 8, (some .boolean), xr_ 0, 5, 0, 7, [none, none, some 1, none, some 2, some 3, some 4, some 5, some 6, some 7, some 8, none, none, some 9, some 10, some 11, none, some 12, some 13, some 14, some 15, some 16, some 17, some 18, none, some 19, some 20, some 21, none, some 22, some 23, some 24, some 25, some 26, some 27, some 28, none], xk_T7, 37, rfl, rfl, ⟨xe_M_goes, xw_44, ⟨by decide, by decide, by decide +kernel⟩, ⟨Nat.le_of_ble_eq_true rfl, Nat.le_of_ble_eq_true rfl⟩, rfl, rfl⟩, xw_932, xw_934, xw_15, rfl, rfl, vM_goes, Or.inr ⟨rfl, cM_goes l⟩⟩, List.forall_mem_cons.mpr ⟨Or.inr ⟨xy_M_asksNext, xb_M_asksNext, 5, none, xr_ 2, 1, 0, 7, [none, none, some 1, none, some 2, some 3, some 4, some 5, some 6, some 7, some 8, none, none, some 9, some 10, some 11, none, some 12, some 13, some 14, some 15, some 16, some 17, some 18, none, some 19, some 20, some 21, none, some 22, some 23, some 24, some 25, some 26, some 27, some 28, none], xk_T7, 37, rfl, rfl, ⟨xe_M_asksNext, xw_44, ⟨by decide, by decide, by decide +kernel⟩, ⟨Nat.le_of_ble_eq_true rfl, Nat.le_of_ble_eq_true rfl⟩, rfl, rfl⟩, xw_1070, xw_1072, xw_32, rfl, rfl, vM_asksNext, Or.inr ⟨rfl, cM_asksNext l⟩⟩, fun _ h => absurd h List.not_mem_nil⟩⟩⟩) (n, C) h
set_option maxRecDepth 20000 in
set_option maxHeartbeats 2000000 in
theorem cM_answer (l : Launch) : xm_Wr l xy_M_answer (Cond.code xy_M_answer xb_M_answer 3 (some .int) :: xt_T) (xr_ 3) xk_cl xk_ns xk_tM pM_answer fM_answer := by
  refine xm_mk_wr (rt := .int) (fl := xf_M) (ct := tM_answer) (cn := []) (cj := xj_M) (plainFor_of_name (by decide)) xs_M xd_M_answer rfl (Or.inr rfl) (lM_answer l) (fun as M j pc ls st M2 cl => match as with | [_, .int k, .int b] => (j = 1000000 ∧ pc = 31 ∧ ls = [(0, .ref 0), (1, .int k), (2, .int b)] ∧ st = [.int 1, .int (xi_b ((0 ≤ k ∧ k ≤ M 0 28 - 1) ∧ M 24 k.toNatClampNeg = 0)), .int 1, .int (xi_b ((0 ≤ k ∧ k ≤ M 0 28 - 1))), .int 5, .ref 0] ∧ M2 = M) | _ => False) ?_ ?_ ?_ ?_ ?_
  · rintro as M ⟨k, b, rfl, hpre⟩; exact Nat.le_of_ble_eq_true rfl
  · rintro as M ⟨k, b, rfl, hpre⟩; simp [fM_answer]
  · rintro as M v ⟨k, b, rfl, hpre⟩ h; first | rfl | (simp [fM_answer] at h)
  · rintro as M ⟨k, b, rfl, hpre⟩ j pc ls st M2 cl ⟨hj, rfl, rfl, rfl, rfl⟩
    refine ⟨400, (And.intro rfl (And.intro (Nat.le_of_ble_eq_true rfl) (And.intro (Nat.le_of_ble_eq_true rfl) (And.intro ?g1001_c_31 (And.intro (by decide) (And.intro (fun h34 => (And.intro (by decide) (And.intro (fun h40 => (And.intro rfl (And.intro (Nat.le_of_ble_eq_true rfl) (And.intro (Nat.le_of_ble_eq_true rfl) (And.intro ?g1002_c_62 (And.intro rfl (And.intro rfl (And.intro ?g1003_i_70 (And.intro ?g1004_w_71 ?g1005_r_71))))))))) (fun h40 => (And.intro rfl (And.intro rfl (And.intro ?g1006_i_49 (And.intro rfl (And.intro rfl (And.intro ?g1007_i_56 (And.intro (by decide) (And.intro rfl (And.intro rfl (And.intro ?g1008_i_70 (And.intro ?g1009_w_71 ?g1010_r_71))))))))))))))) (fun h34 => (And.intro ?g1011_w_38 ?g1012_r_38))))))))⟩
    case g1001_c_31 =>
      exact ⟨_, _, _, _, _, rfl⟩
    case g1002_c_62 =>
      exact ⟨_, rfl, xl_has (by decide) hpre.L (xi_n0.mp (xg_0 (xi_n0.mp h34)).1), hpre.c (xi_n0.mp (xg_0 (xi_n0.mp h34)).1), hpre.P, hpre.A1, hpre.L⟩
    case g1003_i_70 =>
      exact xl_has (by decide) hpre.L (xi_n0.mp (xg_0 (xi_n0.mp h34)).1)
    case g1004_w_71 =>
      first | rfl | exact xi_nb
    case g1005_r_71 =>
      refine ⟨xl_some (Eq.trans ?_ (xi_xt (xi_n0.mp h34)).symm), Eq.trans ?_ (if_pos (xi_n0.mp h34)).symm⟩
      · first | (rw [if_pos h40]; rfl) | (rw [if_neg h40]; rfl)
      · first | (rw [if_pos h40]; rfl) | (rw [if_neg h40]; rfl)
    case g1006_i_49 =>
      exact xl_has (by decide) hpre.L (xi_n0.mp (xg_0 (xi_n0.mp h34)).1)
    case g1007_i_56 =>
      exact xl_has (by decide) hpre.L (xi_n0.mp (xg_0 (xi_n0.mp h34)).1)
    case g1008_i_70 =>
      exact xl_has (by decide) hpre.L (xi_n0.mp (xg_0 (xi_n0.mp h34)).1)
    case g1009_w_71 =>
      first | rfl | exact xi_nb
    case g1010_r_71 =>
      refine ⟨xl_some (Eq.trans ?_ (xi_xt (xi_n0.mp h34)).symm), Eq.trans ?_ (if_pos (xi_n0.mp h34)).symm⟩
      · first | (rw [if_pos h40]; rfl) | (rw [if_neg h40]; rfl)
      · first | (rw [if_pos h40]; rfl) | (rw [if_neg h40]; rfl)
    case g1011_w_38 =>
      first | rfl | exact xi_nb
    case g1012_r_38 =>
      exact ⟨xl_some (xi_xf (xi_0.mp h34)).symm, (if_neg (xi_0.mp h34)).symm⟩
  · rintro as M ⟨k, b, rfl, hpre⟩
    refine ⟨400, (And.intro rfl (And.intro (Nat.le_of_ble_eq_true rfl) (And.intro (Nat.le_of_ble_eq_true rfl) (And.intro ?g1_c_4 (And.intro rfl (And.intro (Nat.le_of_ble_eq_true rfl) (And.intro (Nat.le_of_ble_eq_true rfl) (And.intro ?g2_c_10 (And.intro (by decide) (And.intro (fun h13 => ?g3_k_31) (fun h13 => (And.intro rfl (And.intro rfl (And.intro ?g4_i_21 (And.intro (by decide) (And.intro (fun h22 => ?g5_k_31) (fun h22 => (And.intro (by decide) ?g6_k_31))))))))))))))))))⟩
    case g1_c_4 =>
      exact ⟨_, rfl⟩
    case g2_c_10 =>
      exact ⟨_, rfl⟩
    case g3_k_31 =>
      refine ⟨1000000, ⟨rfl, rfl, rfl, ?_, rfl⟩⟩
      rcases Classical.em ((0 ≤ k ∧ k ≤ M 0 28 - 1) ∧ M 24 k.toNatClampNeg = 0) with z0 | z0 <;> (first | rw [xi_t z0] | rw [xi_f z0] | skip) <;> (first | rfl | (exfalso; simp only [xi_0, xi_n0] at *; grind [Int32.not_lt, Int32.not_le]))
    case g4_i_21 =>
      exact xl_has (by decide) hpre.L (xi_n0.mp h13)
    case g5_k_31 =>
      refine ⟨1000000, ⟨rfl, rfl, rfl, ?_, rfl⟩⟩
      rcases Classical.em ((0 ≤ k ∧ k ≤ M 0 28 - 1) ∧ M 24 k.toNatClampNeg = 0) with z0 | z0 <;> (first | rw [xi_t z0] | rw [xi_f z0] | skip) <;> (first | rfl | (exfalso; simp only [xi_0, xi_n0] at *; grind [Int32.not_lt, Int32.not_le]))
    case g6_k_31 =>
      refine ⟨1000000, ⟨rfl, rfl, rfl, ?_, rfl⟩⟩
      rcases Classical.em ((0 ≤ k ∧ k ≤ M 0 28 - 1) ∧ M 24 k.toNatClampNeg = 0) with z0 | z0 <;> (first | rw [xi_t z0] | rw [xi_f z0] | skip) <;> (first | rfl | (exfalso; simp only [xi_0, xi_n0] at *; grind [Int32.not_lt, Int32.not_le]))
def pM_tick (as : List Value) (M : xm_M) : Prop := ∃ u : Int32, as = [.ref 0, .int u] ∧ xv_J M
noncomputable def fM_tick (as : List Value) (M : xm_M) : Option Value × xm_M := match as with
  | [_, .int u] => (some (.int (xi_x (xg_n 1 (xi_b ((1 ≤ u ∧ u ≤ 2000) ∧ u ≤ 17519 - M 0 1)) 1 1 = 0) (ym_tk (xm_up M 0 0 (xq_t 2 (xg_n 1 (xi_b ((1 ≤ u ∧ u ≤ 2000) ∧ u ≤ 17519 - M 0 1)) 1 1))) u.toNatClampNeg).1 0)), @ite xm_M (xg_n 1 (xi_b ((1 ≤ u ∧ u ≤ 2000) ∧ u ≤ 17519 - M 0 1)) 1 1 = 0) (Classical.propDecidable _) (ym_tk (xm_up M 0 0 (xq_t 2 (xg_n 1 (xi_b ((1 ≤ u ∧ u ≤ 2000) ∧ u ≤ 17519 - M 0 1)) 1 1))) u.toNatClampNeg).2 (xm_up M 0 0 (xq_t 2 (xg_n 1 (xi_b ((1 ≤ u ∧ u ≤ 2000) ∧ u ≤ 17519 - M 0 1)) 1 1))))
  | _ => (none, M)
noncomputable abbrev sM_tick : xm_C := (0, 2, 1, pM_tick, fM_tick)
theorem vM_tick : ∀ as M, pM_tick as M → ∃ as1, as = .ref 0 :: as1 := by
  rintro as M ⟨u, rfl, hpre⟩
  exact ⟨_, rfl⟩
noncomputable def tM_tick : List (Nat × xm_C) := [(102, sM_in), (116, sM_goes), (198, sM_asksNext)]
theorem lM_tick (l : Launch) : ∀ n C, (n, C) ∈ tM_tick → xm_lkS l "AbsenceRowsModel" xt_T xk_ns (xr_ 3) xk_cl xk_tM n C ∨ xm_lkV l "AbsenceRowsModel" xt_T xk_ns (xr_ 3) xk_cl xk_tM n C := fun n C h => (show ∀ q ∈ tM_tick, xm_lkS l "AbsenceRowsModel" xt_T xk_ns (xr_ 3) xk_cl xk_tM q.1 q.2 ∨ xm_lkV l "AbsenceRowsModel" xt_T xk_ns (xr_ 3) xk_cl xk_tM q.1 q.2 from List.forall_mem_cons.mpr ⟨Or.inl ⟨xy_M_in, xb_M_in, 3, (some .boolean), xr_ 0, rfl, ⟨xe_M_in, xw_44, ⟨by decide, by decide, by decide +kernel⟩, ⟨Nat.le_of_ble_eq_true rfl, Nat.le_of_ble_eq_true rfl⟩, rfl, rfl⟩, xw_927, Or.inl xw_926, Or.inl ⟨rfl, uM_in, cM_in l⟩⟩, List.forall_mem_cons.mpr ⟨Or.inr ⟨xy_M_goes, xb_M_goes, 8, (some .boolean), xr_ 0, 5, 0, 7, [none, none, some 1, none, some 2, some 3, some 4, some 5, some 6, some 7, some 8, none, none, some 9, some 10, some 11, none, some 12, some 13, some 14, some 15, some 16, some 17, some 18, none, some 19, some 20, some 21, none, some 22, some 23, some 24, some 25, some 26, some 27, some 28, none], xk_T7, 37, rfl, rfl, ⟨xe_M_goes, xw_44, ⟨by decide, by decide, by decide +kernel⟩, ⟨Nat.le_of_ble_eq_true rfl, Nat.le_of_ble_eq_true rfl⟩, rfl, rfl⟩, xw_932, xw_934, xw_15, rfl, rfl, vM_goes, Or.inr ⟨rfl, cM_goes l⟩⟩, List.forall_mem_cons.mpr ⟨Or.inr ⟨xy_M_asksNext, xb_M_asksNext, 5, none, xr_ 2, 1, 0, 7, [none, none, some 1, none, some 2, some 3, some 4, some 5, some 6, some 7, some 8, none, none, some 9, some 10, some 11, none, some 12, some 13, some 14, some 15, some 16, some 17, some 18, none, some 19, some 20, some 21, none, some 22, some 23, some 24, some 25, some 26, some 27, some 28, none], xk_T7, 37, rfl, rfl, ⟨xe_M_asksNext, xw_44, ⟨by decide, by decide, by decide +kernel⟩, ⟨Nat.le_of_ble_eq_true rfl, Nat.le_of_ble_eq_true rfl⟩, rfl, rfl⟩, xw_1070, xw_1072, xw_32, rfl, rfl, vM_asksNext, Or.inr ⟨rfl, cM_asksNext l⟩⟩, fun _ h => absurd h List.not_mem_nil⟩⟩⟩) (n, C) h
set_option maxRecDepth 20000 in
set_option maxHeartbeats 2000000 in
theorem cM_tick (l : Launch) : xm_Wr l xy_M_tick (Cond.code xy_M_tick xb_M_tick 5 (some .int) :: xt_T) (xr_ 3) xk_cl xk_ns xk_tM pM_tick fM_tick := by
  refine xm_mk_wr (rt := .int) (fl := xf_M) (ct := tM_tick) (cn := []) (cj := xj_M) (plainFor_of_name (by decide)) xs_M xd_M_tick rfl (Or.inr rfl) (lM_tick l) (fun as M j pc ls st M2 cl => match as with | [_, .int u] => (j = 1000000 ∧ pc = 33 ∧ ls = [(0, .ref 0), (1, .int u)] ∧ st = [.int 1, .int 1, .int (xi_b ((1 ≤ u ∧ u ≤ 2000) ∧ u ≤ 17519 - M 0 1)), .int 1, .int 2, .ref 0] ∧ M2 = M) ∨ (∃ i n : Nat, u = nI n ∧ n ≤ 2000 ∧ i ≤ n ∧ j = 100 * (n - i) ∧ xg_n 1 (xi_b ((1 ≤ u ∧ u ≤ 2000) ∧ u ≤ 17519 - M 0 1)) 1 1 = 0 ∧ pc = 45 ∧ ls = [(0, .ref 0), (1, .int u), (2, .int (ym_tk (xm_up M 0 0 (xq_t 2 (xg_n 1 (xi_b ((1 ≤ u ∧ u ≤ 2000) ∧ u ≤ 17519 - M 0 1)) 1 1))) i).1), (3, .int (nI i))] ∧ st = [] ∧ M2 = (ym_tk (xm_up M 0 0 (xq_t 2 (xg_n 1 (xi_b ((1 ≤ u ∧ u ≤ 2000) ∧ u ≤ 17519 - M 0 1)) 1 1))) i).2) ∨ (∃ i s n c : Nat, u = nI n ∧ n ≤ 2000 ∧ i < n ∧ (ym_tk (xm_up M 0 0 (xq_t 2 (xg_n 1 (xi_b ((1 ≤ u ∧ u ≤ 2000) ∧ u ≤ 17519 - M 0 1)) 1 1))) i).2 0 28 = nI c ∧ c ≤ 60 ∧ s ≤ c ∧ j = 100 * (n - (i + 1)) + 1 + (c - s) ∧ xg_n 1 (xi_b ((1 ≤ u ∧ u ≤ 2000) ∧ u ≤ 17519 - M 0 1)) 1 1 = 0 ∧ pc = 63 ∧ ls = [(0, .ref 0), (1, .int u), (2, .int ((ym_tk (xm_up M 0 0 (xq_t 2 (xg_n 1 (xi_b ((1 ≤ u ∧ u ≤ 2000) ∧ u ≤ 17519 - M 0 1)) 1 1))) i).1 + (ym_go (xm_up (ym_tk (xm_up M 0 0 (xq_t 2 (xg_n 1 (xi_b ((1 ≤ u ∧ u ≤ 2000) ∧ u ≤ 17519 - M 0 1)) 1 1))) i).2 0 1 ((ym_tk (xm_up M 0 0 (xq_t 2 (xg_n 1 (xi_b ((1 ≤ u ∧ u ≤ 2000) ∧ u ≤ 17519 - M 0 1)) 1 1))) i).2 0 1 + 1)) s).1)), (3, .int (nI i)), (4, .int (nI s))] ∧ st = [] ∧ M2 = (ym_go (xm_up (ym_tk (xm_up M 0 0 (xq_t 2 (xg_n 1 (xi_b ((1 ≤ u ∧ u ≤ 2000) ∧ u ≤ 17519 - M 0 1)) 1 1))) i).2 0 1 ((ym_tk (xm_up M 0 0 (xq_t 2 (xg_n 1 (xi_b ((1 ≤ u ∧ u ≤ 2000) ∧ u ≤ 17519 - M 0 1)) 1 1))) i).2 0 1 + 1)) s).2) | _ => False) ?_ ?_ ?_ ?_ ?_
  · rintro as M ⟨u, rfl, hpre⟩; exact Nat.le_of_ble_eq_true rfl
  · rintro as M ⟨u, rfl, hpre⟩; simp [fM_tick]
  · rintro as M v ⟨u, rfl, hpre⟩ h; first | rfl | (simp [fM_tick] at h)
  · rintro as M ⟨u, rfl, hpre⟩ j pc ls st M2 cl (⟨hj, rfl, rfl, rfl, rfl⟩ | ⟨i, n, hu, hn, hi, hj, hT, rfl, rfl, rfl, rfl⟩ | ⟨i, s, n, c, hu, hn, hlt, hc, hc20, hic, hj, hT, rfl, rfl, rfl, rfl⟩)
    · skip
      refine ⟨400, (And.intro rfl (And.intro (Nat.le_of_ble_eq_true rfl) (And.intro (Nat.le_of_ble_eq_true rfl) (And.intro ?g1001_c_33 (And.intro (by decide) (And.intro (fun h36 => (And.intro (Nat.le_of_ble_eq_true rfl) (And.intro (Nat.le_of_ble_eq_true rfl) ?g1002_k_45))) (fun h36 => (And.intro ?g1003_w_40 ?g1004_r_40))))))))⟩
      case g1001_c_33 =>
        exact ⟨_, _, _, _, _, rfl⟩
      case g1002_k_45 =>
        have hT := xi_n0.mp h36
        have hz := xi_n0.mp (xg_0 hT).2.1
        have hv : vp_in u 2001 := by
          rw [vp_in_iff]
          obtain ⟨⟨h1, h2⟩, -⟩ := hz
          rw [Int32.le_iff_toInt_le] at h1 h2
          have e0 : (1 : Int32).toInt = 1 := rfl
          have e1 : (2000 : Int32).toInt = 2000 := rfl
          omega
        obtain ⟨n0, hn0, hu0⟩ := vp_in_of hv (by decide)
        exact ⟨100 * (n0 - 0), by omega, Or.inr (Or.inl ⟨0, n0, hu0, by omega, Nat.zero_le _, rfl, hT, rfl, rfl, rfl, rfl⟩)⟩
      case g1003_w_40 =>
        first | rfl | exact xi_nb
      case g1004_r_40 =>
        exact ⟨xl_some (xi_xf (xi_0.mp h36)).symm, (if_neg (xi_0.mp h36)).symm⟩
    · skip
      refine ⟨400, (And.intro (by decide) (And.intro (fun h47 => (And.intro ?g2001_w_121 ?g2002_r_121)) (fun h47 => (And.intro rfl (And.intro rfl (And.intro rfl (And.intro (Nat.le_of_ble_eq_true rfl) ?g2003_k_63)))))))⟩
      case g2001_w_121 =>
        first | rfl | exact xi_nb
      case g2002_r_121 =>
        have e1 := xl_end hu (by omega) hi h47
        have e2 : u.toNatClampNeg = i := by rw [hu, nI_clamp (by omega), e1]
        refine ⟨xl_some (Eq.trans ?_ (xi_xt hT).symm), Eq.trans ?_ (if_pos hT).symm⟩ <;> rw [e2]
      case g2003_k_63 =>
        have hlt := xl_lt hu hi h47
        have hJ := ym_tk_J (M := (xm_up M 0 0 (xq_t 2 (xg_n 1 (xi_b ((1 ≤ u ∧ u ≤ 2000) ∧ u ≤ 17519 - M 0 1)) 1 1)))) hpre i
        obtain ⟨c0, hc0, hc1⟩ := hJ.1.L
        refine ⟨100 * (n - (i + 1)) + 1 + (c0 - 0), by omega, Or.inr (Or.inr ⟨i, 0, n, c0, hu, hn, hlt, hc1, hc0, Nat.zero_le _, rfl, hT, rfl, ?_, rfl, rfl⟩)⟩
        show _ = [(0, Value.ref 0), (1, Value.int u), (2, Value.int ((ym_tk (xm_up M 0 0 (xq_t 2 (xg_n 1 (xi_b ((1 ≤ u ∧ u ≤ 2000) ∧ u ≤ 17519 - M 0 1)) 1 1))) i).1 + 0)), (3, Value.int (nI i)), (4, Value.int (nI 0))]
        rw [xi_add0]; rfl
    · skip
      have hJ := ym_tk_J (M := (xm_up M 0 0 (xq_t 2 (xg_n 1 (xi_b ((1 ≤ u ∧ u ≤ 2000) ∧ u ≤ 17519 - M 0 1)) 1 1)))) hpre i
      generalize hS : ym_tk (xm_up M 0 0 (xq_t 2 (xg_n 1 (xi_b ((1 ≤ u ∧ u ≤ 2000) ∧ u ≤ 17519 - M 0 1)) 1 1))) i = S at *
      have hs := ym_go_s (xm_up S.2 0 1 (S.2 0 1 + 1)) s
      have hJ2 := hs.J (show xv_J (xm_up S.2 0 1 (S.2 0 1 + 1)) from hJ.1)
      have e28 : (ym_go (xm_up S.2 0 1 (S.2 0 1 + 1)) s).2 0 28 = nI c := (congrFun (hs 0 (by decide) (by decide) (by decide) (by decide) (by decide) (by decide)) 28).trans hc
      refine ⟨400, (And.intro rfl (And.intro (by decide) (And.intro (fun h69 => (And.intro (Nat.le_of_ble_eq_true rfl) (And.intro (by decide) ?g3001_k_45))) (fun h69 => (And.intro rfl (And.intro rfl (And.intro ?g3002_i_78 (And.intro (by decide) (And.intro (fun h79 => (And.intro (Nat.le_of_ble_eq_true rfl) (And.intro (by decide) ?g3003_k_63))) (fun h79 => (And.intro rfl (And.intro rfl (And.intro rfl (And.intro ?g3004_i_92 (And.intro (by decide) (And.intro (fun h93 => (And.intro rfl (And.intro (Nat.le_of_ble_eq_true rfl) (And.intro (Nat.le_of_ble_eq_true rfl) (And.intro ?g3005_c_102 (And.intro (Nat.le_of_ble_eq_true rfl) (And.intro (Nat.le_of_ble_eq_true rfl) (And.intro (by decide) ?g3006_k_63)))))))) (fun h93 => (And.intro (by decide) (And.intro (Nat.le_of_ble_eq_true rfl) (And.intro (by decide) ?g3007_k_63))))))))))))))))))))⟩
      case g3001_k_45 =>
        have e2 := xl_end e28 (by omega) hic h69
        subst e2
        have e6 : ym_tk (xm_up M 0 0 (xq_t 2 (xg_n 1 (xi_b ((1 ≤ u ∧ u ≤ 2000) ∧ u ≤ 17519 - M 0 1)) 1 1))) (i + 1) = (S.1 + (ym_go (xm_up S.2 0 1 (S.2 0 1 + 1)) s).1, (ym_go (xm_up S.2 0 1 (S.2 0 1 + 1)) s).2) := by
          show ym_h (ym_tk _ i) = _
          rw [hS]
          unfold ym_h
          rw [hc, nI_clamp (by omega)]
        refine ⟨100 * (n - (i + 1)), by omega, Or.inr (Or.inl ⟨i + 1, n, hu, hn, by omega, rfl, hT, rfl, ?_, rfl, ?_⟩)⟩
        · rw [e6, nI_succ]; rfl
        · rw [e6]
      case g3002_i_78 =>
        exact vp_in_nI (Nat.lt_of_lt_of_le (xl_lt e28 hic h69) hc20) (by decide)
      case g3003_k_63 =>
        have hlt2 := xl_lt e28 hic h69
        have e1 : (nI s).toNatClampNeg = s := nI_clamp (by omega)
        simp only [e1] at *
        by_cases hz : (ym_go (xm_up S.2 0 1 (S.2 0 1 + 1)) s).2 24 s = 0 ∧ (ym_go (xm_up S.2 0 1 (S.2 0 1 + 1)) s).2 27 s ≤ (ym_go (xm_up S.2 0 1 (S.2 0 1 + 1)) s).2 0 1
        · have e5 := ym_go1t hz
          refine ⟨100 * (n - (i + 1)) + 1 + (c - (s + 1)), by omega, Or.inr (Or.inr ⟨i, s + 1, n, c, hu, hn, hlt, by rw [hS]; exact hc, hc20, by omega, rfl, hT, rfl, ?_, rfl, ?_⟩)⟩
          · rw [hS, nI_succ, e5]
            first | (rw [← Int32.add_assoc]; rfl) | (exfalso; grind [Int32.not_lt, Int32.not_le])
          · rw [hS, e5]; all_goals first | rfl | (exfalso; grind [Int32.not_lt, Int32.not_le])
        · have e5 := ym_go1f hz
          refine ⟨100 * (n - (i + 1)) + 1 + (c - (s + 1)), by omega, Or.inr (Or.inr ⟨i, s + 1, n, c, hu, hn, hlt, by rw [hS]; exact hc, hc20, by omega, rfl, hT, rfl, ?_, rfl, ?_⟩)⟩
          · rw [hS, nI_succ, e5]; all_goals first | rfl | (exfalso; grind [Int32.not_lt, Int32.not_le])
          · rw [hS, e5]; all_goals first | rfl | (exfalso; grind [Int32.not_lt, Int32.not_le])
      case g3004_i_92 =>
        exact vp_in_nI (Nat.lt_of_lt_of_le (xl_lt e28 hic h69) hc20) (by decide)
      case g3005_c_102 =>
        have hlt2 := xl_lt e28 hic h69
        refine ⟨_, rfl, vp_in_nI (Nat.lt_of_lt_of_le hlt2 hc20) (by decide), hJ2.2.2.2.2.2.2 _ ?_, hJ2.P, hJ2.A1, hJ2.L⟩
        rw [e28, nI_clamp (by omega), nI_clamp (by omega)]; exact hlt2
      case g3006_k_63 =>
        have hlt2 := xl_lt e28 hic h69
        have e1 : (nI s).toNatClampNeg = s := nI_clamp (by omega)
        simp only [e1] at *
        by_cases hz : (ym_go (xm_up S.2 0 1 (S.2 0 1 + 1)) s).2 24 s = 0 ∧ (ym_go (xm_up S.2 0 1 (S.2 0 1 + 1)) s).2 27 s ≤ (ym_go (xm_up S.2 0 1 (S.2 0 1 + 1)) s).2 0 1
        · have e5 := ym_go1t hz
          refine ⟨100 * (n - (i + 1)) + 1 + (c - (s + 1)), by omega, Or.inr (Or.inr ⟨i, s + 1, n, c, hu, hn, hlt, by rw [hS]; exact hc, hc20, by omega, rfl, hT, rfl, ?_, rfl, ?_⟩)⟩
          · rw [hS, nI_succ, e5]
            first | (rw [← Int32.add_assoc]; rfl) | (exfalso; grind [Int32.not_lt, Int32.not_le])
          · rw [hS, e5]; all_goals first | rfl | (exfalso; grind [Int32.not_lt, Int32.not_le])
        · have e5 := ym_go1f hz
          refine ⟨100 * (n - (i + 1)) + 1 + (c - (s + 1)), by omega, Or.inr (Or.inr ⟨i, s + 1, n, c, hu, hn, hlt, by rw [hS]; exact hc, hc20, by omega, rfl, hT, rfl, ?_, rfl, ?_⟩)⟩
          · rw [hS, nI_succ, e5]; all_goals first | rfl | (exfalso; grind [Int32.not_lt, Int32.not_le])
          · rw [hS, e5]; all_goals first | rfl | (exfalso; grind [Int32.not_lt, Int32.not_le])
      case g3007_k_63 =>
        have hlt2 := xl_lt e28 hic h69
        have e1 : (nI s).toNatClampNeg = s := nI_clamp (by omega)
        simp only [e1] at *
        by_cases hz : (ym_go (xm_up S.2 0 1 (S.2 0 1 + 1)) s).2 24 s = 0 ∧ (ym_go (xm_up S.2 0 1 (S.2 0 1 + 1)) s).2 27 s ≤ (ym_go (xm_up S.2 0 1 (S.2 0 1 + 1)) s).2 0 1
        · have e5 := ym_go1t hz
          refine ⟨100 * (n - (i + 1)) + 1 + (c - (s + 1)), by omega, Or.inr (Or.inr ⟨i, s + 1, n, c, hu, hn, hlt, by rw [hS]; exact hc, hc20, by omega, rfl, hT, rfl, ?_, rfl, ?_⟩)⟩
          · rw [hS, nI_succ, e5]
            first | (rw [← Int32.add_assoc]; rfl) | (exfalso; grind [Int32.not_lt, Int32.not_le])
          · rw [hS, e5]; all_goals first | rfl | (exfalso; grind [Int32.not_lt, Int32.not_le])
        · have e5 := ym_go1f hz
          refine ⟨100 * (n - (i + 1)) + 1 + (c - (s + 1)), by omega, Or.inr (Or.inr ⟨i, s + 1, n, c, hu, hn, hlt, by rw [hS]; exact hc, hc20, by omega, rfl, hT, rfl, ?_, rfl, ?_⟩)⟩
          · rw [hS, nI_succ, e5]; all_goals first | rfl | (exfalso; grind [Int32.not_lt, Int32.not_le])
          · rw [hS, e5]; all_goals first | rfl | (exfalso; grind [Int32.not_lt, Int32.not_le])
  · rintro as M ⟨u, rfl, hpre⟩
    refine ⟨400, (And.intro rfl (And.intro (Nat.le_of_ble_eq_true rfl) (And.intro (Nat.le_of_ble_eq_true rfl) (And.intro ?g1_c_8 (And.intro (by decide) (And.intro (fun h11 => ?g2_k_33) (fun h11 => (And.intro rfl (And.intro (by decide) (And.intro (fun h23 => ?g3_k_33) (fun h23 => (And.intro (by decide) ?g4_k_33))))))))))))⟩
    case g1_c_8 =>
      exact ⟨_, _, _, rfl⟩
    case g2_k_33 =>
      refine ⟨1000000, Or.inl ⟨rfl, rfl, rfl, ?_, rfl⟩⟩
      rcases Classical.em ((1 ≤ u ∧ u ≤ 2000) ∧ u ≤ 17519 - M 0 1) with z0 | z0 <;> (first | rw [xi_t z0] | rw [xi_f z0] | skip) <;> (first | rfl | (exfalso; simp only [xi_0, xi_n0] at *; grind [Int32.not_lt, Int32.not_le]))
    case g3_k_33 =>
      refine ⟨1000000, Or.inl ⟨rfl, rfl, rfl, ?_, rfl⟩⟩
      rcases Classical.em ((1 ≤ u ∧ u ≤ 2000) ∧ u ≤ 17519 - M 0 1) with z0 | z0 <;> (first | rw [xi_t z0] | rw [xi_f z0] | skip) <;> (first | rfl | (exfalso; simp only [xi_0, xi_n0] at *; grind [Int32.not_lt, Int32.not_le]))
    case g4_k_33 =>
      refine ⟨1000000, Or.inl ⟨rfl, rfl, rfl, ?_, rfl⟩⟩
      rcases Classical.em ((1 ≤ u ∧ u ≤ 2000) ∧ u ≤ 17519 - M 0 1) with z0 | z0 <;> (first | rw [xi_t z0] | rw [xi_f z0] | skip) <;> (first | rfl | (exfalso; simp only [xi_0, xi_n0] at *; grind [Int32.not_lt, Int32.not_le]))
def pM_budget (as : List Value) (M : xm_M) : Prop := ∃ p u d : Int32, as = [.ref 0, .int p, .int u, .int d] ∧ xv_J M
noncomputable def fM_budget (as : List Value) (M : xm_M) : Option Value × xm_M := match as with
  | [_, .int p, .int u, .int d] => (none, @ite xm_M (xg_n (xi_b ((0 ≤ p ∧ p ≤ M 0 3 - 1))) (xi_b ((0 ≤ u ∧ u ≤ 400) ∧ (1 ≤ d ∧ d ≤ 12))) (xi_b (((0 ≤ p ∧ p ≤ M 0 3 - 1)) ∧ ((0 ≤ u ∧ u ≤ 400) ∧ (1 ≤ d ∧ d ≤ 12)) ∧ ym_en (xm_up (xm_up M 5 p.toNatClampNeg u) 6 p.toNatClampNeg d) p)) 1 = 0) (Classical.propDecidable _) (xm_up (xm_up (xm_up M 0 0 (xq_t 7 (xg_n (xi_b ((0 ≤ p ∧ p ≤ M 0 3 - 1))) (xi_b ((0 ≤ u ∧ u ≤ 400) ∧ (1 ≤ d ∧ d ≤ 12))) (xi_b (((0 ≤ p ∧ p ≤ M 0 3 - 1)) ∧ ((0 ≤ u ∧ u ≤ 400) ∧ (1 ≤ d ∧ d ≤ 12)) ∧ ym_en (xm_up (xm_up M 5 p.toNatClampNeg u) 6 p.toNatClampNeg d) p)) 1))) 5 p.toNatClampNeg u) 6 p.toNatClampNeg d) (xm_up M 0 0 (xq_t 7 (xg_n (xi_b ((0 ≤ p ∧ p ≤ M 0 3 - 1))) (xi_b ((0 ≤ u ∧ u ≤ 400) ∧ (1 ≤ d ∧ d ≤ 12))) (xi_b (((0 ≤ p ∧ p ≤ M 0 3 - 1)) ∧ ((0 ≤ u ∧ u ≤ 400) ∧ (1 ≤ d ∧ d ≤ 12)) ∧ ym_en (xm_up (xm_up M 5 p.toNatClampNeg u) 6 p.toNatClampNeg d) p)) 1))))
  | _ => (none, M)
noncomputable abbrev sM_budget : xm_C := (0, 4, 1, pM_budget, fM_budget)
theorem vM_budget : ∀ as M, pM_budget as M → ∃ as1, as = .ref 0 :: as1 := by
  rintro as M ⟨p, u, d, rfl, hpre⟩
  exact ⟨_, rfl⟩
noncomputable def tM_budget : List (Nat × xm_C) := [(151, sM_isPerson), (102, sM_in), (154, sM_isEnough), (116, sM_goes)]
theorem lM_budget (l : Launch) : ∀ n C, (n, C) ∈ tM_budget → xm_lkS l "AbsenceRowsModel" xt_T xk_ns (xr_ 5) xk_cl xk_tM n C ∨ xm_lkV l "AbsenceRowsModel" xt_T xk_ns (xr_ 5) xk_cl xk_tM n C := fun n C h => (show ∀ q ∈ tM_budget, xm_lkS l "AbsenceRowsModel" xt_T xk_ns (xr_ 5) xk_cl xk_tM q.1 q.2 ∨ xm_lkV l "AbsenceRowsModel" xt_T xk_ns (xr_ 5) xk_cl xk_tM q.1 q.2 from List.forall_mem_cons.mpr ⟨Or.inr ⟨xy_M_isPerson, xb_M_isPerson, 2, (some .boolean), xr_ 1, 1, 0, 7, [none, none, some 1, none, some 2, some 3, some 4, some 5, some 6, some 7, some 8, none, none, some 9, some 10, some 11, none, some 12, some 13, some 14, some 15, some 16, some 17, some 18, none, some 19, some 20, some 21, none, some 22, some 23, some 24, some 25, some 26, some 27, some 28, none], xk_T7, 37, rfl, rfl, ⟨xe_M_isPerson, xw_44, ⟨by decide, by decide, by decide +kernel⟩, ⟨Nat.le_of_ble_eq_true rfl, Nat.le_of_ble_eq_true rfl⟩, rfl, rfl⟩, xw_940, xw_942, xw_16, rfl, rfl, vM_isPerson, Or.inl ⟨rfl, uM_isPerson, cM_isPerson l⟩⟩, List.forall_mem_cons.mpr ⟨Or.inl ⟨xy_M_in, xb_M_in, 3, (some .boolean), xr_ 0, rfl, ⟨xe_M_in, xw_44, ⟨by decide, by decide, by decide +kernel⟩, ⟨Nat.le_of_ble_eq_true rfl, Nat.le_of_ble_eq_true rfl⟩, rfl, rfl⟩, xw_927, Or.inl xw_926, Or.inl ⟨rfl, uM_in, cM_in l⟩⟩, List.forall_mem_cons.mpr ⟨Or.inr ⟨xy_M_isEnough, xb_M_isEnough, 2, (some .boolean), xr_ 4, 1, 0, 7, [none, none, some 1, none, some 2, some 3, some 4, some 5, some 6, some 7, some 8, none, none, some 9, some 10, some 11, none, some 12, some 13, some 14, some 15, some 16, some 17, some 18, none, some 19, some 20, some 21, none, some 22, some 23, some 24, some 25, some 26, some 27, some 28, none], xk_T7, 37, rfl, rfl, ⟨xe_M_isEnough, xw_44, ⟨by decide, by decide, by decide +kernel⟩, ⟨Nat.le_of_ble_eq_true rfl, Nat.le_of_ble_eq_true rfl⟩, rfl, rfl⟩, xw_944, xw_946, xw_17, rfl, rfl, vM_isEnough, Or.inl ⟨rfl, uM_isEnough, cM_isEnough l⟩⟩, List.forall_mem_cons.mpr ⟨Or.inr ⟨xy_M_goes, xb_M_goes, 8, (some .boolean), xr_ 0, 5, 0, 7, [none, none, some 1, none, some 2, some 3, some 4, some 5, some 6, some 7, some 8, none, none, some 9, some 10, some 11, none, some 12, some 13, some 14, some 15, some 16, some 17, some 18, none, some 19, some 20, some 21, none, some 22, some 23, some 24, some 25, some 26, some 27, some 28, none], xk_T7, 37, rfl, rfl, ⟨xe_M_goes, xw_44, ⟨by decide, by decide, by decide +kernel⟩, ⟨Nat.le_of_ble_eq_true rfl, Nat.le_of_ble_eq_true rfl⟩, rfl, rfl⟩, xw_932, xw_934, xw_15, rfl, rfl, vM_goes, Or.inr ⟨rfl, cM_goes l⟩⟩, fun _ h => absurd h List.not_mem_nil⟩⟩⟩⟩) (n, C) h
set_option maxRecDepth 20000 in
set_option maxHeartbeats 2000000 in
theorem cM_budget (l : Launch) : xm_Wr l xy_M_budget (Cond.code xy_M_budget xb_M_budget 9 none :: xt_T) (xr_ 5) xk_cl xk_ns xk_tM pM_budget fM_budget := by
  refine xm_mk_wr (rt := .int) (fl := xf_M) (ct := tM_budget) (cn := []) (cj := xj_M) (plainFor_of_name (by decide)) xs_M xd_M_budget rfl (Or.inl rfl) (lM_budget l) (fun as M j pc ls st M2 cl => match as with | [_, .int p, .int u, .int d] => (j = 6 ∧ pc = 35 ∧ ls = [(0, .ref 0), (1, .int p), (2, .int u), (3, .int d), (4, .int (xi_b ((0 ≤ p ∧ p ≤ M 0 3 - 1)))), (5, .int (xi_b ((0 ≤ u ∧ u ≤ 400) ∧ (1 ≤ d ∧ d ≤ 12))))] ∧ st = [] ∧ M2 = M) ∨ (j = 5 ∧ pc = 52 ∧ ls = [(0, .ref 0), (1, .int p), (2, .int u), (3, .int d), (4, .int (xi_b ((0 ≤ p ∧ p ≤ M 0 3 - 1)))), (5, .int (xi_b ((0 ≤ u ∧ u ≤ 400) ∧ (1 ≤ d ∧ d ≤ 12)))), (6, .int (xi_x ((0 ≤ p ∧ p ≤ M 0 3 - 1)) (M 5 p.toNatClampNeg) 0))] ∧ st = [] ∧ M2 = M) ∨ (j = 4 ∧ pc = 69 ∧ ls = [(0, .ref 0), (1, .int p), (2, .int u), (3, .int d), (4, .int (xi_b ((0 ≤ p ∧ p ≤ M 0 3 - 1)))), (5, .int (xi_b ((0 ≤ u ∧ u ≤ 400) ∧ (1 ≤ d ∧ d ≤ 12)))), (6, .int (xi_x ((0 ≤ p ∧ p ≤ M 0 3 - 1)) (M 5 p.toNatClampNeg) 0)), (7, .int (xi_x ((0 ≤ p ∧ p ≤ M 0 3 - 1)) (M 6 p.toNatClampNeg) 1))] ∧ st = [] ∧ M2 = M) ∨ (j = 3 ∧ pc = 93 ∧ ls = [(0, .ref 0), (1, .int p), (2, .int u), (3, .int d), (4, .int (xi_b ((0 ≤ p ∧ p ≤ M 0 3 - 1)))), (5, .int (xi_b ((0 ≤ u ∧ u ≤ 400) ∧ (1 ≤ d ∧ d ≤ 12)))), (6, .int (xi_x ((0 ≤ p ∧ p ≤ M 0 3 - 1)) (M 5 p.toNatClampNeg) 0)), (7, .int (xi_x ((0 ≤ p ∧ p ≤ M 0 3 - 1)) (M 6 p.toNatClampNeg) 1))] ∧ st = [] ∧ M2 = (@ite xm_M (((0 ≤ p ∧ p ≤ M 0 3 - 1)) ∧ ((0 ≤ u ∧ u ≤ 400) ∧ (1 ≤ d ∧ d ≤ 12))) (Classical.propDecidable _) (xm_up (xm_up M 5 p.toNatClampNeg u) 6 p.toNatClampNeg d) M)) ∨ (j = 2 ∧ pc = 118 ∧ ls = [(0, .ref 0), (1, .int p), (2, .int u), (3, .int d), (4, .int (xi_b ((0 ≤ p ∧ p ≤ M 0 3 - 1)))), (5, .int (xi_b ((0 ≤ u ∧ u ≤ 400) ∧ (1 ≤ d ∧ d ≤ 12)))), (6, .int (xi_x ((0 ≤ p ∧ p ≤ M 0 3 - 1)) (M 5 p.toNatClampNeg) 0)), (7, .int (xi_x ((0 ≤ p ∧ p ≤ M 0 3 - 1)) (M 6 p.toNatClampNeg) 1)), (8, .int (xi_b (((0 ≤ p ∧ p ≤ M 0 3 - 1)) ∧ ((0 ≤ u ∧ u ≤ 400) ∧ (1 ≤ d ∧ d ≤ 12)) ∧ ym_en (xm_up (xm_up M 5 p.toNatClampNeg u) 6 p.toNatClampNeg d) p)))] ∧ st = [] ∧ M2 = (@ite xm_M (((0 ≤ p ∧ p ≤ M 0 3 - 1)) ∧ ((0 ≤ u ∧ u ≤ 400) ∧ (1 ≤ d ∧ d ≤ 12))) (Classical.propDecidable _) (xm_up (xm_up M 5 p.toNatClampNeg u) 6 p.toNatClampNeg d) M)) ∨ (j = 1 ∧ pc = 139 ∧ ls = [(0, .ref 0), (1, .int p), (2, .int u), (3, .int d), (4, .int (xi_b ((0 ≤ p ∧ p ≤ M 0 3 - 1)))), (5, .int (xi_b ((0 ≤ u ∧ u ≤ 400) ∧ (1 ≤ d ∧ d ≤ 12)))), (6, .int (xi_x ((0 ≤ p ∧ p ≤ M 0 3 - 1)) (M 5 p.toNatClampNeg) 0)), (7, .int (xi_x ((0 ≤ p ∧ p ≤ M 0 3 - 1)) (M 6 p.toNatClampNeg) 1)), (8, .int (xi_b (((0 ≤ p ∧ p ≤ M 0 3 - 1)) ∧ ((0 ≤ u ∧ u ≤ 400) ∧ (1 ≤ d ∧ d ≤ 12)) ∧ ym_en (xm_up (xm_up M 5 p.toNatClampNeg u) 6 p.toNatClampNeg d) p)))] ∧ st = [] ∧ M2 = M) | _ => False) ?_ ?_ ?_ ?_ ?_
  · rintro as M ⟨p, u, d, rfl, hpre⟩; exact Nat.le_of_ble_eq_true rfl
  · rintro as M ⟨p, u, d, rfl, hpre⟩; simp [fM_budget]
  · rintro as M v ⟨p, u, d, rfl, hpre⟩ h; first | rfl | (simp [fM_budget] at h)
  · rintro as M ⟨p, u, d, rfl, hpre⟩ j pc ls st M2 cl (⟨hj, rfl, rfl, rfl, rfl⟩ | ⟨hj, rfl, rfl, rfl, rfl⟩ | ⟨hj, rfl, rfl, rfl, rfl⟩ | ⟨hj, rfl, rfl, rfl, rfl⟩ | ⟨hj, rfl, rfl, rfl, rfl⟩ | ⟨hj, rfl, rfl, rfl, rfl⟩)
    · skip
      refine ⟨400, (And.intro (by decide) (And.intro (fun h37 => (And.intro (Nat.le_of_ble_eq_true rfl) ?g1001_k_52)) (fun h37 => (And.intro rfl (And.intro rfl (And.intro ?g1002_i_45 (And.intro (by decide) (And.intro (Nat.le_of_ble_eq_true rfl) ?g1003_k_52))))))))⟩
      case g1001_k_52 =>
        refine ⟨5, by omega, Or.inr (Or.inl ⟨rfl, rfl, ?_, rfl, rfl⟩)⟩
        rcases Classical.em ((0 ≤ p ∧ p ≤ M2 0 3 - 1)) with z0 | z0
        · rw [xi_xt z0]; all_goals first | rfl | (exfalso; exact xi_0.mp h37 z0) 
        · rw [xi_xf z0]; all_goals first | rfl | (exfalso; exact z0 (xi_n0.mp h37))
      case g1002_i_45 =>
        exact xl_has (by decide) hpre.P (xi_n0.mp h37)
      case g1003_k_52 =>
        refine ⟨5, by omega, Or.inr (Or.inl ⟨rfl, rfl, ?_, rfl, rfl⟩)⟩
        rcases Classical.em ((0 ≤ p ∧ p ≤ M2 0 3 - 1)) with z0 | z0
        · rw [xi_xt z0]; all_goals first | rfl | (exfalso; exact xi_0.mp h37 z0) 
        · rw [xi_xf z0]; all_goals first | rfl | (exfalso; exact z0 (xi_n0.mp h37))
    · skip
      refine ⟨400, (And.intro (by decide) (And.intro (fun h54 => (And.intro (Nat.le_of_ble_eq_true rfl) ?g2001_k_69)) (fun h54 => (And.intro rfl (And.intro rfl (And.intro ?g2002_i_62 (And.intro (by decide) (And.intro (Nat.le_of_ble_eq_true rfl) ?g2003_k_69))))))))⟩
      case g2001_k_69 =>
        refine ⟨4, by omega, Or.inr (Or.inr (Or.inl ⟨rfl, rfl, ?_, rfl, rfl⟩))⟩
        rcases Classical.em ((0 ≤ p ∧ p ≤ M2 0 3 - 1)) with z0 | z0
        · rw [xi_xt (v := M2 6 p.toNatClampNeg) z0]; all_goals first | rfl | (exfalso; exact xi_0.mp h54 z0)
        · rw [xi_xf (v := M2 6 p.toNatClampNeg) z0]; all_goals first | rfl | (exfalso; exact z0 (xi_n0.mp h54))
      case g2002_i_62 =>
        exact xl_has (by decide) hpre.P (xi_n0.mp h54)
      case g2003_k_69 =>
        refine ⟨4, by omega, Or.inr (Or.inr (Or.inl ⟨rfl, rfl, ?_, rfl, rfl⟩))⟩
        rcases Classical.em ((0 ≤ p ∧ p ≤ M2 0 3 - 1)) with z0 | z0
        · rw [xi_xt (v := M2 6 p.toNatClampNeg) z0]; all_goals first | rfl | (exfalso; exact xi_0.mp h54 z0)
        · rw [xi_xf (v := M2 6 p.toNatClampNeg) z0]; all_goals first | rfl | (exfalso; exact z0 (xi_n0.mp h54))
    · skip
      refine ⟨400, (And.intro (by decide) (And.intro (fun h71 => ?g3001_k_93) (fun h71 => (And.intro (by decide) (And.intro (fun h76 => ?g3002_k_93) (fun h76 => (And.intro rfl (And.intro rfl (And.intro ?g3003_i_85 (And.intro rfl (And.intro rfl (And.intro ?g3004_i_92 ?g3005_k_93))))))))))))⟩
      case g3001_k_93 =>
        refine ⟨3, by omega, Or.inr (Or.inr (Or.inr (Or.inl ⟨rfl, rfl, rfl, rfl, ?_⟩)))⟩
        rcases Classical.em (((0 ≤ p ∧ p ≤ M2 0 3 - 1)) ∧ ((0 ≤ u ∧ u ≤ 400) ∧ (1 ≤ d ∧ d ≤ 12))) with z0 | z0
        · rw [if_pos z0]; all_goals first | rfl | (exfalso; exact xi_0.mp h71 z0.1) | (exfalso; exact xi_0.mp h76 z0.2)
        · rw [if_neg z0]; all_goals first | rfl | (exfalso; exact z0 ⟨xi_n0.mp h71, xi_n0.mp h76⟩)
      case g3002_k_93 =>
        refine ⟨3, by omega, Or.inr (Or.inr (Or.inr (Or.inl ⟨rfl, rfl, rfl, rfl, ?_⟩)))⟩
        rcases Classical.em (((0 ≤ p ∧ p ≤ M2 0 3 - 1)) ∧ ((0 ≤ u ∧ u ≤ 400) ∧ (1 ≤ d ∧ d ≤ 12))) with z0 | z0
        · rw [if_pos z0]; all_goals first | rfl | (exfalso; exact xi_0.mp h71 z0.1) | (exfalso; exact xi_0.mp h76 z0.2)
        · rw [if_neg z0]; all_goals first | rfl | (exfalso; exact z0 ⟨xi_n0.mp h71, xi_n0.mp h76⟩)
      case g3003_i_85 =>
        exact xl_has (by decide) hpre.P (xi_n0.mp h71)
      case g3004_i_92 =>
        exact xl_has (by decide) hpre.P (xi_n0.mp h71)
      case g3005_k_93 =>
        refine ⟨3, by omega, Or.inr (Or.inr (Or.inr (Or.inl ⟨rfl, rfl, rfl, rfl, ?_⟩)))⟩
        rcases Classical.em (((0 ≤ p ∧ p ≤ M2 0 3 - 1)) ∧ ((0 ≤ u ∧ u ≤ 400) ∧ (1 ≤ d ∧ d ≤ 12))) with z0 | z0
        · rw [if_pos z0]; all_goals first | rfl | (exfalso; exact xi_0.mp h71 z0.1) | (exfalso; exact xi_0.mp h76 z0.2)
        · rw [if_neg z0]; all_goals first | rfl | (exfalso; exact z0 ⟨xi_n0.mp h71, xi_n0.mp h76⟩)
    · skip
      refine ⟨400, (And.intro (by decide) (And.intro (fun h95 => (And.intro (Nat.le_of_ble_eq_true rfl) ?g4001_k_118)) (fun h95 => (And.intro (by decide) (And.intro (fun h100 => (And.intro (Nat.le_of_ble_eq_true rfl) ?g4002_k_118)) (fun h100 => (And.intro rfl (And.intro (Nat.le_of_ble_eq_true rfl) (And.intro (Nat.le_of_ble_eq_true rfl) (And.intro ?g4003_c_105 (And.intro (by decide) (And.intro (fun h108 => (And.intro (Nat.le_of_ble_eq_true rfl) ?g4004_k_118)) (fun h108 => (And.intro (by decide) (And.intro (Nat.le_of_ble_eq_true rfl) ?g4005_k_118)))))))))))))))⟩
      case g4001_k_118 =>
        refine ⟨2, by omega, Or.inr (Or.inr (Or.inr (Or.inr (Or.inl ⟨rfl, rfl, ?_, rfl, rfl⟩))))⟩
        rcases Classical.em (((0 ≤ p ∧ p ≤ M 0 3 - 1)) ∧ ((0 ≤ u ∧ u ≤ 400) ∧ (1 ≤ d ∧ d ≤ 12)) ∧ ym_en (xm_up (xm_up M 5 p.toNatClampNeg u) 6 p.toNatClampNeg d) p) with z0 | z0
        · rw [xi_t z0]
          all_goals first
          | rfl
          | (exfalso; exact xi_0.mp h95 z0.1)
          | (exfalso; exact xi_0.mp h100 z0.2.1)
          | (exfalso; have h9 := xi_0.mp h108; rw [if_pos ⟨z0.1, z0.2.1⟩] at h9; exact h9 z0.2.2)
        · rw [xi_f z0]
          all_goals first
          | rfl
          | (exfalso; have h9 := xi_n0.mp h108; rw [if_pos ⟨xi_n0.mp h95, xi_n0.mp h100⟩] at h9; exact z0 ⟨xi_n0.mp h95, xi_n0.mp h100, h9⟩)
      case g4002_k_118 =>
        refine ⟨2, by omega, Or.inr (Or.inr (Or.inr (Or.inr (Or.inl ⟨rfl, rfl, ?_, rfl, rfl⟩))))⟩
        rcases Classical.em (((0 ≤ p ∧ p ≤ M 0 3 - 1)) ∧ ((0 ≤ u ∧ u ≤ 400) ∧ (1 ≤ d ∧ d ≤ 12)) ∧ ym_en (xm_up (xm_up M 5 p.toNatClampNeg u) 6 p.toNatClampNeg d) p) with z0 | z0
        · rw [xi_t z0]
          all_goals first
          | rfl
          | (exfalso; exact xi_0.mp h95 z0.1)
          | (exfalso; exact xi_0.mp h100 z0.2.1)
          | (exfalso; have h9 := xi_0.mp h108; rw [if_pos ⟨z0.1, z0.2.1⟩] at h9; exact h9 z0.2.2)
        · rw [xi_f z0]
          all_goals first
          | rfl
          | (exfalso; have h9 := xi_n0.mp h108; rw [if_pos ⟨xi_n0.mp h95, xi_n0.mp h100⟩] at h9; exact z0 ⟨xi_n0.mp h95, xi_n0.mp h100, h9⟩)
      case g4003_c_105 =>
        have hz : ((0 ≤ p ∧ p ≤ M 0 3 - 1)) ∧ ((0 ≤ u ∧ u ≤ 400) ∧ (1 ≤ d ∧ d ≤ 12)) := ⟨xi_n0.mp h95, xi_n0.mp h100⟩
        rw [if_pos hz]
        exact ⟨_, rfl, xl_has (by decide) hpre.P (xi_n0.mp h95), hpre.B⟩
      case g4004_k_118 =>
        refine ⟨2, by omega, Or.inr (Or.inr (Or.inr (Or.inr (Or.inl ⟨rfl, rfl, ?_, rfl, rfl⟩))))⟩
        rcases Classical.em (((0 ≤ p ∧ p ≤ M 0 3 - 1)) ∧ ((0 ≤ u ∧ u ≤ 400) ∧ (1 ≤ d ∧ d ≤ 12)) ∧ ym_en (xm_up (xm_up M 5 p.toNatClampNeg u) 6 p.toNatClampNeg d) p) with z0 | z0
        · rw [xi_t z0]
          all_goals first
          | rfl
          | (exfalso; exact xi_0.mp h95 z0.1)
          | (exfalso; exact xi_0.mp h100 z0.2.1)
          | (exfalso; have h9 := xi_0.mp h108; rw [if_pos ⟨z0.1, z0.2.1⟩] at h9; exact h9 z0.2.2)
        · rw [xi_f z0]
          all_goals first
          | rfl
          | (exfalso; have h9 := xi_n0.mp h108; rw [if_pos ⟨xi_n0.mp h95, xi_n0.mp h100⟩] at h9; exact z0 ⟨xi_n0.mp h95, xi_n0.mp h100, h9⟩)
      case g4005_k_118 =>
        refine ⟨2, by omega, Or.inr (Or.inr (Or.inr (Or.inr (Or.inl ⟨rfl, rfl, ?_, rfl, rfl⟩))))⟩
        rcases Classical.em (((0 ≤ p ∧ p ≤ M 0 3 - 1)) ∧ ((0 ≤ u ∧ u ≤ 400) ∧ (1 ≤ d ∧ d ≤ 12)) ∧ ym_en (xm_up (xm_up M 5 p.toNatClampNeg u) 6 p.toNatClampNeg d) p) with z0 | z0
        · rw [xi_t z0]
          all_goals first
          | rfl
          | (exfalso; exact xi_0.mp h95 z0.1)
          | (exfalso; exact xi_0.mp h100 z0.2.1)
          | (exfalso; have h9 := xi_0.mp h108; rw [if_pos ⟨z0.1, z0.2.1⟩] at h9; exact h9 z0.2.2)
        · rw [xi_f z0]
          all_goals first
          | rfl
          | (exfalso; have h9 := xi_n0.mp h108; rw [if_pos ⟨xi_n0.mp h95, xi_n0.mp h100⟩] at h9; exact z0 ⟨xi_n0.mp h95, xi_n0.mp h100, h9⟩)
    · skip
      refine ⟨400, (And.intro (by decide) (And.intro (fun h120 => ?g5001_k_139) (fun h120 => (And.intro rfl (And.intro rfl (And.intro ?g5002_i_130 (And.intro rfl (And.intro rfl (And.intro ?g5003_i_138 ?g5004_k_139)))))))))⟩
      case g5001_k_139 =>
        refine ⟨1, by omega, Or.inr (Or.inr (Or.inr (Or.inr (Or.inr (⟨rfl, rfl, rfl, rfl, ?_⟩)))))⟩
        by_cases hR : ((0 ≤ u ∧ u ≤ 400) ∧ (1 ≤ d ∧ d ≤ 12))
        · by_cases hP : ((0 ≤ p ∧ p ≤ M 0 3 - 1))
          · rw [if_pos ⟨hP, hR⟩]
            all_goals first
            | (rw [xi_xt (v := M 5 p.toNatClampNeg) hP, xi_xt (v := M 6 p.toNatClampNeg) hP]; exact yl_rb)
            | exact absurd hP (xi_0.mp h120)
          · rw [if_neg (fun z => hP z.1)]
            all_goals first
            | rfl
            | exact absurd (xi_n0.mp h120) hP
        · rw [if_neg (fun z => hR z.2)]
          all_goals by_cases hP : ((0 ≤ p ∧ p ≤ M 0 3 - 1))
          all_goals first
            | (rw [xi_xt (v := M 5 p.toNatClampNeg) hP, xi_xt (v := M 6 p.toNatClampNeg) hP]; exact yl_rb2)
            | rfl
            | exact absurd (xi_n0.mp h120) hP
      case g5002_i_130 =>
        exact xl_has (by decide) hpre.P (xi_n0.mp h120)
      case g5003_i_138 =>
        exact xl_has (by decide) hpre.P (xi_n0.mp h120)
      case g5004_k_139 =>
        refine ⟨1, by omega, Or.inr (Or.inr (Or.inr (Or.inr (Or.inr (⟨rfl, rfl, rfl, rfl, ?_⟩)))))⟩
        by_cases hR : ((0 ≤ u ∧ u ≤ 400) ∧ (1 ≤ d ∧ d ≤ 12))
        · by_cases hP : ((0 ≤ p ∧ p ≤ M 0 3 - 1))
          · rw [if_pos ⟨hP, hR⟩]
            all_goals first
            | (rw [xi_xt (v := M 5 p.toNatClampNeg) hP, xi_xt (v := M 6 p.toNatClampNeg) hP]; exact yl_rb)
            | exact absurd hP (xi_0.mp h120)
          · rw [if_neg (fun z => hP z.1)]
            all_goals first
            | rfl
            | exact absurd (xi_n0.mp h120) hP
        · rw [if_neg (fun z => hR z.2)]
          all_goals by_cases hP : ((0 ≤ p ∧ p ≤ M 0 3 - 1))
          all_goals first
            | (rw [xi_xt (v := M 5 p.toNatClampNeg) hP, xi_xt (v := M 6 p.toNatClampNeg) hP]; exact yl_rb2)
            | rfl
            | exact absurd (xi_n0.mp h120) hP
    · skip
      refine ⟨400, (And.intro rfl (And.intro (Nat.le_of_ble_eq_true rfl) (And.intro (Nat.le_of_ble_eq_true rfl) (And.intro ?g6001_c_149 (And.intro (by decide) (And.intro (fun h152 => (And.intro rfl (And.intro rfl (And.intro ?g6002_i_162 (And.intro rfl (And.intro rfl (And.intro ?g6003_i_169 ?g6004_r_170))))))) (fun h152 => ?g6005_r_155)))))))⟩
      case g6001_c_149 =>
        exact ⟨_, _, _, _, _, rfl⟩
      case g6002_i_162 =>
        exact xl_has (by decide) hpre.P (xi_n0.mp (xg_0 (xi_n0.mp h152)).1)
      case g6003_i_169 =>
        exact xl_has (by decide) hpre.P (xi_n0.mp (xg_0 (xi_n0.mp h152)).1)
      case g6004_r_170 =>
        exact ⟨rfl, (if_pos (xi_n0.mp h152)).symm⟩
      case g6005_r_155 =>
        exact ⟨rfl, (if_neg (xi_0.mp h152)).symm⟩
  · rintro as M ⟨p, u, d, rfl, hpre⟩
    refine ⟨400, (And.intro rfl (And.intro (Nat.le_of_ble_eq_true rfl) (And.intro (Nat.le_of_ble_eq_true rfl) (And.intro ?g1_c_2 (And.intro (Nat.le_of_ble_eq_true rfl) (And.intro rfl (And.intro (Nat.le_of_ble_eq_true rfl) (And.intro (Nat.le_of_ble_eq_true rfl) (And.intro ?g2_c_12 (And.intro (by decide) (And.intro (fun h15 => (And.intro (Nat.le_of_ble_eq_true rfl) ?g3_k_35)) (fun h15 => (And.intro rfl (And.intro (Nat.le_of_ble_eq_true rfl) (And.intro (Nat.le_of_ble_eq_true rfl) (And.intro ?g4_c_22 (And.intro (by decide) (And.intro (fun h25 => (And.intro (Nat.le_of_ble_eq_true rfl) ?g5_k_35)) (fun h25 => (And.intro (by decide) (And.intro (Nat.le_of_ble_eq_true rfl) ?g6_k_35)))))))))))))))))))))⟩
    case g1_c_2 =>
      exact ⟨_, rfl⟩
    case g2_c_12 =>
      exact ⟨_, _, _, rfl⟩
    case g3_k_35 =>
      refine ⟨6, Or.inl ⟨rfl, rfl, ?_, rfl, rfl⟩⟩
      rcases Classical.em ((0 ≤ u ∧ u ≤ 400) ∧ (1 ≤ d ∧ d ≤ 12)) with z0 | z0 <;> (first | rw [xi_t z0] | rw [xi_f z0]) <;> (first | rfl | (exfalso; simp only [xi_0, xi_n0] at *; grind [Int32.not_lt, Int32.not_le]))
    case g4_c_22 =>
      exact ⟨_, _, _, rfl⟩
    case g5_k_35 =>
      refine ⟨6, Or.inl ⟨rfl, rfl, ?_, rfl, rfl⟩⟩
      rcases Classical.em ((0 ≤ u ∧ u ≤ 400) ∧ (1 ≤ d ∧ d ≤ 12)) with z0 | z0 <;> (first | rw [xi_t z0] | rw [xi_f z0]) <;> (first | rfl | (exfalso; simp only [xi_0, xi_n0] at *; grind [Int32.not_lt, Int32.not_le]))
    case g6_k_35 =>
      refine ⟨6, Or.inl ⟨rfl, rfl, ?_, rfl, rfl⟩⟩
      rcases Classical.em ((0 ≤ u ∧ u ≤ 400) ∧ (1 ≤ d ∧ d ≤ 12)) with z0 | z0 <;> (first | rw [xi_t z0] | rw [xi_f z0]) <;> (first | rfl | (exfalso; simp only [xi_0, xi_n0] at *; grind [Int32.not_lt, Int32.not_le]))
def pM_left (as : List Value) (M : xm_M) : Prop := ∃ p y x : Int32, as = [.ref 0, .int p, .int y, .int x] ∧ xv_J M ∧ ((0 ≤ p ∧ p ≤ M 0 3 - 1) → (y = 0 ∨ y = 1) → 0 ≤ (ym_ab (ym_ro M p y)).toInt ∧ 0 < (730 * M 6 p.toNatClampNeg).toInt64.toInt)
noncomputable def fM_left (as : List Value) (M : xm_M) : Option Value × xm_M := match as with
  | [_, .int p, .int y, .int x] => (some (.int (xi_x (xg_n (xi_b (((0 ≤ p ∧ p ≤ M 0 3 - 1)) ∧ (0 ≤ y ∧ y ≤ 1) ∧ (0 ≤ x ∧ x ≤ 1))) 1 1 1 = 0) ((ym_xj (x = 0) (ym_ro M p y) ((730 * M 6 p.toNatClampNeg).toInt64) / lN (ym_gd M p y)).toInt32) 0)), (xm_up M 0 0 (xq_t 1 (xg_n (xi_b (((0 ≤ p ∧ p ≤ M 0 3 - 1)) ∧ (0 ≤ y ∧ y ≤ 1) ∧ (0 ≤ x ∧ x ≤ 1))) 1 1 1))))
  | _ => (none, M)
noncomputable abbrev sM_left : xm_C := (0, 4, 1, pM_left, fM_left)
theorem vM_left : ∀ as M, pM_left as M → ∃ as1, as = .ref 0 :: as1 := by
  rintro as M ⟨p, y, x, rfl, ⟨hpre, hro⟩⟩
  exact ⟨_, rfl⟩
noncomputable def tM_left : List (Nat × xm_C) := [(151, sM_isPerson), (102, sM_in), (116, sM_goes), (148, sM_restOf), (145, sM_whole)]
theorem lM_left (l : Launch) : ∀ n C, (n, C) ∈ tM_left → xm_lkS l "AbsenceRowsModel" xt_T xk_ns (xr_ 4) xk_cl xk_tM n C ∨ xm_lkV l "AbsenceRowsModel" xt_T xk_ns (xr_ 4) xk_cl xk_tM n C := fun n C h => (show ∀ q ∈ tM_left, xm_lkS l "AbsenceRowsModel" xt_T xk_ns (xr_ 4) xk_cl xk_tM q.1 q.2 ∨ xm_lkV l "AbsenceRowsModel" xt_T xk_ns (xr_ 4) xk_cl xk_tM q.1 q.2 from List.forall_mem_cons.mpr ⟨Or.inr ⟨xy_M_isPerson, xb_M_isPerson, 2, (some .boolean), xr_ 1, 1, 0, 7, [none, none, some 1, none, some 2, some 3, some 4, some 5, some 6, some 7, some 8, none, none, some 9, some 10, some 11, none, some 12, some 13, some 14, some 15, some 16, some 17, some 18, none, some 19, some 20, some 21, none, some 22, some 23, some 24, some 25, some 26, some 27, some 28, none], xk_T7, 37, rfl, rfl, ⟨xe_M_isPerson, xw_44, ⟨by decide, by decide, by decide +kernel⟩, ⟨Nat.le_of_ble_eq_true rfl, Nat.le_of_ble_eq_true rfl⟩, rfl, rfl⟩, xw_940, xw_942, xw_16, rfl, rfl, vM_isPerson, Or.inl ⟨rfl, uM_isPerson, cM_isPerson l⟩⟩, List.forall_mem_cons.mpr ⟨Or.inl ⟨xy_M_in, xb_M_in, 3, (some .boolean), xr_ 0, rfl, ⟨xe_M_in, xw_44, ⟨by decide, by decide, by decide +kernel⟩, ⟨Nat.le_of_ble_eq_true rfl, Nat.le_of_ble_eq_true rfl⟩, rfl, rfl⟩, xw_927, Or.inl xw_926, Or.inl ⟨rfl, uM_in, cM_in l⟩⟩, List.forall_mem_cons.mpr ⟨Or.inr ⟨xy_M_goes, xb_M_goes, 8, (some .boolean), xr_ 0, 5, 0, 7, [none, none, some 1, none, some 2, some 3, some 4, some 5, some 6, some 7, some 8, none, none, some 9, some 10, some 11, none, some 12, some 13, some 14, some 15, some 16, some 17, some 18, none, some 19, some 20, some 21, none, some 22, some 23, some 24, some 25, some 26, some 27, some 28, none], xk_T7, 37, rfl, rfl, ⟨xe_M_goes, xw_44, ⟨by decide, by decide, by decide +kernel⟩, ⟨Nat.le_of_ble_eq_true rfl, Nat.le_of_ble_eq_true rfl⟩, rfl, rfl⟩, xw_932, xw_934, xw_15, rfl, rfl, vM_goes, Or.inr ⟨rfl, cM_goes l⟩⟩, List.forall_mem_cons.mpr ⟨Or.inr ⟨xy_M_restOf, xb_M_restOf, 9, (some .long), xr_ 3, 2, 0, 7, [none, none, some 1, none, some 2, some 3, some 4, some 5, some 6, some 7, some 8, none, none, some 9, some 10, some 11, none, some 12, some 13, some 14, some 15, some 16, some 17, some 18, none, some 19, some 20, some 21, none, some 22, some 23, some 24, some 25, some 26, some 27, some 28, none], xk_T7, 37, rfl, rfl, ⟨xe_M_restOf, xw_44, ⟨by decide, by decide, by decide +kernel⟩, ⟨Nat.le_of_ble_eq_true rfl, Nat.le_of_ble_eq_true rfl⟩, rfl, rfl⟩, xw_948, xw_950, xw_18, rfl, rfl, vM_restOf, Or.inl ⟨rfl, uM_restOf, cM_restOf l⟩⟩, List.forall_mem_cons.mpr ⟨Or.inr ⟨xy_M_whole, xb_M_whole, 2, (some .int), xr_ 0, 1, 0, 7, [none, none, some 1, none, some 2, some 3, some 4, some 5, some 6, some 7, some 8, none, none, some 9, some 10, some 11, none, some 12, some 13, some 14, some 15, some 16, some 17, some 18, none, some 19, some 20, some 21, none, some 22, some 23, some 24, some 25, some 26, some 27, some 28, none], xk_T7, 37, rfl, rfl, ⟨xe_M_whole, xw_44, ⟨by decide, by decide, by decide +kernel⟩, ⟨Nat.le_of_ble_eq_true rfl, Nat.le_of_ble_eq_true rfl⟩, rfl, rfl⟩, xw_970, xw_972, xw_23, rfl, rfl, vM_whole, Or.inl ⟨rfl, uM_whole, cM_whole l⟩⟩, fun _ h => absurd h List.not_mem_nil⟩⟩⟩⟩⟩) (n, C) h
set_option maxRecDepth 20000 in
set_option maxHeartbeats 2000000 in
theorem cM_left (l : Launch) : xm_Wr l xy_M_left (Cond.code xy_M_left xb_M_left 12 (some .int) :: xt_T) (xr_ 4) xk_cl xk_ns xk_tM pM_left fM_left := by
  refine xm_mk_wr (rt := .int) (fl := xf_M) (ct := tM_left) (cn := []) (cj := xj_M) (plainFor_of_name (by decide)) xs_M xd_M_left rfl (Or.inr rfl) (lM_left l) (fun as M j pc ls st M2 cl => match as with | [_, .int p, .int y, .int x] => (True ∧ j = 9223372036854775810 ∧ pc = 36 ∧ ls = [(0, .ref 0), (1, .int p), (2, .int y), (3, .int x)] ∧ st = [.int 1, .int 1, .int 1, .int (xi_b (((0 ≤ p ∧ p ≤ M 0 3 - 1)) ∧ (0 ≤ y ∧ y ≤ 1) ∧ (0 ≤ x ∧ x ≤ 1))), .int 1, .ref 0] ∧ M2 = M) ∨ (xg_n (xi_b (((0 ≤ p ∧ p ≤ M 0 3 - 1)) ∧ (0 ≤ y ∧ y ≤ 1) ∧ (0 ≤ x ∧ x ≤ 1))) 1 1 1 = 0 ∧ j = 9223372036854775809 ∧ pc = 67 ∧ ls = [(0, .ref 0), (1, .int p), (2, .int y), (3, .int x), (4, .long (ym_ro M p y))] ∧ st = [.long (ym_ab (ym_ro M p y))] ∧ M2 = (xm_up M 0 0 (xq_t 1 (xg_n (xi_b (((0 ≤ p ∧ p ≤ M 0 3 - 1)) ∧ (0 ≤ y ∧ y ≤ 1) ∧ (0 ≤ x ∧ x ≤ 1))) 1 1 1)))) ∨ (∃ m n : Nat, xg_n (xi_b (((0 ≤ p ∧ p ≤ M 0 3 - 1)) ∧ (0 ≤ y ∧ y ≤ 1) ∧ (0 ≤ x ∧ x ≤ 1))) 1 1 1 = 0 ∧ m < 2 ^ 63 ∧ n < 2 ^ 63 ∧ 0 < n ∧ Nat.gcd m n = ym_gd M p y ∧ j = m ∧ pc = 77 ∧ ls = [(0, .ref 0), (1, .int p), (2, .int y), (3, .int x), (4, .long (ym_ro M p y)), (6, .long (lN m)), (8, .long (lN n))] ∧ st = [] ∧ M2 = (xm_up M 0 0 (xq_t 1 (xg_n (xi_b (((0 ≤ p ∧ p ≤ M 0 3 - 1)) ∧ (0 ≤ y ∧ y ≤ 1) ∧ (0 ≤ x ∧ x ≤ 1))) 1 1 1)))) | _ => False) ?_ ?_ ?_ ?_ ?_
  · rintro as M ⟨p, y, x, rfl, ⟨hpre, hro⟩⟩; exact Nat.le_of_ble_eq_true rfl
  · rintro as M ⟨p, y, x, rfl, ⟨hpre, hro⟩⟩; simp [fM_left]
  · rintro as M v ⟨p, y, x, rfl, ⟨hpre, hro⟩⟩ h; first | rfl | (simp [fM_left] at h)
  · rintro as M ⟨p, y, x, rfl, ⟨hpre, hro⟩⟩ j pc ls st M2 cl (⟨_, hj, rfl, rfl, rfl, rfl⟩ | ⟨hT, hj, rfl, rfl, rfl, rfl⟩ | ⟨m, n, hT, hm, hn, hn0, hg, hj, rfl, rfl, rfl, rfl⟩)
    · skip
      refine ⟨400, (And.intro rfl (And.intro (Nat.le_of_ble_eq_true rfl) (And.intro (Nat.le_of_ble_eq_true rfl) (And.intro ?g1001_c_36 (And.intro (by decide) (And.intro (fun h39 => (And.intro rfl (And.intro (Nat.le_of_ble_eq_true rfl) (And.intro (Nat.le_of_ble_eq_true rfl) (And.intro ?g1002_c_47 (And.intro (Nat.le_of_ble_eq_true rfl) (And.intro (by decide) (And.intro (fun h56 => ?g1003_k_67) (fun h56 => (And.intro (by decide) ?g1004_k_67)))))))))) (fun h39 => (And.intro ?g1005_w_43 ?g1006_r_43))))))))⟩
      case g1001_c_36 =>
        exact ⟨_, _, _, _, _, rfl⟩
      case g1002_c_47 =>
        have hz := xi_n0.mp (xg_0 (xi_n0.mp h39)).1
        exact ⟨_, _, rfl, yl_y1 hz.2.1, xl_has (by decide) hpre.P hz.1, hpre.B⟩
      case g1003_k_67 =>
        refine ⟨9223372036854775809, by omega, Or.inr (Or.inl ⟨xi_n0.mp h39, rfl, rfl, rfl, ?_, rfl⟩)⟩
        unfold ym_ab
        first | (rw [ym_xf (c := ym_ro M2 p y < 0) (Int64.not_lt.mpr ((lg_cmp_ge _ _).mp h56))]; rfl) | (rw [ym_xt (c := ym_ro M2 p y < 0) (Int64.not_le.mp (fun z => h56 ((lg_cmp_ge _ _).mpr z)))]; rfl)
      case g1004_k_67 =>
        refine ⟨9223372036854775809, by omega, Or.inr (Or.inl ⟨xi_n0.mp h39, rfl, rfl, rfl, ?_, rfl⟩)⟩
        unfold ym_ab
        first | (rw [ym_xf (c := ym_ro M2 p y < 0) (Int64.not_lt.mpr ((lg_cmp_ge _ _).mp h56))]; rfl) | (rw [ym_xt (c := ym_ro M2 p y < 0) (Int64.not_le.mp (fun z => h56 ((lg_cmp_ge _ _).mpr z)))]; rfl)
      case g1005_w_43 =>
        first | rfl | exact xi_nb
      case g1006_r_43 =>
        exact ⟨xl_some (xi_xf (xi_0.mp h39)).symm, rfl⟩
    · skip
      refine ⟨400, (And.intro (Nat.le_of_ble_eq_true rfl) (And.intro rfl (And.intro (Nat.le_of_ble_eq_true rfl) (And.intro (Nat.le_of_ble_eq_true rfl) (And.intro ?g2001_c_71 (And.intro (Nat.le_of_ble_eq_true rfl) ?g2002_k_77))))))⟩
      case g2001_c_71 =>
        have hz := xi_n0.mp (xg_0 hT).1
        exact ⟨_, rfl, xl_has (by decide) hpre.P hz.1⟩
      case g2002_k_77 =>
        have hz := xi_n0.mp (xg_0 hT).1
        obtain ⟨h1, h2⟩ := hro hz.1 (yl_y1 hz.2.1)
        obtain ⟨m, hm, em⟩ := yl_of h1
        obtain ⟨n, hn, en⟩ := yl_of (Int.le_of_lt h2)
        have e2 : 0 < n := by
          rw [en] at h2
          have := yl_n hn
          omega
        refine ⟨m, by omega, Or.inr (Or.inr ⟨m, n, hT, hm, hn, e2, ?_, rfl, rfl, ?_, rfl, rfl⟩)⟩
        · unfold ym_gd
          rw [em, en, yl_n hm, yl_n hn]
        · rw [← em, ← en]; rfl
    · skip
      have hz := xi_n0.mp (xg_0 hT).1
      refine ⟨400, (And.intro (by decide) (And.intro (fun h81 => (And.intro (by decide) (And.intro (fun h103 => (And.intro rfl (And.intro (Nat.le_of_ble_eq_true rfl) (And.intro (Nat.le_of_ble_eq_true rfl) (And.intro ?g3001_c_113 (And.intro ?g3002_n_119 (And.intro ?g3003_w_121 ?g3004_r_121))))))) (fun h103 => (And.intro (by decide) (And.intro ?g3005_n_119 (And.intro ?g3006_w_121 ?g3007_r_121))))))) (fun h81 => (And.intro ?g3008_n_88 (And.intro (Nat.le_of_ble_eq_true rfl) (And.intro (Nat.le_of_ble_eq_true rfl) (And.intro (Nat.le_of_ble_eq_true rfl) (And.intro (by decide) ?g3009_k_77))))))))⟩
      case g3001_c_113 =>
        exact ⟨_, rfl, xl_has (by decide) hpre.P hz.1⟩
      case g3002_n_119 =>
        intro q
        have h8 := (pk_lEQ hn (by decide)).mp (show lN n = lN 0 from q)
        omega
      case g3003_w_121 =>
        first | rfl | exact xi_nb
      case g3004_r_121 =>
        have h0 : m = 0 := by
          have h8 := (lg_cmp_le _ _).mp h81
          have h9 := (pk_lLE hm (by decide)).mp (show lN m ≤ lN 0 from h8)
          omega
        subst h0
        rw [Nat.gcd_zero_left] at hg
        refine ⟨xl_some (Eq.trans ?_ (xi_xt hT).symm), rfl⟩
        rw [← hg]
        first | (rw [ym_xt h103]; all_goals rfl) | (rw [ym_xf h103]; all_goals rfl)
      case g3005_n_119 =>
        intro q
        have h8 := (pk_lEQ hn (by decide)).mp (show lN n = lN 0 from q)
        omega
      case g3006_w_121 =>
        first | rfl | exact xi_nb
      case g3007_r_121 =>
        have h0 : m = 0 := by
          have h8 := (lg_cmp_le _ _).mp h81
          have h9 := (pk_lLE hm (by decide)).mp (show lN m ≤ lN 0 from h8)
          omega
        subst h0
        rw [Nat.gcd_zero_left] at hg
        refine ⟨xl_some (Eq.trans ?_ (xi_xt hT).symm), rfl⟩
        rw [← hg]
        first | (rw [ym_xt h103]; all_goals rfl) | (rw [ym_xf h103]; all_goals rfl)
      case g3008_n_88 =>
        intro q
        have h8 := (lg_cmp_le _ _).mpr (show lN m ≤ 0 by rw [q]; exact Int64.le_refl _)
        exact h81 h8
      case g3009_k_77 =>
        have h0 : 0 < m := by
          rcases Nat.eq_zero_or_pos m with q | q
          · subst q
            exact absurd ((lg_cmp_le _ _).mpr (Int64.le_refl _)) h81
          · exact q
        have hmod := Nat.mod_lt n h0
        refine ⟨n % m, by omega, Or.inr (Or.inr ⟨n % m, m, hT, by omega, hm, h0, ?_, rfl, rfl, ?_, rfl, rfl⟩)⟩
        · rw [← hg, ← Nat.gcd_rec]
        · rw [← pk_lRem hn h0 hm]; rfl
  · rintro as M ⟨p, y, x, rfl, ⟨hpre, hro⟩⟩
    refine ⟨400, (And.intro rfl (And.intro (Nat.le_of_ble_eq_true rfl) (And.intro (Nat.le_of_ble_eq_true rfl) (And.intro ?g1_c_4 (And.intro (by decide) (And.intro (fun h7 => ?g2_k_36) (fun h7 => (And.intro rfl (And.intro (Nat.le_of_ble_eq_true rfl) (And.intro (Nat.le_of_ble_eq_true rfl) (And.intro ?g3_c_13 (And.intro (by decide) (And.intro (fun h16 => ?g4_k_36) (fun h16 => (And.intro rfl (And.intro (Nat.le_of_ble_eq_true rfl) (And.intro (Nat.le_of_ble_eq_true rfl) (And.intro ?g5_c_22 (And.intro (by decide) (And.intro (fun h25 => ?g6_k_36) (fun h25 => (And.intro (by decide) ?g7_k_36))))))))))))))))))))))⟩
    case g1_c_4 =>
      exact ⟨_, rfl⟩
    case g2_k_36 =>
      refine ⟨9223372036854775810, Or.inl ⟨True.intro, rfl, rfl, rfl, ?_, rfl⟩⟩
      rcases Classical.em (((0 ≤ p ∧ p ≤ M 0 3 - 1)) ∧ (0 ≤ y ∧ y ≤ 1) ∧ (0 ≤ x ∧ x ≤ 1)) with z0 | z0 <;> (first | rw [xi_t z0] | rw [xi_f z0] | skip) <;> (first | rfl | (exfalso; simp only [xi_0, xi_n0] at *; grind [Int32.not_lt, Int32.not_le]))
    case g3_c_13 =>
      exact ⟨_, _, _, rfl⟩
    case g4_k_36 =>
      refine ⟨9223372036854775810, Or.inl ⟨True.intro, rfl, rfl, rfl, ?_, rfl⟩⟩
      rcases Classical.em (((0 ≤ p ∧ p ≤ M 0 3 - 1)) ∧ (0 ≤ y ∧ y ≤ 1) ∧ (0 ≤ x ∧ x ≤ 1)) with z0 | z0 <;> (first | rw [xi_t z0] | rw [xi_f z0] | skip) <;> (first | rfl | (exfalso; simp only [xi_0, xi_n0] at *; grind [Int32.not_lt, Int32.not_le]))
    case g5_c_22 =>
      exact ⟨_, _, _, rfl⟩
    case g6_k_36 =>
      refine ⟨9223372036854775810, Or.inl ⟨True.intro, rfl, rfl, rfl, ?_, rfl⟩⟩
      rcases Classical.em (((0 ≤ p ∧ p ≤ M 0 3 - 1)) ∧ (0 ≤ y ∧ y ≤ 1) ∧ (0 ≤ x ∧ x ≤ 1)) with z0 | z0 <;> (first | rw [xi_t z0] | rw [xi_f z0] | skip) <;> (first | rfl | (exfalso; simp only [xi_0, xi_n0] at *; grind [Int32.not_lt, Int32.not_le]))
    case g7_k_36 =>
      refine ⟨9223372036854775810, Or.inl ⟨True.intro, rfl, rfl, rfl, ?_, rfl⟩⟩
      rcases Classical.em (((0 ≤ p ∧ p ≤ M 0 3 - 1)) ∧ (0 ≤ y ∧ y ≤ 1) ∧ (0 ≤ x ∧ x ≤ 1)) with z0 | z0 <;> (first | rw [xi_t z0] | rw [xi_f z0] | skip) <;> (first | rfl | (exfalso; simp only [xi_0, xi_n0] at *; grind [Int32.not_lt, Int32.not_le]))
def pM_grant (as : List Value) (M : xm_M) : Prop := ∃ a p : Int32, as = [.ref 0, .int a, .int p] ∧ xv_J M
noncomputable def fM_grant (as : List Value) (M : xm_M) : Option Value × xm_M := match as with
  | [_, .int a, .int p] => (some (.int (xi_x (xg_n (xi_b (((0 ≤ a ∧ a ≤ M 0 16 - 1)) ∧ ((0 ≤ p ∧ p ≤ M 0 3 - 1)))) 1 (xi_b (((((0 ≤ a ∧ a ≤ M 0 16 - 1)) ∧ ((0 ≤ p ∧ p ≤ M 0 3 - 1))) ∧ M 17 a.toNatClampNeg < 2 ∧ M 3 (M 12 a.toNatClampNeg).toNatClampNeg < M 3 p.toNatClampNeg ∧ ¬ M 18 a.toNatClampNeg = p))) 1 = 0) (xi_x (M 13 a.toNatClampNeg = 0 ∧ M 17 a.toNatClampNeg = 0) 1 (xi_x ((ym_sh (xm_up M 0 0 (xq_t 5 (xg_n (xi_b (((0 ≤ a ∧ a ≤ M 0 16 - 1)) ∧ ((0 ≤ p ∧ p ≤ M 0 3 - 1)))) 1 (xi_b (((((0 ≤ a ∧ a ≤ M 0 16 - 1)) ∧ ((0 ≤ p ∧ p ≤ M 0 3 - 1))) ∧ M 17 a.toNatClampNeg < 2 ∧ M 3 (M 12 a.toNatClampNeg).toNatClampNeg < M 3 p.toNatClampNeg ∧ ¬ M 18 a.toNatClampNeg = p))) 1))) (M 14 a.toNatClampNeg) (M 15 a.toNatClampNeg) (M 16 a.toNatClampNeg) (M 12 a.toNatClampNeg)) < 0) 2 0)) 0)), (@ite xm_M (xg_n (xi_b (((0 ≤ a ∧ a ≤ M 0 16 - 1)) ∧ ((0 ≤ p ∧ p ≤ M 0 3 - 1)))) 1 (xi_b (((((0 ≤ a ∧ a ≤ M 0 16 - 1)) ∧ ((0 ≤ p ∧ p ≤ M 0 3 - 1))) ∧ M 17 a.toNatClampNeg < 2 ∧ M 3 (M 12 a.toNatClampNeg).toNatClampNeg < M 3 p.toNatClampNeg ∧ ¬ M 18 a.toNatClampNeg = p))) 1 = 0) (Classical.propDecidable _) (@ite xm_M ((M 13 a.toNatClampNeg = 0 ∧ M 17 a.toNatClampNeg = 0)) (Classical.propDecidable _) (xm_up (xm_up (xm_up M 0 0 (xq_t 5 (xg_n (xi_b (((0 ≤ a ∧ a ≤ M 0 16 - 1)) ∧ ((0 ≤ p ∧ p ≤ M 0 3 - 1)))) 1 (xi_b (((((0 ≤ a ∧ a ≤ M 0 16 - 1)) ∧ ((0 ≤ p ∧ p ≤ M 0 3 - 1))) ∧ M 17 a.toNatClampNeg < 2 ∧ M 3 (M 12 a.toNatClampNeg).toNatClampNeg < M 3 p.toNatClampNeg ∧ ¬ M 18 a.toNatClampNeg = p))) 1))) 17 a.toNatClampNeg 1) 18 a.toNatClampNeg p) (@ite xm_M ((ym_sh (xm_up M 0 0 (xq_t 5 (xg_n (xi_b (((0 ≤ a ∧ a ≤ M 0 16 - 1)) ∧ ((0 ≤ p ∧ p ≤ M 0 3 - 1)))) 1 (xi_b (((((0 ≤ a ∧ a ≤ M 0 16 - 1)) ∧ ((0 ≤ p ∧ p ≤ M 0 3 - 1))) ∧ M 17 a.toNatClampNeg < 2 ∧ M 3 (M 12 a.toNatClampNeg).toNatClampNeg < M 3 p.toNatClampNeg ∧ ¬ M 18 a.toNatClampNeg = p))) 1))) (M 14 a.toNatClampNeg) (M 15 a.toNatClampNeg) (M 16 a.toNatClampNeg) (M 12 a.toNatClampNeg)) < 0) (Classical.propDecidable _) (xm_up (xm_up (xm_up M 0 0 (xq_t 5 (xg_n (xi_b (((0 ≤ a ∧ a ≤ M 0 16 - 1)) ∧ ((0 ≤ p ∧ p ≤ M 0 3 - 1)))) 1 (xi_b (((((0 ≤ a ∧ a ≤ M 0 16 - 1)) ∧ ((0 ≤ p ∧ p ≤ M 0 3 - 1))) ∧ M 17 a.toNatClampNeg < 2 ∧ M 3 (M 12 a.toNatClampNeg).toNatClampNeg < M 3 p.toNatClampNeg ∧ ¬ M 18 a.toNatClampNeg = p))) 1))) 18 a.toNatClampNeg (xi_x (M 17 a.toNatClampNeg = 0) p (M 18 a.toNatClampNeg))) 17 a.toNatClampNeg 2) (@ite xm_M (M 0 24 < 100) (Classical.propDecidable _) (xm_up (xm_up (xm_up (xm_up (xm_up M 0 0 (xq_t 5 (xg_n (xi_b (((0 ≤ a ∧ a ≤ M 0 16 - 1)) ∧ ((0 ≤ p ∧ p ≤ M 0 3 - 1)))) 1 (xi_b (((((0 ≤ a ∧ a ≤ M 0 16 - 1)) ∧ ((0 ≤ p ∧ p ≤ M 0 3 - 1))) ∧ M 17 a.toNatClampNeg < 2 ∧ M 3 (M 12 a.toNatClampNeg).toNatClampNeg < M 3 p.toNatClampNeg ∧ ¬ M 18 a.toNatClampNeg = p))) 1))) 19 (M 0 24).toNatClampNeg a) 20 (M 0 24).toNatClampNeg ((ym_sh (xm_up M 0 0 (xq_t 5 (xg_n (xi_b (((0 ≤ a ∧ a ≤ M 0 16 - 1)) ∧ ((0 ≤ p ∧ p ≤ M 0 3 - 1)))) 1 (xi_b (((((0 ≤ a ∧ a ≤ M 0 16 - 1)) ∧ ((0 ≤ p ∧ p ≤ M 0 3 - 1))) ∧ M 17 a.toNatClampNeg < 2 ∧ M 3 (M 12 a.toNatClampNeg).toNatClampNeg < M 3 p.toNatClampNeg ∧ ¬ M 18 a.toNatClampNeg = p))) 1))) (M 14 a.toNatClampNeg) (M 15 a.toNatClampNeg) (M 16 a.toNatClampNeg) (M 12 a.toNatClampNeg)) / 100)) 21 (M 0 24).toNatClampNeg ((ym_sh (xm_up M 0 0 (xq_t 5 (xg_n (xi_b (((0 ≤ a ∧ a ≤ M 0 16 - 1)) ∧ ((0 ≤ p ∧ p ≤ M 0 3 - 1)))) 1 (xi_b (((((0 ≤ a ∧ a ≤ M 0 16 - 1)) ∧ ((0 ≤ p ∧ p ≤ M 0 3 - 1))) ∧ M 17 a.toNatClampNeg < 2 ∧ M 3 (M 12 a.toNatClampNeg).toNatClampNeg < M 3 p.toNatClampNeg ∧ ¬ M 18 a.toNatClampNeg = p))) 1))) (M 14 a.toNatClampNeg) (M 15 a.toNatClampNeg) (M 16 a.toNatClampNeg) (M 12 a.toNatClampNeg)) - (ym_sh (xm_up M 0 0 (xq_t 5 (xg_n (xi_b (((0 ≤ a ∧ a ≤ M 0 16 - 1)) ∧ ((0 ≤ p ∧ p ≤ M 0 3 - 1)))) 1 (xi_b (((((0 ≤ a ∧ a ≤ M 0 16 - 1)) ∧ ((0 ≤ p ∧ p ≤ M 0 3 - 1))) ∧ M 17 a.toNatClampNeg < 2 ∧ M 3 (M 12 a.toNatClampNeg).toNatClampNeg < M 3 p.toNatClampNeg ∧ ¬ M 18 a.toNatClampNeg = p))) 1))) (M 14 a.toNatClampNeg) (M 15 a.toNatClampNeg) (M 16 a.toNatClampNeg) (M 12 a.toNatClampNeg)) / 100 * 100)) 0 24 (M 0 24 + 1)) (xm_up M 0 0 (xq_t 5 (xg_n (xi_b (((0 ≤ a ∧ a ≤ M 0 16 - 1)) ∧ ((0 ≤ p ∧ p ≤ M 0 3 - 1)))) 1 (xi_b (((((0 ≤ a ∧ a ≤ M 0 16 - 1)) ∧ ((0 ≤ p ∧ p ≤ M 0 3 - 1))) ∧ M 17 a.toNatClampNeg < 2 ∧ M 3 (M 12 a.toNatClampNeg).toNatClampNeg < M 3 p.toNatClampNeg ∧ ¬ M 18 a.toNatClampNeg = p))) 1)))))) (xm_up M 0 0 (xq_t 5 (xg_n (xi_b (((0 ≤ a ∧ a ≤ M 0 16 - 1)) ∧ ((0 ≤ p ∧ p ≤ M 0 3 - 1)))) 1 (xi_b (((((0 ≤ a ∧ a ≤ M 0 16 - 1)) ∧ ((0 ≤ p ∧ p ≤ M 0 3 - 1))) ∧ M 17 a.toNatClampNeg < 2 ∧ M 3 (M 12 a.toNatClampNeg).toNatClampNeg < M 3 p.toNatClampNeg ∧ ¬ M 18 a.toNatClampNeg = p))) 1)))))
  | _ => (none, M)
noncomputable abbrev sM_grant : xm_C := (0, 3, 1, pM_grant, fM_grant)
theorem vM_grant : ∀ as M, pM_grant as M → ∃ as1, as = .ref 0 :: as1 := by
  rintro as M ⟨a, p, rfl, hpre⟩
  exact ⟨_, rfl⟩
noncomputable def tM_grant : List (Nat × xm_C) := [(180, sM_isAsk), (151, sM_isPerson), (116, sM_goes), (183, sM_shortage)]
theorem lM_grant (l : Launch) : ∀ n C, (n, C) ∈ tM_grant → xm_lkS l "AbsenceRowsModel" xt_T xk_ns (xr_ 5) xk_cl xk_tM n C ∨ xm_lkV l "AbsenceRowsModel" xt_T xk_ns (xr_ 5) xk_cl xk_tM n C := fun n C h => (show ∀ q ∈ tM_grant, xm_lkS l "AbsenceRowsModel" xt_T xk_ns (xr_ 5) xk_cl xk_tM q.1 q.2 ∨ xm_lkV l "AbsenceRowsModel" xt_T xk_ns (xr_ 5) xk_cl xk_tM q.1 q.2 from List.forall_mem_cons.mpr ⟨Or.inr ⟨xy_M_isAsk, xb_M_isAsk, 2, (some .boolean), xr_ 1, 1, 0, 7, [none, none, some 1, none, some 2, some 3, some 4, some 5, some 6, some 7, some 8, none, none, some 9, some 10, some 11, none, some 12, some 13, some 14, some 15, some 16, some 17, some 18, none, some 19, some 20, some 21, none, some 22, some 23, some 24, some 25, some 26, some 27, some 28, none], xk_T7, 37, rfl, rfl, ⟨xe_M_isAsk, xw_44, ⟨by decide, by decide, by decide +kernel⟩, ⟨Nat.le_of_ble_eq_true rfl, Nat.le_of_ble_eq_true rfl⟩, rfl, rfl⟩, xw_1034, xw_1036, xw_30, rfl, rfl, vM_isAsk, Or.inl ⟨rfl, uM_isAsk, cM_isAsk l⟩⟩, List.forall_mem_cons.mpr ⟨Or.inr ⟨xy_M_isPerson, xb_M_isPerson, 2, (some .boolean), xr_ 1, 1, 0, 7, [none, none, some 1, none, some 2, some 3, some 4, some 5, some 6, some 7, some 8, none, none, some 9, some 10, some 11, none, some 12, some 13, some 14, some 15, some 16, some 17, some 18, none, some 19, some 20, some 21, none, some 22, some 23, some 24, some 25, some 26, some 27, some 28, none], xk_T7, 37, rfl, rfl, ⟨xe_M_isPerson, xw_44, ⟨by decide, by decide, by decide +kernel⟩, ⟨Nat.le_of_ble_eq_true rfl, Nat.le_of_ble_eq_true rfl⟩, rfl, rfl⟩, xw_940, xw_942, xw_16, rfl, rfl, vM_isPerson, Or.inl ⟨rfl, uM_isPerson, cM_isPerson l⟩⟩, List.forall_mem_cons.mpr ⟨Or.inr ⟨xy_M_goes, xb_M_goes, 8, (some .boolean), xr_ 0, 5, 0, 7, [none, none, some 1, none, some 2, some 3, some 4, some 5, some 6, some 7, some 8, none, none, some 9, some 10, some 11, none, some 12, some 13, some 14, some 15, some 16, some 17, some 18, none, some 19, some 20, some 21, none, some 22, some 23, some 24, some 25, some 26, some 27, some 28, none], xk_T7, 37, rfl, rfl, ⟨xe_M_goes, xw_44, ⟨by decide, by decide, by decide +kernel⟩, ⟨Nat.le_of_ble_eq_true rfl, Nat.le_of_ble_eq_true rfl⟩, rfl, rfl⟩, xw_932, xw_934, xw_15, rfl, rfl, vM_goes, Or.inr ⟨rfl, cM_goes l⟩⟩, List.forall_mem_cons.mpr ⟨Or.inr ⟨xy_M_shortage, xb_M_shortage, 4, (some .int), xr_ 4, 1, 0, 7, [none, none, some 1, none, some 2, some 3, some 4, some 5, some 6, some 7, some 8, none, none, some 9, some 10, some 11, none, some 12, some 13, some 14, some 15, some 16, some 17, some 18, none, some 19, some 20, some 21, none, some 22, some 23, some 24, some 25, some 26, some 27, some 28, none], xk_T7, 37, rfl, rfl, ⟨xe_M_shortage, xw_44, ⟨by decide, by decide, by decide +kernel⟩, ⟨Nat.le_of_ble_eq_true rfl, Nat.le_of_ble_eq_true rfl⟩, rfl, rfl⟩, xw_1038, xw_1040, xw_31, rfl, rfl, vM_shortage, Or.inl ⟨rfl, uM_shortage, cM_shortage l⟩⟩, fun _ h => absurd h List.not_mem_nil⟩⟩⟩⟩) (n, C) h
set_option maxRecDepth 20000 in
set_option maxHeartbeats 2000000 in
theorem cM_grant (l : Launch) : xm_Wr l xy_M_grant (Cond.code xy_M_grant xb_M_grant 6 (some .int) :: xt_T) (xr_ 5) xk_cl xk_ns xk_tM pM_grant fM_grant := by
  refine xm_mk_wr (rt := .int) (fl := xf_M) (ct := tM_grant) (cn := []) (cj := xj_M) (plainFor_of_name (by decide)) xs_M xd_M_grant rfl (Or.inr rfl) (lM_grant l) (fun as M j pc ls st M2 cl => match as with | [_, .int a, .int p] => (j = 2 ∧ pc = 22 ∧ ls = [(0, .ref 0), (1, .int a), (2, .int p), (3, .int (xi_b (((0 ≤ a ∧ a ≤ M 0 16 - 1)) ∧ ((0 ≤ p ∧ p ≤ M 0 3 - 1)))))] ∧ st = [] ∧ M2 = M) ∨ (j = 1 ∧ pc = 73 ∧ ls = [(0, .ref 0), (1, .int a), (2, .int p), (3, .int (xi_b (((0 ≤ a ∧ a ≤ M 0 16 - 1)) ∧ ((0 ≤ p ∧ p ≤ M 0 3 - 1))))), (4, .int (xi_b ((((0 ≤ a ∧ a ≤ M 0 16 - 1)) ∧ ((0 ≤ p ∧ p ≤ M 0 3 - 1))) ∧ M 17 a.toNatClampNeg < 2 ∧ M 3 (M 12 a.toNatClampNeg).toNatClampNeg < M 3 p.toNatClampNeg ∧ ¬ M 18 a.toNatClampNeg = p)))] ∧ st = [] ∧ M2 = M) | _ => False) ?_ ?_ ?_ ?_ ?_
  · rintro as M ⟨a, p, rfl, hpre⟩; exact Nat.le_of_ble_eq_true rfl
  · rintro as M ⟨a, p, rfl, hpre⟩; simp [fM_grant]
  · rintro as M v ⟨a, p, rfl, hpre⟩ h; first | rfl | (simp [fM_grant] at h)
  · rintro as M ⟨a, p, rfl, hpre⟩ j pc ls st M2 cl (⟨hj, rfl, rfl, rfl, rfl⟩ | ⟨hj, rfl, rfl, rfl, rfl⟩)
    · skip
      refine ⟨400, (And.intro (by decide) (And.intro (fun h23 => (And.intro (Nat.le_of_ble_eq_true rfl) ?g1001_k_73)) (fun h23 => (And.intro rfl (And.intro rfl (And.intro ?g1002_i_31 (And.intro (by decide) (And.intro (fun h33 => (And.intro (Nat.le_of_ble_eq_true rfl) ?g1003_k_73)) (fun h33 => (And.intro rfl (And.intro rfl (And.intro ?g1004_i_41 (And.intro rfl (And.intro rfl (And.intro rfl (And.intro ?g1005_i_51 (And.intro rfl (And.intro ?g1006_i_52 (And.intro (by decide) (And.intro (fun h53 => (And.intro (Nat.le_of_ble_eq_true rfl) ?g1007_k_73)) (fun h53 => (And.intro rfl (And.intro rfl (And.intro ?g1008_i_61 (And.intro (by decide) (And.intro (fun h63 => (And.intro (Nat.le_of_ble_eq_true rfl) ?g1009_k_73)) (fun h63 => (And.intro (by decide) (And.intro (Nat.le_of_ble_eq_true rfl) ?g1010_k_73)))))))))))))))))))))))))))))⟩
      case g1001_k_73 =>
        refine ⟨1, by omega, Or.inr ⟨rfl, rfl, ?_, rfl, rfl⟩⟩
        rcases Classical.em (((((0 ≤ a ∧ a ≤ M2 0 16 - 1)) ∧ ((0 ≤ p ∧ p ≤ M2 0 3 - 1))) ∧ M2 17 a.toNatClampNeg < 2 ∧ M2 3 (M2 12 a.toNatClampNeg).toNatClampNeg < M2 3 p.toNatClampNeg ∧ ¬ M2 18 a.toNatClampNeg = p)) with z0 | z0 <;> (first | rw [xi_t z0] | rw [xi_f z0]) <;> (first | rfl | (exfalso; simp only [xi_0, xi_n0] at *; grind [Int32.not_lt, Int32.not_le]))
      case g1002_i_31 =>
        exact yl_81 (xl_has (by decide) hpre.A (xi_n0.mp h23).1)
      case g1003_k_73 =>
        refine ⟨1, by omega, Or.inr ⟨rfl, rfl, ?_, rfl, rfl⟩⟩
        rcases Classical.em (((((0 ≤ a ∧ a ≤ M2 0 16 - 1)) ∧ ((0 ≤ p ∧ p ≤ M2 0 3 - 1))) ∧ M2 17 a.toNatClampNeg < 2 ∧ M2 3 (M2 12 a.toNatClampNeg).toNatClampNeg < M2 3 p.toNatClampNeg ∧ ¬ M2 18 a.toNatClampNeg = p)) with z0 | z0 <;> (first | rw [xi_t z0] | rw [xi_f z0]) <;> (first | rfl | (exfalso; simp only [xi_0, xi_n0] at *; grind [Int32.not_lt, Int32.not_le]))
      case g1004_i_41 =>
        exact xl_has (by decide) hpre.P (xi_n0.mp h23).2
      case g1005_i_51 =>
        exact yl_81 (xl_has (by decide) hpre.A (xi_n0.mp h23).1)
      case g1006_i_52 =>
        exact (hpre.a (xi_n0.mp h23).1).2
      case g1007_k_73 =>
        refine ⟨1, by omega, Or.inr ⟨rfl, rfl, ?_, rfl, rfl⟩⟩
        rcases Classical.em (((((0 ≤ a ∧ a ≤ M2 0 16 - 1)) ∧ ((0 ≤ p ∧ p ≤ M2 0 3 - 1))) ∧ M2 17 a.toNatClampNeg < 2 ∧ M2 3 (M2 12 a.toNatClampNeg).toNatClampNeg < M2 3 p.toNatClampNeg ∧ ¬ M2 18 a.toNatClampNeg = p)) with z0 | z0 <;> (first | rw [xi_t z0] | rw [xi_f z0]) <;> (first | rfl | (exfalso; simp only [xi_0, xi_n0] at *; grind [Int32.not_lt, Int32.not_le]))
      case g1008_i_61 =>
        exact yl_81 (xl_has (by decide) hpre.A (xi_n0.mp h23).1)
      case g1009_k_73 =>
        refine ⟨1, by omega, Or.inr ⟨rfl, rfl, ?_, rfl, rfl⟩⟩
        rcases Classical.em (((((0 ≤ a ∧ a ≤ M2 0 16 - 1)) ∧ ((0 ≤ p ∧ p ≤ M2 0 3 - 1))) ∧ M2 17 a.toNatClampNeg < 2 ∧ M2 3 (M2 12 a.toNatClampNeg).toNatClampNeg < M2 3 p.toNatClampNeg ∧ ¬ M2 18 a.toNatClampNeg = p)) with z0 | z0 <;> (first | rw [xi_t z0] | rw [xi_f z0]) <;> (first | rfl | (exfalso; simp only [xi_0, xi_n0] at *; grind [Int32.not_lt, Int32.not_le]))
      case g1010_k_73 =>
        refine ⟨1, by omega, Or.inr ⟨rfl, rfl, ?_, rfl, rfl⟩⟩
        rcases Classical.em (((((0 ≤ a ∧ a ≤ M2 0 16 - 1)) ∧ ((0 ≤ p ∧ p ≤ M2 0 3 - 1))) ∧ M2 17 a.toNatClampNeg < 2 ∧ M2 3 (M2 12 a.toNatClampNeg).toNatClampNeg < M2 3 p.toNatClampNeg ∧ ¬ M2 18 a.toNatClampNeg = p)) with z0 | z0 <;> (first | rw [xi_t z0] | rw [xi_f z0]) <;> (first | rfl | (exfalso; simp only [xi_0, xi_n0] at *; grind [Int32.not_lt, Int32.not_le]))
    · skip
      have hbad : ¬ ym_sh (xm_up M2 0 0 0) 0 0 0 0 = 5 ∨ True := Or.inr True.intro
      refine ⟨400, (And.intro rfl (And.intro (Nat.le_of_ble_eq_true rfl) (And.intro (Nat.le_of_ble_eq_true rfl) (And.intro ?g2001_c_80 (And.intro (by decide) (And.intro (fun h83 => (And.intro rfl (And.intro rfl (And.intro ?g2002_i_93 (And.intro (by decide) (And.intro (fun h94 => (And.intro rfl (And.intro (Nat.le_of_ble_eq_true rfl) (And.intro (Nat.le_of_ble_eq_true rfl) (And.intro ?g2003_c_124 (And.intro (Nat.le_of_ble_eq_true rfl) (And.intro (by decide) (And.intro (fun h131 => (And.intro rfl (And.intro rfl (And.intro ?g2004_i_198 (And.intro (by decide) (And.intro (fun h199 => (And.intro rfl (And.intro rfl (And.intro ?g2005_i_215 (And.intro ?g2006_w_217 ?g2007_r_217))))) (fun h199 => (And.intro rfl (And.intro rfl (And.intro ?g2008_i_208 (And.intro rfl (And.intro rfl (And.intro ?g2009_i_215 (And.intro ?g2010_w_217 ?g2011_r_217)))))))))))))) (fun h131 => (And.intro rfl (And.intro (by decide) (And.intro (fun h140 => (And.intro ?g2012_w_192 ?g2013_r_192)) (fun h140 => (And.intro rfl (And.intro rfl (And.intro rfl (And.intro ?g2014_i_152 (And.intro rfl (And.intro rfl (And.intro ?g2015_n_165 (And.intro rfl (And.intro ?g2016_i_166 (And.intro rfl (And.intro rfl (And.intro ?g2017_n_179 (And.intro rfl (And.intro ?g2018_i_180 (And.intro rfl (And.intro rfl (And.intro rfl (And.intro ?g2019_w_192 ?g2020_r_192))))))))))))))))))))))))))))))) (fun h94 => (And.intro rfl (And.intro rfl (And.intro ?g2021_i_102 (And.intro (by decide) (And.intro (fun h103 => (And.intro rfl (And.intro (Nat.le_of_ble_eq_true rfl) (And.intro (Nat.le_of_ble_eq_true rfl) (And.intro ?g2022_c_124 (And.intro (Nat.le_of_ble_eq_true rfl) (And.intro (by decide) (And.intro (fun h131 => (And.intro rfl (And.intro rfl (And.intro ?g2023_i_198 (And.intro (by decide) (And.intro (fun h199 => (And.intro rfl (And.intro rfl (And.intro ?g2024_i_215 (And.intro ?g2025_w_217 ?g2026_r_217))))) (fun h199 => (And.intro rfl (And.intro rfl (And.intro ?g2027_i_208 (And.intro rfl (And.intro rfl (And.intro ?g2028_i_215 (And.intro ?g2029_w_217 ?g2030_r_217)))))))))))))) (fun h131 => (And.intro rfl (And.intro (by decide) (And.intro (fun h140 => (And.intro ?g2031_w_192 ?g2032_r_192)) (fun h140 => (And.intro rfl (And.intro rfl (And.intro rfl (And.intro ?g2033_i_152 (And.intro rfl (And.intro rfl (And.intro ?g2034_n_165 (And.intro rfl (And.intro ?g2035_i_166 (And.intro rfl (And.intro rfl (And.intro ?g2036_n_179 (And.intro rfl (And.intro ?g2037_i_180 (And.intro rfl (And.intro rfl (And.intro rfl (And.intro ?g2038_w_192 ?g2039_r_192))))))))))))))))))))))))))))))) (fun h103 => (And.intro rfl (And.intro rfl (And.intro ?g2040_i_112 (And.intro rfl (And.intro rfl (And.intro ?g2041_i_119 (And.intro ?g2042_w_121 ?g2043_r_121)))))))))))))))))))) (fun h83 => (And.intro ?g2044_w_87 ?g2045_r_87))))))))⟩
      case g2001_c_80 =>
        exact ⟨_, _, _, _, _, rfl⟩
      case g2002_i_93 =>
        first | exact yl_81 (xl_has (by decide) hpre.A (xi_n0.mp (xg_0 (xi_n0.mp h83)).1).1) | exact xl_room (by decide) rfl hpre.H (Int32.not_le.mpr h140) | exact xl_room (by decide) rfl hpre.H h140
      case g2003_c_124 =>
        have hz := xi_n0.mp (xg_0 (xi_n0.mp h83)).1
        exact ⟨_, rfl, yl_81 (xl_has (by decide) hpre.A hz.1), (hpre.a hz.1).1, (hpre.a hz.1).2, hpre.W, hpre.P, hpre.A1, hpre.L⟩
      case g2004_i_198 =>
        first | exact yl_81 (xl_has (by decide) hpre.A (xi_n0.mp (xg_0 (xi_n0.mp h83)).1).1) | exact xl_room (by decide) rfl hpre.H (Int32.not_le.mpr h140) | exact xl_room (by decide) rfl hpre.H h140
      case g2005_i_215 =>
        first | exact yl_81 (xl_has (by decide) hpre.A (xi_n0.mp (xg_0 (xi_n0.mp h83)).1).1) | exact xl_room (by decide) rfl hpre.H (Int32.not_le.mpr h140) | exact xl_room (by decide) rfl hpre.H h140
      case g2006_w_217 =>
        first | rfl | exact xi_nb
      case g2007_r_217 =>
        have hz : ¬ (M2 13 a.toNatClampNeg = 0 ∧ M2 17 a.toNatClampNeg = 0) := by first | exact fun z => h94 z.1 | exact fun z => h103 z.2
        have hb : (ym_sh (xm_up M2 0 0 (xq_t 5 (xg_n (xi_b (((0 ≤ a ∧ a ≤ M2 0 16 - 1)) ∧ ((0 ≤ p ∧ p ≤ M2 0 3 - 1)))) 1 (xi_b (((((0 ≤ a ∧ a ≤ M2 0 16 - 1)) ∧ ((0 ≤ p ∧ p ≤ M2 0 3 - 1))) ∧ M2 17 a.toNatClampNeg < 2 ∧ M2 3 (M2 12 a.toNatClampNeg).toNatClampNeg < M2 3 p.toNatClampNeg ∧ ¬ M2 18 a.toNatClampNeg = p))) 1))) (M2 14 a.toNatClampNeg) (M2 15 a.toNatClampNeg) (M2 16 a.toNatClampNeg) (M2 12 a.toNatClampNeg)) < 0 := h131
        refine ⟨xl_some ((xi_xt (xi_n0.mp h83)).trans ((xi_xf hz).trans (xi_xt hb))).symm, Eq.trans ?_ ((if_pos (xi_n0.mp h83)).trans ((if_neg hz).trans (if_pos hb))).symm⟩
        first
        | (rw [xi_xt (c := M2 17 a.toNatClampNeg = 0) h199]; rfl)
        | (rw [xi_xf (c := M2 17 a.toNatClampNeg = 0) h199]
           have e9 := xm_up_id (xm_up M2 0 0 (xq_t 5 (xg_n (xi_b (((0 ≤ a ∧ a ≤ M2 0 16 - 1)) ∧ ((0 ≤ p ∧ p ≤ M2 0 3 - 1)))) 1 (xi_b (((((0 ≤ a ∧ a ≤ M2 0 16 - 1)) ∧ ((0 ≤ p ∧ p ≤ M2 0 3 - 1))) ∧ M2 17 a.toNatClampNeg < 2 ∧ M2 3 (M2 12 a.toNatClampNeg).toNatClampNeg < M2 3 p.toNatClampNeg ∧ ¬ M2 18 a.toNatClampNeg = p))) 1))) 18 a.toNatClampNeg
           exact congrArg (fun z => xm_up z 17 a.toNatClampNeg 2) e9.symm)
      case g2008_i_208 =>
        first | exact yl_81 (xl_has (by decide) hpre.A (xi_n0.mp (xg_0 (xi_n0.mp h83)).1).1) | exact xl_room (by decide) rfl hpre.H (Int32.not_le.mpr h140) | exact xl_room (by decide) rfl hpre.H h140
      case g2009_i_215 =>
        first | exact yl_81 (xl_has (by decide) hpre.A (xi_n0.mp (xg_0 (xi_n0.mp h83)).1).1) | exact xl_room (by decide) rfl hpre.H (Int32.not_le.mpr h140) | exact xl_room (by decide) rfl hpre.H h140
      case g2010_w_217 =>
        first | rfl | exact xi_nb
      case g2011_r_217 =>
        have hz : ¬ (M2 13 a.toNatClampNeg = 0 ∧ M2 17 a.toNatClampNeg = 0) := by first | exact fun z => h94 z.1 | exact fun z => h103 z.2
        have hb : (ym_sh (xm_up M2 0 0 (xq_t 5 (xg_n (xi_b (((0 ≤ a ∧ a ≤ M2 0 16 - 1)) ∧ ((0 ≤ p ∧ p ≤ M2 0 3 - 1)))) 1 (xi_b (((((0 ≤ a ∧ a ≤ M2 0 16 - 1)) ∧ ((0 ≤ p ∧ p ≤ M2 0 3 - 1))) ∧ M2 17 a.toNatClampNeg < 2 ∧ M2 3 (M2 12 a.toNatClampNeg).toNatClampNeg < M2 3 p.toNatClampNeg ∧ ¬ M2 18 a.toNatClampNeg = p))) 1))) (M2 14 a.toNatClampNeg) (M2 15 a.toNatClampNeg) (M2 16 a.toNatClampNeg) (M2 12 a.toNatClampNeg)) < 0 := h131
        refine ⟨xl_some ((xi_xt (xi_n0.mp h83)).trans ((xi_xf hz).trans (xi_xt hb))).symm, Eq.trans ?_ ((if_pos (xi_n0.mp h83)).trans ((if_neg hz).trans (if_pos hb))).symm⟩
        first
        | (rw [xi_xt (c := M2 17 a.toNatClampNeg = 0) h199]; rfl)
        | (rw [xi_xf (c := M2 17 a.toNatClampNeg = 0) h199]
           have e9 := xm_up_id (xm_up M2 0 0 (xq_t 5 (xg_n (xi_b (((0 ≤ a ∧ a ≤ M2 0 16 - 1)) ∧ ((0 ≤ p ∧ p ≤ M2 0 3 - 1)))) 1 (xi_b (((((0 ≤ a ∧ a ≤ M2 0 16 - 1)) ∧ ((0 ≤ p ∧ p ≤ M2 0 3 - 1))) ∧ M2 17 a.toNatClampNeg < 2 ∧ M2 3 (M2 12 a.toNatClampNeg).toNatClampNeg < M2 3 p.toNatClampNeg ∧ ¬ M2 18 a.toNatClampNeg = p))) 1))) 18 a.toNatClampNeg
           exact congrArg (fun z => xm_up z 17 a.toNatClampNeg 2) e9.symm)
      case g2012_w_192 =>
        first | rfl | exact xi_nb
      case g2013_r_192 =>
        have hz : ¬ (M2 13 a.toNatClampNeg = 0 ∧ M2 17 a.toNatClampNeg = 0) := by first | exact fun z => h94 z.1 | exact fun z => h103 z.2
        have hb : ¬ (ym_sh (xm_up M2 0 0 (xq_t 5 (xg_n (xi_b (((0 ≤ a ∧ a ≤ M2 0 16 - 1)) ∧ ((0 ≤ p ∧ p ≤ M2 0 3 - 1)))) 1 (xi_b (((((0 ≤ a ∧ a ≤ M2 0 16 - 1)) ∧ ((0 ≤ p ∧ p ≤ M2 0 3 - 1))) ∧ M2 17 a.toNatClampNeg < 2 ∧ M2 3 (M2 12 a.toNatClampNeg).toNatClampNeg < M2 3 p.toNatClampNeg ∧ ¬ M2 18 a.toNatClampNeg = p))) 1))) (M2 14 a.toNatClampNeg) (M2 15 a.toNatClampNeg) (M2 16 a.toNatClampNeg) (M2 12 a.toNatClampNeg)) < 0 := h131
        first
        | exact ⟨xl_some ((xi_xt (xi_n0.mp h83)).trans ((xi_xf hz).trans (xi_xf hb))).symm, ((if_pos (xi_n0.mp h83)).trans ((if_neg hz).trans ((if_neg hb).trans (if_pos (Int32.not_le.mp h140))))).symm⟩
        | exact ⟨xl_some ((xi_xt (xi_n0.mp h83)).trans ((xi_xf hz).trans (xi_xf hb))).symm, ((if_pos (xi_n0.mp h83)).trans ((if_neg hz).trans ((if_neg hb).trans (if_neg (Int32.not_lt.mpr h140))))).symm⟩
      case g2014_i_152 =>
        first | exact yl_81 (xl_has (by decide) hpre.A (xi_n0.mp (xg_0 (xi_n0.mp h83)).1).1) | exact xl_room (by decide) rfl hpre.H (Int32.not_le.mpr h140) | exact xl_room (by decide) rfl hpre.H h140
      case g2015_n_165 =>
        decide
      case g2016_i_166 =>
        first | exact yl_81 (xl_has (by decide) hpre.A (xi_n0.mp (xg_0 (xi_n0.mp h83)).1).1) | exact xl_room (by decide) rfl hpre.H (Int32.not_le.mpr h140) | exact xl_room (by decide) rfl hpre.H h140
      case g2017_n_179 =>
        decide
      case g2018_i_180 =>
        first | exact yl_81 (xl_has (by decide) hpre.A (xi_n0.mp (xg_0 (xi_n0.mp h83)).1).1) | exact xl_room (by decide) rfl hpre.H (Int32.not_le.mpr h140) | exact xl_room (by decide) rfl hpre.H h140
      case g2019_w_192 =>
        first | rfl | exact xi_nb
      case g2020_r_192 =>
        have hz : ¬ (M2 13 a.toNatClampNeg = 0 ∧ M2 17 a.toNatClampNeg = 0) := by first | exact fun z => h94 z.1 | exact fun z => h103 z.2
        have hb : ¬ (ym_sh (xm_up M2 0 0 (xq_t 5 (xg_n (xi_b (((0 ≤ a ∧ a ≤ M2 0 16 - 1)) ∧ ((0 ≤ p ∧ p ≤ M2 0 3 - 1)))) 1 (xi_b (((((0 ≤ a ∧ a ≤ M2 0 16 - 1)) ∧ ((0 ≤ p ∧ p ≤ M2 0 3 - 1))) ∧ M2 17 a.toNatClampNeg < 2 ∧ M2 3 (M2 12 a.toNatClampNeg).toNatClampNeg < M2 3 p.toNatClampNeg ∧ ¬ M2 18 a.toNatClampNeg = p))) 1))) (M2 14 a.toNatClampNeg) (M2 15 a.toNatClampNeg) (M2 16 a.toNatClampNeg) (M2 12 a.toNatClampNeg)) < 0 := h131
        first
        | exact ⟨xl_some ((xi_xt (xi_n0.mp h83)).trans ((xi_xf hz).trans (xi_xf hb))).symm, ((if_pos (xi_n0.mp h83)).trans ((if_neg hz).trans ((if_neg hb).trans (if_pos (Int32.not_le.mp h140))))).symm⟩
        | exact ⟨xl_some ((xi_xt (xi_n0.mp h83)).trans ((xi_xf hz).trans (xi_xf hb))).symm, ((if_pos (xi_n0.mp h83)).trans ((if_neg hz).trans ((if_neg hb).trans (if_neg (Int32.not_lt.mpr h140))))).symm⟩
      case g2021_i_102 =>
        first | exact yl_81 (xl_has (by decide) hpre.A (xi_n0.mp (xg_0 (xi_n0.mp h83)).1).1) | exact xl_room (by decide) rfl hpre.H (Int32.not_le.mpr h140) | exact xl_room (by decide) rfl hpre.H h140
      case g2022_c_124 =>
        have hz := xi_n0.mp (xg_0 (xi_n0.mp h83)).1
        exact ⟨_, rfl, yl_81 (xl_has (by decide) hpre.A hz.1), (hpre.a hz.1).1, (hpre.a hz.1).2, hpre.W, hpre.P, hpre.A1, hpre.L⟩
      case g2023_i_198 =>
        first | exact yl_81 (xl_has (by decide) hpre.A (xi_n0.mp (xg_0 (xi_n0.mp h83)).1).1) | exact xl_room (by decide) rfl hpre.H (Int32.not_le.mpr h140) | exact xl_room (by decide) rfl hpre.H h140
      case g2024_i_215 =>
        first | exact yl_81 (xl_has (by decide) hpre.A (xi_n0.mp (xg_0 (xi_n0.mp h83)).1).1) | exact xl_room (by decide) rfl hpre.H (Int32.not_le.mpr h140) | exact xl_room (by decide) rfl hpre.H h140
      case g2025_w_217 =>
        first | rfl | exact xi_nb
      case g2026_r_217 =>
        have hz : ¬ (M2 13 a.toNatClampNeg = 0 ∧ M2 17 a.toNatClampNeg = 0) := by first | exact fun z => h94 z.1 | exact fun z => h103 z.2
        have hb : (ym_sh (xm_up M2 0 0 (xq_t 5 (xg_n (xi_b (((0 ≤ a ∧ a ≤ M2 0 16 - 1)) ∧ ((0 ≤ p ∧ p ≤ M2 0 3 - 1)))) 1 (xi_b (((((0 ≤ a ∧ a ≤ M2 0 16 - 1)) ∧ ((0 ≤ p ∧ p ≤ M2 0 3 - 1))) ∧ M2 17 a.toNatClampNeg < 2 ∧ M2 3 (M2 12 a.toNatClampNeg).toNatClampNeg < M2 3 p.toNatClampNeg ∧ ¬ M2 18 a.toNatClampNeg = p))) 1))) (M2 14 a.toNatClampNeg) (M2 15 a.toNatClampNeg) (M2 16 a.toNatClampNeg) (M2 12 a.toNatClampNeg)) < 0 := h131
        refine ⟨xl_some ((xi_xt (xi_n0.mp h83)).trans ((xi_xf hz).trans (xi_xt hb))).symm, Eq.trans ?_ ((if_pos (xi_n0.mp h83)).trans ((if_neg hz).trans (if_pos hb))).symm⟩
        first
        | (rw [xi_xt (c := M2 17 a.toNatClampNeg = 0) h199]; rfl)
        | (rw [xi_xf (c := M2 17 a.toNatClampNeg = 0) h199]
           have e9 := xm_up_id (xm_up M2 0 0 (xq_t 5 (xg_n (xi_b (((0 ≤ a ∧ a ≤ M2 0 16 - 1)) ∧ ((0 ≤ p ∧ p ≤ M2 0 3 - 1)))) 1 (xi_b (((((0 ≤ a ∧ a ≤ M2 0 16 - 1)) ∧ ((0 ≤ p ∧ p ≤ M2 0 3 - 1))) ∧ M2 17 a.toNatClampNeg < 2 ∧ M2 3 (M2 12 a.toNatClampNeg).toNatClampNeg < M2 3 p.toNatClampNeg ∧ ¬ M2 18 a.toNatClampNeg = p))) 1))) 18 a.toNatClampNeg
           exact congrArg (fun z => xm_up z 17 a.toNatClampNeg 2) e9.symm)
      case g2027_i_208 =>
        first | exact yl_81 (xl_has (by decide) hpre.A (xi_n0.mp (xg_0 (xi_n0.mp h83)).1).1) | exact xl_room (by decide) rfl hpre.H (Int32.not_le.mpr h140) | exact xl_room (by decide) rfl hpre.H h140
      case g2028_i_215 =>
        first | exact yl_81 (xl_has (by decide) hpre.A (xi_n0.mp (xg_0 (xi_n0.mp h83)).1).1) | exact xl_room (by decide) rfl hpre.H (Int32.not_le.mpr h140) | exact xl_room (by decide) rfl hpre.H h140
      case g2029_w_217 =>
        first | rfl | exact xi_nb
      case g2030_r_217 =>
        have hz : ¬ (M2 13 a.toNatClampNeg = 0 ∧ M2 17 a.toNatClampNeg = 0) := by first | exact fun z => h94 z.1 | exact fun z => h103 z.2
        have hb : (ym_sh (xm_up M2 0 0 (xq_t 5 (xg_n (xi_b (((0 ≤ a ∧ a ≤ M2 0 16 - 1)) ∧ ((0 ≤ p ∧ p ≤ M2 0 3 - 1)))) 1 (xi_b (((((0 ≤ a ∧ a ≤ M2 0 16 - 1)) ∧ ((0 ≤ p ∧ p ≤ M2 0 3 - 1))) ∧ M2 17 a.toNatClampNeg < 2 ∧ M2 3 (M2 12 a.toNatClampNeg).toNatClampNeg < M2 3 p.toNatClampNeg ∧ ¬ M2 18 a.toNatClampNeg = p))) 1))) (M2 14 a.toNatClampNeg) (M2 15 a.toNatClampNeg) (M2 16 a.toNatClampNeg) (M2 12 a.toNatClampNeg)) < 0 := h131
        refine ⟨xl_some ((xi_xt (xi_n0.mp h83)).trans ((xi_xf hz).trans (xi_xt hb))).symm, Eq.trans ?_ ((if_pos (xi_n0.mp h83)).trans ((if_neg hz).trans (if_pos hb))).symm⟩
        first
        | (rw [xi_xt (c := M2 17 a.toNatClampNeg = 0) h199]; rfl)
        | (rw [xi_xf (c := M2 17 a.toNatClampNeg = 0) h199]
           have e9 := xm_up_id (xm_up M2 0 0 (xq_t 5 (xg_n (xi_b (((0 ≤ a ∧ a ≤ M2 0 16 - 1)) ∧ ((0 ≤ p ∧ p ≤ M2 0 3 - 1)))) 1 (xi_b (((((0 ≤ a ∧ a ≤ M2 0 16 - 1)) ∧ ((0 ≤ p ∧ p ≤ M2 0 3 - 1))) ∧ M2 17 a.toNatClampNeg < 2 ∧ M2 3 (M2 12 a.toNatClampNeg).toNatClampNeg < M2 3 p.toNatClampNeg ∧ ¬ M2 18 a.toNatClampNeg = p))) 1))) 18 a.toNatClampNeg
           exact congrArg (fun z => xm_up z 17 a.toNatClampNeg 2) e9.symm)
      case g2031_w_192 =>
        first | rfl | exact xi_nb
      case g2032_r_192 =>
        have hz : ¬ (M2 13 a.toNatClampNeg = 0 ∧ M2 17 a.toNatClampNeg = 0) := by first | exact fun z => h94 z.1 | exact fun z => h103 z.2
        have hb : ¬ (ym_sh (xm_up M2 0 0 (xq_t 5 (xg_n (xi_b (((0 ≤ a ∧ a ≤ M2 0 16 - 1)) ∧ ((0 ≤ p ∧ p ≤ M2 0 3 - 1)))) 1 (xi_b (((((0 ≤ a ∧ a ≤ M2 0 16 - 1)) ∧ ((0 ≤ p ∧ p ≤ M2 0 3 - 1))) ∧ M2 17 a.toNatClampNeg < 2 ∧ M2 3 (M2 12 a.toNatClampNeg).toNatClampNeg < M2 3 p.toNatClampNeg ∧ ¬ M2 18 a.toNatClampNeg = p))) 1))) (M2 14 a.toNatClampNeg) (M2 15 a.toNatClampNeg) (M2 16 a.toNatClampNeg) (M2 12 a.toNatClampNeg)) < 0 := h131
        first
        | exact ⟨xl_some ((xi_xt (xi_n0.mp h83)).trans ((xi_xf hz).trans (xi_xf hb))).symm, ((if_pos (xi_n0.mp h83)).trans ((if_neg hz).trans ((if_neg hb).trans (if_pos (Int32.not_le.mp h140))))).symm⟩
        | exact ⟨xl_some ((xi_xt (xi_n0.mp h83)).trans ((xi_xf hz).trans (xi_xf hb))).symm, ((if_pos (xi_n0.mp h83)).trans ((if_neg hz).trans ((if_neg hb).trans (if_neg (Int32.not_lt.mpr h140))))).symm⟩
      case g2033_i_152 =>
        first | exact yl_81 (xl_has (by decide) hpre.A (xi_n0.mp (xg_0 (xi_n0.mp h83)).1).1) | exact xl_room (by decide) rfl hpre.H (Int32.not_le.mpr h140) | exact xl_room (by decide) rfl hpre.H h140
      case g2034_n_165 =>
        decide
      case g2035_i_166 =>
        first | exact yl_81 (xl_has (by decide) hpre.A (xi_n0.mp (xg_0 (xi_n0.mp h83)).1).1) | exact xl_room (by decide) rfl hpre.H (Int32.not_le.mpr h140) | exact xl_room (by decide) rfl hpre.H h140
      case g2036_n_179 =>
        decide
      case g2037_i_180 =>
        first | exact yl_81 (xl_has (by decide) hpre.A (xi_n0.mp (xg_0 (xi_n0.mp h83)).1).1) | exact xl_room (by decide) rfl hpre.H (Int32.not_le.mpr h140) | exact xl_room (by decide) rfl hpre.H h140
      case g2038_w_192 =>
        first | rfl | exact xi_nb
      case g2039_r_192 =>
        have hz : ¬ (M2 13 a.toNatClampNeg = 0 ∧ M2 17 a.toNatClampNeg = 0) := by first | exact fun z => h94 z.1 | exact fun z => h103 z.2
        have hb : ¬ (ym_sh (xm_up M2 0 0 (xq_t 5 (xg_n (xi_b (((0 ≤ a ∧ a ≤ M2 0 16 - 1)) ∧ ((0 ≤ p ∧ p ≤ M2 0 3 - 1)))) 1 (xi_b (((((0 ≤ a ∧ a ≤ M2 0 16 - 1)) ∧ ((0 ≤ p ∧ p ≤ M2 0 3 - 1))) ∧ M2 17 a.toNatClampNeg < 2 ∧ M2 3 (M2 12 a.toNatClampNeg).toNatClampNeg < M2 3 p.toNatClampNeg ∧ ¬ M2 18 a.toNatClampNeg = p))) 1))) (M2 14 a.toNatClampNeg) (M2 15 a.toNatClampNeg) (M2 16 a.toNatClampNeg) (M2 12 a.toNatClampNeg)) < 0 := h131
        first
        | exact ⟨xl_some ((xi_xt (xi_n0.mp h83)).trans ((xi_xf hz).trans (xi_xf hb))).symm, ((if_pos (xi_n0.mp h83)).trans ((if_neg hz).trans ((if_neg hb).trans (if_pos (Int32.not_le.mp h140))))).symm⟩
        | exact ⟨xl_some ((xi_xt (xi_n0.mp h83)).trans ((xi_xf hz).trans (xi_xf hb))).symm, ((if_pos (xi_n0.mp h83)).trans ((if_neg hz).trans ((if_neg hb).trans (if_neg (Int32.not_lt.mpr h140))))).symm⟩
      case g2040_i_112 =>
        first | exact yl_81 (xl_has (by decide) hpre.A (xi_n0.mp (xg_0 (xi_n0.mp h83)).1).1) | exact xl_room (by decide) rfl hpre.H (Int32.not_le.mpr h140) | exact xl_room (by decide) rfl hpre.H h140
      case g2041_i_119 =>
        first | exact yl_81 (xl_has (by decide) hpre.A (xi_n0.mp (xg_0 (xi_n0.mp h83)).1).1) | exact xl_room (by decide) rfl hpre.H (Int32.not_le.mpr h140) | exact xl_room (by decide) rfl hpre.H h140
      case g2042_w_121 =>
        first | rfl | exact xi_nb
      case g2043_r_121 =>
        exact ⟨xl_some ((xi_xt (xi_n0.mp h83)).trans (xi_xt ⟨h94, h103⟩)).symm, ((if_pos (xi_n0.mp h83)).trans (if_pos ⟨h94, h103⟩)).symm⟩
      case g2044_w_87 =>
        first | rfl | exact xi_nb
      case g2045_r_87 =>
        exact ⟨xl_some (xi_xf (xi_0.mp h83)).symm, (if_neg (xi_0.mp h83)).symm⟩
  · rintro as M ⟨a, p, rfl, hpre⟩
    refine ⟨400, (And.intro rfl (And.intro (Nat.le_of_ble_eq_true rfl) (And.intro (Nat.le_of_ble_eq_true rfl) (And.intro ?g1_c_2 (And.intro (by decide) (And.intro (fun h5 => (And.intro (Nat.le_of_ble_eq_true rfl) ?g2_k_22)) (fun h5 => (And.intro rfl (And.intro (Nat.le_of_ble_eq_true rfl) (And.intro (Nat.le_of_ble_eq_true rfl) (And.intro ?g3_c_10 (And.intro (by decide) (And.intro (fun h13 => (And.intro (Nat.le_of_ble_eq_true rfl) ?g4_k_22)) (fun h13 => (And.intro (by decide) (And.intro (Nat.le_of_ble_eq_true rfl) ?g5_k_22))))))))))))))))⟩
    case g1_c_2 =>
      exact ⟨_, rfl⟩
    case g2_k_22 =>
      refine ⟨2, Or.inl ⟨rfl, rfl, ?_, rfl, rfl⟩⟩
      rcases Classical.em (((0 ≤ a ∧ a ≤ M 0 16 - 1)) ∧ ((0 ≤ p ∧ p ≤ M 0 3 - 1))) with z0 | z0 <;> (first | rw [xi_t z0] | rw [xi_f z0]) <;> (first | rfl | (exfalso; simp only [xi_0, xi_n0] at *; grind [Int32.not_lt, Int32.not_le]))
    case g3_c_10 =>
      exact ⟨_, rfl⟩
    case g4_k_22 =>
      refine ⟨2, Or.inl ⟨rfl, rfl, ?_, rfl, rfl⟩⟩
      rcases Classical.em (((0 ≤ a ∧ a ≤ M 0 16 - 1)) ∧ ((0 ≤ p ∧ p ≤ M 0 3 - 1))) with z0 | z0 <;> (first | rw [xi_t z0] | rw [xi_f z0]) <;> (first | rfl | (exfalso; simp only [xi_0, xi_n0] at *; grind [Int32.not_lt, Int32.not_le]))
    case g5_k_22 =>
      refine ⟨2, Or.inl ⟨rfl, rfl, ?_, rfl, rfl⟩⟩
      rcases Classical.em (((0 ≤ a ∧ a ≤ M 0 16 - 1)) ∧ ((0 ≤ p ∧ p ≤ M 0 3 - 1))) with z0 | z0 <;> (first | rw [xi_t z0] | rw [xi_f z0]) <;> (first | rfl | (exfalso; simp only [xi_0, xi_n0] at *; grind [Int32.not_lt, Int32.not_le]))
def pM_ask (as : List Value) (M : xm_M) : Prop := ∃ p k f t h : Int32, as = [.ref 0, .int p, .int k, .int f, .int t, .int h] ∧ xv_J M
noncomputable def fM_ask (as : List Value) (M : xm_M) : Option Value × xm_M := match as with
  | [_, .int p, .int k, .int f, .int t, .int h] => (some (.int (xi_x (xg_n (xi_b (ym_kp M p k)) (xi_b (ym_rg f t h)) (xi_b (ym_ri M p k f t h)) (xi_b (M 0 16 < 80)) = 0) (M 0 16 + 1 - 1) 0)), (@ite xm_M (xg_n (xi_b (ym_kp M p k)) (xi_b (ym_rg f t h)) (xi_b (ym_ri M p k f t h)) (xi_b (M 0 16 < 80)) = 0) (Classical.propDecidable _) ((fM_put [.ref 0, .int p, .int k, .int f, .int t, .int h] (xm_up (ym_mq M p k f t h) 0 0 (xq_t 15 (xg_n (xi_b (ym_kp M p k)) (xi_b (ym_rg f t h)) (xi_b (ym_ri M p k f t h)) (xi_b (M 0 16 < 80)))))).2) (xm_up (ym_mq M p k f t h) 0 0 (xq_t 15 (xg_n (xi_b (ym_kp M p k)) (xi_b (ym_rg f t h)) (xi_b (ym_ri M p k f t h)) (xi_b (M 0 16 < 80)))))))
  | _ => (none, M)
noncomputable abbrev sM_ask : xm_C := (0, 6, 1, pM_ask, fM_ask)
theorem vM_ask : ∀ as M, pM_ask as M → ∃ as1, as = .ref 0 :: as1 := by
  rintro as M ⟨p, k, f, t, h, rfl, hpre⟩
  exact ⟨_, rfl⟩
noncomputable def tM_ask : List (Nat × xm_C) := [(151, sM_isPerson), (102, sM_in), (112, sM_isDay), (176, sM_put), (154, sM_isEnough), (116, sM_goes)]
theorem lM_ask (l : Launch) : ∀ n C, (n, C) ∈ tM_ask → xm_lkS l "AbsenceRowsModel" xt_T xk_ns (xr_ 5) xk_cl xk_tM n C ∨ xm_lkV l "AbsenceRowsModel" xt_T xk_ns (xr_ 5) xk_cl xk_tM n C := fun n C h => (show ∀ q ∈ tM_ask, xm_lkS l "AbsenceRowsModel" xt_T xk_ns (xr_ 5) xk_cl xk_tM q.1 q.2 ∨ xm_lkV l "AbsenceRowsModel" xt_T xk_ns (xr_ 5) xk_cl xk_tM q.1 q.2 from List.forall_mem_cons.mpr ⟨Or.inr ⟨xy_M_isPerson, xb_M_isPerson, 2, (some .boolean), xr_ 1, 1, 0, 7, [none, none, some 1, none, some 2, some 3, some 4, some 5, some 6, some 7, some 8, none, none, some 9, some 10, some 11, none, some 12, some 13, some 14, some 15, some 16, some 17, some 18, none, some 19, some 20, some 21, none, some 22, some 23, some 24, some 25, some 26, some 27, some 28, none], xk_T7, 37, rfl, rfl, ⟨xe_M_isPerson, xw_44, ⟨by decide, by decide, by decide +kernel⟩, ⟨Nat.le_of_ble_eq_true rfl, Nat.le_of_ble_eq_true rfl⟩, rfl, rfl⟩, xw_940, xw_942, xw_16, rfl, rfl, vM_isPerson, Or.inl ⟨rfl, uM_isPerson, cM_isPerson l⟩⟩, List.forall_mem_cons.mpr ⟨Or.inl ⟨xy_M_in, xb_M_in, 3, (some .boolean), xr_ 0, rfl, ⟨xe_M_in, xw_44, ⟨by decide, by decide, by decide +kernel⟩, ⟨Nat.le_of_ble_eq_true rfl, Nat.le_of_ble_eq_true rfl⟩, rfl, rfl⟩, xw_927, Or.inl xw_926, Or.inl ⟨rfl, uM_in, cM_in l⟩⟩, List.forall_mem_cons.mpr ⟨Or.inl ⟨xy_M_isDay, xb_M_isDay, 1, (some .boolean), xr_ 1, rfl, ⟨xe_M_isDay, xw_44, ⟨by decide, by decide, by decide +kernel⟩, ⟨Nat.le_of_ble_eq_true rfl, Nat.le_of_ble_eq_true rfl⟩, rfl, rfl⟩, xw_930, Or.inl xw_929, Or.inl ⟨rfl, uM_isDay, cM_isDay l⟩⟩, List.forall_mem_cons.mpr ⟨Or.inr ⟨xy_M_put, xb_M_put, 6, none, xr_ 0, 5, 0, 7, [none, none, some 1, none, some 2, some 3, some 4, some 5, some 6, some 7, some 8, none, none, some 9, some 10, some 11, none, some 12, some 13, some 14, some 15, some 16, some 17, some 18, none, some 19, some 20, some 21, none, some 22, some 23, some 24, some 25, some 26, some 27, some 28, none], xk_T7, 37, rfl, rfl, ⟨xe_M_put, xw_44, ⟨by decide, by decide, by decide +kernel⟩, ⟨Nat.le_of_ble_eq_true rfl, Nat.le_of_ble_eq_true rfl⟩, rfl, rfl⟩, xw_1026, xw_1028, xw_29, rfl, rfl, vM_put, Or.inr ⟨rfl, cM_put l⟩⟩, List.forall_mem_cons.mpr ⟨Or.inr ⟨xy_M_isEnough, xb_M_isEnough, 2, (some .boolean), xr_ 4, 1, 0, 7, [none, none, some 1, none, some 2, some 3, some 4, some 5, some 6, some 7, some 8, none, none, some 9, some 10, some 11, none, some 12, some 13, some 14, some 15, some 16, some 17, some 18, none, some 19, some 20, some 21, none, some 22, some 23, some 24, some 25, some 26, some 27, some 28, none], xk_T7, 37, rfl, rfl, ⟨xe_M_isEnough, xw_44, ⟨by decide, by decide, by decide +kernel⟩, ⟨Nat.le_of_ble_eq_true rfl, Nat.le_of_ble_eq_true rfl⟩, rfl, rfl⟩, xw_944, xw_946, xw_17, rfl, rfl, vM_isEnough, Or.inl ⟨rfl, uM_isEnough, cM_isEnough l⟩⟩, List.forall_mem_cons.mpr ⟨Or.inr ⟨xy_M_goes, xb_M_goes, 8, (some .boolean), xr_ 0, 5, 0, 7, [none, none, some 1, none, some 2, some 3, some 4, some 5, some 6, some 7, some 8, none, none, some 9, some 10, some 11, none, some 12, some 13, some 14, some 15, some 16, some 17, some 18, none, some 19, some 20, some 21, none, some 22, some 23, some 24, some 25, some 26, some 27, some 28, none], xk_T7, 37, rfl, rfl, ⟨xe_M_goes, xw_44, ⟨by decide, by decide, by decide +kernel⟩, ⟨Nat.le_of_ble_eq_true rfl, Nat.le_of_ble_eq_true rfl⟩, rfl, rfl⟩, xw_932, xw_934, xw_15, rfl, rfl, vM_goes, Or.inr ⟨rfl, cM_goes l⟩⟩, fun _ h => absurd h List.not_mem_nil⟩⟩⟩⟩⟩⟩) (n, C) h
set_option maxRecDepth 20000 in
set_option maxHeartbeats 2000000 in
theorem cM_ask (l : Launch) : xm_Wr l xy_M_ask (Cond.code xy_M_ask xb_M_ask 10 (some .int) :: xt_T) (xr_ 5) xk_cl xk_ns xk_tM pM_ask fM_ask := by
  refine xm_mk_wr (rt := .int) (fl := xf_M) (ct := tM_ask) (cn := []) (cj := xj_M) (plainFor_of_name (by decide)) xs_M xd_M_ask rfl (Or.inr rfl) (lM_ask l) (fun as M j pc ls st M2 cl => match as with | [_, .int p, .int k, .int f, .int t, .int h] => (j = 1006 ∧ pc = 24 ∧ ls = [(0, .ref 0), (1, .int p), (2, .int k), (3, .int f), (4, .int t), (5, .int h), (6, .int (xi_b (ym_kp M p k)))] ∧ st = [] ∧ M2 = M) ∨ (j = 1005 ∧ pc = 88 ∧ ls = [(0, .ref 0), (1, .int p), (2, .int k), (3, .int f), (4, .int t), (5, .int h), (6, .int (xi_b (ym_kp M p k))), (7, .int (xi_b (ym_rg f t h)))] ∧ st = [] ∧ M2 = M) ∨ (j = 1004 ∧ pc = 105 ∧ ls = [(0, .ref 0), (1, .int p), (2, .int k), (3, .int f), (4, .int t), (5, .int h), (6, .int (xi_b (ym_kp M p k))), (7, .int (xi_b (ym_rg f t h))), (8, .int (xi_b (ym_kp M p k ∧ ym_rg f t h)))] ∧ st = [] ∧ M2 = M) ∨ (∃ i c : Nat, M 0 16 = nI c ∧ c ≤ 80 ∧ i ≤ c ∧ j = 10 + (c - i) ∧ pc = 108 ∧ ls = [(0, .ref 0), (1, .int p), (2, .int k), (3, .int f), (4, .int t), (5, .int h), (6, .int (xi_b (ym_kp M p k))), (7, .int (xi_b (ym_rg f t h))), (8, .int (xi_b (ym_r0 M p k f t h i))), (9, .int (nI i))] ∧ st = [] ∧ M2 = M) ∨ (∃ x : Int32, j = 9 ∧ pc = 213 ∧ ls = [(0, .ref 0), (1, .int p), (2, .int k), (3, .int f), (4, .int t), (5, .int h), (6, .int (xi_b (ym_kp M p k))), (7, .int (xi_b (ym_rg f t h))), (8, .int (xi_b (ym_ri M p k f t h))), (9, .int x)] ∧ st = [] ∧ M2 = (ym_mq M p k f t h)) ∨ (∃ x : Int32, j = 8 ∧ pc = 236 ∧ ls = [(0, .ref 0), (1, .int p), (2, .int k), (3, .int f), (4, .int t), (5, .int h), (6, .int (xi_b (ym_kp M p k))), (7, .int (xi_b (ym_rg f t h))), (8, .int (xi_b (ym_ri M p k f t h))), (9, .int x)] ∧ st = [.int (xi_b (M 0 16 < 80)), .int (xi_b (ym_ri M p k f t h)), .int (xi_b (ym_rg f t h)), .int (xi_b (ym_kp M p k)), .int 15, .ref 0] ∧ M2 = (ym_mq M p k f t h)) | _ => False) ?_ ?_ ?_ ?_ ?_
  · rintro as M ⟨p, k, f, t, h, rfl, hpre⟩; exact Nat.le_of_ble_eq_true rfl
  · rintro as M ⟨p, k, f, t, h, rfl, hpre⟩; simp [fM_ask]
  · rintro as M v ⟨p, k, f, t, h, rfl, hpre⟩ h; first | rfl | (simp [fM_ask] at h)
  · rintro as M ⟨p, k, f, t, h, rfl, hpre⟩ j pc ls st M2 cl (⟨hj, rfl, rfl, rfl, rfl⟩ | ⟨hj, rfl, rfl, rfl, rfl⟩ | ⟨hj, rfl, rfl, rfl, rfl⟩ | ⟨i, c, hc, hc20, hic, hj, rfl, rfl, rfl, rfl⟩ | ⟨x, hj, rfl, rfl, rfl, rfl⟩ | ⟨x, hj, rfl, rfl, rfl, rfl⟩)
    · skip
      refine ⟨400, (And.intro rfl (And.intro (Nat.le_of_ble_eq_true rfl) (And.intro (Nat.le_of_ble_eq_true rfl) (And.intro ?g1001_c_25 (And.intro (by decide) (And.intro (fun h28 => (And.intro (Nat.le_of_ble_eq_true rfl) ?g1002_k_88)) (fun h28 => (And.intro rfl (And.intro (Nat.le_of_ble_eq_true rfl) (And.intro (Nat.le_of_ble_eq_true rfl) (And.intro ?g1003_c_33 (And.intro (by decide) (And.intro (fun h36 => (And.intro (Nat.le_of_ble_eq_true rfl) ?g1004_k_88)) (fun h36 => (And.intro (by decide) (And.intro (fun h42 => (And.intro (Nat.le_of_ble_eq_true rfl) ?g1005_k_88)) (fun h42 => (And.intro ?g1006_n_49 (And.intro ?g1007_n_55 (And.intro (by decide) (And.intro (fun h56 => (And.intro (Nat.le_of_ble_eq_true rfl) ?g1008_k_88)) (fun h56 => (And.intro rfl (And.intro (Nat.le_of_ble_eq_true rfl) (And.intro (Nat.le_of_ble_eq_true rfl) (And.intro ?g1009_c_63 (And.intro (by decide) (And.intro (fun h66 => (And.intro (Nat.le_of_ble_eq_true rfl) ?g1010_k_88)) (fun h66 => (And.intro (by decide) (And.intro (fun h72 => (And.intro (by decide) (And.intro (Nat.le_of_ble_eq_true rfl) ?g1011_k_88))) (fun h72 => (And.intro (by decide) (And.intro (fun h78 => (And.intro (Nat.le_of_ble_eq_true rfl) ?g1012_k_88)) (fun h78 => (And.intro (by decide) (And.intro (Nat.le_of_ble_eq_true rfl) ?g1013_k_88)))))))))))))))))))))))))))))))))))))⟩
      case g1001_c_25 =>
        exact ⟨_, rfl⟩
      case g1002_k_88 =>
        refine ⟨1005, by omega, Or.inr (Or.inl ⟨rfl, rfl, ?_, rfl, rfl⟩)⟩
        rcases Classical.em (ym_rg f t h) with z0 | z0 <;> (first | rw [xi_t z0] | rw [xi_f z0]) <;> (first | rfl | (exfalso; simp only [xi_0, xi_n0, ym_rg] at *; grind [Int32.not_lt, Int32.not_le]))
      case g1003_c_33 =>
        exact ⟨_, rfl⟩
      case g1004_k_88 =>
        refine ⟨1005, by omega, Or.inr (Or.inl ⟨rfl, rfl, ?_, rfl, rfl⟩)⟩
        rcases Classical.em (ym_rg f t h) with z0 | z0 <;> (first | rw [xi_t z0] | rw [xi_f z0]) <;> (first | rfl | (exfalso; simp only [xi_0, xi_n0, ym_rg] at *; grind [Int32.not_lt, Int32.not_le]))
      case g1005_k_88 =>
        refine ⟨1005, by omega, Or.inr (Or.inl ⟨rfl, rfl, ?_, rfl, rfl⟩)⟩
        rcases Classical.em (ym_rg f t h) with z0 | z0 <;> (first | rw [xi_t z0] | rw [xi_f z0]) <;> (first | rfl | (exfalso; simp only [xi_0, xi_n0, ym_rg] at *; grind [Int32.not_lt, Int32.not_le]))
      case g1006_n_49 =>
        decide
      case g1007_n_55 =>
        decide
      case g1008_k_88 =>
        refine ⟨1005, by omega, Or.inr (Or.inl ⟨rfl, rfl, ?_, rfl, rfl⟩)⟩
        rcases Classical.em (ym_rg f t h) with z0 | z0 <;> (first | rw [xi_t z0] | rw [xi_f z0]) <;> (first | rfl | (exfalso; simp only [xi_0, xi_n0, ym_rg] at *; grind [Int32.not_lt, Int32.not_le]))
      case g1009_c_63 =>
        exact ⟨_, _, _, rfl⟩
      case g1010_k_88 =>
        refine ⟨1005, by omega, Or.inr (Or.inl ⟨rfl, rfl, ?_, rfl, rfl⟩)⟩
        rcases Classical.em (ym_rg f t h) with z0 | z0 <;> (first | rw [xi_t z0] | rw [xi_f z0]) <;> (first | rfl | (exfalso; simp only [xi_0, xi_n0, ym_rg] at *; grind [Int32.not_lt, Int32.not_le]))
      case g1011_k_88 =>
        refine ⟨1005, by omega, Or.inr (Or.inl ⟨rfl, rfl, ?_, rfl, rfl⟩)⟩
        rcases Classical.em (ym_rg f t h) with z0 | z0 <;> (first | rw [xi_t z0] | rw [xi_f z0]) <;> (first | rfl | (exfalso; simp only [xi_0, xi_n0, ym_rg] at *; grind [Int32.not_lt, Int32.not_le]))
      case g1012_k_88 =>
        refine ⟨1005, by omega, Or.inr (Or.inl ⟨rfl, rfl, ?_, rfl, rfl⟩)⟩
        rcases Classical.em (ym_rg f t h) with z0 | z0 <;> (first | rw [xi_t z0] | rw [xi_f z0]) <;> (first | rfl | (exfalso; simp only [xi_0, xi_n0, ym_rg] at *; grind [Int32.not_lt, Int32.not_le]))
      case g1013_k_88 =>
        refine ⟨1005, by omega, Or.inr (Or.inl ⟨rfl, rfl, ?_, rfl, rfl⟩)⟩
        rcases Classical.em (ym_rg f t h) with z0 | z0 <;> (first | rw [xi_t z0] | rw [xi_f z0]) <;> (first | rfl | (exfalso; simp only [xi_0, xi_n0, ym_rg] at *; grind [Int32.not_lt, Int32.not_le]))
    · skip
      refine ⟨400, (And.intro (by decide) (And.intro (fun h90 => (And.intro (Nat.le_of_ble_eq_true rfl) ?g2001_k_105)) (fun h90 => (And.intro (by decide) (And.intro (fun h95 => (And.intro (Nat.le_of_ble_eq_true rfl) ?g2002_k_105)) (fun h95 => (And.intro (by decide) (And.intro (Nat.le_of_ble_eq_true rfl) ?g2003_k_105))))))))⟩
      case g2001_k_105 =>
        refine ⟨1004, by omega, Or.inr (Or.inr (Or.inl ⟨rfl, rfl, ?_, rfl, rfl⟩))⟩
        rcases Classical.em (ym_kp M2 p k ∧ ym_rg f t h) with z0 | z0
        · rw [xi_t z0]; all_goals first | rfl | (exfalso; exact xi_0.mp h90 z0.1) | (exfalso; exact xi_0.mp h95 z0.2)
        · rw [xi_f z0]; all_goals first | rfl | (exfalso; exact z0 ⟨xi_n0.mp h90, xi_n0.mp h95⟩)
      case g2002_k_105 =>
        refine ⟨1004, by omega, Or.inr (Or.inr (Or.inl ⟨rfl, rfl, ?_, rfl, rfl⟩))⟩
        rcases Classical.em (ym_kp M2 p k ∧ ym_rg f t h) with z0 | z0
        · rw [xi_t z0]; all_goals first | rfl | (exfalso; exact xi_0.mp h90 z0.1) | (exfalso; exact xi_0.mp h95 z0.2)
        · rw [xi_f z0]; all_goals first | rfl | (exfalso; exact z0 ⟨xi_n0.mp h90, xi_n0.mp h95⟩)
      case g2003_k_105 =>
        refine ⟨1004, by omega, Or.inr (Or.inr (Or.inl ⟨rfl, rfl, ?_, rfl, rfl⟩))⟩
        rcases Classical.em (ym_kp M2 p k ∧ ym_rg f t h) with z0 | z0
        · rw [xi_t z0]; all_goals first | rfl | (exfalso; exact xi_0.mp h90 z0.1) | (exfalso; exact xi_0.mp h95 z0.2)
        · rw [xi_f z0]; all_goals first | rfl | (exfalso; exact z0 ⟨xi_n0.mp h90, xi_n0.mp h95⟩)
    · skip
      refine ⟨400, (And.intro (Nat.le_of_ble_eq_true rfl) ?g3001_k_108)⟩
      case g3001_k_108 =>
        obtain ⟨c0, hc0, hc1⟩ := hpre.A
        refine ⟨10 + (c0 - 0), by omega, Or.inr (Or.inr (Or.inr (Or.inl ⟨0, c0, hc1, hc0, Nat.zero_le _, rfl, rfl, ?_, rfl, rfl⟩)))⟩
        have e1 : (ym_kp M2 p k ∧ ym_rg f t h) = ym_r0 M2 p k f t h 0 := by
          refine propext ⟨fun z => ⟨z, fun u hu => absurd hu (Nat.not_lt_zero u)⟩, fun z => z.1⟩
        rw [← e1]; rfl
    · skip
      refine ⟨400, (And.intro rfl (And.intro (by decide) (And.intro (fun h114 => (And.intro (by decide) (And.intro (fun h178 => ?g4001_k_213) (fun h178 => (And.intro (by decide) (And.intro (fun h182 => ?g4002_k_213) (fun h182 => (And.intro rfl (And.intro (Nat.le_of_ble_eq_true rfl) (And.intro (Nat.le_of_ble_eq_true rfl) (And.intro ?g4003_c_193 (And.intro rfl (And.intro (Nat.le_of_ble_eq_true rfl) (And.intro (Nat.le_of_ble_eq_true rfl) (And.intro ?g4004_c_198 (And.intro (Nat.le_of_ble_eq_true rfl) (And.intro rfl (And.intro rfl (And.intro rfl ?g4005_k_213))))))))))))))))))) (fun h114 => (And.intro (by decide) (And.intro (fun h119 => (And.intro (by decide) (And.intro (fun h178 => ?g4006_k_213) (fun h178 => (And.intro (by decide) (And.intro (fun h182 => ?g4007_k_213) (fun h182 => (And.intro rfl (And.intro (Nat.le_of_ble_eq_true rfl) (And.intro (Nat.le_of_ble_eq_true rfl) (And.intro ?g4008_c_193 (And.intro rfl (And.intro (Nat.le_of_ble_eq_true rfl) (And.intro (Nat.le_of_ble_eq_true rfl) (And.intro ?g4009_c_198 (And.intro (Nat.le_of_ble_eq_true rfl) (And.intro rfl (And.intro rfl (And.intro rfl ?g4010_k_213))))))))))))))))))) (fun h119 => (And.intro rfl (And.intro rfl (And.intro ?g4011_i_128 (And.intro (by decide) (And.intro (fun h130 => (And.intro (Nat.le_of_ble_eq_true rfl) (And.intro (by decide) ?g4012_k_108))) (fun h130 => (And.intro rfl (And.intro rfl (And.intro ?g4013_i_139 (And.intro (by decide) (And.intro (fun h141 => (And.intro (Nat.le_of_ble_eq_true rfl) (And.intro (by decide) ?g4014_k_108))) (fun h141 => (And.intro rfl (And.intro rfl (And.intro ?g4015_i_151 (And.intro (by decide) (And.intro (fun h152 => (And.intro (Nat.le_of_ble_eq_true rfl) (And.intro (by decide) ?g4016_k_108))) (fun h152 => (And.intro rfl (And.intro rfl (And.intro ?g4017_i_161 (And.intro (by decide) (And.intro (fun h164 => (And.intro (Nat.le_of_ble_eq_true rfl) (And.intro (by decide) ?g4018_k_108))) (fun h164 => (And.intro (Nat.le_of_ble_eq_true rfl) (And.intro (Nat.le_of_ble_eq_true rfl) (And.intro (by decide) ?g4019_k_108))))))))))))))))))))))))))))))))))⟩
      case g4001_k_213 =>
        have hR : ∀ (q : Nat), q = i → (¬ (M2 0 16 ≤ nI i) → ¬ ym_r0 M2 p k f t h q) → (ym_r0 M2 p k f t h q ↔ ym_r0 M2 p k f t h (M2 0 16).toNatClampNeg) := by
          intro q hq hno
          subst hq
          rcases Classical.em (M2 0 16 ≤ nI q) with z | z
          · have e1 := xl_end hc (by omega) hic z
            have e2 : (M2 0 16).toNatClampNeg = q := by rw [hc, nI_clamp (by omega), e1]
            rw [e2]
          · refine ⟨fun y => absurd y (hno z), fun y => absurd ⟨y.1, fun u hu => y.2 u ?_⟩ (hno z)⟩
            rw [hc, nI_clamp (by omega)]; omega
        have hS := hR i rfl (by first | exact fun _ => xi_0.mp h119 | exact fun z => absurd h114 z)
        refine ⟨9, by omega, Or.inr (Or.inr (Or.inr (Or.inr (Or.inl ⟨nI i, rfl, rfl, ?_, rfl, ?_⟩))))⟩
        · by_cases hz : ym_ri M2 p k f t h
          · rw [xi_t hz]
            all_goals first
            | rfl
            | (exfalso; exact xi_0.mp h178 (hS.mpr hz.1))
            | (rw [xi_t (c := ym_r0 M2 p k f t h i) (hS.mpr hz.1)]; rfl)
            | (have e3 := hz.2 h182; show _ = _; unfold ym_mp at e3; rw [show (xi_b (ym_en (fM_put [.ref 0, .int p, .int k, .int f, .int t, .int h] M2).2 p)) = 1 from xi_t e3] ; rfl)
            | (have e3 := xi_t (hz.2 h182); exact congrArg (fun z => [(0, Value.ref 0), (1, Value.int p), (2, Value.int k), (3, Value.int f), (4, Value.int t), (5, Value.int h), (6, Value.int (xi_b (ym_kp M2 p k))), (7, Value.int (xi_b (ym_rg f t h))), (8, Value.int z), (9, Value.int (nI i))]) e3)
          · rw [xi_f hz]
            all_goals first
            | rfl
            | (rw [xi_f (c := ym_r0 M2 p k f t h i) (fun y => by first | exact xi_0.mp h178 y | exact hz ⟨hS.mp y, fun z => absurd z h182⟩)]; rfl)
            | (have e3 := xi_f (c := ym_en (ym_mp M2 p k f t h) p) (fun y => hz ⟨hS.mp (xi_n0.mp h178), fun _ => y⟩); exact congrArg (fun z => [(0, Value.ref 0), (1, Value.int p), (2, Value.int k), (3, Value.int f), (4, Value.int t), (5, Value.int h), (6, Value.int (xi_b (ym_kp M2 p k))), (7, Value.int (xi_b (ym_rg f t h))), (8, Value.int z), (9, Value.int (nI i))]) e3)
        · unfold ym_mq
          first
          | (rw [if_neg (fun z => xi_0.mp h178 (hS.mpr z.1))]; done)
          | (rw [if_neg (fun z => h182 z.2)]; done)
          | (rw [if_pos ⟨hS.mp (xi_n0.mp h178), h182⟩]; rfl)
      case g4002_k_213 =>
        have hR : ∀ (q : Nat), q = i → (¬ (M2 0 16 ≤ nI i) → ¬ ym_r0 M2 p k f t h q) → (ym_r0 M2 p k f t h q ↔ ym_r0 M2 p k f t h (M2 0 16).toNatClampNeg) := by
          intro q hq hno
          subst hq
          rcases Classical.em (M2 0 16 ≤ nI q) with z | z
          · have e1 := xl_end hc (by omega) hic z
            have e2 : (M2 0 16).toNatClampNeg = q := by rw [hc, nI_clamp (by omega), e1]
            rw [e2]
          · refine ⟨fun y => absurd y (hno z), fun y => absurd ⟨y.1, fun u hu => y.2 u ?_⟩ (hno z)⟩
            rw [hc, nI_clamp (by omega)]; omega
        have hS := hR i rfl (by first | exact fun _ => xi_0.mp h119 | exact fun z => absurd h114 z)
        refine ⟨9, by omega, Or.inr (Or.inr (Or.inr (Or.inr (Or.inl ⟨nI i, rfl, rfl, ?_, rfl, ?_⟩))))⟩
        · by_cases hz : ym_ri M2 p k f t h
          · rw [xi_t hz]
            all_goals first
            | rfl
            | (exfalso; exact xi_0.mp h178 (hS.mpr hz.1))
            | (rw [xi_t (c := ym_r0 M2 p k f t h i) (hS.mpr hz.1)]; rfl)
            | (have e3 := hz.2 h182; show _ = _; unfold ym_mp at e3; rw [show (xi_b (ym_en (fM_put [.ref 0, .int p, .int k, .int f, .int t, .int h] M2).2 p)) = 1 from xi_t e3] ; rfl)
            | (have e3 := xi_t (hz.2 h182); exact congrArg (fun z => [(0, Value.ref 0), (1, Value.int p), (2, Value.int k), (3, Value.int f), (4, Value.int t), (5, Value.int h), (6, Value.int (xi_b (ym_kp M2 p k))), (7, Value.int (xi_b (ym_rg f t h))), (8, Value.int z), (9, Value.int (nI i))]) e3)
          · rw [xi_f hz]
            all_goals first
            | rfl
            | (rw [xi_f (c := ym_r0 M2 p k f t h i) (fun y => by first | exact xi_0.mp h178 y | exact hz ⟨hS.mp y, fun z => absurd z h182⟩)]; rfl)
            | (have e3 := xi_f (c := ym_en (ym_mp M2 p k f t h) p) (fun y => hz ⟨hS.mp (xi_n0.mp h178), fun _ => y⟩); exact congrArg (fun z => [(0, Value.ref 0), (1, Value.int p), (2, Value.int k), (3, Value.int f), (4, Value.int t), (5, Value.int h), (6, Value.int (xi_b (ym_kp M2 p k))), (7, Value.int (xi_b (ym_rg f t h))), (8, Value.int z), (9, Value.int (nI i))]) e3)
        · unfold ym_mq
          first
          | (rw [if_neg (fun z => xi_0.mp h178 (hS.mpr z.1))]; done)
          | (rw [if_neg (fun z => h182 z.2)]; done)
          | (rw [if_pos ⟨hS.mp (xi_n0.mp h178), h182⟩]; rfl)
      case g4003_c_193 =>
        have hA : vp_in (M2 0 16) 81 := by rw [hc]; exact vp_in_nI (by omega) (by decide)
        exact ⟨_, _, _, _, _, rfl, hA⟩
      case g4004_c_198 =>
        have hr := xi_n0.mp h178
        have hg := hr.1.2
        exact ⟨_, rfl, xl_has (by decide) hpre.P hr.1.1.1, yl_put hpre p k f t h (xl_span hg.1 hg.2.1 hg.2.2.1)⟩
      case g4005_k_213 =>
        have hR : ∀ (q : Nat), q = i → (¬ (M2 0 16 ≤ nI i) → ¬ ym_r0 M2 p k f t h q) → (ym_r0 M2 p k f t h q ↔ ym_r0 M2 p k f t h (M2 0 16).toNatClampNeg) := by
          intro q hq hno
          subst hq
          rcases Classical.em (M2 0 16 ≤ nI q) with z | z
          · have e1 := xl_end hc (by omega) hic z
            have e2 : (M2 0 16).toNatClampNeg = q := by rw [hc, nI_clamp (by omega), e1]
            rw [e2]
          · refine ⟨fun y => absurd y (hno z), fun y => absurd ⟨y.1, fun u hu => y.2 u ?_⟩ (hno z)⟩
            rw [hc, nI_clamp (by omega)]; omega
        have hS := hR i rfl (by first | exact fun _ => xi_0.mp h119 | exact fun z => absurd h114 z)
        refine ⟨9, by omega, Or.inr (Or.inr (Or.inr (Or.inr (Or.inl ⟨nI i, rfl, rfl, ?_, rfl, ?_⟩))))⟩
        · by_cases hz : ym_ri M2 p k f t h
          · rw [xi_t hz]
            all_goals first
            | rfl
            | (exfalso; exact xi_0.mp h178 (hS.mpr hz.1))
            | (rw [xi_t (c := ym_r0 M2 p k f t h i) (hS.mpr hz.1)]; rfl)
            | (have e3 := hz.2 h182; show _ = _; unfold ym_mp at e3; rw [show (xi_b (ym_en (fM_put [.ref 0, .int p, .int k, .int f, .int t, .int h] M2).2 p)) = 1 from xi_t e3] ; rfl)
            | (have e3 := xi_t (hz.2 h182); exact congrArg (fun z => [(0, Value.ref 0), (1, Value.int p), (2, Value.int k), (3, Value.int f), (4, Value.int t), (5, Value.int h), (6, Value.int (xi_b (ym_kp M2 p k))), (7, Value.int (xi_b (ym_rg f t h))), (8, Value.int z), (9, Value.int (nI i))]) e3)
          · rw [xi_f hz]
            all_goals first
            | rfl
            | (rw [xi_f (c := ym_r0 M2 p k f t h i) (fun y => by first | exact xi_0.mp h178 y | exact hz ⟨hS.mp y, fun z => absurd z h182⟩)]; rfl)
            | (have e3 := xi_f (c := ym_en (ym_mp M2 p k f t h) p) (fun y => hz ⟨hS.mp (xi_n0.mp h178), fun _ => y⟩); exact congrArg (fun z => [(0, Value.ref 0), (1, Value.int p), (2, Value.int k), (3, Value.int f), (4, Value.int t), (5, Value.int h), (6, Value.int (xi_b (ym_kp M2 p k))), (7, Value.int (xi_b (ym_rg f t h))), (8, Value.int z), (9, Value.int (nI i))]) e3)
        · unfold ym_mq
          first
          | (rw [if_neg (fun z => xi_0.mp h178 (hS.mpr z.1))]; done)
          | (rw [if_neg (fun z => h182 z.2)]; done)
          | (rw [if_pos ⟨hS.mp (xi_n0.mp h178), h182⟩]; rfl)
      case g4006_k_213 =>
        have hR : ∀ (q : Nat), q = i → (¬ (M2 0 16 ≤ nI i) → ¬ ym_r0 M2 p k f t h q) → (ym_r0 M2 p k f t h q ↔ ym_r0 M2 p k f t h (M2 0 16).toNatClampNeg) := by
          intro q hq hno
          subst hq
          rcases Classical.em (M2 0 16 ≤ nI q) with z | z
          · have e1 := xl_end hc (by omega) hic z
            have e2 : (M2 0 16).toNatClampNeg = q := by rw [hc, nI_clamp (by omega), e1]
            rw [e2]
          · refine ⟨fun y => absurd y (hno z), fun y => absurd ⟨y.1, fun u hu => y.2 u ?_⟩ (hno z)⟩
            rw [hc, nI_clamp (by omega)]; omega
        have hS := hR i rfl (by first | exact fun _ => xi_0.mp h119 | exact fun z => absurd h114 z)
        refine ⟨9, by omega, Or.inr (Or.inr (Or.inr (Or.inr (Or.inl ⟨nI i, rfl, rfl, ?_, rfl, ?_⟩))))⟩
        · by_cases hz : ym_ri M2 p k f t h
          · rw [xi_t hz]
            all_goals first
            | rfl
            | (exfalso; exact xi_0.mp h178 (hS.mpr hz.1))
            | (rw [xi_t (c := ym_r0 M2 p k f t h i) (hS.mpr hz.1)]; rfl)
            | (have e3 := hz.2 h182; show _ = _; unfold ym_mp at e3; rw [show (xi_b (ym_en (fM_put [.ref 0, .int p, .int k, .int f, .int t, .int h] M2).2 p)) = 1 from xi_t e3] ; rfl)
            | (have e3 := xi_t (hz.2 h182); exact congrArg (fun z => [(0, Value.ref 0), (1, Value.int p), (2, Value.int k), (3, Value.int f), (4, Value.int t), (5, Value.int h), (6, Value.int (xi_b (ym_kp M2 p k))), (7, Value.int (xi_b (ym_rg f t h))), (8, Value.int z), (9, Value.int (nI i))]) e3)
          · rw [xi_f hz]
            all_goals first
            | rfl
            | (rw [xi_f (c := ym_r0 M2 p k f t h i) (fun y => by first | exact xi_0.mp h178 y | exact hz ⟨hS.mp y, fun z => absurd z h182⟩)]; rfl)
            | (have e3 := xi_f (c := ym_en (ym_mp M2 p k f t h) p) (fun y => hz ⟨hS.mp (xi_n0.mp h178), fun _ => y⟩); exact congrArg (fun z => [(0, Value.ref 0), (1, Value.int p), (2, Value.int k), (3, Value.int f), (4, Value.int t), (5, Value.int h), (6, Value.int (xi_b (ym_kp M2 p k))), (7, Value.int (xi_b (ym_rg f t h))), (8, Value.int z), (9, Value.int (nI i))]) e3)
        · unfold ym_mq
          first
          | (rw [if_neg (fun z => xi_0.mp h178 (hS.mpr z.1))]; done)
          | (rw [if_neg (fun z => h182 z.2)]; done)
          | (rw [if_pos ⟨hS.mp (xi_n0.mp h178), h182⟩]; rfl)
      case g4007_k_213 =>
        have hR : ∀ (q : Nat), q = i → (¬ (M2 0 16 ≤ nI i) → ¬ ym_r0 M2 p k f t h q) → (ym_r0 M2 p k f t h q ↔ ym_r0 M2 p k f t h (M2 0 16).toNatClampNeg) := by
          intro q hq hno
          subst hq
          rcases Classical.em (M2 0 16 ≤ nI q) with z | z
          · have e1 := xl_end hc (by omega) hic z
            have e2 : (M2 0 16).toNatClampNeg = q := by rw [hc, nI_clamp (by omega), e1]
            rw [e2]
          · refine ⟨fun y => absurd y (hno z), fun y => absurd ⟨y.1, fun u hu => y.2 u ?_⟩ (hno z)⟩
            rw [hc, nI_clamp (by omega)]; omega
        have hS := hR i rfl (by first | exact fun _ => xi_0.mp h119 | exact fun z => absurd h114 z)
        refine ⟨9, by omega, Or.inr (Or.inr (Or.inr (Or.inr (Or.inl ⟨nI i, rfl, rfl, ?_, rfl, ?_⟩))))⟩
        · by_cases hz : ym_ri M2 p k f t h
          · rw [xi_t hz]
            all_goals first
            | rfl
            | (exfalso; exact xi_0.mp h178 (hS.mpr hz.1))
            | (rw [xi_t (c := ym_r0 M2 p k f t h i) (hS.mpr hz.1)]; rfl)
            | (have e3 := hz.2 h182; show _ = _; unfold ym_mp at e3; rw [show (xi_b (ym_en (fM_put [.ref 0, .int p, .int k, .int f, .int t, .int h] M2).2 p)) = 1 from xi_t e3] ; rfl)
            | (have e3 := xi_t (hz.2 h182); exact congrArg (fun z => [(0, Value.ref 0), (1, Value.int p), (2, Value.int k), (3, Value.int f), (4, Value.int t), (5, Value.int h), (6, Value.int (xi_b (ym_kp M2 p k))), (7, Value.int (xi_b (ym_rg f t h))), (8, Value.int z), (9, Value.int (nI i))]) e3)
          · rw [xi_f hz]
            all_goals first
            | rfl
            | (rw [xi_f (c := ym_r0 M2 p k f t h i) (fun y => by first | exact xi_0.mp h178 y | exact hz ⟨hS.mp y, fun z => absurd z h182⟩)]; rfl)
            | (have e3 := xi_f (c := ym_en (ym_mp M2 p k f t h) p) (fun y => hz ⟨hS.mp (xi_n0.mp h178), fun _ => y⟩); exact congrArg (fun z => [(0, Value.ref 0), (1, Value.int p), (2, Value.int k), (3, Value.int f), (4, Value.int t), (5, Value.int h), (6, Value.int (xi_b (ym_kp M2 p k))), (7, Value.int (xi_b (ym_rg f t h))), (8, Value.int z), (9, Value.int (nI i))]) e3)
        · unfold ym_mq
          first
          | (rw [if_neg (fun z => xi_0.mp h178 (hS.mpr z.1))]; done)
          | (rw [if_neg (fun z => h182 z.2)]; done)
          | (rw [if_pos ⟨hS.mp (xi_n0.mp h178), h182⟩]; rfl)
      case g4008_c_193 =>
        have hA : vp_in (M2 0 16) 81 := by rw [hc]; exact vp_in_nI (by omega) (by decide)
        exact ⟨_, _, _, _, _, rfl, hA⟩
      case g4009_c_198 =>
        have hr := xi_n0.mp h178
        have hg := hr.1.2
        exact ⟨_, rfl, xl_has (by decide) hpre.P hr.1.1.1, yl_put hpre p k f t h (xl_span hg.1 hg.2.1 hg.2.2.1)⟩
      case g4010_k_213 =>
        have hR : ∀ (q : Nat), q = i → (¬ (M2 0 16 ≤ nI i) → ¬ ym_r0 M2 p k f t h q) → (ym_r0 M2 p k f t h q ↔ ym_r0 M2 p k f t h (M2 0 16).toNatClampNeg) := by
          intro q hq hno
          subst hq
          rcases Classical.em (M2 0 16 ≤ nI q) with z | z
          · have e1 := xl_end hc (by omega) hic z
            have e2 : (M2 0 16).toNatClampNeg = q := by rw [hc, nI_clamp (by omega), e1]
            rw [e2]
          · refine ⟨fun y => absurd y (hno z), fun y => absurd ⟨y.1, fun u hu => y.2 u ?_⟩ (hno z)⟩
            rw [hc, nI_clamp (by omega)]; omega
        have hS := hR i rfl (by first | exact fun _ => xi_0.mp h119 | exact fun z => absurd h114 z)
        refine ⟨9, by omega, Or.inr (Or.inr (Or.inr (Or.inr (Or.inl ⟨nI i, rfl, rfl, ?_, rfl, ?_⟩))))⟩
        · by_cases hz : ym_ri M2 p k f t h
          · rw [xi_t hz]
            all_goals first
            | rfl
            | (exfalso; exact xi_0.mp h178 (hS.mpr hz.1))
            | (rw [xi_t (c := ym_r0 M2 p k f t h i) (hS.mpr hz.1)]; rfl)
            | (have e3 := hz.2 h182; show _ = _; unfold ym_mp at e3; rw [show (xi_b (ym_en (fM_put [.ref 0, .int p, .int k, .int f, .int t, .int h] M2).2 p)) = 1 from xi_t e3] ; rfl)
            | (have e3 := xi_t (hz.2 h182); exact congrArg (fun z => [(0, Value.ref 0), (1, Value.int p), (2, Value.int k), (3, Value.int f), (4, Value.int t), (5, Value.int h), (6, Value.int (xi_b (ym_kp M2 p k))), (7, Value.int (xi_b (ym_rg f t h))), (8, Value.int z), (9, Value.int (nI i))]) e3)
          · rw [xi_f hz]
            all_goals first
            | rfl
            | (rw [xi_f (c := ym_r0 M2 p k f t h i) (fun y => by first | exact xi_0.mp h178 y | exact hz ⟨hS.mp y, fun z => absurd z h182⟩)]; rfl)
            | (have e3 := xi_f (c := ym_en (ym_mp M2 p k f t h) p) (fun y => hz ⟨hS.mp (xi_n0.mp h178), fun _ => y⟩); exact congrArg (fun z => [(0, Value.ref 0), (1, Value.int p), (2, Value.int k), (3, Value.int f), (4, Value.int t), (5, Value.int h), (6, Value.int (xi_b (ym_kp M2 p k))), (7, Value.int (xi_b (ym_rg f t h))), (8, Value.int z), (9, Value.int (nI i))]) e3)
        · unfold ym_mq
          first
          | (rw [if_neg (fun z => xi_0.mp h178 (hS.mpr z.1))]; done)
          | (rw [if_neg (fun z => h182 z.2)]; done)
          | (rw [if_pos ⟨hS.mp (xi_n0.mp h178), h182⟩]; rfl)
      case g4011_i_128 =>
        exact yl_81 (vp_in_nI (Nat.lt_of_lt_of_le (xl_lt hc hic h114) hc20) (by decide))
      case g4012_k_108 =>
        have hlt := xl_lt hc hic h114
        have e1 : (nI i).toNatClampNeg = i := nI_clamp (by omega)
        refine ⟨10 + (c - (i + 1)), by omega, Or.inr (Or.inr (Or.inr (Or.inl ⟨i + 1, c, hc, hc20, by omega, rfl, rfl, ?_, rfl, rfl⟩)))⟩
        have hr := xi_n0.mp h119
        simp only [e1] at *
        by_cases hz : ym_hit M2 p f t i
        · have e2 : ¬ ym_r0 M2 p k f t h (i + 1) := fun z => z.2 i (by omega) hz
          rw [xi_f e2, nI_succ]
          unfold ym_hit at hz
          all_goals first | rfl | (exfalso; grind [Int32.not_lt, Int32.not_le])
        · have e2 : ym_r0 M2 p k f t h (i + 1) := ⟨hr.1, fun u hu => by
            rcases Nat.lt_or_ge u i with q | q
            · exact hr.2 u q
            · obtain rfl : u = i := by omega
              exact hz⟩
          rw [xi_t e2, nI_succ]
          unfold ym_hit at hz
          all_goals first | (rw [xi_t hr]; rfl) | (exfalso; grind [Int32.not_lt, Int32.not_le])
      case g4013_i_139 =>
        exact yl_81 (vp_in_nI (Nat.lt_of_lt_of_le (xl_lt hc hic h114) hc20) (by decide))
      case g4014_k_108 =>
        have hlt := xl_lt hc hic h114
        have e1 : (nI i).toNatClampNeg = i := nI_clamp (by omega)
        refine ⟨10 + (c - (i + 1)), by omega, Or.inr (Or.inr (Or.inr (Or.inl ⟨i + 1, c, hc, hc20, by omega, rfl, rfl, ?_, rfl, rfl⟩)))⟩
        have hr := xi_n0.mp h119
        simp only [e1] at *
        by_cases hz : ym_hit M2 p f t i
        · have e2 : ¬ ym_r0 M2 p k f t h (i + 1) := fun z => z.2 i (by omega) hz
          rw [xi_f e2, nI_succ]
          unfold ym_hit at hz
          all_goals first | rfl | (exfalso; grind [Int32.not_lt, Int32.not_le])
        · have e2 : ym_r0 M2 p k f t h (i + 1) := ⟨hr.1, fun u hu => by
            rcases Nat.lt_or_ge u i with q | q
            · exact hr.2 u q
            · obtain rfl : u = i := by omega
              exact hz⟩
          rw [xi_t e2, nI_succ]
          unfold ym_hit at hz
          all_goals first | (rw [xi_t hr]; rfl) | (exfalso; grind [Int32.not_lt, Int32.not_le])
      case g4015_i_151 =>
        exact yl_81 (vp_in_nI (Nat.lt_of_lt_of_le (xl_lt hc hic h114) hc20) (by decide))
      case g4016_k_108 =>
        have hlt := xl_lt hc hic h114
        have e1 : (nI i).toNatClampNeg = i := nI_clamp (by omega)
        refine ⟨10 + (c - (i + 1)), by omega, Or.inr (Or.inr (Or.inr (Or.inl ⟨i + 1, c, hc, hc20, by omega, rfl, rfl, ?_, rfl, rfl⟩)))⟩
        have hr := xi_n0.mp h119
        simp only [e1] at *
        by_cases hz : ym_hit M2 p f t i
        · have e2 : ¬ ym_r0 M2 p k f t h (i + 1) := fun z => z.2 i (by omega) hz
          rw [xi_f e2, nI_succ]
          unfold ym_hit at hz
          all_goals first | rfl | (exfalso; grind [Int32.not_lt, Int32.not_le])
        · have e2 : ym_r0 M2 p k f t h (i + 1) := ⟨hr.1, fun u hu => by
            rcases Nat.lt_or_ge u i with q | q
            · exact hr.2 u q
            · obtain rfl : u = i := by omega
              exact hz⟩
          rw [xi_t e2, nI_succ]
          unfold ym_hit at hz
          all_goals first | (rw [xi_t hr]; rfl) | (exfalso; grind [Int32.not_lt, Int32.not_le])
      case g4017_i_161 =>
        exact yl_81 (vp_in_nI (Nat.lt_of_lt_of_le (xl_lt hc hic h114) hc20) (by decide))
      case g4018_k_108 =>
        have hlt := xl_lt hc hic h114
        have e1 : (nI i).toNatClampNeg = i := nI_clamp (by omega)
        refine ⟨10 + (c - (i + 1)), by omega, Or.inr (Or.inr (Or.inr (Or.inl ⟨i + 1, c, hc, hc20, by omega, rfl, rfl, ?_, rfl, rfl⟩)))⟩
        have hr := xi_n0.mp h119
        simp only [e1] at *
        by_cases hz : ym_hit M2 p f t i
        · have e2 : ¬ ym_r0 M2 p k f t h (i + 1) := fun z => z.2 i (by omega) hz
          rw [xi_f e2, nI_succ]
          unfold ym_hit at hz
          all_goals first | rfl | (exfalso; grind [Int32.not_lt, Int32.not_le])
        · have e2 : ym_r0 M2 p k f t h (i + 1) := ⟨hr.1, fun u hu => by
            rcases Nat.lt_or_ge u i with q | q
            · exact hr.2 u q
            · obtain rfl : u = i := by omega
              exact hz⟩
          rw [xi_t e2, nI_succ]
          unfold ym_hit at hz
          all_goals first | (rw [xi_t hr]; rfl) | (exfalso; grind [Int32.not_lt, Int32.not_le])
      case g4019_k_108 =>
        have hlt := xl_lt hc hic h114
        have e1 : (nI i).toNatClampNeg = i := nI_clamp (by omega)
        refine ⟨10 + (c - (i + 1)), by omega, Or.inr (Or.inr (Or.inr (Or.inl ⟨i + 1, c, hc, hc20, by omega, rfl, rfl, ?_, rfl, rfl⟩)))⟩
        have hr := xi_n0.mp h119
        simp only [e1] at *
        by_cases hz : ym_hit M2 p f t i
        · have e2 : ¬ ym_r0 M2 p k f t h (i + 1) := fun z => z.2 i (by omega) hz
          rw [xi_f e2, nI_succ]
          unfold ym_hit at hz
          all_goals first | rfl | (exfalso; grind [Int32.not_lt, Int32.not_le])
        · have e2 : ym_r0 M2 p k f t h (i + 1) := ⟨hr.1, fun u hu => by
            rcases Nat.lt_or_ge u i with q | q
            · exact hr.2 u q
            · obtain rfl : u = i := by omega
              exact hz⟩
          rw [xi_t e2, nI_succ]
          unfold ym_hit at hz
          all_goals first | (rw [xi_t hr]; rfl) | (exfalso; grind [Int32.not_lt, Int32.not_le])
    · skip
      refine ⟨400, (And.intro rfl (And.intro (by decide) (And.intro (fun h228 => ?g5001_k_236) (fun h228 => (And.intro (by decide) ?g5002_k_236)))))⟩
      case g5001_k_236 =>
        refine ⟨8, by omega, Or.inr (Or.inr (Or.inr (Or.inr (Or.inr (⟨x, rfl, rfl, rfl, ?_, rfl⟩)))))⟩
        have e0 := ym_mq16 M p k f t h
        have h9 := h228
        rcases Classical.em (M 0 16 < 80) with z0 | z0
        · rw [xi_t z0]
          all_goals first | rfl | (exfalso; rw [← e0] at z0; exact absurd z0 (Int32.not_lt.mpr h228))
        · rw [xi_f z0]
          all_goals first | rfl | (exfalso; rw [← e0] at z0; exact h228 (Int32.not_lt.mp z0))
      case g5002_k_236 =>
        refine ⟨8, by omega, Or.inr (Or.inr (Or.inr (Or.inr (Or.inr (⟨x, rfl, rfl, rfl, ?_, rfl⟩)))))⟩
        have e0 := ym_mq16 M p k f t h
        have h9 := h228
        rcases Classical.em (M 0 16 < 80) with z0 | z0
        · rw [xi_t z0]
          all_goals first | rfl | (exfalso; rw [← e0] at z0; exact absurd z0 (Int32.not_lt.mpr h228))
        · rw [xi_f z0]
          all_goals first | rfl | (exfalso; rw [← e0] at z0; exact h228 (Int32.not_lt.mp z0))
    · skip
      have e0 := ym_mq16 M p k f t h
      refine ⟨400, (And.intro rfl (And.intro (Nat.le_of_ble_eq_true rfl) (And.intro (Nat.le_of_ble_eq_true rfl) (And.intro ?g6001_c_236 (And.intro (by decide) (And.intro (fun h239 => (And.intro rfl (And.intro (Nat.le_of_ble_eq_true rfl) (And.intro (Nat.le_of_ble_eq_true rfl) (And.intro ?g6002_c_252 (And.intro rfl (And.intro ?g6003_w_261 ?g6004_r_261))))))) (fun h239 => (And.intro ?g6005_w_243 ?g6006_r_243))))))))⟩
      case g6001_c_236 =>
        exact ⟨_, _, _, _, _, rfl⟩
      case g6002_c_252 =>
        have hv : vp_in (ym_mq M p k f t h 0 16) 81 := by
          rw [e0]
          exact yl_81 (xl_room (by decide) rfl hpre.A (Int32.not_le.mpr (xi_n0.mp (xg_0 (xi_n0.mp h239)).2.2.2)))
        exact ⟨_, _, _, _, _, rfl, hv⟩
      case g6003_w_261 =>
        first | rfl | exact xi_nb
      case g6004_r_261 =>
        refine ⟨xl_some (Eq.trans ?_ (xi_xt (xi_n0.mp h239)).symm), (if_pos (xi_n0.mp h239)).symm⟩
        show ym_mq M p k f t h 0 16 + 1 - 1 = M 0 16 + 1 - 1
        rw [e0]
      case g6005_w_243 =>
        first | rfl | exact xi_nb
      case g6006_r_243 =>
        exact ⟨xl_some (xi_xf (xi_0.mp h239)).symm, (if_neg (xi_0.mp h239)).symm⟩
  · rintro as M ⟨p, k, f, t, h, rfl, hpre⟩
    refine ⟨400, (And.intro rfl (And.intro (Nat.le_of_ble_eq_true rfl) (And.intro (Nat.le_of_ble_eq_true rfl) (And.intro ?g1_c_2 (And.intro (by decide) (And.intro (fun h5 => (And.intro (Nat.le_of_ble_eq_true rfl) ?g2_k_24)) (fun h5 => (And.intro rfl (And.intro (Nat.le_of_ble_eq_true rfl) (And.intro (Nat.le_of_ble_eq_true rfl) (And.intro ?g3_c_11 (And.intro (by decide) (And.intro (fun h14 => (And.intro (Nat.le_of_ble_eq_true rfl) ?g4_k_24)) (fun h14 => (And.intro (by decide) (And.intro (Nat.le_of_ble_eq_true rfl) ?g5_k_24))))))))))))))))⟩
    case g1_c_2 =>
      exact ⟨_, rfl⟩
    case g2_k_24 =>
      refine ⟨1006, Or.inl ⟨rfl, rfl, ?_, rfl, rfl⟩⟩
      rcases Classical.em (ym_kp M p k) with z0 | z0 <;> (first | rw [xi_t z0] | rw [xi_f z0]) <;> (first | rfl | (exfalso; simp only [xi_0, xi_n0, ym_kp] at *; grind [Int32.not_lt, Int32.not_le]))
    case g3_c_11 =>
      exact ⟨_, _, _, rfl⟩
    case g4_k_24 =>
      refine ⟨1006, Or.inl ⟨rfl, rfl, ?_, rfl, rfl⟩⟩
      rcases Classical.em (ym_kp M p k) with z0 | z0 <;> (first | rw [xi_t z0] | rw [xi_f z0]) <;> (first | rfl | (exfalso; simp only [xi_0, xi_n0, ym_kp] at *; grind [Int32.not_lt, Int32.not_le]))
    case g5_k_24 =>
      refine ⟨1006, Or.inl ⟨rfl, rfl, ?_, rfl, rfl⟩⟩
      rcases Classical.em (ym_kp M p k) with z0 | z0 <;> (first | rw [xi_t z0] | rw [xi_f z0]) <;> (first | rfl | (exfalso; simp only [xi_0, xi_n0, ym_kp] at *; grind [Int32.not_lt, Int32.not_le]))
