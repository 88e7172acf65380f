/-! 32.calls -/
theorem z_carry {M N : xm_M} (hR : zR M N) (d : Int32) : zz (ftA_carry [.ref 0, .int d] M) ["java/lang/IndexOutOfBoundsException", "java/lang/IllegalStateException"] M (fA_carry [.ref 0, .int d] M).2 (fA_carry [.ref 0, .int d] M).1 (fM_carry [.ref 0, .int d] N) := by
  obtain ⟨np, nc, na, nh, nk, cr, pt, h, hP, hC, hA, hQ, hK, hG⟩ := id hR
  obtain ⟨g1, g2, g3, g4, g5, g6⟩ := hG
  by_cases c2 : 0 ≤ d ∧ d ≤ 100
  · obtain ⟨x, hx, ex⟩ := (z_range (n := 100) rfl (by omega)).mp c2
    by_cases c3 : cr ≤ x
    · have ef : ftA_carry [.ref 0, .int d] M = none := by
        show xo_ _ _ _ = none
        rw [xo_f (fun z => z c2), xo_f (by rw [g2, ex, nI_ltI (by omega) (by omega)]; omega)]
      rw [ef]
      have c3' : N 0 11 ≤ d := by rw [g3, ex, nI_leI (by omega) (by omega)]; exact c3
      have hT := zg0 (k := 1) (m := 1) z1 (xi_n0.mpr c2) (xi_n0.mpr c3') z1
      refine zz_ov hT (by show xq_t 6 _ = 0; rw [hT]; rfl) ?_
      exact ⟨np, nc, na, nh, nk, x, pt, h, hP, hC, hA, hQ, hK, hx, ex, ex, g4, g5, g6⟩
    · have ef : ftA_carry [.ref 0, .int d] M = some "java/lang/IllegalStateException" := by
        show xo_ _ _ _ = _
        rw [xo_f (fun z => z c2), xo_t (by rw [g2, ex, nI_ltI (by omega) (by omega)]; omega)]
      rw [ef]
      have c3' : ¬ N 0 11 ≤ d := by rw [g3, ex, nI_leI (by omega) (by omega)]; exact c3
      exact zz_t1 (n := 3) (zg3 z1 (xi_n0.mpr c2) (xi_f c3')) (by decide) (by decide +kernel) (by decide) hR
  · have ef : ftA_carry [.ref 0, .int d] M = some "java/lang/IndexOutOfBoundsException" := xo_t c2
    rw [ef]
    exact zz_t1 (n := 2) (zg2 z1 (xi_f c2)) (by decide) (by decide +kernel) (by decide) hR
theorem z_holiday {M N : xm_M} (hR : zR M N) (d : Int32) : zz (ftA_holiday [.ref 0, .int d] M) ["java/lang/IndexOutOfBoundsException", "java/lang/IllegalStateException"] M (fA_holiday [.ref 0, .int d] M).2 (fA_holiday [.ref 0, .int d] M).1 (fM_holiday [.ref 0, .int d] N) := by
  obtain ⟨np, nc, na, nh, nk, cr, pt, h, hP, hC, hA, hQ, hK, hG⟩ := id hR
  obtain ⟨g1, g2, g3, g4, g5, g6⟩ := hG
  by_cases c2 : 0 ≤ d ∧ d ≤ 729
  · by_cases c3 : N 1 d.toNatClampNeg = 0
    · have ef : ftA_holiday [.ref 0, .int d] M = none := by
        show xo_ _ _ _ = none
        rw [xo_f (fun z => z c2), xo_f (fun z => z (by rw [g6]; exact c3))]
      rw [ef]
      have hT := zg0 (k := 1) (m := 1) z1 (xi_n0.mpr c2) (xi_n0.mpr (show (0 ≤ d ∧ d ≤ 729) ∧ N 1 d.toNatClampNeg = 0 from ⟨c2, c3⟩)) z1
      refine zz_ov hT (by show xq_t 6 _ = 0; rw [hT]; rfl) ?_
      exact ⟨np, nc, na, nh, nk, cr, pt, h, hP, hC, hA, hQ, hK, g1, g2, g3, g4, g5, z_row g6 _ _ _ _ _ _ rfl rfl⟩
    · have ef : ftA_holiday [.ref 0, .int d] M = some "java/lang/IllegalStateException" := by
        show xo_ _ _ _ = _
        rw [xo_f (fun z => z c2), xo_t (fun z => c3 (by rw [← g6]; exact z))]
      rw [ef]
      exact zz_t1 (n := 3) (zg3 z1 (xi_n0.mpr c2) (xi_f (fun z => c3 z.2))) (by decide) (by decide +kernel) (by decide) hR
  · have ef : ftA_holiday [.ref 0, .int d] M = some "java/lang/IndexOutOfBoundsException" := xo_t c2
    rw [ef]
    exact zz_t1 (n := 2) (zg2 z1 (xi_f c2)) (by decide) (by decide +kernel) (by decide) hR
theorem z_working {M N : xm_M} (hR : zR M N) (f t : Int32) : zz (ftA_working [.ref 0, .int f, .int t] M) ["java/lang/IndexOutOfBoundsException"] M (fA_working [.ref 0, .int f, .int t] M).2 (fA_working [.ref 0, .int f, .int t] M).1 (fM_working [.ref 0, .int f, .int t] N) := by
  obtain ⟨np, nc, na, nh, nk, cr, pt, h, hP, hC, hA, hQ, hK, hG⟩ := id hR
  have g6 := hG.2.2.2.2.2
  by_cases c2 : (0 ≤ f ∧ f ≤ 729) ∧ (0 ≤ t ∧ t ≤ 729) ∧ f ≤ t
  · have ef : ftA_working [.ref 0, .int f, .int t] M = none := xo_f (fun z => z c2)
    rw [ef]
    exact zz_o2 (zg0 z1 (xi_n0.mpr c2) z1 z1) (ra := (fC_workingDays [.ref 1, .int f, .int t] M).1) rfl (by rw [g6]) hR
  · have ef : ftA_working [.ref 0, .int f, .int t] M = some "java/lang/IndexOutOfBoundsException" := xo_t c2
    rw [ef]
    exact zz_t2 (n := 2) (zg2 z1 (xi_f c2)) (by decide +kernel) (by decide) hR
theorem z_patience {M N : xm_M} (hR : zR M N) (u : Int32) : zz (ftA_patience [.ref 0, .int u] M) ["java/lang/IndexOutOfBoundsException"] M (fA_patience [.ref 0, .int u] M).2 (fA_patience [.ref 0, .int u] M).1 (fM_patience [.ref 0, .int u] N) := by
  obtain ⟨np, nc, na, nh, nk, cr, pt, h, hP, hC, hA, hQ, hK, hG⟩ := id hR
  obtain ⟨g1, g2, g3, g4, g5, g6⟩ := hG
  by_cases c2 : 1 ≤ u ∧ u ≤ 48
  · have ef : ftA_patience [.ref 0, .int u] M = none := xo_f (fun z => z c2)
    rw [ef]
    have hT := zg0 (k := 1) (t := 1) (m := 1) z1 (xi_n0.mpr c2) z1 z1
    refine zz_ov hT (by show xq_t 2 _ = 0; rw [hT]; rfl) ?_
    have h1 : (1 : Int32).toInt = 1 := by decide
    have h0 : (0 : Int32).toInt = 0 := by decide
    obtain ⟨x, hx, ex⟩ := (z_range (x := u) (n := 48) rfl (by omega)).mp ⟨by have := c2.1; rw [Int32.le_iff_toInt_le] at *; omega, c2.2⟩
    have hx1 : 1 ≤ x := by
      have := c2.1
      rw [ex, show (1 : Int32) = nI 1 from rfl, nI_leI (by omega) (by omega)] at this
      exact this
    exact ⟨np, nc, na, nh, nk, cr, x, h, hP, hC, hA, hQ, hK, g1, g2, g3, ⟨hx1, hx, ex, ex⟩, g5, g6⟩
  · have ef : ftA_patience [.ref 0, .int u] M = some "java/lang/IndexOutOfBoundsException" := xo_t c2
    rw [ef]
    exact zz_t1 (n := 2) (zg2 z1 (xi_f c2)) (by decide) (by decide +kernel) (by decide) hR
theorem z_kn {M N : xm_M} {np : Nat} (hP : zP M N np) (p : Int32) : (0 ≤ p ∧ p ≤ M 2 0 - 1) ↔ (0 ≤ p ∧ p ≤ N 0 3 - 1) := by rw [hP.2.1, hP.2.2.1]
theorem z_bar {M N : xm_M} (hR : zR M N) (p s u : Int32) : zz (ftA_bar [.ref 0, .int p, .int s, .int u] M) ["java/lang/IllegalArgumentException", "java/lang/IndexOutOfBoundsException"] M (fA_bar [.ref 0, .int p, .int s, .int u] M).2 (fA_bar [.ref 0, .int p, .int s, .int u] M).1 (fM_bar [.ref 0, .int p, .int s, .int u] N) := by
  obtain ⟨np, nc, na, nh, nk, cr, pt, h, hP, hC, hA, hQ, hK, hG⟩ := id hR
  have hk := z_kn hP p
  obtain ⟨p1, p2, p3, ⟨p4, p5, p6, p7, p8, p9, p10⟩, p11, p12, p13, p14⟩ := hP
  by_cases c1 : (0 ≤ p ∧ p ≤ N 0 3 - 1) ∧ (0 ≤ s ∧ s ≤ 7)
  · have c1' : (0 ≤ p ∧ p ≤ M 2 0 - 1) ∧ (0 ≤ s ∧ s ≤ 7) := ⟨hk.mpr c1.1, c1.2⟩
    by_cases c2 : 0 ≤ u ∧ u ≤ 729
    · have ef : ftA_bar [.ref 0, .int p, .int s, .int u] M = none := by
        show xo_ _ _ _ = none
        rw [xo_f (fun z => z c1'), xo_f (fun z => z c2)]
      rw [ef]
      have hT := zg0 (t := 1) (m := 1) (xi_n0.mpr c1) (xi_n0.mpr c2) z1 z1
      refine zz_ov hT (by show xq_t 3 _ = 0; rw [hT]; rfl) ?_
      have ec : p * 8 + s = 8 * p + s := by rw [Int32.mul_comm]
      show zR (xm_up M 14 (p * 8 + s).toNatClampNeg u) _
      rw [ec]
      exact ⟨np, nc, na, nh, nk, cr, pt, h, ⟨p1, p2, p3, ⟨p4, p5, p6, p7, p8, p9, z_row p10 _ _ _ _ _ _ rfl rfl⟩, p11, p12, p13, p14⟩, hC, hA, hQ, hK, hG⟩
    · have ef : ftA_bar [.ref 0, .int p, .int s, .int u] M = some "java/lang/IndexOutOfBoundsException" := by
        show xo_ _ _ _ = _
        rw [xo_f (fun z => z c1'), xo_t c2]
      rw [ef]
      exact zz_t1 (n := 2) (zg2 (xi_n0.mpr c1) (xi_f c2)) (by decide) (by decide +kernel) (by decide) hR
  · have ef : ftA_bar [.ref 0, .int p, .int s, .int u] M = some "java/lang/IllegalArgumentException" := xo_t (fun z => c1 ⟨hk.mp z.1, z.2⟩)
    rw [ef]
    exact zz_t1 (n := 1) (zg1 (xi_f c1)) (by decide) (by decide +kernel) (by decide) hR
theorem z_absent {M N : xm_M} (hR : zR M N) (p d : Int32) : zz (ftA_absent [.ref 0, .int p, .int d] M) ["java/lang/IllegalArgumentException", "java/lang/IndexOutOfBoundsException"] M (fA_absent [.ref 0, .int p, .int d] M).2 (fA_absent [.ref 0, .int p, .int d] M).1 (fM_absent [.ref 0, .int p, .int d] N) := by
  obtain ⟨np, nc, na, nh, nk, cr, pt, h, hP, hC, hA, hQ, hK, hG⟩ := id hR
  have hk := z_kn hP p
  by_cases c1 : 0 ≤ p ∧ p ≤ N 0 3 - 1
  · by_cases c2 : 0 ≤ d ∧ d ≤ 729
    · have ef : ftA_absent [.ref 0, .int p, .int d] M = none := by
        show xo_ _ _ _ = none
        rw [xo_f (fun z => z (hk.mpr c1)), xo_f (fun z => z c2)]
      rw [ef]
      have hT := zg0 (t := 1) (m := 1) (xi_n0.mpr c1) (xi_n0.mpr c2) z1 z1
      refine Or.inl ⟨rfl, ?_, ?_, zR_thr _ hR⟩
      · show xq_t 3 _ = 0
        rw [hT]; rfl
      · show xi_b _ = xi_b _
        rw [hP.2.2.1] at c1
        obtain ⟨i, hi, rfl⟩ := (z_known (by have := hP.1; omega)).mp c1
        have hnp := hP.1
        have e := z_abs hnp hA d (p := i) (by omega)
        rw [zb_hold (by omega), Bool.not_eq_false, e]
        congr 1
        exact propext ⟨fun z => ⟨hT, z⟩, fun z => z.2⟩
    · have ef : ftA_absent [.ref 0, .int p, .int d] M = some "java/lang/IndexOutOfBoundsException" := by
        show xo_ _ _ _ = _
        rw [xo_f (fun z => z (hk.mpr c1)), xo_t c2]
      rw [ef]
      exact zz_t2 (n := 2) (zg2 (xi_n0.mpr c1) (xi_f c2)) (by decide +kernel) (by decide) hR
  · have ef : ftA_absent [.ref 0, .int p, .int d] M = some "java/lang/IllegalArgumentException" := xo_t (fun z => c1 (hk.mp z))
    rw [ef]
    exact zz_t2 (n := 1) (zg1 (xi_f c1)) (by decide +kernel) (by decide) hR
theorem z_knc {M N : xm_M} {np nc : Nat} (hC : zC M N np nc) (p : Int32) : (0 ≤ p ∧ p ≤ M 3 0 - 1) ↔ (0 ≤ p ∧ p ≤ N 0 12 - 1) := by rw [hC.2.1, hC.2.2.1]
theorem z_kna {M N : xm_M} {np na : Nat} (hA : zA M N np na) (p : Int32) : (0 ≤ p ∧ p ≤ M 4 0 - 1) ↔ (0 ≤ p ∧ p ≤ N 0 16 - 1) := by rw [hA.2.1, hA.2.2.1]
theorem z_knh {M N : xm_M} {nh : Nat} (hQ : zQ M N nh) (p : Int32) : (0 ≤ p ∧ p ≤ M 5 0 - 1) ↔ (0 ≤ p ∧ p ≤ N 0 24 - 1) := by rw [hQ.2.1, hQ.2.2.1]
theorem z_knk {M N : xm_M} {np nc nk : Nat} {lo : Nat → Nat} (hK : zK M N np nc nk lo) (p : Int32) : (0 ≤ p ∧ p ≤ M 6 0 - 1) ↔ (0 ≤ p ∧ p ≤ N 0 28 - 1) := by rw [hK.2.1, hK.2.2.1]
theorem z_present {M N : xm_M} (hR : zR M N) (w d : Int32) : zz (ftA_present [.ref 0, .int w, .int d] M) ["java/lang/IllegalArgumentException", "java/lang/IndexOutOfBoundsException"] M (fA_present [.ref 0, .int w, .int d] M).2 (fA_present [.ref 0, .int w, .int d] M).1 (fM_present [.ref 0, .int w, .int d] N) := by
  obtain ⟨np, nc, na, nh, nk, cr, pt, h, hP, hC, hA, hQ, hK, hG⟩ := id hR
  have hk := z_knc hC w
  by_cases c1 : 0 ≤ w ∧ w ≤ N 0 12 - 1
  · by_cases c2 : 0 ≤ d ∧ d ≤ 729
    · have ef : ftA_present [.ref 0, .int w, .int d] M = none := by
        show xo_ _ _ _ = none
        rw [xo_f (fun z => z (hk.mpr c1)), xo_f (fun z => z c2)]
      rw [ef]
      refine zz_o2 (zg0 (xi_n0.mpr c1) (xi_n0.mpr c2) z1 z1) (x := xd_bc (M 17 w.toNatClampNeg &&& xd_aw M d ||| xd_come M w d)) rfl ?_ hR
      rw [hC.2.2.1] at c1
      obtain ⟨i, hi, rfl⟩ := (z_known (by have := hC.1; omega)).mp c1
      have hnp := hP.1
      have hnc := hC.1
      rw [nI_clamp (by omega), xd_bc_n hnp (z_pr_s hnp hC hK (by omega) d _), z_cnt hP hC hA hK (by omega)]
    · have ef : ftA_present [.ref 0, .int w, .int d] M = some "java/lang/IndexOutOfBoundsException" := by
        show xo_ _ _ _ = _
        rw [xo_f (fun z => z (hk.mpr c1)), xo_t c2]
      rw [ef]
      exact zz_t2 (n := 2) (zg2 (xi_n0.mpr c1) (xi_f c2)) (by decide +kernel) (by decide) hR
  · have ef : ftA_present [.ref 0, .int w, .int d] M = some "java/lang/IllegalArgumentException" := xo_t (fun z => c1 (hk.mp z))
    rw [ef]
    exact zz_t2 (n := 1) (zg1 (xi_f c1)) (by decide +kernel) (by decide) hR
theorem z_asked {M N : xm_M} (hR : zR M N) (p : Int32) : zz (ftA_asked [.ref 0, .int p] M) ["java/lang/IllegalArgumentException"] M (fA_asked [.ref 0, .int p] M).2 (fA_asked [.ref 0, .int p] M).1 (fM_asked [.ref 0, .int p] N) := by
  obtain ⟨np, nc, na, nh, nk, cr, pt, h, hP, hC, hA, hQ, hK, hG⟩ := id hR
  have hk := z_kn hP p
  have p9 := hP.2.2.2.1.2.2.2.2.2.1
  by_cases c1 : 0 ≤ p ∧ p ≤ N 0 3 - 1
  · have ef : ftA_asked [.ref 0, .int p] M = none := xo_f (fun z => z (hk.mpr c1))
    rw [ef]
    exact zz_o2 (zg0 (xi_n0.mpr c1) z1 z1 z1) (x := M 13 p.toNatClampNeg) rfl (by rw [p9]) hR
  · have ef : ftA_asked [.ref 0, .int p] M = some "java/lang/IllegalArgumentException" := xo_t (fun z => c1 (hk.mp z))
    rw [ef]
    exact zz_t2 (n := 1) (zg1 (xi_f c1)) (by decide +kernel) (by decide) hR
theorem z_what2 {x : Int32} : (0 ≤ x ∧ x ≤ 2) ↔ (x = 0 ∨ x = 1 ∨ x = 2) := by
  rw [z_range (y := 2) (n := 2) rfl (by omega)]
  constructor
  · rintro ⟨i, hi, rfl⟩
    rcases (show i = 0 ∨ i = 1 ∨ i = 2 by omega) with rfl | rfl | rfl
    · exact Or.inl rfl
    · exact Or.inr (Or.inl rfl)
    · exact Or.inr (Or.inr rfl)
  · rintro (rfl | rfl | rfl)
    · exact ⟨0, by omega, rfl⟩
    · exact ⟨1, by omega, rfl⟩
    · exact ⟨2, by omega, rfl⟩
theorem z_what3 {x : Int32} : (0 ≤ x ∧ x ≤ 3) ↔ (x = 0 ∨ x = 1 ∨ x = 2 ∨ x = 3) := by
  rw [z_range (y := 3) (n := 3) rfl (by omega)]
  constructor
  · rintro ⟨i, hi, rfl⟩
    rcases (show i = 0 ∨ i = 1 ∨ i = 2 ∨ i = 3 by omega) with rfl | rfl | rfl | rfl
    · exact Or.inl rfl
    · exact Or.inr (Or.inl rfl)
    · exact Or.inr (Or.inr (Or.inl rfl))
    · exact Or.inr (Or.inr (Or.inr rfl))
  · rintro (rfl | rfl | rfl | rfl)
    · exact ⟨0, by omega, rfl⟩
    · exact ⟨1, by omega, rfl⟩
    · exact ⟨2, by omega, rfl⟩
    · exact ⟨3, by omega, rfl⟩
theorem z_what4 {x : Int32} : (0 ≤ x ∧ x ≤ 4) ↔ (x = 0 ∨ x = 1 ∨ x = 2 ∨ x = 3 ∨ x = 4) := by
  rw [z_range (y := 4) (n := 4) rfl (by omega)]
  constructor
  · rintro ⟨i, hi, rfl⟩
    rcases (show i = 0 ∨ i = 1 ∨ i = 2 ∨ i = 3 ∨ i = 4 by omega) with rfl | rfl | rfl | rfl | rfl
    · exact Or.inl rfl
    · exact Or.inr (Or.inl rfl)
    · exact Or.inr (Or.inr (Or.inl rfl))
    · exact Or.inr (Or.inr (Or.inr (Or.inl rfl)))
    · exact Or.inr (Or.inr (Or.inr (Or.inr rfl)))
  · rintro (rfl | rfl | rfl | rfl | rfl)
    · exact ⟨0, by omega, rfl⟩
    · exact ⟨1, by omega, rfl⟩
    · exact ⟨2, by omega, rfl⟩
    · exact ⟨3, by omega, rfl⟩
    · exact ⟨4, by omega, rfl⟩
theorem z_held {M N : xm_M} (hR : zR M N) (i x : Int32) : zz (ftA_held [.ref 0, .int i, .int x] M) ["java/lang/IllegalArgumentException"] M (fA_held [.ref 0, .int i, .int x] M).2 (fA_held [.ref 0, .int i, .int x] M).1 (fM_held [.ref 0, .int i, .int x] N) := by
  obtain ⟨np, nc, na, nh, nk, cr, pt, h, hP, hC, hA, hQ, hK, hG⟩ := id hR
  have hk := z_knh hQ i
  obtain ⟨q1, q2, q3, q4, q5, q6⟩ := hQ
  by_cases c1 : (0 ≤ i ∧ i ≤ N 0 24 - 1) ∧ (0 ≤ x ∧ x ≤ 2)
  · have ef : ftA_held [.ref 0, .int i, .int x] M = none := by
      show xo_ _ _ _ = none
      rw [xo_f (fun z => z (hk.mpr c1.1)), xo_f (fun z => z (z_what2.mp c1.2))]
    rw [ef]
    refine zz_o2 (zg0 (xi_n0.mpr c1) z1 z1 z1) (x := xi_x (x = 0) (M 25 i.toNatClampNeg) (xi_x (x = 1) (M 26 i.toNatClampNeg) (xi_x (x = 2) (M 27 i.toNatClampNeg) 0))) rfl ?_ hR
    rw [q4, q5, q6]
    rcases z_what2.mp c1.2 with rfl | rfl | rfl <;> simp [xi_x]
  · rcases Classical.em (0 ≤ i ∧ i ≤ N 0 24 - 1) with c | c
    · have ef : ftA_held [.ref 0, .int i, .int x] M = some "java/lang/IllegalArgumentException" := by
        show xo_ _ _ _ = _
        rw [xo_f (fun z => z (hk.mpr c)), xo_t (fun z => c1 ⟨c, z_what2.mpr z⟩)]
      rw [ef]
      exact zz_t2 (n := 1) (zg1 (xi_f c1)) (by decide +kernel) (by decide) hR
    · have ef : ftA_held [.ref 0, .int i, .int x] M = some "java/lang/IllegalArgumentException" := xo_t (fun z => c (hk.mp z))
      rw [ef]
      exact zz_t2 (n := 1) (zg1 (xi_f c1)) (by decide +kernel) (by decide) hR
theorem z_askAt {M N : xm_M} (hR : zR M N) (a x : Int32) : zz (ftA_askAt [.ref 0, .int a, .int x] M) ["java/lang/IllegalArgumentException"] M (fA_askAt [.ref 0, .int a, .int x] M).2 (fA_askAt [.ref 0, .int a, .int x] M).1 (fM_askAt [.ref 0, .int a, .int x] N) := by
  obtain ⟨np, nc, na, nh, nk, cr, pt, h, hP, hC, hA, hQ, hK, hG⟩ := id hR
  have hk := z_kna hA a
  have g6 := hG.2.2.2.2.2
  by_cases c1 : (0 ≤ a ∧ a ≤ N 0 16 - 1) ∧ (0 ≤ x ∧ x ≤ 4)
  · have ef : ftA_askAt [.ref 0, .int a, .int x] M = none := by
      show xo_ _ _ _ = none
      rw [xo_f (fun z => z (hk.mpr c1.1)), xo_f (fun z => z (z_what4.mp c1.2))]
    rw [ef]
    refine zz_o2 (zg0 (xi_n0.mpr c1) z1 z1 z1) (x := xi_x (x = 0) (M 23 a.toNatClampNeg) (xi_x (x = 1) (xd_hd (M 7) (M 20 a.toNatClampNeg) (M 21 a.toNatClampNeg) (M 22 a.toNatClampNeg)) (xi_x (x = 2) (M 24 a.toNatClampNeg) (xi_x (x = 3) (M 18 a.toNatClampNeg) (xi_x (x = 4) (M 19 a.toNatClampNeg) 0))))) rfl ?_ hR
    have c0 := c1.1
    have h80 := hA.1
    rw [hA.2.2.1] at c0
    obtain ⟨i, hi, rfl⟩ := (z_known (by omega)).mp c0
    obtain ⟨⟨e1, e2, e3, e4, e5, e6, e7⟩, -⟩ := hA.2.2.2 i hi
    rw [nI_clamp (by omega), e1, e2, e3, e4, e5, e6, e7, g6]
    rcases z_what4.mp c1.2 with rfl | rfl | rfl | rfl | rfl <;> simp [xi_x]
  · rcases Classical.em (0 ≤ a ∧ a ≤ N 0 16 - 1) with c | c
    · have ef : ftA_askAt [.ref 0, .int a, .int x] M = some "java/lang/IllegalArgumentException" := by
        show xo_ _ _ _ = _
        rw [xo_f (fun z => z (hk.mpr c)), xo_t (fun z => c1 ⟨c, z_what4.mpr z⟩)]
      rw [ef]
      exact zz_t2 (n := 1) (zg1 (xi_f c1)) (by decide +kernel) (by decide) hR
    · have ef : ftA_askAt [.ref 0, .int a, .int x] M = some "java/lang/IllegalArgumentException" := xo_t (fun z => c (hk.mp z))
      rw [ef]
      exact zz_t2 (n := 1) (zg1 (xi_f c1)) (by decide +kernel) (by decide) hR
theorem z_callAt {M N : xm_M} (hR : zR M N) (k x : Int32) : zz (ftA_callAt [.ref 0, .int k, .int x] M) ["java/lang/IllegalArgumentException"] M (fA_callAt [.ref 0, .int k, .int x] M).2 (fA_callAt [.ref 0, .int k, .int x] M).1 (fM_callAt [.ref 0, .int k, .int x] N) := by
  obtain ⟨np, nc, na, nh, nk, cr, pt, h, hP, hC, hA, hQ, hK, hG⟩ := id hR
  have hk := z_knk hK k
  by_cases c1 : (0 ≤ k ∧ k ≤ N 0 28 - 1) ∧ (0 ≤ x ∧ x ≤ 3)
  · have ef : ftA_callAt [.ref 0, .int k, .int x] M = none := by
      show xo_ _ _ _ = none
      rw [xo_f (fun z => z (hk.mpr c1.1)), xo_f (fun z => z (z_what3.mp c1.2))]
    rw [ef]
    refine zz_o2 (zg0 (xi_n0.mpr c1) z1 z1 z1) (x := xi_x (x = 0) (M 30 k.toNatClampNeg) (xi_x (x = 1) (M 31 k.toNatClampNeg) (xi_x (x = 2) (xd_bc (M 32 k.toNatClampNeg)) (xi_x (x = 3) (M 33 k.toNatClampNeg) 0)))) rfl ?_ hR
    have c0 := c1.1
    have h60 := hK.1
    rw [hK.2.2.1] at c0
    obtain ⟨i, hi, rfl⟩ := (z_known (by omega)).mp c0
    obtain ⟨⟨e1, e2, e3, e4, e5⟩, -⟩ := hK.2.2.2.1 i hi
    obtain ⟨k1, k2, -⟩ := hK.2.2.2.2.1 i (by omega)
    rw [nI_clamp (by omega), e3, e4, e5, xd_bc_zc (k1.mono hP.1), ← k2]
    rcases z_what3.mp c1.2 with rfl | rfl | rfl | rfl <;> simp [xi_x]
  · rcases Classical.em (0 ≤ k ∧ k ≤ N 0 28 - 1) with c | c
    · have ef : ftA_callAt [.ref 0, .int k, .int x] M = some "java/lang/IllegalArgumentException" := by
        show xo_ _ _ _ = _
        rw [xo_f (fun z => z (hk.mpr c)), xo_t (fun z => c1 ⟨c, z_what3.mpr z⟩)]
      rw [ef]
      exact zz_t2 (n := 1) (zg1 (xi_f c1)) (by decide +kernel) (by decide) hR
    · have ef : ftA_callAt [.ref 0, .int k, .int x] M = some "java/lang/IllegalArgumentException" := xo_t (fun z => c (hk.mp z))
      rw [ef]
      exact zz_t2 (n := 1) (zg1 (xi_f c1)) (by decide +kernel) (by decide) hR
