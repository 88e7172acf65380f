/-! 33.calls -/
theorem z_withdraw {M N : xm_M} (hR : zR M N) (a : Int32) : zz (ftA_withdraw [.ref 0, .int a] M) ["java/lang/IllegalArgumentException", "java/lang/IllegalStateException"] M (fA_withdraw [.ref 0, .int a] M).2 (fA_withdraw [.ref 0, .int a] M).1 (fM_withdraw [.ref 0, .int a] N) := by
  obtain ⟨np, nc, na, nh, nk, cr, pt, h, hP, hC, hA, hQ, hK, hG⟩ := id hR
  have hk := z_kna hA a
  have g6 := hG.2.2.2.2.2
  by_cases c1 : 0 ≤ a ∧ a ≤ N 0 16 - 1
  · have c0 := c1
    have h80 := hA.1
    rw [hA.2.2.1] at c0
    obtain ⟨i, hi, rfl⟩ := (z_known (by omega)).mp c0
    obtain ⟨⟨e1, e2, e3, e4, e5, e6, e7⟩, ep, es, et⟩ := hA.2.2.2 i hi
    have hcl : (nI i).toNatClampNeg = i := nI_clamp (by omega)
    by_cases c3 : N 17 i = 3
    · have ef : ftA_withdraw [.ref 0, .int (nI i)] M = some "java/lang/IllegalStateException" := by
        show xo_ _ _ _ = _
        rw [xo_f (fun z => z (hk.mpr c1)), xo_t (by rw [hcl, e6]; exact c3)]
      rw [ef]
      exact zz_t1 (n := 3) (zg3 (xi_n0.mpr c1) z1 (xi_f (fun z => by rw [hcl] at z; exact z.2 c3))) (by decide) (by decide +kernel) (by decide) hR
    · have ef : ftA_withdraw [.ref 0, .int (nI i)] M = none := by
        show xo_ _ _ _ = _
        rw [xo_f (fun z => z (hk.mpr c1)), xo_f (by rw [hcl, e6]; exact c3)]
      rw [ef]
      have hT := zg0 (r := 1) (m := 1) (xi_n0.mpr c1) z1 (xi_n0.mpr (show (0 ≤ nI i ∧ nI i ≤ N 0 16 - 1) ∧ ¬ N 17 (nI i).toNatClampNeg = 3 from ⟨c1, by rw [hcl]; exact c3⟩)) z1
      refine zz_o1 hT (x := xd_hd (M 7) (M 20 (nI i).toNatClampNeg) (M 21 (nI i).toNatClampNeg) (M 22 (nI i).toNatClampNeg)) rfl (by rw [hcl, e3, e4, e5, g6]) (by show xq_t 5 _ = 0; rw [hT]; rfl) ?_
      show zR (xm_up M 23 (nI i).toNatClampNeg 3) _
      rw [hcl]
      refine ⟨np, nc, na, nh, nk, cr, pt, h, hP, hC, ⟨hA.1, hA.2.1, hA.2.2.1, fun j hj => ?_⟩, hQ, hK, hG⟩
      obtain ⟨⟨d1, d2, d3, d4, d5, d6, d7⟩, dp, ds, dt⟩ := hA.2.2.2 j hj
      by_cases e : j = i
      · subst e
        refine ⟨⟨d1, d2, d3, d4, d5, ?_, d7⟩, dp, ds, ?_⟩
        · simp [xm_up]
        · exact Or.inr (Or.inr (Or.inr (by simp [xm_up])))
      · refine ⟨⟨d1, d2, d3, d4, d5, ?_, d7⟩, dp, ds, ?_⟩
        · simpa [xm_up, e] using d6
        · simpa [xm_up, e] using dt
  · have ef : ftA_withdraw [.ref 0, .int a] M = some "java/lang/IllegalArgumentException" := xo_t (fun z => c1 (hk.mp z))
    rw [ef]
    exact zz_t1 (n := 1) (zg1 (xi_f c1)) (by decide) (by decide +kernel) (by decide) hR
theorem z_member {M N : xm_M} (hR : zR M N) (w p b : Int32) (hb : b = 0 ∨ b = 1) : zz (ftA_member [.ref 0, .int w, .int p, .int b] M) ["java/lang/IllegalArgumentException", "java/lang/IllegalStateException"] M (fA_member [.ref 0, .int w, .int p, .int b] M).2 (fA_member [.ref 0, .int w, .int p, .int b] M).1 (fM_member [.ref 0, .int w, .int p, .int b] N) := by
  obtain ⟨np, nc, na, nh, nk, cr, pt, h, hP, hC, hA, hQ, hK, hG⟩ := id hR
  have hkp := z_kn hP p
  have hkc := z_knc hC w
  have hnp := hP.1
  have hnc := hC.1
  by_cases c1 : (0 ≤ w ∧ w ≤ N 0 12 - 1) ∧ (0 ≤ p ∧ p ≤ N 0 3 - 1)
  · have c0 := c1
    rw [hC.2.2.1, hP.2.2.1] at c0
    obtain ⟨c, hc, rfl⟩ := (z_known (by omega)).mp c0.1
    obtain ⟨i, hi, rfl⟩ := (z_known (by omega)).mp c0.2
    have c1' : (0 ≤ nI c ∧ nI c ≤ M 3 0 - 1) ∧ (0 ≤ nI i ∧ nI i ≤ M 2 0 - 1) := ⟨hkc.mpr c1.1, hkp.mpr c1.2⟩
    have hcl : (nI c).toNatClampNeg = c := nI_clamp (by omega)
    obtain ⟨-, -, -, -, -, hm⟩ := id hC
    obtain ⟨hs, hm⟩ := hm c (by omega)
    have hmi := hm i (by omega)
    have hx : (nI c * 20 + nI i).toNatClampNeg = c * 20 + i := z_idx (by omega) (by omega)
    have hval : xi_b (¬ M 17 (nI c).toNatClampNeg &&& ((1 : Int32) <<< (nI i &&& 31)) = 0) = N 11 (c * 20 + i) := by
      rw [hcl, zb_hold (by omega), hmi]
      cases hz : zb (M 17 c) i with
      | false => rw [xi_f (by simp)]; rfl
      | true => rw [xi_t (by simp)]; rfl
    by_cases c3 : N 11 (c * 20 + i) = b
    · have ef : ftA_member [.ref 0, .int (nI c), .int (nI i), .int b] M = some "java/lang/IllegalStateException" := by
        show xo_ _ _ _ = _
        rw [xo_f (fun z => z c1'), xo_t (by rw [hval]; exact c3)]
      rw [ef]
      exact zz_t1 (n := 3) (zg3 (xi_n0.mpr c1) z1 (xi_f (fun z => by rw [hx] at z; exact z.2 c3))) (by decide) (by decide +kernel) (by decide) hR
    · have ef : ftA_member [.ref 0, .int (nI c), .int (nI i), .int b] M = none := by
        show xo_ _ _ _ = _
        rw [xo_f (fun z => z c1'), xo_f (by rw [hval]; exact c3)]
      rw [ef]
      have hT := zg0 (r := 1) (m := 1) (xi_n0.mpr c1) z1 (xi_n0.mpr (show ((0 ≤ nI c ∧ nI c ≤ N 0 12 - 1) ∧ (0 ≤ nI i ∧ nI i ≤ N 0 3 - 1)) ∧ ¬ N 11 (nI c * 20 + nI i).toNatClampNeg = b from ⟨c1, by rw [hx]; exact c3⟩)) z1
      have hbit : b = if zb (M 17 c ^^^ ((1 : Int32) <<< (nI i &&& 31))) i then 1 else 0 := by
        rw [zb_xor, zb_on (by omega)]
        rw [hmi] at c3
        rcases hb with rfl | rfl
        · cases hz : zb (M 17 c) i with
          | false => rw [hz] at c3; exact absurd rfl c3
          | true => simp
        · cases hz : zb (M 17 c) i with
          | false => simp
          | true => rw [hz] at c3; exact absurd rfl c3
      have hoth : ∀ q, q ≠ i → zb (M 17 c ^^^ ((1 : Int32) <<< (nI i &&& 31))) q = zb (M 17 c) q := by
        intro q hq
        rw [zb_xor, zb_on (by omega)]
        have : decide (i = q) = false := by simp; omega
        rw [this]; simp
      have hs' : zs (M 17 c ^^^ ((1 : Int32) <<< (nI i &&& 31))) np := fun q hq => by rw [hoth q (by omega)]; exact hs q hq
      refine zz_o1 hT (x := xd_bc (M 17 (nI c).toNatClampNeg ^^^ ((1 : Int32) <<< (nI i &&& 31)))) rfl ?_ (by show xq_t 5 _ = 0; rw [hT]; rfl) ?_
      · rw [hcl, xd_bc_n hnp hs', hP.2.2.1, nI_clamp (by omega)]
        refine (zc_sum np (by omega) (fun q hq => ?_)).symm
        show _ ↔ ¬ xm_up (xm_up N 0 0 _) 11 (nI c * 20 + nI i).toNatClampNeg b 11 (nI c * 20 + nI q).toNatClampNeg = 0
        rw [hx, z_idx (by omega) (by omega), xm_up_s]
        by_cases e : q = i
        · subst e
          rw [if_pos rfl, hbit]
          cases zb (M 17 c ^^^ ((1 : Int32) <<< (nI q &&& 31))) q <;> simp
        · rw [if_neg (by omega), hoth q e]
          show _ ↔ ¬ N 11 (c * 20 + q) = 0
          exact (z_mem hC (by omega) (by omega)).symm
      · show zR (xm_up M 17 (nI c).toNatClampNeg (M 17 (nI c).toNatClampNeg ^^^ ((1 : Int32) <<< (nI i &&& 31)))) (xm_up (xm_up N 0 0 _) 11 (nI c * 20 + nI i).toNatClampNeg b)
        rw [hcl, hx]
        obtain ⟨k1, k2, k3, k4, k5, k6⟩ := hC
        refine ⟨np, nc, na, nh, nk, cr, pt, h, hP, ⟨k1, k2, k3, k4, k5, fun j hj => ?_⟩, hA, hQ, hK, hG⟩
        obtain ⟨j1, j2⟩ := k6 j hj
        by_cases e : j = c
        · subst e
          refine ⟨?_, fun q hq => ?_⟩
          · simpa [xm_up] using hs'
          · rw [xm_up_s, xm_up_s, if_pos rfl]
            by_cases e2 : q = i
            · subst e2; rw [if_pos rfl]; exact hbit
            · rw [if_neg (by omega), hoth q e2]
              exact j2 q hq
        · refine ⟨?_, fun q hq => ?_⟩
          · simpa [xm_up, e] using j1
          · rw [xm_up_s, xm_up_s, if_neg e, if_neg (by omega)]
            exact j2 q hq
  · have ef : ftA_member [.ref 0, .int w, .int p, .int b] M = some "java/lang/IllegalArgumentException" := xo_t (fun z => c1 ⟨hkc.mp z.1, hkp.mp z.2⟩)
    rw [ef]
    exact zz_t1 (n := 1) (zg1 (xi_f c1)) (by decide) (by decide +kernel) (by decide) hR
theorem z_budget {M N : xm_M} (hR : zR M N) (p u d : Int32) : zz (ftA_budget [.ref 0, .int p, .int u, .int d] M) ["java/lang/IllegalArgumentException", "java/lang/IndexOutOfBoundsException", "java/lang/IllegalStateException"] M (fA_budget [.ref 0, .int p, .int u, .int d] M).2 (fA_budget [.ref 0, .int p, .int u, .int d] M).1 (fM_budget [.ref 0, .int p, .int u, .int d] N) := by
  obtain ⟨np, nc, na, nh, nk, cr, pt, h, hP, hC, hA, hQ, hK, hG⟩ := id hR
  have hkp := z_kn hP p
  have hnp := hP.1
  obtain ⟨p1, p2, p3, ⟨p4, p5, p6, p7, p8, p9, p10⟩, p11, p12, p13, p14⟩ := id hP
  by_cases c1 : 0 ≤ p ∧ p ≤ N 0 3 - 1
  · have c0 := c1
    rw [p3] at c0
    obtain ⟨i, hi, rfl⟩ := (z_known (by omega)).mp c0
    have hcl : (nI i).toNatClampNeg = i := nI_clamp (by omega)
    by_cases c2 : (0 ≤ u ∧ u ≤ 400) ∧ (1 ≤ d ∧ d ≤ 12)
    · obtain ⟨U, hU, rfl⟩ := (z_range (n := 400) rfl (by omega)).mp c2.1
      have hd1 : (0 : Int32) ≤ d := by
        have := c2.2.1
        have h1 : (1 : Int32).toInt = 1 := by decide
        have h0 : (0 : Int32).toInt = 0 := by decide
        rw [Int32.le_iff_toInt_le] at *; omega
      obtain ⟨D, hD, rfl⟩ := (z_range (n := 12) rfl (by omega)).mp ⟨hd1, c2.2.2⟩
      have hD1 : 1 ≤ D := by
        have := c2.2.1
        rw [show (1 : Int32) = nI 1 from rfl, nI_leI (by omega) (by omega)] at this
        exact this
      obtain ⟨s, hs, es⟩ := p11 i hi
      have hbnd : ∀ y, zH N (nI i) y na ≤ 118260 := fun y => by
        have := zH_le (p := nI i) (y := y) (fun j hj => (hA.2.2.2 j hj).2.2.1)
        have := hA.1
        omega
      have hen : xd_en M (nI U) (nI D) (nI i) 0 0 ↔ ym_en (xm_up (xm_up N 5 (nI i).toNatClampNeg (nI U)) 6 (nI i).toNatClampNeg (nI D)) (nI i) :=
        z_en (a := 0) (b := 0) hs hU hD hG.1 (by have := hA.1; omega) (by rw [hcl, p6]; exact es) hG.2.1 (z_hh hA hG.2.2.2.2.2 (nI i) 0) (z_hh hA hG.2.2.2.2.2 (nI i) 1) (hbnd 0) (hbnd 1) (by rw [hcl]; exact es) (by rw [hcl, xm_up_o (by decide), xm_up_s, if_pos rfl]) (by rw [hcl, xm_up_s, if_pos rfl]) hA.2.2.1 hG.2.2.1 (fun j hj => (hA.2.2.2 j hj).2.2.1) rfl rfl
      by_cases c3 : ym_en (xm_up (xm_up N 5 (nI i).toNatClampNeg (nI U)) 6 (nI i).toNatClampNeg (nI D)) (nI i)
      · have ef : ftA_budget [.ref 0, .int (nI i), .int (nI U), .int (nI D)] M = none := by
          show xo_ _ _ _ = _
          rw [xo_f (fun z => z (hkp.mpr c1)), xo_f (fun z => z c2), xo_f (fun z => z (hen.mpr c3))]
        rw [ef]
        have hT := zg0 (m := 1) (xi_n0.mpr c1) (xi_n0.mpr c2) (xi_n0.mpr (show (0 ≤ nI i ∧ nI i ≤ N 0 3 - 1) ∧ ((0 ≤ nI U ∧ nI U ≤ 400) ∧ (1 ≤ nI D ∧ nI D ≤ 12)) ∧ ym_en (xm_up (xm_up N 5 (nI i).toNatClampNeg (nI U)) 6 (nI i).toNatClampNeg (nI D)) (nI i) from ⟨c1, c2, c3⟩)) z1
        refine zz_ov hT (by show xq_t 7 _ = 0; rw [hT]; rfl) ?_
        show zR (xm_up (xm_up M 11 (nI i).toNatClampNeg (nI U)) 12 (nI i).toNatClampNeg (nI D)) (xm_up (xm_up (xm_up N 0 0 _) 5 (nI i).toNatClampNeg (nI U)) 6 (nI i).toNatClampNeg (nI D))
        rw [hcl]
        refine ⟨np, nc, na, nh, nk, cr, pt, h, ⟨p1, p2, p3, ⟨p4, p5, p6, z_row p7 _ _ _ _ _ _ rfl rfl, z_row p8 _ _ _ _ _ _ rfl rfl, p9, p10⟩, p11, fun j hj => ?_, fun j hj => ?_, fun j hj => ?_⟩, hC, hA, hQ, hK, hG⟩
        · by_cases e : j = i
          · subst e; exact ⟨U, hU, by simp [xm_up]⟩
          · obtain ⟨x, hx, ex⟩ := p12 j hj; exact ⟨x, hx, by simp [xm_up, e, ex]⟩
        · by_cases e : j = i
          · subst e; exact ⟨D, hD1, hD, by simp [xm_up]⟩
          · obtain ⟨x, hx, hx2, ex⟩ := p13 j hj; exact ⟨x, hx, hx2, by simp [xm_up, e, ex]⟩
        · have e : j ≠ i := by omega
          have := p14 j hj
          simp [xm_up, e, this]
      · have ef : ftA_budget [.ref 0, .int (nI i), .int (nI U), .int (nI D)] M = some "java/lang/IllegalStateException" := by
          show xo_ _ _ _ = _
          rw [xo_f (fun z => z (hkp.mpr c1)), xo_f (fun z => z c2), xo_t (fun z => c3 (hen.mp z))]
        rw [ef]
        exact zz_t1 (n := 3) (zg3 (xi_n0.mpr c1) (xi_n0.mpr c2) (xi_f (fun z => c3 z.2.2))) (by decide) (by decide +kernel) (by decide) hR
    · have ef : ftA_budget [.ref 0, .int (nI i), .int u, .int d] M = some "java/lang/IndexOutOfBoundsException" := by
        show xo_ _ _ _ = _
        rw [xo_f (fun z => z (hkp.mpr c1)), xo_t c2]
      rw [ef]
      exact zz_t1 (n := 2) (zg2 (xi_n0.mpr c1) (xi_f c2)) (by decide) (by decide +kernel) (by decide) hR
  · have ef : ftA_budget [.ref 0, .int p, .int u, .int d] M = some "java/lang/IllegalArgumentException" := xo_t (fun z => c1 (hkp.mp z))
    rw [ef]
    exact zz_t1 (n := 1) (zg1 (xi_f c1)) (by decide) (by decide +kernel) (by decide) hR
