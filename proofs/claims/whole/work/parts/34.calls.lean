/-! 34.calls -/
theorem zk1.o {M N M' N' : xm_M} {np nc lo j : Nat} (h : zk1 M N np nc lo j) (e1 : M' 28 j = M 28 j) (e2 : M' 29 j = M 29 j) (e3 : M' 30 j = M 30 j) (e4 : M' 31 j = M 31 j) (e5 : M' 33 j = M 33 j) (e6 : M' 32 j = M 32 j) (f1 : N' 22 j = N 22 j) (f2 : N' 23 j = N 23 j) (f3 : N' 24 j = N 24 j) (f4 : N' 25 j = N 25 j) (f5 : N' 27 j = N 27 j) : zk1 M' N' np nc lo j := by
  unfold zk1 at h ⊢
  rw [e1, e2, e3, e4, e5, e6, f1, f2, f3, f4, f5]
  exact h
theorem z_call {M N : xm_M} (hR : zR M N) (w d : Int32) : zz (ftA_call [.ref 0, .int w, .int d] M) ["java/lang/IllegalArgumentException", "java/lang/IndexOutOfBoundsException", "java/lang/UnsupportedOperationException"] M (fA_call [.ref 0, .int w, .int d] M).2 (fA_call [.ref 0, .int w, .int d] M).1 (fM_call [.ref 0, .int w, .int d] N) := by
  obtain ⟨np, nc, na, nh, nk, cr, pt, h, hP, hC, hA, hQ, hK, hG⟩ := id hR
  have hkc := z_knc hC w
  have hnc := hC.1
  have hnk := hK.1
  have eh : M 0 8 = N 0 1 := by rw [hG.2.2.2.2.1.2.1, hG.2.2.2.2.1.2.2]
  by_cases c1 : 0 ≤ w ∧ w ≤ N 0 12 - 1
  · by_cases c2 : (0 ≤ d ∧ d ≤ 729) ∧ N 0 1 / 24 ≤ d
    · have c2' : (0 ≤ d ∧ d ≤ 729) ∧ M 0 8 / 24 ≤ d := by rw [eh]; exact c2
      by_cases c4 : nk < 60
      · have ef : ftA_call [.ref 0, .int w, .int d] M = none := by
          show xo_ _ _ _ = none
          rw [xo_f (fun z => z (hkc.mpr c1)), xo_f (fun z => z c2'), xo_f (by rw [hK.2.1, z_ge (y := 60) (m := 60) rfl (by omega) (by omega)]; omega)]
        rw [ef]
        have c4' : N 0 28 < 60 := by rw [hK.2.2.1, z_lt (y := 60) (m := 60) rfl (by omega) (by omega)]; exact c4
        have hT := zg0 (t := 1) (xi_n0.mpr c1) (xi_n0.mpr c2) z1 (xi_n0.mpr c4')
        have c0 := c1
        rw [hC.2.2.1] at c0
        obtain ⟨c, hc, rfl⟩ := (z_known (by omega)).mp c0
        obtain ⟨k1, k2, k3, k4, k5, k6⟩ := hK
        have hcl : (nI nk).toNatClampNeg = nk := nI_clamp (by omega)
        have ep : nI nk + 1 - 1 = nI nk := by rw [nI_1, nI_pred]
        obtain ⟨M1, hM1⟩ : ∃ M1, M1 = (fL_add [.ref 6, .int (nI c), .int d] M).2 := ⟨_, rfl⟩
        have hM1' : M1 = xm_up (xm_up (xm_up (xm_up (xm_up (xm_up M 28 nk (nI c)) 29 nk d) 30 nk 0) 31 nk (-1)) 33 nk (-1)) 6 0 (nI nk + 1) := by
          rw [hM1]
          show xm_up (xm_up (xm_up (xm_up (xm_up (xm_up M 28 (M 6 0).toNatClampNeg (nI c)) 29 (M 6 0).toNatClampNeg d) 30 (M 6 0).toNatClampNeg 0) 31 (M 6 0).toNatClampNeg (-1)) 33 (M 6 0).toNatClampNeg (-1)) 6 0 (M 6 0 + 1) = _
          rw [k2, hcl]
        have main : ∀ x : Int32, zR (xm_nx M1 (nI nk)) (ym_nx (xm_up (xm_up (xm_up (xm_up (xm_up N 0 0 x) 22 nk (nI c)) 23 nk d) 25 nk (-1)) 0 28 (nI nk + 1)) (nI nk)) ∧ (ym_nx (xm_up (xm_up (xm_up (xm_up (xm_up N 0 0 x) 22 nk (nI c)) 23 nk d) 25 nk (-1)) 0 28 (nI nk + 1)) (nI nk)) 0 = (xm_up (xm_up (xm_up (xm_up (xm_up N 0 0 x) 22 nk (nI c)) 23 nk d) 25 nk (-1)) 0 28 (nI nk + 1)) 0 := by
          intro x
          have hz := z_nx (M := M1) (N := xm_up (xm_up (xm_up (xm_up (xm_up N 0 0 x) 22 nk (nI c)) 23 nk d) 25 nk (-1)) 0 28 (nI nk + 1)) (np := np) (nc := nc) (na := na) (nh := nh) (nk := nk + 1) (cr := cr) (pt := pt) (h := h) (k := nk) (lo := fun _ => h + 1)
            (by rw [hM1']; exact hP) (by rw [hM1']; exact hC) (by rw [hM1']; exact hA) (by rw [hM1']; exact hQ)
            ⟨by omega, by rw [hM1']; exact nI_1 nk, nI_1 nk, fun j hj ej => (k4 j (by omega)).o (by simp [hM1', xm_up, ej]) (by simp [hM1', xm_up, ej]) (by simp [hM1', xm_up, ej]) (by simp [hM1', xm_up, ej]) (by simp [hM1', xm_up, ej]) (by simp [hM1', xm_up]) (by simp [xm_up, ej]) (by simp [xm_up, ej]) (by simp [xm_up]) (by simp [xm_up, ej]) (by simp [xm_up])⟩
            ⟨by simp [hM1', xm_up], by simp [hM1', xm_up], by simp [hM1', xm_up], ⟨c, hc, by simp [xm_up]⟩, Or.inl (by simp [xm_up])⟩
            (by omega) (fun j hj => by rw [hM1']; exact k5 j hj) (fun j hj => by rw [hM1']; exact k6 j (by omega)) (by rw [hM1']; exact hG) (by simp [hM1', xm_up])
          obtain ⟨⟨x1, x2, x3, x4, x5⟩, x6, x7⟩ := hz
          exact ⟨⟨np, nc, na, nh, nk + 1, cr, pt, h, x1, x2, x3, x4, x6.lo (fun j hj _ t ht _ _ => by by_cases e : j = nk <;> simp [e] at ht <;> exact ht), x5⟩, x7⟩
        obtain ⟨m1, m2⟩ := main (xq_t 11 (xg_n (xi_b (0 ≤ nI c ∧ nI c ≤ N 0 12 - 1)) (xi_b ((0 ≤ d ∧ d ≤ 729) ∧ N 0 1 / 24 ≤ d)) 1 (xi_b (nI nk < 60))))
        refine zz_o1 hT (x := M 6 0 + 1 - 1) rfl ?_ ?_ ?_
        · rw [k3, hcl, ep, m2, k2, ep]
          show nI nk = nI nk + 1 - 1
          exact ep.symm
        · rw [k3, hcl, ep, m2]
          show xq_t 11 _ = 0
          rw [← k3, hT]; rfl
        · show zR (xm_nx (fL_add [.ref 6, .int (nI c), .int d] M).2 (M 6 0 + 1 - 1)) _
          rw [← hM1, k2, k3, hcl, ep]
          exact m1
      · have ef : ftA_call [.ref 0, .int w, .int d] M = some "java/lang/UnsupportedOperationException" := by
          show xo_ _ _ _ = _
          rw [xo_f (fun z => z (hkc.mpr c1)), xo_f (fun z => z c2'), xo_t (by rw [hK.2.1, z_ge (y := 60) (m := 60) rfl (by omega) (by omega)]; omega)]
        rw [ef]
        have c4' : ¬ N 0 28 < 60 := by rw [hK.2.2.1, z_lt (y := 60) (m := 60) rfl (by omega) (by omega)]; exact c4
        exact zz_t1 (n := 4) (zg4 (xi_n0.mpr c1) (xi_n0.mpr c2) z1 (xi_f c4')) (by decide) (by decide +kernel) (by decide) hR
    · have ef : ftA_call [.ref 0, .int w, .int d] M = some "java/lang/IndexOutOfBoundsException" := by
        show xo_ _ _ _ = _
        rw [xo_f (fun z => z (hkc.mpr c1)), xo_t (by rw [eh]; exact c2)]
      rw [ef]
      exact zz_t1 (n := 2) (zg2 (xi_n0.mpr c1) (xi_f c2)) (by decide) (by decide +kernel) (by decide) hR
  · have ef : ftA_call [.ref 0, .int w, .int d] M = some "java/lang/IllegalArgumentException" := xo_t (fun z => c1 (hkc.mp z))
    rw [ef]
    exact zz_t1 (n := 1) (zg1 (xi_f c1)) (by decide) (by decide +kernel) (by decide) hR
theorem z_answer {M N : xm_M} (hR : zR M N) (k b : Int32) : zz (ftA_answer [.ref 0, .int k, .int b] M) ["java/lang/IllegalArgumentException", "java/lang/IllegalStateException"] M (fA_answer [.ref 0, .int k, .int b] M).2 (fA_answer [.ref 0, .int k, .int b] M).1 (fM_answer [.ref 0, .int k, .int b] N) := by
  obtain ⟨np, nc, na, nh, nk, cr, pt, h, hP, hC, hA, hQ, hK, hG⟩ := id hR
  have hkk := z_knk hK k
  have hnk := hK.1
  by_cases c1 : 0 ≤ k ∧ k ≤ N 0 28 - 1
  · have c0 := c1
    rw [hK.2.2.1] at c0
    obtain ⟨i, hi, rfl⟩ := (z_known (by omega)).mp c0
    have hcl : (nI i).toNatClampNeg = i := nI_clamp (by omega)
    obtain ⟨k1, k2, k3, k4, k5, k6⟩ := id hK
    obtain ⟨⟨e1, e2, e3, e4, e5⟩, ec, es⟩ := k4 i hi
    by_cases c3 : N 24 i = 0
    · have ef : ftA_answer [.ref 0, .int (nI i), .int b] M = none := by
        show xo_ _ _ _ = none
        rw [xo_f (fun z => z (hkk.mpr c1)), xo_f (fun z => z (by rw [hcl, e3]; exact c3))]
      rw [ef]
      have hT := zg0 (r := 1) (m := 1) (xi_n0.mpr c1) z1 (xi_n0.mpr (show (0 ≤ nI i ∧ nI i ≤ N 0 28 - 1) ∧ N 24 (nI i).toNatClampNeg = 0 from ⟨c1, by rw [hcl]; exact c3⟩)) z1
      have fin : ∀ (M' N' : xm_M), zR M' N' → M' 6 0 = M 6 0 → M' 30 i = N' 24 i := by
        rintro M' N' ⟨np, nc, na, nh, nk', cr, pt, h, hP, hC, hA, hQ, hK', hG⟩ e
        have h60 := hK'.1
        have e' : nI nk' = nI nk := by rw [← hK'.2.1, e, k2]
        have := (nI_eq (by omega) (by omega)).mp e'
        exact (hK'.2.2.2.1 i (by omega)).1.2.2.1
      by_cases cb : b = 0
      · have hz := fun x : Int32 => z_nx (M := M) (N := xm_up N 0 0 x) (lo := fun _ => h + 1) hP hC hA hQ ⟨k1, k2, k3, fun j hj _ => k4 j hj⟩ (k4 i hi).zk0 hi k5 k6 hG (e3.trans c3)
        obtain ⟨⟨x1, x2, x3, x4, x5⟩, x6, x7⟩ := hz (xq_t 5 (xg_n (xi_b (0 ≤ nI i ∧ nI i ≤ N 0 28 - 1)) 1 (xi_b ((0 ≤ nI i ∧ nI i ≤ N 0 28 - 1) ∧ N 24 (nI i).toNatClampNeg = 0)) 1))
        have hR' : zR (xm_nx M (nI i)) (ym_nx (xm_up N 0 0 (xq_t 5 (xg_n (xi_b (0 ≤ nI i ∧ nI i ≤ N 0 28 - 1)) 1 (xi_b ((0 ≤ nI i ∧ nI i ≤ N 0 28 - 1) ∧ N 24 (nI i).toNatClampNeg = 0)) 1))) (nI i)) := ⟨np, nc, na, nh, nk, cr, pt, h, x1, x2, x3, x4, x6.lo (fun j hj _ t ht _ _ => by by_cases e : j = i <;> simp [e] at ht <;> exact ht), x5⟩
        have eA : (fA_answer [.ref 0, .int (nI i), .int b] M).2 = xm_nx M (nI i) := if_pos cb
        have eA1 : (fA_answer [.ref 0, .int (nI i), .int b] M).1 = some (.int (xm_nx M (nI i) 30 i)) := by
          show some (Value.int ((@ite xm_M (b = 0) (Classical.propDecidable _) _ _) 30 (nI i).toNatClampNeg)) = _
          rw [if_pos cb, hcl]
        rw [eA, eA1]
        refine zz_o1 hT rfl ?_ ?_ ?_
        · rw [if_pos cb]
          refine (fin _ _ hR' (by rw [x6.2.1, k2])).trans ?_
          rw [hcl]
        · rw [if_pos cb, x7]
          show xq_t 5 _ = 0
          rw [hT]; rfl
        · rw [if_pos cb]; exact hR'
      · have hR' : ∀ x : Int32, zR (xm_up (xm_up M 30 i 1) 33 i (-1)) (xm_up (xm_up (xm_up N 0 0 x) 24 i 1) 27 i (-1)) := by
          intro x
          refine ⟨np, nc, na, nh, nk, cr, pt, h, hP, hC, hA, hQ, ⟨k1, k2, k3, fun j hj => ?_, k5, k6⟩, hG⟩
          by_cases ej : j = i
          · subst ej
            refine ⟨⟨e1, e2, by simp [xm_up], e4, by simp [xm_up]⟩, ec, Or.inr (Or.inl ⟨by simp [xm_up], ?_, by simp [xm_up]⟩)⟩
            rcases es with ⟨-, s, -⟩ | ⟨s, -⟩ | ⟨s, -⟩
            · exact s
            · rw [c3] at s; exact absurd s (by decide)
            · rw [c3] at s; exact absurd s (by decide)
          · exact (k4 j hj).o rfl rfl (by simp [xm_up, ej]) rfl (by simp [xm_up, ej]) rfl rfl rfl (by simp [xm_up, ej]) rfl (by simp [xm_up, ej])
        have eA : (fA_answer [.ref 0, .int (nI i), .int b] M).2 = xm_up (xm_up M 30 i 1) 33 i (-1) := by
          show @ite xm_M (b = 0) (Classical.propDecidable _) _ _ = _
          rw [if_neg cb]
          show xm_up (xm_up M 30 (nI i).toNatClampNeg 1) 33 (nI i).toNatClampNeg (-1) = _
          rw [hcl]
        have eA1 : (fA_answer [.ref 0, .int (nI i), .int b] M).1 = some (.int (xm_up (xm_up M 30 i 1) 33 i (-1) 30 i)) := by
          rw [← eA]
          show some (Value.int ((@ite xm_M (b = 0) (Classical.propDecidable _) _ _) 30 (nI i).toNatClampNeg)) = some (Value.int ((@ite xm_M (b = 0) (Classical.propDecidable _) _ _) 30 i))
          rw [hcl]
        rw [eA, eA1]
        refine zz_o1 hT rfl ?_ ?_ ?_
        · rw [if_neg cb, hcl]
          exact fin _ _ (hR' _) rfl
        · rw [if_neg cb]
          show xq_t 5 _ = 0
          rw [hT]; rfl
        · rw [if_neg cb, hcl]; exact hR' _
    · have ef : ftA_answer [.ref 0, .int (nI i), .int b] M = some "java/lang/IllegalStateException" := by
        show xo_ _ _ _ = _
        rw [xo_f (fun z => z (hkk.mpr c1)), xo_t (by rw [hcl, e3]; exact c3)]
      rw [ef]
      exact zz_t1 (n := 3) (zg3 (xi_n0.mpr c1) z1 (xi_f (fun z => by rw [hcl] at z; exact c3 z.2))) (by decide) (by decide +kernel) (by decide) hR
  · have ef : ftA_answer [.ref 0, .int k, .int b] M = some "java/lang/IllegalArgumentException" := xo_t (fun z => c1 (hkk.mp z))
    rw [ef]
    exact zz_t1 (n := 1) (zg1 (xi_f c1)) (by decide) (by decide +kernel) (by decide) hR
theorem z_tick {M N : xm_M} (hR : zR M N) (u : Int32) : zz (ftA_tick [.ref 0, .int u] M) ["java/lang/IndexOutOfBoundsException"] M (fA_tick [.ref 0, .int u] M).2 (fA_tick [.ref 0, .int u] M).1 (fM_tick [.ref 0, .int u] N) := by
  obtain ⟨np, nc, na, nh, nk, cr, pt, h, hP, hC, hA, hQ, hK, hG⟩ := id hR
  have e8 : M 0 8 = nI h := hG.2.2.2.2.1.2.1
  have e1 : N 0 1 = nI h := hG.2.2.2.2.1.2.2
  have hh : h ≤ 17519 := hG.2.2.2.2.1.1
  by_cases c2 : (1 ≤ u ∧ u ≤ 2000) ∧ u ≤ 17519 - N 0 1
  · have ef : ftA_tick [.ref 0, .int u] M = none := xo_f (fun z => z (by rw [e8, ← e1]; exact c2))
    rw [ef]
    have hT := zg0 (k := 1) (t := 1) (m := 1) z1 (xi_n0.mpr c2) z1 z1
    have h1 : (1 : Int32).toInt = 1 := by decide
    have h0 : (0 : Int32).toInt = 0 := by decide
    obtain ⟨U, hU, rfl⟩ := (z_range (x := u) (n := 2000) rfl (by omega)).mp ⟨by have := c2.1.1; rw [Int32.le_iff_toInt_le] at *; omega, c2.1.2⟩
    have hUe : h + U ≤ 17519 := by
      have := c2.2
      rw [e1, show (17519 : Int32) = nI 17519 from rfl, nI_sub (by omega), nI_leI (by omega) (by omega)] at this
      omega
    obtain ⟨t1, t2, t3⟩ := z_tk (e := h + U) hUe U U h 0 M (xm_up N 0 0 (xq_t 2 (xg_n 1 (xi_b ((1 ≤ nI U ∧ nI U ≤ 2000) ∧ nI U ≤ 17519 - N 0 1)) 1 1))) (Nat.le_refl _) rfl ⟨hP, hC, hA, hQ, hK, hG⟩
    have eM : M 0 8 + nI U = nI (h + U) := by rw [e8, nI_add]
    have eA : fA_tick [.ref 0, .int (nI U)] M = (some (.int (xq_tk (nI (h + U)) U (0, M)).1), xm_up (xq_tk (nI (h + U)) U (0, M)).2 0 8 (nI (h + U))) := by
      show (some (Value.int (xq_tk (M 0 8 + nI U) (nI U).toNatClampNeg (0, M)).1), xm_up (xq_tk (M 0 8 + nI U) (nI U).toNatClampNeg (0, M)).2 0 8 (M 0 8 + nI U)) = _
      rw [eM, nI_clamp (by omega)]
    rw [eA]
    refine zz_o1 hT rfl ?_ ?_ ?_
    · rw [nI_clamp (by omega), ym_tk_zit]; exact t1
    · rw [nI_clamp (by omega), ym_tk_zit, t3]
      show xq_t 2 _ = 0
      rw [hT]; rfl
    · rw [nI_clamp (by omega), ym_tk_zit]
      obtain ⟨y1, y2, y3, y4, y5, y6⟩ := t2
      exact ⟨np, nc, na, nh, nk, cr, pt, h + U, y1, y2, y3, y4, y5, y6⟩
  · have ef : ftA_tick [.ref 0, .int u] M = some "java/lang/IndexOutOfBoundsException" := xo_t (by rw [e8, ← e1]; exact c2)
    rw [ef]
    exact zz_t1 (n := 2) (zg2 z1 (xi_f c2)) (by decide) (by decide +kernel) (by decide) hR
