/-! GRANT, LEFT; what the contracts ask; the start -/
theorem z_sh {M N : xm_M} {np nc na nk : Nat} {lo : Nat → Nat} (hP : zP M N np) (hC : zC M N np nc) (hA : zA M N np na) (hK : zK M N np nc nk lo) (h7 : M 7 = N 1) {q : Nat} (hq : q < np) {f t : Int32} (h : Int32) (hs : xv_span f t) :
    (xd_fd M f t h (nI q) = -1 ∧ ym_sh N f t h (nI q) < 0) ∨ (∃ D c, D < 730 ∧ c < 6 ∧ xd_fd M f t h (nI q) = nI D ∧ xd_cl M (nI q) (nI D) = nI c ∧ ym_sh N f t h (nI q) = nI (100 * D + c)) := by
  obtain ⟨F, T, rfl, rfl, hFT, hT⟩ := id hs
  have hnc := hC.1
  have e1 := z_fd hP hC hA hK h7 hq (nI F) (nI T) h ((nI T).toNatClampNeg + 1 - (nI F).toNatClampNeg)
  unfold xd_fd ym_sh ym_fd
  rw [e1, nI_clamp (by omega), nI_clamp (by omega)]
  rcases xq_f_in (P := ym_dy N (nI F) (nI T) h (nI q) F) (T + 1 - F) with hx | ⟨m, m1, m2, m3⟩
  · rw [hx, xi_xt rfl, xi_xt rfl]
    exact Or.inl ⟨rfl, by decide⟩
  · refine Or.inr ?_
    rw [m3, xi_xf (xq_ne (by omega)), xi_xf (xq_ne (by omega)), nI_add]
    have hc := m2.2.2
    have hin : ∃ c, c < 6 ∧ ym_cs N (nI q) (nI (F + m)) = nI c := by
      unfold ym_cs at hc ⊢
      rw [hC.2.2.1, nI_clamp (by omega)] at hc ⊢
      rcases xq_f_in (P := ym_csi N (nI q) (nI (F + m))) nc with z | ⟨c, c1, c2, c3⟩
      · exact absurd z hc
      · exact ⟨c, by omega, c3⟩
    obtain ⟨c, hc6, ec⟩ := hin
    refine ⟨F + m, c, by omega, hc6, rfl, by rw [z_cs hP hC hA hK hq]; exact ec, ?_⟩
    rw [ec, show (100 : Int32) = nI 100 from rfl, nI_mul, nI_add]
theorem z_gM {N : xm_M} {a p : Int32} {i : Nat} (hci : a.toNatClampNeg = i) {T : Nat} (hT : T = xg_n (xi_b ((0 ≤ a ∧ a ≤ N 0 16 - 1) ∧ (0 ≤ p ∧ p ≤ N 0 3 - 1))) 1 (xi_b (((0 ≤ a ∧ a ≤ N 0 16 - 1) ∧ (0 ≤ p ∧ p ≤ N 0 3 - 1)) ∧ N 17 i < 2 ∧ N 3 (N 12 i).toNatClampNeg < N 3 p.toNatClampNeg ∧ ¬ N 18 i = p)) 1) {x : Int32} (hx : x = xq_t 5 T) : fM_grant [.ref 0, .int a, .int p] N = (some (.int (xi_x (T = 0) (xi_x (N 13 i = 0 ∧ N 17 i = 0) 1 (xi_x ((ym_sh (xm_up N 0 0 x) (N 14 i) (N 15 i) (N 16 i) (N 12 i)) < 0) 2 0)) 0)), @ite xm_M (T = 0) (Classical.propDecidable _) (@ite xm_M (N 13 i = 0 ∧ N 17 i = 0) (Classical.propDecidable _) (xm_up (xm_up (xm_up N 0 0 x) 17 i 1) 18 i p) (@ite xm_M ((ym_sh (xm_up N 0 0 x) (N 14 i) (N 15 i) (N 16 i) (N 12 i)) < 0) (Classical.propDecidable _) (xm_up (xm_up (xm_up N 0 0 x) 18 i (xi_x (N 17 i = 0) p (N 18 i))) 17 i 2) (@ite xm_M (N 0 24 < 100) (Classical.propDecidable _) (xm_up (xm_up (xm_up (xm_up (xm_up N 0 0 x) 19 (N 0 24).toNatClampNeg a) 20 (N 0 24).toNatClampNeg ((ym_sh (xm_up N 0 0 x) (N 14 i) (N 15 i) (N 16 i) (N 12 i)) / 100)) 21 (N 0 24).toNatClampNeg ((ym_sh (xm_up N 0 0 x) (N 14 i) (N 15 i) (N 16 i) (N 12 i)) - (ym_sh (xm_up N 0 0 x) (N 14 i) (N 15 i) (N 16 i) (N 12 i)) / 100 * 100)) 0 24 (N 0 24 + 1)) (xm_up N 0 0 x)))) (xm_up N 0 0 x)) := by
  subst hci
  subst hT
  subst hx
  rfl
theorem z_gA {M : xm_M} {a p : Int32} {i : Nat} (hci : a.toNatClampNeg = i) : fA_grant [.ref 0, .int a, .int p] M = (some (.int (xi_x (M 19 i = 2 ∨ M 23 i = 1) (xi_x (xd_fd M (M 20 i) (M 21 i) (M 22 i) (M 18 i) = -1) 2 0) 1)), @ite xm_M (M 19 i = 2 ∨ M 23 i = 1) (Classical.propDecidable _) (@ite xm_M (xd_fd M (M 20 i) (M 21 i) (M 22 i) (M 18 i) = -1) (Classical.propDecidable _) (xm_up (xm_up M 24 i (xi_x (M 24 i = -1) p (M 24 i))) 23 i 2) ((fH_keep [.ref 5, .int a, .int (xd_fd M (M 20 i) (M 21 i) (M 22 i) (M 18 i)), .int (xd_cl M (M 18 i) (xd_fd M (M 20 i) (M 21 i) (M 22 i) (M 18 i)))] M).2)) (xm_up (xm_up M 24 i p) 23 i 1)) := by
  subst hci
  rfl
theorem z_grant {M N : xm_M} (hR : zR M N) (a p : Int32) : zz (ftA_grant [.ref 0, .int a, .int p] M) ["java/lang/IllegalArgumentException", "java/lang/IllegalStateException"] M (fA_grant [.ref 0, .int a, .int p] M).2 (fA_grant [.ref 0, .int a, .int p] M).1 (fM_grant [.ref 0, .int a, .int p] N) := by
  obtain ⟨np, nc, na, nh, nk, cr, pt, hr, hP, hC, hA, hQ, hK, hG⟩ := id hR
  have hkp := z_kn hP p
  have hka := z_kna hA a
  have hnp := hP.1
  have hna := hA.1
  by_cases c1 : (0 ≤ a ∧ a ≤ N 0 16 - 1) ∧ (0 ≤ p ∧ p ≤ N 0 3 - 1)
  · have c1' : (0 ≤ a ∧ a ≤ M 4 0 - 1) ∧ (0 ≤ p ∧ p ≤ M 2 0 - 1) := ⟨hka.mpr c1.1, hkp.mpr c1.2⟩
    have c0 := c1
    rw [hA.2.2.1, hP.2.2.1] at c0
    obtain ⟨i, hi, rfl⟩ := (z_known (by omega)).mp c0.1
    obtain ⟨j, hj, rfl⟩ := (z_known (by omega)).mp c0.2
    have hci : (nI i).toNatClampNeg = i := nI_clamp (by omega)
    obtain ⟨⟨e1, e2, e3, e4, e5, e6, e7⟩, ⟨q, hq, eq⟩, hs, hst⟩ := hA.2.2.2 i hi
    obtain ⟨-, -, -, ⟨-, p9, -⟩, -⟩ := id hP
    have c3i : ((M 23 i = 0 ∨ M 23 i = 1) ∧ ¬ M 24 i = nI j ∧ M 9 (M 18 i).toNatClampNeg < M 9 (nI j).toNatClampNeg) ↔ (N 17 i < 2 ∧ N 3 (N 12 i).toNatClampNeg < N 3 (nI j).toNatClampNeg ∧ ¬ N 18 i = nI j) := by
      rw [e6, e7, e1, p9]
      have hst2 : (N 17 i = 0 ∨ N 17 i = 1) ↔ N 17 i < 2 := by
        rcases hst with ⟨z, -⟩ | ⟨z, -⟩ | z | z
        · rw [z]; exact ⟨fun _ => by decide, fun _ => Or.inl rfl⟩
        · rw [z]; exact ⟨fun _ => by decide, fun _ => Or.inr rfl⟩
        · rw [z]; exact ⟨fun w => by rcases w with w | w <;> exact absurd w (by decide), fun w => absurd w (by decide)⟩
        · rw [z]; exact ⟨fun w => by rcases w with w | w <;> exact absurd w (by decide), fun w => absurd w (by decide)⟩
      rw [hst2]
      exact ⟨fun ⟨u1, u2, u3⟩ => ⟨u1, u3, u2⟩, fun ⟨u1, u3, u2⟩ => ⟨u1, u2, u3⟩⟩
    by_cases c3 : N 17 i < 2 ∧ N 3 (N 12 i).toNatClampNeg < N 3 (nI j).toNatClampNeg ∧ ¬ N 18 i = nI j
    · have ef : ftA_grant [.ref 0, .int (nI i), .int (nI j)] M = none := by
        show xo_ _ _ _ = none
        rw [xo_f (fun z => z c1'), xo_f (fun z => z (by rw [hci]; exact c3i.mpr c3))]
      rw [ef]
      obtain ⟨Tn, hTn⟩ : ∃ Tn, Tn = xg_n (xi_b ((0 ≤ nI i ∧ nI i ≤ N 0 16 - 1) ∧ (0 ≤ nI j ∧ nI j ≤ N 0 3 - 1))) 1 (xi_b (((0 ≤ nI i ∧ nI i ≤ N 0 16 - 1) ∧ (0 ≤ nI j ∧ nI j ≤ N 0 3 - 1)) ∧ N 17 i < 2 ∧ N 3 (N 12 i).toNatClampNeg < N 3 (nI j).toNatClampNeg ∧ ¬ N 18 i = nI j)) 1 := ⟨_, rfl⟩
      have hT : Tn = 0 := hTn.trans (zg0 (r := 1) (m := 1) (xi_n0.mpr c1) z1 (xi_n0.mpr (show ((0 ≤ nI i ∧ nI i ≤ N 0 16 - 1) ∧ (0 ≤ nI j ∧ nI j ≤ N 0 3 - 1)) ∧ N 17 i < 2 ∧ N 3 (N 12 i).toNatClampNeg < N 3 (nI j).toNatClampNeg ∧ ¬ N 18 i = nI j from ⟨c1, c3⟩)) z1)
      obtain ⟨x, hx⟩ : ∃ x, x = xq_t 5 Tn := ⟨_, rfl⟩
      have hx0 : x = 0 := by rw [hx, hT]; rfl
      have hopen : N 17 i = 0 ∧ (N 13 i = 0 ∨ N 13 i = 2) ∧ N 18 i = -1 ∨ N 17 i = 1 ∧ ¬ N 18 i = -1 := by
        rcases hst with z | z | z | z
        · exact Or.inl z
        · exact Or.inr z
        · rw [z] at c3; exact absurd c3.1 (by decide)
        · rw [z] at c3; exact absurd c3.1 (by decide)
      have hsh := z_sh (M := M) (N := xm_up N 0 0 x) hP hC hA hK hG.2.2.2.2.2 hq (N 16 i) hs
      rw [z_gM hci hTn hx, z_gA hci]
      rw [e1, e2, e3, e4, e5, e6, e7, eq]
      have main : ∀ {ra : Option Value} {Ma : xm_M} {y R : Int32} {A B B' : xm_M}, ra = some (.int R) → y = R → B = A → A 0 0 = 0 → zR Ma A → zz none ["java/lang/IllegalArgumentException", "java/lang/IllegalStateException"] M Ma ra (some (.int (xi_x (Tn = 0) y 0)), @ite xm_M (Tn = 0) (Classical.propDecidable _) B B') := by
        intro ra Ma y R A B B' h1 h2 h3 h4 h5
        subst h2
        subst h3
        exact zz_o1 hT h1 rfl h4 h5
      by_cases cF : N 13 i = 0 ∧ N 17 i = 0
      · -- first step
        have cL : ¬ (N 13 i = 2 ∨ N 17 i = 1) := by rw [cF.1, cF.2]; decide
        refine main (R := 1) (A := xm_up (xm_up (xm_up N 0 0 x) 17 i 1) 18 i (nI j)) (by rw [xi_xf cL]) (by rw [xi_xt cF]) (if_pos cF) hx0 ?_
        show zR (@ite xm_M (N 13 i = 2 ∨ N 17 i = 1) (Classical.propDecidable _) _ _) _
        rw [if_neg cL]
        refine ⟨np, nc, na, nh, nk, cr, pt, hr, hP, hC, ⟨hA.1, hA.2.1, hA.2.2.1, fun u hu => ?_⟩, hQ, hK, hG⟩
        obtain ⟨⟨d1, d2, d3, d4, d5, d6, d7⟩, dp, ds, dt⟩ := hA.2.2.2 u hu
        by_cases e : u = i
        · subst e
          refine ⟨⟨d1, d2, d3, d4, d5, ?_, ?_⟩, dp, ds, Or.inr (Or.inl ⟨?_, ?_⟩)⟩
          · simp [xm_up]
          · simp [xm_up]
          · simp [xm_up]
          · simp [xm_up]; exact xq_ne (by omega)
        · refine ⟨⟨d1, d2, d3, d4, d5, ?_, ?_⟩, dp, ds, ?_⟩
          · simpa [xm_up, e] using d6
          · simpa [xm_up, e] using d7
          · simpa [xm_up, e] using dt
      · have cL : N 13 i = 2 ∨ N 17 i = 1 := by
          rcases hopen with ⟨z1, z2 | z2, z3⟩ | ⟨z1, z2⟩
          · exact absurd ⟨z2, z1⟩ cF
          · exact Or.inl z2
          · exact Or.inr z1
        have estep : xi_x (N 18 i = -1) (nI j) (N 18 i) = xi_x (N 17 i = 0) (nI j) (N 18 i) := by
          rcases hopen with ⟨z1, z2, z3⟩ | ⟨z1, z2⟩
          · rw [xi_xt z3, xi_xt z1]
          · rw [xi_xf z2, xi_xf (by rw [z1]; decide)]
        rcases hsh with ⟨s1, s2⟩ | ⟨D, c, hD, hc, s1, s2, s3⟩
        · -- granted
          refine main (R := 2) (A := xm_up (xm_up (xm_up N 0 0 x) 18 i (xi_x (N 17 i = 0) (nI j) (N 18 i))) 17 i 2) (by rw [xi_xt cL, xi_xt s1]) (by rw [xi_xf cF, xi_xt s2]) (by rw [if_neg cF, if_pos s2]) hx0 ?_
          show zR (@ite xm_M (N 13 i = 2 ∨ N 17 i = 1) (Classical.propDecidable _) _ _) _
          rw [if_pos cL, if_pos s1, estep]
          refine ⟨np, nc, na, nh, nk, cr, pt, hr, hP, hC, ⟨hA.1, hA.2.1, hA.2.2.1, fun u hu => ?_⟩, hQ, hK, hG⟩
          obtain ⟨⟨d1, d2, d3, d4, d5, d6, d7⟩, dp, ds, dt⟩ := hA.2.2.2 u hu
          by_cases e : u = i
          · subst e
            refine ⟨⟨d1, d2, d3, d4, d5, ?_, ?_⟩, dp, ds, Or.inr (Or.inr (Or.inl ?_))⟩
            · simp [xm_up]
            · simp [xm_up]
            · simp [xm_up]
          · refine ⟨⟨d1, d2, d3, d4, d5, ?_, ?_⟩, dp, ds, ?_⟩
            · simpa [xm_up, e] using d6
            · simpa [xm_up, e] using d7
            · simpa [xm_up, e] using dt
        · -- held
          have n1 : ¬ xd_fd M (N 14 i) (N 15 i) (N 16 i) (nI q) = -1 := by rw [s1]; exact xq_ne (by omega)
          have n2 : ¬ ym_sh (xm_up N 0 0 x) (N 14 i) (N 15 i) (N 16 i) (nI q) < 0 := by rw [s3]; exact nI_pos (by omega)
          have d1 : nI (100 * D + c) / 100 = nI D := by
            rw [show (100 : Int32) = nI 100 from rfl, nI_div (by omega) (by omega)]
            congr 1; omega
          have d2 : nI (100 * D + c) - nI D * 100 = nI c := by
            rw [show (100 : Int32) = nI 100 from rfl, nI_mul, nI_sub (by omega)]
            congr 1; omega
          obtain ⟨h1, h2, h3, h4, h5, h6⟩ := hQ
          have hkeep : (fH_keep [.ref 5, .int (nI i), .int (nI D), .int (nI c)] M).2 = @ite xm_M (M 5 0 < 100) (Classical.propDecidable _) (xm_up (xm_up (xm_up (xm_up M 25 (M 5 0).toNatClampNeg (nI i)) 26 (M 5 0).toNatClampNeg (nI D)) 27 (M 5 0).toNatClampNeg (nI c)) 5 0 (M 5 0 + 1)) M := rfl
          by_cases cR : nh < 100
          · have cR1 : M 5 0 < 100 := by rw [h2, z_lt (y := 100) (m := 100) rfl (by omega) (by omega)]; exact cR
            have cR2 : N 0 24 < 100 := by rw [h3, z_lt (y := 100) (m := 100) rfl (by omega) (by omega)]; exact cR
            refine main (R := 0) (A := xm_up (xm_up (xm_up (xm_up (xm_up N 0 0 x) 19 nh (nI i)) 20 nh (nI D)) 21 nh (nI c)) 0 24 (nI nh + 1)) (by rw [xi_xt cL, xi_xf n1]) (by rw [xi_xf cF, xi_xf n2]) (by rw [if_neg cF, if_neg n2, if_pos cR2, s3, d1, d2, h3, nI_clamp (by omega)]) hx0 ?_
            show zR (@ite xm_M (N 13 i = 2 ∨ N 17 i = 1) (Classical.propDecidable _) _ _) _
            rw [if_pos cL, if_neg n1, s1, s2, hkeep, if_pos cR1, h2, nI_clamp (by omega)]
            exact ⟨np, nc, na, nh + 1, nk, cr, pt, hr, hP, hC, hA, ⟨by omega, nI_1 nh, nI_1 nh, z_row h4 _ _ _ _ _ _ rfl rfl, z_row h5 _ _ _ _ _ _ rfl rfl, z_row h6 _ _ _ _ _ _ rfl rfl⟩, hK, hG⟩
          · have cR1 : ¬ M 5 0 < 100 := by rw [h2, z_lt (y := 100) (m := 100) rfl (by omega) (by omega)]; exact cR
            have cR2 : ¬ N 0 24 < 100 := by rw [h3, z_lt (y := 100) (m := 100) rfl (by omega) (by omega)]; exact cR
            refine main (R := 0) (A := xm_up N 0 0 x) (by rw [xi_xt cL, xi_xf n1]) (by rw [xi_xf cF, xi_xf n2]) (by rw [if_neg cF, if_neg n2, if_neg cR2]) hx0 ?_
            show zR (@ite xm_M (N 13 i = 2 ∨ N 17 i = 1) (Classical.propDecidable _) _ _) _
            rw [if_pos cL, if_neg n1, s1, s2, hkeep, if_neg cR1]
            exact zR_thr _ hR
    · have ef : ftA_grant [.ref 0, .int (nI i), .int (nI j)] M = some "java/lang/IllegalStateException" := by
        show xo_ _ _ _ = _
        rw [xo_f (fun z => z c1'), xo_t (fun z => c3 (by rw [hci] at z; exact c3i.mp z))]
      rw [ef]
      exact zz_t1 (n := 3) (zg3 (xi_n0.mpr c1) z1 (xi_f (fun z => by rw [hci] at z; exact c3 z.2))) (by decide) (by decide +kernel) (by decide) hR
  · have ef : ftA_grant [.ref 0, .int a, .int p] M = some "java/lang/IllegalArgumentException" := xo_t (fun z => c1 ⟨hka.mp z.1, hkp.mp z.2⟩)
    rw [ef]
    exact zz_t1 (n := 1) (zg1 (xi_f c1)) (by decide) (by decide +kernel) (by decide) hR
theorem z_lft {M N : xm_M} {np na cr pt h0 : Nat} (hP : zP M N np) (hA : zA M N np na) (hG : zG M N cr pt h0) {i : Nat} (hi : i < np) : ∃ d, 1 ≤ d ∧ d ≤ 12 ∧ M 12 i = nI d ∧ N 6 i = nI d ∧
    ((xd_py M (M 11 i) (M 12 i) (nI i) 0 0).toInt = (ym_ro N (nI i) 0).toInt ∧ (ym_ro N (nI i) 0).toInt < 2 ^ 30 ∧ -(2 ^ 30) < (ym_ro N (nI i) 0).toInt) ∧
    ((xd_py M (M 11 i) (M 12 i) (nI i) 1 0 + xd_pc (M 0 6) (M 12 i) (xd_py M (M 11 i) (M 12 i) (nI i) 0 0)).toInt = (ym_ro N (nI i) 1).toInt ∧ (ym_ro N (nI i) 1).toInt < 2 ^ 30 ∧ -(2 ^ 30) < (ym_ro N (nI i) 1).toInt) := by
  have hnp := hP.1
  have hna := hA.1
  have hcl : (nI i).toNatClampNeg = i := nI_clamp (by omega)
  obtain ⟨p1, p2, p3, ⟨p4, p5, p6, p7, p8, p9, p10⟩, p11, p12, p13, p14⟩ := id hP
  obtain ⟨s, hs2, es⟩ := p11 i hi
  obtain ⟨u, hu, eu⟩ := p12 i hi
  obtain ⟨d, hd1, hd, ed⟩ := p13 i hi
  have hbnd : ∀ y, zH N (nI i) y na ≤ 116800 := fun y => by
    have := zH_le (p := nI i) (y := y) (fun j hj => (hA.2.2.2 j hj).2.2.1)
    omega
  refine ⟨d, hd1, hd, by rw [p8]; exact ed, ed, ?_⟩
  rw [p7, p8, eu, ed]
  have b0 := hbnd 0
  have b1 := hbnd 1
  exact z_left0 (a := 0) (b := 0) (n := na) hs2 hu hd hG.1 (by omega) (by rw [hcl, p6]; exact es) hG.2.1 (z_hh hA hG.2.2.2.2.2 (nI i) 0) (z_hh hA hG.2.2.2.2.2 (nI i) 1) (by omega) (by omega) (by rw [hcl]; exact es) (by rw [hcl]; exact eu) (by rw [hcl]; exact ed) hA.2.2.1 hG.2.2.1 (fun j hj => (hA.2.2.2 j hj).2.2.1) rfl rfl
theorem z_lfM {N : xm_M} {p : Int32} {i : Nat} (hci : p.toNatClampNeg = i) (y x : Int32) : fM_left [.ref 0, .int p, .int y, .int x] N = (some (.int (xi_x (xg_n (xi_b ((0 ≤ p ∧ p ≤ N 0 3 - 1) ∧ (0 ≤ y ∧ y ≤ 1) ∧ (0 ≤ x ∧ x ≤ 1))) 1 1 1 = 0) ((ym_xj (x = 0) (ym_ro N p y) ((730 * N 6 i).toInt64) / lN (Nat.gcd (ym_ab (ym_ro N p y)).toInt.toNat (730 * N 6 i).toInt64.toInt.toNat)).toInt32) 0)), xm_up N 0 0 (xq_t 1 (xg_n (xi_b ((0 ≤ p ∧ p ≤ N 0 3 - 1) ∧ (0 ≤ y ∧ y ≤ 1) ∧ (0 ≤ x ∧ x ≤ 1))) 1 1 1))) := by
  subst hci
  rfl
theorem z_lfA {M : xm_M} {p : Int32} {i : Nat} (hci : p.toNatClampNeg = i) (y x z : Int32) (hz : z = xi_x (y = 0) (xd_py M (M 11 i) (M 12 i) p 0 0) (xd_py M (M 11 i) (M 12 i) p 1 0 + xd_pc (M 0 6) (M 12 i) (xd_py M (M 11 i) (M 12 i) p 0 0))) : fA_left [.ref 0, .int p, .int y, .int x] M = (some (.int (xi_x (x = 0) z (730 * M 12 i) / ((fun z : Int32 => if (1 : Int32) < z then z else 1) (xq_g 1000 (if 0 ≤ z then z else -z) (730 * M 12 i))))), M) := by
  subst hci
  subst hz
  rfl
theorem z_what1 {x : Int32} : (0 ≤ x ∧ x ≤ 1) ↔ (x = 0 ∨ x = 1) := by
  rw [z_range (y := 1) (n := 1) rfl (by omega)]
  constructor
  · rintro ⟨i, hi, rfl⟩
    rcases (show i = 0 ∨ i = 1 by omega) with rfl | rfl
    · exact Or.inl rfl
    · exact Or.inr rfl
  · rintro (rfl | rfl)
    · exact ⟨0, by omega, rfl⟩
    · exact ⟨1, by omega, rfl⟩
theorem z_left_ {M N : xm_M} (hR : zR M N) (p y x : Int32) : zz (ftA_left [.ref 0, .int p, .int y, .int x] M) ["java/lang/IllegalArgumentException"] M (fA_left [.ref 0, .int p, .int y, .int x] M).2 (fA_left [.ref 0, .int p, .int y, .int x] M).1 (fM_left [.ref 0, .int p, .int y, .int x] N) := by
  obtain ⟨np, nc, na, nh, nk, cr, pt, hr, hP, hC, hA, hQ, hK, hG⟩ := id hR
  have hkp := z_kn hP p
  have hnp := hP.1
  by_cases c1 : (0 ≤ p ∧ p ≤ N 0 3 - 1) ∧ (0 ≤ y ∧ y ≤ 1) ∧ (0 ≤ x ∧ x ≤ 1)
  · have ef : ftA_left [.ref 0, .int p, .int y, .int x] M = none := xo_f (fun z => z ⟨hkp.mpr c1.1, c1.2⟩)
    rw [ef]
    have c0 := c1.1
    rw [hP.2.2.1] at c0
    obtain ⟨i, hi, rfl⟩ := (z_known (by omega)).mp c0
    have hcl : (nI i).toNatClampNeg = i := nI_clamp (by omega)
    obtain ⟨d, d1, d2, dM, dN, ⟨a1, a2, a3⟩, ⟨b1, b2, b3⟩⟩ := z_lft hP hA hG hi
    rw [z_lfM hcl, z_lfA hcl y x _ rfl]
    refine zz_o2 (zg0 (xi_n0.mpr c1) z1 z1 z1) rfl ?_ hR
    rw [dN]
    rcases z_what1.mp c1.2.1 with rfl | rfl
    · rw [xi_xt (c := (0 : Int32) = 0) rfl, dM]
      rw [dM] at a1
      exact z_left d1 d2 a1 ⟨a2, a3⟩ (x = 0)
    · rw [xi_xf (c := (1 : Int32) = 0) (by decide), dM]
      rw [dM] at b1
      exact z_left d1 d2 b1 ⟨b2, b3⟩ (x = 0)
  · have ef : ftA_left [.ref 0, .int p, .int y, .int x] M = some "java/lang/IllegalArgumentException" := xo_t (fun z => c1 ⟨hkp.mp z.1, z.2⟩)
    rw [ef]
    exact zz_t2 (n := 1) (zg1 (xi_f c1)) (by decide +kernel) (by decide) hR
/-! what the contracts ask -/
theorem z_I {M N : xm_M} (hR : zR M N) : xv_I M := by
  obtain ⟨np, nc, na, nh, nk, cr, pt, hr, hP, hC, hA, hQ, hK, hG⟩ := hR
  have h1 := hP.1
  have h2 := hC.1
  have h3 := hA.1
  have h4 := hK.1
  refine ⟨⟨⟨np, h1, hP.2.1⟩, ⟨nc, h2, hC.2.1⟩, ⟨na, h3, hA.2.1⟩, ⟨nk, h4, hK.2.1⟩⟩, ⟨nh, hQ.1, hQ.2.1⟩, fun i hi => ?_, fun i hi => ?_⟩
  · rw [hA.2.1, nI_clamp (by omega)] at hi
    obtain ⟨⟨e1, e2, e3, e4, e5, e6, e7⟩, ⟨q, hq, eq⟩, hs, -⟩ := hA.2.2.2 i hi
    rw [e1, e3, e4, eq]
    exact ⟨hs, vp_in_nI (by omega) (by omega)⟩
  · rw [hK.2.1, nI_clamp (by omega)] at hi
    obtain ⟨⟨e1, -⟩, ⟨c, hc, ec⟩, -⟩ := hK.2.2.2.1 i hi
    rw [e1, ec]
    exact vp_in_nI (by omega) (by omega)
theorem z_J {M N : xm_M} (hR : zR M N) : xv_J N := by
  obtain ⟨np, nc, na, nh, nk, cr, pt, hr, hP, hC, hA, hQ, hK, hG⟩ := hR
  have h1 := hP.1
  have h2 := hC.1
  have h3 := hA.1
  have h4 := hK.1
  refine ⟨⟨np, h1, hP.2.2.1⟩, ⟨nc, h2, hC.2.2.1⟩, ⟨na, h3, hA.2.2.1⟩, ⟨nh, hQ.1, hQ.2.2.1⟩, ⟨nk, h4, hK.2.2.1⟩, fun i hi => ?_, fun i hi => ?_⟩
  · rw [hA.2.2.1, nI_clamp (by omega)] at hi
    obtain ⟨-, ⟨q, hq, eq⟩, hs, -⟩ := hA.2.2.2 i hi
    rw [eq]
    exact ⟨hs, vp_in_nI (by omega) (by omega)⟩
  · rw [hK.2.2.1, nI_clamp (by omega)] at hi
    obtain ⟨-, ⟨c, hc, ec⟩, -⟩ := hK.2.2.2.1 i hi
    rw [ec]
    exact vp_in_nI (by omega) (by omega)
theorem z_Jl {M N : xm_M} (hR : zR M N) (p y : Int32) (hp : 0 ≤ p ∧ p ≤ N 0 3 - 1) (hy : y = 0 ∨ y = 1) : 0 ≤ (ym_ab (ym_ro N p y)).toInt ∧ 0 < (730 * N 6 p.toNatClampNeg).toInt64.toInt := by
  obtain ⟨np, nc, na, nh, nk, cr, pt, hr, hP, hC, hA, hQ, hK, hG⟩ := hR
  have hnp := hP.1
  rw [hP.2.2.1] at hp
  obtain ⟨i, hi, rfl⟩ := (z_known (by omega)).mp hp
  obtain ⟨d, d1, d2, dM, dN, ⟨a1, a2, a3⟩, ⟨b1, b2, b3⟩⟩ := z_lft hP hA hG hi
  rw [nI_clamp (by omega), dN]
  have hb : (ym_ro N (nI i) y).toInt < 2 ^ 30 ∧ -(2 ^ 30) < (ym_ro N (nI i) y).toInt := by
    rcases hy with rfl | rfl
    · exact ⟨a2, a3⟩
    · exact ⟨b2, b3⟩
  have h0' : (0 : Int64).toInt = 0 := by decide
  refine ⟨?_, ?_⟩
  · unfold ym_ab ym_xj
    by_cases c : ym_ro N (nI i) y < 0
    · rw [if_pos c, Int64.toInt_neg]
      rw [Int64.lt_iff_toInt_lt, h0'] at c
      rw [Int.bmod_eq_of_le (by omega) (by omega)]
      omega
    · rw [if_neg c]
      rw [Int64.lt_iff_toInt_lt, h0'] at c
      omega
  · rw [show (730 : Int32) = nI 730 from rfl, nI_mul, Int32.toInt_toInt64, nI_toInt (by omega)]
    omega
/-! the start -/
theorem z_start {M N : xm_M} (hM : ∀ p k, M p k = if p = 0 ∧ k = 7 then 2 else 0) (hN : ∀ p k, N p k = if p = 0 ∧ k = 36 then 2 else 0) : zR M N := by
  have rM : ∀ p, p ≠ 0 → ∀ k, M p k = 0 := fun p hp k => by rw [hM]; simp [hp]
  have rN : ∀ p, p ≠ 0 → ∀ k, N p k = 0 := fun p hp k => by rw [hN]; simp [hp]
  have row : ∀ p q, p ≠ 0 → q ≠ 0 → M p = N q := fun p q hp hq => by funext k; rw [rM p hp, rN q hq]
  have nz : (0 : Int32) = nI 0 := nI_0.symm
  refine ⟨0, 0, 0, 0, 0, 0, 2, 0, ⟨by omega, ?_, ?_, ⟨row _ _ (by decide) (by decide), row _ _ (by decide) (by decide), row _ _ (by decide) (by decide), row _ _ (by decide) (by decide), row _ _ (by decide) (by decide), row _ _ (by decide) (by decide), row _ _ (by decide) (by decide)⟩, fun i hi => absurd hi (Nat.not_lt_zero _), fun i hi => absurd hi (Nat.not_lt_zero _), fun i hi => absurd hi (Nat.not_lt_zero _), fun i _ => rN 5 (by decide) i⟩,
    ⟨by omega, ?_, ?_, ⟨row _ _ (by decide) (by decide), row _ _ (by decide) (by decide)⟩, fun i hi => absurd hi (Nat.not_lt_zero _), fun c hc => ⟨?_, fun p hp => ?_⟩⟩,
    ⟨by omega, ?_, ?_, fun i hi => absurd hi (Nat.not_lt_zero _)⟩, ⟨by omega, ?_, ?_, row _ _ (by decide) (by decide), row _ _ (by decide) (by decide), row _ _ (by decide) (by decide)⟩,
    ⟨by omega, ?_, ?_, fun i hi => absurd hi (Nat.not_lt_zero _), fun k hk => ⟨?_, ?_, fun p hp => ?_⟩, fun k _ => rM 32 (by decide) k⟩,
    by omega, ?_, ?_, ⟨by omega, by omega, ?_, ?_⟩, ⟨by omega, ?_, ?_⟩, row _ _ (by decide) (by decide)⟩
  all_goals first
    | (rw [hM]; rfl)
    | (rw [hN]; rfl)
    | skip
  · rw [rM 17 (by decide)]; intro p _; exact zb_zero p
  · rw [rN 11 (by decide), rM 17 (by decide), zb_zero]; rfl
  · rw [rM 32 (by decide)]; intro p _; exact zb_zero p
  · rw [rM 32 (by decide), rN 26 (by decide)]
    have : ∀ n, zc 0 n = 0 := by
      intro n
      induction n with
      | zero => rfl
      | succ n ih => show zc 0 n + _ = 0; rw [ih, zb_zero]; rfl
    rw [this]; exact nz
  · rw [rN 28 (by decide), rM 32 (by decide), zb_zero]; rfl
