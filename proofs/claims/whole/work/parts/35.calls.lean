/-! ASK -/
theorem z_half {f t h : Int32} (hft : f ≤ t) (hh : 0 ≤ h ∧ h ≤ 3) : ¬ (h = 3 ∧ f = t) ↔ (f < t ∨ h < 3) := by
  have h3 : (3 : Int32).toInt = 3 := by decide
  rw [Int32.lt_iff_toInt_lt, Int32.lt_iff_toInt_lt, ← Int32.toInt_inj, ← Int32.toInt_inj, h3]
  have a := hh.2
  rw [Int32.le_iff_toInt_le, h3] at a
  rw [Int32.le_iff_toInt_le] at hft
  omega
theorem z_put {N : xm_M} {na : Nat} (h16 : N 0 16 = nI na) (hna : na ≤ 80) (p k f t h : Int32) : (fM_put [.ref 0, .int p, .int k, .int f, .int t, .int h] N).2 = xm_up (xm_up (xm_up (xm_up (xm_up (xm_up (xm_up (xm_up N 12 na p) 13 na k) 14 na f) 15 na t) 16 na h) 17 na (xi_x (k = 1) 2 0)) 18 na (-1)) 0 16 (nI na + 1) := by
  show xm_up (xm_up (xm_up (xm_up (xm_up (xm_up (xm_up (xm_up N 12 (N 0 16).toNatClampNeg p) 13 (N 0 16).toNatClampNeg k) 14 (N 0 16).toNatClampNeg f) 15 (N 0 16).toNatClampNeg t) 16 (N 0 16).toNatClampNeg h) 17 (N 0 16).toNatClampNeg (xi_x (k = 1) 2 0)) 18 (N 0 16).toNatClampNeg (-1)) 0 16 (N 0 16 + 1) = _
  rw [h16, nI_clamp (by omega)]
theorem z_enp {M N : xm_M} {np na cr pt h0 : Nat} (hP : zP M N np) (hA : zA M N np na) (hG : zG M N cr pt h0) {i : Nat} (hi : i < np) {f t h : Int32} (hs : xv_span f t) : xd_en M (M 11 (nI i).toNatClampNeg) (M 12 (nI i).toNatClampNeg) (nI i) (xi_x (f / 365 = 0) (xd_hd (M 7) f t h) 0) (xd_hd (M 7) f t h - xi_x (f / 365 = 0) (xd_hd (M 7) f t h) 0) ↔ ym_en (ym_mp N (nI i) 0 f t h) (nI i) := by
  have hnp := hP.1
  have hna := hA.1
  have hcl : (nI i).toNatClampNeg = i := nI_clamp (by omega)
  obtain ⟨p1, p2, p3, ⟨p4, p5, p6, p7, p8, p9, p10⟩, p11, p12, p13, p14⟩ := id hP
  obtain ⟨s, hs2, es⟩ := p11 i hi
  obtain ⟨u, hu, eu⟩ := p12 i hi
  obtain ⟨d, hd1, hd, ed⟩ := p13 i hi
  have h7 := hG.2.2.2.2.2
  obtain ⟨F, T, rfl, rfl, hFT, hT⟩ := id hs
  obtain ⟨z1', z2'⟩ := zh_n (fr := N 1) (h := h) hs
  have ediv : nI F / 365 = nI (F / 365) := nI_div (b := 365) (by omega) (by decide)
  have hbnd : ∀ y, zH N (nI i) y na ≤ 116800 := fun y => by
    have := zH_le (p := nI i) (y := y) (fun j hj => (hA.2.2.2 j hj).2.2.1)
    omega
  have emp : ym_mp N (nI i) 0 (nI F) (nI T) h = _ := z_put hA.2.2.1 hna (nI i) 0 (nI F) (nI T) h
  have hz : ∀ y : Nat, y < 2 → zH (ym_mp N (nI i) 0 (nI F) (nI T) h) (nI i) (nI y) (na + 1) = zH N (nI i) (nI y) na + (if F / 365 = y then zh (N 1) (nI F) (nI T) h else 0) := by
    intro y hy
    rw [emp]
    unfold zH
    show zu _ na + _ = _
    congr 1
    · refine zu_cong na (fun j hj => ?_)
      have e : ¬ j = na := by omega
      simp [xm_up, e]
      by_cases q : N 12 j = nI i ∧ N 13 j = 0 ∧ ¬ N 17 j = 3 ∧ N 14 j / 365 = nI y
      · rw [if_pos q, if_pos q]; rfl
      · rw [if_neg q, if_neg q]
    · simp only [xm_up]
      simp
      rw [xi_xf (by decide), ediv]
      by_cases c : F / 365 = y
      · rw [if_pos c, if_pos (by rw [c]; exact ⟨by decide, rfl⟩)]
        rfl
      · rw [if_neg c, if_neg (fun z => c ((nI_eq (by omega) (by omega)).mp z.2))]
  have hspan : ∀ j, j < na + 1 → xv_span (ym_mp N (nI i) 0 (nI F) (nI T) h 14 j) (ym_mp N (nI i) 0 (nI F) (nI T) h 15 j) := by
    intro j hj
    rw [emp]
    by_cases e : j = na
    · subst e
      have := hs
      simpa [xm_up] using this
    · have := (hA.2.2.2 j (by omega)).2.2.1
      simpa [xm_up, e] using this
  have key : ∀ a b : Nat, (a = if F / 365 = 0 then zh (N 1) (nI F) (nI T) h else 0) → (b = if F / 365 = 1 then zh (N 1) (nI F) (nI T) h else 0) → (xd_en M (nI u) (nI d) (nI i) (nI a) (nI b) ↔ ym_en (ym_mp N (nI i) 0 (nI F) (nI T) h) (nI i)) := by
    intro a b ha hb
    have b0 := hbnd 0
    have b1 := hbnd 1
    have la : a ≤ 1460 := by rw [ha]; split <;> omega
    have lb : b ≤ 1460 := by rw [hb]; split <;> omega
    refine z_en (a := a) (b := b) (n := na + 1) hs2 hu hd hG.1 (by omega) (by rw [hcl, p6]; exact es) hG.2.1 (z_hh hA h7 (nI i) 0) (z_hh hA h7 (nI i) 1) (by omega) (by omega) ?_ ?_ ?_ ?_ ?_ hspan ?_ ?_
    · rw [hcl, emp]; exact es
    · rw [hcl, emp]; exact eu
    · rw [hcl, emp]; exact ed
    · rw [emp]; exact nI_1 na
    · rw [emp]; exact hG.2.2.1
    · rw [ha]; exact hz 0 (by omega)
    · rw [hb]; exact hz 1 (by omega)
  rw [hcl, p7, p8, eu, ed, h7, z1', ediv]
  by_cases c : F / 365 = 0
  · rw [xi_xt (by rw [c]; rfl), nI_sub (Nat.le_refl _), Nat.sub_self]
    exact key _ _ (by rw [if_pos c]) (by rw [if_neg (by omega)])
  · have c' : ¬ nI (F / 365) = 0 := fun z => c ((nI_eq (a := F / 365) (b := 0) (by omega) (by omega)).mp (z.trans nI_0.symm))
    rw [xi_xf c']
    have e0 : nI (zh (N 1) (nI F) (nI T) h) - 0 = nI (zh (N 1) (nI F) (nI T) h) := by simp
    rw [e0]
    exact key 0 _ (by rw [if_neg c]) (by rw [if_pos (by omega)])
theorem zA.o {M N M' N' : xm_M} {np na : Nat} (h : zA M N np na) (eM : ∀ p, p ≠ 0 → M' p = M p) (e0 : N' 0 16 = N 0 16) (eN : ∀ j, j < na → N' 12 j = N 12 j ∧ N' 13 j = N 13 j ∧ N' 14 j = N 14 j ∧ N' 15 j = N 15 j ∧ N' 16 j = N 16 j ∧ N' 17 j = N 17 j ∧ N' 18 j = N 18 j) : zA M' N' np na := by
  obtain ⟨a, b, c, d⟩ := h
  refine ⟨a, by rw [eM 4 (by decide)]; exact b, by rw [e0]; exact c, fun j hj => ?_⟩
  obtain ⟨f1, f2, f3, f4, f5, f6, f7⟩ := eN j hj
  rw [eM 18 (by decide), eM 19 (by decide), eM 20 (by decide), eM 21 (by decide), eM 22 (by decide), eM 23 (by decide), eM 24 (by decide), f1, f2, f3, f4, f5, f6, f7]
  exact d j hj
/-- what the model writes beyond its count counts for nothing -/
theorem z_mq {M N : xm_M} (hR : zR M N) (p k f t h : Int32) : zR M (ym_mq N p k f t h) ∧ (ym_mq N p k f t h) 0 = N 0 ∧ (∀ q, q ≠ 0 → q ≠ 12 → q ≠ 13 → q ≠ 14 → q ≠ 15 → q ≠ 16 → q ≠ 17 → q ≠ 18 → (ym_mq N p k f t h) q = N q) ∧ (∀ na, N 0 16 = nI na → na ≤ 80 → ∀ j, j < na → ∀ q, q ≠ 0 → (ym_mq N p k f t h) q j = N q j) := by
  obtain ⟨np, nc, na, nh, nk, cr, pt, h', hP, hC, hA, hQ, hK, hG⟩ := id hR
  have hna := hA.1
  unfold ym_mq
  by_cases c : ym_r0 N p k f t h (N 0 16).toNatClampNeg ∧ k = 0
  · rw [if_pos c]
    have emp : ym_mp N p k f t h = _ := z_put hA.2.2.1 hna p k f t h
    have e16 : N 0 16 + 1 - 1 = N 0 16 := by rw [hA.2.2.1, nI_1, nI_pred]
    have em : xm_up (ym_mp N p k f t h) 0 16 (N 0 16 + 1 - 1) = xm_up (xm_up (xm_up (xm_up (xm_up (xm_up (xm_up N 12 na p) 13 na k) 14 na f) 15 na t) 16 na h) 17 na (xi_x (k = 1) 2 0)) 18 na (-1) := by
      rw [emp, xm_up_up, e16]
      exact xm_up_id _ _ _
    rw [em]
    refine ⟨⟨np, nc, na, nh, nk, cr, pt, h', hP, hC, hA.o (fun _ _ => rfl) rfl (fun j hj => ?_), hQ, hK, hG⟩, rfl, fun q q0 q12 q13 q14 q15 q16 q17 q18 => ?_, fun na' e1 e2 j hj q q0 => ?_⟩
    · have e : ¬ j = na := by omega
      simp [xm_up, e]
    · rw [xm_up_o q18, xm_up_o q17, xm_up_o q16, xm_up_o q15, xm_up_o q14, xm_up_o q13, xm_up_o q12]
    · have : na' = na := by
        rw [hA.2.2.1] at e1
        exact ((nI_eq (by omega) (by omega)).mp e1).symm
      subst this
      have e : ¬ j = na' := by omega
      simp [xm_up, e]
  · rw [if_neg c]
    exact ⟨hR, rfl, fun _ _ _ _ _ _ _ _ _ => rfl, fun _ _ _ _ _ _ _ => rfl⟩
theorem z_ask {M N : xm_M} (hR : zR M N) (p k f t h : Int32) : zz (ftA_ask [.ref 0, .int p, .int k, .int f, .int t, .int h] M) ["java/lang/IllegalArgumentException", "java/lang/IndexOutOfBoundsException", "java/lang/IllegalStateException", "java/lang/UnsupportedOperationException"] M (fA_ask [.ref 0, .int p, .int k, .int f, .int t, .int h] M).2 (fA_ask [.ref 0, .int p, .int k, .int f, .int t, .int h] M).1 (fM_ask [.ref 0, .int p, .int k, .int f, .int t, .int h] N) := by
  obtain ⟨np, nc, na, nh, nk, cr, pt, hr, hP, hC, hA, hQ, hK, hG⟩ := id hR
  have hkp := z_kn hP p
  have hnp := hP.1
  have hna := hA.1
  obtain ⟨hRq, q0, q1, q2⟩ := z_mq hR p k f t h
  by_cases c1 : ym_kp N p k
  · have c1' : (0 ≤ p ∧ p ≤ M 2 0 - 1) ∧ (0 ≤ k ∧ k ≤ 2) := ⟨hkp.mpr c1.1, c1.2⟩
    have c0 := c1.1
    rw [hP.2.2.1] at c0
    obtain ⟨i, hi, rfl⟩ := (z_known (by omega)).mp c0
    by_cases c2 : ym_rg f t h
    · obtain ⟨a1, a2, a3, a4, a5, a6⟩ := id c2
      have c2' : ((0 ≤ f ∧ f ≤ 729) ∧ (0 ≤ t ∧ t ≤ 729) ∧ f ≤ t) ∧ f / 365 = t / 365 ∧ ((0 ≤ h ∧ h ≤ 3) ∧ ¬ (h = 3 ∧ f = t)) := ⟨⟨a1, a2, a3⟩, a4, a5, (z_half a3 a5).mpr a6⟩
      have hs : xv_span f t := by
        obtain ⟨F, hF, rfl⟩ := (z_range (n := 729) rfl (by omega)).mp a1
        obtain ⟨T, hT, rfl⟩ := (z_range (n := 729) rfl (by omega)).mp a2
        exact ⟨F, T, rfl, rfl, (nI_leI (by omega) (by omega)).mp a3, by omega⟩
      have hov : (∃ j, j < (M 4 0).toNatClampNeg ∧ M 18 j = nI i ∧ ¬ M 23 j = 3 ∧ M 20 j ≤ t ∧ f ≤ M 21 j) ↔ ¬ ∀ u, u < (N 0 16).toNatClampNeg → ¬ ym_hit N (nI i) f t u := by
        rw [hA.2.1, hA.2.2.1, nI_clamp (by omega)]
        constructor
        · rintro ⟨j, hj, b1, b2, b3, b4⟩ hall
          obtain ⟨⟨e1, e2, e3, e4, e5, e6, e7⟩, -⟩ := hA.2.2.2 j hj
          rw [e1] at b1; rw [e6] at b2; rw [e3] at b3; rw [e4] at b4
          exact hall j hj ⟨b1, b2, b4, b3⟩
        · intro hall
          apply Classical.byContradiction
          intro hno
          apply hall
          rintro j hj ⟨b1, b2, b4, b3⟩
          obtain ⟨⟨e1, e2, e3, e4, e5, e6, e7⟩, -⟩ := hA.2.2.2 j hj
          exact hno ⟨j, hj, by rw [e1]; exact b1, by rw [e6]; exact b2, by rw [e3]; exact b3, by rw [e4]; exact b4⟩
      have hen := z_enp hP hA hG hi (h := h) hs
      by_cases c3 : ym_ri N (nI i) k f t h
      · have n3 : ¬ (∃ j, j < (M 4 0).toNatClampNeg ∧ M 18 j = nI i ∧ ¬ M 23 j = 3 ∧ M 20 j ≤ t ∧ f ≤ M 21 j) := fun z => hov.mp z c3.1.2
        have n4 : ¬ (k = 0 ∧ ¬ xd_en M (M 11 (nI i).toNatClampNeg) (M 12 (nI i).toNatClampNeg) (nI i) (xi_x (f / 365 = 0) (xd_hd (M 7) f t h) 0) (xd_hd (M 7) f t h - xi_x (f / 365 = 0) (xd_hd (M 7) f t h) 0)) := by
          rintro ⟨rfl, z⟩
          exact z (hen.mpr (c3.2 rfl))
        by_cases c4 : na < 80
        · have ef : ftA_ask [.ref 0, .int (nI i), .int k, .int f, .int t, .int h] M = none := by
            show xo_ _ _ _ = none
            rw [xo_f (fun z => z c1'), xo_f (fun z => z c2'), xo_f n3, xo_f n4, xo_f (by rw [hA.2.1, z_ge (y := 80) (m := 80) rfl (by omega) (by omega)]; omega)]
          rw [ef]
          have c4' : N 0 16 < 80 := by rw [hA.2.2.1, z_lt (y := 80) (m := 80) rfl (by omega) (by omega)]; exact c4
          have hT := zg0 (xi_n0.mpr c1) (xi_n0.mpr c2) (xi_n0.mpr c3) (xi_n0.mpr c4')
          have eput : ∀ x : Int32, (fM_put [.ref 0, .int (nI i), .int k, .int f, .int t, .int h] (xm_up (ym_mq N (nI i) k f t h) 0 0 x)).2 = _ := fun x => z_put (N := xm_up (ym_mq N (nI i) k f t h) 0 0 x) (na := na) (by show (ym_mq N (nI i) k f t h) 0 16 = _; rw [q0]; exact hA.2.2.1) hna (nI i) k f t h
          refine zz_o1 hT (x := M 4 0 + 1 - 1) rfl (by rw [hA.2.1, hA.2.2.1]) ?_ ?_
          · rw [eput]
            show xq_t 15 _ = 0
            rw [hT]; rfl
          · rw [eput]
            show zR (xm_up (xm_up (xm_up (xm_up (xm_up (xm_up (xm_up (xm_up M 18 (M 4 0).toNatClampNeg (nI i)) 19 (M 4 0).toNatClampNeg k) 20 (M 4 0).toNatClampNeg f) 21 (M 4 0).toNatClampNeg t) 22 (M 4 0).toNatClampNeg h) 23 (M 4 0).toNatClampNeg (xi_x (k = 1) 2 0)) 24 (M 4 0).toNatClampNeg (-1)) 4 0 (M 4 0 + 1)) _
            rw [hA.2.1, nI_clamp (by omega)]
            generalize hNq : ym_mq N (nI i) k f t h = Nq at *
            obtain ⟨np', nc', na', nh', nk', cr', pt', hr', hP', hC', hA', hQ', hK', hG'⟩ := hRq
            have enp : np' = np := (nI_eq (by have := hP'.1; omega) (by omega)).mp (hP'.2.1.symm.trans hP.2.1)
            have ena : na' = na := (nI_eq (by have := hA'.1; omega) (by omega)).mp (hA'.2.1.symm.trans hA.2.1)
            subst enp; subst ena
            refine ⟨np', nc', na' + 1, nh', nk', cr', pt', hr', hP', hC', ⟨by omega, nI_1 na', nI_1 na', fun j hj => ?_⟩, hQ', hK', hG'⟩
            by_cases e : j = na'
            · subst e
              refine ⟨?_, ⟨i, hi, by simp [xm_up]⟩, by simpa [xm_up] using hs, ?_⟩
              · simp [xm_up]
              · have e3 : zst k (xi_x (k = 1) 2 0) (-1) := by
                  rcases z_what2.mp c1.2 with rfl | rfl | rfl
                  · rw [xi_xf (by decide)]; exact Or.inl ⟨rfl, Or.inl rfl, rfl⟩
                  · rw [xi_xt rfl]; exact Or.inr (Or.inr (Or.inl rfl))
                  · rw [xi_xf (by decide)]; exact Or.inl ⟨rfl, Or.inr rfl, rfl⟩
                simpa [xm_up] using e3
            · have := hA'.2.2.2 j (by omega)
              simpa [xm_up, e] using this
        · have ef : ftA_ask [.ref 0, .int (nI i), .int k, .int f, .int t, .int h] M = some "java/lang/UnsupportedOperationException" := by
            show xo_ _ _ _ = _
            rw [xo_f (fun z => z c1'), xo_f (fun z => z c2'), xo_f n3, xo_f n4, xo_t (by rw [hA.2.1, z_ge (y := 80) (m := 80) rfl (by omega) (by omega)]; omega)]
          rw [ef]
          have c4' : ¬ N 0 16 < 80 := by rw [hA.2.2.1, z_lt (y := 80) (m := 80) rfl (by omega) (by omega)]; exact c4
          exact zz_t1 (n := 4) (zg4 (xi_n0.mpr c1) (xi_n0.mpr c2) (xi_n0.mpr c3) (xi_f c4')) (by decide) (by decide +kernel) (by decide) hRq
      · have ef : ftA_ask [.ref 0, .int (nI i), .int k, .int f, .int t, .int h] M = some "java/lang/IllegalStateException" := by
          show xo_ _ _ _ = _
          rw [xo_f (fun z => z c1'), xo_f (fun z => z c2')]
          by_cases co : ∃ j, j < (M 4 0).toNatClampNeg ∧ M 18 j = nI i ∧ ¬ M 23 j = 3 ∧ M 20 j ≤ t ∧ f ≤ M 21 j
          · rw [xo_t co]
          · rw [xo_f co, xo_t]
            have hr0 : ym_r0 N (nI i) k f t h (N 0 16).toNatClampNeg := ⟨⟨c1, c2⟩, Classical.byContradiction (fun z => co (hov.mpr z))⟩
            by_cases ck : k = 0
            · subst ck
              exact ⟨rfl, fun z => c3 ⟨hr0, fun _ => hen.mp z⟩⟩
            · exact absurd ⟨hr0, fun z => absurd z ck⟩ c3
        rw [ef]
        exact zz_t1 (n := 3) (zg3 (xi_n0.mpr c1) (xi_n0.mpr c2) (xi_f c3)) (by decide) (by decide +kernel) (by decide) hRq
    · have c2' : ¬ (((0 ≤ f ∧ f ≤ 729) ∧ (0 ≤ t ∧ t ≤ 729) ∧ f ≤ t) ∧ f / 365 = t / 365 ∧ ((0 ≤ h ∧ h ≤ 3) ∧ ¬ (h = 3 ∧ f = t))) := by
        rintro ⟨⟨a1, a2, a3⟩, a4, a5, a6⟩
        exact c2 ⟨a1, a2, a3, a4, a5, (z_half a3 a5).mp a6⟩
      have ef : ftA_ask [.ref 0, .int (nI i), .int k, .int f, .int t, .int h] M = some "java/lang/IndexOutOfBoundsException" := by
        show xo_ _ _ _ = _
        rw [xo_f (fun z => z c1'), xo_t c2']
      rw [ef]
      exact zz_t1 (n := 2) (zg2 (xi_n0.mpr c1) (xi_f c2)) (by decide) (by decide +kernel) (by decide) hRq
  · have ef : ftA_ask [.ref 0, .int p, .int k, .int f, .int t, .int h] M = some "java/lang/IllegalArgumentException" := xo_t (fun z => c1 ⟨hkp.mp z.1, z.2⟩)
    rw [ef]
    exact zz_t1 (n := 1) (zg1 (xi_f c1)) (by decide) (by decide +kernel) (by decide) hRq
