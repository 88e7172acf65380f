/-! EQUAL ANSWERS, call by call -/
/-- what the law asks of one call: codes, answers, and the relation behind it -/
def zz (ft : Option String) (es : List String) (M Ma : xm_M) (ra : Option Value) (rm : Option Value × xm_M) : Prop :=
  (ft = none ∧ rm.2 0 0 = 0 ∧ xm_ri ra = xm_ri rm.1 ∧ zR Ma rm.2) ∨ (∃ E, ft = some E ∧ rm.2 0 0 = nI (xh_ix es E) ∧ ¬ rm.2 0 0 = 0 ∧ zR M rm.2)
theorem zg1 {k r t m : Int32} (h : k = 0) : xg_n k r t m = 1 := if_pos h
theorem zg2 {k r t m : Int32} (h : ¬ k = 0) (h2 : r = 0) : xg_n k r t m = 2 := by simp [xg_n, h, h2]
theorem zg3 {k r t m : Int32} (h : ¬ k = 0) (h2 : ¬ r = 0) (h3 : t = 0) : xg_n k r t m = 3 := by simp [xg_n, h, h2, h3]
theorem zg4 {k r t m : Int32} (h : ¬ k = 0) (h2 : ¬ r = 0) (h3 : ¬ t = 0) (h4 : m = 0) : xg_n k r t m = 4 := by simp [xg_n, h, h2, h3, h4]
theorem zg0 {k r t m : Int32} (h : ¬ k = 0) (h2 : ¬ r = 0) (h3 : ¬ t = 0) (h4 : ¬ m = 0) : xg_n k r t m = 0 := by simp [xg_n, h, h2, h3, h4]
theorem z1 : ¬ (1 : Int32) = 0 := by decide
section ZT
variable {es : List String} {E : String} {M N Ma A : xm_M} {ra v : Option Value} {kd : Int32} {T n : Nat}
theorem zz_t1 (hT : T = n) (hn : ¬ n = 0) (hE : xq_t kd n = nI (xh_ix es E)) (h0 : ¬ xq_t kd n = 0) (hR : zR M N) : zz (some E) es M Ma ra (v, @ite xm_M (T = 0) (Classical.propDecidable _) A (xm_up N 0 0 (xq_t kd T))) := by
  subst hT
  have e : @ite xm_M (T = 0) (Classical.propDecidable _) A (xm_up N 0 0 (xq_t kd T)) = xm_up N 0 0 (xq_t kd T) := if_neg hn
  refine Or.inr ⟨E, rfl, ?_, ?_, ?_⟩
  · show (@ite xm_M (T = 0) (Classical.propDecidable _) A (xm_up N 0 0 (xq_t kd T))) 0 0 = _
    rw [e]; exact hE
  · show ¬ (@ite xm_M (T = 0) (Classical.propDecidable _) A (xm_up N 0 0 (xq_t kd T))) 0 0 = _
    rw [e]; exact h0
  · show zR M (@ite xm_M (T = 0) (Classical.propDecidable _) A (xm_up N 0 0 (xq_t kd T)))
    rw [e]; exact zR_thr _ hR
theorem zz_t2 (hT : T = n) (hE : xq_t kd n = nI (xh_ix es E)) (h0 : ¬ xq_t kd n = 0) (hR : zR M N) : zz (some E) es M Ma ra (v, xm_up N 0 0 (xq_t kd T)) := by
  subst hT
  exact Or.inr ⟨E, rfl, hE, h0, zR_thr _ hR⟩
theorem zz_o1 {B : xm_M} {x y : Int32} (hT : T = 0) (hra : ra = some (.int x)) (hx : x = y) (hA0 : A 0 0 = 0) (hR : zR Ma A) : zz none es M Ma ra (some (.int (xi_x (T = 0) y 0)), @ite xm_M (T = 0) (Classical.propDecidable _) A B) := by
  have e : @ite xm_M (T = 0) (Classical.propDecidable _) A B = A := if_pos hT
  refine Or.inl ⟨rfl, ?_, ?_, ?_⟩
  · show (@ite xm_M (T = 0) (Classical.propDecidable _) A B) 0 0 = _
    rw [e]; exact hA0
  · rw [hra, hx, xi_xt hT]
  · show zR Ma (@ite xm_M (T = 0) (Classical.propDecidable _) A B)
    rw [e]; exact hR
theorem zz_ov {B : xm_M} (hT : T = 0) (hA0 : A 0 0 = 0) (hR : zR Ma A) : zz none es M Ma none (none, @ite xm_M (T = 0) (Classical.propDecidable _) A B) := by
  have e : @ite xm_M (T = 0) (Classical.propDecidable _) A B = A := if_pos hT
  refine Or.inl ⟨rfl, ?_, rfl, ?_⟩
  · show (@ite xm_M (T = 0) (Classical.propDecidable _) A B) 0 0 = _
    rw [e]; exact hA0
  · show zR Ma (@ite xm_M (T = 0) (Classical.propDecidable _) A B)
    rw [e]; exact hR
theorem zz_o2 {x y : Int32} (hT : T = 0) (hra : ra = some (.int x)) (hx : x = y) (hR : zR M N) : zz none es M M ra (some (.int (xi_x (T = 0) y 0)), xm_up N 0 0 (xq_t kd T)) := by
  subst hT
  exact Or.inl ⟨rfl, rfl, by rw [hra, hx, xi_xt rfl], zR_thr _ hR⟩
end ZT
theorem zs.np {x : Int32} {a b : Nat} (h : zs x a) (hab : a ≤ b) : zs x b := h.mono hab
theorem zC.np {M N : xm_M} {np nc np' : Nat} (h : zC M N np nc) (hle : np ≤ np') : zC M N np' nc := by
  obtain ⟨a, b, c, d, e, f⟩ := h
  exact ⟨a, b, c, d, e, fun k hk => ⟨(f k hk).1.mono hle, (f k hk).2⟩⟩
theorem zA.np {M N : xm_M} {np na np' : Nat} (h : zA M N np na) (hle : np ≤ np') : zA M N np' na := by
  obtain ⟨a, b, c, d⟩ := h
  refine ⟨a, b, c, fun k hk => ⟨(d k hk).1, ?_, (d k hk).2.2⟩⟩
  obtain ⟨p, hp, e⟩ := (d k hk).2.1
  exact ⟨p, by omega, e⟩
theorem zcs.np {st pe due mask : Int32} {np np' lo : Nat} (h : zcs st pe due mask np lo) (hle : np ≤ np') : zcs st pe due mask np' lo := by
  rcases h with ⟨a, ⟨q, q1, q2⟩, b⟩ | ⟨a, ⟨q, q1, q2⟩, b⟩ | h
  · exact Or.inl ⟨a, ⟨q, by omega, q2⟩, b⟩
  · exact Or.inr (Or.inl ⟨a, ⟨q, by omega, q2⟩, b⟩)
  · exact Or.inr (Or.inr h)
theorem zK.np {M N : xm_M} {np nc nk np' : Nat} {lo : Nat → Nat} (h : zK M N np nc nk lo) (hle : np ≤ np') : zK M N np' nc nk lo := by
  obtain ⟨a, b, c, d, e, f⟩ := h
  exact ⟨a, b, c, fun k hk => ⟨(d k hk).1, (d k hk).2.1, (d k hk).2.2.np hle⟩, fun k hk => ⟨(e k hk).1.mono hle, (e k hk).2⟩, f⟩
theorem zK.nc {M N : xm_M} {np nc nk nc' : Nat} {lo : Nat → Nat} (h : zK M N np nc nk lo) (hle : nc ≤ nc') : zK M N np nc' nk lo := by
  obtain ⟨a, b, c, d, e, f⟩ := h
  refine ⟨a, b, c, fun k hk => ⟨(d k hk).1, ?_, (d k hk).2.2⟩, e, f⟩
  obtain ⟨p, hp, e⟩ := (d k hk).2.1
  exact ⟨p, by omega, e⟩
theorem z_lt {n m : Nat} {y : Int32} (hy : y = nI m) (hn : n < 2 ^ 31) (hm : m < 2 ^ 31) : nI n < y ↔ n < m := by rw [hy]; exact nI_ltI hn hm
theorem z_ge {n m : Nat} {y : Int32} (hy : y = nI m) (hn : n < 2 ^ 31) (hm : m < 2 ^ 31) : y ≤ nI n ↔ m ≤ n := by rw [hy]; exact nI_leI hm hn
theorem z_row {f g : Nat → Int32} (h : f = g) (k : Nat) (x : Int32) (M N : xm_M) (p q : Nat) (hM : M p = f) (hN : N q = g) : xm_up M p k x p = xm_up N q k x q := by
  funext b
  rw [xm_up_s, xm_up_s, hM, hN, h]
theorem z_person {M N : xm_M} (hR : zR M N) (s r d : Int32) : zz (ftA_person [.ref 0, .int s, .int r, .int d] M) ["java/lang/IndexOutOfBoundsException", "java/lang/UnsupportedOperationException"] M (fA_person [.ref 0, .int s, .int r, .int d] M).2 (fA_person [.ref 0, .int s, .int r, .int d] M).1 (fM_person [.ref 0, .int s, .int r, .int d] N) := by
  obtain ⟨np, nc, na, nh, nk, cr, pt, h, hP, hC, hA, hQ, hK, hG⟩ := id hR
  obtain ⟨p1, p2, p3, ⟨p4, p5, p6, p7, p8, p9, p10⟩, p11, p12, p13, p14⟩ := hP
  by_cases c2 : (0 ≤ s ∧ s ≤ 255) ∧ (0 ≤ r ∧ r ≤ 9) ∧ (0 ≤ d ∧ d ≤ 729)
  · by_cases c4 : np < 20
    · have ef : ftA_person [.ref 0, .int s, .int r, .int d] M = none := by
        show xo_ _ _ _ = none
        rw [xo_f (fun z => z c2), xo_f (by rw [p2, z_ge (y := 20) (m := 20) rfl (by omega) (by omega)]; omega)]
      rw [ef]
      have c4' : N 0 3 < 20 := by rw [p3, z_lt (y := 20) (m := 20) rfl (by omega) (by omega)]; exact c4
      have hT := zg0 (k := 1) (t := 1) z1 (xi_n0.mpr c2) z1 (xi_n0.mpr c4')
      obtain ⟨dd, hd, ed⟩ := (z_range (n := 729) rfl (by omega)).mp c2.2.2
      refine zz_o1 hT (x := M 2 0 + 1 - 1) rfl (by rw [p2, p3]) (by show xq_t 10 _ = 0; rw [hT]; rfl) ?_
      show zR (xm_up (xm_up (xm_up (xm_up (xm_up M 8 (M 2 0).toNatClampNeg s) 9 (M 2 0).toNatClampNeg r) 10 (M 2 0).toNatClampNeg d) 12 (M 2 0).toNatClampNeg 1) 2 0 (M 2 0 + 1)) _
      rw [p2, p3, nI_clamp (by omega)]
      refine ⟨np + 1, nc, na, nh, nk, cr, pt, h, ⟨by omega, nI_1 np, nI_1 np, ⟨z_row p4 _ _ _ _ _ _ rfl rfl, z_row p5 _ _ _ _ _ _ rfl rfl, z_row p6 _ _ _ _ _ _ rfl rfl, ?_, z_row p8 _ _ _ _ _ _ rfl rfl, p9, p10⟩, fun i hi => ?_, fun i hi => ?_, fun i hi => ?_, fun i hi => ?_⟩, hC.np (Nat.le_succ _), hA.np (Nat.le_succ _), hQ, hK.np (Nat.le_succ _), hG⟩
      · show M 11 = _
        funext b
        by_cases e : b = np
        · subst e; simp [xm_up, p7, p14 b (Nat.le_refl _)]
        · simp [xm_up, e, p7]
      · by_cases e : i = np
        · subst e; exact ⟨dd, by omega, by simp [xm_up, ed]⟩
        · obtain ⟨u, hu, eu⟩ := p11 i (by omega); exact ⟨u, hu, by simp [xm_up, e, eu]⟩
      · by_cases e : i = np
        · subst e; exact ⟨0, by omega, by simp [xm_up, nI_0]⟩
        · obtain ⟨u, hu, eu⟩ := p12 i (by omega); exact ⟨u, hu, by simp [xm_up, e, eu]⟩
      · by_cases e : i = np
        · subst e; exact ⟨1, by omega, by omega, by simp [xm_up]; rfl⟩
        · obtain ⟨u, hu, hu2, eu⟩ := p13 i (by omega); exact ⟨u, hu, hu2, by simp [xm_up, e, eu]⟩
      · have e : i ≠ np := by omega
        have := p14 i (by omega)
        simp [xm_up, e, this]
    · have ef : ftA_person [.ref 0, .int s, .int r, .int d] M = some "java/lang/UnsupportedOperationException" := by
        show xo_ _ _ _ = _
        rw [xo_f (fun z => z c2), xo_t (by rw [p2, z_ge (y := 20) (m := 20) rfl (by omega) (by omega)]; omega)]
      rw [ef]
      have c4' : ¬ N 0 3 < 20 := by rw [p3, z_lt (y := 20) (m := 20) rfl (by omega) (by omega)]; exact c4
      exact zz_t1 (n := 4) (zg4 z1 (xi_n0.mpr c2) z1 (xi_f c4')) (by decide) (by decide +kernel) (by decide) hR
  · have ef : ftA_person [.ref 0, .int s, .int r, .int d] M = some "java/lang/IndexOutOfBoundsException" := xo_t c2
    rw [ef]
    exact zz_t1 (n := 2) (zg2 z1 (xi_f c2)) (by decide) (by decide +kernel) (by decide) hR
theorem z_crew {M N : xm_M} (hR : zR M N) (s r : Int32) : zz (ftA_crew [.ref 0, .int s, .int r] M) ["java/lang/IndexOutOfBoundsException", "java/lang/UnsupportedOperationException"] M (fA_crew [.ref 0, .int s, .int r] M).2 (fA_crew [.ref 0, .int s, .int r] M).1 (fM_crew [.ref 0, .int s, .int r] N) := by
  obtain ⟨np, nc, na, nh, nk, cr, pt, h, hP, hC, hA, hQ, hK, hG⟩ := id hR
  obtain ⟨p1, p2, p3, ⟨p4, p5⟩, p6, p7⟩ := hC
  by_cases c2 : (0 ≤ s ∧ s ≤ 255) ∧ (0 ≤ r ∧ r ≤ 20)
  · by_cases c4 : nc < 6
    · have ef : ftA_crew [.ref 0, .int s, .int r] M = none := by
        show xo_ _ _ _ = none
        rw [xo_f (fun z => z c2), xo_f (by rw [p2, z_ge (y := 6) (m := 6) rfl (by omega) (by omega)]; omega)]
      rw [ef]
      have c4' : N 0 12 < 6 := by rw [p3, z_lt (y := 6) (m := 6) rfl (by omega) (by omega)]; exact c4
      have hT := zg0 (k := 1) (t := 1) z1 (xi_n0.mpr c2) z1 (xi_n0.mpr c4')
      obtain ⟨dd, hd, ed⟩ := (z_range (n := 255) rfl (by omega)).mp c2.1
      refine zz_o1 hT (x := M 3 0 + 1 - 1) rfl (by rw [p2, p3]) (by show xq_t 10 _ = 0; rw [hT]; rfl) ?_
      show zR (xm_up (xm_up (xm_up M 15 (M 3 0).toNatClampNeg s) 16 (M 3 0).toNatClampNeg r) 3 0 (M 3 0 + 1)) _
      rw [p2, p3, nI_clamp (by omega)]
      refine ⟨np, nc + 1, na, nh, nk, cr, pt, h, hP, ⟨by omega, nI_1 nc, nI_1 nc, ⟨z_row p4 _ _ _ _ _ _ rfl rfl, z_row p5 _ _ _ _ _ _ rfl rfl⟩, fun i hi => ?_, p7⟩, hA, hQ, hK.nc (Nat.le_succ _), hG⟩
      by_cases e : i = nc
      · subst e; exact ⟨dd, by omega, by simp [xm_up, ed]⟩
      · obtain ⟨u, hu, eu⟩ := p6 i (by omega); exact ⟨u, hu, by simp [xm_up, e, eu]⟩
    · have ef : ftA_crew [.ref 0, .int s, .int r] M = some "java/lang/UnsupportedOperationException" := by
        show xo_ _ _ _ = _
        rw [xo_f (fun z => z c2), xo_t (by rw [p2, z_ge (y := 6) (m := 6) rfl (by omega) (by omega)]; omega)]
      rw [ef]
      have c4' : ¬ N 0 12 < 6 := by rw [p3, z_lt (y := 6) (m := 6) rfl (by omega) (by omega)]; exact c4
      exact zz_t1 (n := 4) (zg4 z1 (xi_n0.mpr c2) z1 (xi_f c4')) (by decide) (by decide +kernel) (by decide) hR
  · have ef : ftA_crew [.ref 0, .int s, .int r] M = some "java/lang/IndexOutOfBoundsException" := xo_t c2
    rw [ef]
    exact zz_t1 (n := 2) (zg2 z1 (xi_f c2)) (by decide) (by decide +kernel) (by decide) hR
