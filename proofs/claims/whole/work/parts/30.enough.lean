/-! ENOUGH, in both -/
theorem z_hh {M N : xm_M} {np na : Nat} (hA : zA M N np na) (h7 : M 7 = N 1) (p y : Int32) : xd_hh M p y = nI (zH N p y na) := by
  obtain ⟨h1, h2, h3, h4⟩ := hA
  unfold xd_hh zH
  rw [h2, nI_clamp (by omega)]
  refine xq_s_zu na (fun i hi => ?_)
  obtain ⟨⟨e1, e2, e3, e4, e5, e6, e7⟩, -, hs, -⟩ := h4 i hi
  rw [e1, e2, e3, e4, e5, e6, h7, (zh_n (fr := N 1) (h := N 16 i) hs).1, xi_w_n]
  congr 1
  by_cases c : N 12 i = p ∧ N 13 i = 0 ∧ ¬ N 17 i = 3 ∧ N 14 i / 365 = y
  · rw [if_pos c, if_pos ⟨c.2.1, c.2.2.1, c.1, c.2.2.2⟩]
  · rw [if_neg c, if_neg (fun z => c ⟨z.2.2.1, z.1, z.2.1, z.2.2.2⟩)]
theorem z_left0 {M N' : xm_M} {p : Int32} {s u d cr n H0 H1 a b : Nat} (hs : s < 730) (hu : u ≤ 400) (hd : d ≤ 12) (hcr : cr ≤ 100) (hn : n ≤ 81) (e10 : M 10 p.toNatClampNeg = nI s) (e6 : M 0 6 = nI cr) (eh0 : xd_hh M p 0 = nI H0) (eh1 : xd_hh M p 1 = nI H1) (hb0 : H0 + a ≤ 118260) (hb1 : H1 + b ≤ 118260)
    (n4 : N' 4 p.toNatClampNeg = nI s) (n5 : N' 5 p.toNatClampNeg = nI u) (n6 : N' 6 p.toNatClampNeg = nI d) (n16 : N' 0 16 = nI n) (n11 : N' 0 11 = nI cr) (sp : ∀ i, i < n → xv_span (N' 14 i) (N' 15 i)) (z0 : zH N' p 0 n = H0 + a) (z1 : zH N' p 1 n = H1 + b) :
    ((xd_py M (nI u) (nI d) p 0 (nI a)).toInt = (ym_ro N' p 0).toInt ∧ (ym_ro N' p 0).toInt < 2 ^ 30 ∧ -(2 ^ 30) < (ym_ro N' p 0).toInt) ∧
    ((xd_py M (nI u) (nI d) p 1 (nI b) + xd_pc (M 0 6) (nI d) (xd_py M (nI u) (nI d) p 0 (nI a))).toInt = (ym_ro N' p 1).toInt ∧ (ym_ro N' p 1).toInt < 2 ^ 30 ∧ -(2 ^ 30) < (ym_ro N' p 1).toInt) := by
  have p0 := xd_py_n (M := M) (p := p) (y := 0) (x := a) (by omega) hs hu hd hb0 e10 eh0
  have p1 := xd_py_n (M := M) (p := p) (y := 1) (x := b) (by omega) hs hu hd hb1 e10 eh1
  have r0 := ym_rs_n (N := N') (p := p) (y := 0) (by omega) hs hu hd hn n4 n5 n6 n16 sp
  have r1 := ym_rs_n (N := N') (p := p) (y := 1) (by omega) hs hu hd hn n4 n5 n6 n16 sp
  have hE0 := zE_le (u := u) (s := s) (y := 0) hu
  have hE1 := zE_le (u := u) (s := s) (y := 1) hu
  have hz0 : zH N' p (nI 0) n = H0 + a := z0
  have hz1 : zH N' p (nI 1) n = H1 + b := z1
  rw [hz0] at r0
  rw [hz1] at r1
  have hd4 : 365 * d ≤ 4380 := by omega
  have hm0 := Nat.mul_le_mul hd4 hb0
  have hm1 := Nat.mul_le_mul hd4 hb1
  have q0 : (xd_py M (nI u) (nI d) p 0 (nI a)).toInt = (zE u s 0 : Int) - ((365 * d * (H0 + a) : Nat) : Int) := by
    have : (xd_py M (nI u) (nI d) p 0 (nI a)).toInt = _ := p0
    rw [this]; simp
  have q1 : (xd_py M (nI u) (nI d) p 1 (nI b)).toInt = (zE u s 1 : Int) - ((365 * d * (H1 + b) : Nat) : Int) := by
    have : (xd_py M (nI u) (nI d) p 1 (nI b)).toInt = _ := p1
    rw [this]; simp
  have s0 : (ym_rs N' p 0).toInt = (zE u s 0 : Int) - ((365 * d * (H0 + a) : Nat) : Int) := by
    have : (ym_rs N' p 0).toInt = _ := r0
    rw [this]; simp
  have s1 : (ym_rs N' p 1).toInt = (zE u s 1 : Int) - ((365 * d * (H1 + b) : Nat) : Int) := by
    have : (ym_rs N' p 1).toInt = _ := r1
    rw [this]; simp
  have t0 : (ym_ro N' p 0).toInt = (zE u s 0 : Int) - ((365 * d * (H0 + a) : Nat) : Int) := by rw [ym_ro_0, s0]
  have t1 := ym_ro_1 (N := N') (p := p) (cr := cr) (d := d) hcr hd n11 n6 (by rw [s0]; omega) (by rw [s1]; omega)
  rw [s0, s1] at t1
  unfold zL at t1
  have c1 := xd_pc_n (cr := cr) (d := d) (z := xd_py M (nI u) (nI d) p 0 (nI a)) hcr hd
  rw [q0] at c1
  have hcd : cr * (730 * d) ≤ 876000 := by
    have := Nat.mul_le_mul hcr (Nat.mul_le_mul_left 730 hd)
    omega
  have hcd' : (cr : Int) * (730 * d) = ((cr * (730 * d) : Nat) : Int) := by simp
  rw [hcd'] at c1 t1
  generalize 365 * d * (H0 + a) = B0 at *
  generalize 365 * d * (H1 + b) = B1 at *
  generalize cr * (730 * d) = C at *
  refine ⟨⟨by rw [q0, t0], by rw [t0]; omega, by rw [t0]; omega⟩, ?_⟩
  rw [e6, Int32.toInt_add, q1, c1, t1]
  refine ⟨?_, ?_, ?_⟩
  · exact Int.bmod_eq_of_le (by omega) (by omega)
  · omega
  · omega
theorem z_en {M N' : xm_M} {p : Int32} {s u d cr n H0 H1 a b : Nat} (hs : s < 730) (hu : u ≤ 400) (hd : d ≤ 12) (hcr : cr ≤ 100) (hn : n ≤ 81) (e10 : M 10 p.toNatClampNeg = nI s) (e6 : M 0 6 = nI cr) (eh0 : xd_hh M p 0 = nI H0) (eh1 : xd_hh M p 1 = nI H1) (hb0 : H0 + a ≤ 118260) (hb1 : H1 + b ≤ 118260)
    (n4 : N' 4 p.toNatClampNeg = nI s) (n5 : N' 5 p.toNatClampNeg = nI u) (n6 : N' 6 p.toNatClampNeg = nI d) (n16 : N' 0 16 = nI n) (n11 : N' 0 11 = nI cr) (sp : ∀ i, i < n → xv_span (N' 14 i) (N' 15 i)) (z0 : zH N' p 0 n = H0 + a) (z1 : zH N' p 1 n = H1 + b) : xd_en M (nI u) (nI d) p (nI a) (nI b) ↔ ym_en N' p := by
  obtain ⟨⟨a1, -, -⟩, ⟨b1, -, -⟩⟩ := z_left0 hs hu hd hcr hn e10 e6 eh0 eh1 hb0 hb1 n4 n5 n6 n16 n11 sp z0 z1
  have h0 : (0 : Int32).toInt = 0 := by decide
  have h0' : (0 : Int64).toInt = 0 := by decide
  unfold xd_en ym_en
  rw [Int32.le_iff_toInt_le, Int32.le_iff_toInt_le, Int64.le_iff_toInt_le, Int64.le_iff_toInt_le, h0, h0', a1, b1]
