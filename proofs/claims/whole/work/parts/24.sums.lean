/-! SUMS: what is left, in the class's ints and in the model's longs -/
def zu (G : Nat → Nat) : Nat → Nat
  | 0 => 0
  | n + 1 => zu G n + G n
theorem zu_le {G : Nat → Nat} {b : Nat} : ∀ n, (∀ i, i < n → G i ≤ b) → zu G n ≤ n * b
  | 0, _ => Nat.zero_le _
  | n + 1, h => by
    have h1 := zu_le n (fun i hi => h i (by omega))
    have h2 := h n (by omega)
    have : (n + 1) * b = n * b + b := Nat.succ_mul n b
    show zu G n + G n ≤ _
    omega
theorem zu_cong {G G' : Nat → Nat} : ∀ n, (∀ i, i < n → G i = G' i) → zu G n = zu G' n
  | 0, _ => rfl
  | n + 1, h => by
    show zu G n + G n = zu G' n + G' n
    rw [zu_cong n (fun i hi => h i (by omega)), h n (by omega)]
theorem zu_mul (w : Nat) {G : Nat → Nat} : ∀ n, zu (fun i => w * G i) n = w * zu G n
  | 0 => rfl
  | n + 1 => by
    show zu (fun i => w * G i) n + w * G n = w * (zu G n + G n)
    rw [zu_mul w n, Nat.mul_add]
theorem xq_s_zu {g : Nat → Int32} {G : Nat → Nat} : ∀ n, (∀ i, i < n → g i = nI (G i)) → xq_s g n = nI (zu G n)
  | 0, _ => nI_0.symm
  | n + 1, h => by
    show xq_s g n + g n = nI (zu G n + G n)
    rw [xq_s_zu n (fun i hi => h i (by omega)), h n (by omega), nI_add]
theorem ym_s_zu {g : Nat → Int64} {G : Nat → Nat} : ∀ n, (∀ i, i < n → g i = lN (G i)) → ym_s g n = lN (zu G n)
  | 0, _ => rfl
  | n + 1, h => by
    show ym_s g n + g n = lN (zu G n + G n)
    rw [ym_s_zu n (fun i hi => h i (by omega)), h n (by omega), lN_add]
theorem ym_e_zu {x : Int64} {g : Nat → Int64} {G : Nat → Nat} : ∀ n, (∀ i, i < n → g i = lN (G i)) → ym_e x g n = x - lN (zu G n)
  | 0, _ => by
    show x = x - lN 0
    have : lN 0 = 0 := rfl
    rw [this, Int64.sub_zero]
  | n + 1, h => by
    show ym_e x g n - g n = x - lN (zu G n + G n)
    rw [ym_e_zu n (fun i hi => h i (by omega)), h n (by omega), ← lN_add, Int64.sub_sub]
theorem zu_since (s a : Nat) : ∀ n, zu (fun i => if s ≤ a + i then 1 else 0) n = min n (a + n - s)
  | 0 => by simp [zu]
  | n + 1 => by
    show zu _ n + (if s ≤ a + n then 1 else 0) = _
    rw [zu_since s a n]
    split <;> omega
theorem xi_w_n {c : Prop} {k : Nat} : xi_w c (nI k) = nI (@ite Nat c (Classical.propDecidable c) k 0) := by
  by_cases h : c
  · simp [xi_w, h]
  · simp [xi_w, h]; exact nI_0.symm
theorem xi_b_n {c : Prop} : xi_b c = nI (@ite Nat c (Classical.propDecidable c) 1 0) := by
  by_cases h : c
  · simp [xi_b, h]; rfl
  · simp [xi_b, h]; rfl
theorem xd_hd_n {fr : Nat → Int32} {f t h : Int32} (hs : xv_span f t) : ∃ k, k ≤ 1460 ∧ xd_hd fr f t h = nI k := by
  obtain ⟨a, b, rfl, rfl, hab, hb⟩ := hs
  unfold xd_hd
  rw [nI_clamp (by omega), nI_clamp (by omega)]
  have h1 : ∀ i, i < b + 1 - a → ∃ k, k ≤ 2 ∧ (fun i => xi_w (nI (a + i) - nI (a + i) / 7 * 7 < 5 ∧ fr (nI (a + i)).toNatClampNeg = 0) (1 + xi_b (¬ ((nI (a + i) = nI a ∧ ¬ h &&& 1 = 0) ∨ (nI (a + i) = nI b ∧ ¬ h &&& 2 = 0))))) i = nI k := by
    intro i _
    dsimp only
    rw [xi_b_n, show (1 : Int32) = nI 1 from rfl, nI_add, xi_w_n]
    refine ⟨_, ?_, rfl⟩
    split <;> (try split) <;> omega
  have h2 : ∀ i, ∃ k, i < b + 1 - a → k ≤ 2 ∧ (fun i => xi_w (nI (a + i) - nI (a + i) / 7 * 7 < 5 ∧ fr (nI (a + i)).toNatClampNeg = 0) (1 + xi_b (¬ ((nI (a + i) = nI a ∧ ¬ h &&& 1 = 0) ∨ (nI (a + i) = nI b ∧ ¬ h &&& 2 = 0))))) i = nI k := by
    intro i
    by_cases hi : i < b + 1 - a
    · obtain ⟨k, hk⟩ := h1 i hi; exact ⟨k, fun _ => hk⟩
    · exact ⟨0, fun z => absurd z hi⟩
  have hG := fun i hi => Classical.choose_spec (h2 i) hi
  refine ⟨zu (fun i => Classical.choose (h2 i)) (b + 1 - a), ?_, xq_s_zu _ (fun i hi => (hG i hi).2)⟩
  have := zu_le (b + 1 - a) (fun i hi => (hG i hi).1)
  omega
/-- a working-day number as a number -/
noncomputable def zh (fr : Nat → Int32) (f t h : Int32) : Nat := (xd_hd fr f t h).toNatClampNeg
theorem zh_n {fr : Nat → Int32} {f t h : Int32} (hs : xv_span f t) : xd_hd fr f t h = nI (zh fr f t h) ∧ zh fr f t h ≤ 1460 := by
  obtain ⟨k, hk, e⟩ := xd_hd_n (fr := fr) (h := h) hs
  unfold zh
  rw [e, nI_clamp (by omega)]
  exact ⟨rfl, hk⟩
theorem xd_dt_n : ∀ s, s < 730 → xd_dt (nI s) 0 = nI (min 365 (0 * 365 + 365 - s)) ∧ xd_dt (nI s) 1 = nI (min 365 (1 * 365 + 365 - s)) := by decide +kernel
theorem nI_mul (a b : Nat) : nI a * nI b = nI (a * b) := (Int32.ofNat_mul a b).symm
theorem nI_sub_toInt {a b : Nat} (ha : a < 2 ^ 30) (hb : b < 2 ^ 30) : (nI a - nI b).toInt = (a : Int) - b := by
  rw [Int32.toInt_sub, nI_toInt (by omega), nI_toInt (by omega)]
  exact Int.bmod_eq_of_le (by omega) (by omega)
theorem lN_toInt' {n : Nat} (h : n < 2 ^ 62) : (lN n).toInt = (n : Int) := lg_ofNat_toInt (by omega)
theorem lN_sub_toInt {a b : Nat} (ha : a < 2 ^ 62) (hb : b < 2 ^ 62) : (lN a - lN b).toInt = (a : Int) - b := by
  rw [Int64.toInt_sub, lN_toInt' ha, lN_toInt' hb]
  exact Int.bmod_eq_of_le (by omega) (by omega)
/-- half days taken of a person's year, in the model's memory, by n asks -/
noncomputable def zH (N : xm_M) (p : Int32) (y : Int32) (n : Nat) : Nat := zu (fun i => @ite Nat (N 12 i = p ∧ N 13 i = 0 ∧ ¬ N 17 i = 3 ∧ N 14 i / 365 = y) (Classical.propDecidable _) (zh (N 1) (N 14 i) (N 15 i) (N 16 i)) 0) n
theorem zH_le {N : xm_M} {p y : Int32} {n : Nat} (hs : ∀ i, i < n → xv_span (N 14 i) (N 15 i)) : zH N p y n ≤ n * 1460 := by
  apply zu_le
  intro i hi
  have := (zh_n (fr := N 1) (h := N 16 i) (hs i hi)).2
  split <;> omega
/-- what is earned and taken, before what is carried -/
noncomputable def zE (u s y : Nat) : Nat := 2 * u * min 365 (y * 365 + 365 - s)
theorem zE_le {u s y : Nat} (hu : u ≤ 400) : zE u s y ≤ 292000 := by
  unfold zE
  have h1 : min 365 (y * 365 + 365 - s) ≤ 365 := Nat.min_le_left _ _
  have := Nat.mul_le_mul (Nat.mul_le_mul_left 2 hu) h1
  omega
theorem ym_rs_n {N : xm_M} {p : Int32} {y s u d n : Nat} (hy : y < 2) (hs : s < 730) (hu : u ≤ 400) (hd : d ≤ 12) (hn : n ≤ 81) (e4 : N 4 p.toNatClampNeg = nI s) (e5 : N 5 p.toNatClampNeg = nI u) (e6 : N 6 p.toNatClampNeg = nI d) (e0 : N 0 16 = nI n) (hsp : ∀ i, i < n → xv_span (N 14 i) (N 15 i)) :
    (ym_rs N p (nI y)).toInt = (zE u s y : Int) - 365 * d * zH N p (nI y) n := by
  have hH := zH_le (p := p) (y := nI y) hsp
  unfold ym_rs ym_r1
  rw [e4, e5, e6, e0, nI_clamp (by omega), nI_clamp (by omega)]
  have h1 : ym_s (fun i => ym_xj (nI s ≤ nI (y * 365 + i)) (2 * (nI u).toInt64) 0) 365 = lN (zE u s y) := by
    rw [ym_s_zu (G := fun i => (2 * u) * (if s ≤ y * 365 + i then 1 else 0)) 365, zu_mul, zu_since]
    · rfl
    · intro i hi
      rw [nI_l (by omega), show (2 : Int64) = lN 2 from rfl, lN_mul]
      by_cases c : s ≤ y * 365 + i
      · rw [if_pos c, ym_xj, if_pos ((nI_leI (by omega) (by omega)).mpr c), Nat.mul_one]
      · rw [if_neg c, ym_xj, if_neg (fun z => c ((nI_leI (by omega) (by omega)).mp z))]; rfl
  rw [h1, ym_e_zu (G := fun i => (365 * d) * (@ite Nat (N 12 i = p ∧ N 13 i = 0 ∧ ¬ N 17 i = 3 ∧ N 14 i / 365 = nI y) (Classical.propDecidable _) (zh (N 1) (N 14 i) (N 15 i) (N 16 i)) 0)) n, zu_mul]
  · have hE := zE_le (u := u) (s := s) (y := y) hu
    have hb : 365 * d * zH N p (nI y) n < 2 ^ 40 := by
      have h2 : 365 * d ≤ 4380 := by omega
      have h3 : zH N p (nI y) n ≤ 118260 := by omega
      have := Nat.mul_le_mul h2 h3
      omega
    have := lN_sub_toInt (a := zE u s y) (b := 365 * d * zH N p (nI y) n) (by omega) (by omega)
    unfold zH at this hb ⊢
    rw [this]
    simp
  · intro i hi
    obtain ⟨g1, g2⟩ := zh_n (fr := N 1) (h := N 16 i) (hsp i hi)
    by_cases c : N 12 i = p ∧ N 13 i = 0 ∧ ¬ N 17 i = 3 ∧ N 14 i / 365 = nI y
    · rw [ym_xj, if_pos c, if_pos c, g1, nI_l (by omega), nI_l (by omega), show (365 : Int64) = lN 365 from rfl, lN_mul, lN_mul]
      congr 1
      rw [Nat.mul_comm (zh _ _ _ _) 365, Nat.mul_assoc, Nat.mul_comm (zh _ _ _ _) d, ← Nat.mul_assoc]
    · rw [ym_xj, if_neg c, if_neg c]; rfl
theorem xd_py_n {M : xm_M} {p : Int32} {y s u d H x : Nat} (hy : y < 2) (hs : s < 730) (hu : u ≤ 400) (hd : d ≤ 12) (hH : H + x ≤ 118260) (e10 : M 10 p.toNatClampNeg = nI s) (eH : xd_hh M p (nI y) = nI H) :
    (xd_py M (nI u) (nI d) p (nI y) (nI x)).toInt = (zE u s y : Int) - 365 * d * (H + x) := by
  unfold xd_py
  have ed : xd_dt (M 10 p.toNatClampNeg) (nI y) = nI (min 365 (y * 365 + 365 - s)) := by
    rw [e10]
    have := xd_dt_n s hs
    rcases (show y = 0 ∨ y = 1 by omega) with rfl | rfl
    · exact this.1
    · exact this.2
  have hE := zE_le (u := u) (s := s) (y := y) hu
  have hb : 365 * d * (H + x) < 2 ^ 30 := by
    have h2 : 365 * d ≤ 4380 := by omega
    have := Nat.mul_le_mul h2 hH
    omega
  rw [ed, eH, show (2 : Int32) = nI 2 from rfl, show (365 : Int32) = nI 365 from rfl, nI_mul, nI_mul, nI_mul, nI_add, nI_mul]
  have := nI_sub_toInt (a := zE u s y) (b := 365 * d * (H + x)) (by omega) hb
  unfold zE at this ⊢
  rw [this]
  simp
