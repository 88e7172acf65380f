/-! WHO IS SHORT, WHO IS ASKED -/
theorem xq_f_cong {P Q : Nat → Prop} : ∀ n, (∀ k, k < n → (P k ↔ Q k)) → xq_f P n = xq_f Q n
  | 0, _ => rfl
  | n + 1, h => by
    show xi_x (xq_f P n = -1) (xi_x (P n) (nI n) (-1)) (xq_f P n) = xi_x (xq_f Q n = -1) (xi_x (Q n) (nI n) (-1)) (xq_f Q n)
    rw [xq_f_cong n (fun k hk => h k (by omega)), propext (h n (by omega))]
theorem xq_f_in {P : Nat → Prop} : ∀ n, xq_f P n = -1 ∨ ∃ m, m < n ∧ P m ∧ xq_f P n = nI m
  | 0 => Or.inl rfl
  | n + 1 => by
    show xi_x (xq_f P n = -1) (xi_x (P n) (nI n) (-1)) (xq_f P n) = -1 ∨ ∃ m, m < n + 1 ∧ P m ∧ xi_x (xq_f P n = -1) (xi_x (P n) (nI n) (-1)) (xq_f P n) = nI m
    rcases xq_f_in (P := P) n with h | ⟨m, h1, h2, h3⟩
    · rw [xi_xt h]
      by_cases c : P n
      · rw [xi_xt c]; exact Or.inr ⟨n, by omega, c, rfl⟩
      · rw [xi_xf c]; exact Or.inl rfl
    · by_cases c : xq_f P n = -1
      · rw [xi_xt c]
        by_cases c2 : P n
        · rw [xi_xt c2]; exact Or.inr ⟨n, by omega, c2, rfl⟩
        · rw [xi_xf c2]; exact Or.inl rfl
      · rw [xi_xf c]; exact Or.inr ⟨m, by omega, h2, h3⟩
theorem zc_drop {x y : Int32} {p : Nat} (hx : zb x p = true) (hy : zb y p = false) (h : ∀ q, q ≠ p → zb x q = zb y q) : ∀ n, p < n → zc x n = zc y n + 1
  | 0, hp => absurd hp (Nat.not_lt_zero _)
  | n + 1, hp => by
    show zc x n + (if zb x n then 1 else 0) = zc y n + (if zb y n then 1 else 0) + 1
    rcases Nat.lt_or_ge p n with c | c
    · rw [zc_drop hx hy h n c, h n (by omega)]; omega
    · obtain rfl : p = n := by omega
      rw [zc_cong p (fun q hq => h q (by omega)), hx, hy]; rfl
theorem z_cs {M N : xm_M} {np nc na nk : Nat} {lo : Nat → Nat} (hP : zP M N np) (hC : zC M N np nc) (hA : zA M N np na) (hK : zK M N np nc nk lo) {p : Nat} (hp : p < np) (d : Int32) : xd_cl M (nI p) d = ym_cs N (nI p) d := by
  have hnp := hP.1
  have hnc := hC.1
  have c0 := hC.2.1
  have c1 := hC.2.2.1
  have c2 := hC.2.2.2.1.2
  have c3 := hC.2.2.2.2.2
  unfold xd_cl ym_cs
  rw [c0, c1, nI_clamp (by omega)]
  have hpr : ∀ c, c < nc → (ym_pr N (nI c) (nI p) d ∧ ¬ ym_com N (nI c) (nI p) d ↔ zb (M 17 c) p = true ∧ zb (xd_aw M d) p = true ∧ zb (xd_come M (nI c) d) p = false) := by
    intro c hc
    rw [← z_pr hP hC hA hK (by omega) hp d, ← z_come hnp hK (nI c) d (by omega), zb_or, zb_and]
    cases zb (M 17 c) p <;> cases zb (xd_aw M d) p <;> cases zb (xd_come M (nI c) d) p <;> simp
  by_cases ca : xd_aw M d &&& ((1 : Int32) <<< (nI p &&& 31)) = 0
  · rw [xi_xt ca]
    rw [zb_hold (by omega)] at ca
    refine (xq_f_no (fun c hc hz => ?_)).symm
    have := (hpr c hc).mp ⟨hz.1, hz.2.1⟩
    rw [ca] at this
    cases this.2.1
  · rw [xi_xf ca]
    rw [zb_hold (by omega), Bool.not_eq_false] at ca
    refine xq_f_cong nc (fun c hc => ?_)
    unfold xd_sh ym_csi
    have hY : zs (M 17 c &&& xd_aw M d &&& ((1 : Int32) <<< (nI p &&& 31) ^^^ -1) ||| xd_come M (nI c) d) np := by
      intro q hq
      rw [zb_or, zb_and, zb_and, (c3 c (by omega)).1 q hq, z_come_s hnp hK _ _ q hq]; rfl
    rw [zb_hold (by omega), zb_hold (by omega), Bool.not_eq_false, xd_bc_n hnp hY, z_cnt hP hC hA hK (by omega), c2]
    constructor
    · rintro ⟨a, b, e⟩
      obtain ⟨g1, g2⟩ := (hpr c hc).mpr ⟨a, ca, b⟩
      refine ⟨g1, g2, ?_⟩
      have hd := zc_drop (x := M 17 c &&& xd_aw M d ||| xd_come M (nI c) d) (y := M 17 c &&& xd_aw M d &&& ((1 : Int32) <<< (nI p &&& 31) ^^^ -1) ||| xd_come M (nI c) d) (p := p) (by rw [zb_or, zb_and, a, ca]; rfl) (by rw [zb_or, zb_and, zb_not (by omega), zb_on (by omega), b]; simp) (fun q hq => by
        rcases Nat.lt_or_ge q 32 with c' | c'
        · rw [zb_or, zb_or, zb_and, zb_and, zb_and, zb_not c', zb_on (by omega)]
          have : decide (p = q) = false := by simp; omega
          rw [this]; simp
        · rw [zb_big _ _ c', zb_big _ _ c']) np hp
      rw [hd, nI_pred]; exact e
    · rintro ⟨g1, g2, e⟩
      obtain ⟨a, -, b⟩ := (hpr c hc).mp ⟨g1, g2⟩
      refine ⟨a, b, ?_⟩
      have hd := zc_drop (x := M 17 c &&& xd_aw M d ||| xd_come M (nI c) d) (y := M 17 c &&& xd_aw M d &&& ((1 : Int32) <<< (nI p &&& 31) ^^^ -1) ||| xd_come M (nI c) d) (p := p) (by rw [zb_or, zb_and, a, ca]; rfl) (by rw [zb_or, zb_and, zb_not (by omega), zb_on (by omega), b]; simp) (fun q hq => by
        rcases Nat.lt_or_ge q 32 with c' | c'
        · rw [zb_or, zb_or, zb_and, zb_and, zb_and, zb_not c', zb_on (by omega)]
          have : decide (p = q) = false := by simp; omega
          rw [this]; simp
        · rw [zb_big _ _ c', zb_big _ _ c']) np hp
      rw [hd, nI_pred] at e; exact e
theorem z_fd {M N : xm_M} {np nc na nk : Nat} {lo : Nat → Nat} (hP : zP M N np) (hC : zC M N np nc) (hA : zA M N np na) (hK : zK M N np nc nk lo) (h7 : M 7 = N 1) {p : Nat} (hp : p < np) (f t h : Int32) (n : Nat) : xq_f (xd_dy M f t h (nI p) f.toNatClampNeg) n = xq_f (ym_dy N f t h (nI p) f.toNatClampNeg) n := by
  refine xq_f_cong n (fun k _ => ?_)
  unfold xd_dy ym_dy ym_wk ym_hf
  rw [z_cs hP hC hA hK hp, h7]
/-! skills -/
theorem xq_k_zb (b : Nat → Int32) (s d : Int32) {q : Nat} (hq : q < 32) : ∀ m, m ≤ 32 → (zb (xq_k b s d m) q = true ↔ zb s q = true ∧ ¬ (q < m ∧ d < b q))
  | 0, _ => by simp [xq_k]
  | m + 1, hm => by
    rw [xq_k1]
    have ih := xq_k_zb b s d hq m (by omega)
    by_cases c : d < b m
    · rw [xi_xt c, zb_and, zb_not hq, zb_on (by omega), Bool.and_eq_true, ih]
      by_cases e : m = q
      · subst e; simp [c]
      · have e1 : decide (m = q) = false := by simp [e]
        rw [e1]
        constructor
        · rintro ⟨⟨a1, a2⟩, -⟩; exact ⟨a1, fun z => a2 ⟨by omega, z.2⟩⟩
        · rintro ⟨a1, a2⟩; exact ⟨⟨a1, fun z => a2 ⟨by omega, z.2⟩⟩, rfl⟩
    · rw [xi_xf c, ih]
      constructor
      · rintro ⟨a1, a2⟩
        refine ⟨a1, fun z => ?_⟩
        rcases (show q < m ∨ q = m by omega) with z1 | rfl
        · exact a2 ⟨z1, z.2⟩
        · exact c z.2
      · rintro ⟨a1, a2⟩; exact ⟨a1, fun z => a2 ⟨by omega, z.2⟩⟩
theorem zb_small {w q : Nat} (hw : w ≤ 255) (h : zb (nI w) q = true) : q < 8 := by
  rcases Nat.lt_or_ge q 8 with c | c
  · exact c
  · exfalso
    rcases Nat.lt_or_ge q 32 with c2 | c2
    · rw [zb_nI c2] at h
      have := Nat.testBit_lt_two_pow (x := w) (i := q) (Nat.lt_of_lt_of_le (show w < 2 ^ 8 by omega) (Nat.pow_le_pow_right (by omega) c))
      rw [this] at h; cases h
    · rw [zb_big _ _ c2] at h; cases h
theorem z_sk {M N : xm_M} {np : Nat} (hP : zP M N np) {p w : Nat} (hp : p < np) (hw : w ≤ 255) (d : Int32) : xd_hs M (nI p) (nI w) d ↔ ym_sk N (nI p) (nI w) d := by
  have hnp := hP.1
  obtain ⟨-, -, -, ⟨e8, -, -, -, -, -, e14⟩, -⟩ := hP
  have ix1 : ∀ q, q < 8 → (nI p * 8 + nI q).toNatClampNeg = p * 8 + q := fun q hq => by rw [show (8 : Int32) = nI 8 from rfl, nI_mul, nI_add, nI_clamp (by omega)]
  have ix2 : ∀ q, q < 8 → (8 * nI p + nI q).toNatClampNeg = p * 8 + q := fun q hq => by rw [show (8 : Int32) = nI 8 from rfl, nI_mul, nI_add, nI_clamp (by omega)]; omega
  unfold xd_hs ym_sk ym_ski
  rw [e8, e14, nI_clamp (by omega)]
  constructor
  · intro h s hs ⟨a, b⟩
    rw [zb_and1, zb_shr (by omega)] at a
    have h1 : zb (xq_k (fun n => N 8 (nI p * 8 + nI n).toNatClampNeg) (N 2 p) d 8 &&& nI w) s = zb (nI w) s := by rw [h]
    rw [zb_and, a, Bool.and_true, xq_k_zb _ _ _ (by omega) 8 (by omega)] at h1
    rcases b with b | b
    · rw [zb_and0, zb_shr (by omega)] at b
      rw [b] at h1; cases h1.1
    · exact h1.2 ⟨hs, by rw [ix1 s hs]; rw [ix2 s hs] at b; exact b⟩
  · intro h
    apply zb_ext
    intro q hq
    rw [zb_and]
    cases hz : zb (nI w) q with
    | false => rw [Bool.and_false]
    | true =>
      have hq8 := zb_small hw hz
      rw [Bool.and_true, xq_k_zb _ _ _ (by omega) 8 (by omega)]
      have h1 := h q hq8
      rw [zb_and1, zb_shr (by omega), hz, zb_and0, zb_shr (by omega), ix2 q hq8] at h1
      constructor
      · cases hx : zb (N 2 p) q with
        | true => rfl
        | false => exact absurd ⟨rfl, Or.inl hx⟩ h1
      · rintro ⟨-, z⟩
        rw [ix1 q hq8] at z
        exact h1 ⟨rfl, Or.inr z⟩
