/-! 25.left -/
theorem xd_pc_n {cr d : Nat} {z : Int32} (hc : cr ≤ 100) (hd : d ≤ 12) : (xd_pc (nI cr) (nI d) z).toInt = max 0 (min (cr * (730 * d) : Int) z.toInt) := by
  unfold xd_pc
  have hb : cr * (730 * d) < 2 ^ 31 := by
    have := Nat.mul_le_mul hc (Nat.mul_le_mul_left 730 hd)
    omega
  have e : nI cr * (730 * nI d) = nI (cr * (730 * d)) := by rw [show (730 : Int32) = nI 730 from rfl, nI_mul, nI_mul]
  have et : (nI (cr * (730 * d))).toInt = (cr * (730 * d) : Int) := by rw [nI_toInt hb]; simp
  rw [e]
  have h0 : (0 : Int32).toInt = 0 := by decide
  by_cases c1 : nI (cr * (730 * d)) < z
  · rw [if_pos c1]
    rw [Int32.lt_iff_toInt_lt, et] at c1
    by_cases c2 : (0 : Int32) < nI (cr * (730 * d))
    · dsimp only
      rw [if_pos c2, et]
      rw [Int32.lt_iff_toInt_lt, et, h0] at c2
      omega
    · dsimp only
      rw [if_neg c2, h0]
      rw [Int32.lt_iff_toInt_lt, et, h0] at c2
      omega
  · rw [if_neg c1]
    rw [Int32.lt_iff_toInt_lt, et] at c1
    by_cases c2 : (0 : Int32) < z
    · dsimp only
      rw [if_pos c2]
      rw [Int32.lt_iff_toInt_lt, h0] at c2
      omega
    · dsimp only
      rw [if_neg c2, h0]
      rw [Int32.lt_iff_toInt_lt, h0] at c2
      omega
/-- what is left of the second year, out of both years' own -/
def zL (cr d : Nat) (z0 z1 : Int) : Int := z1 + max 0 (min (cr * (730 * d) : Int) z0)
theorem ym_ro_0 {N : xm_M} {p : Int32} : ym_ro N p 0 = ym_rs N p 0 := by
  unfold ym_ro ym_xj
  rw [if_pos rfl]
theorem ym_ro_1 {N : xm_M} {p : Int32} {cr d : Nat} (hc : cr ≤ 100) (hd : d ≤ 12) (e0 : N 0 11 = nI cr) (e6 : N 6 p.toNatClampNeg = nI d) (hz0 : (ym_rs N p 0).toInt < 2 ^ 40 ∧ -(2 ^ 40) < (ym_rs N p 0).toInt) (hz : (ym_rs N p 1).toInt < 2 ^ 40 ∧ -(2 ^ 40) < (ym_rs N p 1).toInt) : (ym_ro N p 1).toInt = zL cr d (ym_rs N p 0).toInt (ym_rs N p 1).toInt := by
  unfold ym_ro ym_old ym_xj zL
  rw [if_neg (by decide), e0, e6]
  have hb : cr * (730 * d) < 2 ^ 31 := by
    have := Nat.mul_le_mul hc (Nat.mul_le_mul_left 730 hd)
    omega
  have e : (nI cr).toInt64 * (730 * nI d).toInt64 = lN (cr * (730 * d)) := by rw [show (730 : Int32) = nI 730 from rfl, nI_mul, nI_l (by omega), nI_l (by omega), lN_mul]
  have et : (lN (cr * (730 * d))).toInt = (cr * (730 * d) : Int) := by rw [lN_toInt hb]; simp
  have h0 : (0 : Int64).toInt = 0 := by decide
  rw [e]
  generalize ym_rs N p 0 = a at *
  generalize ym_rs N p 1 = b at *
  by_cases c1 : lN (cr * (730 * d)) < a
  · rw [if_pos c1]
    rw [Int64.lt_iff_toInt_lt, et] at c1
    by_cases c2 : 0 < lN (cr * (730 * d))
    · rw [if_pos c2, Int64.toInt_add, et]
      rw [Int64.lt_iff_toInt_lt, et, h0] at c2
      rw [Int.bmod_eq_of_le (by omega) (by omega)]
      omega
    · rw [if_neg c2]
      rw [Int64.lt_iff_toInt_lt, et, h0] at c2
      omega
  · rw [if_neg c1]
    rw [Int64.lt_iff_toInt_lt, et] at c1
    by_cases c2 : 0 < a
    · rw [if_pos c2, Int64.toInt_add]
      rw [Int64.lt_iff_toInt_lt, h0] at c2
      rw [Int.bmod_eq_of_le (by omega) (by omega)]
      omega
    · rw [if_neg c2]
      rw [Int64.lt_iff_toInt_lt, h0] at c2
      omega
theorem nI_div {a b : Nat} (ha : a < 2 ^ 31) (hb : b < 2 ^ 31) : nI a / nI b = nI (a / b) := by
  apply Int32.toInt_inj.mp
  have h1 : a / b ≤ a := Nat.div_le_self _ _
  rw [Int32.toInt_div, nI_toInt ha, nI_toInt hb, nI_toInt (by omega), ← Int.ofNat_tdiv]
  generalize a / b = q at h1 ⊢
  exact Int.bmod_eq_of_le (by omega) (by omega)
theorem nI_rem {a b : Nat} (ha : a < 2 ^ 31) (hb : b < 2 ^ 31) : nI a - nI a / nI b * nI b = nI (a % b) := by
  rw [nI_div ha hb, nI_mul, nI_sub (Nat.div_mul_le_self _ _)]
  congr 1
  have := Nat.div_add_mod a b
  rw [Nat.mul_comm] at this
  omega
theorem xq_g_n : ∀ (k n a b : Nat), b < 2 ^ k → 2 * k + 1 ≤ n → a < 2 ^ 31 → b < 2 ^ 31 → xq_g n (nI a) (nI b) = nI (Nat.gcd a b)
  | 0, n, a, b, h, hn, ha, hb => by
    obtain rfl : b = 0 := by omega
    rw [xq_g_le (by rw [nI_0]; decide), Nat.gcd_zero_right]
  | k + 1, n, a, b, h, hn, ha, hb => by
    rcases Nat.eq_zero_or_pos b with rfl | hp
    · rw [xq_g_le (by rw [nI_0]; decide), Nat.gcd_zero_right]
    · obtain ⟨n1, rfl⟩ : ∃ n1, n = n1 + 2 := ⟨n - 2, by omega⟩
      have hr : a % b < b := Nat.mod_lt _ hp
      have c1 : (0 : Int32) < nI b := by rw [← nI_0]; exact nI_lt hp hb
      show xi_x (0 < nI b) (xq_g (n1 + 1) (nI b) (nI a - nI a / nI b * nI b)) (nI a) = _
      rw [xi_x, if_pos c1, nI_rem ha hb]
      have hg : Nat.gcd a b = Nat.gcd b (a % b) := by rw [Nat.gcd_comm a b, Nat.gcd_rec, Nat.gcd_comm]
      rcases Nat.eq_zero_or_pos (a % b) with h0 | h0
      · rw [hg, h0, xq_g_le (by rw [nI_0]; decide), Nat.gcd_zero_right]
      · have c2 : (0 : Int32) < nI (a % b) := by rw [← nI_0]; exact nI_lt h0 (by omega)
        show xi_x (0 < nI (a % b)) (xq_g n1 (nI (a % b)) (nI b - nI b / nI (a % b) * nI (a % b))) (nI b) = _
        rw [xi_x, if_pos c2, nI_rem hb (by omega)]
        have hr2 : b % (a % b) < a % b := Nat.mod_lt _ h0
        have hr3 : b % (a % b) ≤ b - a % b := by
          have h5 := Nat.div_add_mod b (a % b)
          have h6 : 1 ≤ b / (a % b) := (Nat.le_div_iff_mul_le h0).mpr (by omega)
          have h7 : (a % b) * 1 ≤ (a % b) * (b / (a % b)) := Nat.mul_le_mul_left _ h6
          omega
        have hp2 : 2 ^ (k + 1) = 2 * 2 ^ k := by rw [Nat.pow_succ, Nat.mul_comm]
        rw [xq_g_n k n1 (a % b) (b % (a % b)) (by omega) (by omega) (by omega) (by omega)]
        rw [hg]
        congr 1
        rw [Nat.gcd_comm b (a % b), Nat.gcd_rec (a % b) b, Nat.gcd_comm]
theorem xq_g_1000 {a b : Nat} (ha : a < 2 ^ 31) (hb : b < 2 ^ 31) : xq_g 1000 (nI a) (nI b) = nI (Nat.gcd a b) := xq_g_n 31 1000 a b hb (by omega) ha hb
/-- the class's answer of left, and the model's -/
theorem z_left {x : Int32} {X : Int64} {d : Nat} (hd : 1 ≤ d) (hd2 : d ≤ 12) (hx : x.toInt = X.toInt) (hb : X.toInt < 2 ^ 30 ∧ -(2 ^ 30) < X.toInt) (what : Prop) :
    xi_x what x (730 * nI d) / ((fun z : Int32 => if (1 : Int32) < z then z else 1) (xq_g 1000 (if 0 ≤ x then x else -x) (730 * nI d))) = (ym_xj what X ((730 * nI d).toInt64) / lN (Nat.gcd (ym_ab X).toInt.toNat (730 * nI d).toInt64.toInt.toNat)).toInt32 := by
  have h0 : (0 : Int32).toInt = 0 := by decide
  have h0' : (0 : Int64).toInt = 0 := by decide
  have e7 : (730 : Int32) * nI d = nI (730 * d) := by rw [show (730 : Int32) = nI 730 from rfl, nI_mul]
  have ea : (if 0 ≤ x then x else -x) = nI X.toInt.natAbs := by
    apply Int32.toInt_inj.mp
    rw [nI_toInt (by omega)]
    by_cases c : (0 : Int32) ≤ x
    · rw [if_pos c, hx]
      rw [Int32.le_iff_toInt_le, h0, hx] at c
      omega
    · rw [if_neg c, Int32.toInt_neg, hx]
      rw [Int32.le_iff_toInt_le, h0, hx] at c
      rw [Int.bmod_eq_of_le (by omega) (by omega)]
      omega
  have eb : (ym_ab X).toInt.toNat = X.toInt.natAbs := by
    unfold ym_ab ym_xj
    by_cases c : X < 0
    · rw [if_pos c, Int64.toInt_neg]
      rw [Int64.lt_iff_toInt_lt, h0'] at c
      rw [Int.bmod_eq_of_le (by omega) (by omega)]
      omega
    · rw [if_neg c]
      rw [Int64.lt_iff_toInt_lt, h0'] at c
      omega
  have ec : (nI (730 * d)).toInt64.toInt.toNat = 730 * d := by rw [Int32.toInt_toInt64, nI_toInt (by omega)]; omega
  rw [e7, ea, eb, ec, xq_g_1000 (by omega) (by omega)]
  have hg1 : 1 ≤ Nat.gcd X.toInt.natAbs (730 * d) := Nat.gcd_pos_of_pos_right _ (by omega)
  have hg2 : Nat.gcd X.toInt.natAbs (730 * d) ≤ 730 * d := Nat.gcd_le_right _ (by omega)
  generalize Nat.gcd X.toInt.natAbs (730 * d) = g at hg1 hg2 ⊢
  have em : (fun z : Int32 => if (1 : Int32) < z then z else 1) (nI g) = nI g := by
    dsimp only
    split
    · rfl
    · rename_i c
      rw [show (1 : Int32) = nI 1 from rfl, nI_ltI (by omega) (by omega)] at c
      obtain rfl : g = 1 := by omega
      rfl
  rw [em]
  apply Int32.toInt_inj.mp
  have ed : (xi_x what x (nI (730 * d))).toInt = (ym_xj what X ((nI (730 * d)).toInt64)).toInt := by
    by_cases c : what
    · simp only [xi_x, ym_xj, if_pos c, hx]
    · simp only [xi_x, ym_xj, if_neg c, Int32.toInt_toInt64]
  rw [Int32.toInt_div, Int64.toInt_toInt32, Int64.toInt_div, ed, nI_toInt (by omega), lN_toInt (by omega)]
  rw [Int.bmod_bmod_of_dvd (by decide)]
