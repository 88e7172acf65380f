/-! THE RELATION between the class's memory M and the model's N -/
def zP (M N : xm_M) (np : Nat) : Prop := np ≤ 20 ∧ M 2 0 = nI np ∧ N 0 3 = nI np ∧ (M 8 = N 2 ∧ M 9 = N 3 ∧ M 10 = N 4 ∧ M 11 = N 5 ∧ M 12 = N 6 ∧ M 13 = N 7 ∧ M 14 = N 8) ∧ (∀ i, i < np → ∃ s, s < 730 ∧ N 4 i = nI s) ∧ (∀ i, i < np → ∃ u, u ≤ 400 ∧ N 5 i = nI u) ∧ (∀ i, i < np → ∃ d, 1 ≤ d ∧ d ≤ 12 ∧ N 6 i = nI d) ∧ (∀ i, np ≤ i → N 5 i = 0)
def zC (M N : xm_M) (np nc : Nat) : Prop := nc ≤ 6 ∧ M 3 0 = nI nc ∧ N 0 12 = nI nc ∧ (M 15 = N 9 ∧ M 16 = N 10) ∧ (∀ c, c < nc → ∃ w, w ≤ 255 ∧ N 9 c = nI w) ∧ (∀ c, c < 6 → zs (M 17 c) np ∧ ∀ p, p < 20 → N 11 (c * 20 + p) = if zb (M 17 c) p then 1 else 0)
def zst (k st step : Int32) : Prop := (st = 0 ∧ (k = 0 ∨ k = 2) ∧ step = -1) ∨ (st = 1 ∧ ¬ step = -1) ∨ st = 2 ∨ st = 3
def zA (M N : xm_M) (np na : Nat) : Prop := na ≤ 80 ∧ M 4 0 = nI na ∧ N 0 16 = nI na ∧ ∀ i, i < na → (M 18 i = N 12 i ∧ M 19 i = N 13 i ∧ M 20 i = N 14 i ∧ M 21 i = N 15 i ∧ M 22 i = N 16 i ∧ M 23 i = N 17 i ∧ M 24 i = N 18 i) ∧ (∃ p, p < np ∧ N 12 i = nI p) ∧ xv_span (N 14 i) (N 15 i) ∧ zst (N 13 i) (N 17 i) (N 18 i)
def zQ (M N : xm_M) (nh : Nat) : Prop := nh ≤ 100 ∧ M 5 0 = nI nh ∧ N 0 24 = nI nh ∧ M 25 = N 19 ∧ M 26 = N 20 ∧ M 27 = N 21
/-- a call's state, person, hour; its mask; lo: its hour is no earlier -/
def zcs (st pe due mask : Int32) (np lo : Nat) : Prop := (st = 0 ∧ (∃ q, q < np ∧ pe = nI q ∧ zb mask q = true) ∧ ∃ t, lo ≤ t ∧ t ≤ 17600 ∧ due = nI t) ∨ (st = 1 ∧ (∃ q, q < np ∧ pe = nI q ∧ zb mask q = true) ∧ due = -1) ∨ (st = 2 ∧ pe = -1 ∧ due = -1)
def zk1 (M N : xm_M) (np nc lo k : Nat) : Prop := (M 28 k = N 22 k ∧ M 29 k = N 23 k ∧ M 30 k = N 24 k ∧ M 31 k = N 25 k ∧ M 33 k = N 27 k) ∧ (∃ c, c < nc ∧ N 22 k = nI c) ∧ zcs (N 24 k) (N 25 k) (N 27 k) (M 32 k) np lo
def zkm (M N : xm_M) (np k : Nat) : Prop := zs (M 32 k) np ∧ N 26 k = nI (zc (M 32 k) 20) ∧ ∀ p, p < 20 → N 28 (k * 20 + p) = if zb (M 32 k) p then 1 else 0
def zK (M N : xm_M) (np nc nk : Nat) (lo : Nat → Nat) : Prop := nk ≤ 60 ∧ M 6 0 = nI nk ∧ N 0 28 = nI nk ∧ (∀ k, k < nk → zk1 M N np nc (lo k) k) ∧ (∀ k, k < 60 → zkm M N np k) ∧ (∀ k, nk ≤ k → M 32 k = 0)
def zG (M N : xm_M) (cr pt h : Nat) : Prop := cr ≤ 100 ∧ M 0 6 = nI cr ∧ N 0 11 = nI cr ∧ (1 ≤ pt ∧ pt ≤ 48 ∧ M 0 7 = nI pt ∧ N 0 36 = nI pt) ∧ (h ≤ 17519 ∧ M 0 8 = nI h ∧ N 0 1 = nI h) ∧ M 7 = N 1
def zR (M N : xm_M) : Prop := ∃ np nc na nh nk cr pt h, zP M N np ∧ zC M N np nc ∧ zA M N np na ∧ zQ M N nh ∧ zK M N np nc nk (fun _ => h + 1) ∧ zG M N cr pt h
theorem zR_thr {M N : xm_M} (x : Int32) (h : zR M N) : zR M (xm_up N 0 0 x) := h
/-! reading the relation -/
theorem z_known {x : Int32} {n : Nat} (hn : n < 2 ^ 30) : (0 ≤ x ∧ x ≤ nI n - 1) ↔ ∃ i, i < n ∧ x = nI i := by
  have e1 : (nI n - 1).toInt = (n : Int) - 1 := nI_sub_toInt (b := 1) hn (by decide)
  have h0 : (0 : Int32).toInt = 0 := by decide
  constructor
  · rintro ⟨h1, h2⟩
    rw [Int32.le_iff_toInt_le, e1] at h2
    rw [Int32.le_iff_toInt_le, h0] at h1
    refine ⟨x.toInt.toNat, by omega, Int32.toInt_inj.mp ?_⟩
    rw [nI_toInt (by omega)]; omega
  · rintro ⟨i, hi, rfl⟩
    refine ⟨nI_pos' (by omega), ?_⟩
    rw [Int32.le_iff_toInt_le, e1, nI_toInt (n := i) (by omega)]; omega
theorem z_range {x y : Int32} {n : Nat} (hy : y = nI n) (hn : n < 2 ^ 29) : (0 ≤ x ∧ x ≤ y) ↔ ∃ i, i ≤ n ∧ x = nI i := by
  have h := z_known (x := x) (n := n + 1) (by omega)
  rw [nI_pred] at h
  rw [hy, h]
  exact ⟨fun ⟨i, a, b⟩ => ⟨i, by omega, b⟩, fun ⟨i, a, b⟩ => ⟨i, by omega, b⟩⟩
theorem z_idx {a p : Nat} (ha : a < 1000) (hp : p < 1000) : (nI a * 20 + nI p).toNatClampNeg = a * 20 + p := by
  rw [show (20 : Int32) = nI 20 from rfl, nI_mul, nI_add, nI_clamp (by omega)]
theorem z_there {M N : xm_M} {np : Nat} (hP : zP M N np) (d : Int32) {p : Nat} : zb (xd_there M d) p = true ↔ p < np ∧ N 4 p ≤ d := by
  obtain ⟨h1, h2, -, ⟨-, -, h5, -⟩, -⟩ := hP
  unfold xd_there
  rw [h2, nI_clamp (by omega), xq_o_zb]
  constructor
  · rintro ⟨i, hi, h⟩
    obtain ⟨a, rfl⟩ := (xi_w_zb (by omega)).mp h
    exact ⟨hi, by rw [← h5]; exact a⟩
  · rintro ⟨a, b⟩
    exact ⟨p, a, (xi_w_zb (by omega)).mpr ⟨by rw [h5]; exact b, rfl⟩⟩
theorem z_abs {M N : xm_M} {np na : Nat} (hnp : np ≤ 20) (hA : zA M N np na) (d : Int32) {p : Nat} (hp : p < 20) : zb (xd_abs M d) p = true ↔ ym_abs N (nI p) d := by
  obtain ⟨h1, h2, h3, h4⟩ := hA
  unfold xd_abs ym_abs
  rw [h2, h3, nI_clamp (by omega), xq_o_zb]
  constructor
  · rintro ⟨i, hi, h⟩
    obtain ⟨⟨e1, e2, e3, e4, e5, e6, e7⟩, ⟨q, hq, eq⟩, -, -⟩ := h4 i hi
    rw [e1, eq] at h
    obtain ⟨⟨a1, a2, a3, a4⟩, rfl⟩ := (xi_w_zb (by omega)).mp h
    refine ⟨i, hi, eq, by rw [← e6]; exact a1, by rw [← e3]; exact a2, by rw [← e4]; exact a3, ?_⟩
    unfold ym_hf
    rw [← e3, ← e4, ← e5]; exact a4
  · rintro ⟨i, hi, b1, b2, b3, b4, b5⟩
    obtain ⟨⟨e1, e2, e3, e4, e5, e6, e7⟩, ⟨q, hq, eq⟩, -, -⟩ := h4 i hi
    refine ⟨i, hi, ?_⟩
    rw [e1, b1]
    refine (xi_w_zb (by omega)).mpr ⟨⟨by rw [e6]; exact b2, by rw [e3]; exact b3, by rw [e4]; exact b4, ?_⟩, rfl⟩
    unfold ym_hf at b5
    rw [e3, e4, e5]; exact b5
theorem zb_not {x : Int32} {p : Nat} (hp : p < 32) : zb (x ^^^ -1) p = !(zb x p) := by
  rw [zb_xor, zb_m1 p hp]; cases zb x p <;> rfl
theorem z_aw {M N : xm_M} {np na : Nat} (hP : zP M N np) (hA : zA M N np na) (d : Int32) {p : Nat} : zb (xd_aw M d) p = true ↔ p < np ∧ N 4 p ≤ d ∧ ¬ ym_abs N (nI p) d := by
  have hnp := hP.1
  unfold xd_aw
  rw [zb_and, Bool.and_eq_true, z_there hP]
  constructor
  · rintro ⟨⟨a, b⟩, c⟩
    rw [zb_not (by omega)] at c
    refine ⟨a, b, fun z => ?_⟩
    rw [(z_abs hnp hA d (by omega)).mpr z] at c
    cases c
  · rintro ⟨a, b, c⟩
    refine ⟨⟨a, b⟩, ?_⟩
    rw [zb_not (by omega)]
    cases hz : zb (xd_abs M d) p with
    | false => rfl
    | true => exact absurd ((z_abs hnp hA d (by omega)).mp hz) c
/-- calls but for one, k (k = nk: none is left out) -/
def zKx (M N : xm_M) (np nc nk : Nat) (lo : Nat → Nat) (k : Nat) : Prop := nk ≤ 60 ∧ M 6 0 = nI nk ∧ N 0 28 = nI nk ∧ (∀ j, j < nk → j ≠ k → zk1 M N np nc (lo j) j)
theorem z_come {M N : xm_M} {np nc nk : Nat} {lo : Nat → Nat} (hnp : np ≤ 20) (hK : zK M N np nc nk lo) (w d : Int32) {p : Nat} (hp : p < 20) : zb (xd_come M w d) p = true ↔ ym_com N w (nI p) d := by
  obtain ⟨h1, h2, h3, h4, -, -⟩ := hK
  unfold xd_come ym_com
  rw [h2, h3, nI_clamp (by omega), xq_o_zb]
  constructor
  · rintro ⟨i, hi, h⟩
    obtain ⟨⟨e1, e2, e3, e4, e5⟩, -, hcs⟩ := h4 i hi
    by_cases c : M 30 i = 1 ∧ M 28 i = w ∧ M 29 i = d
    · rcases hcs with ⟨s1, -⟩ | ⟨s1, ⟨q, q1, q2, q3⟩, -⟩ | ⟨s1, -⟩
      · rw [← e3, c.1] at s1; cases s1
      · rw [e4, q2] at h
        obtain ⟨-, rfl⟩ := (xi_w_zb (by omega)).mp h
        exact ⟨i, hi, by rw [← e1]; exact c.2.1, by rw [← e2]; exact c.2.2, s1, q2⟩
      · rw [← e3, c.1] at s1; cases s1
    · rw [xi_wf c, zb_zero] at h
      cases h
  · rintro ⟨i, hi, b1, b2, b3, b4⟩
    obtain ⟨⟨e1, e2, e3, e4, e5⟩, -, -⟩ := h4 i hi
    refine ⟨i, hi, ?_⟩
    rw [e4, b4]
    exact (xi_w_zb (by omega)).mpr ⟨⟨by rw [e3]; exact b3, by rw [e1]; exact b1, by rw [e2]; exact b2⟩, rfl⟩
theorem z_come_s {M N : xm_M} {np nc nk : Nat} {lo : Nat → Nat} (hnp : np ≤ 20) (hK : zK M N np nc nk lo) (w d : Int32) : zs (xd_come M w d) np := by
  intro p hp
  cases hz : zb (xd_come M w d) p with
  | false => rfl
  | true =>
    exfalso
    obtain ⟨h1, h2, h3, h4, -, -⟩ := hK
    unfold xd_come at hz
    rw [h2, nI_clamp (by omega), xq_o_zb] at hz
    obtain ⟨i, hi, h⟩ := hz
    obtain ⟨⟨e1, e2, e3, e4, e5⟩, -, hcs⟩ := h4 i hi
    by_cases c : M 30 i = 1 ∧ M 28 i = w ∧ M 29 i = d
    · rcases hcs with ⟨s1, -⟩ | ⟨s1, ⟨q, q1, q2, q3⟩, -⟩ | ⟨s1, -⟩
      · rw [← e3, c.1] at s1; cases s1
      · rw [e4, q2] at h
        obtain ⟨-, rfl⟩ := (xi_w_zb (by omega)).mp h
        omega
      · rw [← e3, c.1] at s1; cases s1
    · rw [xi_wf c, zb_zero] at h
      cases h
theorem z_mem {M N : xm_M} {np nc : Nat} (hC : zC M N np nc) {c p : Nat} (hc : c < 6) (hp : p < 20) : ¬ N 11 (c * 20 + p) = 0 ↔ zb (M 17 c) p = true := by
  obtain ⟨-, -, -, -, -, h⟩ := hC
  rw [(h c hc).2 p hp]
  cases zb (M 17 c) p <;> simp
/-- who is present -/
theorem z_pr {M N : xm_M} {np nc na nk : Nat} {lo : Nat → Nat} (hP : zP M N np) (hC : zC M N np nc) (hA : zA M N np na) (hK : zK M N np nc nk lo) {c p : Nat} (hc : c < 6) (hp : p < np) (d : Int32) : zb (M 17 c &&& xd_aw M d ||| xd_come M (nI c) d) p = true ↔ ym_pr N (nI c) (nI p) d := by
  have hnp := hP.1
  unfold ym_pr
  rw [zb_or, zb_and, Bool.or_eq_true, Bool.and_eq_true, z_come hnp hK (nI c) d (by omega), z_aw hP hA, z_idx (by omega) (by omega), z_mem hC hc (by omega), nI_clamp (by omega)]
  constructor
  · rintro (⟨a, -, b, e⟩ | a)
    · exact Or.inl ⟨a, b, e⟩
    · exact Or.inr a
  · rintro (⟨a, b, e⟩ | a)
    · exact Or.inl ⟨a, hp, b, e⟩
    · exact Or.inr a
theorem z_pr_s {M N : xm_M} {np nc nk : Nat} {lo : Nat → Nat} (hnp : np ≤ 20) (hC : zC M N np nc) (hK : zK M N np nc nk lo) {c : Nat} (hc : c < 6) (d x : Int32) : zs (M 17 c &&& x ||| xd_come M (nI c) d) np := by
  intro p hp
  obtain ⟨-, -, -, -, -, h⟩ := hC
  rw [zb_or, zb_and, (h c hc).1 p hp, z_come_s hnp hK _ _ p hp]; rfl
theorem z_cnt {M N : xm_M} {np nc na nk : Nat} {lo : Nat → Nat} (hP : zP M N np) (hC : zC M N np nc) (hA : zA M N np na) (hK : zK M N np nc nk lo) {c : Nat} (hc : c < 6) (d : Int32) : ym_cnt N (nI c) d = nI (zc (M 17 c &&& xd_aw M d ||| xd_come M (nI c) d) np) := by
  have hnp := hP.1
  unfold ym_cnt
  rw [hP.2.2.1, nI_clamp (by omega)]
  exact zc_sum np (by omega) (fun i hi => z_pr hP hC hA hK hc hi d)
