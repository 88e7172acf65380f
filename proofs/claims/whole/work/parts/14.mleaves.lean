/-! THE MODEL: its own numbers -/
def xg_n (k r t m : Int32) : Nat := if k = 0 then 1 else if r = 0 then 2 else if t = 0 then 3 else if m = 0 then 4 else 0
def xg_b : Nat → Int32
  | 0 => 0
  | 1 => 1
  | 2 => 2
  | 3 => 4
  | _ => 8
def xg_p : Nat → Int32
  | 0 => 1
  | 1 => 2
  | 2 => 4
  | 3 => 8
  | _ => 16
def xq_t (q : Int32) : Nat → Int32
  | 0 => 0
  | n + 1 => xq_t q n + (if 0 < q &&& xg_p n then 1 else 0)
theorem xg_n5 (k r t m : Int32) : xg_n k r t m < 5 := by
  unfold xg_n
  split
  · decide
  · split
    · decide
    · split
      · decide
      · split
        · decide
        · decide
theorem xg_x : ∀ n, n < 5 → ∀ i, i < 5 → i ≤ n → (xg_b n < xg_p i ↔ i = n) := by decide
theorem xg_x2 : ∀ i, i < 4 → 2 * xg_p i = xg_p (i + 1) := by decide
theorem xg_x0 : ∀ n, n < 5 → (xg_b n = 0 ↔ n = 0) := by decide
theorem xm_up_up (M : xm_M) (p k : Nat) (x y : Int32) : xm_up (xm_up M p k x) p k y = xm_up M p k y := by
  funext a b
  by_cases h1 : a = p
  · by_cases h2 : b = k
    · simp [xm_up, h1, h2]
    · simp [xm_up, h1, h2]
  · simp [xm_up, h1]
theorem xi_and1 (h : Int32) : h &&& 1 = 1 ↔ ¬ h &&& 1 = 0 := by
  have hb : ∀ x : BitVec 32, x &&& 1#32 = 0#32 ∨ x &&& 1#32 = 1#32 := by
    intro x
    have h1 : x &&& 1#32 = if x.getLsbD 0 then 1#32 else 0#32 := by
      apply BitVec.eq_of_getLsbD_eq
      intro i hi
      cases hx : x.getLsbD 0
      · by_cases h0 : i = 0
        · subst h0; rw [BitVec.getLsbD_and, hx]; rfl
        · simp [h0]
      · by_cases h0 : i = 0
        · subst h0; rw [BitVec.getLsbD_and, hx]; rfl
        · simp [h0]
    rw [h1]
    split
    · exact Or.inr rfl
    · exact Or.inl rfl
  constructor
  · intro h1 h2
    rw [h1] at h2
    exact absurd h2 (by decide)
  · intro h1
    rcases hb h.toBitVec with q | q
    · exact absurd (Int32.toBitVec_inj.mp (show (h &&& 1).toBitVec = (0 : Int32).toBitVec from q)) h1
    · exact Int32.toBitVec_inj.mp (show (h &&& 1).toBitVec = (1 : Int32).toBitVec from q)
theorem xi_and2 (h : Int32) : h &&& 2 = 2 ↔ ¬ h &&& 2 = 0 := by
  have hb : ∀ x : BitVec 32, x &&& 2#32 = 0#32 ∨ x &&& 2#32 = 2#32 := by
    intro x
    have e2 : ∀ i, (2#32).getLsbD i = decide (i = 1) := by
      intro i
      by_cases hi : i < 32
      · revert hi; revert i; decide
      · have e1 : (2#32).getLsbD i = false := BitVec.getLsbD_of_ge _ _ (by omega)
        have e3 : decide (i = 1) = false := by simp; omega
        rw [e1, e3]
    have h1 : x &&& 2#32 = if x.getLsbD 1 then 2#32 else 0#32 := by
      apply BitVec.eq_of_getLsbD_eq
      intro i hi
      cases hx : x.getLsbD 1
      · by_cases h0 : i = 1
        · subst h0; rw [BitVec.getLsbD_and, hx]; rfl
        · simp only [BitVec.getLsbD_and, e2]; simp [h0]
      · by_cases h0 : i = 1
        · subst h0; rw [BitVec.getLsbD_and, hx]; rfl
        · simp only [BitVec.getLsbD_and, if_true, e2]; simp [h0]
    rw [h1]
    split
    · exact Or.inr rfl
    · exact Or.inl rfl
  constructor
  · intro h1 h2
    rw [h1] at h2
    exact absurd h2 (by decide)
  · intro h1
    rcases hb h.toBitVec with q | q
    · exact absurd (Int32.toBitVec_inj.mp (show (h &&& 2).toBitVec = (0 : Int32).toBitVec from q)) h1
    · exact Int32.toBitVec_inj.mp (show (h &&& 2).toBitVec = (2 : Int32).toBitVec from q)
noncomputable def ym_xj (c : Prop) (v w : Int64) : Int64 := @ite Int64 c (Classical.propDecidable c) v w
theorem ym_xt {c : Prop} {v w : Int64} (h : c) : ym_xj c v w = v := by simp [ym_xj, h]
theorem ym_xf {c : Prop} {v w : Int64} (h : ¬ c) : ym_xj c v w = w := by simp [ym_xj, h]
def ym_s (g : Nat → Int64) : Nat → Int64
  | 0 => 0
  | n + 1 => ym_s g n + g n
def ym_e (x : Int64) (g : Nat → Int64) : Nat → Int64
  | 0 => x
  | n + 1 => ym_e x g n - g n
theorem ym_s1 (g : Nat → Int64) (n : Nat) : ym_s g (n + 1) = ym_s g n + g n := rfl
theorem ym_e1 (x : Int64) (g : Nat → Int64) (n : Nat) : ym_e x g (n + 1) = ym_e x g n - g n := rfl
noncomputable def ym_r1 (M : xm_M) (p : Int32) (y : Nat) : Int64 := ym_s (fun i => ym_xj (M 4 p.toNatClampNeg ≤ nI (y * 365 + i)) (2 * (M 5 p.toNatClampNeg).toInt64) 0) 365
noncomputable def ym_rs (M : xm_M) (p y : Int32) : Int64 := ym_e (ym_r1 M p y.toNatClampNeg) (fun i => ym_xj (M 12 i = p ∧ M 13 i = 0 ∧ ¬ M 17 i = 3 ∧ M 14 i / 365 = y) ((xd_hd (M 1) (M 14 i) (M 15 i) (M 16 i)).toInt64 * 365 * (M 6 p.toNatClampNeg).toInt64) 0) (M 0 16).toNatClampNeg
noncomputable def ym_old (M : xm_M) (p : Int32) : Int64 := ym_xj ((M 0 11).toInt64 * (730 * M 6 p.toNatClampNeg).toInt64 < ym_rs M p 0) ((M 0 11).toInt64 * (730 * M 6 p.toNatClampNeg).toInt64) (ym_rs M p 0)
noncomputable def ym_ro (M : xm_M) (p y : Int32) : Int64 := ym_xj (y = 0) (ym_rs M p y) (ym_xj (0 < ym_old M p) (ym_rs M p y + ym_old M p) (ym_rs M p y))
def ym_en (M : xm_M) (p : Int32) : Prop := 0 ≤ ym_ro M p 0 ∧ 0 ≤ ym_ro M p 1
def ym_hf (d f t h : Int32) : Prop := (d = f ∧ ¬ h &&& 1 = 0) ∨ (d = t ∧ ¬ h &&& 2 = 0)
def ym_wk (fr : Nat → Int32) (d : Int32) : Prop := d - d / 7 * 7 < 5 ∧ fr d.toNatClampNeg = 0
def ym_abi (M : xm_M) (p d : Int32) (i : Nat) : Prop := M 12 i = p ∧ M 17 i = 2 ∧ M 14 i ≤ d ∧ d ≤ M 15 i ∧ ¬ ym_hf d (M 14 i) (M 15 i) (M 16 i)
def ym_abs (M : xm_M) (p d : Int32) : Prop := ∃ i, i < (M 0 16).toNatClampNeg ∧ ym_abi M p d i
def ym_coi (M : xm_M) (c p d : Int32) (i : Nat) : Prop := M 22 i = c ∧ M 23 i = d ∧ M 24 i = 1 ∧ M 25 i = p
def ym_com (M : xm_M) (c p d : Int32) : Prop := ∃ i, i < (M 0 28).toNatClampNeg ∧ ym_coi M c p d i
def ym_pr (M : xm_M) (c p d : Int32) : Prop := (¬ M 11 (c * 20 + p).toNatClampNeg = 0 ∧ M 4 p.toNatClampNeg ≤ d ∧ ¬ ym_abs M p d) ∨ ym_com M c p d
noncomputable def ym_cnt (M : xm_M) (c d : Int32) : Int32 := xq_s (fun i => xi_b (ym_pr M c (nI i) d)) (M 0 3).toNatClampNeg
def ym_csi (M : xm_M) (p d : Int32) (c : Nat) : Prop := ym_pr M (nI c) p d ∧ ¬ ym_com M (nI c) p d ∧ ym_cnt M (nI c) d - 1 < M 10 c
noncomputable def ym_cs (M : xm_M) (p d : Int32) : Int32 := xq_f (ym_csi M p d) (M 0 12).toNatClampNeg
def ym_dy (M : xm_M) (f t h p : Int32) (a k : Nat) : Prop := ym_wk (M 1) (nI (a + k)) ∧ ¬ ym_hf (nI (a + k)) f t h ∧ ¬ ym_cs M p (nI (a + k)) = -1
noncomputable def ym_fd (M : xm_M) (f t h p : Int32) : Int32 := xq_f (ym_dy M f t h p f.toNatClampNeg) (t.toNatClampNeg + 1 - f.toNatClampNeg)
noncomputable def ym_sh (M : xm_M) (f t h p : Int32) : Int32 := xi_x (ym_fd M f t h p = -1) (-1) (100 * (f + ym_fd M f t h p) + ym_cs M p (f + ym_fd M f t h p))
def ym_ski (M : xm_M) (p w d : Int32) (s : Nat) : Prop := w >>> (nI s &&& 31) &&& 1 = 1 ∧ (M 2 p.toNatClampNeg >>> (nI s &&& 31) &&& 1 = 0 ∨ d < M 8 (8 * p + nI s).toNatClampNeg)
def ym_sk (M : xm_M) (p w d : Int32) : Prop := ∀ s, s < 8 → ¬ ym_ski M p w d s
def ym_fri (M : xm_M) (p k : Int32) (i : Nat) : Prop := ¬ nI i = k ∧ M 23 i = M 23 k.toNatClampNeg ∧ ¬ M 24 i = 2 ∧ M 25 i = p
def ym_fr (M : xm_M) (p k : Int32) : Prop := ∀ i, i < (M 0 28).toNatClampNeg → ¬ ym_fri M p k i
def ym_ok (M : xm_M) (k : Int32) (n : Nat) : Prop := M 4 n ≤ M 23 k.toNatClampNeg ∧ M 11 (M 22 k.toNatClampNeg * 20 + nI n).toNatClampNeg = 0 ∧ ¬ ym_abs M (nI n) (M 23 k.toNatClampNeg) ∧ ym_sk M (nI n) (M 9 (M 22 k.toNatClampNeg).toNatClampNeg) (M 23 k.toNatClampNeg) ∧ M 28 (k * 20 + nI n).toNatClampNeg = 0 ∧ ym_fr M (nI n) k
def ym_bt (M : xm_M) (n : Nat) (b : Int32) : Prop := b < 0 ∨ M 3 b.toNatClampNeg < M 3 n ∨ (M 3 n = M 3 b.toNatClampNeg ∧ M 7 n < M 7 b.toNatClampNeg)
noncomputable def ym_b (M : xm_M) (k : Int32) : Nat → Int32
  | 0 => -1
  | n + 1 => xi_x (ym_ok M k n ∧ ym_bt M n (ym_b M k n)) (nI n) (ym_b M k n)
theorem ym_b1 (M : xm_M) (k : Int32) (n : Nat) : ym_b M k (n + 1) = xi_x (ym_ok M k n ∧ ym_bt M n (ym_b M k n)) (nI n) (ym_b M k n) := rfl
theorem ym_b_in (M : xm_M) (k : Int32) : ∀ n, ym_b M k n = -1 ∨ ∃ m, m < n ∧ ym_b M k n = nI m
  | 0 => Or.inl rfl
  | n + 1 => by
    rw [ym_b1]
    by_cases h : ym_ok M k n ∧ ym_bt M n (ym_b M k n)
    · rw [xi_xt h]; exact Or.inr ⟨n, by omega, rfl⟩
    · rw [xi_xf h]
      rcases ym_b_in M k n with q | ⟨m, q1, q2⟩
      · exact Or.inl q
      · exact Or.inr ⟨m, by omega, q2⟩
def xv_B (M : xm_M) : Prop := ∃ c, c ≤ 81 ∧ M 0 16 = nI c ∧ ∀ i, i < c → xv_span (M 14 i) (M 15 i)
theorem xv_B.n {M : xm_M} (h : xv_B M) : ∃ c, c ≤ 81 ∧ M 0 16 = nI c := by
  obtain ⟨c, h1, h2, -⟩ := h
  exact ⟨c, h1, h2⟩
theorem yl_20 {c p : Int32} {N : Nat} (hc : vp_in c N) (hp : vp_in p 20) (hN : N ≤ 60) : vp_in (c * 20 + p) (N * 20) := by
  obtain ⟨i, hi, rfl⟩ := vp_in_of hc (by omega)
  obtain ⟨j, hj, rfl⟩ := vp_in_of hp (by decide)
  have e1 : nI i * 20 = nI (i * 20) := pk_mul i 20
  rw [e1, nI_add]
  exact vp_in_nI (by omega) (by omega)
theorem yl_8 {p s : Int32} (hp : vp_in p 20) (hs : vp_in s 8) : vp_in (8 * p + s) 160 := by
  rw [Int32.mul_comm]; exact xl_b8 hp hs
theorem yl_y {y : Int32} (h : y = 0 ∨ y = 1) : ∃ n, n < 2 ∧ y = nI n := by
  rcases h with rfl | rfl
  · exact ⟨0, by decide, rfl⟩
  · exact ⟨1, by decide, rfl⟩
def pM_thrown (as : List Value) (M : xm_M) : Prop := as = [.ref 0]
noncomputable def fM_thrown (as : List Value) (M : xm_M) : Option Value × xm_M := match as with
  | [_] => (some (.int (M 0 0)), M)
  | _ => (none, M)
noncomputable abbrev sM_thrown : xm_C := (0, 1, 0, pM_thrown, fM_thrown)
theorem uM_thrown : ∀ as M, (fM_thrown as M).2 = M := by
  intro as M
  unfold fM_thrown
  split <;> rfl
theorem vM_thrown : ∀ as M, pM_thrown as M → ∃ as1, as = .ref 0 :: as1 := by
  rintro as M rfl
  exact ⟨_, rfl⟩
noncomputable def tM_thrown : List (Nat × xm_C) := []
theorem lM_thrown (l : Launch) : ∀ n C, (n, C) ∈ tM_thrown → xm_lkS l "AbsenceRowsModel" xt_T xk_ns (xr_ 0) xk_cl xk_tM n C ∨ xm_lkV l "AbsenceRowsModel" xt_T xk_ns (xr_ 0) xk_cl xk_tM n C := fun n C h => (show ∀ q ∈ tM_thrown, xm_lkS l "AbsenceRowsModel" xt_T xk_ns (xr_ 0) xk_cl xk_tM q.1 q.2 ∨ xm_lkV l "AbsenceRowsModel" xt_T xk_ns (xr_ 0) xk_cl xk_tM q.1 q.2 from fun _ h => absurd h List.not_mem_nil) (n, C) h
set_option maxRecDepth 20000 in
set_option maxHeartbeats 2000000 in
theorem cM_thrown (l : Launch) : xm_Pu l xy_M_thrown (Cond.code xy_M_thrown xb_M_thrown 1 (some .int) :: xt_T) (xr_ 0) xk_cl xk_ns xk_tM pM_thrown fM_thrown := by
  refine xm_mk_pu (rt := .int) (fl := xf_M) (ct := tM_thrown) (cn := []) (cj := xj_M) (plainFor_of_name (by decide)) xs_M xd_M_thrown rfl (Or.inr rfl) (lM_thrown l) (fun _ _ _ _ _ _ _ _ => False) ?_ ?_ ?_ (fun _ _ _ _ _ _ _ _ _ h => h.elim) ?_
  · rintro as M rfl; exact Nat.le_of_ble_eq_true rfl
  · rintro as M rfl; simp [fM_thrown]
  · rintro as M v rfl h; first | rfl | (simp [fM_thrown] at h)
  · rintro as M rfl
    refine ⟨400, (And.intro rfl (And.intro ?g1_w_4 ?g2_r_4))⟩
    case g1_w_4 =>
      first | rfl | exact xi_nb
    case g2_r_4 =>
      exact ⟨rfl, rfl⟩
def pM_in (as : List Value) (M : xm_M) : Prop := ∃ x lo hi : Int32, as = [.int x, .int lo, .int hi]
noncomputable def fM_in (as : List Value) (M : xm_M) : Option Value × xm_M := match as with
  | [.int x, .int lo, .int hi] => (some (.int (xi_b (lo ≤ x ∧ x ≤ hi))), M)
  | _ => (none, M)
noncomputable abbrev sM_in : xm_C := (1, 3, 0, pM_in, fM_in)
theorem uM_in : ∀ as M, (fM_in as M).2 = M := by
  intro as M
  unfold fM_in
  split <;> rfl
noncomputable def tM_in : List (Nat × xm_C) := []
theorem lM_in (l : Launch) : ∀ n C, (n, C) ∈ tM_in → xm_lkS l "AbsenceRowsModel" xt_T xk_ns (xr_ 0) xk_cl xk_tM n C ∨ xm_lkV l "AbsenceRowsModel" xt_T xk_ns (xr_ 0) xk_cl xk_tM n C := fun n C h => (show ∀ q ∈ tM_in, xm_lkS l "AbsenceRowsModel" xt_T xk_ns (xr_ 0) xk_cl xk_tM q.1 q.2 ∨ xm_lkV l "AbsenceRowsModel" xt_T xk_ns (xr_ 0) xk_cl xk_tM q.1 q.2 from fun _ h => absurd h List.not_mem_nil) (n, C) h
set_option maxRecDepth 20000 in
set_option maxHeartbeats 2000000 in
theorem cM_in (l : Launch) : xm_Pu l xy_M_in (Cond.code xy_M_in xb_M_in 3 (some .boolean) :: xt_T) (xr_ 0) xk_cl xk_ns xk_tM pM_in fM_in := by
  refine xm_mk_pu (rt := .boolean) (fl := xf_M) (ct := tM_in) (cn := []) (cj := xj_M) (plainFor_of_name (by decide)) xs_M xd_M_in rfl (Or.inr rfl) (lM_in l) (fun _ _ _ _ _ _ _ _ => False) ?_ ?_ ?_ (fun _ _ _ _ _ _ _ _ _ h => h.elim) ?_
  · rintro as M ⟨x, lo, hi, rfl⟩; exact Nat.le_of_ble_eq_true rfl
  · rintro as M ⟨x, lo, hi, rfl⟩; simp [fM_in]
  · rintro as M v ⟨x, lo, hi, rfl⟩ h; first | rfl | (simp [fM_in] at h)
  · rintro as M ⟨x, lo, hi, rfl⟩
    refine ⟨400, (And.intro (by decide) (And.intro (fun h2 => (And.intro ?g1_w_15 ?g2_r_15)) (fun h2 => (And.intro (by decide) (And.intro (fun h7 => (And.intro ?g3_w_15 ?g4_r_15)) (fun h7 => (And.intro (by decide) (And.intro ?g5_w_15 ?g6_r_15))))))))⟩
    case g1_w_15 =>
      first | rfl | exact xi_nb
    case g2_r_15 =>
      refine ⟨congrArg (fun z => some (Value.int z)) ?_, rfl⟩
      try simp only [xi_0, xi_n0] at *
      first | exact (xi_t (by grind [Int32.not_lt, Int32.not_le])).symm | exact (xi_f (by grind [Int32.not_lt, Int32.not_le])).symm
    case g3_w_15 =>
      first | rfl | exact xi_nb
    case g4_r_15 =>
      refine ⟨congrArg (fun z => some (Value.int z)) ?_, rfl⟩
      try simp only [xi_0, xi_n0] at *
      first | exact (xi_t (by grind [Int32.not_lt, Int32.not_le])).symm | exact (xi_f (by grind [Int32.not_lt, Int32.not_le])).symm
    case g5_w_15 =>
      first | rfl | exact xi_nb
    case g6_r_15 =>
      refine ⟨congrArg (fun z => some (Value.int z)) ?_, rfl⟩
      try simp only [xi_0, xi_n0] at *
      first | exact (xi_t (by grind [Int32.not_lt, Int32.not_le])).symm | exact (xi_f (by grind [Int32.not_lt, Int32.not_le])).symm
def pM_isDay (as : List Value) (M : xm_M) : Prop := ∃ d : Int32, as = [.int d]
noncomputable def fM_isDay (as : List Value) (M : xm_M) : Option Value × xm_M := match as with
  | [.int d] => (some (.int (xi_b (0 ≤ d ∧ d ≤ 729))), M)
  | _ => (none, M)
noncomputable abbrev sM_isDay : xm_C := (1, 1, 0, pM_isDay, fM_isDay)
theorem uM_isDay : ∀ as M, (fM_isDay as M).2 = M := by
  intro as M
  unfold fM_isDay
  split <;> rfl
noncomputable def tM_isDay : List (Nat × xm_C) := [(102, sM_in)]
theorem lM_isDay (l : Launch) : ∀ n C, (n, C) ∈ tM_isDay → xm_lkS l "AbsenceRowsModel" xt_T xk_ns (xr_ 1) xk_cl xk_tM n C ∨ xm_lkV l "AbsenceRowsModel" xt_T xk_ns (xr_ 1) xk_cl xk_tM n C := fun n C h => (show ∀ q ∈ tM_isDay, xm_lkS l "AbsenceRowsModel" xt_T xk_ns (xr_ 1) xk_cl xk_tM q.1 q.2 ∨ xm_lkV l "AbsenceRowsModel" xt_T xk_ns (xr_ 1) xk_cl xk_tM q.1 q.2 from List.forall_mem_cons.mpr ⟨Or.inl ⟨xy_M_in, xb_M_in, 3, (some .boolean), xr_ 0, rfl, ⟨xe_M_in, xw_44, ⟨by decide, by decide, by decide +kernel⟩, ⟨Nat.le_of_ble_eq_true rfl, Nat.le_of_ble_eq_true rfl⟩, rfl, rfl⟩, xw_927, Or.inl xw_926, Or.inl ⟨rfl, uM_in, cM_in l⟩⟩, fun _ h => absurd h List.not_mem_nil⟩) (n, C) h
set_option maxRecDepth 20000 in
set_option maxHeartbeats 2000000 in
theorem cM_isDay (l : Launch) : xm_Pu l xy_M_isDay (Cond.code xy_M_isDay xb_M_isDay 1 (some .boolean) :: xt_T) (xr_ 1) xk_cl xk_ns xk_tM pM_isDay fM_isDay := by
  refine xm_mk_pu (rt := .boolean) (fl := xf_M) (ct := tM_isDay) (cn := []) (cj := xj_M) (plainFor_of_name (by decide)) xs_M xd_M_isDay rfl (Or.inr rfl) (lM_isDay l) (fun _ _ _ _ _ _ _ _ => False) ?_ ?_ ?_ (fun _ _ _ _ _ _ _ _ _ h => h.elim) ?_
  · rintro as M ⟨d, rfl⟩; exact Nat.le_of_ble_eq_true rfl
  · rintro as M ⟨d, rfl⟩; simp [fM_isDay]
  · rintro as M v ⟨d, rfl⟩ h; first | rfl | (simp [fM_isDay] at h)
  · rintro as M ⟨d, rfl⟩
    refine ⟨400, (And.intro rfl (And.intro (Nat.le_of_ble_eq_true rfl) (And.intro (Nat.le_of_ble_eq_true rfl) (And.intro ?g1_c_5 (And.intro ?g2_w_8 ?g3_r_8)))))⟩
    case g1_c_5 =>
      exact ⟨_, _, _, rfl⟩
    case g2_w_8 =>
      first | rfl | exact xi_nb
    case g3_r_8 =>
      exact ⟨rfl, rfl⟩
def pM_isPerson (as : List Value) (M : xm_M) : Prop := ∃ x : Int32, as = [.ref 0, .int x]
noncomputable def fM_isPerson (as : List Value) (M : xm_M) : Option Value × xm_M := match as with
  | [_, .int x] => (some (.int (xi_b (0 ≤ x ∧ x ≤ M 0 3 - 1))), M)
  | _ => (none, M)
noncomputable abbrev sM_isPerson : xm_C := (0, 2, 0, pM_isPerson, fM_isPerson)
theorem uM_isPerson : ∀ as M, (fM_isPerson as M).2 = M := by
  intro as M
  unfold fM_isPerson
  split <;> rfl
theorem vM_isPerson : ∀ as M, pM_isPerson as M → ∃ as1, as = .ref 0 :: as1 := by
  rintro as M ⟨x, rfl⟩
  exact ⟨_, rfl⟩
noncomputable def tM_isPerson : List (Nat × xm_C) := [(102, sM_in)]
theorem lM_isPerson (l : Launch) : ∀ n C, (n, C) ∈ tM_isPerson → xm_lkS l "AbsenceRowsModel" xt_T xk_ns (xr_ 1) xk_cl xk_tM n C ∨ xm_lkV l "AbsenceRowsModel" xt_T xk_ns (xr_ 1) xk_cl xk_tM n C := fun n C h => (show ∀ q ∈ tM_isPerson, xm_lkS l "AbsenceRowsModel" xt_T xk_ns (xr_ 1) xk_cl xk_tM q.1 q.2 ∨ xm_lkV l "AbsenceRowsModel" xt_T xk_ns (xr_ 1) xk_cl xk_tM q.1 q.2 from List.forall_mem_cons.mpr ⟨Or.inl ⟨xy_M_in, xb_M_in, 3, (some .boolean), xr_ 0, rfl, ⟨xe_M_in, xw_44, ⟨by decide, by decide, by decide +kernel⟩, ⟨Nat.le_of_ble_eq_true rfl, Nat.le_of_ble_eq_true rfl⟩, rfl, rfl⟩, xw_927, Or.inl xw_926, Or.inl ⟨rfl, uM_in, cM_in l⟩⟩, fun _ h => absurd h List.not_mem_nil⟩) (n, C) h
set_option maxRecDepth 20000 in
set_option maxHeartbeats 2000000 in
theorem cM_isPerson (l : Launch) : xm_Pu l xy_M_isPerson (Cond.code xy_M_isPerson xb_M_isPerson 2 (some .boolean) :: xt_T) (xr_ 1) xk_cl xk_ns xk_tM pM_isPerson fM_isPerson := by
  refine xm_mk_pu (rt := .boolean) (fl := xf_M) (ct := tM_isPerson) (cn := []) (cj := xj_M) (plainFor_of_name (by decide)) xs_M xd_M_isPerson rfl (Or.inr rfl) (lM_isPerson l) (fun _ _ _ _ _ _ _ _ => False) ?_ ?_ ?_ (fun _ _ _ _ _ _ _ _ _ h => h.elim) ?_
  · rintro as M ⟨x, rfl⟩; exact Nat.le_of_ble_eq_true rfl
  · rintro as M ⟨x, rfl⟩; simp [fM_isPerson]
  · rintro as M v ⟨x, rfl⟩ h; first | rfl | (simp [fM_isPerson] at h)
  · rintro as M ⟨x, rfl⟩
    refine ⟨400, (And.intro rfl (And.intro rfl (And.intro (Nat.le_of_ble_eq_true rfl) (And.intro (Nat.le_of_ble_eq_true rfl) (And.intro ?g1_c_8 (And.intro ?g2_w_11 ?g3_r_11))))))⟩
    case g1_c_8 =>
      exact ⟨_, _, _, rfl⟩
    case g2_w_11 =>
      first | rfl | exact xi_nb
    case g3_r_11 =>
      exact ⟨rfl, rfl⟩
def pM_isCrew (as : List Value) (M : xm_M) : Prop := ∃ x : Int32, as = [.ref 0, .int x]
noncomputable def fM_isCrew (as : List Value) (M : xm_M) : Option Value × xm_M := match as with
  | [_, .int x] => (some (.int (xi_b (0 ≤ x ∧ x ≤ M 0 12 - 1))), M)
  | _ => (none, M)
noncomputable abbrev sM_isCrew : xm_C := (0, 2, 0, pM_isCrew, fM_isCrew)
theorem uM_isCrew : ∀ as M, (fM_isCrew as M).2 = M := by
  intro as M
  unfold fM_isCrew
  split <;> rfl
theorem vM_isCrew : ∀ as M, pM_isCrew as M → ∃ as1, as = .ref 0 :: as1 := by
  rintro as M ⟨x, rfl⟩
  exact ⟨_, rfl⟩
noncomputable def tM_isCrew : List (Nat × xm_C) := [(102, sM_in)]
theorem lM_isCrew (l : Launch) : ∀ n C, (n, C) ∈ tM_isCrew → xm_lkS l "AbsenceRowsModel" xt_T xk_ns (xr_ 1) xk_cl xk_tM n C ∨ xm_lkV l "AbsenceRowsModel" xt_T xk_ns (xr_ 1) xk_cl xk_tM n C := fun n C h => (show ∀ q ∈ tM_isCrew, xm_lkS l "AbsenceRowsModel" xt_T xk_ns (xr_ 1) xk_cl xk_tM q.1 q.2 ∨ xm_lkV l "AbsenceRowsModel" xt_T xk_ns (xr_ 1) xk_cl xk_tM q.1 q.2 from List.forall_mem_cons.mpr ⟨Or.inl ⟨xy_M_in, xb_M_in, 3, (some .boolean), xr_ 0, rfl, ⟨xe_M_in, xw_44, ⟨by decide, by decide, by decide +kernel⟩, ⟨Nat.le_of_ble_eq_true rfl, Nat.le_of_ble_eq_true rfl⟩, rfl, rfl⟩, xw_927, Or.inl xw_926, Or.inl ⟨rfl, uM_in, cM_in l⟩⟩, fun _ h => absurd h List.not_mem_nil⟩) (n, C) h
set_option maxRecDepth 20000 in
set_option maxHeartbeats 2000000 in
theorem cM_isCrew (l : Launch) : xm_Pu l xy_M_isCrew (Cond.code xy_M_isCrew xb_M_isCrew 2 (some .boolean) :: xt_T) (xr_ 1) xk_cl xk_ns xk_tM pM_isCrew fM_isCrew := by
  refine xm_mk_pu (rt := .boolean) (fl := xf_M) (ct := tM_isCrew) (cn := []) (cj := xj_M) (plainFor_of_name (by decide)) xs_M xd_M_isCrew rfl (Or.inr rfl) (lM_isCrew l) (fun _ _ _ _ _ _ _ _ => False) ?_ ?_ ?_ (fun _ _ _ _ _ _ _ _ _ h => h.elim) ?_
  · rintro as M ⟨x, rfl⟩; exact Nat.le_of_ble_eq_true rfl
  · rintro as M ⟨x, rfl⟩; simp [fM_isCrew]
  · rintro as M v ⟨x, rfl⟩ h; first | rfl | (simp [fM_isCrew] at h)
  · rintro as M ⟨x, rfl⟩
    refine ⟨400, (And.intro rfl (And.intro rfl (And.intro (Nat.le_of_ble_eq_true rfl) (And.intro (Nat.le_of_ble_eq_true rfl) (And.intro ?g1_c_8 (And.intro ?g2_w_11 ?g3_r_11))))))⟩
    case g1_c_8 =>
      exact ⟨_, _, _, rfl⟩
    case g2_w_11 =>
      first | rfl | exact xi_nb
    case g3_r_11 =>
      exact ⟨rfl, rfl⟩
def pM_isAsk (as : List Value) (M : xm_M) : Prop := ∃ x : Int32, as = [.ref 0, .int x]
noncomputable def fM_isAsk (as : List Value) (M : xm_M) : Option Value × xm_M := match as with
  | [_, .int x] => (some (.int (xi_b (0 ≤ x ∧ x ≤ M 0 16 - 1))), M)
  | _ => (none, M)
noncomputable abbrev sM_isAsk : xm_C := (0, 2, 0, pM_isAsk, fM_isAsk)
theorem uM_isAsk : ∀ as M, (fM_isAsk as M).2 = M := by
  intro as M
  unfold fM_isAsk
  split <;> rfl
theorem vM_isAsk : ∀ as M, pM_isAsk as M → ∃ as1, as = .ref 0 :: as1 := by
  rintro as M ⟨x, rfl⟩
  exact ⟨_, rfl⟩
noncomputable def tM_isAsk : List (Nat × xm_C) := [(102, sM_in)]
theorem lM_isAsk (l : Launch) : ∀ n C, (n, C) ∈ tM_isAsk → xm_lkS l "AbsenceRowsModel" xt_T xk_ns (xr_ 1) xk_cl xk_tM n C ∨ xm_lkV l "AbsenceRowsModel" xt_T xk_ns (xr_ 1) xk_cl xk_tM n C := fun n C h => (show ∀ q ∈ tM_isAsk, xm_lkS l "AbsenceRowsModel" xt_T xk_ns (xr_ 1) xk_cl xk_tM q.1 q.2 ∨ xm_lkV l "AbsenceRowsModel" xt_T xk_ns (xr_ 1) xk_cl xk_tM q.1 q.2 from List.forall_mem_cons.mpr ⟨Or.inl ⟨xy_M_in, xb_M_in, 3, (some .boolean), xr_ 0, rfl, ⟨xe_M_in, xw_44, ⟨by decide, by decide, by decide +kernel⟩, ⟨Nat.le_of_ble_eq_true rfl, Nat.le_of_ble_eq_true rfl⟩, rfl, rfl⟩, xw_927, Or.inl xw_926, Or.inl ⟨rfl, uM_in, cM_in l⟩⟩, fun _ h => absurd h List.not_mem_nil⟩) (n, C) h
set_option maxRecDepth 20000 in
set_option maxHeartbeats 2000000 in
theorem cM_isAsk (l : Launch) : xm_Pu l xy_M_isAsk (Cond.code xy_M_isAsk xb_M_isAsk 2 (some .boolean) :: xt_T) (xr_ 1) xk_cl xk_ns xk_tM pM_isAsk fM_isAsk := by
  refine xm_mk_pu (rt := .boolean) (fl := xf_M) (ct := tM_isAsk) (cn := []) (cj := xj_M) (plainFor_of_name (by decide)) xs_M xd_M_isAsk rfl (Or.inr rfl) (lM_isAsk l) (fun _ _ _ _ _ _ _ _ => False) ?_ ?_ ?_ (fun _ _ _ _ _ _ _ _ _ h => h.elim) ?_
  · rintro as M ⟨x, rfl⟩; exact Nat.le_of_ble_eq_true rfl
  · rintro as M ⟨x, rfl⟩; simp [fM_isAsk]
  · rintro as M v ⟨x, rfl⟩ h; first | rfl | (simp [fM_isAsk] at h)
  · rintro as M ⟨x, rfl⟩
    refine ⟨400, (And.intro rfl (And.intro rfl (And.intro (Nat.le_of_ble_eq_true rfl) (And.intro (Nat.le_of_ble_eq_true rfl) (And.intro ?g1_c_8 (And.intro ?g2_w_11 ?g3_r_11))))))⟩
    case g1_c_8 =>
      exact ⟨_, _, _, rfl⟩
    case g2_w_11 =>
      first | rfl | exact xi_nb
    case g3_r_11 =>
      exact ⟨rfl, rfl⟩
def pM_isCall (as : List Value) (M : xm_M) : Prop := ∃ x : Int32, as = [.ref 0, .int x]
noncomputable def fM_isCall (as : List Value) (M : xm_M) : Option Value × xm_M := match as with
  | [_, .int x] => (some (.int (xi_b (0 ≤ x ∧ x ≤ M 0 28 - 1))), M)
  | _ => (none, M)
noncomputable abbrev sM_isCall : xm_C := (0, 2, 0, pM_isCall, fM_isCall)
theorem uM_isCall : ∀ as M, (fM_isCall as M).2 = M := by
  intro as M
  unfold fM_isCall
  split <;> rfl
theorem vM_isCall : ∀ as M, pM_isCall as M → ∃ as1, as = .ref 0 :: as1 := by
  rintro as M ⟨x, rfl⟩
  exact ⟨_, rfl⟩
noncomputable def tM_isCall : List (Nat × xm_C) := [(102, sM_in)]
theorem lM_isCall (l : Launch) : ∀ n C, (n, C) ∈ tM_isCall → xm_lkS l "AbsenceRowsModel" xt_T xk_ns (xr_ 1) xk_cl xk_tM n C ∨ xm_lkV l "AbsenceRowsModel" xt_T xk_ns (xr_ 1) xk_cl xk_tM n C := fun n C h => (show ∀ q ∈ tM_isCall, xm_lkS l "AbsenceRowsModel" xt_T xk_ns (xr_ 1) xk_cl xk_tM q.1 q.2 ∨ xm_lkV l "AbsenceRowsModel" xt_T xk_ns (xr_ 1) xk_cl xk_tM q.1 q.2 from List.forall_mem_cons.mpr ⟨Or.inl ⟨xy_M_in, xb_M_in, 3, (some .boolean), xr_ 0, rfl, ⟨xe_M_in, xw_44, ⟨by decide, by decide, by decide +kernel⟩, ⟨Nat.le_of_ble_eq_true rfl, Nat.le_of_ble_eq_true rfl⟩, rfl, rfl⟩, xw_927, Or.inl xw_926, Or.inl ⟨rfl, uM_in, cM_in l⟩⟩, fun _ h => absurd h List.not_mem_nil⟩) (n, C) h
set_option maxRecDepth 20000 in
set_option maxHeartbeats 2000000 in
theorem cM_isCall (l : Launch) : xm_Pu l xy_M_isCall (Cond.code xy_M_isCall xb_M_isCall 2 (some .boolean) :: xt_T) (xr_ 1) xk_cl xk_ns xk_tM pM_isCall fM_isCall := by
  refine xm_mk_pu (rt := .boolean) (fl := xf_M) (ct := tM_isCall) (cn := []) (cj := xj_M) (plainFor_of_name (by decide)) xs_M xd_M_isCall rfl (Or.inr rfl) (lM_isCall l) (fun _ _ _ _ _ _ _ _ => False) ?_ ?_ ?_ (fun _ _ _ _ _ _ _ _ _ h => h.elim) ?_
  · rintro as M ⟨x, rfl⟩; exact Nat.le_of_ble_eq_true rfl
  · rintro as M ⟨x, rfl⟩; simp [fM_isCall]
  · rintro as M v ⟨x, rfl⟩ h; first | rfl | (simp [fM_isCall] at h)
  · rintro as M ⟨x, rfl⟩
    refine ⟨400, (And.intro rfl (And.intro rfl (And.intro (Nat.le_of_ble_eq_true rfl) (And.intro (Nat.le_of_ble_eq_true rfl) (And.intro ?g1_c_8 (And.intro ?g2_w_11 ?g3_r_11))))))⟩
    case g1_c_8 =>
      exact ⟨_, _, _, rfl⟩
    case g2_w_11 =>
      first | rfl | exact xi_nb
    case g3_r_11 =>
      exact ⟨rfl, rfl⟩
def pM_isWork (as : List Value) (M : xm_M) : Prop := ∃ d : Int32, as = [.ref 0, .int d] ∧ vp_in d 730
noncomputable def fM_isWork (as : List Value) (M : xm_M) : Option Value × xm_M := match as with
  | [_, .int d] => (some (.int (xi_b (ym_wk (M 1) d))), M)
  | _ => (none, M)
noncomputable abbrev sM_isWork : xm_C := (0, 2, 0, pM_isWork, fM_isWork)
theorem uM_isWork : ∀ as M, (fM_isWork as M).2 = M := by
  intro as M
  unfold fM_isWork
  split <;> rfl
theorem vM_isWork : ∀ as M, pM_isWork as M → ∃ as1, as = .ref 0 :: as1 := by
  rintro as M ⟨d, rfl, hpre⟩
  exact ⟨_, rfl⟩
noncomputable def tM_isWork : List (Nat × xm_C) := []
theorem lM_isWork (l : Launch) : ∀ n C, (n, C) ∈ tM_isWork → xm_lkS l "AbsenceRowsModel" xt_T xk_ns (xr_ 0) xk_cl xk_tM n C ∨ xm_lkV l "AbsenceRowsModel" xt_T xk_ns (xr_ 0) xk_cl xk_tM n C := fun n C h => (show ∀ q ∈ tM_isWork, xm_lkS l "AbsenceRowsModel" xt_T xk_ns (xr_ 0) xk_cl xk_tM q.1 q.2 ∨ xm_lkV l "AbsenceRowsModel" xt_T xk_ns (xr_ 0) xk_cl xk_tM q.1 q.2 from fun _ h => absurd h List.not_mem_nil) (n, C) h
set_option maxRecDepth 20000 in
set_option maxHeartbeats 2000000 in
theorem cM_isWork (l : Launch) : xm_Pu l xy_M_isWork (Cond.code xy_M_isWork xb_M_isWork 2 (some .boolean) :: xt_T) (xr_ 0) xk_cl xk_ns xk_tM pM_isWork fM_isWork := by
  refine xm_mk_pu (rt := .boolean) (fl := xf_M) (ct := tM_isWork) (cn := []) (cj := xj_M) (plainFor_of_name (by decide)) xs_M xd_M_isWork rfl (Or.inr rfl) (lM_isWork l) (fun _ _ _ _ _ _ _ _ => False) ?_ ?_ ?_ (fun _ _ _ _ _ _ _ _ _ h => h.elim) ?_
  · rintro as M ⟨d, rfl, hpre⟩; exact Nat.le_of_ble_eq_true rfl
  · rintro as M ⟨d, rfl, hpre⟩; simp [fM_isWork]
  · rintro as M v ⟨d, rfl, hpre⟩ h; first | rfl | (simp [fM_isWork] at h)
  · rintro as M ⟨d, rfl, hpre⟩
    refine ⟨400, (And.intro ?g1_n_3 (And.intro (by decide) (And.intro (fun h5 => (And.intro ?g2_w_22 ?g3_r_22)) (fun h5 => (And.intro rfl (And.intro rfl (And.intro ?g4_i_13 (And.intro (by decide) (And.intro (fun h14 => (And.intro ?g5_w_22 ?g6_r_22)) (fun h14 => (And.intro (by decide) (And.intro ?g7_w_22 ?g8_r_22))))))))))))⟩
    case g1_n_3 =>
      decide
    case g2_w_22 =>
      first | rfl | exact xi_nb
    case g3_r_22 =>
      refine ⟨congrArg (fun z => some (Value.int z)) ?_, rfl⟩
      first | exact (xi_t (by unfold ym_wk; grind [Int32.not_lt, Int32.not_le])).symm | exact (xi_f (by unfold ym_wk; grind [Int32.not_lt, Int32.not_le])).symm
    case g4_i_13 =>
      exact hpre
    case g5_w_22 =>
      first | rfl | exact xi_nb
    case g6_r_22 =>
      refine ⟨congrArg (fun z => some (Value.int z)) ?_, rfl⟩
      first | exact (xi_t (by unfold ym_wk; grind [Int32.not_lt, Int32.not_le])).symm | exact (xi_f (by unfold ym_wk; grind [Int32.not_lt, Int32.not_le])).symm
    case g7_w_22 =>
      first | rfl | exact xi_nb
    case g8_r_22 =>
      refine ⟨congrArg (fun z => some (Value.int z)) ?_, rfl⟩
      first | exact (xi_t (by unfold ym_wk; grind [Int32.not_lt, Int32.not_le])).symm | exact (xi_f (by unfold ym_wk; grind [Int32.not_lt, Int32.not_le])).symm
def pM_isHalf (as : List Value) (M : xm_M) : Prop := ∃ a d : Int32, as = [.ref 0, .int a, .int d] ∧ vp_in a 81
noncomputable def fM_isHalf (as : List Value) (M : xm_M) : Option Value × xm_M := match as with
  | [_, .int a, .int d] => (some (.int (xi_b (ym_hf d (M 14 a.toNatClampNeg) (M 15 a.toNatClampNeg) (M 16 a.toNatClampNeg)))), M)
  | _ => (none, M)
noncomputable abbrev sM_isHalf : xm_C := (0, 3, 0, pM_isHalf, fM_isHalf)
theorem uM_isHalf : ∀ as M, (fM_isHalf as M).2 = M := by
  intro as M
  unfold fM_isHalf
  split <;> rfl
theorem vM_isHalf : ∀ as M, pM_isHalf as M → ∃ as1, as = .ref 0 :: as1 := by
  rintro as M ⟨a, d, rfl, hpre⟩
  exact ⟨_, rfl⟩
noncomputable def tM_isHalf : List (Nat × xm_C) := []
theorem lM_isHalf (l : Launch) : ∀ n C, (n, C) ∈ tM_isHalf → xm_lkS l "AbsenceRowsModel" xt_T xk_ns (xr_ 0) xk_cl xk_tM n C ∨ xm_lkV l "AbsenceRowsModel" xt_T xk_ns (xr_ 0) xk_cl xk_tM n C := fun n C h => (show ∀ q ∈ tM_isHalf, xm_lkS l "AbsenceRowsModel" xt_T xk_ns (xr_ 0) xk_cl xk_tM q.1 q.2 ∨ xm_lkV l "AbsenceRowsModel" xt_T xk_ns (xr_ 0) xk_cl xk_tM q.1 q.2 from fun _ h => absurd h List.not_mem_nil) (n, C) h
set_option maxRecDepth 20000 in
set_option maxHeartbeats 2000000 in
theorem cM_isHalf (l : Launch) : xm_Pu l xy_M_isHalf (Cond.code xy_M_isHalf xb_M_isHalf 3 (some .boolean) :: xt_T) (xr_ 0) xk_cl xk_ns xk_tM pM_isHalf fM_isHalf := by
  refine xm_mk_pu (rt := .boolean) (fl := xf_M) (ct := tM_isHalf) (cn := []) (cj := xj_M) (plainFor_of_name (by decide)) xs_M xd_M_isHalf rfl (Or.inr rfl) (lM_isHalf l) (fun _ _ _ _ _ _ _ _ => False) ?_ ?_ ?_ (fun _ _ _ _ _ _ _ _ _ h => h.elim) ?_
  · rintro as M ⟨a, d, rfl, hpre⟩; exact Nat.le_of_ble_eq_true rfl
  · rintro as M ⟨a, d, rfl, hpre⟩; simp [fM_isHalf]
  · rintro as M v ⟨a, d, rfl, hpre⟩ h; first | rfl | (simp [fM_isHalf] at h)
  · rintro as M ⟨a, d, rfl, hpre⟩
    refine ⟨400, (And.intro rfl (And.intro rfl (And.intro ?g1_i_5 (And.intro (by decide) (And.intro (fun h9 => (And.intro rfl (And.intro rfl (And.intro ?g2_i_27 (And.intro (by decide) (And.intro (fun h31 => (And.intro ?g3_w_49 ?g4_r_49)) (fun h31 => (And.intro rfl (And.intro rfl (And.intro ?g5_i_40 (And.intro (by decide) (And.intro (fun h41 => (And.intro ?g6_w_49 ?g7_r_49)) (fun h41 => (And.intro (by decide) (And.intro ?g8_w_49 ?g9_r_49))))))))))))))) (fun h9 => (And.intro rfl (And.intro rfl (And.intro ?g10_i_18 (And.intro (by decide) (And.intro (fun h19 => (And.intro (by decide) (And.intro ?g11_w_49 ?g12_r_49))) (fun h19 => (And.intro rfl (And.intro rfl (And.intro ?g13_i_27 (And.intro (by decide) (And.intro (fun h31 => (And.intro ?g14_w_49 ?g15_r_49)) (fun h31 => (And.intro rfl (And.intro rfl (And.intro ?g16_i_40 (And.intro (by decide) (And.intro (fun h41 => (And.intro ?g17_w_49 ?g18_r_49)) (fun h41 => (And.intro (by decide) (And.intro ?g19_w_49 ?g20_r_49))))))))))))))))))))))))))⟩
    case g1_i_5 =>
      exact hpre
    case g2_i_27 =>
      exact hpre
    case g3_w_49 =>
      first | rfl | exact xi_nb
    case g4_r_49 =>
      refine ⟨congrArg (fun z => some (Value.int z)) ?_, rfl⟩
      have e1 := xi_and1 (M 16 a.toNatClampNeg)
      have e2 := xi_and2 (M 16 a.toNatClampNeg)
      by_cases hz : ym_hf d (M 14 a.toNatClampNeg) (M 15 a.toNatClampNeg) (M 16 a.toNatClampNeg)
      · rw [xi_t hz]; unfold ym_hf at hz; first | rfl | (exfalso; grind)
      · rw [xi_f hz]; unfold ym_hf at hz; first | rfl | (exfalso; grind)
    case g5_i_40 =>
      exact hpre
    case g6_w_49 =>
      first | rfl | exact xi_nb
    case g7_r_49 =>
      refine ⟨congrArg (fun z => some (Value.int z)) ?_, rfl⟩
      have e1 := xi_and1 (M 16 a.toNatClampNeg)
      have e2 := xi_and2 (M 16 a.toNatClampNeg)
      by_cases hz : ym_hf d (M 14 a.toNatClampNeg) (M 15 a.toNatClampNeg) (M 16 a.toNatClampNeg)
      · rw [xi_t hz]; unfold ym_hf at hz; first | rfl | (exfalso; grind)
      · rw [xi_f hz]; unfold ym_hf at hz; first | rfl | (exfalso; grind)
    case g8_w_49 =>
      first | rfl | exact xi_nb
    case g9_r_49 =>
      refine ⟨congrArg (fun z => some (Value.int z)) ?_, rfl⟩
      have e1 := xi_and1 (M 16 a.toNatClampNeg)
      have e2 := xi_and2 (M 16 a.toNatClampNeg)
      by_cases hz : ym_hf d (M 14 a.toNatClampNeg) (M 15 a.toNatClampNeg) (M 16 a.toNatClampNeg)
      · rw [xi_t hz]; unfold ym_hf at hz; first | rfl | (exfalso; grind)
      · rw [xi_f hz]; unfold ym_hf at hz; first | rfl | (exfalso; grind)
    case g10_i_18 =>
      exact hpre
    case g11_w_49 =>
      first | rfl | exact xi_nb
    case g12_r_49 =>
      refine ⟨congrArg (fun z => some (Value.int z)) ?_, rfl⟩
      have e1 := xi_and1 (M 16 a.toNatClampNeg)
      have e2 := xi_and2 (M 16 a.toNatClampNeg)
      by_cases hz : ym_hf d (M 14 a.toNatClampNeg) (M 15 a.toNatClampNeg) (M 16 a.toNatClampNeg)
      · rw [xi_t hz]; unfold ym_hf at hz; first | rfl | (exfalso; grind)
      · rw [xi_f hz]; unfold ym_hf at hz; first | rfl | (exfalso; grind)
    case g13_i_27 =>
      exact hpre
    case g14_w_49 =>
      first | rfl | exact xi_nb
    case g15_r_49 =>
      refine ⟨congrArg (fun z => some (Value.int z)) ?_, rfl⟩
      have e1 := xi_and1 (M 16 a.toNatClampNeg)
      have e2 := xi_and2 (M 16 a.toNatClampNeg)
      by_cases hz : ym_hf d (M 14 a.toNatClampNeg) (M 15 a.toNatClampNeg) (M 16 a.toNatClampNeg)
      · rw [xi_t hz]; unfold ym_hf at hz; first | rfl | (exfalso; grind)
      · rw [xi_f hz]; unfold ym_hf at hz; first | rfl | (exfalso; grind)
    case g16_i_40 =>
      exact hpre
    case g17_w_49 =>
      first | rfl | exact xi_nb
    case g18_r_49 =>
      refine ⟨congrArg (fun z => some (Value.int z)) ?_, rfl⟩
      have e1 := xi_and1 (M 16 a.toNatClampNeg)
      have e2 := xi_and2 (M 16 a.toNatClampNeg)
      by_cases hz : ym_hf d (M 14 a.toNatClampNeg) (M 15 a.toNatClampNeg) (M 16 a.toNatClampNeg)
      · rw [xi_t hz]; unfold ym_hf at hz; first | rfl | (exfalso; grind)
      · rw [xi_f hz]; unfold ym_hf at hz; first | rfl | (exfalso; grind)
    case g19_w_49 =>
      first | rfl | exact xi_nb
    case g20_r_49 =>
      refine ⟨congrArg (fun z => some (Value.int z)) ?_, rfl⟩
      have e1 := xi_and1 (M 16 a.toNatClampNeg)
      have e2 := xi_and2 (M 16 a.toNatClampNeg)
      by_cases hz : ym_hf d (M 14 a.toNatClampNeg) (M 15 a.toNatClampNeg) (M 16 a.toNatClampNeg)
      · rw [xi_t hz]; unfold ym_hf at hz; first | rfl | (exfalso; grind)
      · rw [xi_f hz]; unfold ym_hf at hz; first | rfl | (exfalso; grind)
def pM_whole (as : List Value) (M : xm_M) : Prop := ∃ p : Int32, as = [.ref 0, .int p] ∧ vp_in p 20
noncomputable def fM_whole (as : List Value) (M : xm_M) : Option Value × xm_M := match as with
  | [_, .int p] => (some (.int (730 * M 6 p.toNatClampNeg)), M)
  | _ => (none, M)
noncomputable abbrev sM_whole : xm_C := (0, 2, 0, pM_whole, fM_whole)
theorem uM_whole : ∀ as M, (fM_whole as M).2 = M := by
  intro as M
  unfold fM_whole
  split <;> rfl
theorem vM_whole : ∀ as M, pM_whole as M → ∃ as1, as = .ref 0 :: as1 := by
  rintro as M ⟨p, rfl, hpre⟩
  exact ⟨_, rfl⟩
noncomputable def tM_whole : List (Nat × xm_C) := []
theorem lM_whole (l : Launch) : ∀ n C, (n, C) ∈ tM_whole → xm_lkS l "AbsenceRowsModel" xt_T xk_ns (xr_ 0) xk_cl xk_tM n C ∨ xm_lkV l "AbsenceRowsModel" xt_T xk_ns (xr_ 0) xk_cl xk_tM n C := fun n C h => (show ∀ q ∈ tM_whole, xm_lkS l "AbsenceRowsModel" xt_T xk_ns (xr_ 0) xk_cl xk_tM q.1 q.2 ∨ xm_lkV l "AbsenceRowsModel" xt_T xk_ns (xr_ 0) xk_cl xk_tM q.1 q.2 from fun _ h => absurd h List.not_mem_nil) (n, C) h
set_option maxRecDepth 20000 in
set_option maxHeartbeats 2000000 in
theorem cM_whole (l : Launch) : xm_Pu l xy_M_whole (Cond.code xy_M_whole xb_M_whole 2 (some .int) :: xt_T) (xr_ 0) xk_cl xk_ns xk_tM pM_whole fM_whole := by
  refine xm_mk_pu (rt := .int) (fl := xf_M) (ct := tM_whole) (cn := []) (cj := xj_M) (plainFor_of_name (by decide)) xs_M xd_M_whole rfl (Or.inr rfl) (lM_whole l) (fun _ _ _ _ _ _ _ _ => False) ?_ ?_ ?_ (fun _ _ _ _ _ _ _ _ _ h => h.elim) ?_
  · rintro as M ⟨p, rfl, hpre⟩; exact Nat.le_of_ble_eq_true rfl
  · rintro as M ⟨p, rfl, hpre⟩; simp [fM_whole]
  · rintro as M v ⟨p, rfl, hpre⟩ h; first | rfl | (simp [fM_whole] at h)
  · rintro as M ⟨p, rfl, hpre⟩
    refine ⟨400, (And.intro rfl (And.intro rfl (And.intro ?g1_i_8 (And.intro ?g2_w_10 ?g3_r_10))))⟩
    case g1_i_8 =>
      exact hpre
    case g2_w_10 =>
      first | rfl | exact xi_nb
    case g3_r_10 =>
      exact ⟨rfl, rfl⟩
def pM_goes (as : List Value) (M : xm_M) : Prop := ∃ q k r t m : Int32, as = [.ref 0, .int q, .int k, .int r, .int t, .int m]
noncomputable def fM_goes (as : List Value) (M : xm_M) : Option Value × xm_M := match as with
  | [_, .int q, .int k, .int r, .int t, .int m] => (some (.int (xi_b (xg_n k r t m = 0))), (xm_up M 0 0 (xq_t q (xg_n k r t m))))
  | _ => (none, M)
noncomputable abbrev sM_goes : xm_C := (0, 6, 1, pM_goes, fM_goes)
theorem vM_goes : ∀ as M, pM_goes as M → ∃ as1, as = .ref 0 :: as1 := by
  rintro as M ⟨q, k, r, t, m, rfl⟩
  exact ⟨_, rfl⟩
noncomputable def tM_goes : List (Nat × xm_C) := []
theorem lM_goes (l : Launch) : ∀ n C, (n, C) ∈ tM_goes → xm_lkS l "AbsenceRowsModel" xt_T xk_ns (xr_ 0) xk_cl xk_tM n C ∨ xm_lkV l "AbsenceRowsModel" xt_T xk_ns (xr_ 0) xk_cl xk_tM n C := fun n C h => (show ∀ q ∈ tM_goes, xm_lkS l "AbsenceRowsModel" xt_T xk_ns (xr_ 0) xk_cl xk_tM q.1 q.2 ∨ xm_lkV l "AbsenceRowsModel" xt_T xk_ns (xr_ 0) xk_cl xk_tM q.1 q.2 from fun _ h => absurd h List.not_mem_nil) (n, C) h
set_option maxRecDepth 20000 in
set_option maxHeartbeats 2000000 in
theorem cM_goes (l : Launch) : xm_Wr l xy_M_goes (Cond.code xy_M_goes xb_M_goes 8 (some .boolean) :: xt_T) (xr_ 0) xk_cl xk_ns xk_tM pM_goes fM_goes := by
  refine xm_mk_wr (rt := .boolean) (fl := xf_M) (ct := tM_goes) (cn := []) (cj := xj_M) (plainFor_of_name (by decide)) xs_M xd_M_goes rfl (Or.inr rfl) (lM_goes l) (fun as M j pc ls st M2 cl => match as with | [_, .int q, .int k, .int r, .int t, .int m] => (j = 10 ∧ pc = 36 ∧ ls = [(0, .ref 0), (1, .int q), (2, .int k), (3, .int r), (4, .int t), (5, .int m)] ∧ st = [.int (xg_b (xg_n k r t m))] ∧ M2 = M) ∨ (∃ i n : Nat, n = xg_n k r t m ∧ i ≤ n ∧ j = n - i ∧ pc = 46 ∧ ls = [(0, .ref 0), (1, .int q), (2, .int k), (3, .int r), (4, .int t), (5, .int m), (6, .int (xg_b n)), (7, .int (xg_p i))] ∧ st = [] ∧ M2 = xm_up M 0 0 (xq_t q i)) | _ => False) ?_ ?_ ?_ ?_ ?_
  · rintro as M ⟨q, k, r, t, m, rfl⟩; exact Nat.le_of_ble_eq_true rfl
  · rintro as M ⟨q, k, r, t, m, rfl⟩; simp [fM_goes]
  · rintro as M v ⟨q, k, r, t, m, rfl⟩ h; first | rfl | (simp [fM_goes] at h)
  · rintro as M ⟨q, k, r, t, m, rfl⟩ j pc ls st M2 cl (⟨hj, rfl, rfl, rfl, rfl⟩ | ⟨i, n, hn, hi, hj, rfl, rfl, rfl, rfl⟩)
    · skip
      refine ⟨400, (And.intro (Nat.le_of_ble_eq_true rfl) (And.intro rfl (And.intro (Nat.le_of_ble_eq_true rfl) ?g1001_k_46)))⟩
      case g1001_k_46 =>
        exact ⟨xg_n k r t m - 0, by have := xg_n5 k r t m; omega, Or.inr ⟨0, xg_n k r t m, rfl, Nat.zero_le _, rfl, rfl, rfl, rfl, rfl⟩⟩
    · skip
      refine ⟨400, (And.intro (by decide) (And.intro (fun h50 => (And.intro (by decide) (And.intro (fun h81 => (And.intro ?g2001_w_89 ?g2002_r_89)) (fun h81 => (And.intro (by decide) (And.intro ?g2003_w_89 ?g2004_r_89)))))) (fun h50 => (And.intro (by decide) (And.intro (fun h57 => (And.intro (Nat.le_of_ble_eq_true rfl) (And.intro (by decide) ?g2005_k_46))) (fun h57 => (And.intro rfl (And.intro rfl (And.intro rfl (And.intro (Nat.le_of_ble_eq_true rfl) (And.intro (by decide) ?g2006_k_46)))))))))))⟩
      case g2001_w_89 =>
        first | rfl | exact xi_nb
      case g2002_r_89 =>
        have h5 := xg_n5 k r t m
        have hin := (xg_x n (by omega) i (by omega) hi).mp h50
        subst hin; subst hn
        refine ⟨xl_some ?_, rfl⟩
        first
        | exact (xi_t ((xg_x0 _ h5).mp (Classical.not_not.mp h81))).symm
        | exact (xi_f (fun z => h81 ((xg_x0 _ h5).mpr z))).symm
        | exact (xi_t ((xg_x0 _ h5).mp h81)).symm
      case g2003_w_89 =>
        first | rfl | exact xi_nb
      case g2004_r_89 =>
        have h5 := xg_n5 k r t m
        have hin := (xg_x n (by omega) i (by omega) hi).mp h50
        subst hin; subst hn
        refine ⟨xl_some ?_, rfl⟩
        first
        | exact (xi_t ((xg_x0 _ h5).mp (Classical.not_not.mp h81))).symm
        | exact (xi_f (fun z => h81 ((xg_x0 _ h5).mpr z))).symm
        | exact (xi_t ((xg_x0 _ h5).mp h81)).symm
      case g2005_k_46 =>
        have h5 := xg_n5 k r t m
        have hne : ¬ i = n := fun z => h50 ((xg_x n (by omega) i (by omega) hi).mpr z)
        refine ⟨n - (i + 1), by omega, Or.inr ⟨i + 1, n, hn, by omega, rfl, rfl, ?_, rfl, ?_⟩⟩
        · rw [← xg_x2 i (by omega)]; rfl
        · show _ = xm_up M 0 0 (xq_t q i + (if 0 < q &&& xg_p i then 1 else 0))
          first
          | (rw [if_neg (Int32.not_lt.mpr h57)]; simp; done)
          | (rw [if_pos (Int32.not_le.mp h57), xm_up_up]; simp [xm_up]; done)
      case g2006_k_46 =>
        have h5 := xg_n5 k r t m
        have hne : ¬ i = n := fun z => h50 ((xg_x n (by omega) i (by omega) hi).mpr z)
        refine ⟨n - (i + 1), by omega, Or.inr ⟨i + 1, n, hn, by omega, rfl, rfl, ?_, rfl, ?_⟩⟩
        · rw [← xg_x2 i (by omega)]; rfl
        · show _ = xm_up M 0 0 (xq_t q i + (if 0 < q &&& xg_p i then 1 else 0))
          first
          | (rw [if_neg (Int32.not_lt.mpr h57)]; simp; done)
          | (rw [if_pos (Int32.not_le.mp h57), xm_up_up]; simp [xm_up]; done)
  · rintro as M ⟨q, k, r, t, m, rfl⟩
    refine ⟨400, (And.intro (by decide) (And.intro (fun h1 => (And.intro (by decide) (And.intro (fun h9 => (And.intro (by decide) (And.intro (fun h18 => (And.intro (by decide) (And.intro (fun h27 => ?g1_k_36) (fun h27 => (And.intro (by decide) ?g2_k_36))))) (fun h18 => (And.intro (by decide) ?g3_k_36))))) (fun h9 => (And.intro (by decide) ?g4_k_36))))) (fun h1 => (And.intro (by decide) ?g5_k_36))))⟩
    case g1_k_36 =>
      refine ⟨10, Or.inl ⟨rfl, rfl, rfl, ?_, rfl⟩⟩
      rw [show xg_n k r t m = 0 by unfold xg_n; grind]; rfl
    case g2_k_36 =>
      refine ⟨10, Or.inl ⟨rfl, rfl, rfl, ?_, rfl⟩⟩
      rw [show xg_n k r t m = 4 by unfold xg_n; grind]; rfl
    case g3_k_36 =>
      refine ⟨10, Or.inl ⟨rfl, rfl, rfl, ?_, rfl⟩⟩
      rw [show xg_n k r t m = 3 by unfold xg_n; grind]; rfl
    case g4_k_36 =>
      refine ⟨10, Or.inl ⟨rfl, rfl, rfl, ?_, rfl⟩⟩
      rw [show xg_n k r t m = 2 by unfold xg_n; grind]; rfl
    case g5_k_36 =>
      refine ⟨10, Or.inl ⟨rfl, rfl, rfl, ?_, rfl⟩⟩
      rw [show xg_n k r t m = 1 by unfold xg_n; grind]; rfl
def pM_takes (as : List Value) (M : xm_M) : Prop := ∃ a : Int32, as = [.ref 0, .int a] ∧ vp_in a 81 ∧ xv_span (M 14 a.toNatClampNeg) (M 15 a.toNatClampNeg)
noncomputable def fM_takes (as : List Value) (M : xm_M) : Option Value × xm_M := match as with
  | [_, .int a] => (some (.int (xd_hd (M 1) (M 14 a.toNatClampNeg) (M 15 a.toNatClampNeg) (M 16 a.toNatClampNeg))), M)
  | _ => (none, M)
noncomputable abbrev sM_takes : xm_C := (0, 2, 0, pM_takes, fM_takes)
theorem uM_takes : ∀ as M, (fM_takes as M).2 = M := by
  intro as M
  unfold fM_takes
  split <;> rfl
theorem vM_takes : ∀ as M, pM_takes as M → ∃ as1, as = .ref 0 :: as1 := by
  rintro as M ⟨a, rfl, ⟨hp1, ⟨a0, b0, ha0, hb0, hab0, hb70⟩⟩⟩
  exact ⟨_, rfl⟩
noncomputable def tM_takes : List (Nat × xm_C) := [(120, sM_isWork), (123, sM_isHalf)]
theorem lM_takes (l : Launch) : ∀ n C, (n, C) ∈ tM_takes → xm_lkS l "AbsenceRowsModel" xt_T xk_ns (xr_ 1) xk_cl xk_tM n C ∨ xm_lkV l "AbsenceRowsModel" xt_T xk_ns (xr_ 1) xk_cl xk_tM n C := fun n C h => (show ∀ q ∈ tM_takes, xm_lkS l "AbsenceRowsModel" xt_T xk_ns (xr_ 1) xk_cl xk_tM q.1 q.2 ∨ xm_lkV l "AbsenceRowsModel" xt_T xk_ns (xr_ 1) xk_cl xk_tM q.1 q.2 from List.forall_mem_cons.mpr ⟨Or.inr ⟨xy_M_isWork, xb_M_isWork, 2, (some .boolean), xr_ 0, 1, 0, 7, [none, none, some 1, none, some 2, some 3, some 4, some 5, some 6, some 7, some 8, none, none, some 9, some 10, some 11, none, some 12, some 13, some 14, some 15, some 16, some 17, some 18, none, some 19, some 20, some 21, none, some 22, some 23, some 24, some 25, some 26, some 27, some 28, none], xk_T7, 37, rfl, rfl, ⟨xe_M_isWork, xw_44, ⟨by decide, by decide, by decide +kernel⟩, ⟨Nat.le_of_ble_eq_true rfl, Nat.le_of_ble_eq_true rfl⟩, rfl, rfl⟩, xw_961, xw_963, xw_21, rfl, rfl, vM_isWork, Or.inl ⟨rfl, uM_isWork, cM_isWork l⟩⟩, List.forall_mem_cons.mpr ⟨Or.inr ⟨xy_M_isHalf, xb_M_isHalf, 3, (some .boolean), xr_ 0, 2, 0, 7, [none, none, some 1, none, some 2, some 3, some 4, some 5, some 6, some 7, some 8, none, none, some 9, some 10, some 11, none, some 12, some 13, some 14, some 15, some 16, some 17, some 18, none, some 19, some 20, some 21, none, some 22, some 23, some 24, some 25, some 26, some 27, some 28, none], xk_T7, 37, rfl, rfl, ⟨xe_M_isHalf, xw_44, ⟨by decide, by decide, by decide +kernel⟩, ⟨Nat.le_of_ble_eq_true rfl, Nat.le_of_ble_eq_true rfl⟩, rfl, rfl⟩, xw_965, xw_967, xw_22, rfl, rfl, vM_isHalf, Or.inl ⟨rfl, uM_isHalf, cM_isHalf l⟩⟩, fun _ h => absurd h List.not_mem_nil⟩⟩) (n, C) h
set_option maxRecDepth 20000 in
set_option maxHeartbeats 2000000 in
theorem cM_takes (l : Launch) : xm_Pu l xy_M_takes (Cond.code xy_M_takes xb_M_takes 4 (some .int) :: xt_T) (xr_ 1) xk_cl xk_ns xk_tM pM_takes fM_takes := by
  refine xm_mk_pu (rt := .int) (fl := xf_M) (ct := tM_takes) (cn := []) (cj := xj_M) (plainFor_of_name (by decide)) xs_M xd_M_takes rfl (Or.inr rfl) (lM_takes l) (fun as M j pc ls st M2 cl => match as with | [_, .int a] => (∃ i x b : Nat, M 14 a.toNatClampNeg = nI x ∧ M 15 a.toNatClampNeg = nI b ∧ x ≤ b ∧ b < 730 ∧ i ≤ b + 1 - x ∧ j = b + 1 - x - i ∧ pc = 9 ∧ ls = [(0, .ref 0), (1, .int a), (2, .int (xq_s (fun i => xi_w (nI (x + i) - nI (x + i) / 7 * 7 < 5 ∧ M 1 (nI (x + i)).toNatClampNeg = 0) (1 + xi_b (¬ ((nI (x + i) = M 14 a.toNatClampNeg ∧ ¬ M 16 a.toNatClampNeg &&& 1 = 0) ∨ (nI (x + i) = M 15 a.toNatClampNeg ∧ ¬ M 16 a.toNatClampNeg &&& 2 = 0))))) i)), (3, .int (nI (x + i)))] ∧ st = [] ∧ M2 = M ∧ cl = 0) | _ => False) ?_ ?_ ?_ ?_ ?_
  · rintro as M ⟨a, rfl, ⟨hp1, ⟨a0, b0, ha0, hb0, hab0, hb70⟩⟩⟩; exact Nat.le_of_ble_eq_true rfl
  · rintro as M ⟨a, rfl, ⟨hp1, ⟨a0, b0, ha0, hb0, hab0, hb70⟩⟩⟩; simp [fM_takes]
  · rintro as M v ⟨a, rfl, ⟨hp1, ⟨a0, b0, ha0, hb0, hab0, hb70⟩⟩⟩ h; first | rfl | (simp [fM_takes] at h)
  · rintro as M ⟨a, rfl, ⟨hp1, ⟨a0, b0, ha0, hb0, hab0, hb70⟩⟩⟩ j pc ls st M2 cl ⟨i, x, b, ha, hb, hab, hb7, hi, hj, rfl, rfl, rfl, rfl, rfl⟩
    refine ⟨400, (And.intro rfl (And.intro rfl (And.intro ?g1001_i_15 (And.intro (by decide) (And.intro (fun h16 => (And.intro ?g1002_w_51 ?g1003_r_51)) (fun h16 => (And.intro rfl (And.intro (Nat.le_of_ble_eq_true rfl) (And.intro (Nat.le_of_ble_eq_true rfl) (And.intro ?g1004_c_21 (And.intro (by decide) (And.intro (fun h24 => (And.intro (Nat.le_of_ble_eq_true rfl) (And.intro (by decide) ?g1005_k_9))) (fun h24 => (And.intro rfl (And.intro (Nat.le_of_ble_eq_true rfl) (And.intro (Nat.le_of_ble_eq_true rfl) (And.intro ?g1006_c_31 (And.intro (by decide) (And.intro (fun h34 => (And.intro (Nat.le_of_ble_eq_true rfl) (And.intro (Nat.le_of_ble_eq_true rfl) (And.intro (by decide) ?g1007_k_9)))) (fun h34 => (And.intro (by decide) (And.intro (Nat.le_of_ble_eq_true rfl) (And.intro (Nat.le_of_ble_eq_true rfl) (And.intro (by decide) ?g1008_k_9))))))))))))))))))))))))⟩
    case g1001_i_15 =>
      exact hp1
    case g1002_w_51 =>
      first | rfl | exact xi_nb
    case g1003_r_51 =>
      obtain rfl : i = b + 1 - x := xl_de ha hb hb7 hab hi (by assumption)
      refine ⟨xl_some ?_, rfl⟩
      unfold xd_hd
      rw [ha, hb, nI_clamp (by omega), nI_clamp (by omega)]
    case g1004_c_21 =>
      exact ⟨_, rfl, xl_d ha hb hb7 h16⟩
    case g1005_k_9 =>
      have hlt := xl_dl ha hb hb7 h16
      have e1 : (nI (x + i)).toNatClampNeg = x + i := nI_clamp (by omega)
      refine ⟨b + 1 - x - (i + 1), by omega, i + 1, x, b, ha, hb, hab, hb7, by omega, rfl, rfl, ?_, rfl, rfl, rfl⟩
      rw [← Nat.add_assoc, nI_succ, xq_s1]
      simp only [e1, xi_0, xi_n0, ym_wk, ym_hf] at *
      first | (rw [xi_wt (by grind [Int32.not_lt, Int32.not_le]), xi_t (by grind [Int32.not_lt, Int32.not_le])]; rfl) | (rw [xi_wt (by grind [Int32.not_lt, Int32.not_le]), xi_f (by grind [Int32.not_lt, Int32.not_le])]; rfl) | (rw [xi_wf (by grind [Int32.not_lt, Int32.not_le]), xi_add0]; rfl)
    case g1006_c_31 =>
      exact ⟨_, _, rfl, hp1⟩
    case g1007_k_9 =>
      have hlt := xl_dl ha hb hb7 h16
      have e1 : (nI (x + i)).toNatClampNeg = x + i := nI_clamp (by omega)
      refine ⟨b + 1 - x - (i + 1), by omega, i + 1, x, b, ha, hb, hab, hb7, by omega, rfl, rfl, ?_, rfl, rfl, rfl⟩
      rw [← Nat.add_assoc, nI_succ, xq_s1]
      simp only [e1, xi_0, xi_n0, ym_wk, ym_hf] at *
      first | (rw [xi_wt (by grind [Int32.not_lt, Int32.not_le]), xi_t (by grind [Int32.not_lt, Int32.not_le])]; rfl) | (rw [xi_wt (by grind [Int32.not_lt, Int32.not_le]), xi_f (by grind [Int32.not_lt, Int32.not_le])]; rfl) | (rw [xi_wf (by grind [Int32.not_lt, Int32.not_le]), xi_add0]; rfl)
    case g1008_k_9 =>
      have hlt := xl_dl ha hb hb7 h16
      have e1 : (nI (x + i)).toNatClampNeg = x + i := nI_clamp (by omega)
      refine ⟨b + 1 - x - (i + 1), by omega, i + 1, x, b, ha, hb, hab, hb7, by omega, rfl, rfl, ?_, rfl, rfl, rfl⟩
      rw [← Nat.add_assoc, nI_succ, xq_s1]
      simp only [e1, xi_0, xi_n0, ym_wk, ym_hf] at *
      first | (rw [xi_wt (by grind [Int32.not_lt, Int32.not_le]), xi_t (by grind [Int32.not_lt, Int32.not_le])]; rfl) | (rw [xi_wt (by grind [Int32.not_lt, Int32.not_le]), xi_f (by grind [Int32.not_lt, Int32.not_le])]; rfl) | (rw [xi_wf (by grind [Int32.not_lt, Int32.not_le]), xi_add0]; rfl)
  · rintro as M ⟨a, rfl, ⟨hp1, ⟨a0, b0, ha0, hb0, hab0, hb70⟩⟩⟩
    refine ⟨400, (And.intro (Nat.le_of_ble_eq_true rfl) (And.intro rfl (And.intro rfl (And.intro ?g1_i_7 (And.intro (Nat.le_of_ble_eq_true rfl) ?g2_k_9)))))⟩
    case g1_i_7 =>
      exact hp1
    case g2_k_9 =>
      refine ⟨b0 + 1 - a0 - 0, 0, a0, b0, ha0, hb0, hab0, hb70, Nat.zero_le _, rfl, rfl, ?_, rfl, rfl, rfl⟩
      rw [Nat.add_zero, ← ha0]; rfl
def pM_rest (as : List Value) (M : xm_M) : Prop := ∃ p y : Int32, as = [.ref 0, .int p, .int y] ∧ (y = 0 ∨ y = 1) ∧ vp_in p 20 ∧ xv_B M
noncomputable def fM_rest (as : List Value) (M : xm_M) : Option Value × xm_M := match as with
  | [_, .int p, .int y] => (some (.long (ym_rs M p y)), M)
  | _ => (none, M)
noncomputable abbrev sM_rest : xm_C := (0, 3, 0, pM_rest, fM_rest)
theorem uM_rest : ∀ as M, (fM_rest as M).2 = M := by
  intro as M
  unfold fM_rest
  split <;> rfl
theorem vM_rest : ∀ as M, pM_rest as M → ∃ as1, as = .ref 0 :: as1 := by
  rintro as M ⟨p, y, rfl, ⟨hy, hp1, hB⟩⟩
  exact ⟨_, rfl⟩
noncomputable def tM_rest : List (Nat × xm_C) := [(132, sM_takes)]
theorem lM_rest (l : Launch) : ∀ n C, (n, C) ∈ tM_rest → xm_lkS l "AbsenceRowsModel" xt_T xk_ns (xr_ 2) xk_cl xk_tM n C ∨ xm_lkV l "AbsenceRowsModel" xt_T xk_ns (xr_ 2) xk_cl xk_tM n C := fun n C h => (show ∀ q ∈ tM_rest, xm_lkS l "AbsenceRowsModel" xt_T xk_ns (xr_ 2) xk_cl xk_tM q.1 q.2 ∨ xm_lkV l "AbsenceRowsModel" xt_T xk_ns (xr_ 2) xk_cl xk_tM q.1 q.2 from List.forall_mem_cons.mpr ⟨Or.inr ⟨xy_M_takes, xb_M_takes, 4, (some .int), xr_ 1, 1, 0, 7, [none, none, some 1, none, some 2, some 3, some 4, some 5, some 6, some 7, some 8, none, none, some 9, some 10, some 11, none, some 12, some 13, some 14, some 15, some 16, some 17, some 18, none, some 19, some 20, some 21, none, some 22, some 23, some 24, some 25, some 26, some 27, some 28, none], xk_T7, 37, rfl, rfl, ⟨xe_M_takes, xw_44, ⟨by decide, by decide, by decide +kernel⟩, ⟨Nat.le_of_ble_eq_true rfl, Nat.le_of_ble_eq_true rfl⟩, rfl, rfl⟩, xw_957, xw_959, xw_20, rfl, rfl, vM_takes, Or.inl ⟨rfl, uM_takes, cM_takes l⟩⟩, fun _ h => absurd h List.not_mem_nil⟩) (n, C) h
set_option maxRecDepth 20000 in
set_option maxHeartbeats 2000000 in
theorem cM_rest (l : Launch) : xm_Pu l xy_M_rest (Cond.code xy_M_rest xb_M_rest 6 (some .long) :: xt_T) (xr_ 2) xk_cl xk_ns xk_tM pM_rest fM_rest := by
  refine xm_mk_pu (rt := .long) (fl := xf_M) (ct := tM_rest) (cn := []) (cj := xj_M) (plainFor_of_name (by decide)) xs_M xd_M_rest rfl (Or.inr rfl) (lM_rest l) (fun as M j pc ls st M2 cl => match as with | [_, .int p, .int y] => (∃ i n : Nat, y = nI n ∧ n < 2 ∧ i ≤ 365 ∧ j = 1000 - i ∧ pc = 9 ∧ ls = [(0, .ref 0), (1, .int p), (2, .int y), (3, .long (ym_s (fun i => ym_xj (M 4 p.toNatClampNeg ≤ nI (n * 365 + i)) (2 * (M 5 p.toNatClampNeg).toInt64) 0) i)), (5, .int (nI (n * 365 + i)))] ∧ st = [] ∧ M2 = M ∧ cl = 0) ∨ (∃ i c : Nat, M 0 16 = nI c ∧ c ≤ 81 ∧ i ≤ c ∧ j = c - i ∧ (∀ k, k < c → xv_span (M 14 k) (M 15 k)) ∧ pc = 55 ∧ ls = [(0, .ref 0), (1, .int p), (2, .int y), (3, .long (ym_e (ym_r1 M p y.toNatClampNeg) (fun i => ym_xj (M 12 i = p ∧ M 13 i = 0 ∧ ¬ M 17 i = 3 ∧ M 14 i / 365 = y) ((xd_hd (M 1) (M 14 i) (M 15 i) (M 16 i)).toInt64 * 365 * (M 6 p.toNatClampNeg).toInt64) 0) i)), (5, .int (nI i))] ∧ st = [] ∧ M2 = M ∧ cl = 0) | _ => False) ?_ ?_ ?_ ?_ ?_
  · rintro as M ⟨p, y, rfl, ⟨hy, hp1, hB⟩⟩; exact Nat.le_of_ble_eq_true rfl
  · rintro as M ⟨p, y, rfl, ⟨hy, hp1, hB⟩⟩; simp [fM_rest]
  · rintro as M v ⟨p, y, rfl, ⟨hy, hp1, hB⟩⟩ h; first | rfl | (simp [fM_rest] at h)
  · rintro as M ⟨p, y, rfl, ⟨hy, hp1, hB⟩⟩ j pc ls st M2 cl (⟨i, n, hy2, hn, hi, hj, rfl, rfl, rfl, rfl, rfl⟩ | ⟨i, c, hc, hc20, hic, hj, hsp, rfl, rfl, rfl, rfl, rfl⟩)
    · skip
      have hend : (y + 1) * 365 = nI ((n + 1) * 365) := by rw [hy2, ← nI_succ]; exact pk_mul (n + 1) 365
      refine ⟨400, (And.intro (by decide) (And.intro (fun h18 => (And.intro (Nat.le_of_ble_eq_true rfl) ?g1001_k_55)) (fun h18 => (And.intro rfl (And.intro rfl (And.intro ?g1002_i_28 (And.intro (by decide) (And.intro (fun h29 => (And.intro (Nat.le_of_ble_eq_true rfl) (And.intro (by decide) ?g1003_k_9))) (fun h29 => (And.intro rfl (And.intro rfl (And.intro ?g1004_i_41 (And.intro (Nat.le_of_ble_eq_true rfl) (And.intro (Nat.le_of_ble_eq_true rfl) (And.intro (by decide) ?g1005_k_9)))))))))))))))⟩
      case g1001_k_55 =>
        replace h18 : nI ((n + 1) * 365) ≤ nI (n * 365 + i) := by rw [← hend]; exact h18
        have e3 : i = 365 := by
          rcases Nat.lt_or_ge i 365 with q | q
          · exact absurd h18 (nI_ge (by omega) (by omega))
          · omega
        subst e3
        obtain ⟨c0, h1, h2, h3⟩ := hB
        refine ⟨c0 - 0, by omega, Or.inr ⟨0, c0, h2, h1, Nat.zero_le _, rfl, h3, rfl, ?_, rfl, rfl, rfl⟩⟩
        have e4 : y.toNatClampNeg = n := by rw [hy2, nI_clamp (by omega)]
        unfold ym_r1
        rw [e4]; rfl
      case g1002_i_28 =>
        exact hp1
      case g1003_k_9 =>
        replace h18 : ¬ nI ((n + 1) * 365) ≤ nI (n * 365 + i) := by rw [← hend]; exact h18
        have hlt : i < 365 := by
          rcases Nat.lt_or_ge i 365 with q | q
          · exact q
          · exact absurd (nI_le (by omega) (by omega)) h18
        refine ⟨1000 - (i + 1), by omega, Or.inl ⟨i + 1, n, hy2, hn, by omega, rfl, rfl, ?_, rfl, rfl, rfl⟩⟩
        rw [← Nat.add_assoc, nI_succ, ym_s1]
        first
        | (rw [ym_xt (Int32.not_lt.mp h29)]; rfl)
        | (rw [ym_xf (Int32.not_le.mpr h29), Int64.add_zero]; rfl)
      case g1004_i_41 =>
        exact hp1
      case g1005_k_9 =>
        replace h18 : ¬ nI ((n + 1) * 365) ≤ nI (n * 365 + i) := by rw [← hend]; exact h18
        have hlt : i < 365 := by
          rcases Nat.lt_or_ge i 365 with q | q
          · exact q
          · exact absurd (nI_le (by omega) (by omega)) h18
        refine ⟨1000 - (i + 1), by omega, Or.inl ⟨i + 1, n, hy2, hn, by omega, rfl, rfl, ?_, rfl, rfl, rfl⟩⟩
        rw [← Nat.add_assoc, nI_succ, ym_s1]
        first
        | (rw [ym_xt (Int32.not_lt.mp h29)]; rfl)
        | (rw [ym_xf (Int32.not_le.mpr h29), Int64.add_zero]; rfl)
    · skip
      refine ⟨400, (And.intro rfl (And.intro (by decide) (And.intro (fun h61 => ?g2001_r_140) (fun h61 => (And.intro rfl (And.intro rfl (And.intro ?g2002_i_70 (And.intro (by decide) (And.intro (fun h72 => (And.intro (Nat.le_of_ble_eq_true rfl) (And.intro (by decide) ?g2003_k_55))) (fun h72 => (And.intro rfl (And.intro rfl (And.intro ?g2004_i_81 (And.intro (by decide) (And.intro (fun h82 => (And.intro (Nat.le_of_ble_eq_true rfl) (And.intro (by decide) ?g2005_k_55))) (fun h82 => (And.intro rfl (And.intro rfl (And.intro ?g2006_i_91 (And.intro (by decide) (And.intro (fun h93 => (And.intro (Nat.le_of_ble_eq_true rfl) (And.intro (by decide) ?g2007_k_55))) (fun h93 => (And.intro rfl (And.intro rfl (And.intro ?g2008_i_102 (And.intro ?g2009_n_106 (And.intro (by decide) (And.intro (fun h108 => (And.intro (Nat.le_of_ble_eq_true rfl) (And.intro (by decide) ?g2010_k_55))) (fun h108 => (And.intro rfl (And.intro (Nat.le_of_ble_eq_true rfl) (And.intro (Nat.le_of_ble_eq_true rfl) (And.intro ?g2011_c_115 (And.intro rfl (And.intro rfl (And.intro ?g2012_i_128 (And.intro (Nat.le_of_ble_eq_true rfl) (And.intro (Nat.le_of_ble_eq_true rfl) (And.intro (by decide) ?g2013_k_55)))))))))))))))))))))))))))))))))))))))⟩
      case g2001_r_140 =>
        obtain rfl := xl_end hc (by omega) hic (by assumption)
        refine ⟨?_, rfl⟩
        simp only [fM_rest, ym_rs]
        rw [hc, nI_clamp (by omega)]
      case g2002_i_70 =>
        first | exact vp_in_nI (Nat.lt_of_lt_of_le (xl_lt hc hic h61) hc20) (by decide) | exact hp1
      case g2003_k_55 =>
        have hlt := xl_lt hc hic h61
        have e1 : (nI i).toNatClampNeg = i := nI_clamp (by omega)
        refine ⟨c - (i + 1), by omega, Or.inr ⟨i + 1, c, hc, hc20, by omega, rfl, hsp, rfl, ?_, rfl, rfl, rfl⟩⟩
        rw [nI_succ, ym_e1]
        simp only [e1] at *
        first
        | (rw [ym_xt (by grind)]; rfl)
        | (rw [ym_xf (by grind), Int64.sub_zero]; rfl)
      case g2004_i_81 =>
        first | exact vp_in_nI (Nat.lt_of_lt_of_le (xl_lt hc hic h61) hc20) (by decide) | exact hp1
      case g2005_k_55 =>
        have hlt := xl_lt hc hic h61
        have e1 : (nI i).toNatClampNeg = i := nI_clamp (by omega)
        refine ⟨c - (i + 1), by omega, Or.inr ⟨i + 1, c, hc, hc20, by omega, rfl, hsp, rfl, ?_, rfl, rfl, rfl⟩⟩
        rw [nI_succ, ym_e1]
        simp only [e1] at *
        first
        | (rw [ym_xt (by grind)]; rfl)
        | (rw [ym_xf (by grind), Int64.sub_zero]; rfl)
      case g2006_i_91 =>
        first | exact vp_in_nI (Nat.lt_of_lt_of_le (xl_lt hc hic h61) hc20) (by decide) | exact hp1
      case g2007_k_55 =>
        have hlt := xl_lt hc hic h61
        have e1 : (nI i).toNatClampNeg = i := nI_clamp (by omega)
        refine ⟨c - (i + 1), by omega, Or.inr ⟨i + 1, c, hc, hc20, by omega, rfl, hsp, rfl, ?_, rfl, rfl, rfl⟩⟩
        rw [nI_succ, ym_e1]
        simp only [e1] at *
        first
        | (rw [ym_xt (by grind)]; rfl)
        | (rw [ym_xf (by grind), Int64.sub_zero]; rfl)
      case g2008_i_102 =>
        first | exact vp_in_nI (Nat.lt_of_lt_of_le (xl_lt hc hic h61) hc20) (by decide) | exact hp1
      case g2009_n_106 =>
        decide
      case g2010_k_55 =>
        have hlt := xl_lt hc hic h61
        have e1 : (nI i).toNatClampNeg = i := nI_clamp (by omega)
        refine ⟨c - (i + 1), by omega, Or.inr ⟨i + 1, c, hc, hc20, by omega, rfl, hsp, rfl, ?_, rfl, rfl, rfl⟩⟩
        rw [nI_succ, ym_e1]
        simp only [e1] at *
        first
        | (rw [ym_xt (by grind)]; rfl)
        | (rw [ym_xf (by grind), Int64.sub_zero]; rfl)
      case g2011_c_115 =>
        have hlt := xl_lt hc hic h61
        refine ⟨_, rfl, vp_in_nI (Nat.lt_of_lt_of_le hlt hc20) (by decide), ?_⟩
        rw [nI_clamp (by omega)]; exact hsp i hlt
      case g2012_i_128 =>
        first | exact vp_in_nI (Nat.lt_of_lt_of_le (xl_lt hc hic h61) hc20) (by decide) | exact hp1
      case g2013_k_55 =>
        have hlt := xl_lt hc hic h61
        have e1 : (nI i).toNatClampNeg = i := nI_clamp (by omega)
        refine ⟨c - (i + 1), by omega, Or.inr ⟨i + 1, c, hc, hc20, by omega, rfl, hsp, rfl, ?_, rfl, rfl, rfl⟩⟩
        rw [nI_succ, ym_e1]
        simp only [e1] at *
        first
        | (rw [ym_xt (by grind)]; rfl)
        | (rw [ym_xf (by grind), Int64.sub_zero]; rfl)
  · rintro as M ⟨p, y, rfl, ⟨hy, hp1, hB⟩⟩
    refine ⟨400, (And.intro (Nat.le_of_ble_eq_true rfl) (And.intro (Nat.le_of_ble_eq_true rfl) ?g1_k_9))⟩
    case g1_k_9 =>
      obtain ⟨n, hn, hy2⟩ := yl_y hy
      refine ⟨1000 - 0, Or.inl ⟨0, n, hy2, hn, Nat.zero_le _, rfl, rfl, ?_, rfl, rfl, rfl⟩⟩
      rw [Nat.add_zero, show nI (n * 365) = y * 365 by rw [hy2]; exact (pk_mul n 365).symm]; rfl
def pM_restOf (as : List Value) (M : xm_M) : Prop := ∃ p y : Int32, as = [.ref 0, .int p, .int y] ∧ (y = 0 ∨ y = 1) ∧ vp_in p 20 ∧ xv_B M
noncomputable def fM_restOf (as : List Value) (M : xm_M) : Option Value × xm_M := match as with
  | [_, .int p, .int y] => (some (.long (ym_ro M p y)), M)
  | _ => (none, M)
noncomputable abbrev sM_restOf : xm_C := (0, 3, 0, pM_restOf, fM_restOf)
theorem uM_restOf : ∀ as M, (fM_restOf as M).2 = M := by
  intro as M
  unfold fM_restOf
  split <;> rfl
theorem vM_restOf : ∀ as M, pM_restOf as M → ∃ as1, as = .ref 0 :: as1 := by
  rintro as M ⟨p, y, rfl, ⟨hy, hp1, hB⟩⟩
  exact ⟨_, rfl⟩
noncomputable def tM_restOf : List (Nat × xm_C) := [(138, sM_rest), (145, sM_whole)]
theorem lM_restOf (l : Launch) : ∀ n C, (n, C) ∈ tM_restOf → xm_lkS l "AbsenceRowsModel" xt_T xk_ns (xr_ 3) xk_cl xk_tM n C ∨ xm_lkV l "AbsenceRowsModel" xt_T xk_ns (xr_ 3) xk_cl xk_tM n C := fun n C h => (show ∀ q ∈ tM_restOf, xm_lkS l "AbsenceRowsModel" xt_T xk_ns (xr_ 3) xk_cl xk_tM q.1 q.2 ∨ xm_lkV l "AbsenceRowsModel" xt_T xk_ns (xr_ 3) xk_cl xk_tM q.1 q.2 from List.forall_mem_cons.mpr ⟨Or.inr ⟨xy_M_rest, xb_M_rest, 6, (some .long), xr_ 2, 2, 0, 7, [none, none, some 1, none, some 2, some 3, some 4, some 5, some 6, some 7, some 8, none, none, some 9, some 10, some 11, none, some 12, some 13, some 14, some 15, some 16, some 17, some 18, none, some 19, some 20, some 21, none, some 22, some 23, some 24, some 25, some 26, some 27, some 28, none], xk_T7, 37, rfl, rfl, ⟨xe_M_rest, xw_44, ⟨by decide, by decide, by decide +kernel⟩, ⟨Nat.le_of_ble_eq_true rfl, Nat.le_of_ble_eq_true rfl⟩, rfl, rfl⟩, xw_952, xw_954, xw_19, rfl, rfl, vM_rest, Or.inl ⟨rfl, uM_rest, cM_rest l⟩⟩, List.forall_mem_cons.mpr ⟨Or.inr ⟨xy_M_whole, xb_M_whole, 2, (some .int), xr_ 0, 1, 0, 7, [none, none, some 1, none, some 2, some 3, some 4, some 5, some 6, some 7, some 8, none, none, some 9, some 10, some 11, none, some 12, some 13, some 14, some 15, some 16, some 17, some 18, none, some 19, some 20, some 21, none, some 22, some 23, some 24, some 25, some 26, some 27, some 28, none], xk_T7, 37, rfl, rfl, ⟨xe_M_whole, xw_44, ⟨by decide, by decide, by decide +kernel⟩, ⟨Nat.le_of_ble_eq_true rfl, Nat.le_of_ble_eq_true rfl⟩, rfl, rfl⟩, xw_970, xw_972, xw_23, rfl, rfl, vM_whole, Or.inl ⟨rfl, uM_whole, cM_whole l⟩⟩, fun _ h => absurd h List.not_mem_nil⟩⟩) (n, C) h
set_option maxRecDepth 20000 in
set_option maxHeartbeats 2000000 in
theorem cM_restOf (l : Launch) : xm_Pu l xy_M_restOf (Cond.code xy_M_restOf xb_M_restOf 9 (some .long) :: xt_T) (xr_ 3) xk_cl xk_ns xk_tM pM_restOf fM_restOf := by
  refine xm_mk_pu (rt := .long) (fl := xf_M) (ct := tM_restOf) (cn := []) (cj := xj_M) (plainFor_of_name (by decide)) xs_M xd_M_restOf rfl (Or.inr rfl) (lM_restOf l) (fun _ _ _ _ _ _ _ _ => False) ?_ ?_ ?_ (fun _ _ _ _ _ _ _ _ _ h => h.elim) ?_
  · rintro as M ⟨p, y, rfl, ⟨hy, hp1, hB⟩⟩; exact Nat.le_of_ble_eq_true rfl
  · rintro as M ⟨p, y, rfl, ⟨hy, hp1, hB⟩⟩; simp [fM_restOf]
  · rintro as M v ⟨p, y, rfl, ⟨hy, hp1, hB⟩⟩ h; first | rfl | (simp [fM_restOf] at h)
  · rintro as M ⟨p, y, rfl, ⟨hy, hp1, hB⟩⟩
    refine ⟨400, (And.intro rfl (And.intro (Nat.le_of_ble_eq_true rfl) (And.intro (Nat.le_of_ble_eq_true rfl) (And.intro ?g1_c_3 (And.intro (Nat.le_of_ble_eq_true rfl) (And.intro (by decide) (And.intro (fun h8 => (And.intro rfl (And.intro (Nat.le_of_ble_eq_true rfl) (And.intro (Nat.le_of_ble_eq_true rfl) (And.intro ?g2_c_16 (And.intro (Nat.le_of_ble_eq_true rfl) (And.intro rfl (And.intro rfl (And.intro (Nat.le_of_ble_eq_true rfl) (And.intro (Nat.le_of_ble_eq_true rfl) (And.intro ?g3_c_28 (And.intro (Nat.le_of_ble_eq_true rfl) (And.intro (by decide) (And.intro (fun h40 => (And.intro (by decide) (And.intro (fun h51 => ?g4_r_62) (fun h51 => (And.intro (by decide) ?g5_r_62))))) (fun h40 => (And.intro (Nat.le_of_ble_eq_true rfl) (And.intro (by decide) (And.intro (fun h51 => ?g6_r_62) (fun h51 => (And.intro (by decide) ?g7_r_62)))))))))))))))))))) (fun h8 => ?g8_r_12))))))))⟩
    case g1_c_3 =>
      exact ⟨_, _, rfl, hy, hp1, hB⟩
    case g2_c_16 =>
      exact ⟨_, _, rfl, Or.inl rfl, hp1, hB⟩
    case g3_c_28 =>
      exact ⟨_, rfl, hp1⟩
    case g4_r_62 =>
      refine ⟨congrArg (fun z => some (Value.long z)) (?_ : _ = ym_ro M p y), rfl⟩
      unfold ym_ro
      by_cases hz : y = 0
      · rw [ym_xt hz]
        all_goals first | rfl | exact absurd hz h8
      · rw [ym_xf hz]
        by_cases h1 : (M 0 11).toInt64 * (730 * M 6 p.toNatClampNeg).toInt64 < ym_rs M p 0
        · have eo : ym_old M p = (M 0 11).toInt64 * (730 * M 6 p.toNatClampNeg).toInt64 := ym_xt h1
          by_cases h2 : 0 < ym_old M p
          · have h3 := h2
            rw [eo] at h3
            rw [ym_xt h2, eo]
            all_goals first | rfl | exact absurd h8 hz | exact absurd h1 (Int64.not_lt.mpr ((lg_cmp_le _ _).mp h40)) | exact absurd h3 (Int64.not_lt.mpr ((lg_cmp_le _ _).mp h51))
          · have h3 := h2
            rw [eo] at h3
            rw [ym_xf h2]
            all_goals first | rfl | exact absurd h8 hz | exact absurd h1 (Int64.not_lt.mpr ((lg_cmp_le _ _).mp h40)) | exact absurd ((lg_cmp_le _ _).mpr (Int64.not_lt.mp h3)) h51
        · have eo : ym_old M p = ym_rs M p 0 := ym_xf h1
          by_cases h2 : 0 < ym_old M p
          · have h3 := h2
            rw [eo] at h3
            rw [ym_xt h2, eo]
            all_goals first | rfl | exact absurd h8 hz | exact absurd ((lg_cmp_le _ _).mpr (Int64.not_lt.mp h1)) h40 | exact absurd h3 (Int64.not_lt.mpr ((lg_cmp_le _ _).mp h51))
          · have h3 := h2
            rw [eo] at h3
            rw [ym_xf h2]
            all_goals first | rfl | exact absurd h8 hz | exact absurd ((lg_cmp_le _ _).mpr (Int64.not_lt.mp h1)) h40 | exact absurd ((lg_cmp_le _ _).mpr (Int64.not_lt.mp h3)) h51
    case g5_r_62 =>
      refine ⟨congrArg (fun z => some (Value.long z)) (?_ : _ = ym_ro M p y), rfl⟩
      unfold ym_ro
      by_cases hz : y = 0
      · rw [ym_xt hz]
        all_goals first | rfl | exact absurd hz h8
      · rw [ym_xf hz]
        by_cases h1 : (M 0 11).toInt64 * (730 * M 6 p.toNatClampNeg).toInt64 < ym_rs M p 0
        · have eo : ym_old M p = (M 0 11).toInt64 * (730 * M 6 p.toNatClampNeg).toInt64 := ym_xt h1
          by_cases h2 : 0 < ym_old M p
          · have h3 := h2
            rw [eo] at h3
            rw [ym_xt h2, eo]
            all_goals first | rfl | exact absurd h8 hz | exact absurd h1 (Int64.not_lt.mpr ((lg_cmp_le _ _).mp h40)) | exact absurd h3 (Int64.not_lt.mpr ((lg_cmp_le _ _).mp h51))
          · have h3 := h2
            rw [eo] at h3
            rw [ym_xf h2]
            all_goals first | rfl | exact absurd h8 hz | exact absurd h1 (Int64.not_lt.mpr ((lg_cmp_le _ _).mp h40)) | exact absurd ((lg_cmp_le _ _).mpr (Int64.not_lt.mp h3)) h51
        · have eo : ym_old M p = ym_rs M p 0 := ym_xf h1
          by_cases h2 : 0 < ym_old M p
          · have h3 := h2
            rw [eo] at h3
            rw [ym_xt h2, eo]
            all_goals first | rfl | exact absurd h8 hz | exact absurd ((lg_cmp_le _ _).mpr (Int64.not_lt.mp h1)) h40 | exact absurd h3 (Int64.not_lt.mpr ((lg_cmp_le _ _).mp h51))
          · have h3 := h2
            rw [eo] at h3
            rw [ym_xf h2]
            all_goals first | rfl | exact absurd h8 hz | exact absurd ((lg_cmp_le _ _).mpr (Int64.not_lt.mp h1)) h40 | exact absurd ((lg_cmp_le _ _).mpr (Int64.not_lt.mp h3)) h51
    case g6_r_62 =>
      refine ⟨congrArg (fun z => some (Value.long z)) (?_ : _ = ym_ro M p y), rfl⟩
      unfold ym_ro
      by_cases hz : y = 0
      · rw [ym_xt hz]
        all_goals first | rfl | exact absurd hz h8
      · rw [ym_xf hz]
        by_cases h1 : (M 0 11).toInt64 * (730 * M 6 p.toNatClampNeg).toInt64 < ym_rs M p 0
        · have eo : ym_old M p = (M 0 11).toInt64 * (730 * M 6 p.toNatClampNeg).toInt64 := ym_xt h1
          by_cases h2 : 0 < ym_old M p
          · have h3 := h2
            rw [eo] at h3
            rw [ym_xt h2, eo]
            all_goals first | rfl | exact absurd h8 hz | exact absurd h1 (Int64.not_lt.mpr ((lg_cmp_le _ _).mp h40)) | exact absurd h3 (Int64.not_lt.mpr ((lg_cmp_le _ _).mp h51))
          · have h3 := h2
            rw [eo] at h3
            rw [ym_xf h2]
            all_goals first | rfl | exact absurd h8 hz | exact absurd h1 (Int64.not_lt.mpr ((lg_cmp_le _ _).mp h40)) | exact absurd ((lg_cmp_le _ _).mpr (Int64.not_lt.mp h3)) h51
        · have eo : ym_old M p = ym_rs M p 0 := ym_xf h1
          by_cases h2 : 0 < ym_old M p
          · have h3 := h2
            rw [eo] at h3
            rw [ym_xt h2, eo]
            all_goals first | rfl | exact absurd h8 hz | exact absurd ((lg_cmp_le _ _).mpr (Int64.not_lt.mp h1)) h40 | exact absurd h3 (Int64.not_lt.mpr ((lg_cmp_le _ _).mp h51))
          · have h3 := h2
            rw [eo] at h3
            rw [ym_xf h2]
            all_goals first | rfl | exact absurd h8 hz | exact absurd ((lg_cmp_le _ _).mpr (Int64.not_lt.mp h1)) h40 | exact absurd ((lg_cmp_le _ _).mpr (Int64.not_lt.mp h3)) h51
    case g7_r_62 =>
      refine ⟨congrArg (fun z => some (Value.long z)) (?_ : _ = ym_ro M p y), rfl⟩
      unfold ym_ro
      by_cases hz : y = 0
      · rw [ym_xt hz]
        all_goals first | rfl | exact absurd hz h8
      · rw [ym_xf hz]
        by_cases h1 : (M 0 11).toInt64 * (730 * M 6 p.toNatClampNeg).toInt64 < ym_rs M p 0
        · have eo : ym_old M p = (M 0 11).toInt64 * (730 * M 6 p.toNatClampNeg).toInt64 := ym_xt h1
          by_cases h2 : 0 < ym_old M p
          · have h3 := h2
            rw [eo] at h3
            rw [ym_xt h2, eo]
            all_goals first | rfl | exact absurd h8 hz | exact absurd h1 (Int64.not_lt.mpr ((lg_cmp_le _ _).mp h40)) | exact absurd h3 (Int64.not_lt.mpr ((lg_cmp_le _ _).mp h51))
          · have h3 := h2
            rw [eo] at h3
            rw [ym_xf h2]
            all_goals first | rfl | exact absurd h8 hz | exact absurd h1 (Int64.not_lt.mpr ((lg_cmp_le _ _).mp h40)) | exact absurd ((lg_cmp_le _ _).mpr (Int64.not_lt.mp h3)) h51
        · have eo : ym_old M p = ym_rs M p 0 := ym_xf h1
          by_cases h2 : 0 < ym_old M p
          · have h3 := h2
            rw [eo] at h3
            rw [ym_xt h2, eo]
            all_goals first | rfl | exact absurd h8 hz | exact absurd ((lg_cmp_le _ _).mpr (Int64.not_lt.mp h1)) h40 | exact absurd h3 (Int64.not_lt.mpr ((lg_cmp_le _ _).mp h51))
          · have h3 := h2
            rw [eo] at h3
            rw [ym_xf h2]
            all_goals first | rfl | exact absurd h8 hz | exact absurd ((lg_cmp_le _ _).mpr (Int64.not_lt.mp h1)) h40 | exact absurd ((lg_cmp_le _ _).mpr (Int64.not_lt.mp h3)) h51
    case g8_r_12 =>
      refine ⟨congrArg (fun z => some (Value.long z)) (?_ : _ = ym_ro M p y), rfl⟩
      unfold ym_ro
      by_cases hz : y = 0
      · rw [ym_xt hz]
        all_goals first | rfl | exact absurd hz h8
      · rw [ym_xf hz]
        by_cases h1 : (M 0 11).toInt64 * (730 * M 6 p.toNatClampNeg).toInt64 < ym_rs M p 0
        · have eo : ym_old M p = (M 0 11).toInt64 * (730 * M 6 p.toNatClampNeg).toInt64 := ym_xt h1
          by_cases h2 : 0 < ym_old M p
          · have h3 := h2
            rw [eo] at h3
            rw [ym_xt h2, eo]
            all_goals first | rfl | exact absurd h8 hz | exact absurd h1 (Int64.not_lt.mpr ((lg_cmp_le _ _).mp h40)) | exact absurd h3 (Int64.not_lt.mpr ((lg_cmp_le _ _).mp h51))
          · have h3 := h2
            rw [eo] at h3
            rw [ym_xf h2]
            all_goals first | rfl | exact absurd h8 hz | exact absurd h1 (Int64.not_lt.mpr ((lg_cmp_le _ _).mp h40)) | exact absurd ((lg_cmp_le _ _).mpr (Int64.not_lt.mp h3)) h51
        · have eo : ym_old M p = ym_rs M p 0 := ym_xf h1
          by_cases h2 : 0 < ym_old M p
          · have h3 := h2
            rw [eo] at h3
            rw [ym_xt h2, eo]
            all_goals first | rfl | exact absurd h8 hz | exact absurd ((lg_cmp_le _ _).mpr (Int64.not_lt.mp h1)) h40 | exact absurd h3 (Int64.not_lt.mpr ((lg_cmp_le _ _).mp h51))
          · have h3 := h2
            rw [eo] at h3
            rw [ym_xf h2]
            all_goals first | rfl | exact absurd h8 hz | exact absurd ((lg_cmp_le _ _).mpr (Int64.not_lt.mp h1)) h40 | exact absurd ((lg_cmp_le _ _).mpr (Int64.not_lt.mp h3)) h51
def pM_isEnough (as : List Value) (M : xm_M) : Prop := ∃ p : Int32, as = [.ref 0, .int p] ∧ vp_in p 20 ∧ xv_B M
noncomputable def fM_isEnough (as : List Value) (M : xm_M) : Option Value × xm_M := match as with
  | [_, .int p] => (some (.int (xi_b (ym_en M p))), M)
  | _ => (none, M)
noncomputable abbrev sM_isEnough : xm_C := (0, 2, 0, pM_isEnough, fM_isEnough)
theorem uM_isEnough : ∀ as M, (fM_isEnough as M).2 = M := by
  intro as M
  unfold fM_isEnough
  split <;> rfl
theorem vM_isEnough : ∀ as M, pM_isEnough as M → ∃ as1, as = .ref 0 :: as1 := by
  rintro as M ⟨p, rfl, ⟨hp1, hB⟩⟩
  exact ⟨_, rfl⟩
noncomputable def tM_isEnough : List (Nat × xm_C) := [(148, sM_restOf)]
theorem lM_isEnough (l : Launch) : ∀ n C, (n, C) ∈ tM_isEnough → xm_lkS l "AbsenceRowsModel" xt_T xk_ns (xr_ 4) xk_cl xk_tM n C ∨ xm_lkV l "AbsenceRowsModel" xt_T xk_ns (xr_ 4) xk_cl xk_tM n C := fun n C h => (show ∀ q ∈ tM_isEnough, xm_lkS l "AbsenceRowsModel" xt_T xk_ns (xr_ 4) xk_cl xk_tM q.1 q.2 ∨ xm_lkV l "AbsenceRowsModel" xt_T xk_ns (xr_ 4) xk_cl xk_tM q.1 q.2 from List.forall_mem_cons.mpr ⟨Or.inr ⟨xy_M_restOf, xb_M_restOf, 9, (some .long), xr_ 3, 2, 0, 7, [none, none, some 1, none, some 2, some 3, some 4, some 5, some 6, some 7, some 8, none, none, some 9, some 10, some 11, none, some 12, some 13, some 14, some 15, some 16, some 17, some 18, none, some 19, some 20, some 21, none, some 22, some 23, some 24, some 25, some 26, some 27, some 28, none], xk_T7, 37, rfl, rfl, ⟨xe_M_restOf, xw_44, ⟨by decide, by decide, by decide +kernel⟩, ⟨Nat.le_of_ble_eq_true rfl, Nat.le_of_ble_eq_true rfl⟩, rfl, rfl⟩, xw_948, xw_950, xw_18, rfl, rfl, vM_restOf, Or.inl ⟨rfl, uM_restOf, cM_restOf l⟩⟩, fun _ h => absurd h List.not_mem_nil⟩) (n, C) h
set_option maxRecDepth 20000 in
set_option maxHeartbeats 2000000 in
theorem cM_isEnough (l : Launch) : xm_Pu l xy_M_isEnough (Cond.code xy_M_isEnough xb_M_isEnough 2 (some .boolean) :: xt_T) (xr_ 4) xk_cl xk_ns xk_tM pM_isEnough fM_isEnough := by
  refine xm_mk_pu (rt := .boolean) (fl := xf_M) (ct := tM_isEnough) (cn := []) (cj := xj_M) (plainFor_of_name (by decide)) xs_M xd_M_isEnough rfl (Or.inr rfl) (lM_isEnough l) (fun _ _ _ _ _ _ _ _ => False) ?_ ?_ ?_ (fun _ _ _ _ _ _ _ _ _ h => h.elim) ?_
  · rintro as M ⟨p, rfl, ⟨hp1, hB⟩⟩; exact Nat.le_of_ble_eq_true rfl
  · rintro as M ⟨p, rfl, ⟨hp1, hB⟩⟩; simp [fM_isEnough]
  · rintro as M v ⟨p, rfl, ⟨hp1, hB⟩⟩ h; first | rfl | (simp [fM_isEnough] at h)
  · rintro as M ⟨p, rfl, ⟨hp1, hB⟩⟩
    refine ⟨400, (And.intro rfl (And.intro (Nat.le_of_ble_eq_true rfl) (And.intro (Nat.le_of_ble_eq_true rfl) (And.intro ?g1_c_3 (And.intro (by decide) (And.intro (fun h8 => (And.intro ?g2_w_27 ?g3_r_27)) (fun h8 => (And.intro rfl (And.intro (Nat.le_of_ble_eq_true rfl) (And.intro (Nat.le_of_ble_eq_true rfl) (And.intro ?g4_c_14 (And.intro (by decide) (And.intro (fun h19 => (And.intro ?g5_w_27 ?g6_r_27)) (fun h19 => (And.intro (by decide) (And.intro ?g7_w_27 ?g8_r_27))))))))))))))))⟩
    case g1_c_3 =>
      exact ⟨_, _, rfl, Or.inl rfl, hp1, hB⟩
    case g2_w_27 =>
      first | rfl | exact xi_nb
    case g3_r_27 =>
      refine ⟨xl_some ?_, rfl⟩
      first
      | exact (xi_t ⟨Int64.not_lt.mp (fun z => h8 ((lg_cmp_lt _ _).mpr z)), Int64.not_lt.mp (fun z => h19 ((lg_cmp_lt _ _).mpr z))⟩).symm
      | exact (xi_f (fun z => absurd z.2 (Int64.not_le.mpr ((lg_cmp_lt _ _).mp h19)))).symm
      | exact (xi_f (fun z => absurd z.1 (Int64.not_le.mpr ((lg_cmp_lt _ _).mp h8)))).symm
    case g4_c_14 =>
      exact ⟨_, _, rfl, Or.inr rfl, hp1, hB⟩
    case g5_w_27 =>
      first | rfl | exact xi_nb
    case g6_r_27 =>
      refine ⟨xl_some ?_, rfl⟩
      first
      | exact (xi_t ⟨Int64.not_lt.mp (fun z => h8 ((lg_cmp_lt _ _).mpr z)), Int64.not_lt.mp (fun z => h19 ((lg_cmp_lt _ _).mpr z))⟩).symm
      | exact (xi_f (fun z => absurd z.2 (Int64.not_le.mpr ((lg_cmp_lt _ _).mp h19)))).symm
      | exact (xi_f (fun z => absurd z.1 (Int64.not_le.mpr ((lg_cmp_lt _ _).mp h8)))).symm
    case g7_w_27 =>
      first | rfl | exact xi_nb
    case g8_r_27 =>
      refine ⟨xl_some ?_, rfl⟩
      first
      | exact (xi_t ⟨Int64.not_lt.mp (fun z => h8 ((lg_cmp_lt _ _).mpr z)), Int64.not_lt.mp (fun z => h19 ((lg_cmp_lt _ _).mpr z))⟩).symm
      | exact (xi_f (fun z => absurd z.2 (Int64.not_le.mpr ((lg_cmp_lt _ _).mp h19)))).symm
      | exact (xi_f (fun z => absurd z.1 (Int64.not_le.mpr ((lg_cmp_lt _ _).mp h8)))).symm
def pM_put (as : List Value) (M : xm_M) : Prop := ∃ p k f t h : Int32, as = [.ref 0, .int p, .int k, .int f, .int t, .int h] ∧ vp_in (M 0 16) 81
noncomputable def fM_put (as : List Value) (M : xm_M) : Option Value × xm_M := match as with
  | [_, .int p, .int k, .int f, .int t, .int h] => (none, (xm_up (xm_up (xm_up (xm_up (xm_up (xm_up (xm_up (xm_up M 12 (M 0 16).toNatClampNeg p) 13 (M 0 16).toNatClampNeg k) 14 (M 0 16).toNatClampNeg f) 15 (M 0 16).toNatClampNeg t) 16 (M 0 16).toNatClampNeg h) 17 (M 0 16).toNatClampNeg (xi_x (k = 1) 2 0)) 18 (M 0 16).toNatClampNeg (-1)) 0 16 (M 0 16 + 1)))
  | _ => (none, M)
noncomputable abbrev sM_put : xm_C := (0, 6, 1, pM_put, fM_put)
theorem vM_put : ∀ as M, pM_put as M → ∃ as1, as = .ref 0 :: as1 := by
  rintro as M ⟨p, k, f, t, h, rfl, hpre⟩
  exact ⟨_, rfl⟩
noncomputable def tM_put : List (Nat × xm_C) := []
theorem lM_put (l : Launch) : ∀ n C, (n, C) ∈ tM_put → xm_lkS l "AbsenceRowsModel" xt_T xk_ns (xr_ 0) xk_cl xk_tM n C ∨ xm_lkV l "AbsenceRowsModel" xt_T xk_ns (xr_ 0) xk_cl xk_tM n C := fun n C h => (show ∀ q ∈ tM_put, xm_lkS l "AbsenceRowsModel" xt_T xk_ns (xr_ 0) xk_cl xk_tM q.1 q.2 ∨ xm_lkV l "AbsenceRowsModel" xt_T xk_ns (xr_ 0) xk_cl xk_tM q.1 q.2 from fun _ h => absurd h List.not_mem_nil) (n, C) h
set_option maxRecDepth 20000 in
set_option maxHeartbeats 2000000 in
theorem cM_put (l : Launch) : xm_Wr l xy_M_put (Cond.code xy_M_put xb_M_put 6 none :: xt_T) (xr_ 0) xk_cl xk_ns xk_tM pM_put fM_put := by
  refine xm_mk_wr (rt := .int) (fl := xf_M) (ct := tM_put) (cn := []) (cj := xj_M) (plainFor_of_name (by decide)) xs_M xd_M_put rfl (Or.inl rfl) (lM_put l) (fun _ _ _ _ _ _ _ _ => False) ?_ ?_ ?_ (fun _ _ _ _ _ _ _ _ _ h => h.elim) ?_
  · rintro as M ⟨p, k, f, t, h, rfl, hpre⟩; exact Nat.le_of_ble_eq_true rfl
  · rintro as M ⟨p, k, f, t, h, rfl, hpre⟩; simp [fM_put]
  · rintro as M v ⟨p, k, f, t, h, rfl, hpre⟩ h; first | rfl | (simp [fM_put] at h)
  · rintro as M ⟨p, k, f, t, h, rfl, hpre⟩
    refine ⟨400, (And.intro rfl (And.intro rfl (And.intro rfl (And.intro ?g1_i_9 (And.intro rfl (And.intro rfl (And.intro rfl (And.intro ?g2_i_19 (And.intro rfl (And.intro rfl (And.intro rfl (And.intro ?g3_i_29 (And.intro rfl (And.intro rfl (And.intro rfl (And.intro ?g4_i_40 (And.intro rfl (And.intro rfl (And.intro rfl (And.intro ?g5_i_51 (And.intro rfl (And.intro rfl (And.intro (by decide) (And.intro (fun h62 => (And.intro rfl (And.intro ?g6_i_70 (And.intro rfl (And.intro rfl (And.intro rfl (And.intro ?g7_i_80 (And.intro rfl (And.intro rfl (And.intro rfl ?g8_r_91)))))))))) (fun h62 => (And.intro (by decide) (And.intro rfl (And.intro ?g9_i_70 (And.intro rfl (And.intro rfl (And.intro rfl (And.intro ?g10_i_80 (And.intro rfl (And.intro rfl (And.intro rfl ?g11_r_91)))))))))))))))))))))))))))))))))))⟩
    case g1_i_9 =>
      exact hpre
    case g2_i_19 =>
      exact hpre
    case g3_i_29 =>
      exact hpre
    case g4_i_40 =>
      exact hpre
    case g5_i_51 =>
      exact hpre
    case g6_i_70 =>
      exact hpre
    case g7_i_80 =>
      exact hpre
    case g8_r_91 =>
      refine ⟨rfl, ?_⟩
      by_cases hz : k = 1
      · simp only [fM_put, xi_xt hz]
        first | rfl | exact absurd hz h62
      · simp only [fM_put, xi_xf hz]
        first | rfl | exact absurd h62 hz
    case g9_i_70 =>
      exact hpre
    case g10_i_80 =>
      exact hpre
    case g11_r_91 =>
      refine ⟨rfl, ?_⟩
      by_cases hz : k = 1
      · simp only [fM_put, xi_xt hz]
        first | rfl | exact absurd hz h62
      · simp only [fM_put, xi_xf hz]
        first | rfl | exact absurd h62 hz
