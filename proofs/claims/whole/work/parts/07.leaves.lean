def pA_isWithin (as : List Value) (M : xm_M) : Prop := ∃ x lo hi : Int32, as = [.int x, .int lo, .int hi]
noncomputable def fA_isWithin (as : List Value) (M : xm_M) : Option Value × xm_M := match as with
  | [.int x, .int lo, .int hi] => (some (.int (xi_b (lo ≤ x ∧ x ≤ hi))), M)
  | _ => (none, M)
noncomputable abbrev sA_isWithin : xm_C := (1, 3, 0, pA_isWithin, fA_isWithin)
theorem uA_isWithin : ∀ as M, (fA_isWithin as M).2 = M := by
  intro as M
  unfold fA_isWithin
  split <;> rfl
noncomputable def tA_isWithin : List (Nat × xm_C) := []
theorem lA_isWithin (l : Launch) : ∀ n C, (n, C) ∈ tA_isWithin → xm_lkS l "AbsenceRows" xt_T xk_ns (xr_ 0) xk_cl xk_tA n C ∨ xm_lkV l "AbsenceRows" xt_T xk_ns (xr_ 0) xk_cl xk_tA n C := fun n C h => (show ∀ q ∈ tA_isWithin, xm_lkS l "AbsenceRows" xt_T xk_ns (xr_ 0) xk_cl xk_tA q.1 q.2 ∨ xm_lkV l "AbsenceRows" xt_T xk_ns (xr_ 0) xk_cl xk_tA q.1 q.2 from fun _ h => absurd h List.not_mem_nil) (n, C) h
set_option maxRecDepth 20000 in
set_option maxHeartbeats 2000000 in
theorem cA_isWithin (l : Launch) : xm_Pu l xy_A_isWithin (Cond.code xy_A_isWithin xb_A_isWithin 3 (some .boolean) :: xt_T) (xr_ 0) xk_cl xk_ns xk_tA pA_isWithin fA_isWithin := by
  refine xm_mk_pu (rt := .boolean) (fl := xf_A) (ct := tA_isWithin) (cn := []) (cj := []) (plainFor_of_name (by decide)) xs_A xd_A_isWithin rfl (Or.inr rfl) (lA_isWithin l) (fun _ _ _ _ _ _ _ _ => False) ?_ ?_ ?_ (fun _ _ _ _ _ _ _ _ _ h => h.elim) ?_
  · rintro as M ⟨x, lo, hi, rfl⟩; exact Nat.le_of_ble_eq_true rfl
  · rintro as M ⟨x, lo, hi, rfl⟩; simp [fA_isWithin]
  · rintro as M v ⟨x, lo, hi, rfl⟩ h; first | rfl | (simp [fA_isWithin] at h)
  · rintro as M ⟨x, lo, hi, rfl⟩
    refine ⟨400, (And.intro (by decide) (And.intro (fun h2 => (And.intro ?g1_w_15 ?g2_r_15)) (fun h2 => (And.intro (by decide) (And.intro (fun h7 => (And.intro ?g3_w_15 ?g4_r_15)) (fun h7 => (And.intro (by decide) (And.intro ?g5_w_15 ?g6_r_15))))))))⟩
    case g1_w_15 =>
      first | rfl | exact xi_nb
    case g2_r_15 =>
      refine ⟨congrArg (fun z => some (Value.int z)) ?_, rfl⟩
      try simp only [xi_0, xi_n0] at *
      first | exact (xi_t (by grind [Int32.not_lt, Int32.not_le])).symm | exact (xi_f (by grind [Int32.not_lt, Int32.not_le])).symm
    case g3_w_15 =>
      first | rfl | exact xi_nb
    case g4_r_15 =>
      refine ⟨congrArg (fun z => some (Value.int z)) ?_, rfl⟩
      try simp only [xi_0, xi_n0] at *
      first | exact (xi_t (by grind [Int32.not_lt, Int32.not_le])).symm | exact (xi_f (by grind [Int32.not_lt, Int32.not_le])).symm
    case g5_w_15 =>
      first | rfl | exact xi_nb
    case g6_r_15 =>
      refine ⟨congrArg (fun z => some (Value.int z)) ?_, rfl⟩
      try simp only [xi_0, xi_n0] at *
      first | exact (xi_t (by grind [Int32.not_lt, Int32.not_le])).symm | exact (xi_f (by grind [Int32.not_lt, Int32.not_le])).symm
def pA_isDay (as : List Value) (M : xm_M) : Prop := ∃ d : Int32, as = [.int d]
noncomputable def fA_isDay (as : List Value) (M : xm_M) : Option Value × xm_M := match as with
  | [.int d] => (some (.int (xi_b (0 ≤ d ∧ d ≤ 729))), M)
  | _ => (none, M)
noncomputable abbrev sA_isDay : xm_C := (1, 1, 0, pA_isDay, fA_isDay)
theorem uA_isDay : ∀ as M, (fA_isDay as M).2 = M := by
  intro as M
  unfold fA_isDay
  split <;> rfl
noncomputable def tA_isDay : List (Nat × xm_C) := [(61, sA_isWithin)]
theorem lA_isDay (l : Launch) : ∀ n C, (n, C) ∈ tA_isDay → xm_lkS l "AbsenceRows" xt_T xk_ns (xr_ 1) xk_cl xk_tA n C ∨ xm_lkV l "AbsenceRows" xt_T xk_ns (xr_ 1) xk_cl xk_tA n C := fun n C h => (show ∀ q ∈ tA_isDay, xm_lkS l "AbsenceRows" xt_T xk_ns (xr_ 1) xk_cl xk_tA q.1 q.2 ∨ xm_lkV l "AbsenceRows" xt_T xk_ns (xr_ 1) xk_cl xk_tA q.1 q.2 from List.forall_mem_cons.mpr ⟨Or.inl ⟨xy_A_isWithin, xb_A_isWithin, 3, (some .boolean), xr_ 0, rfl, ⟨xe_A_isWithin, xw_37, ⟨by decide, by decide, by decide +kernel⟩, ⟨Nat.le_of_ble_eq_true rfl, Nat.le_of_ble_eq_true rfl⟩, rfl, rfl⟩, xw_269, Or.inl xw_268, Or.inl ⟨rfl, uA_isWithin, cA_isWithin l⟩⟩, fun _ h => absurd h List.not_mem_nil⟩) (n, C) h
set_option maxRecDepth 20000 in
set_option maxHeartbeats 2000000 in
theorem cA_isDay (l : Launch) : xm_Pu l xy_A_isDay (Cond.code xy_A_isDay xb_A_isDay 1 (some .boolean) :: xt_T) (xr_ 1) xk_cl xk_ns xk_tA pA_isDay fA_isDay := by
  refine xm_mk_pu (rt := .boolean) (fl := xf_A) (ct := tA_isDay) (cn := []) (cj := []) (plainFor_of_name (by decide)) xs_A xd_A_isDay rfl (Or.inr rfl) (lA_isDay l) (fun _ _ _ _ _ _ _ _ => False) ?_ ?_ ?_ (fun _ _ _ _ _ _ _ _ _ h => h.elim) ?_
  · rintro as M ⟨d, rfl⟩; exact Nat.le_of_ble_eq_true rfl
  · rintro as M ⟨d, rfl⟩; simp [fA_isDay]
  · rintro as M v ⟨d, rfl⟩ h; first | rfl | (simp [fA_isDay] at h)
  · rintro as M ⟨d, rfl⟩
    refine ⟨400, (And.intro rfl (And.intro (Nat.le_of_ble_eq_true rfl) (And.intro (Nat.le_of_ble_eq_true rfl) (And.intro ?g1_c_5 (And.intro ?g2_w_8 ?g3_r_8)))))⟩
    case g1_c_5 =>
      exact ⟨_, _, _, rfl⟩
    case g2_w_8 =>
      first | rfl | exact xi_nb
    case g3_r_8 =>
      exact ⟨rfl, rfl⟩
def pA_isSpan (as : List Value) (M : xm_M) : Prop := ∃ f t : Int32, as = [.int f, .int t]
noncomputable def fA_isSpan (as : List Value) (M : xm_M) : Option Value × xm_M := match as with
  | [.int f, .int t] => (some (.int (xi_b ((0 ≤ f ∧ f ≤ 729) ∧ (0 ≤ t ∧ t ≤ 729) ∧ f ≤ t))), M)
  | _ => (none, M)
noncomputable abbrev sA_isSpan : xm_C := (1, 2, 0, pA_isSpan, fA_isSpan)
theorem uA_isSpan : ∀ as M, (fA_isSpan as M).2 = M := by
  intro as M
  unfold fA_isSpan
  split <;> rfl
noncomputable def tA_isSpan : List (Nat × xm_C) := [(65, sA_isDay)]
theorem lA_isSpan (l : Launch) : ∀ n C, (n, C) ∈ tA_isSpan → xm_lkS l "AbsenceRows" xt_T xk_ns (xr_ 2) xk_cl xk_tA n C ∨ xm_lkV l "AbsenceRows" xt_T xk_ns (xr_ 2) xk_cl xk_tA n C := fun n C h => (show ∀ q ∈ tA_isSpan, xm_lkS l "AbsenceRows" xt_T xk_ns (xr_ 2) xk_cl xk_tA q.1 q.2 ∨ xm_lkV l "AbsenceRows" xt_T xk_ns (xr_ 2) xk_cl xk_tA q.1 q.2 from List.forall_mem_cons.mpr ⟨Or.inl ⟨xy_A_isDay, xb_A_isDay, 1, (some .boolean), xr_ 1, rfl, ⟨xe_A_isDay, xw_37, ⟨by decide, by decide, by decide +kernel⟩, ⟨Nat.le_of_ble_eq_true rfl, Nat.le_of_ble_eq_true rfl⟩, rfl, rfl⟩, xw_272, Or.inl xw_271, Or.inl ⟨rfl, uA_isDay, cA_isDay l⟩⟩, fun _ h => absurd h List.not_mem_nil⟩) (n, C) h
set_option maxRecDepth 20000 in
set_option maxHeartbeats 2000000 in
theorem cA_isSpan (l : Launch) : xm_Pu l xy_A_isSpan (Cond.code xy_A_isSpan xb_A_isSpan 2 (some .boolean) :: xt_T) (xr_ 2) xk_cl xk_ns xk_tA pA_isSpan fA_isSpan := by
  refine xm_mk_pu (rt := .boolean) (fl := xf_A) (ct := tA_isSpan) (cn := []) (cj := []) (plainFor_of_name (by decide)) xs_A xd_A_isSpan rfl (Or.inr rfl) (lA_isSpan l) (fun _ _ _ _ _ _ _ _ => False) ?_ ?_ ?_ (fun _ _ _ _ _ _ _ _ _ h => h.elim) ?_
  · rintro as M ⟨f, t, rfl⟩; exact Nat.le_of_ble_eq_true rfl
  · rintro as M ⟨f, t, rfl⟩; simp [fA_isSpan]
  · rintro as M v ⟨f, t, rfl⟩ h; first | rfl | (simp [fA_isSpan] at h)
  · rintro as M ⟨f, t, rfl⟩
    refine ⟨400, (And.intro rfl (And.intro (Nat.le_of_ble_eq_true rfl) (And.intro (Nat.le_of_ble_eq_true rfl) (And.intro ?g1_c_1 (And.intro (by decide) (And.intro (fun h4 => (And.intro ?g2_w_24 ?g3_r_24)) (fun h4 => (And.intro rfl (And.intro (Nat.le_of_ble_eq_true rfl) (And.intro (Nat.le_of_ble_eq_true rfl) (And.intro ?g4_c_8 (And.intro (by decide) (And.intro (fun h11 => (And.intro ?g5_w_24 ?g6_r_24)) (fun h11 => (And.intro (by decide) (And.intro (fun h16 => (And.intro ?g7_w_24 ?g8_r_24)) (fun h16 => (And.intro (by decide) (And.intro ?g9_w_24 ?g10_r_24)))))))))))))))))))⟩
    case g1_c_1 =>
      exact ⟨_, rfl⟩
    case g2_w_24 =>
      first | rfl | exact xi_nb
    case g3_r_24 =>
      refine ⟨congrArg (fun z => some (Value.int z)) ?_, rfl⟩
      try simp only [xi_0, xi_n0] at *
      first | exact (xi_t (by grind [Int32.not_lt, Int32.not_le])).symm | exact (xi_f (by grind [Int32.not_lt, Int32.not_le])).symm
    case g4_c_8 =>
      exact ⟨_, rfl⟩
    case g5_w_24 =>
      first | rfl | exact xi_nb
    case g6_r_24 =>
      refine ⟨congrArg (fun z => some (Value.int z)) ?_, rfl⟩
      try simp only [xi_0, xi_n0] at *
      first | exact (xi_t (by grind [Int32.not_lt, Int32.not_le])).symm | exact (xi_f (by grind [Int32.not_lt, Int32.not_le])).symm
    case g7_w_24 =>
      first | rfl | exact xi_nb
    case g8_r_24 =>
      refine ⟨congrArg (fun z => some (Value.int z)) ?_, rfl⟩
      try simp only [xi_0, xi_n0] at *
      first | exact (xi_t (by grind [Int32.not_lt, Int32.not_le])).symm | exact (xi_f (by grind [Int32.not_lt, Int32.not_le])).symm
    case g9_w_24 =>
      first | rfl | exact xi_nb
    case g10_r_24 =>
      refine ⟨congrArg (fun z => some (Value.int z)) ?_, rfl⟩
      try simp only [xi_0, xi_n0] at *
      first | exact (xi_t (by grind [Int32.not_lt, Int32.not_le])).symm | exact (xi_f (by grind [Int32.not_lt, Int32.not_le])).symm
def pA_yearOf (as : List Value) (M : xm_M) : Prop := ∃ d : Int32, as = [.int d]
noncomputable def fA_yearOf (as : List Value) (M : xm_M) : Option Value × xm_M := match as with
  | [.int d] => (some (.int (d / 365)), M)
  | _ => (none, M)
noncomputable abbrev sA_yearOf : xm_C := (1, 1, 0, pA_yearOf, fA_yearOf)
theorem uA_yearOf : ∀ as M, (fA_yearOf as M).2 = M := by
  intro as M
  unfold fA_yearOf
  split <;> rfl
noncomputable def tA_yearOf : List (Nat × xm_C) := []
theorem lA_yearOf (l : Launch) : ∀ n C, (n, C) ∈ tA_yearOf → xm_lkS l "AbsenceRows" xt_T xk_ns (xr_ 0) xk_cl xk_tA n C ∨ xm_lkV l "AbsenceRows" xt_T xk_ns (xr_ 0) xk_cl xk_tA n C := fun n C h => (show ∀ q ∈ tA_yearOf, xm_lkS l "AbsenceRows" xt_T xk_ns (xr_ 0) xk_cl xk_tA q.1 q.2 ∨ xm_lkV l "AbsenceRows" xt_T xk_ns (xr_ 0) xk_cl xk_tA q.1 q.2 from fun _ h => absurd h List.not_mem_nil) (n, C) h
set_option maxRecDepth 20000 in
set_option maxHeartbeats 2000000 in
theorem cA_yearOf (l : Launch) : xm_Pu l xy_A_yearOf (Cond.code xy_A_yearOf xb_A_yearOf 1 (some .int) :: xt_T) (xr_ 0) xk_cl xk_ns xk_tA pA_yearOf fA_yearOf := by
  refine xm_mk_pu (rt := .int) (fl := xf_A) (ct := tA_yearOf) (cn := []) (cj := []) (plainFor_of_name (by decide)) xs_A xd_A_yearOf rfl (Or.inr rfl) (lA_yearOf l) (fun _ _ _ _ _ _ _ _ => False) ?_ ?_ ?_ (fun _ _ _ _ _ _ _ _ _ h => h.elim) ?_
  · rintro as M ⟨d, rfl⟩; exact Nat.le_of_ble_eq_true rfl
  · rintro as M ⟨d, rfl⟩; simp [fA_yearOf]
  · rintro as M v ⟨d, rfl⟩ h; first | rfl | (simp [fA_yearOf] at h)
  · rintro as M ⟨d, rfl⟩
    refine ⟨400, (And.intro ?g1_n_4 (And.intro ?g2_w_5 ?g3_r_5))⟩
    case g1_n_4 =>
      decide
    case g2_w_5 =>
      first | rfl | exact xi_nb
    case g3_r_5 =>
      exact ⟨rfl, rfl⟩
def pA_areHalves (as : List Value) (M : xm_M) : Prop := ∃ h f t : Int32, as = [.int h, .int f, .int t]
noncomputable def fA_areHalves (as : List Value) (M : xm_M) : Option Value × xm_M := match as with
  | [.int h, .int f, .int t] => (some (.int (xi_b ((0 ≤ h ∧ h ≤ 3) ∧ ¬ (h = 3 ∧ f = t)))), M)
  | _ => (none, M)
noncomputable abbrev sA_areHalves : xm_C := (1, 3, 0, pA_areHalves, fA_areHalves)
theorem uA_areHalves : ∀ as M, (fA_areHalves as M).2 = M := by
  intro as M
  unfold fA_areHalves
  split <;> rfl
noncomputable def tA_areHalves : List (Nat × xm_C) := [(61, sA_isWithin)]
theorem lA_areHalves (l : Launch) : ∀ n C, (n, C) ∈ tA_areHalves → xm_lkS l "AbsenceRows" xt_T xk_ns (xr_ 1) xk_cl xk_tA n C ∨ xm_lkV l "AbsenceRows" xt_T xk_ns (xr_ 1) xk_cl xk_tA n C := fun n C h => (show ∀ q ∈ tA_areHalves, xm_lkS l "AbsenceRows" xt_T xk_ns (xr_ 1) xk_cl xk_tA q.1 q.2 ∨ xm_lkV l "AbsenceRows" xt_T xk_ns (xr_ 1) xk_cl xk_tA q.1 q.2 from List.forall_mem_cons.mpr ⟨Or.inl ⟨xy_A_isWithin, xb_A_isWithin, 3, (some .boolean), xr_ 0, rfl, ⟨xe_A_isWithin, xw_37, ⟨by decide, by decide, by decide +kernel⟩, ⟨Nat.le_of_ble_eq_true rfl, Nat.le_of_ble_eq_true rfl⟩, rfl, rfl⟩, xw_269, Or.inl xw_268, Or.inl ⟨rfl, uA_isWithin, cA_isWithin l⟩⟩, fun _ h => absurd h List.not_mem_nil⟩) (n, C) h
set_option maxRecDepth 20000 in
set_option maxHeartbeats 2000000 in
theorem cA_areHalves (l : Launch) : xm_Pu l xy_A_areHalves (Cond.code xy_A_areHalves xb_A_areHalves 3 (some .boolean) :: xt_T) (xr_ 1) xk_cl xk_ns xk_tA pA_areHalves fA_areHalves := by
  refine xm_mk_pu (rt := .boolean) (fl := xf_A) (ct := tA_areHalves) (cn := []) (cj := []) (plainFor_of_name (by decide)) xs_A xd_A_areHalves rfl (Or.inr rfl) (lA_areHalves l) (fun _ _ _ _ _ _ _ _ => False) ?_ ?_ ?_ (fun _ _ _ _ _ _ _ _ _ h => h.elim) ?_
  · rintro as M ⟨h, f, t, rfl⟩; exact Nat.le_of_ble_eq_true rfl
  · rintro as M ⟨h, f, t, rfl⟩; simp [fA_areHalves]
  · rintro as M v ⟨h, f, t, rfl⟩ h; first | rfl | (simp [fA_areHalves] at h)
  · rintro as M ⟨h, f, t, rfl⟩
    refine ⟨400, (And.intro rfl (And.intro (Nat.le_of_ble_eq_true rfl) (And.intro (Nat.le_of_ble_eq_true rfl) (And.intro ?g1_c_3 (And.intro (by decide) (And.intro (fun h6 => (And.intro ?g2_w_24 ?g3_r_24)) (fun h6 => (And.intro (by decide) (And.intro (fun h11 => (And.intro (by decide) (And.intro ?g4_w_24 ?g5_r_24))) (fun h11 => (And.intro (by decide) (And.intro (fun h16 => (And.intro ?g6_w_24 ?g7_r_24)) (fun h16 => (And.intro (by decide) (And.intro ?g8_w_24 ?g9_r_24)))))))))))))))⟩
    case g1_c_3 =>
      exact ⟨_, _, _, rfl⟩
    case g2_w_24 =>
      first | rfl | exact xi_nb
    case g3_r_24 =>
      refine ⟨congrArg (fun z => some (Value.int z)) ?_, rfl⟩
      try simp only [xi_0, xi_n0] at *
      first | exact (xi_t (by grind [Int32.not_lt, Int32.not_le])).symm | exact (xi_f (by grind [Int32.not_lt, Int32.not_le])).symm
    case g4_w_24 =>
      first | rfl | exact xi_nb
    case g5_r_24 =>
      refine ⟨congrArg (fun z => some (Value.int z)) ?_, rfl⟩
      try simp only [xi_0, xi_n0] at *
      first | exact (xi_t (by grind [Int32.not_lt, Int32.not_le])).symm | exact (xi_f (by grind [Int32.not_lt, Int32.not_le])).symm
    case g6_w_24 =>
      first | rfl | exact xi_nb
    case g7_r_24 =>
      refine ⟨congrArg (fun z => some (Value.int z)) ?_, rfl⟩
      try simp only [xi_0, xi_n0] at *
      first | exact (xi_t (by grind [Int32.not_lt, Int32.not_le])).symm | exact (xi_f (by grind [Int32.not_lt, Int32.not_le])).symm
    case g8_w_24 =>
      first | rfl | exact xi_nb
    case g9_r_24 =>
      refine ⟨congrArg (fun z => some (Value.int z)) ?_, rfl⟩
      try simp only [xi_0, xi_n0] at *
      first | exact (xi_t (by grind [Int32.not_lt, Int32.not_le])).symm | exact (xi_f (by grind [Int32.not_lt, Int32.not_le])).symm
def pA_isHalf (as : List Value) (M : xm_M) : Prop := ∃ d f t h : Int32, as = [.int d, .int f, .int t, .int h]
noncomputable def fA_isHalf (as : List Value) (M : xm_M) : Option Value × xm_M := match as with
  | [.int d, .int f, .int t, .int h] => (some (.int (xi_b ((d = f ∧ ¬ h &&& 1 = 0) ∨ (d = t ∧ ¬ h &&& 2 = 0)))), M)
  | _ => (none, M)
noncomputable abbrev sA_isHalf : xm_C := (1, 4, 0, pA_isHalf, fA_isHalf)
theorem uA_isHalf : ∀ as M, (fA_isHalf as M).2 = M := by
  intro as M
  unfold fA_isHalf
  split <;> rfl
noncomputable def tA_isHalf : List (Nat × xm_C) := []
theorem lA_isHalf (l : Launch) : ∀ n C, (n, C) ∈ tA_isHalf → xm_lkS l "AbsenceRows" xt_T xk_ns (xr_ 0) xk_cl xk_tA n C ∨ xm_lkV l "AbsenceRows" xt_T xk_ns (xr_ 0) xk_cl xk_tA n C := fun n C h => (show ∀ q ∈ tA_isHalf, xm_lkS l "AbsenceRows" xt_T xk_ns (xr_ 0) xk_cl xk_tA q.1 q.2 ∨ xm_lkV l "AbsenceRows" xt_T xk_ns (xr_ 0) xk_cl xk_tA q.1 q.2 from fun _ h => absurd h List.not_mem_nil) (n, C) h
set_option maxRecDepth 20000 in
set_option maxHeartbeats 2000000 in
theorem cA_isHalf (l : Launch) : xm_Pu l xy_A_isHalf (Cond.code xy_A_isHalf xb_A_isHalf 4 (some .boolean) :: xt_T) (xr_ 0) xk_cl xk_ns xk_tA pA_isHalf fA_isHalf := by
  refine xm_mk_pu (rt := .boolean) (fl := xf_A) (ct := tA_isHalf) (cn := []) (cj := []) (plainFor_of_name (by decide)) xs_A xd_A_isHalf rfl (Or.inr rfl) (lA_isHalf l) (fun _ _ _ _ _ _ _ _ => False) ?_ ?_ ?_ (fun _ _ _ _ _ _ _ _ _ h => h.elim) ?_
  · rintro as M ⟨d, f, t, h, rfl⟩; exact Nat.le_of_ble_eq_true rfl
  · rintro as M ⟨d, f, t, h, rfl⟩; simp [fA_isHalf]
  · rintro as M v ⟨d, f, t, h, rfl⟩ h; first | rfl | (simp [fA_isHalf] at h)
  · rintro as M ⟨d, f, t, h, rfl⟩
    refine ⟨400, (And.intro (by decide) (And.intro (fun h2 => (And.intro (by decide) (And.intro (fun h13 => (And.intro ?g1_w_27 ?g2_r_27)) (fun h13 => (And.intro (by decide) (And.intro (fun h19 => (And.intro ?g3_w_27 ?g4_r_27)) (fun h19 => (And.intro (by decide) (And.intro ?g5_w_27 ?g6_r_27))))))))) (fun h2 => (And.intro (by decide) (And.intro (fun h8 => (And.intro (by decide) (And.intro ?g7_w_27 ?g8_r_27))) (fun h8 => (And.intro (by decide) (And.intro (fun h13 => (And.intro ?g9_w_27 ?g10_r_27)) (fun h13 => (And.intro (by decide) (And.intro (fun h19 => (And.intro ?g11_w_27 ?g12_r_27)) (fun h19 => (And.intro (by decide) (And.intro ?g13_w_27 ?g14_r_27))))))))))))))⟩
    case g1_w_27 =>
      first | rfl | exact xi_nb
    case g2_r_27 =>
      refine ⟨congrArg (fun z => some (Value.int z)) ?_, rfl⟩
      try simp only [xi_0, xi_n0] at *
      first | exact (xi_t (by grind [Int32.not_lt, Int32.not_le])).symm | exact (xi_f (by grind [Int32.not_lt, Int32.not_le])).symm
    case g3_w_27 =>
      first | rfl | exact xi_nb
    case g4_r_27 =>
      refine ⟨congrArg (fun z => some (Value.int z)) ?_, rfl⟩
      try simp only [xi_0, xi_n0] at *
      first | exact (xi_t (by grind [Int32.not_lt, Int32.not_le])).symm | exact (xi_f (by grind [Int32.not_lt, Int32.not_le])).symm
    case g5_w_27 =>
      first | rfl | exact xi_nb
    case g6_r_27 =>
      refine ⟨congrArg (fun z => some (Value.int z)) ?_, rfl⟩
      try simp only [xi_0, xi_n0] at *
      first | exact (xi_t (by grind [Int32.not_lt, Int32.not_le])).symm | exact (xi_f (by grind [Int32.not_lt, Int32.not_le])).symm
    case g7_w_27 =>
      first | rfl | exact xi_nb
    case g8_r_27 =>
      refine ⟨congrArg (fun z => some (Value.int z)) ?_, rfl⟩
      try simp only [xi_0, xi_n0] at *
      first | exact (xi_t (by grind [Int32.not_lt, Int32.not_le])).symm | exact (xi_f (by grind [Int32.not_lt, Int32.not_le])).symm
    case g9_w_27 =>
      first | rfl | exact xi_nb
    case g10_r_27 =>
      refine ⟨congrArg (fun z => some (Value.int z)) ?_, rfl⟩
      try simp only [xi_0, xi_n0] at *
      first | exact (xi_t (by grind [Int32.not_lt, Int32.not_le])).symm | exact (xi_f (by grind [Int32.not_lt, Int32.not_le])).symm
    case g11_w_27 =>
      first | rfl | exact xi_nb
    case g12_r_27 =>
      refine ⟨congrArg (fun z => some (Value.int z)) ?_, rfl⟩
      try simp only [xi_0, xi_n0] at *
      first | exact (xi_t (by grind [Int32.not_lt, Int32.not_le])).symm | exact (xi_f (by grind [Int32.not_lt, Int32.not_le])).symm
    case g13_w_27 =>
      first | rfl | exact xi_nb
    case g14_r_27 =>
      refine ⟨congrArg (fun z => some (Value.int z)) ?_, rfl⟩
      try simp only [xi_0, xi_n0] at *
      first | exact (xi_t (by grind [Int32.not_lt, Int32.not_le])).symm | exact (xi_f (by grind [Int32.not_lt, Int32.not_le])).symm
def pA_only (as : List Value) (M : xm_M) : Prop := ∃ n : Int32, as = [.int n]
noncomputable def fA_only (as : List Value) (M : xm_M) : Option Value × xm_M := match as with
  | [.int n] => (some (.int (1 <<< (n &&& 31))), M)
  | _ => (none, M)
noncomputable abbrev sA_only : xm_C := (1, 1, 0, pA_only, fA_only)
theorem uA_only : ∀ as M, (fA_only as M).2 = M := by
  intro as M
  unfold fA_only
  split <;> rfl
noncomputable def tA_only : List (Nat × xm_C) := []
theorem lA_only (l : Launch) : ∀ n C, (n, C) ∈ tA_only → xm_lkS l "AbsenceRows" xt_T xk_ns (xr_ 0) xk_cl xk_tA n C ∨ xm_lkV l "AbsenceRows" xt_T xk_ns (xr_ 0) xk_cl xk_tA n C := fun n C h => (show ∀ q ∈ tA_only, xm_lkS l "AbsenceRows" xt_T xk_ns (xr_ 0) xk_cl xk_tA q.1 q.2 ∨ xm_lkV l "AbsenceRows" xt_T xk_ns (xr_ 0) xk_cl xk_tA q.1 q.2 from fun _ h => absurd h List.not_mem_nil) (n, C) h
set_option maxRecDepth 20000 in
set_option maxHeartbeats 2000000 in
theorem cA_only (l : Launch) : xm_Pu l xy_A_only (Cond.code xy_A_only xb_A_only 1 (some .int) :: xt_T) (xr_ 0) xk_cl xk_ns xk_tA pA_only fA_only := by
  refine xm_mk_pu (rt := .int) (fl := xf_A) (ct := tA_only) (cn := []) (cj := []) (plainFor_of_name (by decide)) xs_A xd_A_only rfl (Or.inr rfl) (lA_only l) (fun _ _ _ _ _ _ _ _ => False) ?_ ?_ ?_ (fun _ _ _ _ _ _ _ _ _ h => h.elim) ?_
  · rintro as M ⟨n, rfl⟩; exact Nat.le_of_ble_eq_true rfl
  · rintro as M ⟨n, rfl⟩; simp [fA_only]
  · rintro as M v ⟨n, rfl⟩ h; first | rfl | (simp [fA_only] at h)
  · rintro as M ⟨n, rfl⟩
    refine ⟨400, (And.intro ?g1_w_3 ?g2_r_3)⟩
    case g1_w_3 =>
      first | rfl | exact xi_nb
    case g2_r_3 =>
      exact ⟨rfl, rfl⟩
def pA_holds (as : List Value) (M : xm_M) : Prop := ∃ b n : Int32, as = [.int b, .int n]
noncomputable def fA_holds (as : List Value) (M : xm_M) : Option Value × xm_M := match as with
  | [.int b, .int n] => (some (.int (xi_b (¬ b &&& ((1 : Int32) <<< (n &&& 31)) = 0))), M)
  | _ => (none, M)
noncomputable abbrev sA_holds : xm_C := (1, 2, 0, pA_holds, fA_holds)
theorem uA_holds : ∀ as M, (fA_holds as M).2 = M := by
  intro as M
  unfold fA_holds
  split <;> rfl
noncomputable def tA_holds : List (Nat × xm_C) := [(154, sA_only)]
theorem lA_holds (l : Launch) : ∀ n C, (n, C) ∈ tA_holds → xm_lkS l "AbsenceRows" xt_T xk_ns (xr_ 1) xk_cl xk_tA n C ∨ xm_lkV l "AbsenceRows" xt_T xk_ns (xr_ 1) xk_cl xk_tA n C := fun n C h => (show ∀ q ∈ tA_holds, xm_lkS l "AbsenceRows" xt_T xk_ns (xr_ 1) xk_cl xk_tA q.1 q.2 ∨ xm_lkV l "AbsenceRows" xt_T xk_ns (xr_ 1) xk_cl xk_tA q.1 q.2 from List.forall_mem_cons.mpr ⟨Or.inl ⟨xy_A_only, xb_A_only, 1, (some .int), xr_ 0, rfl, ⟨xe_A_only, xw_37, ⟨by decide, by decide, by decide +kernel⟩, ⟨Nat.le_of_ble_eq_true rfl, Nat.le_of_ble_eq_true rfl⟩, rfl, rfl⟩, xw_529, Or.inl xw_528, Or.inl ⟨rfl, uA_only, cA_only l⟩⟩, fun _ h => absurd h List.not_mem_nil⟩) (n, C) h
set_option maxRecDepth 20000 in
set_option maxHeartbeats 2000000 in
theorem cA_holds (l : Launch) : xm_Pu l xy_A_holds (Cond.code xy_A_holds xb_A_holds 2 (some .boolean) :: xt_T) (xr_ 1) xk_cl xk_ns xk_tA pA_holds fA_holds := by
  refine xm_mk_pu (rt := .boolean) (fl := xf_A) (ct := tA_holds) (cn := []) (cj := []) (plainFor_of_name (by decide)) xs_A xd_A_holds rfl (Or.inr rfl) (lA_holds l) (fun _ _ _ _ _ _ _ _ => False) ?_ ?_ ?_ (fun _ _ _ _ _ _ _ _ _ h => h.elim) ?_
  · rintro as M ⟨b, n, rfl⟩; exact Nat.le_of_ble_eq_true rfl
  · rintro as M ⟨b, n, rfl⟩; simp [fA_holds]
  · rintro as M v ⟨b, n, rfl⟩ h; first | rfl | (simp [fA_holds] at h)
  · rintro as M ⟨b, n, rfl⟩
    refine ⟨400, (And.intro rfl (And.intro (Nat.le_of_ble_eq_true rfl) (And.intro (Nat.le_of_ble_eq_true rfl) (And.intro ?g1_c_2 (And.intro (by decide) (And.intro (fun h6 => (And.intro ?g2_w_14 ?g3_r_14)) (fun h6 => (And.intro (by decide) (And.intro ?g4_w_14 ?g5_r_14)))))))))⟩
    case g1_c_2 =>
      exact ⟨_, rfl⟩
    case g2_w_14 =>
      first | rfl | exact xi_nb
    case g3_r_14 =>
      refine ⟨congrArg (fun z => some (Value.int z)) ?_, rfl⟩
      try simp only [xi_0, xi_n0] at *
      first | exact (xi_t (by grind [Int32.not_lt, Int32.not_le])).symm | exact (xi_f (by grind [Int32.not_lt, Int32.not_le])).symm
    case g4_w_14 =>
      first | rfl | exact xi_nb
    case g5_r_14 =>
      refine ⟨congrArg (fun z => some (Value.int z)) ?_, rfl⟩
      try simp only [xi_0, xi_n0] at *
      first | exact (xi_t (by grind [Int32.not_lt, Int32.not_le])).symm | exact (xi_f (by grind [Int32.not_lt, Int32.not_le])).symm
def pA_partsOfDay (as : List Value) (M : xm_M) : Prop := ∃ d : Int32, as = [.int d]
noncomputable def fA_partsOfDay (as : List Value) (M : xm_M) : Option Value × xm_M := match as with
  | [.int d] => (some (.int (730 * d)), M)
  | _ => (none, M)
noncomputable abbrev sA_partsOfDay : xm_C := (1, 1, 0, pA_partsOfDay, fA_partsOfDay)
theorem uA_partsOfDay : ∀ as M, (fA_partsOfDay as M).2 = M := by
  intro as M
  unfold fA_partsOfDay
  split <;> rfl
noncomputable def tA_partsOfDay : List (Nat × xm_C) := []
theorem lA_partsOfDay (l : Launch) : ∀ n C, (n, C) ∈ tA_partsOfDay → xm_lkS l "AbsenceRows" xt_T xk_ns (xr_ 0) xk_cl xk_tA n C ∨ xm_lkV l "AbsenceRows" xt_T xk_ns (xr_ 0) xk_cl xk_tA n C := fun n C h => (show ∀ q ∈ tA_partsOfDay, xm_lkS l "AbsenceRows" xt_T xk_ns (xr_ 0) xk_cl xk_tA q.1 q.2 ∨ xm_lkV l "AbsenceRows" xt_T xk_ns (xr_ 0) xk_cl xk_tA q.1 q.2 from fun _ h => absurd h List.not_mem_nil) (n, C) h
set_option maxRecDepth 20000 in
set_option maxHeartbeats 2000000 in
theorem cA_partsOfDay (l : Launch) : xm_Pu l xy_A_partsOfDay (Cond.code xy_A_partsOfDay xb_A_partsOfDay 1 (some .int) :: xt_T) (xr_ 0) xk_cl xk_ns xk_tA pA_partsOfDay fA_partsOfDay := by
  refine xm_mk_pu (rt := .int) (fl := xf_A) (ct := tA_partsOfDay) (cn := []) (cj := []) (plainFor_of_name (by decide)) xs_A xd_A_partsOfDay rfl (Or.inr rfl) (lA_partsOfDay l) (fun _ _ _ _ _ _ _ _ => False) ?_ ?_ ?_ (fun _ _ _ _ _ _ _ _ _ h => h.elim) ?_
  · rintro as M ⟨d, rfl⟩; exact Nat.le_of_ble_eq_true rfl
  · rintro as M ⟨d, rfl⟩; simp [fA_partsOfDay]
  · rintro as M v ⟨d, rfl⟩ h; first | rfl | (simp [fA_partsOfDay] at h)
  · rintro as M ⟨d, rfl⟩
    refine ⟨400, (And.intro ?g1_w_5 ?g2_r_5)⟩
    case g1_w_5 =>
      first | rfl | exact xi_nb
    case g2_r_5 =>
      exact ⟨rfl, rfl⟩
def pA_partsOfHalfDay (as : List Value) (M : xm_M) : Prop := ∃ d : Int32, as = [.int d]
noncomputable def fA_partsOfHalfDay (as : List Value) (M : xm_M) : Option Value × xm_M := match as with
  | [.int d] => (some (.int (365 * d)), M)
  | _ => (none, M)
noncomputable abbrev sA_partsOfHalfDay : xm_C := (1, 1, 0, pA_partsOfHalfDay, fA_partsOfHalfDay)
theorem uA_partsOfHalfDay : ∀ as M, (fA_partsOfHalfDay as M).2 = M := by
  intro as M
  unfold fA_partsOfHalfDay
  split <;> rfl
noncomputable def tA_partsOfHalfDay : List (Nat × xm_C) := []
theorem lA_partsOfHalfDay (l : Launch) : ∀ n C, (n, C) ∈ tA_partsOfHalfDay → xm_lkS l "AbsenceRows" xt_T xk_ns (xr_ 0) xk_cl xk_tA n C ∨ xm_lkV l "AbsenceRows" xt_T xk_ns (xr_ 0) xk_cl xk_tA n C := fun n C h => (show ∀ q ∈ tA_partsOfHalfDay, xm_lkS l "AbsenceRows" xt_T xk_ns (xr_ 0) xk_cl xk_tA q.1 q.2 ∨ xm_lkV l "AbsenceRows" xt_T xk_ns (xr_ 0) xk_cl xk_tA q.1 q.2 from fun _ h => absurd h List.not_mem_nil) (n, C) h
set_option maxRecDepth 20000 in
set_option maxHeartbeats 2000000 in
theorem cA_partsOfHalfDay (l : Launch) : xm_Pu l xy_A_partsOfHalfDay (Cond.code xy_A_partsOfHalfDay xb_A_partsOfHalfDay 1 (some .int) :: xt_T) (xr_ 0) xk_cl xk_ns xk_tA pA_partsOfHalfDay fA_partsOfHalfDay := by
  refine xm_mk_pu (rt := .int) (fl := xf_A) (ct := tA_partsOfHalfDay) (cn := []) (cj := []) (plainFor_of_name (by decide)) xs_A xd_A_partsOfHalfDay rfl (Or.inr rfl) (lA_partsOfHalfDay l) (fun _ _ _ _ _ _ _ _ => False) ?_ ?_ ?_ (fun _ _ _ _ _ _ _ _ _ h => h.elim) ?_
  · rintro as M ⟨d, rfl⟩; exact Nat.le_of_ble_eq_true rfl
  · rintro as M ⟨d, rfl⟩; simp [fA_partsOfHalfDay]
  · rintro as M v ⟨d, rfl⟩ h; first | rfl | (simp [fA_partsOfHalfDay] at h)
  · rintro as M ⟨d, rfl⟩
    refine ⟨400, (And.intro ?g1_w_5 ?g2_r_5)⟩
    case g1_w_5 =>
      first | rfl | exact xi_nb
    case g2_r_5 =>
      exact ⟨rfl, rfl⟩
def pP_has (as : List Value) (M : xm_M) : Prop := ∃ x : Int32, as = [.ref 2, .int x]
noncomputable def fP_has (as : List Value) (M : xm_M) : Option Value × xm_M := match as with
  | [_, .int x] => (some (.int (xi_b (0 ≤ x ∧ x ≤ M 2 0 - 1))), M)
  | _ => (none, M)
noncomputable abbrev sP_has : xm_C := (0, 2, 0, pP_has, fP_has)
theorem uP_has : ∀ as M, (fP_has as M).2 = M := by
  intro as M
  unfold fP_has
  split <;> rfl
theorem vP_has : ∀ as M, pP_has as M → ∃ as1, as = .ref 2 :: as1 := by
  rintro as M ⟨x, rfl⟩
  exact ⟨_, rfl⟩
noncomputable def tP_has : List (Nat × xm_C) := [(37, sA_isWithin)]
theorem lP_has (l : Launch) : ∀ n C, (n, C) ∈ tP_has → xm_lkS l "AbsenceRows$Persons" xt_T xk_ns (xr_ 1) xk_cl xk_tA n C ∨ xm_lkV l "AbsenceRows$Persons" xt_T xk_ns (xr_ 1) xk_cl xk_tA n C := fun n C h => (show ∀ q ∈ tP_has, xm_lkS l "AbsenceRows$Persons" xt_T xk_ns (xr_ 1) xk_cl xk_tA q.1 q.2 ∨ xm_lkV l "AbsenceRows$Persons" xt_T xk_ns (xr_ 1) xk_cl xk_tA q.1 q.2 from List.forall_mem_cons.mpr ⟨Or.inl ⟨xy_A_isWithin, xb_A_isWithin, 3, (some .boolean), xr_ 0, rfl, ⟨xe_A_isWithin, xw_37, ⟨by decide, by decide, by decide +kernel⟩, ⟨Nat.le_of_ble_eq_true rfl, Nat.le_of_ble_eq_true rfl⟩, rfl, rfl⟩, xw_269, Or.inr ⟨"AbsenceRows", xn_6⟩, Or.inl ⟨rfl, uA_isWithin, cA_isWithin l⟩⟩, fun _ h => absurd h List.not_mem_nil⟩) (n, C) h
set_option maxRecDepth 20000 in
set_option maxHeartbeats 2000000 in
theorem cP_has (l : Launch) : xm_Pu l xy_P_has (Cond.code xy_P_has xb_P_has 2 (some .boolean) :: xt_T) (xr_ 1) xk_cl xk_ns xk_tA pP_has fP_has := by
  refine xm_mk_pu (rt := .boolean) (fl := xf_P) (ct := tP_has) (cn := []) (cj := []) (plainFor_of_name (by decide)) xs_P xd_P_has rfl (Or.inr rfl) (lP_has l) (fun _ _ _ _ _ _ _ _ => False) ?_ ?_ ?_ (fun _ _ _ _ _ _ _ _ _ h => h.elim) ?_
  · rintro as M ⟨x, rfl⟩; exact Nat.le_of_ble_eq_true rfl
  · rintro as M ⟨x, rfl⟩; simp [fP_has]
  · rintro as M v ⟨x, rfl⟩ h; first | rfl | (simp [fP_has] at h)
  · rintro as M ⟨x, rfl⟩
    refine ⟨400, (And.intro rfl (And.intro rfl (And.intro (Nat.le_of_ble_eq_true rfl) (And.intro (Nat.le_of_ble_eq_true rfl) (And.intro ?g1_c_8 (And.intro ?g2_w_11 ?g3_r_11))))))⟩
    case g1_c_8 =>
      exact ⟨_, _, _, rfl⟩
    case g2_w_11 =>
      first | rfl | exact xi_nb
    case g3_r_11 =>
      exact ⟨rfl, rfl⟩
def pW_has (as : List Value) (M : xm_M) : Prop := ∃ x : Int32, as = [.ref 3, .int x]
noncomputable def fW_has (as : List Value) (M : xm_M) : Option Value × xm_M := match as with
  | [_, .int x] => (some (.int (xi_b (0 ≤ x ∧ x ≤ M 3 0 - 1))), M)
  | _ => (none, M)
noncomputable abbrev sW_has : xm_C := (0, 2, 0, pW_has, fW_has)
theorem uW_has : ∀ as M, (fW_has as M).2 = M := by
  intro as M
  unfold fW_has
  split <;> rfl
theorem vW_has : ∀ as M, pW_has as M → ∃ as1, as = .ref 3 :: as1 := by
  rintro as M ⟨x, rfl⟩
  exact ⟨_, rfl⟩
noncomputable def tW_has : List (Nat × xm_C) := [(25, sA_isWithin)]
theorem lW_has (l : Launch) : ∀ n C, (n, C) ∈ tW_has → xm_lkS l "AbsenceRows$Crews" xt_T xk_ns (xr_ 1) xk_cl xk_tA n C ∨ xm_lkV l "AbsenceRows$Crews" xt_T xk_ns (xr_ 1) xk_cl xk_tA n C := fun n C h => (show ∀ q ∈ tW_has, xm_lkS l "AbsenceRows$Crews" xt_T xk_ns (xr_ 1) xk_cl xk_tA q.1 q.2 ∨ xm_lkV l "AbsenceRows$Crews" xt_T xk_ns (xr_ 1) xk_cl xk_tA q.1 q.2 from List.forall_mem_cons.mpr ⟨Or.inl ⟨xy_A_isWithin, xb_A_isWithin, 3, (some .boolean), xr_ 0, rfl, ⟨xe_A_isWithin, xw_37, ⟨by decide, by decide, by decide +kernel⟩, ⟨Nat.le_of_ble_eq_true rfl, Nat.le_of_ble_eq_true rfl⟩, rfl, rfl⟩, xw_269, Or.inr ⟨"AbsenceRows", xn_8⟩, Or.inl ⟨rfl, uA_isWithin, cA_isWithin l⟩⟩, fun _ h => absurd h List.not_mem_nil⟩) (n, C) h
set_option maxRecDepth 20000 in
set_option maxHeartbeats 2000000 in
theorem cW_has (l : Launch) : xm_Pu l xy_W_has (Cond.code xy_W_has xb_W_has 2 (some .boolean) :: xt_T) (xr_ 1) xk_cl xk_ns xk_tA pW_has fW_has := by
  refine xm_mk_pu (rt := .boolean) (fl := xf_W) (ct := tW_has) (cn := []) (cj := []) (plainFor_of_name (by decide)) xs_W xd_W_has rfl (Or.inr rfl) (lW_has l) (fun _ _ _ _ _ _ _ _ => False) ?_ ?_ ?_ (fun _ _ _ _ _ _ _ _ _ h => h.elim) ?_
  · rintro as M ⟨x, rfl⟩; exact Nat.le_of_ble_eq_true rfl
  · rintro as M ⟨x, rfl⟩; simp [fW_has]
  · rintro as M v ⟨x, rfl⟩ h; first | rfl | (simp [fW_has] at h)
  · rintro as M ⟨x, rfl⟩
    refine ⟨400, (And.intro rfl (And.intro rfl (And.intro (Nat.le_of_ble_eq_true rfl) (And.intro (Nat.le_of_ble_eq_true rfl) (And.intro ?g1_c_8 (And.intro ?g2_w_11 ?g3_r_11))))))⟩
    case g1_c_8 =>
      exact ⟨_, _, _, rfl⟩
    case g2_w_11 =>
      first | rfl | exact xi_nb
    case g3_r_11 =>
      exact ⟨rfl, rfl⟩
def pK_has (as : List Value) (M : xm_M) : Prop := ∃ x : Int32, as = [.ref 4, .int x]
noncomputable def fK_has (as : List Value) (M : xm_M) : Option Value × xm_M := match as with
  | [_, .int x] => (some (.int (xi_b (0 ≤ x ∧ x ≤ M 4 0 - 1))), M)
  | _ => (none, M)
noncomputable abbrev sK_has : xm_C := (0, 2, 0, pK_has, fK_has)
theorem uK_has : ∀ as M, (fK_has as M).2 = M := by
  intro as M
  unfold fK_has
  split <;> rfl
theorem vK_has : ∀ as M, pK_has as M → ∃ as1, as = .ref 4 :: as1 := by
  rintro as M ⟨x, rfl⟩
  exact ⟨_, rfl⟩
noncomputable def tK_has : List (Nat × xm_C) := [(37, sA_isWithin)]
theorem lK_has (l : Launch) : ∀ n C, (n, C) ∈ tK_has → xm_lkS l "AbsenceRows$Asks" xt_T xk_ns (xr_ 1) xk_cl xk_tA n C ∨ xm_lkV l "AbsenceRows$Asks" xt_T xk_ns (xr_ 1) xk_cl xk_tA n C := fun n C h => (show ∀ q ∈ tK_has, xm_lkS l "AbsenceRows$Asks" xt_T xk_ns (xr_ 1) xk_cl xk_tA q.1 q.2 ∨ xm_lkV l "AbsenceRows$Asks" xt_T xk_ns (xr_ 1) xk_cl xk_tA q.1 q.2 from List.forall_mem_cons.mpr ⟨Or.inl ⟨xy_A_isWithin, xb_A_isWithin, 3, (some .boolean), xr_ 0, rfl, ⟨xe_A_isWithin, xw_37, ⟨by decide, by decide, by decide +kernel⟩, ⟨Nat.le_of_ble_eq_true rfl, Nat.le_of_ble_eq_true rfl⟩, rfl, rfl⟩, xw_269, Or.inr ⟨"AbsenceRows", xn_9⟩, Or.inl ⟨rfl, uA_isWithin, cA_isWithin l⟩⟩, fun _ h => absurd h List.not_mem_nil⟩) (n, C) h
set_option maxRecDepth 20000 in
set_option maxHeartbeats 2000000 in
theorem cK_has (l : Launch) : xm_Pu l xy_K_has (Cond.code xy_K_has xb_K_has 2 (some .boolean) :: xt_T) (xr_ 1) xk_cl xk_ns xk_tA pK_has fK_has := by
  refine xm_mk_pu (rt := .boolean) (fl := xf_K) (ct := tK_has) (cn := []) (cj := []) (plainFor_of_name (by decide)) xs_K xd_K_has rfl (Or.inr rfl) (lK_has l) (fun _ _ _ _ _ _ _ _ => False) ?_ ?_ ?_ (fun _ _ _ _ _ _ _ _ _ h => h.elim) ?_
  · rintro as M ⟨x, rfl⟩; exact Nat.le_of_ble_eq_true rfl
  · rintro as M ⟨x, rfl⟩; simp [fK_has]
  · rintro as M v ⟨x, rfl⟩ h; first | rfl | (simp [fK_has] at h)
  · rintro as M ⟨x, rfl⟩
    refine ⟨400, (And.intro rfl (And.intro rfl (And.intro (Nat.le_of_ble_eq_true rfl) (And.intro (Nat.le_of_ble_eq_true rfl) (And.intro ?g1_c_8 (And.intro ?g2_w_11 ?g3_r_11))))))⟩
    case g1_c_8 =>
      exact ⟨_, _, _, rfl⟩
    case g2_w_11 =>
      first | rfl | exact xi_nb
    case g3_r_11 =>
      exact ⟨rfl, rfl⟩
def pH_has (as : List Value) (M : xm_M) : Prop := ∃ x : Int32, as = [.ref 5, .int x]
noncomputable def fH_has (as : List Value) (M : xm_M) : Option Value × xm_M := match as with
  | [_, .int x] => (some (.int (xi_b (0 ≤ x ∧ x ≤ M 5 0 - 1))), M)
  | _ => (none, M)
noncomputable abbrev sH_has : xm_C := (0, 2, 0, pH_has, fH_has)
theorem uH_has : ∀ as M, (fH_has as M).2 = M := by
  intro as M
  unfold fH_has
  split <;> rfl
theorem vH_has : ∀ as M, pH_has as M → ∃ as1, as = .ref 5 :: as1 := by
  rintro as M ⟨x, rfl⟩
  exact ⟨_, rfl⟩
noncomputable def tH_has : List (Nat × xm_C) := [(25, sA_isWithin)]
theorem lH_has (l : Launch) : ∀ n C, (n, C) ∈ tH_has → xm_lkS l "AbsenceRows$HeldRows" xt_T xk_ns (xr_ 1) xk_cl xk_tA n C ∨ xm_lkV l "AbsenceRows$HeldRows" xt_T xk_ns (xr_ 1) xk_cl xk_tA n C := fun n C h => (show ∀ q ∈ tH_has, xm_lkS l "AbsenceRows$HeldRows" xt_T xk_ns (xr_ 1) xk_cl xk_tA q.1 q.2 ∨ xm_lkV l "AbsenceRows$HeldRows" xt_T xk_ns (xr_ 1) xk_cl xk_tA q.1 q.2 from List.forall_mem_cons.mpr ⟨Or.inl ⟨xy_A_isWithin, xb_A_isWithin, 3, (some .boolean), xr_ 0, rfl, ⟨xe_A_isWithin, xw_37, ⟨by decide, by decide, by decide +kernel⟩, ⟨Nat.le_of_ble_eq_true rfl, Nat.le_of_ble_eq_true rfl⟩, rfl, rfl⟩, xw_269, Or.inr ⟨"AbsenceRows", xn_14⟩, Or.inl ⟨rfl, uA_isWithin, cA_isWithin l⟩⟩, fun _ h => absurd h List.not_mem_nil⟩) (n, C) h
set_option maxRecDepth 20000 in
set_option maxHeartbeats 2000000 in
theorem cH_has (l : Launch) : xm_Pu l xy_H_has (Cond.code xy_H_has xb_H_has 2 (some .boolean) :: xt_T) (xr_ 1) xk_cl xk_ns xk_tA pH_has fH_has := by
  refine xm_mk_pu (rt := .boolean) (fl := xf_H) (ct := tH_has) (cn := []) (cj := []) (plainFor_of_name (by decide)) xs_H xd_H_has rfl (Or.inr rfl) (lH_has l) (fun _ _ _ _ _ _ _ _ => False) ?_ ?_ ?_ (fun _ _ _ _ _ _ _ _ _ h => h.elim) ?_
  · rintro as M ⟨x, rfl⟩; exact Nat.le_of_ble_eq_true rfl
  · rintro as M ⟨x, rfl⟩; simp [fH_has]
  · rintro as M v ⟨x, rfl⟩ h; first | rfl | (simp [fH_has] at h)
  · rintro as M ⟨x, rfl⟩
    refine ⟨400, (And.intro rfl (And.intro rfl (And.intro (Nat.le_of_ble_eq_true rfl) (And.intro (Nat.le_of_ble_eq_true rfl) (And.intro ?g1_c_8 (And.intro ?g2_w_11 ?g3_r_11))))))⟩
    case g1_c_8 =>
      exact ⟨_, _, _, rfl⟩
    case g2_w_11 =>
      first | rfl | exact xi_nb
    case g3_r_11 =>
      exact ⟨rfl, rfl⟩
def pL_has (as : List Value) (M : xm_M) : Prop := ∃ x : Int32, as = [.ref 6, .int x]
noncomputable def fL_has (as : List Value) (M : xm_M) : Option Value × xm_M := match as with
  | [_, .int x] => (some (.int (xi_b (0 ≤ x ∧ x ≤ M 6 0 - 1))), M)
  | _ => (none, M)
noncomputable abbrev sL_has : xm_C := (0, 2, 0, pL_has, fL_has)
theorem uL_has : ∀ as M, (fL_has as M).2 = M := by
  intro as M
  unfold fL_has
  split <;> rfl
theorem vL_has : ∀ as M, pL_has as M → ∃ as1, as = .ref 6 :: as1 := by
  rintro as M ⟨x, rfl⟩
  exact ⟨_, rfl⟩
noncomputable def tL_has : List (Nat × xm_C) := [(34, sA_isWithin)]
theorem lL_has (l : Launch) : ∀ n C, (n, C) ∈ tL_has → xm_lkS l "AbsenceRows$Calls" xt_T xk_ns (xr_ 1) xk_cl xk_tA n C ∨ xm_lkV l "AbsenceRows$Calls" xt_T xk_ns (xr_ 1) xk_cl xk_tA n C := fun n C h => (show ∀ q ∈ tL_has, xm_lkS l "AbsenceRows$Calls" xt_T xk_ns (xr_ 1) xk_cl xk_tA q.1 q.2 ∨ xm_lkV l "AbsenceRows$Calls" xt_T xk_ns (xr_ 1) xk_cl xk_tA q.1 q.2 from List.forall_mem_cons.mpr ⟨Or.inl ⟨xy_A_isWithin, xb_A_isWithin, 3, (some .boolean), xr_ 0, rfl, ⟨xe_A_isWithin, xw_37, ⟨by decide, by decide, by decide +kernel⟩, ⟨Nat.le_of_ble_eq_true rfl, Nat.le_of_ble_eq_true rfl⟩, rfl, rfl⟩, xw_269, Or.inr ⟨"AbsenceRows", xn_15⟩, Or.inl ⟨rfl, uA_isWithin, cA_isWithin l⟩⟩, fun _ h => absurd h List.not_mem_nil⟩) (n, C) h
set_option maxRecDepth 20000 in
set_option maxHeartbeats 2000000 in
theorem cL_has (l : Launch) : xm_Pu l xy_L_has (Cond.code xy_L_has xb_L_has 2 (some .boolean) :: xt_T) (xr_ 1) xk_cl xk_ns xk_tA pL_has fL_has := by
  refine xm_mk_pu (rt := .boolean) (fl := xf_L) (ct := tL_has) (cn := []) (cj := []) (plainFor_of_name (by decide)) xs_L xd_L_has rfl (Or.inr rfl) (lL_has l) (fun _ _ _ _ _ _ _ _ => False) ?_ ?_ ?_ (fun _ _ _ _ _ _ _ _ _ h => h.elim) ?_
  · rintro as M ⟨x, rfl⟩; exact Nat.le_of_ble_eq_true rfl
  · rintro as M ⟨x, rfl⟩; simp [fL_has]
  · rintro as M v ⟨x, rfl⟩ h; first | rfl | (simp [fL_has] at h)
  · rintro as M ⟨x, rfl⟩
    refine ⟨400, (And.intro rfl (And.intro rfl (And.intro (Nat.le_of_ble_eq_true rfl) (And.intro (Nat.le_of_ble_eq_true rfl) (And.intro ?g1_c_8 (And.intro ?g2_w_11 ?g3_r_11))))))⟩
    case g1_c_8 =>
      exact ⟨_, _, _, rfl⟩
    case g2_w_11 =>
      first | rfl | exact xi_nb
    case g3_r_11 =>
      exact ⟨rfl, rfl⟩
def pJ_max (as : List Value) (M : xm_M) : Prop := ∃ x y : Int32, as = [.int x, .int y]
noncomputable def fJ_max (as : List Value) (M : xm_M) : Option Value × xm_M := match as with
  | [.int x, .int y] => (some (.int (if x < y then y else x)), M)
  | _ => (none, M)
noncomputable abbrev sJ_max : xm_C := (1, 2, 0, pJ_max, fJ_max)
theorem uJ_max : ∀ as M, (fJ_max as M).2 = M := by
  intro as M
  unfold fJ_max
  split <;> rfl
noncomputable def tJ_max : List (Nat × xm_C) := []
theorem lJ_max (l : Launch) : ∀ n C, (n, C) ∈ tJ_max → xm_lkS l "java/lang/Math" xt_T xk_ns (xr_ 0) xk_cl xk_tA n C ∨ xm_lkV l "java/lang/Math" xt_T xk_ns (xr_ 0) xk_cl xk_tA n C := fun n C h => (show ∀ q ∈ tJ_max, xm_lkS l "java/lang/Math" xt_T xk_ns (xr_ 0) xk_cl xk_tA q.1 q.2 ∨ xm_lkV l "java/lang/Math" xt_T xk_ns (xr_ 0) xk_cl xk_tA q.1 q.2 from fun _ h => absurd h List.not_mem_nil) (n, C) h
set_option maxRecDepth 20000 in
set_option maxHeartbeats 2000000 in
theorem cJ_max (l : Launch) : xm_Pu l xy_J_max (Cond.code xy_J_max xb_J_max 2 (some .int) :: xt_T) (xr_ 0) xk_cl xk_ns xk_tA pJ_max fJ_max := by
  refine xm_mk_pu (rt := .int) (fl := []) (ct := tJ_max) (cn := []) (cj := []) (by decide +kernel) xs_J xd_J_max rfl (Or.inr rfl) (lJ_max l) (fun _ _ _ _ _ _ _ _ => False) ?_ ?_ ?_ (fun _ _ _ _ _ _ _ _ _ h => h.elim) ?_
  · rintro as M ⟨x, y, rfl⟩; exact Nat.le_of_ble_eq_true rfl
  · rintro as M ⟨x, y, rfl⟩; simp [fJ_max]
  · rintro as M v ⟨x, y, rfl⟩ h; first | rfl | (simp [fJ_max] at h)
  · rintro as M ⟨x, y, rfl⟩
    refine ⟨400, (And.intro (by decide) (And.intro (fun h2 => (And.intro ?g1_w_10 ?g2_r_10)) (fun h2 => (And.intro (by decide) (And.intro ?g3_w_10 ?g4_r_10)))))⟩
    case g1_w_10 =>
      first | rfl | exact xi_nb
    case g2_r_10 =>
      refine ⟨congrArg (fun z => some (Value.int z)) ?_, rfl⟩
      grind [Int32.not_lt, Int32.not_le]
    case g3_w_10 =>
      first | rfl | exact xi_nb
    case g4_r_10 =>
      refine ⟨congrArg (fun z => some (Value.int z)) ?_, rfl⟩
      grind [Int32.not_lt, Int32.not_le]
def pJ_min (as : List Value) (M : xm_M) : Prop := ∃ x y : Int32, as = [.int x, .int y]
noncomputable def fJ_min (as : List Value) (M : xm_M) : Option Value × xm_M := match as with
  | [.int x, .int y] => (some (.int (if y < x then y else x)), M)
  | _ => (none, M)
noncomputable abbrev sJ_min : xm_C := (1, 2, 0, pJ_min, fJ_min)
theorem uJ_min : ∀ as M, (fJ_min as M).2 = M := by
  intro as M
  unfold fJ_min
  split <;> rfl
noncomputable def tJ_min : List (Nat × xm_C) := []
theorem lJ_min (l : Launch) : ∀ n C, (n, C) ∈ tJ_min → xm_lkS l "java/lang/Math" xt_T xk_ns (xr_ 0) xk_cl xk_tA n C ∨ xm_lkV l "java/lang/Math" xt_T xk_ns (xr_ 0) xk_cl xk_tA n C := fun n C h => (show ∀ q ∈ tJ_min, xm_lkS l "java/lang/Math" xt_T xk_ns (xr_ 0) xk_cl xk_tA q.1 q.2 ∨ xm_lkV l "java/lang/Math" xt_T xk_ns (xr_ 0) xk_cl xk_tA q.1 q.2 from fun _ h => absurd h List.not_mem_nil) (n, C) h
set_option maxRecDepth 20000 in
set_option maxHeartbeats 2000000 in
theorem cJ_min (l : Launch) : xm_Pu l xy_J_min (Cond.code xy_J_min xb_J_min 2 (some .int) :: xt_T) (xr_ 0) xk_cl xk_ns xk_tA pJ_min fJ_min := by
  refine xm_mk_pu (rt := .int) (fl := []) (ct := tJ_min) (cn := []) (cj := []) (by decide +kernel) xs_J xd_J_min rfl (Or.inr rfl) (lJ_min l) (fun _ _ _ _ _ _ _ _ => False) ?_ ?_ ?_ (fun _ _ _ _ _ _ _ _ _ h => h.elim) ?_
  · rintro as M ⟨x, y, rfl⟩; exact Nat.le_of_ble_eq_true rfl
  · rintro as M ⟨x, y, rfl⟩; simp [fJ_min]
  · rintro as M v ⟨x, y, rfl⟩ h; first | rfl | (simp [fJ_min] at h)
  · rintro as M ⟨x, y, rfl⟩
    refine ⟨400, (And.intro (by decide) (And.intro (fun h2 => (And.intro ?g1_w_10 ?g2_r_10)) (fun h2 => (And.intro (by decide) (And.intro ?g3_w_10 ?g4_r_10)))))⟩
    case g1_w_10 =>
      first | rfl | exact xi_nb
    case g2_r_10 =>
      refine ⟨congrArg (fun z => some (Value.int z)) ?_, rfl⟩
      grind [Int32.not_lt, Int32.not_le]
    case g3_w_10 =>
      first | rfl | exact xi_nb
    case g4_r_10 =>
      refine ⟨congrArg (fun z => some (Value.int z)) ?_, rfl⟩
      grind [Int32.not_lt, Int32.not_le]
def pJ_abs (as : List Value) (M : xm_M) : Prop := ∃ x : Int32, as = [.int x]
noncomputable def fJ_abs (as : List Value) (M : xm_M) : Option Value × xm_M := match as with
  | [.int x] => (some (.int (if 0 ≤ x then x else -x)), M)
  | _ => (none, M)
noncomputable abbrev sJ_abs : xm_C := (1, 1, 0, pJ_abs, fJ_abs)
theorem uJ_abs : ∀ as M, (fJ_abs as M).2 = M := by
  intro as M
  unfold fJ_abs
  split <;> rfl
noncomputable def tJ_abs : List (Nat × xm_C) := []
theorem lJ_abs (l : Launch) : ∀ n C, (n, C) ∈ tJ_abs → xm_lkS l "java/lang/Math" xt_T xk_ns (xr_ 0) xk_cl xk_tA n C ∨ xm_lkV l "java/lang/Math" xt_T xk_ns (xr_ 0) xk_cl xk_tA n C := fun n C h => (show ∀ q ∈ tJ_abs, xm_lkS l "java/lang/Math" xt_T xk_ns (xr_ 0) xk_cl xk_tA q.1 q.2 ∨ xm_lkV l "java/lang/Math" xt_T xk_ns (xr_ 0) xk_cl xk_tA q.1 q.2 from fun _ h => absurd h List.not_mem_nil) (n, C) h
set_option maxRecDepth 20000 in
set_option maxHeartbeats 2000000 in
theorem cJ_abs (l : Launch) : xm_Pu l xy_J_abs (Cond.code xy_J_abs xb_J_abs 1 (some .int) :: xt_T) (xr_ 0) xk_cl xk_ns xk_tA pJ_abs fJ_abs := by
  refine xm_mk_pu (rt := .int) (fl := []) (ct := tJ_abs) (cn := []) (cj := []) (by decide +kernel) xs_J xd_J_abs rfl (Or.inr rfl) (lJ_abs l) (fun _ _ _ _ _ _ _ _ => False) ?_ ?_ ?_ (fun _ _ _ _ _ _ _ _ _ h => h.elim) ?_
  · rintro as M ⟨x, rfl⟩; exact Nat.le_of_ble_eq_true rfl
  · rintro as M ⟨x, rfl⟩; simp [fJ_abs]
  · rintro as M v ⟨x, rfl⟩ h; first | rfl | (simp [fJ_abs] at h)
  · rintro as M ⟨x, rfl⟩
    refine ⟨400, (And.intro (by decide) (And.intro (fun h1 => (And.intro ?g1_w_10 ?g2_r_10)) (fun h1 => (And.intro (by decide) (And.intro ?g3_w_10 ?g4_r_10)))))⟩
    case g1_w_10 =>
      first | rfl | exact xi_nb
    case g2_r_10 =>
      refine ⟨congrArg (fun z => some (Value.int z)) ?_, rfl⟩
      grind [Int32.not_lt, Int32.not_le]
    case g3_w_10 =>
      first | rfl | exact xi_nb
    case g4_r_10 =>
      refine ⟨congrArg (fun z => some (Value.int z)) ?_, rfl⟩
      grind [Int32.not_lt, Int32.not_le]
def pC_isWorkingDay (as : List Value) (M : xm_M) : Prop := ∃ d : Int32, as = [.ref 1, .int d] ∧ vp_in d 730
noncomputable def fC_isWorkingDay (as : List Value) (M : xm_M) : Option Value × xm_M := match as with
  | [_, .int d] => (some (.int (xi_b (d - d / 7 * 7 < 5 ∧ M 7 d.toNatClampNeg = 0))), M)
  | _ => (none, M)
noncomputable abbrev sC_isWorkingDay : xm_C := (0, 2, 0, pC_isWorkingDay, fC_isWorkingDay)
theorem uC_isWorkingDay : ∀ as M, (fC_isWorkingDay as M).2 = M := by
  intro as M
  unfold fC_isWorkingDay
  split <;> rfl
theorem vC_isWorkingDay : ∀ as M, pC_isWorkingDay as M → ∃ as1, as = .ref 1 :: as1 := by
  rintro as M ⟨d, rfl, hpre⟩
  exact ⟨_, rfl⟩
noncomputable def tC_isWorkingDay : List (Nat × xm_C) := []
theorem lC_isWorkingDay (l : Launch) : ∀ n C, (n, C) ∈ tC_isWorkingDay → xm_lkS l "AbsenceRows$Calendar" xt_T xk_ns (xr_ 0) xk_cl xk_tA n C ∨ xm_lkV l "AbsenceRows$Calendar" xt_T xk_ns (xr_ 0) xk_cl xk_tA n C := fun n C h => (show ∀ q ∈ tC_isWorkingDay, xm_lkS l "AbsenceRows$Calendar" xt_T xk_ns (xr_ 0) xk_cl xk_tA q.1 q.2 ∨ xm_lkV l "AbsenceRows$Calendar" xt_T xk_ns (xr_ 0) xk_cl xk_tA q.1 q.2 from fun _ h => absurd h List.not_mem_nil) (n, C) h
set_option maxRecDepth 20000 in
set_option maxHeartbeats 2000000 in
theorem cC_isWorkingDay (l : Launch) : xm_Pu l xy_C_isWorkingDay (Cond.code xy_C_isWorkingDay xb_C_isWorkingDay 2 (some .boolean) :: xt_T) (xr_ 0) xk_cl xk_ns xk_tA pC_isWorkingDay fC_isWorkingDay := by
  refine xm_mk_pu (rt := .boolean) (fl := xf_C) (ct := tC_isWorkingDay) (cn := []) (cj := []) (plainFor_of_name (by decide)) xs_C xd_C_isWorkingDay rfl (Or.inr rfl) (lC_isWorkingDay l) (fun _ _ _ _ _ _ _ _ => False) ?_ ?_ ?_ (fun _ _ _ _ _ _ _ _ _ h => h.elim) ?_
  · rintro as M ⟨d, rfl, hpre⟩; exact Nat.le_of_ble_eq_true rfl
  · rintro as M ⟨d, rfl, hpre⟩; simp [fC_isWorkingDay]
  · rintro as M v ⟨d, rfl, hpre⟩ h; first | rfl | (simp [fC_isWorkingDay] at h)
  · rintro as M ⟨d, rfl, hpre⟩
    refine ⟨400, (And.intro ?g1_n_3 (And.intro (by decide) (And.intro (fun h5 => (And.intro ?g2_w_22 ?g3_r_22)) (fun h5 => (And.intro rfl (And.intro rfl (And.intro ?g4_i_13 (And.intro (by decide) (And.intro (fun h14 => (And.intro ?g5_w_22 ?g6_r_22)) (fun h14 => (And.intro (by decide) (And.intro ?g7_w_22 ?g8_r_22))))))))))))⟩
    case g1_n_3 =>
      decide
    case g2_w_22 =>
      first | rfl | exact xi_nb
    case g3_r_22 =>
      refine ⟨congrArg (fun z => some (Value.int z)) ?_, rfl⟩
      try simp only [xi_0, xi_n0] at *
      first | exact (xi_t (by grind [Int32.not_lt, Int32.not_le])).symm | exact (xi_f (by grind [Int32.not_lt, Int32.not_le])).symm
    case g4_i_13 =>
      exact hpre
    case g5_w_22 =>
      first | rfl | exact xi_nb
    case g6_r_22 =>
      refine ⟨congrArg (fun z => some (Value.int z)) ?_, rfl⟩
      try simp only [xi_0, xi_n0] at *
      first | exact (xi_t (by grind [Int32.not_lt, Int32.not_le])).symm | exact (xi_f (by grind [Int32.not_lt, Int32.not_le])).symm
    case g7_w_22 =>
      first | rfl | exact xi_nb
    case g8_r_22 =>
      refine ⟨congrArg (fun z => some (Value.int z)) ?_, rfl⟩
      try simp only [xi_0, xi_n0] at *
      first | exact (xi_t (by grind [Int32.not_lt, Int32.not_le])).symm | exact (xi_f (by grind [Int32.not_lt, Int32.not_le])).symm
def pK_isOpen (as : List Value) (M : xm_M) : Prop := ∃ a : Int32, as = [.ref 4, .int a] ∧ vp_in a 80
noncomputable def fK_isOpen (as : List Value) (M : xm_M) : Option Value × xm_M := match as with
  | [_, .int a] => (some (.int (xi_b (M 23 a.toNatClampNeg = 0 ∨ M 23 a.toNatClampNeg = 1))), M)
  | _ => (none, M)
noncomputable abbrev sK_isOpen : xm_C := (0, 2, 0, pK_isOpen, fK_isOpen)
theorem uK_isOpen : ∀ as M, (fK_isOpen as M).2 = M := by
  intro as M
  unfold fK_isOpen
  split <;> rfl
theorem vK_isOpen : ∀ as M, pK_isOpen as M → ∃ as1, as = .ref 4 :: as1 := by
  rintro as M ⟨a, rfl, hpre⟩
  exact ⟨_, rfl⟩
noncomputable def tK_isOpen : List (Nat × xm_C) := []
theorem lK_isOpen (l : Launch) : ∀ n C, (n, C) ∈ tK_isOpen → xm_lkS l "AbsenceRows$Asks" xt_T xk_ns (xr_ 0) xk_cl xk_tA n C ∨ xm_lkV l "AbsenceRows$Asks" xt_T xk_ns (xr_ 0) xk_cl xk_tA n C := fun n C h => (show ∀ q ∈ tK_isOpen, xm_lkS l "AbsenceRows$Asks" xt_T xk_ns (xr_ 0) xk_cl xk_tA q.1 q.2 ∨ xm_lkV l "AbsenceRows$Asks" xt_T xk_ns (xr_ 0) xk_cl xk_tA q.1 q.2 from fun _ h => absurd h List.not_mem_nil) (n, C) h
set_option maxRecDepth 20000 in
set_option maxHeartbeats 2000000 in
theorem cK_isOpen (l : Launch) : xm_Pu l xy_K_isOpen (Cond.code xy_K_isOpen xb_K_isOpen 2 (some .boolean) :: xt_T) (xr_ 0) xk_cl xk_ns xk_tA pK_isOpen fK_isOpen := by
  refine xm_mk_pu (rt := .boolean) (fl := xf_K) (ct := tK_isOpen) (cn := []) (cj := []) (plainFor_of_name (by decide)) xs_K xd_K_isOpen rfl (Or.inr rfl) (lK_isOpen l) (fun _ _ _ _ _ _ _ _ => False) ?_ ?_ ?_ (fun _ _ _ _ _ _ _ _ _ h => h.elim) ?_
  · rintro as M ⟨a, rfl, hpre⟩; exact Nat.le_of_ble_eq_true rfl
  · rintro as M ⟨a, rfl, hpre⟩; simp [fK_isOpen]
  · rintro as M v ⟨a, rfl, hpre⟩ h; first | rfl | (simp [fK_isOpen] at h)
  · rintro as M ⟨a, rfl, hpre⟩
    refine ⟨400, (And.intro rfl (And.intro rfl (And.intro ?g1_i_5 (And.intro (by decide) (And.intro (fun h6 => (And.intro (by decide) (And.intro ?g2_w_24 ?g3_r_24))) (fun h6 => (And.intro rfl (And.intro rfl (And.intro ?g4_i_14 (And.intro (by decide) (And.intro (fun h16 => (And.intro ?g5_w_24 ?g6_r_24)) (fun h16 => (And.intro (by decide) (And.intro ?g7_w_24 ?g8_r_24))))))))))))))⟩
    case g1_i_5 =>
      exact hpre
    case g2_w_24 =>
      first | rfl | exact xi_nb
    case g3_r_24 =>
      refine ⟨congrArg (fun z => some (Value.int z)) ?_, rfl⟩
      try simp only [xi_0, xi_n0] at *
      first | exact (xi_t (by grind [Int32.not_lt, Int32.not_le])).symm | exact (xi_f (by grind [Int32.not_lt, Int32.not_le])).symm
    case g4_i_14 =>
      exact hpre
    case g5_w_24 =>
      first | rfl | exact xi_nb
    case g6_r_24 =>
      refine ⟨congrArg (fun z => some (Value.int z)) ?_, rfl⟩
      try simp only [xi_0, xi_n0] at *
      first | exact (xi_t (by grind [Int32.not_lt, Int32.not_le])).symm | exact (xi_f (by grind [Int32.not_lt, Int32.not_le])).symm
    case g7_w_24 =>
      first | rfl | exact xi_nb
    case g8_r_24 =>
      refine ⟨congrArg (fun z => some (Value.int z)) ?_, rfl⟩
      try simp only [xi_0, xi_n0] at *
      first | exact (xi_t (by grind [Int32.not_lt, Int32.not_le])).symm | exact (xi_f (by grind [Int32.not_lt, Int32.not_le])).symm
def pK_isBeforeLastStep (as : List Value) (M : xm_M) : Prop := ∃ a : Int32, as = [.ref 4, .int a] ∧ vp_in a 80
noncomputable def fK_isBeforeLastStep (as : List Value) (M : xm_M) : Option Value × xm_M := match as with
  | [_, .int a] => (some (.int (xi_b (M 19 a.toNatClampNeg = 2 ∨ M 23 a.toNatClampNeg = 1))), M)
  | _ => (none, M)
noncomputable abbrev sK_isBeforeLastStep : xm_C := (0, 2, 0, pK_isBeforeLastStep, fK_isBeforeLastStep)
theorem uK_isBeforeLastStep : ∀ as M, (fK_isBeforeLastStep as M).2 = M := by
  intro as M
  unfold fK_isBeforeLastStep
  split <;> rfl
theorem vK_isBeforeLastStep : ∀ as M, pK_isBeforeLastStep as M → ∃ as1, as = .ref 4 :: as1 := by
  rintro as M ⟨a, rfl, hpre⟩
  exact ⟨_, rfl⟩
noncomputable def tK_isBeforeLastStep : List (Nat × xm_C) := []
theorem lK_isBeforeLastStep (l : Launch) : ∀ n C, (n, C) ∈ tK_isBeforeLastStep → xm_lkS l "AbsenceRows$Asks" xt_T xk_ns (xr_ 0) xk_cl xk_tA n C ∨ xm_lkV l "AbsenceRows$Asks" xt_T xk_ns (xr_ 0) xk_cl xk_tA n C := fun n C h => (show ∀ q ∈ tK_isBeforeLastStep, xm_lkS l "AbsenceRows$Asks" xt_T xk_ns (xr_ 0) xk_cl xk_tA q.1 q.2 ∨ xm_lkV l "AbsenceRows$Asks" xt_T xk_ns (xr_ 0) xk_cl xk_tA q.1 q.2 from fun _ h => absurd h List.not_mem_nil) (n, C) h
set_option maxRecDepth 20000 in
set_option maxHeartbeats 2000000 in
theorem cK_isBeforeLastStep (l : Launch) : xm_Pu l xy_K_isBeforeLastStep (Cond.code xy_K_isBeforeLastStep xb_K_isBeforeLastStep 2 (some .boolean) :: xt_T) (xr_ 0) xk_cl xk_ns xk_tA pK_isBeforeLastStep fK_isBeforeLastStep := by
  refine xm_mk_pu (rt := .boolean) (fl := xf_K) (ct := tK_isBeforeLastStep) (cn := []) (cj := []) (plainFor_of_name (by decide)) xs_K xd_K_isBeforeLastStep rfl (Or.inr rfl) (lK_isBeforeLastStep l) (fun _ _ _ _ _ _ _ _ => False) ?_ ?_ ?_ (fun _ _ _ _ _ _ _ _ _ h => h.elim) ?_
  · rintro as M ⟨a, rfl, hpre⟩; exact Nat.le_of_ble_eq_true rfl
  · rintro as M ⟨a, rfl, hpre⟩; simp [fK_isBeforeLastStep]
  · rintro as M v ⟨a, rfl, hpre⟩ h; first | rfl | (simp [fK_isBeforeLastStep] at h)
  · rintro as M ⟨a, rfl, hpre⟩
    refine ⟨400, (And.intro rfl (And.intro rfl (And.intro ?g1_i_5 (And.intro (by decide) (And.intro (fun h7 => (And.intro (by decide) (And.intro ?g2_w_25 ?g3_r_25))) (fun h7 => (And.intro rfl (And.intro rfl (And.intro ?g4_i_15 (And.intro (by decide) (And.intro (fun h17 => (And.intro ?g5_w_25 ?g6_r_25)) (fun h17 => (And.intro (by decide) (And.intro ?g7_w_25 ?g8_r_25))))))))))))))⟩
    case g1_i_5 =>
      exact hpre
    case g2_w_25 =>
      first | rfl | exact xi_nb
    case g3_r_25 =>
      refine ⟨congrArg (fun z => some (Value.int z)) ?_, rfl⟩
      try simp only [xi_0, xi_n0] at *
      first | exact (xi_t (by grind [Int32.not_lt, Int32.not_le])).symm | exact (xi_f (by grind [Int32.not_lt, Int32.not_le])).symm
    case g4_i_15 =>
      exact hpre
    case g5_w_25 =>
      first | rfl | exact xi_nb
    case g6_r_25 =>
      refine ⟨congrArg (fun z => some (Value.int z)) ?_, rfl⟩
      try simp only [xi_0, xi_n0] at *
      first | exact (xi_t (by grind [Int32.not_lt, Int32.not_le])).symm | exact (xi_f (by grind [Int32.not_lt, Int32.not_le])).symm
    case g7_w_25 =>
      first | rfl | exact xi_nb
    case g8_r_25 =>
      refine ⟨congrArg (fun z => some (Value.int z)) ?_, rfl⟩
      try simp only [xi_0, xi_n0] at *
      first | exact (xi_t (by grind [Int32.not_lt, Int32.not_le])).symm | exact (xi_f (by grind [Int32.not_lt, Int32.not_le])).symm
def pK_takesFromBudget (as : List Value) (M : xm_M) : Prop := ∃ a : Int32, as = [.ref 4, .int a] ∧ vp_in a 80
noncomputable def fK_takesFromBudget (as : List Value) (M : xm_M) : Option Value × xm_M := match as with
  | [_, .int a] => (some (.int (xi_b (M 19 a.toNatClampNeg = 0 ∧ ¬ M 23 a.toNatClampNeg = 3))), M)
  | _ => (none, M)
noncomputable abbrev sK_takesFromBudget : xm_C := (0, 2, 0, pK_takesFromBudget, fK_takesFromBudget)
theorem uK_takesFromBudget : ∀ as M, (fK_takesFromBudget as M).2 = M := by
  intro as M
  unfold fK_takesFromBudget
  split <;> rfl
theorem vK_takesFromBudget : ∀ as M, pK_takesFromBudget as M → ∃ as1, as = .ref 4 :: as1 := by
  rintro as M ⟨a, rfl, hpre⟩
  exact ⟨_, rfl⟩
noncomputable def tK_takesFromBudget : List (Nat × xm_C) := []
theorem lK_takesFromBudget (l : Launch) : ∀ n C, (n, C) ∈ tK_takesFromBudget → xm_lkS l "AbsenceRows$Asks" xt_T xk_ns (xr_ 0) xk_cl xk_tA n C ∨ xm_lkV l "AbsenceRows$Asks" xt_T xk_ns (xr_ 0) xk_cl xk_tA n C := fun n C h => (show ∀ q ∈ tK_takesFromBudget, xm_lkS l "AbsenceRows$Asks" xt_T xk_ns (xr_ 0) xk_cl xk_tA q.1 q.2 ∨ xm_lkV l "AbsenceRows$Asks" xt_T xk_ns (xr_ 0) xk_cl xk_tA q.1 q.2 from fun _ h => absurd h List.not_mem_nil) (n, C) h
set_option maxRecDepth 20000 in
set_option maxHeartbeats 2000000 in
theorem cK_takesFromBudget (l : Launch) : xm_Pu l xy_K_takesFromBudget (Cond.code xy_K_takesFromBudget xb_K_takesFromBudget 2 (some .boolean) :: xt_T) (xr_ 0) xk_cl xk_ns xk_tA pK_takesFromBudget fK_takesFromBudget := by
  refine xm_mk_pu (rt := .boolean) (fl := xf_K) (ct := tK_takesFromBudget) (cn := []) (cj := []) (plainFor_of_name (by decide)) xs_K xd_K_takesFromBudget rfl (Or.inr rfl) (lK_takesFromBudget l) (fun _ _ _ _ _ _ _ _ => False) ?_ ?_ ?_ (fun _ _ _ _ _ _ _ _ _ h => h.elim) ?_
  · rintro as M ⟨a, rfl, hpre⟩; exact Nat.le_of_ble_eq_true rfl
  · rintro as M ⟨a, rfl, hpre⟩; simp [fK_takesFromBudget]
  · rintro as M v ⟨a, rfl, hpre⟩ h; first | rfl | (simp [fK_takesFromBudget] at h)
  · rintro as M ⟨a, rfl, hpre⟩
    refine ⟨400, (And.intro rfl (And.intro rfl (And.intro ?g1_i_5 (And.intro (by decide) (And.intro (fun h6 => (And.intro ?g2_w_24 ?g3_r_24)) (fun h6 => (And.intro rfl (And.intro rfl (And.intro ?g4_i_14 (And.intro (by decide) (And.intro (fun h16 => (And.intro ?g5_w_24 ?g6_r_24)) (fun h16 => (And.intro (by decide) (And.intro ?g7_w_24 ?g8_r_24))))))))))))))⟩
    case g1_i_5 =>
      exact hpre
    case g2_w_24 =>
      first | rfl | exact xi_nb
    case g3_r_24 =>
      refine ⟨congrArg (fun z => some (Value.int z)) ?_, rfl⟩
      try simp only [xi_0, xi_n0] at *
      first | exact (xi_t (by grind [Int32.not_lt, Int32.not_le])).symm | exact (xi_f (by grind [Int32.not_lt, Int32.not_le])).symm
    case g4_i_14 =>
      exact hpre
    case g5_w_24 =>
      first | rfl | exact xi_nb
    case g6_r_24 =>
      refine ⟨congrArg (fun z => some (Value.int z)) ?_, rfl⟩
      try simp only [xi_0, xi_n0] at *
      first | exact (xi_t (by grind [Int32.not_lt, Int32.not_le])).symm | exact (xi_f (by grind [Int32.not_lt, Int32.not_le])).symm
    case g7_w_24 =>
      first | rfl | exact xi_nb
    case g8_r_24 =>
      refine ⟨congrArg (fun z => some (Value.int z)) ?_, rfl⟩
      try simp only [xi_0, xi_n0] at *
      first | exact (xi_t (by grind [Int32.not_lt, Int32.not_le])).symm | exact (xi_f (by grind [Int32.not_lt, Int32.not_le])).symm
def pP_goesBefore (as : List Value) (M : xm_M) : Prop := ∃ p b : Int32, as = [.ref 2, .int p, .int b] ∧ vp_in p 20 ∧ vp_in b 20
noncomputable def fP_goesBefore (as : List Value) (M : xm_M) : Option Value × xm_M := match as with
  | [_, .int p, .int b] => (some (.int (xi_b (if M 9 p.toNatClampNeg = M 9 b.toNatClampNeg then M 13 p.toNatClampNeg < M 13 b.toNatClampNeg else M 9 b.toNatClampNeg < M 9 p.toNatClampNeg))), M)
  | _ => (none, M)
noncomputable abbrev sP_goesBefore : xm_C := (0, 3, 0, pP_goesBefore, fP_goesBefore)
theorem uP_goesBefore : ∀ as M, (fP_goesBefore as M).2 = M := by
  intro as M
  unfold fP_goesBefore
  split <;> rfl
theorem vP_goesBefore : ∀ as M, pP_goesBefore as M → ∃ as1, as = .ref 2 :: as1 := by
  rintro as M ⟨p, b, rfl, hpre⟩
  exact ⟨_, rfl⟩
noncomputable def tP_goesBefore : List (Nat × xm_C) := []
theorem lP_goesBefore (l : Launch) : ∀ n C, (n, C) ∈ tP_goesBefore → xm_lkS l "AbsenceRows$Persons" xt_T xk_ns (xr_ 0) xk_cl xk_tA n C ∨ xm_lkV l "AbsenceRows$Persons" xt_T xk_ns (xr_ 0) xk_cl xk_tA n C := fun n C h => (show ∀ q ∈ tP_goesBefore, xm_lkS l "AbsenceRows$Persons" xt_T xk_ns (xr_ 0) xk_cl xk_tA q.1 q.2 ∨ xm_lkV l "AbsenceRows$Persons" xt_T xk_ns (xr_ 0) xk_cl xk_tA q.1 q.2 from fun _ h => absurd h List.not_mem_nil) (n, C) h
set_option maxRecDepth 20000 in
set_option maxHeartbeats 2000000 in
theorem cP_goesBefore (l : Launch) : xm_Pu l xy_P_goesBefore (Cond.code xy_P_goesBefore xb_P_goesBefore 3 (some .boolean) :: xt_T) (xr_ 0) xk_cl xk_ns xk_tA pP_goesBefore fP_goesBefore := by
  refine xm_mk_pu (rt := .boolean) (fl := xf_P) (ct := tP_goesBefore) (cn := []) (cj := []) (plainFor_of_name (by decide)) xs_P xd_P_goesBefore rfl (Or.inr rfl) (lP_goesBefore l) (fun _ _ _ _ _ _ _ _ => False) ?_ ?_ ?_ (fun _ _ _ _ _ _ _ _ _ h => h.elim) ?_
  · rintro as M ⟨p, b, rfl, hpre⟩; exact Nat.le_of_ble_eq_true rfl
  · rintro as M ⟨p, b, rfl, hpre⟩; simp [fP_goesBefore]
  · rintro as M v ⟨p, b, rfl, hpre⟩ h; first | rfl | (simp [fP_goesBefore] at h)
  · rintro as M ⟨p, b, rfl, hpre⟩
    refine ⟨400, (And.intro rfl (And.intro rfl (And.intro ?g1_i_5 (And.intro rfl (And.intro rfl (And.intro ?g2_i_11 (And.intro (by decide) (And.intro (fun h12 => (And.intro rfl (And.intro rfl (And.intro ?g3_i_41 (And.intro rfl (And.intro rfl (And.intro ?g4_i_47 (And.intro (by decide) (And.intro (fun h48 => (And.intro ?g5_w_56 ?g6_r_56)) (fun h48 => (And.intro (by decide) (And.intro ?g7_w_56 ?g8_r_56)))))))))))) (fun h12 => (And.intro rfl (And.intro rfl (And.intro ?g9_i_20 (And.intro rfl (And.intro rfl (And.intro ?g10_i_26 (And.intro (by decide) (And.intro (fun h27 => (And.intro ?g11_w_35 ?g12_r_35)) (fun h27 => (And.intro (by decide) (And.intro ?g13_w_35 ?g14_r_35))))))))))))))))))))⟩
    case g1_i_5 =>
      first | exact hpre.1 | exact hpre.2
    case g2_i_11 =>
      first | exact hpre.1 | exact hpre.2
    case g3_i_41 =>
      first | exact hpre.1 | exact hpre.2
    case g4_i_47 =>
      first | exact hpre.1 | exact hpre.2
    case g5_w_56 =>
      first | rfl | exact xi_nb
    case g6_r_56 =>
      refine ⟨congrArg (fun z => some (Value.int z)) ?_, rfl⟩
      try simp only [xi_0, xi_n0] at *
      first | exact (xi_t (by grind [Int32.not_lt, Int32.not_le])).symm | exact (xi_f (by grind [Int32.not_lt, Int32.not_le])).symm
    case g7_w_56 =>
      first | rfl | exact xi_nb
    case g8_r_56 =>
      refine ⟨congrArg (fun z => some (Value.int z)) ?_, rfl⟩
      try simp only [xi_0, xi_n0] at *
      first | exact (xi_t (by grind [Int32.not_lt, Int32.not_le])).symm | exact (xi_f (by grind [Int32.not_lt, Int32.not_le])).symm
    case g9_i_20 =>
      first | exact hpre.1 | exact hpre.2
    case g10_i_26 =>
      first | exact hpre.1 | exact hpre.2
    case g11_w_35 =>
      first | rfl | exact xi_nb
    case g12_r_35 =>
      refine ⟨congrArg (fun z => some (Value.int z)) ?_, rfl⟩
      try simp only [xi_0, xi_n0] at *
      first | exact (xi_t (by grind [Int32.not_lt, Int32.not_le])).symm | exact (xi_f (by grind [Int32.not_lt, Int32.not_le])).symm
    case g13_w_35 =>
      first | rfl | exact xi_nb
    case g14_r_35 =>
      refine ⟨congrArg (fun z => some (Value.int z)) ?_, rfl⟩
      try simp only [xi_0, xi_n0] at *
      first | exact (xi_t (by grind [Int32.not_lt, Int32.not_le])).symm | exact (xi_f (by grind [Int32.not_lt, Int32.not_le])).symm
def pA_isAbove (as : List Value) (M : xm_M) : Prop := ∃ w p : Int32, as = [.ref 0, .int w, .int p] ∧ vp_in w 20 ∧ vp_in p 20
noncomputable def fA_isAbove (as : List Value) (M : xm_M) : Option Value × xm_M := match as with
  | [_, .int w, .int p] => (some (.int (xi_b (M 9 p.toNatClampNeg < M 9 w.toNatClampNeg))), M)
  | _ => (none, M)
noncomputable abbrev sA_isAbove : xm_C := (0, 3, 0, pA_isAbove, fA_isAbove)
theorem uA_isAbove : ∀ as M, (fA_isAbove as M).2 = M := by
  intro as M
  unfold fA_isAbove
  split <;> rfl
theorem vA_isAbove : ∀ as M, pA_isAbove as M → ∃ as1, as = .ref 0 :: as1 := by
  rintro as M ⟨w, p, rfl, hpre⟩
  exact ⟨_, rfl⟩
noncomputable def tA_isAbove : List (Nat × xm_C) := []
theorem lA_isAbove (l : Launch) : ∀ n C, (n, C) ∈ tA_isAbove → xm_lkS l "AbsenceRows" xt_T xk_ns (xr_ 0) xk_cl xk_tA n C ∨ xm_lkV l "AbsenceRows" xt_T xk_ns (xr_ 0) xk_cl xk_tA n C := fun n C h => (show ∀ q ∈ tA_isAbove, xm_lkS l "AbsenceRows" xt_T xk_ns (xr_ 0) xk_cl xk_tA q.1 q.2 ∨ xm_lkV l "AbsenceRows" xt_T xk_ns (xr_ 0) xk_cl xk_tA q.1 q.2 from fun _ h => absurd h List.not_mem_nil) (n, C) h
set_option maxRecDepth 20000 in
set_option maxHeartbeats 2000000 in
theorem cA_isAbove (l : Launch) : xm_Pu l xy_A_isAbove (Cond.code xy_A_isAbove xb_A_isAbove 3 (some .boolean) :: xt_T) (xr_ 0) xk_cl xk_ns xk_tA pA_isAbove fA_isAbove := by
  refine xm_mk_pu (rt := .boolean) (fl := xf_A) (ct := tA_isAbove) (cn := []) (cj := []) (plainFor_of_name (by decide)) xs_A xd_A_isAbove rfl (Or.inr rfl) (lA_isAbove l) (fun _ _ _ _ _ _ _ _ => False) ?_ ?_ ?_ (fun _ _ _ _ _ _ _ _ _ h => h.elim) ?_
  · rintro as M ⟨w, p, rfl, hpre⟩; exact Nat.le_of_ble_eq_true rfl
  · rintro as M ⟨w, p, rfl, hpre⟩; simp [fA_isAbove]
  · rintro as M v ⟨w, p, rfl, hpre⟩ h; first | rfl | (simp [fA_isAbove] at h)
  · rintro as M ⟨w, p, rfl, hpre⟩
    refine ⟨400, (And.intro rfl (And.intro rfl (And.intro rfl (And.intro ?g1_i_8 (And.intro rfl (And.intro rfl (And.intro rfl (And.intro ?g2_i_17 (And.intro (by decide) (And.intro (fun h18 => (And.intro ?g3_w_26 ?g4_r_26)) (fun h18 => (And.intro (by decide) (And.intro ?g5_w_26 ?g6_r_26)))))))))))))⟩
    case g1_i_8 =>
      first | exact hpre.1 | exact hpre.2
    case g2_i_17 =>
      first | exact hpre.1 | exact hpre.2
    case g3_w_26 =>
      first | rfl | exact xi_nb
    case g4_r_26 =>
      refine ⟨congrArg (fun z => some (Value.int z)) ?_, rfl⟩
      try simp only [xi_0, xi_n0] at *
      first | exact (xi_t (by grind [Int32.not_lt, Int32.not_le])).symm | exact (xi_f (by grind [Int32.not_lt, Int32.not_le])).symm
    case g5_w_26 =>
      first | rfl | exact xi_nb
    case g6_r_26 =>
      refine ⟨congrArg (fun z => some (Value.int z)) ?_, rfl⟩
      try simp only [xi_0, xi_n0] at *
      first | exact (xi_t (by grind [Int32.not_lt, Int32.not_le])).symm | exact (xi_f (by grind [Int32.not_lt, Int32.not_le])).symm
def pP_daysThere (as : List Value) (M : xm_M) : Prop := ∃ p y : Int32, as = [.ref 2, .int p, .int y] ∧ vp_in p 20
noncomputable def fP_daysThere (as : List Value) (M : xm_M) : Option Value × xm_M := match as with
  | [_, .int p, .int y] => (some (.int ((fun z : Int32 => if (0 : Int32) < z then z else 0) ((fun z : Int32 => if z < 365 then z else 365) ((y + 1) * 365 - M 10 p.toNatClampNeg)))), M)
  | _ => (none, M)
noncomputable abbrev sP_daysThere : xm_C := (0, 3, 0, pP_daysThere, fP_daysThere)
theorem uP_daysThere : ∀ as M, (fP_daysThere as M).2 = M := by
  intro as M
  unfold fP_daysThere
  split <;> rfl
theorem vP_daysThere : ∀ as M, pP_daysThere as M → ∃ as1, as = .ref 2 :: as1 := by
  rintro as M ⟨p, y, rfl, hpre⟩
  exact ⟨_, rfl⟩
noncomputable def tP_daysThere : List (Nat × xm_C) := [(41, sJ_min), (47, sJ_max)]
theorem lP_daysThere (l : Launch) : ∀ n C, (n, C) ∈ tP_daysThere → xm_lkS l "AbsenceRows$Persons" xt_T xk_ns (xr_ 1) xk_cl xk_tA n C ∨ xm_lkV l "AbsenceRows$Persons" xt_T xk_ns (xr_ 1) xk_cl xk_tA n C := fun n C h => (show ∀ q ∈ tP_daysThere, xm_lkS l "AbsenceRows$Persons" xt_T xk_ns (xr_ 1) xk_cl xk_tA q.1 q.2 ∨ xm_lkV l "AbsenceRows$Persons" xt_T xk_ns (xr_ 1) xk_cl xk_tA q.1 q.2 from List.forall_mem_cons.mpr ⟨Or.inl ⟨xy_J_min, xb_J_min, 2, (some .int), xr_ 0, rfl, ⟨xe_J_min, xw_51, ⟨by decide, by decide, by decide +kernel⟩, ⟨Nat.le_of_ble_eq_true rfl, Nat.le_of_ble_eq_true rfl⟩, rfl, rfl⟩, xw_433, Or.inl xw_432, Or.inl ⟨rfl, uJ_min, cJ_min l⟩⟩, List.forall_mem_cons.mpr ⟨Or.inl ⟨xy_J_max, xb_J_max, 2, (some .int), xr_ 0, rfl, ⟨xe_J_max, xw_51, ⟨by decide, by decide, by decide +kernel⟩, ⟨Nat.le_of_ble_eq_true rfl, Nat.le_of_ble_eq_true rfl⟩, rfl, rfl⟩, xw_436, Or.inl xw_435, Or.inl ⟨rfl, uJ_max, cJ_max l⟩⟩, fun _ h => absurd h List.not_mem_nil⟩⟩) (n, C) h
set_option maxRecDepth 20000 in
set_option maxHeartbeats 2000000 in
theorem cP_daysThere (l : Launch) : xm_Pu l xy_P_daysThere (Cond.code xy_P_daysThere xb_P_daysThere 4 (some .int) :: xt_T) (xr_ 1) xk_cl xk_ns xk_tA pP_daysThere fP_daysThere := by
  refine xm_mk_pu (rt := .int) (fl := xf_P) (ct := tP_daysThere) (cn := []) (cj := []) (plainFor_of_name (by decide)) xs_P xd_P_daysThere rfl (Or.inr rfl) (lP_daysThere l) (fun _ _ _ _ _ _ _ _ => False) ?_ ?_ ?_ (fun _ _ _ _ _ _ _ _ _ h => h.elim) ?_
  · rintro as M ⟨p, y, rfl, hpre⟩; exact Nat.le_of_ble_eq_true rfl
  · rintro as M ⟨p, y, rfl, hpre⟩; simp [fP_daysThere]
  · rintro as M v ⟨p, y, rfl, hpre⟩ h; first | rfl | (simp [fP_daysThere] at h)
  · rintro as M ⟨p, y, rfl, hpre⟩
    refine ⟨400, (And.intro (Nat.le_of_ble_eq_true rfl) (And.intro rfl (And.intro rfl (And.intro ?g1_i_18 (And.intro rfl (And.intro (Nat.le_of_ble_eq_true rfl) (And.intro (Nat.le_of_ble_eq_true rfl) (And.intro ?g2_c_20 (And.intro rfl (And.intro (Nat.le_of_ble_eq_true rfl) (And.intro (Nat.le_of_ble_eq_true rfl) (And.intro ?g3_c_23 (And.intro ?g4_w_26 ?g5_r_26)))))))))))))⟩
    case g1_i_18 =>
      exact hpre
    case g2_c_20 =>
      exact ⟨_, _, rfl⟩
    case g3_c_23 =>
      exact ⟨_, _, rfl⟩
    case g4_w_26 =>
      first | rfl | exact xi_nb
    case g5_r_26 =>
      exact ⟨rfl, rfl⟩
