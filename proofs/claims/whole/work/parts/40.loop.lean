/-! THE LAW'S LOOP: its head, and each call before and behind the class's answer -/
def xl_K0 (L : Nat) (x : Int32) (i : Nat) (M : xm_M) (cl : Nat) : Nat → List (Nat × Value) → List Value → xm_M → Nat → Prop := fun pc ls st M' cl' => 6 * i + 6 ≤ L ∧ M' = M ∧ cl' = cl ∧ st = [] ∧ ((pc = 23 ∧ ls = xl_LS (x + Int32.ofInt 6)) ∨ (pc ∈ [144, 224, 284, 320, 356, 424, 492, 588, 692, 760, 816, 884, 964, 1039, 1107, 1175, 1235, 1271, 1339, 1423, 1491, 1547] ∧ ls = xl_LS x))
theorem xl_more {i L : Nat} (hL : L ≤ 3072) (hi : 6 * i ≤ L) (h : ¬ Int32.ofNat (L + 1 - 1) - Int32.ofInt 6 < nI (6 * i)) : 6 * i + 6 ≤ L := by
  apply Classical.byContradiction
  intro hc
  apply h
  have e : Int32.ofNat (L + 1 - 1) - Int32.ofInt 6 = nI L - nI 6 := rfl
  rw [e, Int32.lt_iff_toInt_lt, nI_sub_toInt (by omega) (by omega), nI_toInt (by omega)]
  omega
set_option maxRecDepth 40000 in
set_option maxHeartbeats 8000000 in
theorem xl_s0 {L i : Nat} (xs : Nat → Int32) (M : xm_M) (cl : Nat) (hL : L ≤ 3072) (hi : 6 * i ≤ L) : xm_w (L + 1) xs xp_law [] xl_ct [] [] xk_tC .boolean 7 xl_Q (fun _ _ _ _ => False) (xl_K0 L (nI (6 * i)) i M cl) 100 false (xm_at xp_law 23) (xl_LS (nI (6 * i))) [] M cl := by
  refine (And.intro rfl (And.intro (Nat.succ_pos L) (And.intro (by decide) (And.intro (fun h30 => (And.intro ?g1_w_1610 ?g2_r_1610)) (fun h30 => (And.intro rfl (And.intro rfl (And.intro (Nat.succ_pos L) (And.intro ?g3_i_36 (And.intro (fun h40 => (And.intro (by decide) (And.intro (Nat.le_of_ble_eq_true rfl) (And.intro (by decide) ?g4_k_23)))) (And.intro (by decide) (And.intro (fun h40 => (And.intro (by decide) ?g26_k_144)) (And.intro (fun h40 => (And.intro (by decide) ?g25_k_224)) (And.intro (fun h40 => (And.intro (by decide) ?g24_k_284)) (And.intro (fun h40 => (And.intro (by decide) ?g23_k_320)) (And.intro (fun h40 => (And.intro (by decide) ?g22_k_356)) (And.intro (fun h40 => (And.intro (by decide) ?g21_k_424)) (And.intro (fun h40 => (And.intro (by decide) ?g20_k_492)) (And.intro (fun h40 => (And.intro (by decide) ?g19_k_588)) (And.intro (fun h40 => (And.intro (by decide) ?g18_k_692)) (And.intro (fun h40 => (And.intro (by decide) ?g17_k_760)) (And.intro (fun h40 => (And.intro (by decide) ?g16_k_816)) (And.intro (fun h40 => (And.intro (by decide) ?g15_k_884)) (And.intro (fun h40 => (And.intro (by decide) ?g14_k_964)) (And.intro (fun h40 => (And.intro (by decide) ?g13_k_1039)) (And.intro (fun h40 => (And.intro (by decide) ?g12_k_1107)) (And.intro (fun h40 => (And.intro (by decide) ?g11_k_1175)) (And.intro (fun h40 => (And.intro (by decide) ?g10_k_1235)) (And.intro (fun h40 => (And.intro (by decide) ?g9_k_1271)) (And.intro (fun h40 => (And.intro (by decide) ?g8_k_1339)) (And.intro (fun h40 => (And.intro (by decide) ?g7_k_1423)) (And.intro (fun h40 => (And.intro (by decide) ?g6_k_1491)) (And.intro (fun h40 => (And.intro (by decide) ?g5_k_1547)) True.intro)))))))))))))))))))))))))))))))))
  case g1_w_1610 =>
    rfl
  case g2_r_1610 =>
    rfl
  case g3_i_36 =>
    exact xl_in0 hL (xl_more hL hi h30)
  case g4_k_23 =>
    exact ⟨xl_more hL hi h30, rfl, rfl, rfl, Or.inl ⟨rfl, rfl⟩⟩
  case g5_k_1547 =>
    exact ⟨xl_more hL hi h30, rfl, rfl, rfl, Or.inr ⟨by decide, rfl⟩⟩
  case g6_k_1491 =>
    exact ⟨xl_more hL hi h30, rfl, rfl, rfl, Or.inr ⟨by decide, rfl⟩⟩
  case g7_k_1423 =>
    exact ⟨xl_more hL hi h30, rfl, rfl, rfl, Or.inr ⟨by decide, rfl⟩⟩
  case g8_k_1339 =>
    exact ⟨xl_more hL hi h30, rfl, rfl, rfl, Or.inr ⟨by decide, rfl⟩⟩
  case g9_k_1271 =>
    exact ⟨xl_more hL hi h30, rfl, rfl, rfl, Or.inr ⟨by decide, rfl⟩⟩
  case g10_k_1235 =>
    exact ⟨xl_more hL hi h30, rfl, rfl, rfl, Or.inr ⟨by decide, rfl⟩⟩
  case g11_k_1175 =>
    exact ⟨xl_more hL hi h30, rfl, rfl, rfl, Or.inr ⟨by decide, rfl⟩⟩
  case g12_k_1107 =>
    exact ⟨xl_more hL hi h30, rfl, rfl, rfl, Or.inr ⟨by decide, rfl⟩⟩
  case g13_k_1039 =>
    exact ⟨xl_more hL hi h30, rfl, rfl, rfl, Or.inr ⟨by decide, rfl⟩⟩
  case g14_k_964 =>
    exact ⟨xl_more hL hi h30, rfl, rfl, rfl, Or.inr ⟨by decide, rfl⟩⟩
  case g15_k_884 =>
    exact ⟨xl_more hL hi h30, rfl, rfl, rfl, Or.inr ⟨by decide, rfl⟩⟩
  case g16_k_816 =>
    exact ⟨xl_more hL hi h30, rfl, rfl, rfl, Or.inr ⟨by decide, rfl⟩⟩
  case g17_k_760 =>
    exact ⟨xl_more hL hi h30, rfl, rfl, rfl, Or.inr ⟨by decide, rfl⟩⟩
  case g18_k_692 =>
    exact ⟨xl_more hL hi h30, rfl, rfl, rfl, Or.inr ⟨by decide, rfl⟩⟩
  case g19_k_588 =>
    exact ⟨xl_more hL hi h30, rfl, rfl, rfl, Or.inr ⟨by decide, rfl⟩⟩
  case g20_k_492 =>
    exact ⟨xl_more hL hi h30, rfl, rfl, rfl, Or.inr ⟨by decide, rfl⟩⟩
  case g21_k_424 =>
    exact ⟨xl_more hL hi h30, rfl, rfl, rfl, Or.inr ⟨by decide, rfl⟩⟩
  case g22_k_356 =>
    exact ⟨xl_more hL hi h30, rfl, rfl, rfl, Or.inr ⟨by decide, rfl⟩⟩
  case g23_k_320 =>
    exact ⟨xl_more hL hi h30, rfl, rfl, rfl, Or.inr ⟨by decide, rfl⟩⟩
  case g24_k_284 =>
    exact ⟨xl_more hL hi h30, rfl, rfl, rfl, Or.inr ⟨by decide, rfl⟩⟩
  case g25_k_224 =>
    exact ⟨xl_more hL hi h30, rfl, rfl, rfl, Or.inr ⟨by decide, rfl⟩⟩
  case g26_k_144 =>
    exact ⟨xl_more hL hi h30, rfl, rfl, rfl, Or.inr ⟨by decide, rfl⟩⟩
set_option maxRecDepth 40000 in
set_option maxHeartbeats 8000000 in
theorem xl_a_person {L i : Nat} (xs : Nat → Int32) (M : xm_M) (cl : Nat) (hL : L ≤ 3072) (hi : 6 * i + 6 ≤ L) : xm_w (L + 1) xs xp_law [] xl_ct [] [] xk_tC .boolean 7 xl_Q (fun _ _ _ _ => False) (fun pc ls st M' cl' => pc = 164 ∧ ls = xl_LS (nI (6 * i)) ∧ st = [.ref 63, .int (xl_g xs (nI (6 * i)) 3), .int (xl_g xs (nI (6 * i)) 2), .int (xl_g xs (nI (6 * i)) 1), .ref 0] ∧ M' = M ∧ cl' = cl) 100 false (xm_at xp_law 144) (xl_LS (nI (6 * i))) [] M cl := by
  refine (And.intro rfl (And.intro rfl (And.intro (Nat.succ_pos L) (And.intro ?g1_i_150 (And.intro rfl (And.intro rfl (And.intro (Nat.succ_pos L) (And.intro ?g2_i_156 (And.intro rfl (And.intro rfl (And.intro (Nat.succ_pos L) (And.intro ?g3_i_162 ?g4_k_164))))))))))))
  case g1_i_150 =>
    exact xl_in (k := 1) hL hi (by decide)
  case g2_i_156 =>
    exact xl_in (k := 2) hL hi (by decide)
  case g3_i_162 =>
    exact xl_in (k := 3) hL hi (by decide)
  case g4_k_164 =>
    exact ⟨rfl, rfl, rfl, rfl, rfl⟩
set_option maxRecDepth 40000 in
set_option maxHeartbeats 8000000 in
theorem xl_b_person {L i : Nat} (xs : Nat → Int32) (M : xm_M) (cl : Nat) (kv : Int32) (hL : L ≤ 3072) (hi : 6 * i + 6 ≤ L) (hF : xl_F pM_person fM_person [.ref 0, .int (xl_g xs (nI (6 * i)) 1), .int (xl_g xs (nI (6 * i)) 2), .int (xl_g xs (nI (6 * i)) 3)] kv M True) : xm_w (L + 1) xs xp_law [] xl_ct [] [] xk_tC .boolean 7 xl_Q (fun _ _ _ _ => False) (xl_K (nI (6 * i)) cl) 100 false (xm_at xp_law 167) (xl_LS (nI (6 * i))) [.int kv] M (cl + 1) := by
  refine (And.intro (Nat.le_of_ble_eq_true rfl) (And.intro rfl (And.intro rfl (And.intro (Nat.succ_pos L) (And.intro ?g1_i_175 (And.intro rfl (And.intro rfl (And.intro (Nat.succ_pos L) (And.intro ?g2_i_181 (And.intro rfl (And.intro rfl (And.intro (Nat.succ_pos L) (And.intro ?g3_i_187 (And.intro rfl (And.intro (Nat.le_of_ble_eq_true rfl) (And.intro (Nat.le_of_ble_eq_true rfl) (And.intro ?g4_c_188 (And.intro (Nat.le_of_ble_eq_true rfl) (And.intro rfl (And.intro (Nat.le_of_ble_eq_true rfl) (And.intro (Nat.le_of_ble_eq_true rfl) (And.intro ?g5_t_194 (And.intro (by decide) (And.intro (fun h199 => (And.intro (by decide) (And.intro (fun h206 => (And.intro (by decide) (And.intro (Nat.le_of_ble_eq_true rfl) (And.intro (by decide) ?g6_k_23)))) (fun h206 => (And.intro rfl (And.intro ?g7_j_211 (And.intro (by decide) (And.intro (fun h216 => (And.intro (by decide) (And.intro (Nat.le_of_ble_eq_true rfl) (And.intro (by decide) ?g8_k_23)))) (fun h216 => (And.intro ?g9_w_220 ?g10_r_220)))))))))) (fun h199 => (And.intro ?g11_w_203 ?g12_r_203))))))))))))))))))))))))))
  case g1_i_175 =>
    exact xl_in (k := 1) hL hi (by decide)
  case g2_i_181 =>
    exact xl_in (k := 2) hL hi (by decide)
  case g3_i_187 =>
    exact xl_in (k := 3) hL hi (by decide)
  case g4_c_188 =>
    exact ⟨_, rfl, hF.1⟩
  case g5_t_194 =>
    exact ⟨[.ref 0], rfl, rfl⟩
  case g6_k_23 =>
    exact ⟨rfl, rfl, rfl, hF.2.2.2, Nat.le_refl _⟩
  case g7_j_211 =>
    exact vp_in_nI (n := 0) (N := 1) (by decide) (by decide)
  case g8_k_23 =>
    exact ⟨rfl, rfl, rfl, hF.2.2.2, Nat.le_refl _⟩
  case g9_w_220 =>
    rfl
  case g10_r_220 =>
    exact absurd (xl_cmp (congrArg Int32.toInt64 (hF.2.2.1 h206 trivial))) h216
  case g11_w_203 =>
    rfl
  case g12_r_203 =>
    exact absurd hF.2.1 h199
set_option maxRecDepth 40000 in
set_option maxHeartbeats 8000000 in
theorem xl_a_budget {L i : Nat} (xs : Nat → Int32) (M : xm_M) (cl : Nat) (hL : L ≤ 3072) (hi : 6 * i + 6 ≤ L) : xm_w (L + 1) xs xp_law [] xl_ct [] [] xk_tC .boolean 7 xl_Q (fun _ _ _ _ => False) (fun pc ls st M' cl' => pc = 243 ∧ ls = xl_LS (nI (6 * i)) ∧ st = [.int (xl_g xs (nI (6 * i)) 3), .int (xl_g xs (nI (6 * i)) 2), .int (xl_g xs (nI (6 * i)) 1), .ref 0] ∧ M' = M ∧ cl' = cl) 100 false (xm_at xp_law 224) (xl_LS (nI (6 * i))) [] M cl := by
  refine (And.intro rfl (And.intro rfl (And.intro (Nat.succ_pos L) (And.intro ?g1_i_230 (And.intro rfl (And.intro rfl (And.intro (Nat.succ_pos L) (And.intro ?g2_i_236 (And.intro rfl (And.intro rfl (And.intro (Nat.succ_pos L) (And.intro ?g3_i_242 ?g4_k_243))))))))))))
  case g1_i_230 =>
    exact xl_in (k := 1) hL hi (by decide)
  case g2_i_236 =>
    exact xl_in (k := 2) hL hi (by decide)
  case g3_i_242 =>
    exact xl_in (k := 3) hL hi (by decide)
  case g4_k_243 =>
    exact ⟨rfl, rfl, rfl, rfl, rfl⟩
set_option maxRecDepth 40000 in
set_option maxHeartbeats 8000000 in
theorem xl_b_budget {L i : Nat} (xs : Nat → Int32) (M : xm_M) (cl : Nat) (kv : Int32) (hL : L ≤ 3072) (hi : 6 * i + 6 ≤ L) (hF : xl_F pM_budget fM_budget [.ref 0, .int (xl_g xs (nI (6 * i)) 1), .int (xl_g xs (nI (6 * i)) 2), .int (xl_g xs (nI (6 * i)) 3)] kv M False) : xm_w (L + 1) xs xp_law [] xl_ct [] [] xk_tC .boolean 7 xl_Q (fun _ _ _ _ => False) (xl_K (nI (6 * i)) cl) 100 false (xm_at xp_law 246) (xl_LS (nI (6 * i))) [.int kv] M (cl + 1) := by
  refine (And.intro (Nat.le_of_ble_eq_true rfl) (And.intro rfl (And.intro rfl (And.intro (Nat.succ_pos L) (And.intro ?g1_i_254 (And.intro rfl (And.intro rfl (And.intro (Nat.succ_pos L) (And.intro ?g2_i_260 (And.intro rfl (And.intro rfl (And.intro (Nat.succ_pos L) (And.intro ?g3_i_266 (And.intro rfl (And.intro (Nat.le_of_ble_eq_true rfl) (And.intro (Nat.le_of_ble_eq_true rfl) (And.intro ?g4_c_267 (And.intro rfl (And.intro (Nat.le_of_ble_eq_true rfl) (And.intro (Nat.le_of_ble_eq_true rfl) (And.intro ?g5_t_271 (And.intro (by decide) (And.intro (fun h276 => (And.intro (by decide) (And.intro (Nat.le_of_ble_eq_true rfl) (And.intro (by decide) ?g6_k_23)))) (fun h276 => (And.intro ?g7_w_280 ?g8_r_280)))))))))))))))))))))))))
  case g1_i_254 =>
    exact xl_in (k := 1) hL hi (by decide)
  case g2_i_260 =>
    exact xl_in (k := 2) hL hi (by decide)
  case g3_i_266 =>
    exact xl_in (k := 3) hL hi (by decide)
  case g4_c_267 =>
    exact ⟨_, rfl, hF.1⟩
  case g5_t_271 =>
    exact ⟨[.ref 0], rfl, rfl⟩
  case g6_k_23 =>
    exact ⟨rfl, rfl, rfl, hF.2.2.2, Nat.le_refl _⟩
  case g7_w_280 =>
    rfl
  case g8_r_280 =>
    exact absurd hF.2.1 h276
set_option maxRecDepth 40000 in
set_option maxHeartbeats 8000000 in
theorem xl_a_carry {L i : Nat} (xs : Nat → Int32) (M : xm_M) (cl : Nat) (hL : L ≤ 3072) (hi : 6 * i + 6 ≤ L) : xm_w (L + 1) xs xp_law [] xl_ct [] [] xk_tC .boolean 7 xl_Q (fun _ _ _ _ => False) (fun pc ls st M' cl' => pc = 291 ∧ ls = xl_LS (nI (6 * i)) ∧ st = [.int (xl_g xs (nI (6 * i)) 1), .ref 0] ∧ M' = M ∧ cl' = cl) 100 false (xm_at xp_law 284) (xl_LS (nI (6 * i))) [] M cl := by
  refine (And.intro rfl (And.intro rfl (And.intro (Nat.succ_pos L) (And.intro ?g1_i_290 ?g2_k_291))))
  case g1_i_290 =>
    exact xl_in (k := 1) hL hi (by decide)
  case g2_k_291 =>
    exact ⟨rfl, rfl, rfl, rfl, rfl⟩
set_option maxRecDepth 40000 in
set_option maxHeartbeats 8000000 in
theorem xl_b_carry {L i : Nat} (xs : Nat → Int32) (M : xm_M) (cl : Nat) (kv : Int32) (hL : L ≤ 3072) (hi : 6 * i + 6 ≤ L) (hF : xl_F pM_carry fM_carry [.ref 0, .int (xl_g xs (nI (6 * i)) 1)] kv M False) : xm_w (L + 1) xs xp_law [] xl_ct [] [] xk_tC .boolean 7 xl_Q (fun _ _ _ _ => False) (xl_K (nI (6 * i)) cl) 100 false (xm_at xp_law 294) (xl_LS (nI (6 * i))) [.int kv] M (cl + 1) := by
  refine (And.intro (Nat.le_of_ble_eq_true rfl) (And.intro rfl (And.intro rfl (And.intro (Nat.succ_pos L) (And.intro ?g1_i_302 (And.intro rfl (And.intro (Nat.le_of_ble_eq_true rfl) (And.intro (Nat.le_of_ble_eq_true rfl) (And.intro ?g2_c_303 (And.intro rfl (And.intro (Nat.le_of_ble_eq_true rfl) (And.intro (Nat.le_of_ble_eq_true rfl) (And.intro ?g3_t_307 (And.intro (by decide) (And.intro (fun h312 => (And.intro (by decide) (And.intro (Nat.le_of_ble_eq_true rfl) (And.intro (by decide) ?g4_k_23)))) (fun h312 => (And.intro ?g5_w_316 ?g6_r_316)))))))))))))))))
  case g1_i_302 =>
    exact xl_in (k := 1) hL hi (by decide)
  case g2_c_303 =>
    exact ⟨_, rfl, hF.1⟩
  case g3_t_307 =>
    exact ⟨[.ref 0], rfl, rfl⟩
  case g4_k_23 =>
    exact ⟨rfl, rfl, rfl, hF.2.2.2, Nat.le_refl _⟩
  case g5_w_316 =>
    rfl
  case g6_r_316 =>
    exact absurd hF.2.1 h312
set_option maxRecDepth 40000 in
set_option maxHeartbeats 8000000 in
theorem xl_a_holiday {L i : Nat} (xs : Nat → Int32) (M : xm_M) (cl : Nat) (hL : L ≤ 3072) (hi : 6 * i + 6 ≤ L) : xm_w (L + 1) xs xp_law [] xl_ct [] [] xk_tC .boolean 7 xl_Q (fun _ _ _ _ => False) (fun pc ls st M' cl' => pc = 327 ∧ ls = xl_LS (nI (6 * i)) ∧ st = [.int (xl_g xs (nI (6 * i)) 1), .ref 0] ∧ M' = M ∧ cl' = cl) 100 false (xm_at xp_law 320) (xl_LS (nI (6 * i))) [] M cl := by
  refine (And.intro rfl (And.intro rfl (And.intro (Nat.succ_pos L) (And.intro ?g1_i_326 ?g2_k_327))))
  case g1_i_326 =>
    exact xl_in (k := 1) hL hi (by decide)
  case g2_k_327 =>
    exact ⟨rfl, rfl, rfl, rfl, rfl⟩
set_option maxRecDepth 40000 in
set_option maxHeartbeats 8000000 in
theorem xl_b_holiday {L i : Nat} (xs : Nat → Int32) (M : xm_M) (cl : Nat) (kv : Int32) (hL : L ≤ 3072) (hi : 6 * i + 6 ≤ L) (hF : xl_F pM_holiday fM_holiday [.ref 0, .int (xl_g xs (nI (6 * i)) 1)] kv M False) : xm_w (L + 1) xs xp_law [] xl_ct [] [] xk_tC .boolean 7 xl_Q (fun _ _ _ _ => False) (xl_K (nI (6 * i)) cl) 100 false (xm_at xp_law 330) (xl_LS (nI (6 * i))) [.int kv] M (cl + 1) := by
  refine (And.intro (Nat.le_of_ble_eq_true rfl) (And.intro rfl (And.intro rfl (And.intro (Nat.succ_pos L) (And.intro ?g1_i_338 (And.intro rfl (And.intro (Nat.le_of_ble_eq_true rfl) (And.intro (Nat.le_of_ble_eq_true rfl) (And.intro ?g2_c_339 (And.intro rfl (And.intro (Nat.le_of_ble_eq_true rfl) (And.intro (Nat.le_of_ble_eq_true rfl) (And.intro ?g3_t_343 (And.intro (by decide) (And.intro (fun h348 => (And.intro (by decide) (And.intro (Nat.le_of_ble_eq_true rfl) (And.intro (by decide) ?g4_k_23)))) (fun h348 => (And.intro ?g5_w_352 ?g6_r_352)))))))))))))))))
  case g1_i_338 =>
    exact xl_in (k := 1) hL hi (by decide)
  case g2_c_339 =>
    exact ⟨_, rfl, hF.1⟩
  case g3_t_343 =>
    exact ⟨[.ref 0], rfl, rfl⟩
  case g4_k_23 =>
    exact ⟨rfl, rfl, rfl, hF.2.2.2, Nat.le_refl _⟩
  case g5_w_352 =>
    rfl
  case g6_r_352 =>
    exact absurd hF.2.1 h348
set_option maxRecDepth 40000 in
set_option maxHeartbeats 8000000 in
theorem xl_a_working {L i : Nat} (xs : Nat → Int32) (M : xm_M) (cl : Nat) (hL : L ≤ 3072) (hi : 6 * i + 6 ≤ L) : xm_w (L + 1) xs xp_law [] xl_ct [] [] xk_tC .boolean 7 xl_Q (fun _ _ _ _ => False) (fun pc ls st M' cl' => pc = 370 ∧ ls = xl_LS (nI (6 * i)) ∧ st = [.ref 63, .int (xl_g xs (nI (6 * i)) 2), .int (xl_g xs (nI (6 * i)) 1), .ref 0] ∧ M' = M ∧ cl' = cl) 100 false (xm_at xp_law 356) (xl_LS (nI (6 * i))) [] M cl := by
  refine (And.intro rfl (And.intro rfl (And.intro (Nat.succ_pos L) (And.intro ?g1_i_362 (And.intro rfl (And.intro rfl (And.intro (Nat.succ_pos L) (And.intro ?g2_i_368 ?g3_k_370))))))))
  case g1_i_362 =>
    exact xl_in (k := 1) hL hi (by decide)
  case g2_i_368 =>
    exact xl_in (k := 2) hL hi (by decide)
  case g3_k_370 =>
    exact ⟨rfl, rfl, rfl, rfl, rfl⟩
set_option maxRecDepth 40000 in
set_option maxHeartbeats 8000000 in
theorem xl_b_working {L i : Nat} (xs : Nat → Int32) (M : xm_M) (cl : Nat) (kv : Int32) (hL : L ≤ 3072) (hi : 6 * i + 6 ≤ L) (hF : xl_F pM_working fM_working [.ref 0, .int (xl_g xs (nI (6 * i)) 1), .int (xl_g xs (nI (6 * i)) 2)] kv M True) : xm_w (L + 1) xs xp_law [] xl_ct [] [] xk_tC .boolean 7 xl_Q (fun _ _ _ _ => False) (xl_K (nI (6 * i)) cl) 100 false (xm_at xp_law 373) (xl_LS (nI (6 * i))) [.int kv] M (cl + 1) := by
  refine (And.intro (Nat.le_of_ble_eq_true rfl) (And.intro rfl (And.intro rfl (And.intro (Nat.succ_pos L) (And.intro ?g1_i_381 (And.intro rfl (And.intro rfl (And.intro (Nat.succ_pos L) (And.intro ?g2_i_387 (And.intro rfl (And.intro (Nat.le_of_ble_eq_true rfl) (And.intro (Nat.le_of_ble_eq_true rfl) (And.intro ?g3_c_388 (And.intro (Nat.le_of_ble_eq_true rfl) (And.intro rfl (And.intro (Nat.le_of_ble_eq_true rfl) (And.intro (Nat.le_of_ble_eq_true rfl) (And.intro ?g4_t_394 (And.intro (by decide) (And.intro (fun h399 => (And.intro (by decide) (And.intro (fun h406 => (And.intro (by decide) (And.intro (Nat.le_of_ble_eq_true rfl) (And.intro (by decide) ?g5_k_23)))) (fun h406 => (And.intro rfl (And.intro ?g6_j_411 (And.intro (by decide) (And.intro (fun h416 => (And.intro (by decide) (And.intro (Nat.le_of_ble_eq_true rfl) (And.intro (by decide) ?g7_k_23)))) (fun h416 => (And.intro ?g8_w_420 ?g9_r_420)))))))))) (fun h399 => (And.intro ?g10_w_403 ?g11_r_403))))))))))))))))))))))
  case g1_i_381 =>
    exact xl_in (k := 1) hL hi (by decide)
  case g2_i_387 =>
    exact xl_in (k := 2) hL hi (by decide)
  case g3_c_388 =>
    exact ⟨_, rfl, hF.1⟩
  case g4_t_394 =>
    exact ⟨[.ref 0], rfl, rfl⟩
  case g5_k_23 =>
    exact ⟨rfl, rfl, rfl, hF.2.2.2, Nat.le_refl _⟩
  case g6_j_411 =>
    exact vp_in_nI (n := 0) (N := 1) (by decide) (by decide)
  case g7_k_23 =>
    exact ⟨rfl, rfl, rfl, hF.2.2.2, Nat.le_refl _⟩
  case g8_w_420 =>
    rfl
  case g9_r_420 =>
    exact absurd (xl_cmp (congrArg Int32.toInt64 (hF.2.2.1 h406 trivial))) h416
  case g10_w_403 =>
    rfl
  case g11_r_403 =>
    exact absurd hF.2.1 h399
set_option maxRecDepth 40000 in
set_option maxHeartbeats 8000000 in
theorem xl_a_crew {L i : Nat} (xs : Nat → Int32) (M : xm_M) (cl : Nat) (hL : L ≤ 3072) (hi : 6 * i + 6 ≤ L) : xm_w (L + 1) xs xp_law [] xl_ct [] [] xk_tC .boolean 7 xl_Q (fun _ _ _ _ => False) (fun pc ls st M' cl' => pc = 438 ∧ ls = xl_LS (nI (6 * i)) ∧ st = [.ref 63, .int (xl_g xs (nI (6 * i)) 2), .int (xl_g xs (nI (6 * i)) 1), .ref 0] ∧ M' = M ∧ cl' = cl) 100 false (xm_at xp_law 424) (xl_LS (nI (6 * i))) [] M cl := by
  refine (And.intro rfl (And.intro rfl (And.intro (Nat.succ_pos L) (And.intro ?g1_i_430 (And.intro rfl (And.intro rfl (And.intro (Nat.succ_pos L) (And.intro ?g2_i_436 ?g3_k_438))))))))
  case g1_i_430 =>
    exact xl_in (k := 1) hL hi (by decide)
  case g2_i_436 =>
    exact xl_in (k := 2) hL hi (by decide)
  case g3_k_438 =>
    exact ⟨rfl, rfl, rfl, rfl, rfl⟩
set_option maxRecDepth 40000 in
set_option maxHeartbeats 8000000 in
theorem xl_b_crew {L i : Nat} (xs : Nat → Int32) (M : xm_M) (cl : Nat) (kv : Int32) (hL : L ≤ 3072) (hi : 6 * i + 6 ≤ L) (hF : xl_F pM_crew fM_crew [.ref 0, .int (xl_g xs (nI (6 * i)) 1), .int (xl_g xs (nI (6 * i)) 2)] kv M True) : xm_w (L + 1) xs xp_law [] xl_ct [] [] xk_tC .boolean 7 xl_Q (fun _ _ _ _ => False) (xl_K (nI (6 * i)) cl) 100 false (xm_at xp_law 441) (xl_LS (nI (6 * i))) [.int kv] M (cl + 1) := by
  refine (And.intro (Nat.le_of_ble_eq_true rfl) (And.intro rfl (And.intro rfl (And.intro (Nat.succ_pos L) (And.intro ?g1_i_449 (And.intro rfl (And.intro rfl (And.intro (Nat.succ_pos L) (And.intro ?g2_i_455 (And.intro rfl (And.intro (Nat.le_of_ble_eq_true rfl) (And.intro (Nat.le_of_ble_eq_true rfl) (And.intro ?g3_c_456 (And.intro (Nat.le_of_ble_eq_true rfl) (And.intro rfl (And.intro (Nat.le_of_ble_eq_true rfl) (And.intro (Nat.le_of_ble_eq_true rfl) (And.intro ?g4_t_462 (And.intro (by decide) (And.intro (fun h467 => (And.intro (by decide) (And.intro (fun h474 => (And.intro (by decide) (And.intro (Nat.le_of_ble_eq_true rfl) (And.intro (by decide) ?g5_k_23)))) (fun h474 => (And.intro rfl (And.intro ?g6_j_479 (And.intro (by decide) (And.intro (fun h484 => (And.intro (by decide) (And.intro (Nat.le_of_ble_eq_true rfl) (And.intro (by decide) ?g7_k_23)))) (fun h484 => (And.intro ?g8_w_488 ?g9_r_488)))))))))) (fun h467 => (And.intro ?g10_w_471 ?g11_r_471))))))))))))))))))))))
  case g1_i_449 =>
    exact xl_in (k := 1) hL hi (by decide)
  case g2_i_455 =>
    exact xl_in (k := 2) hL hi (by decide)
  case g3_c_456 =>
    exact ⟨_, rfl, hF.1⟩
  case g4_t_462 =>
    exact ⟨[.ref 0], rfl, rfl⟩
  case g5_k_23 =>
    exact ⟨rfl, rfl, rfl, hF.2.2.2, Nat.le_refl _⟩
  case g6_j_479 =>
    exact vp_in_nI (n := 0) (N := 1) (by decide) (by decide)
  case g7_k_23 =>
    exact ⟨rfl, rfl, rfl, hF.2.2.2, Nat.le_refl _⟩
  case g8_w_488 =>
    rfl
  case g9_r_488 =>
    exact absurd (xl_cmp (congrArg Int32.toInt64 (hF.2.2.1 h474 trivial))) h484
  case g10_w_471 =>
    rfl
  case g11_r_471 =>
    exact absurd hF.2.1 h467
set_option maxRecDepth 40000 in
set_option maxHeartbeats 8000000 in
theorem xl_a_member {L i : Nat} (xs : Nat → Int32) (M : xm_M) (cl : Nat) (hL : L ≤ 3072) (hi : 6 * i + 6 ≤ L) : xm_w (L + 1) xs xp_law [] xl_ct [] [] xk_tC .boolean 7 xl_Q (fun _ _ _ _ => False) (fun pc ls st M' cl' => pc = 520 ∧ ls = xl_LS (nI (6 * i)) ∧ st = [.ref 63, .int (xl_bo (xl_g xs (nI (6 * i)) 3)), .int (xl_g xs (nI (6 * i)) 2), .int (xl_g xs (nI (6 * i)) 1), .ref 0] ∧ M' = M ∧ cl' = cl) 100 false (xm_at xp_law 492) (xl_LS (nI (6 * i))) [] M cl := by
  refine (And.intro rfl (And.intro rfl (And.intro (Nat.succ_pos L) (And.intro ?g1_i_498 (And.intro rfl (And.intro rfl (And.intro (Nat.succ_pos L) (And.intro ?g2_i_504 (And.intro rfl (And.intro rfl (And.intro (Nat.succ_pos L) (And.intro ?g3_i_510 (And.intro (by decide) (And.intro (fun h511 => ?g4_k_520) (fun h511 => (And.intro (by decide) ?g5_k_520))))))))))))))))
  case g1_i_498 =>
    exact xl_in (k := 1) hL hi (by decide)
  case g2_i_504 =>
    exact xl_in (k := 2) hL hi (by decide)
  case g3_i_510 =>
    exact xl_in (k := 3) hL hi (by decide)
  case g4_k_520 =>
    first
      | (refine ⟨rfl, rfl, ?_, rfl, rfl⟩; rw [xl_b0 (x := xl_g xs (nI (6 * i)) 3) h511]; rfl)
      | (refine ⟨rfl, rfl, ?_, rfl, rfl⟩; rw [xl_b1 (x := xl_g xs (nI (6 * i)) 3) h511]; rfl)
  case g5_k_520 =>
    first
      | (refine ⟨rfl, rfl, ?_, rfl, rfl⟩; rw [xl_b0 (x := xl_g xs (nI (6 * i)) 3) h511]; rfl)
      | (refine ⟨rfl, rfl, ?_, rfl, rfl⟩; rw [xl_b1 (x := xl_g xs (nI (6 * i)) 3) h511]; rfl)
set_option maxRecDepth 40000 in
set_option maxHeartbeats 8000000 in
theorem xl_b_member {L i : Nat} (xs : Nat → Int32) (M : xm_M) (cl : Nat) (kv : Int32) (hL : L ≤ 3072) (hi : 6 * i + 6 ≤ L) (hF : xl_F pM_member fM_member [.ref 0, .int (xl_g xs (nI (6 * i)) 1), .int (xl_g xs (nI (6 * i)) 2), .int (xl_bo (xl_g xs (nI (6 * i)) 3))] kv M True) : xm_w (L + 1) xs xp_law [] xl_ct [] [] xk_tC .boolean 7 xl_Q (fun _ _ _ _ => False) (xl_K (nI (6 * i)) cl) 100 false (xm_at xp_law 523) (xl_LS (nI (6 * i))) [.int kv] M (cl + 1) := by
  refine (And.intro (Nat.le_of_ble_eq_true rfl) (And.intro rfl (And.intro rfl (And.intro (Nat.succ_pos L) (And.intro ?g1_i_531 (And.intro rfl (And.intro rfl (And.intro (Nat.succ_pos L) (And.intro ?g2_i_537 (And.intro rfl (And.intro rfl (And.intro (Nat.succ_pos L) (And.intro ?g3_i_543 (And.intro (by decide) (And.intro (fun h544 => (And.intro rfl (And.intro (Nat.le_of_ble_eq_true rfl) (And.intro (Nat.le_of_ble_eq_true rfl) (And.intro ?g4_c_552 (And.intro (Nat.le_of_ble_eq_true rfl) (And.intro rfl (And.intro (Nat.le_of_ble_eq_true rfl) (And.intro (Nat.le_of_ble_eq_true rfl) (And.intro ?g5_t_558 (And.intro (by decide) (And.intro (fun h563 => (And.intro (by decide) (And.intro (fun h570 => (And.intro (by decide) (And.intro (Nat.le_of_ble_eq_true rfl) (And.intro (by decide) ?g6_k_23)))) (fun h570 => (And.intro rfl (And.intro ?g7_j_575 (And.intro (by decide) (And.intro (fun h580 => (And.intro (by decide) (And.intro (Nat.le_of_ble_eq_true rfl) (And.intro (by decide) ?g8_k_23)))) (fun h580 => (And.intro ?g9_w_584 ?g10_r_584)))))))))) (fun h563 => (And.intro ?g11_w_567 ?g12_r_567)))))))))))))) (fun h544 => (And.intro (by decide) (And.intro rfl (And.intro (Nat.le_of_ble_eq_true rfl) (And.intro (Nat.le_of_ble_eq_true rfl) (And.intro ?g13_c_552 (And.intro (Nat.le_of_ble_eq_true rfl) (And.intro rfl (And.intro (Nat.le_of_ble_eq_true rfl) (And.intro (Nat.le_of_ble_eq_true rfl) (And.intro ?g14_t_558 (And.intro (by decide) (And.intro (fun h563 => (And.intro (by decide) (And.intro (fun h570 => (And.intro (by decide) (And.intro (Nat.le_of_ble_eq_true rfl) (And.intro (by decide) ?g15_k_23)))) (fun h570 => (And.intro rfl (And.intro ?g16_j_575 (And.intro (by decide) (And.intro (fun h580 => (And.intro (by decide) (And.intro (Nat.le_of_ble_eq_true rfl) (And.intro (by decide) ?g17_k_23)))) (fun h580 => (And.intro ?g18_w_584 ?g19_r_584)))))))))) (fun h563 => (And.intro ?g20_w_567 ?g21_r_567))))))))))))))))))))))))))))))
  case g1_i_531 =>
    exact xl_in (k := 1) hL hi (by decide)
  case g2_i_537 =>
    exact xl_in (k := 2) hL hi (by decide)
  case g3_i_543 =>
    exact xl_in (k := 3) hL hi (by decide)
  case g4_c_552 =>
    first
      | rw [xl_b0 (x := xl_g xs (nI (6 * i)) 3) h544] at hF
      | rw [xl_b1 (x := xl_g xs (nI (6 * i)) 3) h544] at hF
    first
      | exact ⟨[.ref 0, .int (xl_g xs (nI (6 * i)) 1), .int (xl_g xs (nI (6 * i)) 2), .int 0], rfl, hF.1⟩
      | exact ⟨[.ref 0, .int (xl_g xs (nI (6 * i)) 1), .int (xl_g xs (nI (6 * i)) 2), .int 1], rfl, hF.1⟩
  case g5_t_558 =>
    exact ⟨[.ref 0], rfl, rfl⟩
  case g6_k_23 =>
    first
      | rw [xl_b0 (x := xl_g xs (nI (6 * i)) 3) h544] at hF
      | rw [xl_b1 (x := xl_g xs (nI (6 * i)) 3) h544] at hF
    exact ⟨rfl, rfl, rfl, hF.2.2.2, Nat.le_refl _⟩
  case g7_j_575 =>
    exact vp_in_nI (n := 0) (N := 1) (by decide) (by decide)
  case g8_k_23 =>
    first
      | rw [xl_b0 (x := xl_g xs (nI (6 * i)) 3) h544] at hF
      | rw [xl_b1 (x := xl_g xs (nI (6 * i)) 3) h544] at hF
    exact ⟨rfl, rfl, rfl, hF.2.2.2, Nat.le_refl _⟩
  case g9_w_584 =>
    rfl
  case g10_r_584 =>
    first
      | rw [xl_b0 (x := xl_g xs (nI (6 * i)) 3) h544] at hF
      | rw [xl_b1 (x := xl_g xs (nI (6 * i)) 3) h544] at hF
    exact absurd (xl_cmp (congrArg Int32.toInt64 (hF.2.2.1 h570 trivial))) h580
  case g11_w_567 =>
    rfl
  case g12_r_567 =>
    first
      | rw [xl_b0 (x := xl_g xs (nI (6 * i)) 3) h544] at hF
      | rw [xl_b1 (x := xl_g xs (nI (6 * i)) 3) h544] at hF
    exact absurd hF.2.1 h563
  case g13_c_552 =>
    first
      | rw [xl_b0 (x := xl_g xs (nI (6 * i)) 3) h544] at hF
      | rw [xl_b1 (x := xl_g xs (nI (6 * i)) 3) h544] at hF
    first
      | exact ⟨[.ref 0, .int (xl_g xs (nI (6 * i)) 1), .int (xl_g xs (nI (6 * i)) 2), .int 0], rfl, hF.1⟩
      | exact ⟨[.ref 0, .int (xl_g xs (nI (6 * i)) 1), .int (xl_g xs (nI (6 * i)) 2), .int 1], rfl, hF.1⟩
  case g14_t_558 =>
    exact ⟨[.ref 0], rfl, rfl⟩
  case g15_k_23 =>
    first
      | rw [xl_b0 (x := xl_g xs (nI (6 * i)) 3) h544] at hF
      | rw [xl_b1 (x := xl_g xs (nI (6 * i)) 3) h544] at hF
    exact ⟨rfl, rfl, rfl, hF.2.2.2, Nat.le_refl _⟩
  case g16_j_575 =>
    exact vp_in_nI (n := 0) (N := 1) (by decide) (by decide)
  case g17_k_23 =>
    first
      | rw [xl_b0 (x := xl_g xs (nI (6 * i)) 3) h544] at hF
      | rw [xl_b1 (x := xl_g xs (nI (6 * i)) 3) h544] at hF
    exact ⟨rfl, rfl, rfl, hF.2.2.2, Nat.le_refl _⟩
  case g18_w_584 =>
    rfl
  case g19_r_584 =>
    first
      | rw [xl_b0 (x := xl_g xs (nI (6 * i)) 3) h544] at hF
      | rw [xl_b1 (x := xl_g xs (nI (6 * i)) 3) h544] at hF
    exact absurd (xl_cmp (congrArg Int32.toInt64 (hF.2.2.1 h570 trivial))) h580
  case g20_w_567 =>
    rfl
  case g21_r_567 =>
    first
      | rw [xl_b0 (x := xl_g xs (nI (6 * i)) 3) h544] at hF
      | rw [xl_b1 (x := xl_g xs (nI (6 * i)) 3) h544] at hF
    exact absurd hF.2.1 h563
set_option maxRecDepth 40000 in
set_option maxHeartbeats 8000000 in
theorem xl_a_ask {L i : Nat} (xs : Nat → Int32) (M : xm_M) (cl : Nat) (hL : L ≤ 3072) (hi : 6 * i + 6 ≤ L) : xm_w (L + 1) xs xp_law [] xl_ct [] [] xk_tC .boolean 7 xl_Q (fun _ _ _ _ => False) (fun pc ls st M' cl' => pc = 620 ∧ ls = xl_LS (nI (6 * i)) ∧ st = [.ref 63, .int (xl_g xs (nI (6 * i)) 5), .int (xl_g xs (nI (6 * i)) 4), .int (xl_g xs (nI (6 * i)) 3), .int (xl_g xs (nI (6 * i)) 2), .int (xl_g xs (nI (6 * i)) 1), .ref 0] ∧ M' = M ∧ cl' = cl) 100 false (xm_at xp_law 588) (xl_LS (nI (6 * i))) [] M cl := by
  refine (And.intro rfl (And.intro rfl (And.intro (Nat.succ_pos L) (And.intro ?g1_i_594 (And.intro rfl (And.intro rfl (And.intro (Nat.succ_pos L) (And.intro ?g2_i_600 (And.intro rfl (And.intro rfl (And.intro (Nat.succ_pos L) (And.intro ?g3_i_606 (And.intro rfl (And.intro rfl (And.intro (Nat.succ_pos L) (And.intro ?g4_i_612 (And.intro rfl (And.intro rfl (And.intro (Nat.succ_pos L) (And.intro ?g5_i_618 ?g6_k_620))))))))))))))))))))
  case g1_i_594 =>
    exact xl_in (k := 1) hL hi (by decide)
  case g2_i_600 =>
    exact xl_in (k := 2) hL hi (by decide)
  case g3_i_606 =>
    exact xl_in (k := 3) hL hi (by decide)
  case g4_i_612 =>
    exact xl_in (k := 4) hL hi (by decide)
  case g5_i_618 =>
    exact xl_in (k := 5) hL hi (by decide)
  case g6_k_620 =>
    exact ⟨rfl, rfl, rfl, rfl, rfl⟩
set_option maxRecDepth 40000 in
set_option maxHeartbeats 8000000 in
theorem xl_b_ask {L i : Nat} (xs : Nat → Int32) (M : xm_M) (cl : Nat) (kv : Int32) (hL : L ≤ 3072) (hi : 6 * i + 6 ≤ L) (hF : xl_F pM_ask fM_ask [.ref 0, .int (xl_g xs (nI (6 * i)) 1), .int (xl_g xs (nI (6 * i)) 2), .int (xl_g xs (nI (6 * i)) 3), .int (xl_g xs (nI (6 * i)) 4), .int (xl_g xs (nI (6 * i)) 5)] kv M True) : xm_w (L + 1) xs xp_law [] xl_ct [] [] xk_tC .boolean 7 xl_Q (fun _ _ _ _ => False) (xl_K (nI (6 * i)) cl) 100 false (xm_at xp_law 623) (xl_LS (nI (6 * i))) [.int kv] M (cl + 1) := by
  refine (And.intro (Nat.le_of_ble_eq_true rfl) (And.intro rfl (And.intro rfl (And.intro (Nat.succ_pos L) (And.intro ?g1_i_631 (And.intro rfl (And.intro rfl (And.intro (Nat.succ_pos L) (And.intro ?g2_i_637 (And.intro rfl (And.intro rfl (And.intro (Nat.succ_pos L) (And.intro ?g3_i_643 (And.intro rfl (And.intro rfl (And.intro (Nat.succ_pos L) (And.intro ?g4_i_649 (And.intro rfl (And.intro rfl (And.intro (Nat.succ_pos L) (And.intro ?g5_i_655 (And.intro rfl (And.intro (Nat.le_of_ble_eq_true rfl) (And.intro (Nat.le_of_ble_eq_true rfl) (And.intro ?g6_c_656 (And.intro (Nat.le_of_ble_eq_true rfl) (And.intro rfl (And.intro (Nat.le_of_ble_eq_true rfl) (And.intro (Nat.le_of_ble_eq_true rfl) (And.intro ?g7_t_662 (And.intro (by decide) (And.intro (fun h667 => (And.intro (by decide) (And.intro (fun h674 => (And.intro (by decide) (And.intro (Nat.le_of_ble_eq_true rfl) (And.intro (by decide) ?g8_k_23)))) (fun h674 => (And.intro rfl (And.intro ?g9_j_679 (And.intro (by decide) (And.intro (fun h684 => (And.intro (by decide) (And.intro (Nat.le_of_ble_eq_true rfl) (And.intro (by decide) ?g10_k_23)))) (fun h684 => (And.intro ?g11_w_688 ?g12_r_688)))))))))) (fun h667 => (And.intro ?g13_w_671 ?g14_r_671))))))))))))))))))))))))))))))))))
  case g1_i_631 =>
    exact xl_in (k := 1) hL hi (by decide)
  case g2_i_637 =>
    exact xl_in (k := 2) hL hi (by decide)
  case g3_i_643 =>
    exact xl_in (k := 3) hL hi (by decide)
  case g4_i_649 =>
    exact xl_in (k := 4) hL hi (by decide)
  case g5_i_655 =>
    exact xl_in (k := 5) hL hi (by decide)
  case g6_c_656 =>
    exact ⟨_, rfl, hF.1⟩
  case g7_t_662 =>
    exact ⟨[.ref 0], rfl, rfl⟩
  case g8_k_23 =>
    exact ⟨rfl, rfl, rfl, hF.2.2.2, Nat.le_refl _⟩
  case g9_j_679 =>
    exact vp_in_nI (n := 0) (N := 1) (by decide) (by decide)
  case g10_k_23 =>
    exact ⟨rfl, rfl, rfl, hF.2.2.2, Nat.le_refl _⟩
  case g11_w_688 =>
    rfl
  case g12_r_688 =>
    exact absurd (xl_cmp (congrArg Int32.toInt64 (hF.2.2.1 h674 trivial))) h684
  case g13_w_671 =>
    rfl
  case g14_r_671 =>
    exact absurd hF.2.1 h667
set_option maxRecDepth 40000 in
set_option maxHeartbeats 8000000 in
theorem xl_a_grant {L i : Nat} (xs : Nat → Int32) (M : xm_M) (cl : Nat) (hL : L ≤ 3072) (hi : 6 * i + 6 ≤ L) : xm_w (L + 1) xs xp_law [] xl_ct [] [] xk_tC .boolean 7 xl_Q (fun _ _ _ _ => False) (fun pc ls st M' cl' => pc = 706 ∧ ls = xl_LS (nI (6 * i)) ∧ st = [.ref 63, .int (xl_g xs (nI (6 * i)) 2), .int (xl_g xs (nI (6 * i)) 1), .ref 0] ∧ M' = M ∧ cl' = cl) 100 false (xm_at xp_law 692) (xl_LS (nI (6 * i))) [] M cl := by
  refine (And.intro rfl (And.intro rfl (And.intro (Nat.succ_pos L) (And.intro ?g1_i_698 (And.intro rfl (And.intro rfl (And.intro (Nat.succ_pos L) (And.intro ?g2_i_704 ?g3_k_706))))))))
  case g1_i_698 =>
    exact xl_in (k := 1) hL hi (by decide)
  case g2_i_704 =>
    exact xl_in (k := 2) hL hi (by decide)
  case g3_k_706 =>
    exact ⟨rfl, rfl, rfl, rfl, rfl⟩
set_option maxRecDepth 40000 in
set_option maxHeartbeats 8000000 in
theorem xl_b_grant {L i : Nat} (xs : Nat → Int32) (M : xm_M) (cl : Nat) (kv : Int32) (hL : L ≤ 3072) (hi : 6 * i + 6 ≤ L) (hF : xl_F pM_grant fM_grant [.ref 0, .int (xl_g xs (nI (6 * i)) 1), .int (xl_g xs (nI (6 * i)) 2)] kv M True) : xm_w (L + 1) xs xp_law [] xl_ct [] [] xk_tC .boolean 7 xl_Q (fun _ _ _ _ => False) (xl_K (nI (6 * i)) cl) 100 false (xm_at xp_law 709) (xl_LS (nI (6 * i))) [.int kv] M (cl + 1) := by
  refine (And.intro (Nat.le_of_ble_eq_true rfl) (And.intro rfl (And.intro rfl (And.intro (Nat.succ_pos L) (And.intro ?g1_i_717 (And.intro rfl (And.intro rfl (And.intro (Nat.succ_pos L) (And.intro ?g2_i_723 (And.intro rfl (And.intro (Nat.le_of_ble_eq_true rfl) (And.intro (Nat.le_of_ble_eq_true rfl) (And.intro ?g3_c_724 (And.intro (Nat.le_of_ble_eq_true rfl) (And.intro rfl (And.intro (Nat.le_of_ble_eq_true rfl) (And.intro (Nat.le_of_ble_eq_true rfl) (And.intro ?g4_t_730 (And.intro (by decide) (And.intro (fun h735 => (And.intro (by decide) (And.intro (fun h742 => (And.intro (by decide) (And.intro (Nat.le_of_ble_eq_true rfl) (And.intro (by decide) ?g5_k_23)))) (fun h742 => (And.intro rfl (And.intro ?g6_j_747 (And.intro (by decide) (And.intro (fun h752 => (And.intro (by decide) (And.intro (Nat.le_of_ble_eq_true rfl) (And.intro (by decide) ?g7_k_23)))) (fun h752 => (And.intro ?g8_w_756 ?g9_r_756)))))))))) (fun h735 => (And.intro ?g10_w_739 ?g11_r_739))))))))))))))))))))))
  case g1_i_717 =>
    exact xl_in (k := 1) hL hi (by decide)
  case g2_i_723 =>
    exact xl_in (k := 2) hL hi (by decide)
  case g3_c_724 =>
    exact ⟨_, rfl, hF.1⟩
  case g4_t_730 =>
    exact ⟨[.ref 0], rfl, rfl⟩
  case g5_k_23 =>
    exact ⟨rfl, rfl, rfl, hF.2.2.2, Nat.le_refl _⟩
  case g6_j_747 =>
    exact vp_in_nI (n := 0) (N := 1) (by decide) (by decide)
  case g7_k_23 =>
    exact ⟨rfl, rfl, rfl, hF.2.2.2, Nat.le_refl _⟩
  case g8_w_756 =>
    rfl
  case g9_r_756 =>
    exact absurd (xl_cmp (congrArg Int32.toInt64 (hF.2.2.1 h742 trivial))) h752
  case g10_w_739 =>
    rfl
  case g11_r_739 =>
    exact absurd hF.2.1 h735
set_option maxRecDepth 40000 in
set_option maxHeartbeats 8000000 in
theorem xl_a_withdraw {L i : Nat} (xs : Nat → Int32) (M : xm_M) (cl : Nat) (hL : L ≤ 3072) (hi : 6 * i + 6 ≤ L) : xm_w (L + 1) xs xp_law [] xl_ct [] [] xk_tC .boolean 7 xl_Q (fun _ _ _ _ => False) (fun pc ls st M' cl' => pc = 768 ∧ ls = xl_LS (nI (6 * i)) ∧ st = [.ref 63, .int (xl_g xs (nI (6 * i)) 1), .ref 0] ∧ M' = M ∧ cl' = cl) 100 false (xm_at xp_law 760) (xl_LS (nI (6 * i))) [] M cl := by
  refine (And.intro rfl (And.intro rfl (And.intro (Nat.succ_pos L) (And.intro ?g1_i_766 ?g2_k_768))))
  case g1_i_766 =>
    exact xl_in (k := 1) hL hi (by decide)
  case g2_k_768 =>
    exact ⟨rfl, rfl, rfl, rfl, rfl⟩
set_option maxRecDepth 40000 in
set_option maxHeartbeats 8000000 in
theorem xl_b_withdraw {L i : Nat} (xs : Nat → Int32) (M : xm_M) (cl : Nat) (kv : Int32) (hL : L ≤ 3072) (hi : 6 * i + 6 ≤ L) (hF : xl_F pM_withdraw fM_withdraw [.ref 0, .int (xl_g xs (nI (6 * i)) 1)] kv M True) : xm_w (L + 1) xs xp_law [] xl_ct [] [] xk_tC .boolean 7 xl_Q (fun _ _ _ _ => False) (xl_K (nI (6 * i)) cl) 100 false (xm_at xp_law 771) (xl_LS (nI (6 * i))) [.int kv] M (cl + 1) := by
  refine (And.intro (Nat.le_of_ble_eq_true rfl) (And.intro rfl (And.intro rfl (And.intro (Nat.succ_pos L) (And.intro ?g1_i_779 (And.intro rfl (And.intro (Nat.le_of_ble_eq_true rfl) (And.intro (Nat.le_of_ble_eq_true rfl) (And.intro ?g2_c_780 (And.intro (Nat.le_of_ble_eq_true rfl) (And.intro rfl (And.intro (Nat.le_of_ble_eq_true rfl) (And.intro (Nat.le_of_ble_eq_true rfl) (And.intro ?g3_t_786 (And.intro (by decide) (And.intro (fun h791 => (And.intro (by decide) (And.intro (fun h798 => (And.intro (by decide) (And.intro (Nat.le_of_ble_eq_true rfl) (And.intro (by decide) ?g4_k_23)))) (fun h798 => (And.intro rfl (And.intro ?g5_j_803 (And.intro (by decide) (And.intro (fun h808 => (And.intro (by decide) (And.intro (Nat.le_of_ble_eq_true rfl) (And.intro (by decide) ?g6_k_23)))) (fun h808 => (And.intro ?g7_w_812 ?g8_r_812)))))))))) (fun h791 => (And.intro ?g9_w_795 ?g10_r_795))))))))))))))))))
  case g1_i_779 =>
    exact xl_in (k := 1) hL hi (by decide)
  case g2_c_780 =>
    exact ⟨_, rfl, hF.1⟩
  case g3_t_786 =>
    exact ⟨[.ref 0], rfl, rfl⟩
  case g4_k_23 =>
    exact ⟨rfl, rfl, rfl, hF.2.2.2, Nat.le_refl _⟩
  case g5_j_803 =>
    exact vp_in_nI (n := 0) (N := 1) (by decide) (by decide)
  case g6_k_23 =>
    exact ⟨rfl, rfl, rfl, hF.2.2.2, Nat.le_refl _⟩
  case g7_w_812 =>
    rfl
  case g8_r_812 =>
    exact absurd (xl_cmp (congrArg Int32.toInt64 (hF.2.2.1 h798 trivial))) h808
  case g9_w_795 =>
    rfl
  case g10_r_795 =>
    exact absurd hF.2.1 h791
set_option maxRecDepth 40000 in
set_option maxHeartbeats 8000000 in
theorem xl_a_askAt {L i : Nat} (xs : Nat → Int32) (M : xm_M) (cl : Nat) (hL : L ≤ 3072) (hi : 6 * i + 6 ≤ L) : xm_w (L + 1) xs xp_law [] xl_ct [] [] xk_tC .boolean 7 xl_Q (fun _ _ _ _ => False) (fun pc ls st M' cl' => pc = 830 ∧ ls = xl_LS (nI (6 * i)) ∧ st = [.ref 63, .int (xl_g xs (nI (6 * i)) 2), .int (xl_g xs (nI (6 * i)) 1), .ref 0] ∧ M' = M ∧ cl' = cl) 100 false (xm_at xp_law 816) (xl_LS (nI (6 * i))) [] M cl := by
  refine (And.intro rfl (And.intro rfl (And.intro (Nat.succ_pos L) (And.intro ?g1_i_822 (And.intro rfl (And.intro rfl (And.intro (Nat.succ_pos L) (And.intro ?g2_i_828 ?g3_k_830))))))))
  case g1_i_822 =>
    exact xl_in (k := 1) hL hi (by decide)
  case g2_i_828 =>
    exact xl_in (k := 2) hL hi (by decide)
  case g3_k_830 =>
    exact ⟨rfl, rfl, rfl, rfl, rfl⟩
set_option maxRecDepth 40000 in
set_option maxHeartbeats 8000000 in
theorem xl_b_askAt {L i : Nat} (xs : Nat → Int32) (M : xm_M) (cl : Nat) (kv : Int32) (hL : L ≤ 3072) (hi : 6 * i + 6 ≤ L) (hF : xl_F pM_askAt fM_askAt [.ref 0, .int (xl_g xs (nI (6 * i)) 1), .int (xl_g xs (nI (6 * i)) 2)] kv M True) : xm_w (L + 1) xs xp_law [] xl_ct [] [] xk_tC .boolean 7 xl_Q (fun _ _ _ _ => False) (xl_K (nI (6 * i)) cl) 100 false (xm_at xp_law 833) (xl_LS (nI (6 * i))) [.int kv] M (cl + 1) := by
  refine (And.intro (Nat.le_of_ble_eq_true rfl) (And.intro rfl (And.intro rfl (And.intro (Nat.succ_pos L) (And.intro ?g1_i_841 (And.intro rfl (And.intro rfl (And.intro (Nat.succ_pos L) (And.intro ?g2_i_847 (And.intro rfl (And.intro (Nat.le_of_ble_eq_true rfl) (And.intro (Nat.le_of_ble_eq_true rfl) (And.intro ?g3_c_848 (And.intro (Nat.le_of_ble_eq_true rfl) (And.intro rfl (And.intro (Nat.le_of_ble_eq_true rfl) (And.intro (Nat.le_of_ble_eq_true rfl) (And.intro ?g4_t_854 (And.intro (by decide) (And.intro (fun h859 => (And.intro (by decide) (And.intro (fun h866 => (And.intro (by decide) (And.intro (Nat.le_of_ble_eq_true rfl) (And.intro (by decide) ?g5_k_23)))) (fun h866 => (And.intro rfl (And.intro ?g6_j_871 (And.intro (by decide) (And.intro (fun h876 => (And.intro (by decide) (And.intro (Nat.le_of_ble_eq_true rfl) (And.intro (by decide) ?g7_k_23)))) (fun h876 => (And.intro ?g8_w_880 ?g9_r_880)))))))))) (fun h859 => (And.intro ?g10_w_863 ?g11_r_863))))))))))))))))))))))
  case g1_i_841 =>
    exact xl_in (k := 1) hL hi (by decide)
  case g2_i_847 =>
    exact xl_in (k := 2) hL hi (by decide)
  case g3_c_848 =>
    exact ⟨_, rfl, hF.1⟩
  case g4_t_854 =>
    exact ⟨[.ref 0], rfl, rfl⟩
  case g5_k_23 =>
    exact ⟨rfl, rfl, rfl, hF.2.2.2, Nat.le_refl _⟩
  case g6_j_871 =>
    exact vp_in_nI (n := 0) (N := 1) (by decide) (by decide)
  case g7_k_23 =>
    exact ⟨rfl, rfl, rfl, hF.2.2.2, Nat.le_refl _⟩
  case g8_w_880 =>
    rfl
  case g9_r_880 =>
    exact absurd (xl_cmp (congrArg Int32.toInt64 (hF.2.2.1 h866 trivial))) h876
  case g10_w_863 =>
    rfl
  case g11_r_863 =>
    exact absurd hF.2.1 h859
set_option maxRecDepth 40000 in
set_option maxHeartbeats 8000000 in
theorem xl_a_left {L i : Nat} (xs : Nat → Int32) (M : xm_M) (cl : Nat) (hL : L ≤ 3072) (hi : 6 * i + 6 ≤ L) : xm_w (L + 1) xs xp_law [] xl_ct [] [] xk_tC .boolean 7 xl_Q (fun _ _ _ _ => False) (fun pc ls st M' cl' => pc = 904 ∧ ls = xl_LS (nI (6 * i)) ∧ st = [.ref 63, .int (xl_g xs (nI (6 * i)) 3), .int (xl_g xs (nI (6 * i)) 2), .int (xl_g xs (nI (6 * i)) 1), .ref 0] ∧ M' = M ∧ cl' = cl) 100 false (xm_at xp_law 884) (xl_LS (nI (6 * i))) [] M cl := by
  refine (And.intro rfl (And.intro rfl (And.intro (Nat.succ_pos L) (And.intro ?g1_i_890 (And.intro rfl (And.intro rfl (And.intro (Nat.succ_pos L) (And.intro ?g2_i_896 (And.intro rfl (And.intro rfl (And.intro (Nat.succ_pos L) (And.intro ?g3_i_902 ?g4_k_904))))))))))))
  case g1_i_890 =>
    exact xl_in (k := 1) hL hi (by decide)
  case g2_i_896 =>
    exact xl_in (k := 2) hL hi (by decide)
  case g3_i_902 =>
    exact xl_in (k := 3) hL hi (by decide)
  case g4_k_904 =>
    exact ⟨rfl, rfl, rfl, rfl, rfl⟩
set_option maxRecDepth 40000 in
set_option maxHeartbeats 8000000 in
theorem xl_b_left {L i : Nat} (xs : Nat → Int32) (M : xm_M) (cl : Nat) (kv : Int32) (hL : L ≤ 3072) (hi : 6 * i + 6 ≤ L) (hF : xl_F pM_left fM_left [.ref 0, .int (xl_g xs (nI (6 * i)) 1), .int (xl_g xs (nI (6 * i)) 2), .int (xl_g xs (nI (6 * i)) 3)] kv M True) : xm_w (L + 1) xs xp_law [] xl_ct [] [] xk_tC .boolean 7 xl_Q (fun _ _ _ _ => False) (xl_K (nI (6 * i)) cl) 100 false (xm_at xp_law 907) (xl_LS (nI (6 * i))) [.int kv] M (cl + 1) := by
  refine (And.intro (Nat.le_of_ble_eq_true rfl) (And.intro rfl (And.intro rfl (And.intro (Nat.succ_pos L) (And.intro ?g1_i_915 (And.intro rfl (And.intro rfl (And.intro (Nat.succ_pos L) (And.intro ?g2_i_921 (And.intro rfl (And.intro rfl (And.intro (Nat.succ_pos L) (And.intro ?g3_i_927 (And.intro rfl (And.intro (Nat.le_of_ble_eq_true rfl) (And.intro (Nat.le_of_ble_eq_true rfl) (And.intro ?g4_c_928 (And.intro (Nat.le_of_ble_eq_true rfl) (And.intro rfl (And.intro (Nat.le_of_ble_eq_true rfl) (And.intro (Nat.le_of_ble_eq_true rfl) (And.intro ?g5_t_934 (And.intro (by decide) (And.intro (fun h939 => (And.intro (by decide) (And.intro (fun h946 => (And.intro (by decide) (And.intro (Nat.le_of_ble_eq_true rfl) (And.intro (by decide) ?g6_k_23)))) (fun h946 => (And.intro rfl (And.intro ?g7_j_951 (And.intro (by decide) (And.intro (fun h956 => (And.intro (by decide) (And.intro (Nat.le_of_ble_eq_true rfl) (And.intro (by decide) ?g8_k_23)))) (fun h956 => (And.intro ?g9_w_960 ?g10_r_960)))))))))) (fun h939 => (And.intro ?g11_w_943 ?g12_r_943))))))))))))))))))))))))))
  case g1_i_915 =>
    exact xl_in (k := 1) hL hi (by decide)
  case g2_i_921 =>
    exact xl_in (k := 2) hL hi (by decide)
  case g3_i_927 =>
    exact xl_in (k := 3) hL hi (by decide)
  case g4_c_928 =>
    exact ⟨_, rfl, hF.1⟩
  case g5_t_934 =>
    exact ⟨[.ref 0], rfl, rfl⟩
  case g6_k_23 =>
    exact ⟨rfl, rfl, rfl, hF.2.2.2, Nat.le_refl _⟩
  case g7_j_951 =>
    exact vp_in_nI (n := 0) (N := 1) (by decide) (by decide)
  case g8_k_23 =>
    exact ⟨rfl, rfl, rfl, hF.2.2.2, Nat.le_refl _⟩
  case g9_w_960 =>
    rfl
  case g10_r_960 =>
    exact absurd (xl_cmp (congrArg Int32.toInt64 (hF.2.2.1 h946 trivial))) h956
  case g11_w_943 =>
    rfl
  case g12_r_943 =>
    exact absurd hF.2.1 h939
set_option maxRecDepth 40000 in
set_option maxHeartbeats 8000000 in
theorem xl_a_absent {L i : Nat} (xs : Nat → Int32) (M : xm_M) (cl : Nat) (hL : L ≤ 3072) (hi : 6 * i + 6 ≤ L) : xm_w (L + 1) xs xp_law [] xl_ct [] [] xk_tC .boolean 7 xl_Q (fun _ _ _ _ => False) (fun pc ls st M' cl' => pc = 978 ∧ ls = xl_LS (nI (6 * i)) ∧ st = [.ref 63, .int (xl_g xs (nI (6 * i)) 2), .int (xl_g xs (nI (6 * i)) 1), .ref 0] ∧ M' = M ∧ cl' = cl) 100 false (xm_at xp_law 964) (xl_LS (nI (6 * i))) [] M cl := by
  refine (And.intro rfl (And.intro rfl (And.intro (Nat.succ_pos L) (And.intro ?g1_i_970 (And.intro rfl (And.intro rfl (And.intro (Nat.succ_pos L) (And.intro ?g2_i_976 ?g3_k_978))))))))
  case g1_i_970 =>
    exact xl_in (k := 1) hL hi (by decide)
  case g2_i_976 =>
    exact xl_in (k := 2) hL hi (by decide)
  case g3_k_978 =>
    exact ⟨rfl, rfl, rfl, rfl, rfl⟩
set_option maxRecDepth 40000 in
set_option maxHeartbeats 8000000 in
theorem xl_b_absent {L i : Nat} (xs : Nat → Int32) (M : xm_M) (cl : Nat) (kv : Int32) (hL : L ≤ 3072) (hi : 6 * i + 6 ≤ L) (hF : xl_F pM_absent fM_absent [.ref 0, .int (xl_g xs (nI (6 * i)) 1), .int (xl_g xs (nI (6 * i)) 2)] kv M True) : xm_w (L + 1) xs xp_law [] xl_ct [] [] xk_tC .boolean 7 xl_Q (fun _ _ _ _ => False) (xl_K (nI (6 * i)) cl) 100 false (xm_at xp_law 981) (xl_LS (nI (6 * i))) [.int kv] M (cl + 1) := by
  refine (And.intro (Nat.le_of_ble_eq_true rfl) (And.intro rfl (And.intro rfl (And.intro (Nat.succ_pos L) (And.intro ?g1_i_989 (And.intro rfl (And.intro rfl (And.intro (Nat.succ_pos L) (And.intro ?g2_i_995 (And.intro rfl (And.intro (Nat.le_of_ble_eq_true rfl) (And.intro (Nat.le_of_ble_eq_true rfl) (And.intro ?g3_c_996 (And.intro (Nat.le_of_ble_eq_true rfl) (And.intro rfl (And.intro (Nat.le_of_ble_eq_true rfl) (And.intro (Nat.le_of_ble_eq_true rfl) (And.intro ?g4_t_1002 (And.intro (by decide) (And.intro (fun h1007 => (And.intro (by decide) (And.intro (fun h1014 => (And.intro (by decide) (And.intro (Nat.le_of_ble_eq_true rfl) (And.intro (by decide) ?g5_k_23)))) (fun h1014 => (And.intro rfl (And.intro ?g6_j_1019 (And.intro (by decide) (And.intro (fun h1022 => (And.intro (by decide) (And.intro (fun h1031 => (And.intro (by decide) (And.intro (Nat.le_of_ble_eq_true rfl) (And.intro (by decide) ?g7_k_23)))) (fun h1031 => (And.intro ?g8_w_1035 ?g9_r_1035))))) (fun h1022 => (And.intro (by decide) (And.intro (by decide) (And.intro (fun h1031 => (And.intro (by decide) (And.intro (Nat.le_of_ble_eq_true rfl) (And.intro (by decide) ?g10_k_23)))) (fun h1031 => (And.intro ?g11_w_1035 ?g12_r_1035)))))))))))))) (fun h1007 => (And.intro ?g13_w_1011 ?g14_r_1011))))))))))))))))))))))
  case g1_i_989 =>
    exact xl_in (k := 1) hL hi (by decide)
  case g2_i_995 =>
    exact xl_in (k := 2) hL hi (by decide)
  case g3_c_996 =>
    exact ⟨_, rfl, hF.1⟩
  case g4_t_1002 =>
    exact ⟨[.ref 0], rfl, rfl⟩
  case g5_k_23 =>
    exact ⟨rfl, rfl, rfl, hF.2.2.2, Nat.le_refl _⟩
  case g6_j_1019 =>
    exact vp_in_nI (n := 0) (N := 1) (by decide) (by decide)
  case g7_k_23 =>
    exact ⟨rfl, rfl, rfl, hF.2.2.2, Nat.le_refl _⟩
  case g8_w_1035 =>
    rfl
  case g9_r_1035 =>
    have hv := hF.2.2.1 h1014 trivial
    first
      | (have e0 : xm_ri (fM_absent [.ref 0, .int (xl_g xs (nI (6 * i)) 1), .int (xl_g xs (nI (6 * i)) 2)] (xl_md M)).1 = 0 := h1022
         rw [e0] at hv
         exact absurd (xl_cmp (show (M 63 0).toInt64 = Int64.ofNat 0 by rw [hv]; rfl)) h1031)
      | (have e1 : xm_ri (fM_absent [.ref 0, .int (xl_g xs (nI (6 * i)) 1), .int (xl_g xs (nI (6 * i)) 2)] (xl_md M)).1 = 1 := xi_t (xi_n0.mp h1022)
         rw [e1] at hv
         exact absurd (xl_cmp (show (M 63 0).toInt64 = Int64.ofNat 1 by rw [hv]; rfl)) h1031)
  case g10_k_23 =>
    exact ⟨rfl, rfl, rfl, hF.2.2.2, Nat.le_refl _⟩
  case g11_w_1035 =>
    rfl
  case g12_r_1035 =>
    have hv := hF.2.2.1 h1014 trivial
    first
      | (have e0 : xm_ri (fM_absent [.ref 0, .int (xl_g xs (nI (6 * i)) 1), .int (xl_g xs (nI (6 * i)) 2)] (xl_md M)).1 = 0 := h1022
         rw [e0] at hv
         exact absurd (xl_cmp (show (M 63 0).toInt64 = Int64.ofNat 0 by rw [hv]; rfl)) h1031)
      | (have e1 : xm_ri (fM_absent [.ref 0, .int (xl_g xs (nI (6 * i)) 1), .int (xl_g xs (nI (6 * i)) 2)] (xl_md M)).1 = 1 := xi_t (xi_n0.mp h1022)
         rw [e1] at hv
         exact absurd (xl_cmp (show (M 63 0).toInt64 = Int64.ofNat 1 by rw [hv]; rfl)) h1031)
  case g13_w_1011 =>
    rfl
  case g14_r_1011 =>
    exact absurd hF.2.1 h1007
set_option maxRecDepth 40000 in
set_option maxHeartbeats 8000000 in
theorem xl_a_present {L i : Nat} (xs : Nat → Int32) (M : xm_M) (cl : Nat) (hL : L ≤ 3072) (hi : 6 * i + 6 ≤ L) : xm_w (L + 1) xs xp_law [] xl_ct [] [] xk_tC .boolean 7 xl_Q (fun _ _ _ _ => False) (fun pc ls st M' cl' => pc = 1053 ∧ ls = xl_LS (nI (6 * i)) ∧ st = [.ref 63, .int (xl_g xs (nI (6 * i)) 2), .int (xl_g xs (nI (6 * i)) 1), .ref 0] ∧ M' = M ∧ cl' = cl) 100 false (xm_at xp_law 1039) (xl_LS (nI (6 * i))) [] M cl := by
  refine (And.intro rfl (And.intro rfl (And.intro (Nat.succ_pos L) (And.intro ?g1_i_1045 (And.intro rfl (And.intro rfl (And.intro (Nat.succ_pos L) (And.intro ?g2_i_1051 ?g3_k_1053))))))))
  case g1_i_1045 =>
    exact xl_in (k := 1) hL hi (by decide)
  case g2_i_1051 =>
    exact xl_in (k := 2) hL hi (by decide)
  case g3_k_1053 =>
    exact ⟨rfl, rfl, rfl, rfl, rfl⟩
set_option maxRecDepth 40000 in
set_option maxHeartbeats 8000000 in
theorem xl_b_present {L i : Nat} (xs : Nat → Int32) (M : xm_M) (cl : Nat) (kv : Int32) (hL : L ≤ 3072) (hi : 6 * i + 6 ≤ L) (hF : xl_F pM_present fM_present [.ref 0, .int (xl_g xs (nI (6 * i)) 1), .int (xl_g xs (nI (6 * i)) 2)] kv M True) : xm_w (L + 1) xs xp_law [] xl_ct [] [] xk_tC .boolean 7 xl_Q (fun _ _ _ _ => False) (xl_K (nI (6 * i)) cl) 100 false (xm_at xp_law 1056) (xl_LS (nI (6 * i))) [.int kv] M (cl + 1) := by
  refine (And.intro (Nat.le_of_ble_eq_true rfl) (And.intro rfl (And.intro rfl (And.intro (Nat.succ_pos L) (And.intro ?g1_i_1064 (And.intro rfl (And.intro rfl (And.intro (Nat.succ_pos L) (And.intro ?g2_i_1070 (And.intro rfl (And.intro (Nat.le_of_ble_eq_true rfl) (And.intro (Nat.le_of_ble_eq_true rfl) (And.intro ?g3_c_1071 (And.intro (Nat.le_of_ble_eq_true rfl) (And.intro rfl (And.intro (Nat.le_of_ble_eq_true rfl) (And.intro (Nat.le_of_ble_eq_true rfl) (And.intro ?g4_t_1077 (And.intro (by decide) (And.intro (fun h1082 => (And.intro (by decide) (And.intro (fun h1089 => (And.intro (by decide) (And.intro (Nat.le_of_ble_eq_true rfl) (And.intro (by decide) ?g5_k_23)))) (fun h1089 => (And.intro rfl (And.intro ?g6_j_1094 (And.intro (by decide) (And.intro (fun h1099 => (And.intro (by decide) (And.intro (Nat.le_of_ble_eq_true rfl) (And.intro (by decide) ?g7_k_23)))) (fun h1099 => (And.intro ?g8_w_1103 ?g9_r_1103)))))))))) (fun h1082 => (And.intro ?g10_w_1086 ?g11_r_1086))))))))))))))))))))))
  case g1_i_1064 =>
    exact xl_in (k := 1) hL hi (by decide)
  case g2_i_1070 =>
    exact xl_in (k := 2) hL hi (by decide)
  case g3_c_1071 =>
    exact ⟨_, rfl, hF.1⟩
  case g4_t_1077 =>
    exact ⟨[.ref 0], rfl, rfl⟩
  case g5_k_23 =>
    exact ⟨rfl, rfl, rfl, hF.2.2.2, Nat.le_refl _⟩
  case g6_j_1094 =>
    exact vp_in_nI (n := 0) (N := 1) (by decide) (by decide)
  case g7_k_23 =>
    exact ⟨rfl, rfl, rfl, hF.2.2.2, Nat.le_refl _⟩
  case g8_w_1103 =>
    rfl
  case g9_r_1103 =>
    exact absurd (xl_cmp (congrArg Int32.toInt64 (hF.2.2.1 h1089 trivial))) h1099
  case g10_w_1086 =>
    rfl
  case g11_r_1086 =>
    exact absurd hF.2.1 h1082
set_option maxRecDepth 40000 in
set_option maxHeartbeats 8000000 in
theorem xl_a_held {L i : Nat} (xs : Nat → Int32) (M : xm_M) (cl : Nat) (hL : L ≤ 3072) (hi : 6 * i + 6 ≤ L) : xm_w (L + 1) xs xp_law [] xl_ct [] [] xk_tC .boolean 7 xl_Q (fun _ _ _ _ => False) (fun pc ls st M' cl' => pc = 1121 ∧ ls = xl_LS (nI (6 * i)) ∧ st = [.ref 63, .int (xl_g xs (nI (6 * i)) 2), .int (xl_g xs (nI (6 * i)) 1), .ref 0] ∧ M' = M ∧ cl' = cl) 100 false (xm_at xp_law 1107) (xl_LS (nI (6 * i))) [] M cl := by
  refine (And.intro rfl (And.intro rfl (And.intro (Nat.succ_pos L) (And.intro ?g1_i_1113 (And.intro rfl (And.intro rfl (And.intro (Nat.succ_pos L) (And.intro ?g2_i_1119 ?g3_k_1121))))))))
  case g1_i_1113 =>
    exact xl_in (k := 1) hL hi (by decide)
  case g2_i_1119 =>
    exact xl_in (k := 2) hL hi (by decide)
  case g3_k_1121 =>
    exact ⟨rfl, rfl, rfl, rfl, rfl⟩
set_option maxRecDepth 40000 in
set_option maxHeartbeats 8000000 in
theorem xl_b_held {L i : Nat} (xs : Nat → Int32) (M : xm_M) (cl : Nat) (kv : Int32) (hL : L ≤ 3072) (hi : 6 * i + 6 ≤ L) (hF : xl_F pM_held fM_held [.ref 0, .int (xl_g xs (nI (6 * i)) 1), .int (xl_g xs (nI (6 * i)) 2)] kv M True) : xm_w (L + 1) xs xp_law [] xl_ct [] [] xk_tC .boolean 7 xl_Q (fun _ _ _ _ => False) (xl_K (nI (6 * i)) cl) 100 false (xm_at xp_law 1124) (xl_LS (nI (6 * i))) [.int kv] M (cl + 1) := by
  refine (And.intro (Nat.le_of_ble_eq_true rfl) (And.intro rfl (And.intro rfl (And.intro (Nat.succ_pos L) (And.intro ?g1_i_1132 (And.intro rfl (And.intro rfl (And.intro (Nat.succ_pos L) (And.intro ?g2_i_1138 (And.intro rfl (And.intro (Nat.le_of_ble_eq_true rfl) (And.intro (Nat.le_of_ble_eq_true rfl) (And.intro ?g3_c_1139 (And.intro (Nat.le_of_ble_eq_true rfl) (And.intro rfl (And.intro (Nat.le_of_ble_eq_true rfl) (And.intro (Nat.le_of_ble_eq_true rfl) (And.intro ?g4_t_1145 (And.intro (by decide) (And.intro (fun h1150 => (And.intro (by decide) (And.intro (fun h1157 => (And.intro (by decide) (And.intro (Nat.le_of_ble_eq_true rfl) (And.intro (by decide) ?g5_k_23)))) (fun h1157 => (And.intro rfl (And.intro ?g6_j_1162 (And.intro (by decide) (And.intro (fun h1167 => (And.intro (by decide) (And.intro (Nat.le_of_ble_eq_true rfl) (And.intro (by decide) ?g7_k_23)))) (fun h1167 => (And.intro ?g8_w_1171 ?g9_r_1171)))))))))) (fun h1150 => (And.intro ?g10_w_1154 ?g11_r_1154))))))))))))))))))))))
  case g1_i_1132 =>
    exact xl_in (k := 1) hL hi (by decide)
  case g2_i_1138 =>
    exact xl_in (k := 2) hL hi (by decide)
  case g3_c_1139 =>
    exact ⟨_, rfl, hF.1⟩
  case g4_t_1145 =>
    exact ⟨[.ref 0], rfl, rfl⟩
  case g5_k_23 =>
    exact ⟨rfl, rfl, rfl, hF.2.2.2, Nat.le_refl _⟩
  case g6_j_1162 =>
    exact vp_in_nI (n := 0) (N := 1) (by decide) (by decide)
  case g7_k_23 =>
    exact ⟨rfl, rfl, rfl, hF.2.2.2, Nat.le_refl _⟩
  case g8_w_1171 =>
    rfl
  case g9_r_1171 =>
    exact absurd (xl_cmp (congrArg Int32.toInt64 (hF.2.2.1 h1157 trivial))) h1167
  case g10_w_1154 =>
    rfl
  case g11_r_1154 =>
    exact absurd hF.2.1 h1150
set_option maxRecDepth 40000 in
set_option maxHeartbeats 8000000 in
theorem xl_a_bar {L i : Nat} (xs : Nat → Int32) (M : xm_M) (cl : Nat) (hL : L ≤ 3072) (hi : 6 * i + 6 ≤ L) : xm_w (L + 1) xs xp_law [] xl_ct [] [] xk_tC .boolean 7 xl_Q (fun _ _ _ _ => False) (fun pc ls st M' cl' => pc = 1194 ∧ ls = xl_LS (nI (6 * i)) ∧ st = [.int (xl_g xs (nI (6 * i)) 3), .int (xl_g xs (nI (6 * i)) 2), .int (xl_g xs (nI (6 * i)) 1), .ref 0] ∧ M' = M ∧ cl' = cl) 100 false (xm_at xp_law 1175) (xl_LS (nI (6 * i))) [] M cl := by
  refine (And.intro rfl (And.intro rfl (And.intro (Nat.succ_pos L) (And.intro ?g1_i_1181 (And.intro rfl (And.intro rfl (And.intro (Nat.succ_pos L) (And.intro ?g2_i_1187 (And.intro rfl (And.intro rfl (And.intro (Nat.succ_pos L) (And.intro ?g3_i_1193 ?g4_k_1194))))))))))))
  case g1_i_1181 =>
    exact xl_in (k := 1) hL hi (by decide)
  case g2_i_1187 =>
    exact xl_in (k := 2) hL hi (by decide)
  case g3_i_1193 =>
    exact xl_in (k := 3) hL hi (by decide)
  case g4_k_1194 =>
    exact ⟨rfl, rfl, rfl, rfl, rfl⟩
set_option maxRecDepth 40000 in
set_option maxHeartbeats 8000000 in
theorem xl_b_bar {L i : Nat} (xs : Nat → Int32) (M : xm_M) (cl : Nat) (kv : Int32) (hL : L ≤ 3072) (hi : 6 * i + 6 ≤ L) (hF : xl_F pM_bar fM_bar [.ref 0, .int (xl_g xs (nI (6 * i)) 1), .int (xl_g xs (nI (6 * i)) 2), .int (xl_g xs (nI (6 * i)) 3)] kv M False) : xm_w (L + 1) xs xp_law [] xl_ct [] [] xk_tC .boolean 7 xl_Q (fun _ _ _ _ => False) (xl_K (nI (6 * i)) cl) 100 false (xm_at xp_law 1197) (xl_LS (nI (6 * i))) [.int kv] M (cl + 1) := by
  refine (And.intro (Nat.le_of_ble_eq_true rfl) (And.intro rfl (And.intro rfl (And.intro (Nat.succ_pos L) (And.intro ?g1_i_1205 (And.intro rfl (And.intro rfl (And.intro (Nat.succ_pos L) (And.intro ?g2_i_1211 (And.intro rfl (And.intro rfl (And.intro (Nat.succ_pos L) (And.intro ?g3_i_1217 (And.intro rfl (And.intro (Nat.le_of_ble_eq_true rfl) (And.intro (Nat.le_of_ble_eq_true rfl) (And.intro ?g4_c_1218 (And.intro rfl (And.intro (Nat.le_of_ble_eq_true rfl) (And.intro (Nat.le_of_ble_eq_true rfl) (And.intro ?g5_t_1222 (And.intro (by decide) (And.intro (fun h1227 => (And.intro (by decide) (And.intro (Nat.le_of_ble_eq_true rfl) (And.intro (by decide) ?g6_k_23)))) (fun h1227 => (And.intro ?g7_w_1231 ?g8_r_1231)))))))))))))))))))))))))
  case g1_i_1205 =>
    exact xl_in (k := 1) hL hi (by decide)
  case g2_i_1211 =>
    exact xl_in (k := 2) hL hi (by decide)
  case g3_i_1217 =>
    exact xl_in (k := 3) hL hi (by decide)
  case g4_c_1218 =>
    exact ⟨_, rfl, hF.1⟩
  case g5_t_1222 =>
    exact ⟨[.ref 0], rfl, rfl⟩
  case g6_k_23 =>
    exact ⟨rfl, rfl, rfl, hF.2.2.2, Nat.le_refl _⟩
  case g7_w_1231 =>
    rfl
  case g8_r_1231 =>
    exact absurd hF.2.1 h1227
set_option maxRecDepth 40000 in
set_option maxHeartbeats 8000000 in
theorem xl_a_patience {L i : Nat} (xs : Nat → Int32) (M : xm_M) (cl : Nat) (hL : L ≤ 3072) (hi : 6 * i + 6 ≤ L) : xm_w (L + 1) xs xp_law [] xl_ct [] [] xk_tC .boolean 7 xl_Q (fun _ _ _ _ => False) (fun pc ls st M' cl' => pc = 1242 ∧ ls = xl_LS (nI (6 * i)) ∧ st = [.int (xl_g xs (nI (6 * i)) 1), .ref 0] ∧ M' = M ∧ cl' = cl) 100 false (xm_at xp_law 1235) (xl_LS (nI (6 * i))) [] M cl := by
  refine (And.intro rfl (And.intro rfl (And.intro (Nat.succ_pos L) (And.intro ?g1_i_1241 ?g2_k_1242))))
  case g1_i_1241 =>
    exact xl_in (k := 1) hL hi (by decide)
  case g2_k_1242 =>
    exact ⟨rfl, rfl, rfl, rfl, rfl⟩
set_option maxRecDepth 40000 in
set_option maxHeartbeats 8000000 in
theorem xl_b_patience {L i : Nat} (xs : Nat → Int32) (M : xm_M) (cl : Nat) (kv : Int32) (hL : L ≤ 3072) (hi : 6 * i + 6 ≤ L) (hF : xl_F pM_patience fM_patience [.ref 0, .int (xl_g xs (nI (6 * i)) 1)] kv M False) : xm_w (L + 1) xs xp_law [] xl_ct [] [] xk_tC .boolean 7 xl_Q (fun _ _ _ _ => False) (xl_K (nI (6 * i)) cl) 100 false (xm_at xp_law 1245) (xl_LS (nI (6 * i))) [.int kv] M (cl + 1) := by
  refine (And.intro (Nat.le_of_ble_eq_true rfl) (And.intro rfl (And.intro rfl (And.intro (Nat.succ_pos L) (And.intro ?g1_i_1253 (And.intro rfl (And.intro (Nat.le_of_ble_eq_true rfl) (And.intro (Nat.le_of_ble_eq_true rfl) (And.intro ?g2_c_1254 (And.intro rfl (And.intro (Nat.le_of_ble_eq_true rfl) (And.intro (Nat.le_of_ble_eq_true rfl) (And.intro ?g3_t_1258 (And.intro (by decide) (And.intro (fun h1263 => (And.intro (by decide) (And.intro (Nat.le_of_ble_eq_true rfl) (And.intro (by decide) ?g4_k_23)))) (fun h1263 => (And.intro ?g5_w_1267 ?g6_r_1267)))))))))))))))))
  case g1_i_1253 =>
    exact xl_in (k := 1) hL hi (by decide)
  case g2_c_1254 =>
    exact ⟨_, rfl, hF.1⟩
  case g3_t_1258 =>
    exact ⟨[.ref 0], rfl, rfl⟩
  case g4_k_23 =>
    exact ⟨rfl, rfl, rfl, hF.2.2.2, Nat.le_refl _⟩
  case g5_w_1267 =>
    rfl
  case g6_r_1267 =>
    exact absurd hF.2.1 h1263
set_option maxRecDepth 40000 in
set_option maxHeartbeats 8000000 in
theorem xl_a_call {L i : Nat} (xs : Nat → Int32) (M : xm_M) (cl : Nat) (hL : L ≤ 3072) (hi : 6 * i + 6 ≤ L) : xm_w (L + 1) xs xp_law [] xl_ct [] [] xk_tC .boolean 7 xl_Q (fun _ _ _ _ => False) (fun pc ls st M' cl' => pc = 1285 ∧ ls = xl_LS (nI (6 * i)) ∧ st = [.ref 63, .int (xl_g xs (nI (6 * i)) 2), .int (xl_g xs (nI (6 * i)) 1), .ref 0] ∧ M' = M ∧ cl' = cl) 100 false (xm_at xp_law 1271) (xl_LS (nI (6 * i))) [] M cl := by
  refine (And.intro rfl (And.intro rfl (And.intro (Nat.succ_pos L) (And.intro ?g1_i_1277 (And.intro rfl (And.intro rfl (And.intro (Nat.succ_pos L) (And.intro ?g2_i_1283 ?g3_k_1285))))))))
  case g1_i_1277 =>
    exact xl_in (k := 1) hL hi (by decide)
  case g2_i_1283 =>
    exact xl_in (k := 2) hL hi (by decide)
  case g3_k_1285 =>
    exact ⟨rfl, rfl, rfl, rfl, rfl⟩
set_option maxRecDepth 40000 in
set_option maxHeartbeats 8000000 in
theorem xl_b_call {L i : Nat} (xs : Nat → Int32) (M : xm_M) (cl : Nat) (kv : Int32) (hL : L ≤ 3072) (hi : 6 * i + 6 ≤ L) (hF : xl_F pM_call fM_call [.ref 0, .int (xl_g xs (nI (6 * i)) 1), .int (xl_g xs (nI (6 * i)) 2)] kv M True) : xm_w (L + 1) xs xp_law [] xl_ct [] [] xk_tC .boolean 7 xl_Q (fun _ _ _ _ => False) (xl_K (nI (6 * i)) cl) 100 false (xm_at xp_law 1288) (xl_LS (nI (6 * i))) [.int kv] M (cl + 1) := by
  refine (And.intro (Nat.le_of_ble_eq_true rfl) (And.intro rfl (And.intro rfl (And.intro (Nat.succ_pos L) (And.intro ?g1_i_1296 (And.intro rfl (And.intro rfl (And.intro (Nat.succ_pos L) (And.intro ?g2_i_1302 (And.intro rfl (And.intro (Nat.le_of_ble_eq_true rfl) (And.intro (Nat.le_of_ble_eq_true rfl) (And.intro ?g3_c_1303 (And.intro (Nat.le_of_ble_eq_true rfl) (And.intro rfl (And.intro (Nat.le_of_ble_eq_true rfl) (And.intro (Nat.le_of_ble_eq_true rfl) (And.intro ?g4_t_1309 (And.intro (by decide) (And.intro (fun h1314 => (And.intro (by decide) (And.intro (fun h1321 => (And.intro (by decide) (And.intro (Nat.le_of_ble_eq_true rfl) (And.intro (by decide) ?g5_k_23)))) (fun h1321 => (And.intro rfl (And.intro ?g6_j_1326 (And.intro (by decide) (And.intro (fun h1331 => (And.intro (by decide) (And.intro (Nat.le_of_ble_eq_true rfl) (And.intro (by decide) ?g7_k_23)))) (fun h1331 => (And.intro ?g8_w_1335 ?g9_r_1335)))))))))) (fun h1314 => (And.intro ?g10_w_1318 ?g11_r_1318))))))))))))))))))))))
  case g1_i_1296 =>
    exact xl_in (k := 1) hL hi (by decide)
  case g2_i_1302 =>
    exact xl_in (k := 2) hL hi (by decide)
  case g3_c_1303 =>
    exact ⟨_, rfl, hF.1⟩
  case g4_t_1309 =>
    exact ⟨[.ref 0], rfl, rfl⟩
  case g5_k_23 =>
    exact ⟨rfl, rfl, rfl, hF.2.2.2, Nat.le_refl _⟩
  case g6_j_1326 =>
    exact vp_in_nI (n := 0) (N := 1) (by decide) (by decide)
  case g7_k_23 =>
    exact ⟨rfl, rfl, rfl, hF.2.2.2, Nat.le_refl _⟩
  case g8_w_1335 =>
    rfl
  case g9_r_1335 =>
    exact absurd (xl_cmp (congrArg Int32.toInt64 (hF.2.2.1 h1321 trivial))) h1331
  case g10_w_1318 =>
    rfl
  case g11_r_1318 =>
    exact absurd hF.2.1 h1314
set_option maxRecDepth 40000 in
set_option maxHeartbeats 8000000 in
theorem xl_a_answer {L i : Nat} (xs : Nat → Int32) (M : xm_M) (cl : Nat) (hL : L ≤ 3072) (hi : 6 * i + 6 ≤ L) : xm_w (L + 1) xs xp_law [] xl_ct [] [] xk_tC .boolean 7 xl_Q (fun _ _ _ _ => False) (fun pc ls st M' cl' => pc = 1361 ∧ ls = xl_LS (nI (6 * i)) ∧ st = [.ref 63, .int (xl_bo (xl_g xs (nI (6 * i)) 2)), .int (xl_g xs (nI (6 * i)) 1), .ref 0] ∧ M' = M ∧ cl' = cl) 100 false (xm_at xp_law 1339) (xl_LS (nI (6 * i))) [] M cl := by
  refine (And.intro rfl (And.intro rfl (And.intro (Nat.succ_pos L) (And.intro ?g1_i_1345 (And.intro rfl (And.intro rfl (And.intro (Nat.succ_pos L) (And.intro ?g2_i_1351 (And.intro (by decide) (And.intro (fun h1352 => ?g3_k_1361) (fun h1352 => (And.intro (by decide) ?g4_k_1361))))))))))))
  case g1_i_1345 =>
    exact xl_in (k := 1) hL hi (by decide)
  case g2_i_1351 =>
    exact xl_in (k := 2) hL hi (by decide)
  case g3_k_1361 =>
    first
      | (refine ⟨rfl, rfl, ?_, rfl, rfl⟩; rw [xl_b0 (x := xl_g xs (nI (6 * i)) 2) h1352]; rfl)
      | (refine ⟨rfl, rfl, ?_, rfl, rfl⟩; rw [xl_b1 (x := xl_g xs (nI (6 * i)) 2) h1352]; rfl)
  case g4_k_1361 =>
    first
      | (refine ⟨rfl, rfl, ?_, rfl, rfl⟩; rw [xl_b0 (x := xl_g xs (nI (6 * i)) 2) h1352]; rfl)
      | (refine ⟨rfl, rfl, ?_, rfl, rfl⟩; rw [xl_b1 (x := xl_g xs (nI (6 * i)) 2) h1352]; rfl)
set_option maxRecDepth 40000 in
set_option maxHeartbeats 8000000 in
theorem xl_b_answer {L i : Nat} (xs : Nat → Int32) (M : xm_M) (cl : Nat) (kv : Int32) (hL : L ≤ 3072) (hi : 6 * i + 6 ≤ L) (hF : xl_F pM_answer fM_answer [.ref 0, .int (xl_g xs (nI (6 * i)) 1), .int (xl_bo (xl_g xs (nI (6 * i)) 2))] kv M True) : xm_w (L + 1) xs xp_law [] xl_ct [] [] xk_tC .boolean 7 xl_Q (fun _ _ _ _ => False) (xl_K (nI (6 * i)) cl) 100 false (xm_at xp_law 1364) (xl_LS (nI (6 * i))) [.int kv] M (cl + 1) := by
  refine (And.intro (Nat.le_of_ble_eq_true rfl) (And.intro rfl (And.intro rfl (And.intro (Nat.succ_pos L) (And.intro ?g1_i_1372 (And.intro rfl (And.intro rfl (And.intro (Nat.succ_pos L) (And.intro ?g2_i_1378 (And.intro (by decide) (And.intro (fun h1379 => (And.intro rfl (And.intro (Nat.le_of_ble_eq_true rfl) (And.intro (Nat.le_of_ble_eq_true rfl) (And.intro ?g3_c_1387 (And.intro (Nat.le_of_ble_eq_true rfl) (And.intro rfl (And.intro (Nat.le_of_ble_eq_true rfl) (And.intro (Nat.le_of_ble_eq_true rfl) (And.intro ?g4_t_1393 (And.intro (by decide) (And.intro (fun h1398 => (And.intro (by decide) (And.intro (fun h1405 => (And.intro (by decide) (And.intro (Nat.le_of_ble_eq_true rfl) (And.intro (by decide) ?g5_k_23)))) (fun h1405 => (And.intro rfl (And.intro ?g6_j_1410 (And.intro (by decide) (And.intro (fun h1415 => (And.intro (by decide) (And.intro (Nat.le_of_ble_eq_true rfl) (And.intro (by decide) ?g7_k_23)))) (fun h1415 => (And.intro ?g8_w_1419 ?g9_r_1419)))))))))) (fun h1398 => (And.intro ?g10_w_1402 ?g11_r_1402)))))))))))))) (fun h1379 => (And.intro (by decide) (And.intro rfl (And.intro (Nat.le_of_ble_eq_true rfl) (And.intro (Nat.le_of_ble_eq_true rfl) (And.intro ?g12_c_1387 (And.intro (Nat.le_of_ble_eq_true rfl) (And.intro rfl (And.intro (Nat.le_of_ble_eq_true rfl) (And.intro (Nat.le_of_ble_eq_true rfl) (And.intro ?g13_t_1393 (And.intro (by decide) (And.intro (fun h1398 => (And.intro (by decide) (And.intro (fun h1405 => (And.intro (by decide) (And.intro (Nat.le_of_ble_eq_true rfl) (And.intro (by decide) ?g14_k_23)))) (fun h1405 => (And.intro rfl (And.intro ?g15_j_1410 (And.intro (by decide) (And.intro (fun h1415 => (And.intro (by decide) (And.intro (Nat.le_of_ble_eq_true rfl) (And.intro (by decide) ?g16_k_23)))) (fun h1415 => (And.intro ?g17_w_1419 ?g18_r_1419)))))))))) (fun h1398 => (And.intro ?g19_w_1402 ?g20_r_1402))))))))))))))))))))))))))
  case g1_i_1372 =>
    exact xl_in (k := 1) hL hi (by decide)
  case g2_i_1378 =>
    exact xl_in (k := 2) hL hi (by decide)
  case g3_c_1387 =>
    first
      | rw [xl_b0 (x := xl_g xs (nI (6 * i)) 2) h1379] at hF
      | rw [xl_b1 (x := xl_g xs (nI (6 * i)) 2) h1379] at hF
    first
      | exact ⟨[.ref 0, .int (xl_g xs (nI (6 * i)) 1), .int 0], rfl, hF.1⟩
      | exact ⟨[.ref 0, .int (xl_g xs (nI (6 * i)) 1), .int 1], rfl, hF.1⟩
  case g4_t_1393 =>
    exact ⟨[.ref 0], rfl, rfl⟩
  case g5_k_23 =>
    first
      | rw [xl_b0 (x := xl_g xs (nI (6 * i)) 2) h1379] at hF
      | rw [xl_b1 (x := xl_g xs (nI (6 * i)) 2) h1379] at hF
    exact ⟨rfl, rfl, rfl, hF.2.2.2, Nat.le_refl _⟩
  case g6_j_1410 =>
    exact vp_in_nI (n := 0) (N := 1) (by decide) (by decide)
  case g7_k_23 =>
    first
      | rw [xl_b0 (x := xl_g xs (nI (6 * i)) 2) h1379] at hF
      | rw [xl_b1 (x := xl_g xs (nI (6 * i)) 2) h1379] at hF
    exact ⟨rfl, rfl, rfl, hF.2.2.2, Nat.le_refl _⟩
  case g8_w_1419 =>
    rfl
  case g9_r_1419 =>
    first
      | rw [xl_b0 (x := xl_g xs (nI (6 * i)) 2) h1379] at hF
      | rw [xl_b1 (x := xl_g xs (nI (6 * i)) 2) h1379] at hF
    exact absurd (xl_cmp (congrArg Int32.toInt64 (hF.2.2.1 h1405 trivial))) h1415
  case g10_w_1402 =>
    rfl
  case g11_r_1402 =>
    first
      | rw [xl_b0 (x := xl_g xs (nI (6 * i)) 2) h1379] at hF
      | rw [xl_b1 (x := xl_g xs (nI (6 * i)) 2) h1379] at hF
    exact absurd hF.2.1 h1398
  case g12_c_1387 =>
    first
      | rw [xl_b0 (x := xl_g xs (nI (6 * i)) 2) h1379] at hF
      | rw [xl_b1 (x := xl_g xs (nI (6 * i)) 2) h1379] at hF
    first
      | exact ⟨[.ref 0, .int (xl_g xs (nI (6 * i)) 1), .int 0], rfl, hF.1⟩
      | exact ⟨[.ref 0, .int (xl_g xs (nI (6 * i)) 1), .int 1], rfl, hF.1⟩
  case g13_t_1393 =>
    exact ⟨[.ref 0], rfl, rfl⟩
  case g14_k_23 =>
    first
      | rw [xl_b0 (x := xl_g xs (nI (6 * i)) 2) h1379] at hF
      | rw [xl_b1 (x := xl_g xs (nI (6 * i)) 2) h1379] at hF
    exact ⟨rfl, rfl, rfl, hF.2.2.2, Nat.le_refl _⟩
  case g15_j_1410 =>
    exact vp_in_nI (n := 0) (N := 1) (by decide) (by decide)
  case g16_k_23 =>
    first
      | rw [xl_b0 (x := xl_g xs (nI (6 * i)) 2) h1379] at hF
      | rw [xl_b1 (x := xl_g xs (nI (6 * i)) 2) h1379] at hF
    exact ⟨rfl, rfl, rfl, hF.2.2.2, Nat.le_refl _⟩
  case g17_w_1419 =>
    rfl
  case g18_r_1419 =>
    first
      | rw [xl_b0 (x := xl_g xs (nI (6 * i)) 2) h1379] at hF
      | rw [xl_b1 (x := xl_g xs (nI (6 * i)) 2) h1379] at hF
    exact absurd (xl_cmp (congrArg Int32.toInt64 (hF.2.2.1 h1405 trivial))) h1415
  case g19_w_1402 =>
    rfl
  case g20_r_1402 =>
    first
      | rw [xl_b0 (x := xl_g xs (nI (6 * i)) 2) h1379] at hF
      | rw [xl_b1 (x := xl_g xs (nI (6 * i)) 2) h1379] at hF
    exact absurd hF.2.1 h1398
set_option maxRecDepth 40000 in
set_option maxHeartbeats 8000000 in
theorem xl_a_callAt {L i : Nat} (xs : Nat → Int32) (M : xm_M) (cl : Nat) (hL : L ≤ 3072) (hi : 6 * i + 6 ≤ L) : xm_w (L + 1) xs xp_law [] xl_ct [] [] xk_tC .boolean 7 xl_Q (fun _ _ _ _ => False) (fun pc ls st M' cl' => pc = 1437 ∧ ls = xl_LS (nI (6 * i)) ∧ st = [.ref 63, .int (xl_g xs (nI (6 * i)) 2), .int (xl_g xs (nI (6 * i)) 1), .ref 0] ∧ M' = M ∧ cl' = cl) 100 false (xm_at xp_law 1423) (xl_LS (nI (6 * i))) [] M cl := by
  refine (And.intro rfl (And.intro rfl (And.intro (Nat.succ_pos L) (And.intro ?g1_i_1429 (And.intro rfl (And.intro rfl (And.intro (Nat.succ_pos L) (And.intro ?g2_i_1435 ?g3_k_1437))))))))
  case g1_i_1429 =>
    exact xl_in (k := 1) hL hi (by decide)
  case g2_i_1435 =>
    exact xl_in (k := 2) hL hi (by decide)
  case g3_k_1437 =>
    exact ⟨rfl, rfl, rfl, rfl, rfl⟩
set_option maxRecDepth 40000 in
set_option maxHeartbeats 8000000 in
theorem xl_b_callAt {L i : Nat} (xs : Nat → Int32) (M : xm_M) (cl : Nat) (kv : Int32) (hL : L ≤ 3072) (hi : 6 * i + 6 ≤ L) (hF : xl_F pM_callAt fM_callAt [.ref 0, .int (xl_g xs (nI (6 * i)) 1), .int (xl_g xs (nI (6 * i)) 2)] kv M True) : xm_w (L + 1) xs xp_law [] xl_ct [] [] xk_tC .boolean 7 xl_Q (fun _ _ _ _ => False) (xl_K (nI (6 * i)) cl) 100 false (xm_at xp_law 1440) (xl_LS (nI (6 * i))) [.int kv] M (cl + 1) := by
  refine (And.intro (Nat.le_of_ble_eq_true rfl) (And.intro rfl (And.intro rfl (And.intro (Nat.succ_pos L) (And.intro ?g1_i_1448 (And.intro rfl (And.intro rfl (And.intro (Nat.succ_pos L) (And.intro ?g2_i_1454 (And.intro rfl (And.intro (Nat.le_of_ble_eq_true rfl) (And.intro (Nat.le_of_ble_eq_true rfl) (And.intro ?g3_c_1455 (And.intro (Nat.le_of_ble_eq_true rfl) (And.intro rfl (And.intro (Nat.le_of_ble_eq_true rfl) (And.intro (Nat.le_of_ble_eq_true rfl) (And.intro ?g4_t_1461 (And.intro (by decide) (And.intro (fun h1466 => (And.intro (by decide) (And.intro (fun h1473 => (And.intro (by decide) (And.intro (Nat.le_of_ble_eq_true rfl) (And.intro (by decide) ?g5_k_23)))) (fun h1473 => (And.intro rfl (And.intro ?g6_j_1478 (And.intro (by decide) (And.intro (fun h1483 => (And.intro (by decide) (And.intro (Nat.le_of_ble_eq_true rfl) (And.intro (by decide) ?g7_k_23)))) (fun h1483 => (And.intro ?g8_w_1487 ?g9_r_1487)))))))))) (fun h1466 => (And.intro ?g10_w_1470 ?g11_r_1470))))))))))))))))))))))
  case g1_i_1448 =>
    exact xl_in (k := 1) hL hi (by decide)
  case g2_i_1454 =>
    exact xl_in (k := 2) hL hi (by decide)
  case g3_c_1455 =>
    exact ⟨_, rfl, hF.1⟩
  case g4_t_1461 =>
    exact ⟨[.ref 0], rfl, rfl⟩
  case g5_k_23 =>
    exact ⟨rfl, rfl, rfl, hF.2.2.2, Nat.le_refl _⟩
  case g6_j_1478 =>
    exact vp_in_nI (n := 0) (N := 1) (by decide) (by decide)
  case g7_k_23 =>
    exact ⟨rfl, rfl, rfl, hF.2.2.2, Nat.le_refl _⟩
  case g8_w_1487 =>
    rfl
  case g9_r_1487 =>
    exact absurd (xl_cmp (congrArg Int32.toInt64 (hF.2.2.1 h1473 trivial))) h1483
  case g10_w_1470 =>
    rfl
  case g11_r_1470 =>
    exact absurd hF.2.1 h1466
set_option maxRecDepth 40000 in
set_option maxHeartbeats 8000000 in
theorem xl_a_asked {L i : Nat} (xs : Nat → Int32) (M : xm_M) (cl : Nat) (hL : L ≤ 3072) (hi : 6 * i + 6 ≤ L) : xm_w (L + 1) xs xp_law [] xl_ct [] [] xk_tC .boolean 7 xl_Q (fun _ _ _ _ => False) (fun pc ls st M' cl' => pc = 1499 ∧ ls = xl_LS (nI (6 * i)) ∧ st = [.ref 63, .int (xl_g xs (nI (6 * i)) 1), .ref 0] ∧ M' = M ∧ cl' = cl) 100 false (xm_at xp_law 1491) (xl_LS (nI (6 * i))) [] M cl := by
  refine (And.intro rfl (And.intro rfl (And.intro (Nat.succ_pos L) (And.intro ?g1_i_1497 ?g2_k_1499))))
  case g1_i_1497 =>
    exact xl_in (k := 1) hL hi (by decide)
  case g2_k_1499 =>
    exact ⟨rfl, rfl, rfl, rfl, rfl⟩
set_option maxRecDepth 40000 in
set_option maxHeartbeats 8000000 in
theorem xl_b_asked {L i : Nat} (xs : Nat → Int32) (M : xm_M) (cl : Nat) (kv : Int32) (hL : L ≤ 3072) (hi : 6 * i + 6 ≤ L) (hF : xl_F pM_asked fM_asked [.ref 0, .int (xl_g xs (nI (6 * i)) 1)] kv M True) : xm_w (L + 1) xs xp_law [] xl_ct [] [] xk_tC .boolean 7 xl_Q (fun _ _ _ _ => False) (xl_K (nI (6 * i)) cl) 100 false (xm_at xp_law 1502) (xl_LS (nI (6 * i))) [.int kv] M (cl + 1) := by
  refine (And.intro (Nat.le_of_ble_eq_true rfl) (And.intro rfl (And.intro rfl (And.intro (Nat.succ_pos L) (And.intro ?g1_i_1510 (And.intro rfl (And.intro (Nat.le_of_ble_eq_true rfl) (And.intro (Nat.le_of_ble_eq_true rfl) (And.intro ?g2_c_1511 (And.intro (Nat.le_of_ble_eq_true rfl) (And.intro rfl (And.intro (Nat.le_of_ble_eq_true rfl) (And.intro (Nat.le_of_ble_eq_true rfl) (And.intro ?g3_t_1517 (And.intro (by decide) (And.intro (fun h1522 => (And.intro (by decide) (And.intro (fun h1529 => (And.intro (by decide) (And.intro (Nat.le_of_ble_eq_true rfl) (And.intro (by decide) ?g4_k_23)))) (fun h1529 => (And.intro rfl (And.intro ?g5_j_1534 (And.intro (by decide) (And.intro (fun h1539 => (And.intro (by decide) (And.intro (Nat.le_of_ble_eq_true rfl) (And.intro (by decide) ?g6_k_23)))) (fun h1539 => (And.intro ?g7_w_1543 ?g8_r_1543)))))))))) (fun h1522 => (And.intro ?g9_w_1526 ?g10_r_1526))))))))))))))))))
  case g1_i_1510 =>
    exact xl_in (k := 1) hL hi (by decide)
  case g2_c_1511 =>
    exact ⟨_, rfl, hF.1⟩
  case g3_t_1517 =>
    exact ⟨[.ref 0], rfl, rfl⟩
  case g4_k_23 =>
    exact ⟨rfl, rfl, rfl, hF.2.2.2, Nat.le_refl _⟩
  case g5_j_1534 =>
    exact vp_in_nI (n := 0) (N := 1) (by decide) (by decide)
  case g6_k_23 =>
    exact ⟨rfl, rfl, rfl, hF.2.2.2, Nat.le_refl _⟩
  case g7_w_1543 =>
    rfl
  case g8_r_1543 =>
    exact absurd (xl_cmp (congrArg Int32.toInt64 (hF.2.2.1 h1529 trivial))) h1539
  case g9_w_1526 =>
    rfl
  case g10_r_1526 =>
    exact absurd hF.2.1 h1522
set_option maxRecDepth 40000 in
set_option maxHeartbeats 8000000 in
theorem xl_a_tick {L i : Nat} (xs : Nat → Int32) (M : xm_M) (cl : Nat) (hL : L ≤ 3072) (hi : 6 * i + 6 ≤ L) : xm_w (L + 1) xs xp_law [] xl_ct [] [] xk_tC .boolean 7 xl_Q (fun _ _ _ _ => False) (fun pc ls st M' cl' => pc = 1555 ∧ ls = xl_LS (nI (6 * i)) ∧ st = [.ref 63, .int (xl_g xs (nI (6 * i)) 1), .ref 0] ∧ M' = M ∧ cl' = cl) 100 false (xm_at xp_law 1547) (xl_LS (nI (6 * i))) [] M cl := by
  refine (And.intro rfl (And.intro rfl (And.intro (Nat.succ_pos L) (And.intro ?g1_i_1553 ?g2_k_1555))))
  case g1_i_1553 =>
    exact xl_in (k := 1) hL hi (by decide)
  case g2_k_1555 =>
    exact ⟨rfl, rfl, rfl, rfl, rfl⟩
set_option maxRecDepth 40000 in
set_option maxHeartbeats 8000000 in
theorem xl_b_tick {L i : Nat} (xs : Nat → Int32) (M : xm_M) (cl : Nat) (kv : Int32) (hL : L ≤ 3072) (hi : 6 * i + 6 ≤ L) (hF : xl_F pM_tick fM_tick [.ref 0, .int (xl_g xs (nI (6 * i)) 1)] kv M True) : xm_w (L + 1) xs xp_law [] xl_ct [] [] xk_tC .boolean 7 xl_Q (fun _ _ _ _ => False) (xl_K (nI (6 * i)) cl) 100 false (xm_at xp_law 1558) (xl_LS (nI (6 * i))) [.int kv] M (cl + 1) := by
  refine (And.intro (Nat.le_of_ble_eq_true rfl) (And.intro rfl (And.intro rfl (And.intro (Nat.succ_pos L) (And.intro ?g1_i_1566 (And.intro rfl (And.intro (Nat.le_of_ble_eq_true rfl) (And.intro (Nat.le_of_ble_eq_true rfl) (And.intro ?g2_c_1567 (And.intro (Nat.le_of_ble_eq_true rfl) (And.intro rfl (And.intro (Nat.le_of_ble_eq_true rfl) (And.intro (Nat.le_of_ble_eq_true rfl) (And.intro ?g3_t_1573 (And.intro (by decide) (And.intro (fun h1578 => (And.intro (by decide) (And.intro (fun h1585 => (And.intro (by decide) (And.intro (Nat.le_of_ble_eq_true rfl) (And.intro (by decide) ?g4_k_23)))) (fun h1585 => (And.intro rfl (And.intro ?g5_j_1590 (And.intro (by decide) (And.intro (fun h1595 => (And.intro (by decide) (And.intro (Nat.le_of_ble_eq_true rfl) (And.intro (by decide) ?g6_k_23)))) (fun h1595 => (And.intro ?g7_w_1599 ?g8_r_1599)))))))))) (fun h1578 => (And.intro ?g9_w_1582 ?g10_r_1582))))))))))))))))))
  case g1_i_1566 =>
    exact xl_in (k := 1) hL hi (by decide)
  case g2_c_1567 =>
    exact ⟨_, rfl, hF.1⟩
  case g3_t_1573 =>
    exact ⟨[.ref 0], rfl, rfl⟩
  case g4_k_23 =>
    exact ⟨rfl, rfl, rfl, hF.2.2.2, Nat.le_refl _⟩
  case g5_j_1590 =>
    exact vp_in_nI (n := 0) (N := 1) (by decide) (by decide)
  case g6_k_23 =>
    exact ⟨rfl, rfl, rfl, hF.2.2.2, Nat.le_refl _⟩
  case g7_w_1599 =>
    rfl
  case g8_r_1599 =>
    exact absurd (xl_cmp (congrArg Int32.toInt64 (hF.2.2.1 h1585 trivial))) h1595
  case g9_w_1582 =>
    rfl
  case g10_r_1582 =>
    exact absurd hF.2.1 h1578
