/-! EACH CALL OF THE LAW, and its loop -/
theorem xz3_36 : (Cond.initialized "AbsenceRowsLaw") ∈ xt_T := xt_in 36 (by decide +kernel) rfl
theorem xz3_259 : (Cond.methodLink "AbsenceRowsLaw" 96 ⟨"AbsenceRowsLaw", "person", "(LAbsenceRows;III[J)I"⟩) ∈ xt_T := xt_in 259 (by decide +kernel) rfl
theorem xz3_260 : (Cond.static ⟨"AbsenceRowsLaw", "person", "(LAbsenceRows;III[J)I"⟩) ∈ xt_T := xt_in 260 (by decide +kernel) rfl
theorem xz3_363 : (Cond.methodLink "AbsenceRowsLaw" 106 ⟨"AbsenceRowsLaw", "budget", "(LAbsenceRows;III)I"⟩) ∈ xt_T := xt_in 363 (by decide +kernel) rfl
theorem xz3_364 : (Cond.static ⟨"AbsenceRowsLaw", "budget", "(LAbsenceRows;III)I"⟩) ∈ xt_T := xt_in 364 (by decide +kernel) rfl
theorem xz3_466 : (Cond.methodLink "AbsenceRowsLaw" 110 ⟨"AbsenceRowsLaw", "carry", "(LAbsenceRows;I)I"⟩) ∈ xt_T := xt_in 466 (by decide +kernel) rfl
theorem xz3_467 : (Cond.static ⟨"AbsenceRowsLaw", "carry", "(LAbsenceRows;I)I"⟩) ∈ xt_T := xt_in 467 (by decide +kernel) rfl
theorem xz3_475 : (Cond.methodLink "AbsenceRowsLaw" 114 ⟨"AbsenceRowsLaw", "holiday", "(LAbsenceRows;I)I"⟩) ∈ xt_T := xt_in 475 (by decide +kernel) rfl
theorem xz3_476 : (Cond.static ⟨"AbsenceRowsLaw", "holiday", "(LAbsenceRows;I)I"⟩) ∈ xt_T := xt_in 476 (by decide +kernel) rfl
theorem xz3_484 : (Cond.methodLink "AbsenceRowsLaw" 117 ⟨"AbsenceRowsLaw", "working", "(LAbsenceRows;II[J)I"⟩) ∈ xt_T := xt_in 484 (by decide +kernel) rfl
theorem xz3_485 : (Cond.static ⟨"AbsenceRowsLaw", "working", "(LAbsenceRows;II[J)I"⟩) ∈ xt_T := xt_in 485 (by decide +kernel) rfl
theorem xz3_499 : (Cond.methodLink "AbsenceRowsLaw" 121 ⟨"AbsenceRowsLaw", "crew", "(LAbsenceRows;II[J)I"⟩) ∈ xt_T := xt_in 499 (by decide +kernel) rfl
theorem xz3_500 : (Cond.static ⟨"AbsenceRowsLaw", "crew", "(LAbsenceRows;II[J)I"⟩) ∈ xt_T := xt_in 500 (by decide +kernel) rfl
theorem xz3_512 : (Cond.methodLink "AbsenceRowsLaw" 124 ⟨"AbsenceRowsLaw", "member", "(LAbsenceRows;IIZ[J)I"⟩) ∈ xt_T := xt_in 512 (by decide +kernel) rfl
theorem xz3_513 : (Cond.static ⟨"AbsenceRowsLaw", "member", "(LAbsenceRows;IIZ[J)I"⟩) ∈ xt_T := xt_in 513 (by decide +kernel) rfl
theorem xz3_538 : (Cond.methodLink "AbsenceRowsLaw" 128 ⟨"AbsenceRowsLaw", "ask", "(LAbsenceRows;IIIII[J)I"⟩) ∈ xt_T := xt_in 538 (by decide +kernel) rfl
theorem xz3_539 : (Cond.static ⟨"AbsenceRowsLaw", "ask", "(LAbsenceRows;IIIII[J)I"⟩) ∈ xt_T := xt_in 539 (by decide +kernel) rfl
theorem xz3_565 : (Cond.methodLink "AbsenceRowsLaw" 132 ⟨"AbsenceRowsLaw", "grant", "(LAbsenceRows;II[J)I"⟩) ∈ xt_T := xt_in 565 (by decide +kernel) rfl
theorem xz3_566 : (Cond.static ⟨"AbsenceRowsLaw", "grant", "(LAbsenceRows;II[J)I"⟩) ∈ xt_T := xt_in 566 (by decide +kernel) rfl
theorem xz3_633 : (Cond.methodLink "AbsenceRowsLaw" 135 ⟨"AbsenceRowsLaw", "withdraw", "(LAbsenceRows;I[J)I"⟩) ∈ xt_T := xt_in 633 (by decide +kernel) rfl
theorem xz3_634 : (Cond.static ⟨"AbsenceRowsLaw", "withdraw", "(LAbsenceRows;I[J)I"⟩) ∈ xt_T := xt_in 634 (by decide +kernel) rfl
theorem xz3_642 : (Cond.methodLink "AbsenceRowsLaw" 139 ⟨"AbsenceRowsLaw", "askAt", "(LAbsenceRows;II[J)I"⟩) ∈ xt_T := xt_in 642 (by decide +kernel) rfl
theorem xz3_643 : (Cond.static ⟨"AbsenceRowsLaw", "askAt", "(LAbsenceRows;II[J)I"⟩) ∈ xt_T := xt_in 643 (by decide +kernel) rfl
theorem xz3_650 : (Cond.methodLink "AbsenceRowsLaw" 142 ⟨"AbsenceRowsLaw", "left", "(LAbsenceRows;III[J)I"⟩) ∈ xt_T := xt_in 650 (by decide +kernel) rfl
theorem xz3_651 : (Cond.static ⟨"AbsenceRowsLaw", "left", "(LAbsenceRows;III[J)I"⟩) ∈ xt_T := xt_in 651 (by decide +kernel) rfl
theorem xz3_668 : (Cond.methodLink "AbsenceRowsLaw" 145 ⟨"AbsenceRowsLaw", "absent", "(LAbsenceRows;II[J)I"⟩) ∈ xt_T := xt_in 668 (by decide +kernel) rfl
theorem xz3_669 : (Cond.static ⟨"AbsenceRowsLaw", "absent", "(LAbsenceRows;II[J)I"⟩) ∈ xt_T := xt_in 669 (by decide +kernel) rfl
theorem xz3_675 : (Cond.methodLink "AbsenceRowsLaw" 148 ⟨"AbsenceRowsLaw", "present", "(LAbsenceRows;II[J)I"⟩) ∈ xt_T := xt_in 675 (by decide +kernel) rfl
theorem xz3_676 : (Cond.static ⟨"AbsenceRowsLaw", "present", "(LAbsenceRows;II[J)I"⟩) ∈ xt_T := xt_in 676 (by decide +kernel) rfl
theorem xz3_683 : (Cond.methodLink "AbsenceRowsLaw" 151 ⟨"AbsenceRowsLaw", "held", "(LAbsenceRows;II[J)I"⟩) ∈ xt_T := xt_in 683 (by decide +kernel) rfl
theorem xz3_684 : (Cond.static ⟨"AbsenceRowsLaw", "held", "(LAbsenceRows;II[J)I"⟩) ∈ xt_T := xt_in 684 (by decide +kernel) rfl
theorem xz3_696 : (Cond.methodLink "AbsenceRowsLaw" 154 ⟨"AbsenceRowsLaw", "bar", "(LAbsenceRows;III)I"⟩) ∈ xt_T := xt_in 696 (by decide +kernel) rfl
theorem xz3_697 : (Cond.static ⟨"AbsenceRowsLaw", "bar", "(LAbsenceRows;III)I"⟩) ∈ xt_T := xt_in 697 (by decide +kernel) rfl
theorem xz3_704 : (Cond.methodLink "AbsenceRowsLaw" 157 ⟨"AbsenceRowsLaw", "patience", "(LAbsenceRows;I)I"⟩) ∈ xt_T := xt_in 704 (by decide +kernel) rfl
theorem xz3_705 : (Cond.static ⟨"AbsenceRowsLaw", "patience", "(LAbsenceRows;I)I"⟩) ∈ xt_T := xt_in 705 (by decide +kernel) rfl
theorem xz3_712 : (Cond.methodLink "AbsenceRowsLaw" 160 ⟨"AbsenceRowsLaw", "call", "(LAbsenceRows;II[J)I"⟩) ∈ xt_T := xt_in 712 (by decide +kernel) rfl
theorem xz3_713 : (Cond.static ⟨"AbsenceRowsLaw", "call", "(LAbsenceRows;II[J)I"⟩) ∈ xt_T := xt_in 713 (by decide +kernel) rfl
theorem xz3_753 : (Cond.methodLink "AbsenceRowsLaw" 163 ⟨"AbsenceRowsLaw", "answer", "(LAbsenceRows;IZ[J)I"⟩) ∈ xt_T := xt_in 753 (by decide +kernel) rfl
theorem xz3_754 : (Cond.static ⟨"AbsenceRowsLaw", "answer", "(LAbsenceRows;IZ[J)I"⟩) ∈ xt_T := xt_in 754 (by decide +kernel) rfl
theorem xz3_771 : (Cond.methodLink "AbsenceRowsLaw" 167 ⟨"AbsenceRowsLaw", "callAt", "(LAbsenceRows;II[J)I"⟩) ∈ xt_T := xt_in 771 (by decide +kernel) rfl
theorem xz3_772 : (Cond.static ⟨"AbsenceRowsLaw", "callAt", "(LAbsenceRows;II[J)I"⟩) ∈ xt_T := xt_in 772 (by decide +kernel) rfl
theorem xz3_778 : (Cond.methodLink "AbsenceRowsLaw" 170 ⟨"AbsenceRowsLaw", "asked", "(LAbsenceRows;I[J)I"⟩) ∈ xt_T := xt_in 778 (by decide +kernel) rfl
theorem xz3_779 : (Cond.static ⟨"AbsenceRowsLaw", "asked", "(LAbsenceRows;I[J)I"⟩) ∈ xt_T := xt_in 779 (by decide +kernel) rfl
theorem xz3_785 : (Cond.methodLink "AbsenceRowsLaw" 173 ⟨"AbsenceRowsLaw", "tick", "(LAbsenceRows;I[J)I"⟩) ∈ xt_T := xt_in 785 (by decide +kernel) rfl
theorem xz3_786 : (Cond.static ⟨"AbsenceRowsLaw", "tick", "(LAbsenceRows;I[J)I"⟩) ∈ xt_T := xt_in 786 (by decide +kernel) rfl
section XL4
variable {p : Program} {l : Launch} {e : Env} {s : State} {m : MethodId} {below : List Frame} {meth : Method} {c : Code} {b L : Nat} {xs : Nat → Int32} {dC : Nat → ClassId} {dI : Nat → Nat → Nat} {dA ad : Nat → Nat}
theorem xl_rom {cl : Nat} (h : cl ≤ 1040) : (xl_cf cl + 1 ≤ room_1.cells ∧ xl_sf cl + 6 ≤ room_1.slots) ∧ xl_cf cl + 1 = xl_cf (cl + 1) ∧ xl_sf cl + 6 = xl_sf (cl + 1) := by
  show (min (64 + cl) 1132 + 1 ≤ 1132 ∧ min (5896 + 6 * cl) 14352 + 6 ≤ 14352) ∧ min (64 + cl) 1132 + 1 = min (64 + (cl + 1)) 1132 ∧ min (5896 + 6 * cl) 14352 + 6 = min (5896 + 6 * (cl + 1)) 14352
  omega
abbrev xl_ih (p : Program) (l : Launch) (e : Env) (s : State) (m : MethodId) (below : List Frame) (meth : Method) (c : Code) (b : Nat) (dC : Nat → ClassId) (dI : Nat → Nat → Nat) (dA ad : Nat → Nat) (i cl : Nat) : Prop := ∀ (M' : xm_M) (cl' : Nat), zR M' (xl_md M') → cl' ≤ cl + 2 → xl_J p l e s m below meth c b dC dI dA ad 23 (xl_LS (nI (6 * i) + Int32.ofInt 6)) [] M' cl'
theorem xe_Z_person : Cond.codeWith xy_Z_person xb_Z_person 6 (some .int) xh_Z_person ∈ xt_T := xt_in 261 (by decide +kernel) rfl
set_option maxRecDepth 20000 in
theorem xl_c_person (C : xl_C p l s m meth c b L xs dC dI dA ad) {i cl : Nat} {M : xm_M} (hL : L ≤ 3072) (hi : 6 * i + 6 ≤ L) (hR : zR M (xl_md M)) (hcl : cl ≤ 1040) (ih : xl_ih p l e s m below meth c b dC dI dA ad i cl) : xl_J p l e s m below meth c b dC dI dA ad 144 (xl_LS (nI (6 * i))) [] M cl := by
  obtain ⟨S, ⟨hr, hlocks⟩, hK, hN, ⟨hSr, hZ, hNc⟩, ⟨hj, hA0⟩, hscr, hl⟩ := id C
  obtain ⟨hroom, e1, e2⟩ := xl_rom hcl
  refine xl_snd C (fun pc ls st M' cl' hk => ?_) (xl_a_person xs M cl hL hi)
  obtain ⟨rfl, rfl, rfl, rfl, rfl⟩ := hk
  intro H locs lsC hRl hls
  refine xl_hp (own := "AbsenceRowsLaw") (as := [.ref 0, .int (xl_g xs (nI (6 * i)) 1), .int (xl_g xs (nI (6 * i)) 2), .int (xl_g xs (nI (6 * i)) 3), .ref 63]) (rest := []) (np := 5) (idx := 96) S hN hK hj hA0 hSr hZ hNc (cZ_person l hl) xe_Z_person xz3_36 ⟨by decide, by decide, by decide +kernel⟩ xz3_259 xz3_260 ⟨Nat.le_of_ble_eq_true rfl, Nat.le_of_ble_eq_true rfl⟩ ⟨_, _, _, rfl, _, _, _, rfl, z_I hR⟩ rfl (by decide +kernel) (Nat.le_of_ble_eq_true rfl) hRl hls.1 hroom (fun H1 locs1 hR1 => ?_)
  obtain ⟨kv, M1, hg⟩ : ∃ (kv : Int32) (M1 : xm_M), gZ_person [.ref 0, .int (xl_g xs (nI (6 * i)) 1), .int (xl_g xs (nI (6 * i)) 2), .int (xl_g xs (nI (6 * i)) 3), .ref 63] M' = (some (.int kv), M1) := by
    simp only [gZ_person]
    cases ftA_person [.ref 0, .int (xl_g xs (nI (6 * i)) 1), .int (xl_g xs (nI (6 * i)) 2), .int (xl_g xs (nI (6 * i)) 3)] M' with
    | none => exact ⟨_, _, rfl⟩
    | some E => exact ⟨_, _, rfl⟩
  have hF := xl_zv (ft := ftA_person [.ref 0, .int (xl_g xs (nI (6 * i)) 1), .int (xl_g xs (nI (6 * i)) 2), .int (xl_g xs (nI (6 * i)) 3)] M') (es := ["java/lang/IndexOutOfBoundsException", "java/lang/UnsupportedOperationException"]) (M := M') (M1 := M1) (Ma := (fA_person [.ref 0, .int (xl_g xs (nI (6 * i)) 1), .int (xl_g xs (nI (6 * i)) 2), .int (xl_g xs (nI (6 * i)) 3)] M').2) (ra := (fA_person [.ref 0, .int (xl_g xs (nI (6 * i)) 1), .int (xl_g xs (nI (6 * i)) 2), .int (xl_g xs (nI (6 * i)) 3)] M').1) (kv := kv) (pre := pM_person) (fn := fM_person) (as1 := [.ref 0, .int (xl_g xs (nI (6 * i)) 1), .int (xl_g xs (nI (6 * i)) 2), .int (xl_g xs (nI (6 * i)) 3)]) hg.symm (fun h => ⟨_, _, _, rfl, z_J h⟩) hR (fun h => z_person h _ _ _)
  rw [hg] at hR1 ⊢
  rw [e1, e2]
  have J2 := xl_snd (e := e) (below := below) C (K := xl_K (nI (6 * i)) cl') (fun pc ls st M2 cl2 hk => by obtain ⟨rfl, rfl, rfl, h1, h2⟩ := hk; exact ih M2 cl2 h1 h2) (xl_b_person xs M1 cl' kv hL hi hF)
  exact J2 H1 locs1 lsC hR1 hls
theorem xe_Z_budget : Cond.codeWith xy_Z_budget xb_Z_budget 5 (some .int) xh_Z_budget ∈ xt_T := xt_in 365 (by decide +kernel) rfl
set_option maxRecDepth 20000 in
theorem xl_c_budget (C : xl_C p l s m meth c b L xs dC dI dA ad) {i cl : Nat} {M : xm_M} (hL : L ≤ 3072) (hi : 6 * i + 6 ≤ L) (hR : zR M (xl_md M)) (hcl : cl ≤ 1040) (ih : xl_ih p l e s m below meth c b dC dI dA ad i cl) : xl_J p l e s m below meth c b dC dI dA ad 224 (xl_LS (nI (6 * i))) [] M cl := by
  obtain ⟨S, ⟨hr, hlocks⟩, hK, hN, ⟨hSr, hZ, hNc⟩, ⟨hj, hA0⟩, hscr, hl⟩ := id C
  obtain ⟨hroom, e1, e2⟩ := xl_rom hcl
  refine xl_snd C (fun pc ls st M' cl' hk => ?_) (xl_a_budget xs M cl hL hi)
  obtain ⟨rfl, rfl, rfl, rfl, rfl⟩ := hk
  intro H locs lsC hRl hls
  refine xl_hp (own := "AbsenceRowsLaw") (as := [.ref 0, .int (xl_g xs (nI (6 * i)) 1), .int (xl_g xs (nI (6 * i)) 2), .int (xl_g xs (nI (6 * i)) 3)]) (rest := []) (np := 4) (idx := 106) S hN hK hj hA0 hSr hZ hNc (cZ_budget l hl) xe_Z_budget xz3_36 ⟨by decide, by decide, by decide +kernel⟩ xz3_363 xz3_364 ⟨Nat.le_of_ble_eq_true rfl, Nat.le_of_ble_eq_true rfl⟩ ⟨_, _, _, rfl, _, _, _, rfl, z_I hR⟩ rfl (by decide +kernel) (Nat.le_of_ble_eq_true rfl) hRl hls.1 hroom (fun H1 locs1 hR1 => ?_)
  obtain ⟨kv, M1, hg⟩ : ∃ (kv : Int32) (M1 : xm_M), gZ_budget [.ref 0, .int (xl_g xs (nI (6 * i)) 1), .int (xl_g xs (nI (6 * i)) 2), .int (xl_g xs (nI (6 * i)) 3)] M' = (some (.int kv), M1) := by
    simp only [gZ_budget]
    cases ftA_budget [.ref 0, .int (xl_g xs (nI (6 * i)) 1), .int (xl_g xs (nI (6 * i)) 2), .int (xl_g xs (nI (6 * i)) 3)] M' with
    | none => exact ⟨_, _, rfl⟩
    | some E => exact ⟨_, _, rfl⟩
  have hF := xl_zn (ft := ftA_budget [.ref 0, .int (xl_g xs (nI (6 * i)) 1), .int (xl_g xs (nI (6 * i)) 2), .int (xl_g xs (nI (6 * i)) 3)] M') (es := ["java/lang/IllegalArgumentException", "java/lang/IndexOutOfBoundsException", "java/lang/IllegalStateException"]) (M := M') (M1 := M1) (Ma := (fA_budget [.ref 0, .int (xl_g xs (nI (6 * i)) 1), .int (xl_g xs (nI (6 * i)) 2), .int (xl_g xs (nI (6 * i)) 3)] M').2) (ra := (fA_budget [.ref 0, .int (xl_g xs (nI (6 * i)) 1), .int (xl_g xs (nI (6 * i)) 2), .int (xl_g xs (nI (6 * i)) 3)] M').1) (kv := kv) (pre := pM_budget) (fn := fM_budget) (as1 := [.ref 0, .int (xl_g xs (nI (6 * i)) 1), .int (xl_g xs (nI (6 * i)) 2), .int (xl_g xs (nI (6 * i)) 3)]) hg.symm (fun h => ⟨_, _, _, rfl, z_J h⟩) hR (fun h => z_budget h _ _ _)
  rw [hg] at hR1 ⊢
  rw [e1, e2]
  have J2 := xl_snd (e := e) (below := below) C (K := xl_K (nI (6 * i)) cl') (fun pc ls st M2 cl2 hk => by obtain ⟨rfl, rfl, rfl, h1, h2⟩ := hk; exact ih M2 cl2 h1 h2) (xl_b_budget xs M1 cl' kv hL hi hF)
  exact J2 H1 locs1 lsC hR1 hls
theorem xe_Z_carry : Cond.codeWith xy_Z_carry xb_Z_carry 3 (some .int) xh_Z_carry ∈ xt_T := xt_in 468 (by decide +kernel) rfl
set_option maxRecDepth 20000 in
theorem xl_c_carry (C : xl_C p l s m meth c b L xs dC dI dA ad) {i cl : Nat} {M : xm_M} (hL : L ≤ 3072) (hi : 6 * i + 6 ≤ L) (hR : zR M (xl_md M)) (hcl : cl ≤ 1040) (ih : xl_ih p l e s m below meth c b dC dI dA ad i cl) : xl_J p l e s m below meth c b dC dI dA ad 284 (xl_LS (nI (6 * i))) [] M cl := by
  obtain ⟨S, ⟨hr, hlocks⟩, hK, hN, ⟨hSr, hZ, hNc⟩, ⟨hj, hA0⟩, hscr, hl⟩ := id C
  obtain ⟨hroom, e1, e2⟩ := xl_rom hcl
  refine xl_snd C (fun pc ls st M' cl' hk => ?_) (xl_a_carry xs M cl hL hi)
  obtain ⟨rfl, rfl, rfl, rfl, rfl⟩ := hk
  intro H locs lsC hRl hls
  refine xl_hp (own := "AbsenceRowsLaw") (as := [.ref 0, .int (xl_g xs (nI (6 * i)) 1)]) (rest := []) (np := 2) (idx := 110) S hN hK hj hA0 hSr hZ hNc (cZ_carry l hl) xe_Z_carry xz3_36 ⟨by decide, by decide, by decide +kernel⟩ xz3_466 xz3_467 ⟨Nat.le_of_ble_eq_true rfl, Nat.le_of_ble_eq_true rfl⟩ ⟨_, rfl, _, rfl, z_I hR⟩ rfl (by decide +kernel) (Nat.le_of_ble_eq_true rfl) hRl hls.1 hroom (fun H1 locs1 hR1 => ?_)
  obtain ⟨kv, M1, hg⟩ : ∃ (kv : Int32) (M1 : xm_M), gZ_carry [.ref 0, .int (xl_g xs (nI (6 * i)) 1)] M' = (some (.int kv), M1) := by
    simp only [gZ_carry]
    cases ftA_carry [.ref 0, .int (xl_g xs (nI (6 * i)) 1)] M' with
    | none => exact ⟨_, _, rfl⟩
    | some E => exact ⟨_, _, rfl⟩
  have hF := xl_zn (ft := ftA_carry [.ref 0, .int (xl_g xs (nI (6 * i)) 1)] M') (es := ["java/lang/IndexOutOfBoundsException", "java/lang/IllegalStateException"]) (M := M') (M1 := M1) (Ma := (fA_carry [.ref 0, .int (xl_g xs (nI (6 * i)) 1)] M').2) (ra := (fA_carry [.ref 0, .int (xl_g xs (nI (6 * i)) 1)] M').1) (kv := kv) (pre := pM_carry) (fn := fM_carry) (as1 := [.ref 0, .int (xl_g xs (nI (6 * i)) 1)]) hg.symm (fun h => ⟨_, rfl, z_J h⟩) hR (fun h => z_carry h _)
  rw [hg] at hR1 ⊢
  rw [e1, e2]
  have J2 := xl_snd (e := e) (below := below) C (K := xl_K (nI (6 * i)) cl') (fun pc ls st M2 cl2 hk => by obtain ⟨rfl, rfl, rfl, h1, h2⟩ := hk; exact ih M2 cl2 h1 h2) (xl_b_carry xs M1 cl' kv hL hi hF)
  exact J2 H1 locs1 lsC hR1 hls
theorem xe_Z_holiday : Cond.codeWith xy_Z_holiday xb_Z_holiday 3 (some .int) xh_Z_holiday ∈ xt_T := xt_in 477 (by decide +kernel) rfl
set_option maxRecDepth 20000 in
theorem xl_c_holiday (C : xl_C p l s m meth c b L xs dC dI dA ad) {i cl : Nat} {M : xm_M} (hL : L ≤ 3072) (hi : 6 * i + 6 ≤ L) (hR : zR M (xl_md M)) (hcl : cl ≤ 1040) (ih : xl_ih p l e s m below meth c b dC dI dA ad i cl) : xl_J p l e s m below meth c b dC dI dA ad 320 (xl_LS (nI (6 * i))) [] M cl := by
  obtain ⟨S, ⟨hr, hlocks⟩, hK, hN, ⟨hSr, hZ, hNc⟩, ⟨hj, hA0⟩, hscr, hl⟩ := id C
  obtain ⟨hroom, e1, e2⟩ := xl_rom hcl
  refine xl_snd C (fun pc ls st M' cl' hk => ?_) (xl_a_holiday xs M cl hL hi)
  obtain ⟨rfl, rfl, rfl, rfl, rfl⟩ := hk
  intro H locs lsC hRl hls
  refine xl_hp (own := "AbsenceRowsLaw") (as := [.ref 0, .int (xl_g xs (nI (6 * i)) 1)]) (rest := []) (np := 2) (idx := 114) S hN hK hj hA0 hSr hZ hNc (cZ_holiday l hl) xe_Z_holiday xz3_36 ⟨by decide, by decide, by decide +kernel⟩ xz3_475 xz3_476 ⟨Nat.le_of_ble_eq_true rfl, Nat.le_of_ble_eq_true rfl⟩ ⟨_, rfl, _, rfl, z_I hR⟩ rfl (by decide +kernel) (Nat.le_of_ble_eq_true rfl) hRl hls.1 hroom (fun H1 locs1 hR1 => ?_)
  obtain ⟨kv, M1, hg⟩ : ∃ (kv : Int32) (M1 : xm_M), gZ_holiday [.ref 0, .int (xl_g xs (nI (6 * i)) 1)] M' = (some (.int kv), M1) := by
    simp only [gZ_holiday]
    cases ftA_holiday [.ref 0, .int (xl_g xs (nI (6 * i)) 1)] M' with
    | none => exact ⟨_, _, rfl⟩
    | some E => exact ⟨_, _, rfl⟩
  have hF := xl_zn (ft := ftA_holiday [.ref 0, .int (xl_g xs (nI (6 * i)) 1)] M') (es := ["java/lang/IndexOutOfBoundsException", "java/lang/IllegalStateException"]) (M := M') (M1 := M1) (Ma := (fA_holiday [.ref 0, .int (xl_g xs (nI (6 * i)) 1)] M').2) (ra := (fA_holiday [.ref 0, .int (xl_g xs (nI (6 * i)) 1)] M').1) (kv := kv) (pre := pM_holiday) (fn := fM_holiday) (as1 := [.ref 0, .int (xl_g xs (nI (6 * i)) 1)]) hg.symm (fun h => ⟨_, rfl, z_J h⟩) hR (fun h => z_holiday h _)
  rw [hg] at hR1 ⊢
  rw [e1, e2]
  have J2 := xl_snd (e := e) (below := below) C (K := xl_K (nI (6 * i)) cl') (fun pc ls st M2 cl2 hk => by obtain ⟨rfl, rfl, rfl, h1, h2⟩ := hk; exact ih M2 cl2 h1 h2) (xl_b_holiday xs M1 cl' kv hL hi hF)
  exact J2 H1 locs1 lsC hR1 hls
theorem xe_Z_working : Cond.codeWith xy_Z_working xb_Z_working 5 (some .int) xh_Z_working ∈ xt_T := xt_in 486 (by decide +kernel) rfl
set_option maxRecDepth 20000 in
theorem xl_c_working (C : xl_C p l s m meth c b L xs dC dI dA ad) {i cl : Nat} {M : xm_M} (hL : L ≤ 3072) (hi : 6 * i + 6 ≤ L) (hR : zR M (xl_md M)) (hcl : cl ≤ 1040) (ih : xl_ih p l e s m below meth c b dC dI dA ad i cl) : xl_J p l e s m below meth c b dC dI dA ad 356 (xl_LS (nI (6 * i))) [] M cl := by
  obtain ⟨S, ⟨hr, hlocks⟩, hK, hN, ⟨hSr, hZ, hNc⟩, ⟨hj, hA0⟩, hscr, hl⟩ := id C
  obtain ⟨hroom, e1, e2⟩ := xl_rom hcl
  refine xl_snd C (fun pc ls st M' cl' hk => ?_) (xl_a_working xs M cl hL hi)
  obtain ⟨rfl, rfl, rfl, rfl, rfl⟩ := hk
  intro H locs lsC hRl hls
  refine xl_hp (own := "AbsenceRowsLaw") (as := [.ref 0, .int (xl_g xs (nI (6 * i)) 1), .int (xl_g xs (nI (6 * i)) 2), .ref 63]) (rest := []) (np := 4) (idx := 117) S hN hK hj hA0 hSr hZ hNc (cZ_working l hl) xe_Z_working xz3_36 ⟨by decide, by decide, by decide +kernel⟩ xz3_484 xz3_485 ⟨Nat.le_of_ble_eq_true rfl, Nat.le_of_ble_eq_true rfl⟩ ⟨_, _, rfl, _, _, rfl, z_I hR⟩ rfl (by decide +kernel) (Nat.le_of_ble_eq_true rfl) hRl hls.1 hroom (fun H1 locs1 hR1 => ?_)
  obtain ⟨kv, M1, hg⟩ : ∃ (kv : Int32) (M1 : xm_M), gZ_working [.ref 0, .int (xl_g xs (nI (6 * i)) 1), .int (xl_g xs (nI (6 * i)) 2), .ref 63] M' = (some (.int kv), M1) := by
    simp only [gZ_working]
    cases ftA_working [.ref 0, .int (xl_g xs (nI (6 * i)) 1), .int (xl_g xs (nI (6 * i)) 2)] M' with
    | none => exact ⟨_, _, rfl⟩
    | some E => exact ⟨_, _, rfl⟩
  have hF := xl_zv (ft := ftA_working [.ref 0, .int (xl_g xs (nI (6 * i)) 1), .int (xl_g xs (nI (6 * i)) 2)] M') (es := ["java/lang/IndexOutOfBoundsException"]) (M := M') (M1 := M1) (Ma := (fA_working [.ref 0, .int (xl_g xs (nI (6 * i)) 1), .int (xl_g xs (nI (6 * i)) 2)] M').2) (ra := (fA_working [.ref 0, .int (xl_g xs (nI (6 * i)) 1), .int (xl_g xs (nI (6 * i)) 2)] M').1) (kv := kv) (pre := pM_working) (fn := fM_working) (as1 := [.ref 0, .int (xl_g xs (nI (6 * i)) 1), .int (xl_g xs (nI (6 * i)) 2)]) hg.symm (fun h => ⟨_, _, rfl, z_J h⟩) hR (fun h => z_working h _ _)
  rw [hg] at hR1 ⊢
  rw [e1, e2]
  have J2 := xl_snd (e := e) (below := below) C (K := xl_K (nI (6 * i)) cl') (fun pc ls st M2 cl2 hk => by obtain ⟨rfl, rfl, rfl, h1, h2⟩ := hk; exact ih M2 cl2 h1 h2) (xl_b_working xs M1 cl' kv hL hi hF)
  exact J2 H1 locs1 lsC hR1 hls
theorem xe_Z_crew : Cond.codeWith xy_Z_crew xb_Z_crew 5 (some .int) xh_Z_crew ∈ xt_T := xt_in 501 (by decide +kernel) rfl
set_option maxRecDepth 20000 in
theorem xl_c_crew (C : xl_C p l s m meth c b L xs dC dI dA ad) {i cl : Nat} {M : xm_M} (hL : L ≤ 3072) (hi : 6 * i + 6 ≤ L) (hR : zR M (xl_md M)) (hcl : cl ≤ 1040) (ih : xl_ih p l e s m below meth c b dC dI dA ad i cl) : xl_J p l e s m below meth c b dC dI dA ad 424 (xl_LS (nI (6 * i))) [] M cl := by
  obtain ⟨S, ⟨hr, hlocks⟩, hK, hN, ⟨hSr, hZ, hNc⟩, ⟨hj, hA0⟩, hscr, hl⟩ := id C
  obtain ⟨hroom, e1, e2⟩ := xl_rom hcl
  refine xl_snd C (fun pc ls st M' cl' hk => ?_) (xl_a_crew xs M cl hL hi)
  obtain ⟨rfl, rfl, rfl, rfl, rfl⟩ := hk
  intro H locs lsC hRl hls
  refine xl_hp (own := "AbsenceRowsLaw") (as := [.ref 0, .int (xl_g xs (nI (6 * i)) 1), .int (xl_g xs (nI (6 * i)) 2), .ref 63]) (rest := []) (np := 4) (idx := 121) S hN hK hj hA0 hSr hZ hNc (cZ_crew l hl) xe_Z_crew xz3_36 ⟨by decide, by decide, by decide +kernel⟩ xz3_499 xz3_500 ⟨Nat.le_of_ble_eq_true rfl, Nat.le_of_ble_eq_true rfl⟩ ⟨_, _, rfl, _, _, rfl, z_I hR⟩ rfl (by decide +kernel) (Nat.le_of_ble_eq_true rfl) hRl hls.1 hroom (fun H1 locs1 hR1 => ?_)
  obtain ⟨kv, M1, hg⟩ : ∃ (kv : Int32) (M1 : xm_M), gZ_crew [.ref 0, .int (xl_g xs (nI (6 * i)) 1), .int (xl_g xs (nI (6 * i)) 2), .ref 63] M' = (some (.int kv), M1) := by
    simp only [gZ_crew]
    cases ftA_crew [.ref 0, .int (xl_g xs (nI (6 * i)) 1), .int (xl_g xs (nI (6 * i)) 2)] M' with
    | none => exact ⟨_, _, rfl⟩
    | some E => exact ⟨_, _, rfl⟩
  have hF := xl_zv (ft := ftA_crew [.ref 0, .int (xl_g xs (nI (6 * i)) 1), .int (xl_g xs (nI (6 * i)) 2)] M') (es := ["java/lang/IndexOutOfBoundsException", "java/lang/UnsupportedOperationException"]) (M := M') (M1 := M1) (Ma := (fA_crew [.ref 0, .int (xl_g xs (nI (6 * i)) 1), .int (xl_g xs (nI (6 * i)) 2)] M').2) (ra := (fA_crew [.ref 0, .int (xl_g xs (nI (6 * i)) 1), .int (xl_g xs (nI (6 * i)) 2)] M').1) (kv := kv) (pre := pM_crew) (fn := fM_crew) (as1 := [.ref 0, .int (xl_g xs (nI (6 * i)) 1), .int (xl_g xs (nI (6 * i)) 2)]) hg.symm (fun h => ⟨_, _, rfl, z_J h⟩) hR (fun h => z_crew h _ _)
  rw [hg] at hR1 ⊢
  rw [e1, e2]
  have J2 := xl_snd (e := e) (below := below) C (K := xl_K (nI (6 * i)) cl') (fun pc ls st M2 cl2 hk => by obtain ⟨rfl, rfl, rfl, h1, h2⟩ := hk; exact ih M2 cl2 h1 h2) (xl_b_crew xs M1 cl' kv hL hi hF)
  exact J2 H1 locs1 lsC hR1 hls
theorem xe_Z_member : Cond.codeWith xy_Z_member xb_Z_member 6 (some .int) xh_Z_member ∈ xt_T := xt_in 514 (by decide +kernel) rfl
set_option maxRecDepth 20000 in
theorem xl_c_member (C : xl_C p l s m meth c b L xs dC dI dA ad) {i cl : Nat} {M : xm_M} (hL : L ≤ 3072) (hi : 6 * i + 6 ≤ L) (hR : zR M (xl_md M)) (hcl : cl ≤ 1040) (ih : xl_ih p l e s m below meth c b dC dI dA ad i cl) : xl_J p l e s m below meth c b dC dI dA ad 492 (xl_LS (nI (6 * i))) [] M cl := by
  obtain ⟨S, ⟨hr, hlocks⟩, hK, hN, ⟨hSr, hZ, hNc⟩, ⟨hj, hA0⟩, hscr, hl⟩ := id C
  obtain ⟨hroom, e1, e2⟩ := xl_rom hcl
  refine xl_snd C (fun pc ls st M' cl' hk => ?_) (xl_a_member xs M cl hL hi)
  obtain ⟨rfl, rfl, rfl, rfl, rfl⟩ := hk
  intro H locs lsC hRl hls
  refine xl_hp (own := "AbsenceRowsLaw") (as := [.ref 0, .int (xl_g xs (nI (6 * i)) 1), .int (xl_g xs (nI (6 * i)) 2), .int (xl_bo (xl_g xs (nI (6 * i)) 3)), .ref 63]) (rest := []) (np := 5) (idx := 124) S hN hK hj hA0 hSr hZ hNc (cZ_member l hl) xe_Z_member xz3_36 ⟨by decide, by decide, by decide +kernel⟩ xz3_512 xz3_513 ⟨Nat.le_of_ble_eq_true rfl, Nat.le_of_ble_eq_true rfl⟩ ⟨_, _, _, rfl, _, _, _, rfl, xl_b01 _, z_I hR⟩ rfl (by decide +kernel) (Nat.le_of_ble_eq_true rfl) hRl hls.1 hroom (fun H1 locs1 hR1 => ?_)
  obtain ⟨kv, M1, hg⟩ : ∃ (kv : Int32) (M1 : xm_M), gZ_member [.ref 0, .int (xl_g xs (nI (6 * i)) 1), .int (xl_g xs (nI (6 * i)) 2), .int (xl_bo (xl_g xs (nI (6 * i)) 3)), .ref 63] M' = (some (.int kv), M1) := by
    simp only [gZ_member]
    cases ftA_member [.ref 0, .int (xl_g xs (nI (6 * i)) 1), .int (xl_g xs (nI (6 * i)) 2), .int (xl_bo (xl_g xs (nI (6 * i)) 3))] M' with
    | none => exact ⟨_, _, rfl⟩
    | some E => exact ⟨_, _, rfl⟩
  have hF := xl_zv (ft := ftA_member [.ref 0, .int (xl_g xs (nI (6 * i)) 1), .int (xl_g xs (nI (6 * i)) 2), .int (xl_bo (xl_g xs (nI (6 * i)) 3))] M') (es := ["java/lang/IllegalArgumentException", "java/lang/IllegalStateException"]) (M := M') (M1 := M1) (Ma := (fA_member [.ref 0, .int (xl_g xs (nI (6 * i)) 1), .int (xl_g xs (nI (6 * i)) 2), .int (xl_bo (xl_g xs (nI (6 * i)) 3))] M').2) (ra := (fA_member [.ref 0, .int (xl_g xs (nI (6 * i)) 1), .int (xl_g xs (nI (6 * i)) 2), .int (xl_bo (xl_g xs (nI (6 * i)) 3))] M').1) (kv := kv) (pre := pM_member) (fn := fM_member) (as1 := [.ref 0, .int (xl_g xs (nI (6 * i)) 1), .int (xl_g xs (nI (6 * i)) 2), .int (xl_bo (xl_g xs (nI (6 * i)) 3))]) hg.symm (fun h => ⟨_, _, _, rfl, xl_b01 _, z_J h⟩) hR (fun h => z_member h _ _ _ (xl_b01 _))
  rw [hg] at hR1 ⊢
  rw [e1, e2]
  have J2 := xl_snd (e := e) (below := below) C (K := xl_K (nI (6 * i)) cl') (fun pc ls st M2 cl2 hk => by obtain ⟨rfl, rfl, rfl, h1, h2⟩ := hk; exact ih M2 cl2 h1 h2) (xl_b_member xs M1 cl' kv hL hi hF)
  exact J2 H1 locs1 lsC hR1 hls
theorem xe_Z_ask : Cond.codeWith xy_Z_ask xb_Z_ask 8 (some .int) xh_Z_ask ∈ xt_T := xt_in 540 (by decide +kernel) rfl
set_option maxRecDepth 20000 in
theorem xl_c_ask (C : xl_C p l s m meth c b L xs dC dI dA ad) {i cl : Nat} {M : xm_M} (hL : L ≤ 3072) (hi : 6 * i + 6 ≤ L) (hR : zR M (xl_md M)) (hcl : cl ≤ 1040) (ih : xl_ih p l e s m below meth c b dC dI dA ad i cl) : xl_J p l e s m below meth c b dC dI dA ad 588 (xl_LS (nI (6 * i))) [] M cl := by
  obtain ⟨S, ⟨hr, hlocks⟩, hK, hN, ⟨hSr, hZ, hNc⟩, ⟨hj, hA0⟩, hscr, hl⟩ := id C
  obtain ⟨hroom, e1, e2⟩ := xl_rom hcl
  refine xl_snd C (fun pc ls st M' cl' hk => ?_) (xl_a_ask xs M cl hL hi)
  obtain ⟨rfl, rfl, rfl, rfl, rfl⟩ := hk
  intro H locs lsC hRl hls
  refine xl_hp (own := "AbsenceRowsLaw") (as := [.ref 0, .int (xl_g xs (nI (6 * i)) 1), .int (xl_g xs (nI (6 * i)) 2), .int (xl_g xs (nI (6 * i)) 3), .int (xl_g xs (nI (6 * i)) 4), .int (xl_g xs (nI (6 * i)) 5), .ref 63]) (rest := []) (np := 7) (idx := 128) S hN hK hj hA0 hSr hZ hNc (cZ_ask l hl) xe_Z_ask xz3_36 ⟨by decide, by decide, by decide +kernel⟩ xz3_538 xz3_539 ⟨Nat.le_of_ble_eq_true rfl, Nat.le_of_ble_eq_true rfl⟩ ⟨_, _, _, _, _, rfl, _, _, _, _, _, rfl, z_I hR⟩ rfl (by decide +kernel) (Nat.le_of_ble_eq_true rfl) hRl hls.1 hroom (fun H1 locs1 hR1 => ?_)
  obtain ⟨kv, M1, hg⟩ : ∃ (kv : Int32) (M1 : xm_M), gZ_ask [.ref 0, .int (xl_g xs (nI (6 * i)) 1), .int (xl_g xs (nI (6 * i)) 2), .int (xl_g xs (nI (6 * i)) 3), .int (xl_g xs (nI (6 * i)) 4), .int (xl_g xs (nI (6 * i)) 5), .ref 63] M' = (some (.int kv), M1) := by
    simp only [gZ_ask]
    cases ftA_ask [.ref 0, .int (xl_g xs (nI (6 * i)) 1), .int (xl_g xs (nI (6 * i)) 2), .int (xl_g xs (nI (6 * i)) 3), .int (xl_g xs (nI (6 * i)) 4), .int (xl_g xs (nI (6 * i)) 5)] M' with
    | none => exact ⟨_, _, rfl⟩
    | some E => exact ⟨_, _, rfl⟩
  have hF := xl_zv (ft := ftA_ask [.ref 0, .int (xl_g xs (nI (6 * i)) 1), .int (xl_g xs (nI (6 * i)) 2), .int (xl_g xs (nI (6 * i)) 3), .int (xl_g xs (nI (6 * i)) 4), .int (xl_g xs (nI (6 * i)) 5)] M') (es := ["java/lang/IllegalArgumentException", "java/lang/IndexOutOfBoundsException", "java/lang/IllegalStateException", "java/lang/UnsupportedOperationException"]) (M := M') (M1 := M1) (Ma := (fA_ask [.ref 0, .int (xl_g xs (nI (6 * i)) 1), .int (xl_g xs (nI (6 * i)) 2), .int (xl_g xs (nI (6 * i)) 3), .int (xl_g xs (nI (6 * i)) 4), .int (xl_g xs (nI (6 * i)) 5)] M').2) (ra := (fA_ask [.ref 0, .int (xl_g xs (nI (6 * i)) 1), .int (xl_g xs (nI (6 * i)) 2), .int (xl_g xs (nI (6 * i)) 3), .int (xl_g xs (nI (6 * i)) 4), .int (xl_g xs (nI (6 * i)) 5)] M').1) (kv := kv) (pre := pM_ask) (fn := fM_ask) (as1 := [.ref 0, .int (xl_g xs (nI (6 * i)) 1), .int (xl_g xs (nI (6 * i)) 2), .int (xl_g xs (nI (6 * i)) 3), .int (xl_g xs (nI (6 * i)) 4), .int (xl_g xs (nI (6 * i)) 5)]) hg.symm (fun h => ⟨_, _, _, _, _, rfl, z_J h⟩) hR (fun h => z_ask h _ _ _ _ _)
  rw [hg] at hR1 ⊢
  rw [e1, e2]
  have J2 := xl_snd (e := e) (below := below) C (K := xl_K (nI (6 * i)) cl') (fun pc ls st M2 cl2 hk => by obtain ⟨rfl, rfl, rfl, h1, h2⟩ := hk; exact ih M2 cl2 h1 h2) (xl_b_ask xs M1 cl' kv hL hi hF)
  exact J2 H1 locs1 lsC hR1 hls
theorem xe_Z_grant : Cond.codeWith xy_Z_grant xb_Z_grant 5 (some .int) xh_Z_grant ∈ xt_T := xt_in 567 (by decide +kernel) rfl
set_option maxRecDepth 20000 in
theorem xl_c_grant (C : xl_C p l s m meth c b L xs dC dI dA ad) {i cl : Nat} {M : xm_M} (hL : L ≤ 3072) (hi : 6 * i + 6 ≤ L) (hR : zR M (xl_md M)) (hcl : cl ≤ 1040) (ih : xl_ih p l e s m below meth c b dC dI dA ad i cl) : xl_J p l e s m below meth c b dC dI dA ad 692 (xl_LS (nI (6 * i))) [] M cl := by
  obtain ⟨S, ⟨hr, hlocks⟩, hK, hN, ⟨hSr, hZ, hNc⟩, ⟨hj, hA0⟩, hscr, hl⟩ := id C
  obtain ⟨hroom, e1, e2⟩ := xl_rom hcl
  refine xl_snd C (fun pc ls st M' cl' hk => ?_) (xl_a_grant xs M cl hL hi)
  obtain ⟨rfl, rfl, rfl, rfl, rfl⟩ := hk
  intro H locs lsC hRl hls
  refine xl_hp (own := "AbsenceRowsLaw") (as := [.ref 0, .int (xl_g xs (nI (6 * i)) 1), .int (xl_g xs (nI (6 * i)) 2), .ref 63]) (rest := []) (np := 4) (idx := 132) S hN hK hj hA0 hSr hZ hNc (cZ_grant l hl) xe_Z_grant xz3_36 ⟨by decide, by decide, by decide +kernel⟩ xz3_565 xz3_566 ⟨Nat.le_of_ble_eq_true rfl, Nat.le_of_ble_eq_true rfl⟩ ⟨_, _, rfl, _, _, rfl, z_I hR⟩ rfl (by decide +kernel) (Nat.le_of_ble_eq_true rfl) hRl hls.1 hroom (fun H1 locs1 hR1 => ?_)
  obtain ⟨kv, M1, hg⟩ : ∃ (kv : Int32) (M1 : xm_M), gZ_grant [.ref 0, .int (xl_g xs (nI (6 * i)) 1), .int (xl_g xs (nI (6 * i)) 2), .ref 63] M' = (some (.int kv), M1) := by
    simp only [gZ_grant]
    cases ftA_grant [.ref 0, .int (xl_g xs (nI (6 * i)) 1), .int (xl_g xs (nI (6 * i)) 2)] M' with
    | none => exact ⟨_, _, rfl⟩
    | some E => exact ⟨_, _, rfl⟩
  have hF := xl_zv (ft := ftA_grant [.ref 0, .int (xl_g xs (nI (6 * i)) 1), .int (xl_g xs (nI (6 * i)) 2)] M') (es := ["java/lang/IllegalArgumentException", "java/lang/IllegalStateException"]) (M := M') (M1 := M1) (Ma := (fA_grant [.ref 0, .int (xl_g xs (nI (6 * i)) 1), .int (xl_g xs (nI (6 * i)) 2)] M').2) (ra := (fA_grant [.ref 0, .int (xl_g xs (nI (6 * i)) 1), .int (xl_g xs (nI (6 * i)) 2)] M').1) (kv := kv) (pre := pM_grant) (fn := fM_grant) (as1 := [.ref 0, .int (xl_g xs (nI (6 * i)) 1), .int (xl_g xs (nI (6 * i)) 2)]) hg.symm (fun h => ⟨_, _, rfl, z_J h⟩) hR (fun h => z_grant h _ _)
  rw [hg] at hR1 ⊢
  rw [e1, e2]
  have J2 := xl_snd (e := e) (below := below) C (K := xl_K (nI (6 * i)) cl') (fun pc ls st M2 cl2 hk => by obtain ⟨rfl, rfl, rfl, h1, h2⟩ := hk; exact ih M2 cl2 h1 h2) (xl_b_grant xs M1 cl' kv hL hi hF)
  exact J2 H1 locs1 lsC hR1 hls
theorem xe_Z_withdraw : Cond.codeWith xy_Z_withdraw xb_Z_withdraw 4 (some .int) xh_Z_withdraw ∈ xt_T := xt_in 635 (by decide +kernel) rfl
set_option maxRecDepth 20000 in
theorem xl_c_withdraw (C : xl_C p l s m meth c b L xs dC dI dA ad) {i cl : Nat} {M : xm_M} (hL : L ≤ 3072) (hi : 6 * i + 6 ≤ L) (hR : zR M (xl_md M)) (hcl : cl ≤ 1040) (ih : xl_ih p l e s m below meth c b dC dI dA ad i cl) : xl_J p l e s m below meth c b dC dI dA ad 760 (xl_LS (nI (6 * i))) [] M cl := by
  obtain ⟨S, ⟨hr, hlocks⟩, hK, hN, ⟨hSr, hZ, hNc⟩, ⟨hj, hA0⟩, hscr, hl⟩ := id C
  obtain ⟨hroom, e1, e2⟩ := xl_rom hcl
  refine xl_snd C (fun pc ls st M' cl' hk => ?_) (xl_a_withdraw xs M cl hL hi)
  obtain ⟨rfl, rfl, rfl, rfl, rfl⟩ := hk
  intro H locs lsC hRl hls
  refine xl_hp (own := "AbsenceRowsLaw") (as := [.ref 0, .int (xl_g xs (nI (6 * i)) 1), .ref 63]) (rest := []) (np := 3) (idx := 135) S hN hK hj hA0 hSr hZ hNc (cZ_withdraw l hl) xe_Z_withdraw xz3_36 ⟨by decide, by decide, by decide +kernel⟩ xz3_633 xz3_634 ⟨Nat.le_of_ble_eq_true rfl, Nat.le_of_ble_eq_true rfl⟩ ⟨_, rfl, _, rfl, z_I hR⟩ rfl (by decide +kernel) (Nat.le_of_ble_eq_true rfl) hRl hls.1 hroom (fun H1 locs1 hR1 => ?_)
  obtain ⟨kv, M1, hg⟩ : ∃ (kv : Int32) (M1 : xm_M), gZ_withdraw [.ref 0, .int (xl_g xs (nI (6 * i)) 1), .ref 63] M' = (some (.int kv), M1) := by
    simp only [gZ_withdraw]
    cases ftA_withdraw [.ref 0, .int (xl_g xs (nI (6 * i)) 1)] M' with
    | none => exact ⟨_, _, rfl⟩
    | some E => exact ⟨_, _, rfl⟩
  have hF := xl_zv (ft := ftA_withdraw [.ref 0, .int (xl_g xs (nI (6 * i)) 1)] M') (es := ["java/lang/IllegalArgumentException", "java/lang/IllegalStateException"]) (M := M') (M1 := M1) (Ma := (fA_withdraw [.ref 0, .int (xl_g xs (nI (6 * i)) 1)] M').2) (ra := (fA_withdraw [.ref 0, .int (xl_g xs (nI (6 * i)) 1)] M').1) (kv := kv) (pre := pM_withdraw) (fn := fM_withdraw) (as1 := [.ref 0, .int (xl_g xs (nI (6 * i)) 1)]) hg.symm (fun h => ⟨_, rfl, z_J h⟩) hR (fun h => z_withdraw h _)
  rw [hg] at hR1 ⊢
  rw [e1, e2]
  have J2 := xl_snd (e := e) (below := below) C (K := xl_K (nI (6 * i)) cl') (fun pc ls st M2 cl2 hk => by obtain ⟨rfl, rfl, rfl, h1, h2⟩ := hk; exact ih M2 cl2 h1 h2) (xl_b_withdraw xs M1 cl' kv hL hi hF)
  exact J2 H1 locs1 lsC hR1 hls
theorem xe_Z_askAt : Cond.codeWith xy_Z_askAt xb_Z_askAt 5 (some .int) xh_Z_askAt ∈ xt_T := xt_in 644 (by decide +kernel) rfl
set_option maxRecDepth 20000 in
theorem xl_c_askAt (C : xl_C p l s m meth c b L xs dC dI dA ad) {i cl : Nat} {M : xm_M} (hL : L ≤ 3072) (hi : 6 * i + 6 ≤ L) (hR : zR M (xl_md M)) (hcl : cl ≤ 1040) (ih : xl_ih p l e s m below meth c b dC dI dA ad i cl) : xl_J p l e s m below meth c b dC dI dA ad 816 (xl_LS (nI (6 * i))) [] M cl := by
  obtain ⟨S, ⟨hr, hlocks⟩, hK, hN, ⟨hSr, hZ, hNc⟩, ⟨hj, hA0⟩, hscr, hl⟩ := id C
  obtain ⟨hroom, e1, e2⟩ := xl_rom hcl
  refine xl_snd C (fun pc ls st M' cl' hk => ?_) (xl_a_askAt xs M cl hL hi)
  obtain ⟨rfl, rfl, rfl, rfl, rfl⟩ := hk
  intro H locs lsC hRl hls
  refine xl_hp (own := "AbsenceRowsLaw") (as := [.ref 0, .int (xl_g xs (nI (6 * i)) 1), .int (xl_g xs (nI (6 * i)) 2), .ref 63]) (rest := []) (np := 4) (idx := 139) S hN hK hj hA0 hSr hZ hNc (cZ_askAt l hl) xe_Z_askAt xz3_36 ⟨by decide, by decide, by decide +kernel⟩ xz3_642 xz3_643 ⟨Nat.le_of_ble_eq_true rfl, Nat.le_of_ble_eq_true rfl⟩ ⟨_, _, rfl, _, _, rfl, z_I hR⟩ rfl (by decide +kernel) (Nat.le_of_ble_eq_true rfl) hRl hls.1 hroom (fun H1 locs1 hR1 => ?_)
  obtain ⟨kv, M1, hg⟩ : ∃ (kv : Int32) (M1 : xm_M), gZ_askAt [.ref 0, .int (xl_g xs (nI (6 * i)) 1), .int (xl_g xs (nI (6 * i)) 2), .ref 63] M' = (some (.int kv), M1) := by
    simp only [gZ_askAt]
    cases ftA_askAt [.ref 0, .int (xl_g xs (nI (6 * i)) 1), .int (xl_g xs (nI (6 * i)) 2)] M' with
    | none => exact ⟨_, _, rfl⟩
    | some E => exact ⟨_, _, rfl⟩
  have hF := xl_zv (ft := ftA_askAt [.ref 0, .int (xl_g xs (nI (6 * i)) 1), .int (xl_g xs (nI (6 * i)) 2)] M') (es := ["java/lang/IllegalArgumentException"]) (M := M') (M1 := M1) (Ma := (fA_askAt [.ref 0, .int (xl_g xs (nI (6 * i)) 1), .int (xl_g xs (nI (6 * i)) 2)] M').2) (ra := (fA_askAt [.ref 0, .int (xl_g xs (nI (6 * i)) 1), .int (xl_g xs (nI (6 * i)) 2)] M').1) (kv := kv) (pre := pM_askAt) (fn := fM_askAt) (as1 := [.ref 0, .int (xl_g xs (nI (6 * i)) 1), .int (xl_g xs (nI (6 * i)) 2)]) hg.symm (fun h => ⟨_, _, rfl, z_J h⟩) hR (fun h => z_askAt h _ _)
  rw [hg] at hR1 ⊢
  rw [e1, e2]
  have J2 := xl_snd (e := e) (below := below) C (K := xl_K (nI (6 * i)) cl') (fun pc ls st M2 cl2 hk => by obtain ⟨rfl, rfl, rfl, h1, h2⟩ := hk; exact ih M2 cl2 h1 h2) (xl_b_askAt xs M1 cl' kv hL hi hF)
  exact J2 H1 locs1 lsC hR1 hls
theorem xe_Z_left : Cond.codeWith xy_Z_left xb_Z_left 6 (some .int) xh_Z_left ∈ xt_T := xt_in 652 (by decide +kernel) rfl
set_option maxRecDepth 20000 in
theorem xl_c_left (C : xl_C p l s m meth c b L xs dC dI dA ad) {i cl : Nat} {M : xm_M} (hL : L ≤ 3072) (hi : 6 * i + 6 ≤ L) (hR : zR M (xl_md M)) (hcl : cl ≤ 1040) (ih : xl_ih p l e s m below meth c b dC dI dA ad i cl) : xl_J p l e s m below meth c b dC dI dA ad 884 (xl_LS (nI (6 * i))) [] M cl := by
  obtain ⟨S, ⟨hr, hlocks⟩, hK, hN, ⟨hSr, hZ, hNc⟩, ⟨hj, hA0⟩, hscr, hl⟩ := id C
  obtain ⟨hroom, e1, e2⟩ := xl_rom hcl
  refine xl_snd C (fun pc ls st M' cl' hk => ?_) (xl_a_left xs M cl hL hi)
  obtain ⟨rfl, rfl, rfl, rfl, rfl⟩ := hk
  intro H locs lsC hRl hls
  refine xl_hp (own := "AbsenceRowsLaw") (as := [.ref 0, .int (xl_g xs (nI (6 * i)) 1), .int (xl_g xs (nI (6 * i)) 2), .int (xl_g xs (nI (6 * i)) 3), .ref 63]) (rest := []) (np := 5) (idx := 142) S hN hK hj hA0 hSr hZ hNc (cZ_left l hl) xe_Z_left xz3_36 ⟨by decide, by decide, by decide +kernel⟩ xz3_650 xz3_651 ⟨Nat.le_of_ble_eq_true rfl, Nat.le_of_ble_eq_true rfl⟩ ⟨_, _, _, rfl, _, _, _, rfl, z_I hR⟩ rfl (by decide +kernel) (Nat.le_of_ble_eq_true rfl) hRl hls.1 hroom (fun H1 locs1 hR1 => ?_)
  obtain ⟨kv, M1, hg⟩ : ∃ (kv : Int32) (M1 : xm_M), gZ_left [.ref 0, .int (xl_g xs (nI (6 * i)) 1), .int (xl_g xs (nI (6 * i)) 2), .int (xl_g xs (nI (6 * i)) 3), .ref 63] M' = (some (.int kv), M1) := by
    simp only [gZ_left]
    cases ftA_left [.ref 0, .int (xl_g xs (nI (6 * i)) 1), .int (xl_g xs (nI (6 * i)) 2), .int (xl_g xs (nI (6 * i)) 3)] M' with
    | none => exact ⟨_, _, rfl⟩
    | some E => exact ⟨_, _, rfl⟩
  have hF := xl_zv (ft := ftA_left [.ref 0, .int (xl_g xs (nI (6 * i)) 1), .int (xl_g xs (nI (6 * i)) 2), .int (xl_g xs (nI (6 * i)) 3)] M') (es := ["java/lang/IllegalArgumentException"]) (M := M') (M1 := M1) (Ma := (fA_left [.ref 0, .int (xl_g xs (nI (6 * i)) 1), .int (xl_g xs (nI (6 * i)) 2), .int (xl_g xs (nI (6 * i)) 3)] M').2) (ra := (fA_left [.ref 0, .int (xl_g xs (nI (6 * i)) 1), .int (xl_g xs (nI (6 * i)) 2), .int (xl_g xs (nI (6 * i)) 3)] M').1) (kv := kv) (pre := pM_left) (fn := fM_left) (as1 := [.ref 0, .int (xl_g xs (nI (6 * i)) 1), .int (xl_g xs (nI (6 * i)) 2), .int (xl_g xs (nI (6 * i)) 3)]) hg.symm (fun h => ⟨_, _, _, rfl, z_J h, fun h1 h2 => z_Jl h _ _ h1 h2⟩) hR (fun h => z_left_ h _ _ _)
  rw [hg] at hR1 ⊢
  rw [e1, e2]
  have J2 := xl_snd (e := e) (below := below) C (K := xl_K (nI (6 * i)) cl') (fun pc ls st M2 cl2 hk => by obtain ⟨rfl, rfl, rfl, h1, h2⟩ := hk; exact ih M2 cl2 h1 h2) (xl_b_left xs M1 cl' kv hL hi hF)
  exact J2 H1 locs1 lsC hR1 hls
theorem xe_Z_absent : Cond.codeWith xy_Z_absent xb_Z_absent 5 (some .int) xh_Z_absent ∈ xt_T := xt_in 670 (by decide +kernel) rfl
set_option maxRecDepth 20000 in
theorem xl_c_absent (C : xl_C p l s m meth c b L xs dC dI dA ad) {i cl : Nat} {M : xm_M} (hL : L ≤ 3072) (hi : 6 * i + 6 ≤ L) (hR : zR M (xl_md M)) (hcl : cl ≤ 1040) (ih : xl_ih p l e s m below meth c b dC dI dA ad i cl) : xl_J p l e s m below meth c b dC dI dA ad 964 (xl_LS (nI (6 * i))) [] M cl := by
  obtain ⟨S, ⟨hr, hlocks⟩, hK, hN, ⟨hSr, hZ, hNc⟩, ⟨hj, hA0⟩, hscr, hl⟩ := id C
  obtain ⟨hroom, e1, e2⟩ := xl_rom hcl
  refine xl_snd C (fun pc ls st M' cl' hk => ?_) (xl_a_absent xs M cl hL hi)
  obtain ⟨rfl, rfl, rfl, rfl, rfl⟩ := hk
  intro H locs lsC hRl hls
  refine xl_hp (own := "AbsenceRowsLaw") (as := [.ref 0, .int (xl_g xs (nI (6 * i)) 1), .int (xl_g xs (nI (6 * i)) 2), .ref 63]) (rest := []) (np := 4) (idx := 145) S hN hK hj hA0 hSr hZ hNc (cZ_absent l hl) xe_Z_absent xz3_36 ⟨by decide, by decide, by decide +kernel⟩ xz3_668 xz3_669 ⟨Nat.le_of_ble_eq_true rfl, Nat.le_of_ble_eq_true rfl⟩ ⟨_, _, rfl, _, _, rfl, z_I hR⟩ rfl (by decide +kernel) (Nat.le_of_ble_eq_true rfl) hRl hls.1 hroom (fun H1 locs1 hR1 => ?_)
  obtain ⟨kv, M1, hg⟩ : ∃ (kv : Int32) (M1 : xm_M), gZ_absent [.ref 0, .int (xl_g xs (nI (6 * i)) 1), .int (xl_g xs (nI (6 * i)) 2), .ref 63] M' = (some (.int kv), M1) := by
    simp only [gZ_absent]
    cases ftA_absent [.ref 0, .int (xl_g xs (nI (6 * i)) 1), .int (xl_g xs (nI (6 * i)) 2)] M' with
    | none => exact ⟨_, _, rfl⟩
    | some E => exact ⟨_, _, rfl⟩
  have hF := xl_zv (ft := ftA_absent [.ref 0, .int (xl_g xs (nI (6 * i)) 1), .int (xl_g xs (nI (6 * i)) 2)] M') (es := ["java/lang/IllegalArgumentException", "java/lang/IndexOutOfBoundsException"]) (M := M') (M1 := M1) (Ma := (fA_absent [.ref 0, .int (xl_g xs (nI (6 * i)) 1), .int (xl_g xs (nI (6 * i)) 2)] M').2) (ra := (fA_absent [.ref 0, .int (xl_g xs (nI (6 * i)) 1), .int (xl_g xs (nI (6 * i)) 2)] M').1) (kv := kv) (pre := pM_absent) (fn := fM_absent) (as1 := [.ref 0, .int (xl_g xs (nI (6 * i)) 1), .int (xl_g xs (nI (6 * i)) 2)]) hg.symm (fun h => ⟨_, _, rfl, z_J h⟩) hR (fun h => z_absent h _ _)
  rw [hg] at hR1 ⊢
  rw [e1, e2]
  have J2 := xl_snd (e := e) (below := below) C (K := xl_K (nI (6 * i)) cl') (fun pc ls st M2 cl2 hk => by obtain ⟨rfl, rfl, rfl, h1, h2⟩ := hk; exact ih M2 cl2 h1 h2) (xl_b_absent xs M1 cl' kv hL hi hF)
  exact J2 H1 locs1 lsC hR1 hls
theorem xe_Z_present : Cond.codeWith xy_Z_present xb_Z_present 5 (some .int) xh_Z_present ∈ xt_T := xt_in 677 (by decide +kernel) rfl
set_option maxRecDepth 20000 in
theorem xl_c_present (C : xl_C p l s m meth c b L xs dC dI dA ad) {i cl : Nat} {M : xm_M} (hL : L ≤ 3072) (hi : 6 * i + 6 ≤ L) (hR : zR M (xl_md M)) (hcl : cl ≤ 1040) (ih : xl_ih p l e s m below meth c b dC dI dA ad i cl) : xl_J p l e s m below meth c b dC dI dA ad 1039 (xl_LS (nI (6 * i))) [] M cl := by
  obtain ⟨S, ⟨hr, hlocks⟩, hK, hN, ⟨hSr, hZ, hNc⟩, ⟨hj, hA0⟩, hscr, hl⟩ := id C
  obtain ⟨hroom, e1, e2⟩ := xl_rom hcl
  refine xl_snd C (fun pc ls st M' cl' hk => ?_) (xl_a_present xs M cl hL hi)
  obtain ⟨rfl, rfl, rfl, rfl, rfl⟩ := hk
  intro H locs lsC hRl hls
  refine xl_hp (own := "AbsenceRowsLaw") (as := [.ref 0, .int (xl_g xs (nI (6 * i)) 1), .int (xl_g xs (nI (6 * i)) 2), .ref 63]) (rest := []) (np := 4) (idx := 148) S hN hK hj hA0 hSr hZ hNc (cZ_present l hl) xe_Z_present xz3_36 ⟨by decide, by decide, by decide +kernel⟩ xz3_675 xz3_676 ⟨Nat.le_of_ble_eq_true rfl, Nat.le_of_ble_eq_true rfl⟩ ⟨_, _, rfl, _, _, rfl, z_I hR⟩ rfl (by decide +kernel) (Nat.le_of_ble_eq_true rfl) hRl hls.1 hroom (fun H1 locs1 hR1 => ?_)
  obtain ⟨kv, M1, hg⟩ : ∃ (kv : Int32) (M1 : xm_M), gZ_present [.ref 0, .int (xl_g xs (nI (6 * i)) 1), .int (xl_g xs (nI (6 * i)) 2), .ref 63] M' = (some (.int kv), M1) := by
    simp only [gZ_present]
    cases ftA_present [.ref 0, .int (xl_g xs (nI (6 * i)) 1), .int (xl_g xs (nI (6 * i)) 2)] M' with
    | none => exact ⟨_, _, rfl⟩
    | some E => exact ⟨_, _, rfl⟩
  have hF := xl_zv (ft := ftA_present [.ref 0, .int (xl_g xs (nI (6 * i)) 1), .int (xl_g xs (nI (6 * i)) 2)] M') (es := ["java/lang/IllegalArgumentException", "java/lang/IndexOutOfBoundsException"]) (M := M') (M1 := M1) (Ma := (fA_present [.ref 0, .int (xl_g xs (nI (6 * i)) 1), .int (xl_g xs (nI (6 * i)) 2)] M').2) (ra := (fA_present [.ref 0, .int (xl_g xs (nI (6 * i)) 1), .int (xl_g xs (nI (6 * i)) 2)] M').1) (kv := kv) (pre := pM_present) (fn := fM_present) (as1 := [.ref 0, .int (xl_g xs (nI (6 * i)) 1), .int (xl_g xs (nI (6 * i)) 2)]) hg.symm (fun h => ⟨_, _, rfl, z_J h⟩) hR (fun h => z_present h _ _)
  rw [hg] at hR1 ⊢
  rw [e1, e2]
  have J2 := xl_snd (e := e) (below := below) C (K := xl_K (nI (6 * i)) cl') (fun pc ls st M2 cl2 hk => by obtain ⟨rfl, rfl, rfl, h1, h2⟩ := hk; exact ih M2 cl2 h1 h2) (xl_b_present xs M1 cl' kv hL hi hF)
  exact J2 H1 locs1 lsC hR1 hls
theorem xe_Z_held : Cond.codeWith xy_Z_held xb_Z_held 5 (some .int) xh_Z_held ∈ xt_T := xt_in 685 (by decide +kernel) rfl
set_option maxRecDepth 20000 in
theorem xl_c_held (C : xl_C p l s m meth c b L xs dC dI dA ad) {i cl : Nat} {M : xm_M} (hL : L ≤ 3072) (hi : 6 * i + 6 ≤ L) (hR : zR M (xl_md M)) (hcl : cl ≤ 1040) (ih : xl_ih p l e s m below meth c b dC dI dA ad i cl) : xl_J p l e s m below meth c b dC dI dA ad 1107 (xl_LS (nI (6 * i))) [] M cl := by
  obtain ⟨S, ⟨hr, hlocks⟩, hK, hN, ⟨hSr, hZ, hNc⟩, ⟨hj, hA0⟩, hscr, hl⟩ := id C
  obtain ⟨hroom, e1, e2⟩ := xl_rom hcl
  refine xl_snd C (fun pc ls st M' cl' hk => ?_) (xl_a_held xs M cl hL hi)
  obtain ⟨rfl, rfl, rfl, rfl, rfl⟩ := hk
  intro H locs lsC hRl hls
  refine xl_hp (own := "AbsenceRowsLaw") (as := [.ref 0, .int (xl_g xs (nI (6 * i)) 1), .int (xl_g xs (nI (6 * i)) 2), .ref 63]) (rest := []) (np := 4) (idx := 151) S hN hK hj hA0 hSr hZ hNc (cZ_held l hl) xe_Z_held xz3_36 ⟨by decide, by decide, by decide +kernel⟩ xz3_683 xz3_684 ⟨Nat.le_of_ble_eq_true rfl, Nat.le_of_ble_eq_true rfl⟩ ⟨_, _, rfl, _, _, rfl, z_I hR⟩ rfl (by decide +kernel) (Nat.le_of_ble_eq_true rfl) hRl hls.1 hroom (fun H1 locs1 hR1 => ?_)
  obtain ⟨kv, M1, hg⟩ : ∃ (kv : Int32) (M1 : xm_M), gZ_held [.ref 0, .int (xl_g xs (nI (6 * i)) 1), .int (xl_g xs (nI (6 * i)) 2), .ref 63] M' = (some (.int kv), M1) := by
    simp only [gZ_held]
    cases ftA_held [.ref 0, .int (xl_g xs (nI (6 * i)) 1), .int (xl_g xs (nI (6 * i)) 2)] M' with
    | none => exact ⟨_, _, rfl⟩
    | some E => exact ⟨_, _, rfl⟩
  have hF := xl_zv (ft := ftA_held [.ref 0, .int (xl_g xs (nI (6 * i)) 1), .int (xl_g xs (nI (6 * i)) 2)] M') (es := ["java/lang/IllegalArgumentException"]) (M := M') (M1 := M1) (Ma := (fA_held [.ref 0, .int (xl_g xs (nI (6 * i)) 1), .int (xl_g xs (nI (6 * i)) 2)] M').2) (ra := (fA_held [.ref 0, .int (xl_g xs (nI (6 * i)) 1), .int (xl_g xs (nI (6 * i)) 2)] M').1) (kv := kv) (pre := pM_held) (fn := fM_held) (as1 := [.ref 0, .int (xl_g xs (nI (6 * i)) 1), .int (xl_g xs (nI (6 * i)) 2)]) hg.symm (fun h => ⟨_, _, rfl, z_J h⟩) hR (fun h => z_held h _ _)
  rw [hg] at hR1 ⊢
  rw [e1, e2]
  have J2 := xl_snd (e := e) (below := below) C (K := xl_K (nI (6 * i)) cl') (fun pc ls st M2 cl2 hk => by obtain ⟨rfl, rfl, rfl, h1, h2⟩ := hk; exact ih M2 cl2 h1 h2) (xl_b_held xs M1 cl' kv hL hi hF)
  exact J2 H1 locs1 lsC hR1 hls
theorem xe_Z_bar : Cond.codeWith xy_Z_bar xb_Z_bar 5 (some .int) xh_Z_bar ∈ xt_T := xt_in 698 (by decide +kernel) rfl
set_option maxRecDepth 20000 in
theorem xl_c_bar (C : xl_C p l s m meth c b L xs dC dI dA ad) {i cl : Nat} {M : xm_M} (hL : L ≤ 3072) (hi : 6 * i + 6 ≤ L) (hR : zR M (xl_md M)) (hcl : cl ≤ 1040) (ih : xl_ih p l e s m below meth c b dC dI dA ad i cl) : xl_J p l e s m below meth c b dC dI dA ad 1175 (xl_LS (nI (6 * i))) [] M cl := by
  obtain ⟨S, ⟨hr, hlocks⟩, hK, hN, ⟨hSr, hZ, hNc⟩, ⟨hj, hA0⟩, hscr, hl⟩ := id C
  obtain ⟨hroom, e1, e2⟩ := xl_rom hcl
  refine xl_snd C (fun pc ls st M' cl' hk => ?_) (xl_a_bar xs M cl hL hi)
  obtain ⟨rfl, rfl, rfl, rfl, rfl⟩ := hk
  intro H locs lsC hRl hls
  refine xl_hp (own := "AbsenceRowsLaw") (as := [.ref 0, .int (xl_g xs (nI (6 * i)) 1), .int (xl_g xs (nI (6 * i)) 2), .int (xl_g xs (nI (6 * i)) 3)]) (rest := []) (np := 4) (idx := 154) S hN hK hj hA0 hSr hZ hNc (cZ_bar l hl) xe_Z_bar xz3_36 ⟨by decide, by decide, by decide +kernel⟩ xz3_696 xz3_697 ⟨Nat.le_of_ble_eq_true rfl, Nat.le_of_ble_eq_true rfl⟩ ⟨_, _, _, rfl, _, _, _, rfl, z_I hR⟩ rfl (by decide +kernel) (Nat.le_of_ble_eq_true rfl) hRl hls.1 hroom (fun H1 locs1 hR1 => ?_)
  obtain ⟨kv, M1, hg⟩ : ∃ (kv : Int32) (M1 : xm_M), gZ_bar [.ref 0, .int (xl_g xs (nI (6 * i)) 1), .int (xl_g xs (nI (6 * i)) 2), .int (xl_g xs (nI (6 * i)) 3)] M' = (some (.int kv), M1) := by
    simp only [gZ_bar]
    cases ftA_bar [.ref 0, .int (xl_g xs (nI (6 * i)) 1), .int (xl_g xs (nI (6 * i)) 2), .int (xl_g xs (nI (6 * i)) 3)] M' with
    | none => exact ⟨_, _, rfl⟩
    | some E => exact ⟨_, _, rfl⟩
  have hF := xl_zn (ft := ftA_bar [.ref 0, .int (xl_g xs (nI (6 * i)) 1), .int (xl_g xs (nI (6 * i)) 2), .int (xl_g xs (nI (6 * i)) 3)] M') (es := ["java/lang/IllegalArgumentException", "java/lang/IndexOutOfBoundsException"]) (M := M') (M1 := M1) (Ma := (fA_bar [.ref 0, .int (xl_g xs (nI (6 * i)) 1), .int (xl_g xs (nI (6 * i)) 2), .int (xl_g xs (nI (6 * i)) 3)] M').2) (ra := (fA_bar [.ref 0, .int (xl_g xs (nI (6 * i)) 1), .int (xl_g xs (nI (6 * i)) 2), .int (xl_g xs (nI (6 * i)) 3)] M').1) (kv := kv) (pre := pM_bar) (fn := fM_bar) (as1 := [.ref 0, .int (xl_g xs (nI (6 * i)) 1), .int (xl_g xs (nI (6 * i)) 2), .int (xl_g xs (nI (6 * i)) 3)]) hg.symm (fun h => ⟨_, _, _, rfl, z_J h⟩) hR (fun h => z_bar h _ _ _)
  rw [hg] at hR1 ⊢
  rw [e1, e2]
  have J2 := xl_snd (e := e) (below := below) C (K := xl_K (nI (6 * i)) cl') (fun pc ls st M2 cl2 hk => by obtain ⟨rfl, rfl, rfl, h1, h2⟩ := hk; exact ih M2 cl2 h1 h2) (xl_b_bar xs M1 cl' kv hL hi hF)
  exact J2 H1 locs1 lsC hR1 hls
theorem xe_Z_patience : Cond.codeWith xy_Z_patience xb_Z_patience 3 (some .int) xh_Z_patience ∈ xt_T := xt_in 706 (by decide +kernel) rfl
set_option maxRecDepth 20000 in
theorem xl_c_patience (C : xl_C p l s m meth c b L xs dC dI dA ad) {i cl : Nat} {M : xm_M} (hL : L ≤ 3072) (hi : 6 * i + 6 ≤ L) (hR : zR M (xl_md M)) (hcl : cl ≤ 1040) (ih : xl_ih p l e s m below meth c b dC dI dA ad i cl) : xl_J p l e s m below meth c b dC dI dA ad 1235 (xl_LS (nI (6 * i))) [] M cl := by
  obtain ⟨S, ⟨hr, hlocks⟩, hK, hN, ⟨hSr, hZ, hNc⟩, ⟨hj, hA0⟩, hscr, hl⟩ := id C
  obtain ⟨hroom, e1, e2⟩ := xl_rom hcl
  refine xl_snd C (fun pc ls st M' cl' hk => ?_) (xl_a_patience xs M cl hL hi)
  obtain ⟨rfl, rfl, rfl, rfl, rfl⟩ := hk
  intro H locs lsC hRl hls
  refine xl_hp (own := "AbsenceRowsLaw") (as := [.ref 0, .int (xl_g xs (nI (6 * i)) 1)]) (rest := []) (np := 2) (idx := 157) S hN hK hj hA0 hSr hZ hNc (cZ_patience l hl) xe_Z_patience xz3_36 ⟨by decide, by decide, by decide +kernel⟩ xz3_704 xz3_705 ⟨Nat.le_of_ble_eq_true rfl, Nat.le_of_ble_eq_true rfl⟩ ⟨_, rfl, _, rfl, z_I hR⟩ rfl (by decide +kernel) (Nat.le_of_ble_eq_true rfl) hRl hls.1 hroom (fun H1 locs1 hR1 => ?_)
  obtain ⟨kv, M1, hg⟩ : ∃ (kv : Int32) (M1 : xm_M), gZ_patience [.ref 0, .int (xl_g xs (nI (6 * i)) 1)] M' = (some (.int kv), M1) := by
    simp only [gZ_patience]
    cases ftA_patience [.ref 0, .int (xl_g xs (nI (6 * i)) 1)] M' with
    | none => exact ⟨_, _, rfl⟩
    | some E => exact ⟨_, _, rfl⟩
  have hF := xl_zn (ft := ftA_patience [.ref 0, .int (xl_g xs (nI (6 * i)) 1)] M') (es := ["java/lang/IndexOutOfBoundsException"]) (M := M') (M1 := M1) (Ma := (fA_patience [.ref 0, .int (xl_g xs (nI (6 * i)) 1)] M').2) (ra := (fA_patience [.ref 0, .int (xl_g xs (nI (6 * i)) 1)] M').1) (kv := kv) (pre := pM_patience) (fn := fM_patience) (as1 := [.ref 0, .int (xl_g xs (nI (6 * i)) 1)]) hg.symm (fun h => ⟨_, rfl, z_J h⟩) hR (fun h => z_patience h _)
  rw [hg] at hR1 ⊢
  rw [e1, e2]
  have J2 := xl_snd (e := e) (below := below) C (K := xl_K (nI (6 * i)) cl') (fun pc ls st M2 cl2 hk => by obtain ⟨rfl, rfl, rfl, h1, h2⟩ := hk; exact ih M2 cl2 h1 h2) (xl_b_patience xs M1 cl' kv hL hi hF)
  exact J2 H1 locs1 lsC hR1 hls
theorem xe_Z_call : Cond.codeWith xy_Z_call xb_Z_call 5 (some .int) xh_Z_call ∈ xt_T := xt_in 714 (by decide +kernel) rfl
set_option maxRecDepth 20000 in
theorem xl_c_call (C : xl_C p l s m meth c b L xs dC dI dA ad) {i cl : Nat} {M : xm_M} (hL : L ≤ 3072) (hi : 6 * i + 6 ≤ L) (hR : zR M (xl_md M)) (hcl : cl ≤ 1040) (ih : xl_ih p l e s m below meth c b dC dI dA ad i cl) : xl_J p l e s m below meth c b dC dI dA ad 1271 (xl_LS (nI (6 * i))) [] M cl := by
  obtain ⟨S, ⟨hr, hlocks⟩, hK, hN, ⟨hSr, hZ, hNc⟩, ⟨hj, hA0⟩, hscr, hl⟩ := id C
  obtain ⟨hroom, e1, e2⟩ := xl_rom hcl
  refine xl_snd C (fun pc ls st M' cl' hk => ?_) (xl_a_call xs M cl hL hi)
  obtain ⟨rfl, rfl, rfl, rfl, rfl⟩ := hk
  intro H locs lsC hRl hls
  refine xl_hp (own := "AbsenceRowsLaw") (as := [.ref 0, .int (xl_g xs (nI (6 * i)) 1), .int (xl_g xs (nI (6 * i)) 2), .ref 63]) (rest := []) (np := 4) (idx := 160) S hN hK hj hA0 hSr hZ hNc (cZ_call l hl) xe_Z_call xz3_36 ⟨by decide, by decide, by decide +kernel⟩ xz3_712 xz3_713 ⟨Nat.le_of_ble_eq_true rfl, Nat.le_of_ble_eq_true rfl⟩ ⟨_, _, rfl, _, _, rfl, z_I hR⟩ rfl (by decide +kernel) (Nat.le_of_ble_eq_true rfl) hRl hls.1 hroom (fun H1 locs1 hR1 => ?_)
  obtain ⟨kv, M1, hg⟩ : ∃ (kv : Int32) (M1 : xm_M), gZ_call [.ref 0, .int (xl_g xs (nI (6 * i)) 1), .int (xl_g xs (nI (6 * i)) 2), .ref 63] M' = (some (.int kv), M1) := by
    simp only [gZ_call]
    cases ftA_call [.ref 0, .int (xl_g xs (nI (6 * i)) 1), .int (xl_g xs (nI (6 * i)) 2)] M' with
    | none => exact ⟨_, _, rfl⟩
    | some E => exact ⟨_, _, rfl⟩
  have hF := xl_zv (ft := ftA_call [.ref 0, .int (xl_g xs (nI (6 * i)) 1), .int (xl_g xs (nI (6 * i)) 2)] M') (es := ["java/lang/IllegalArgumentException", "java/lang/IndexOutOfBoundsException", "java/lang/UnsupportedOperationException"]) (M := M') (M1 := M1) (Ma := (fA_call [.ref 0, .int (xl_g xs (nI (6 * i)) 1), .int (xl_g xs (nI (6 * i)) 2)] M').2) (ra := (fA_call [.ref 0, .int (xl_g xs (nI (6 * i)) 1), .int (xl_g xs (nI (6 * i)) 2)] M').1) (kv := kv) (pre := pM_call) (fn := fM_call) (as1 := [.ref 0, .int (xl_g xs (nI (6 * i)) 1), .int (xl_g xs (nI (6 * i)) 2)]) hg.symm (fun h => ⟨_, _, rfl, z_J h⟩) hR (fun h => z_call h _ _)
  rw [hg] at hR1 ⊢
  rw [e1, e2]
  have J2 := xl_snd (e := e) (below := below) C (K := xl_K (nI (6 * i)) cl') (fun pc ls st M2 cl2 hk => by obtain ⟨rfl, rfl, rfl, h1, h2⟩ := hk; exact ih M2 cl2 h1 h2) (xl_b_call xs M1 cl' kv hL hi hF)
  exact J2 H1 locs1 lsC hR1 hls
theorem xe_Z_answer : Cond.codeWith xy_Z_answer xb_Z_answer 5 (some .int) xh_Z_answer ∈ xt_T := xt_in 755 (by decide +kernel) rfl
set_option maxRecDepth 20000 in
theorem xl_c_answer (C : xl_C p l s m meth c b L xs dC dI dA ad) {i cl : Nat} {M : xm_M} (hL : L ≤ 3072) (hi : 6 * i + 6 ≤ L) (hR : zR M (xl_md M)) (hcl : cl ≤ 1040) (ih : xl_ih p l e s m below meth c b dC dI dA ad i cl) : xl_J p l e s m below meth c b dC dI dA ad 1339 (xl_LS (nI (6 * i))) [] M cl := by
  obtain ⟨S, ⟨hr, hlocks⟩, hK, hN, ⟨hSr, hZ, hNc⟩, ⟨hj, hA0⟩, hscr, hl⟩ := id C
  obtain ⟨hroom, e1, e2⟩ := xl_rom hcl
  refine xl_snd C (fun pc ls st M' cl' hk => ?_) (xl_a_answer xs M cl hL hi)
  obtain ⟨rfl, rfl, rfl, rfl, rfl⟩ := hk
  intro H locs lsC hRl hls
  refine xl_hp (own := "AbsenceRowsLaw") (as := [.ref 0, .int (xl_g xs (nI (6 * i)) 1), .int (xl_bo (xl_g xs (nI (6 * i)) 2)), .ref 63]) (rest := []) (np := 4) (idx := 163) S hN hK hj hA0 hSr hZ hNc (cZ_answer l hl) xe_Z_answer xz3_36 ⟨by decide, by decide, by decide +kernel⟩ xz3_753 xz3_754 ⟨Nat.le_of_ble_eq_true rfl, Nat.le_of_ble_eq_true rfl⟩ ⟨_, _, rfl, _, _, rfl, z_I hR⟩ rfl (by decide +kernel) (Nat.le_of_ble_eq_true rfl) hRl hls.1 hroom (fun H1 locs1 hR1 => ?_)
  obtain ⟨kv, M1, hg⟩ : ∃ (kv : Int32) (M1 : xm_M), gZ_answer [.ref 0, .int (xl_g xs (nI (6 * i)) 1), .int (xl_bo (xl_g xs (nI (6 * i)) 2)), .ref 63] M' = (some (.int kv), M1) := by
    simp only [gZ_answer]
    cases ftA_answer [.ref 0, .int (xl_g xs (nI (6 * i)) 1), .int (xl_bo (xl_g xs (nI (6 * i)) 2))] M' with
    | none => exact ⟨_, _, rfl⟩
    | some E => exact ⟨_, _, rfl⟩
  have hF := xl_zv (ft := ftA_answer [.ref 0, .int (xl_g xs (nI (6 * i)) 1), .int (xl_bo (xl_g xs (nI (6 * i)) 2))] M') (es := ["java/lang/IllegalArgumentException", "java/lang/IllegalStateException"]) (M := M') (M1 := M1) (Ma := (fA_answer [.ref 0, .int (xl_g xs (nI (6 * i)) 1), .int (xl_bo (xl_g xs (nI (6 * i)) 2))] M').2) (ra := (fA_answer [.ref 0, .int (xl_g xs (nI (6 * i)) 1), .int (xl_bo (xl_g xs (nI (6 * i)) 2))] M').1) (kv := kv) (pre := pM_answer) (fn := fM_answer) (as1 := [.ref 0, .int (xl_g xs (nI (6 * i)) 1), .int (xl_bo (xl_g xs (nI (6 * i)) 2))]) hg.symm (fun h => ⟨_, _, rfl, z_J h⟩) hR (fun h => z_answer h _ _)
  rw [hg] at hR1 ⊢
  rw [e1, e2]
  have J2 := xl_snd (e := e) (below := below) C (K := xl_K (nI (6 * i)) cl') (fun pc ls st M2 cl2 hk => by obtain ⟨rfl, rfl, rfl, h1, h2⟩ := hk; exact ih M2 cl2 h1 h2) (xl_b_answer xs M1 cl' kv hL hi hF)
  exact J2 H1 locs1 lsC hR1 hls
theorem xe_Z_callAt : Cond.codeWith xy_Z_callAt xb_Z_callAt 5 (some .int) xh_Z_callAt ∈ xt_T := xt_in 773 (by decide +kernel) rfl
set_option maxRecDepth 20000 in
theorem xl_c_callAt (C : xl_C p l s m meth c b L xs dC dI dA ad) {i cl : Nat} {M : xm_M} (hL : L ≤ 3072) (hi : 6 * i + 6 ≤ L) (hR : zR M (xl_md M)) (hcl : cl ≤ 1040) (ih : xl_ih p l e s m below meth c b dC dI dA ad i cl) : xl_J p l e s m below meth c b dC dI dA ad 1423 (xl_LS (nI (6 * i))) [] M cl := by
  obtain ⟨S, ⟨hr, hlocks⟩, hK, hN, ⟨hSr, hZ, hNc⟩, ⟨hj, hA0⟩, hscr, hl⟩ := id C
  obtain ⟨hroom, e1, e2⟩ := xl_rom hcl
  refine xl_snd C (fun pc ls st M' cl' hk => ?_) (xl_a_callAt xs M cl hL hi)
  obtain ⟨rfl, rfl, rfl, rfl, rfl⟩ := hk
  intro H locs lsC hRl hls
  refine xl_hp (own := "AbsenceRowsLaw") (as := [.ref 0, .int (xl_g xs (nI (6 * i)) 1), .int (xl_g xs (nI (6 * i)) 2), .ref 63]) (rest := []) (np := 4) (idx := 167) S hN hK hj hA0 hSr hZ hNc (cZ_callAt l hl) xe_Z_callAt xz3_36 ⟨by decide, by decide, by decide +kernel⟩ xz3_771 xz3_772 ⟨Nat.le_of_ble_eq_true rfl, Nat.le_of_ble_eq_true rfl⟩ ⟨_, _, rfl, _, _, rfl, z_I hR⟩ rfl (by decide +kernel) (Nat.le_of_ble_eq_true rfl) hRl hls.1 hroom (fun H1 locs1 hR1 => ?_)
  obtain ⟨kv, M1, hg⟩ : ∃ (kv : Int32) (M1 : xm_M), gZ_callAt [.ref 0, .int (xl_g xs (nI (6 * i)) 1), .int (xl_g xs (nI (6 * i)) 2), .ref 63] M' = (some (.int kv), M1) := by
    simp only [gZ_callAt]
    cases ftA_callAt [.ref 0, .int (xl_g xs (nI (6 * i)) 1), .int (xl_g xs (nI (6 * i)) 2)] M' with
    | none => exact ⟨_, _, rfl⟩
    | some E => exact ⟨_, _, rfl⟩
  have hF := xl_zv (ft := ftA_callAt [.ref 0, .int (xl_g xs (nI (6 * i)) 1), .int (xl_g xs (nI (6 * i)) 2)] M') (es := ["java/lang/IllegalArgumentException"]) (M := M') (M1 := M1) (Ma := (fA_callAt [.ref 0, .int (xl_g xs (nI (6 * i)) 1), .int (xl_g xs (nI (6 * i)) 2)] M').2) (ra := (fA_callAt [.ref 0, .int (xl_g xs (nI (6 * i)) 1), .int (xl_g xs (nI (6 * i)) 2)] M').1) (kv := kv) (pre := pM_callAt) (fn := fM_callAt) (as1 := [.ref 0, .int (xl_g xs (nI (6 * i)) 1), .int (xl_g xs (nI (6 * i)) 2)]) hg.symm (fun h => ⟨_, _, rfl, z_J h⟩) hR (fun h => z_callAt h _ _)
  rw [hg] at hR1 ⊢
  rw [e1, e2]
  have J2 := xl_snd (e := e) (below := below) C (K := xl_K (nI (6 * i)) cl') (fun pc ls st M2 cl2 hk => by obtain ⟨rfl, rfl, rfl, h1, h2⟩ := hk; exact ih M2 cl2 h1 h2) (xl_b_callAt xs M1 cl' kv hL hi hF)
  exact J2 H1 locs1 lsC hR1 hls
theorem xe_Z_asked : Cond.codeWith xy_Z_asked xb_Z_asked 4 (some .int) xh_Z_asked ∈ xt_T := xt_in 780 (by decide +kernel) rfl
set_option maxRecDepth 20000 in
theorem xl_c_asked (C : xl_C p l s m meth c b L xs dC dI dA ad) {i cl : Nat} {M : xm_M} (hL : L ≤ 3072) (hi : 6 * i + 6 ≤ L) (hR : zR M (xl_md M)) (hcl : cl ≤ 1040) (ih : xl_ih p l e s m below meth c b dC dI dA ad i cl) : xl_J p l e s m below meth c b dC dI dA ad 1491 (xl_LS (nI (6 * i))) [] M cl := by
  obtain ⟨S, ⟨hr, hlocks⟩, hK, hN, ⟨hSr, hZ, hNc⟩, ⟨hj, hA0⟩, hscr, hl⟩ := id C
  obtain ⟨hroom, e1, e2⟩ := xl_rom hcl
  refine xl_snd C (fun pc ls st M' cl' hk => ?_) (xl_a_asked xs M cl hL hi)
  obtain ⟨rfl, rfl, rfl, rfl, rfl⟩ := hk
  intro H locs lsC hRl hls
  refine xl_hp (own := "AbsenceRowsLaw") (as := [.ref 0, .int (xl_g xs (nI (6 * i)) 1), .ref 63]) (rest := []) (np := 3) (idx := 170) S hN hK hj hA0 hSr hZ hNc (cZ_asked l hl) xe_Z_asked xz3_36 ⟨by decide, by decide, by decide +kernel⟩ xz3_778 xz3_779 ⟨Nat.le_of_ble_eq_true rfl, Nat.le_of_ble_eq_true rfl⟩ ⟨_, rfl, _, rfl, z_I hR⟩ rfl (by decide +kernel) (Nat.le_of_ble_eq_true rfl) hRl hls.1 hroom (fun H1 locs1 hR1 => ?_)
  obtain ⟨kv, M1, hg⟩ : ∃ (kv : Int32) (M1 : xm_M), gZ_asked [.ref 0, .int (xl_g xs (nI (6 * i)) 1), .ref 63] M' = (some (.int kv), M1) := by
    simp only [gZ_asked]
    cases ftA_asked [.ref 0, .int (xl_g xs (nI (6 * i)) 1)] M' with
    | none => exact ⟨_, _, rfl⟩
    | some E => exact ⟨_, _, rfl⟩
  have hF := xl_zv (ft := ftA_asked [.ref 0, .int (xl_g xs (nI (6 * i)) 1)] M') (es := ["java/lang/IllegalArgumentException"]) (M := M') (M1 := M1) (Ma := (fA_asked [.ref 0, .int (xl_g xs (nI (6 * i)) 1)] M').2) (ra := (fA_asked [.ref 0, .int (xl_g xs (nI (6 * i)) 1)] M').1) (kv := kv) (pre := pM_asked) (fn := fM_asked) (as1 := [.ref 0, .int (xl_g xs (nI (6 * i)) 1)]) hg.symm (fun h => ⟨_, rfl, z_J h⟩) hR (fun h => z_asked h _)
  rw [hg] at hR1 ⊢
  rw [e1, e2]
  have J2 := xl_snd (e := e) (below := below) C (K := xl_K (nI (6 * i)) cl') (fun pc ls st M2 cl2 hk => by obtain ⟨rfl, rfl, rfl, h1, h2⟩ := hk; exact ih M2 cl2 h1 h2) (xl_b_asked xs M1 cl' kv hL hi hF)
  exact J2 H1 locs1 lsC hR1 hls
theorem xe_Z_tick : Cond.codeWith xy_Z_tick xb_Z_tick 4 (some .int) xh_Z_tick ∈ xt_T := xt_in 787 (by decide +kernel) rfl
set_option maxRecDepth 20000 in
theorem xl_c_tick (C : xl_C p l s m meth c b L xs dC dI dA ad) {i cl : Nat} {M : xm_M} (hL : L ≤ 3072) (hi : 6 * i + 6 ≤ L) (hR : zR M (xl_md M)) (hcl : cl ≤ 1040) (ih : xl_ih p l e s m below meth c b dC dI dA ad i cl) : xl_J p l e s m below meth c b dC dI dA ad 1547 (xl_LS (nI (6 * i))) [] M cl := by
  obtain ⟨S, ⟨hr, hlocks⟩, hK, hN, ⟨hSr, hZ, hNc⟩, ⟨hj, hA0⟩, hscr, hl⟩ := id C
  obtain ⟨hroom, e1, e2⟩ := xl_rom hcl
  refine xl_snd C (fun pc ls st M' cl' hk => ?_) (xl_a_tick xs M cl hL hi)
  obtain ⟨rfl, rfl, rfl, rfl, rfl⟩ := hk
  intro H locs lsC hRl hls
  refine xl_hp (own := "AbsenceRowsLaw") (as := [.ref 0, .int (xl_g xs (nI (6 * i)) 1), .ref 63]) (rest := []) (np := 3) (idx := 173) S hN hK hj hA0 hSr hZ hNc (cZ_tick l hl) xe_Z_tick xz3_36 ⟨by decide, by decide, by decide +kernel⟩ xz3_785 xz3_786 ⟨Nat.le_of_ble_eq_true rfl, Nat.le_of_ble_eq_true rfl⟩ ⟨_, rfl, _, rfl, z_I hR⟩ rfl (by decide +kernel) (Nat.le_of_ble_eq_true rfl) hRl hls.1 hroom (fun H1 locs1 hR1 => ?_)
  obtain ⟨kv, M1, hg⟩ : ∃ (kv : Int32) (M1 : xm_M), gZ_tick [.ref 0, .int (xl_g xs (nI (6 * i)) 1), .ref 63] M' = (some (.int kv), M1) := by
    simp only [gZ_tick]
    cases ftA_tick [.ref 0, .int (xl_g xs (nI (6 * i)) 1)] M' with
    | none => exact ⟨_, _, rfl⟩
    | some E => exact ⟨_, _, rfl⟩
  have hF := xl_zv (ft := ftA_tick [.ref 0, .int (xl_g xs (nI (6 * i)) 1)] M') (es := ["java/lang/IndexOutOfBoundsException"]) (M := M') (M1 := M1) (Ma := (fA_tick [.ref 0, .int (xl_g xs (nI (6 * i)) 1)] M').2) (ra := (fA_tick [.ref 0, .int (xl_g xs (nI (6 * i)) 1)] M').1) (kv := kv) (pre := pM_tick) (fn := fM_tick) (as1 := [.ref 0, .int (xl_g xs (nI (6 * i)) 1)]) hg.symm (fun h => ⟨_, rfl, z_J h⟩) hR (fun h => z_tick h _)
  rw [hg] at hR1 ⊢
  rw [e1, e2]
  have J2 := xl_snd (e := e) (below := below) C (K := xl_K (nI (6 * i)) cl') (fun pc ls st M2 cl2 hk => by obtain ⟨rfl, rfl, rfl, h1, h2⟩ := hk; exact ih M2 cl2 h1 h2) (xl_b_tick xs M1 cl' kv hL hi hF)
  exact J2 H1 locs1 lsC hR1 hls
theorem xl_six (i : Nat) : nI (6 * i) + Int32.ofInt 6 = nI (6 * (i + 1)) := by
  have e : nI (6 * i) + Int32.ofInt 6 = nI (6 * i + 6) := by rw [← nI_add]; rfl
  rw [e]; congr 1
theorem xl_head (C : xl_C p l s m meth c b L xs dC dI dA ad) (hL : L ≤ 3072) : ∀ (d i cl : Nat) (M : xm_M), L ≤ 6 * i + d → 6 * i ≤ L → zR M (xl_md M) → cl ≤ 1 + 2 * i → xl_J p l e s m below meth c b dC dI dA ad 23 (xl_LS (nI (6 * i))) [] M cl
  | 0, i, cl, M, hd, hi, hR, hcl => by
    refine xl_snd C (fun pc ls st M' cl' hk => ?_) (xl_s0 xs M cl hL hi)
    obtain ⟨h1, -⟩ := hk
    omega
  | d + 1, i, cl, M, hd, hi, hR, hcl => by
    refine xl_snd C (fun pc ls st M' cl' hk => ?_) (xl_s0 xs M cl hL hi)
    obtain ⟨h1, rfl, rfl, rfl, hk⟩ := hk
    have ih : xl_ih p l e s m below meth c b dC dI dA ad i cl' := by
      intro M2 cl2 h2 h3
      rw [xl_six]
      exact xl_head C hL d (i + 1) cl2 M2 (by omega) (by omega) h2 (by omega)
    have hcl' : cl' ≤ 1040 := by omega
    rcases hk with ⟨rfl, rfl⟩ | ⟨hm, rfl⟩
    · exact ih M' cl' hR (by omega)
    · rcases List.mem_cons.mp hm with rfl | hm
      · exact xl_c_person C hL h1 hR hcl' ih
      rcases List.mem_cons.mp hm with rfl | hm
      · exact xl_c_budget C hL h1 hR hcl' ih
      rcases List.mem_cons.mp hm with rfl | hm
      · exact xl_c_carry C hL h1 hR hcl' ih
      rcases List.mem_cons.mp hm with rfl | hm
      · exact xl_c_holiday C hL h1 hR hcl' ih
      rcases List.mem_cons.mp hm with rfl | hm
      · exact xl_c_working C hL h1 hR hcl' ih
      rcases List.mem_cons.mp hm with rfl | hm
      · exact xl_c_crew C hL h1 hR hcl' ih
      rcases List.mem_cons.mp hm with rfl | hm
      · exact xl_c_member C hL h1 hR hcl' ih
      rcases List.mem_cons.mp hm with rfl | hm
      · exact xl_c_ask C hL h1 hR hcl' ih
      rcases List.mem_cons.mp hm with rfl | hm
      · exact xl_c_grant C hL h1 hR hcl' ih
      rcases List.mem_cons.mp hm with rfl | hm
      · exact xl_c_withdraw C hL h1 hR hcl' ih
      rcases List.mem_cons.mp hm with rfl | hm
      · exact xl_c_askAt C hL h1 hR hcl' ih
      rcases List.mem_cons.mp hm with rfl | hm
      · exact xl_c_left C hL h1 hR hcl' ih
      rcases List.mem_cons.mp hm with rfl | hm
      · exact xl_c_absent C hL h1 hR hcl' ih
      rcases List.mem_cons.mp hm with rfl | hm
      · exact xl_c_present C hL h1 hR hcl' ih
      rcases List.mem_cons.mp hm with rfl | hm
      · exact xl_c_held C hL h1 hR hcl' ih
      rcases List.mem_cons.mp hm with rfl | hm
      · exact xl_c_bar C hL h1 hR hcl' ih
      rcases List.mem_cons.mp hm with rfl | hm
      · exact xl_c_patience C hL h1 hR hcl' ih
      rcases List.mem_cons.mp hm with rfl | hm
      · exact xl_c_call C hL h1 hR hcl' ih
      rcases List.mem_cons.mp hm with rfl | hm
      · exact xl_c_answer C hL h1 hR hcl' ih
      rcases List.mem_cons.mp hm with rfl | hm
      · exact xl_c_callAt C hL h1 hR hcl' ih
      rcases List.mem_cons.mp hm with rfl | hm
      · exact xl_c_asked C hL h1 hR hcl' ih
      rcases List.mem_cons.mp hm with rfl | hm
      · exact xl_c_tick C hL h1 hR hcl' ih
      cases hm
end XL4
