/-! THE LAW FROM ITS ENTRY -/
theorem xz4_37 : (Cond.initialized "AbsenceRows") ∈ xt_T := xt_in 37 (by decide +kernel) rfl
theorem xz4_44 : (Cond.initialized "AbsenceRowsModel") ∈ xt_T := xt_in 44 (by decide +kernel) rfl
theorem xz4_54 : (Cond.classLink "AbsenceRowsLaw" 8 "AbsenceRows") ∈ xt_T := xt_in 54 (by decide +kernel) rfl
theorem xz4_55 : (Cond.instantiable "AbsenceRows" 9) ∈ xt_T := xt_in 55 (by decide +kernel) rfl
theorem xz4_56 : (Cond.methodLink "AbsenceRowsLaw" 92 ⟨"AbsenceRows", "<init>", "()V"⟩) ∈ xt_T := xt_in 56 (by decide +kernel) rfl
theorem xz4_57 : (Cond.instanceMethod ⟨"AbsenceRows", "<init>", "()V"⟩) ∈ xt_T := xt_in 57 (by decide +kernel) rfl
theorem xz4_63 : (Cond.instantiable "AbsenceRows$Calendar" 1) ∈ xt_T := xt_in 63 (by decide +kernel) rfl
theorem xz4_75 : (Cond.instantiable "AbsenceRows$Persons" 8) ∈ xt_T := xt_in 75 (by decide +kernel) rfl
theorem xz4_113 : (Cond.instantiable "AbsenceRows$Crews" 4) ∈ xt_T := xt_in 113 (by decide +kernel) rfl
theorem xz4_136 : (Cond.instantiable "AbsenceRows$Asks" 8) ∈ xt_T := xt_in 136 (by decide +kernel) rfl
theorem xz4_175 : (Cond.instantiable "AbsenceRows$HeldRows" 4) ∈ xt_T := xt_in 175 (by decide +kernel) rfl
theorem xz4_197 : (Cond.instantiable "AbsenceRows$Calls" 7) ∈ xt_T := xt_in 197 (by decide +kernel) rfl
theorem xz4_800 : (Cond.classLink "AbsenceRowsLaw" 93 "AbsenceRowsModel") ∈ xt_T := xt_in 800 (by decide +kernel) rfl
theorem xz4_801 : (Cond.instantiable "AbsenceRowsModel" 37) ∈ xt_T := xt_in 801 (by decide +kernel) rfl
theorem xz4_802 : (Cond.methodLink "AbsenceRowsLaw" 95 ⟨"AbsenceRowsModel", "<init>", "()V"⟩) ∈ xt_T := xt_in 802 (by decide +kernel) rfl
theorem xz4_803 : (Cond.instanceMethod ⟨"AbsenceRowsModel", "<init>", "()V"⟩) ∈ xt_T := xt_in 803 (by decide +kernel) rfl
theorem xl_nsw : ∀ w ∈ xk_ns, w ∈ lw_tbl := List.forall_mem_cons.mpr ⟨List.mem_of_getElem? (i := 64) (by decide +kernel), List.forall_mem_cons.mpr ⟨List.mem_of_getElem? (i := 76) (by decide +kernel), List.forall_mem_cons.mpr ⟨List.mem_of_getElem? (i := 114) (by decide +kernel), List.forall_mem_cons.mpr ⟨List.mem_of_getElem? (i := 137) (by decide +kernel), List.forall_mem_cons.mpr ⟨List.mem_of_getElem? (i := 176) (by decide +kernel), List.forall_mem_cons.mpr ⟨List.mem_of_getElem? (i := 198) (by decide +kernel), List.forall_mem_cons.mpr ⟨List.mem_of_getElem? (i := 376) (by decide +kernel), List.forall_mem_cons.mpr ⟨List.mem_of_getElem? (i := 425) (by decide +kernel), List.forall_mem_cons.mpr ⟨List.mem_of_getElem? (i := 523) (by decide +kernel), List.forall_mem_cons.mpr ⟨List.mem_of_getElem? (i := 576) (by decide +kernel), List.forall_mem_cons.mpr ⟨List.mem_of_getElem? (i := 613) (by decide +kernel), List.forall_mem_cons.mpr ⟨List.mem_of_getElem? (i := 618) (by decide +kernel), List.forall_mem_cons.mpr ⟨List.mem_of_getElem? (i := 619) (by decide +kernel), List.forall_mem_cons.mpr ⟨List.mem_of_getElem? (i := 624) (by decide +kernel), List.forall_mem_cons.mpr ⟨List.mem_of_getElem? (i := 694) (by decide +kernel), List.forall_mem_cons.mpr ⟨List.mem_of_getElem? (i := 764) (by decide +kernel), List.forall_mem_cons.mpr ⟨List.mem_of_getElem? (i := 276) (by decide +kernel), List.forall_mem_cons.mpr ⟨List.mem_of_getElem? (i := 277) (by decide +kernel), List.forall_mem_cons.mpr ⟨List.mem_of_getElem? (i := 278) (by decide +kernel), List.forall_mem_cons.mpr ⟨List.mem_of_getElem? (i := 279) (by decide +kernel), List.forall_mem_cons.mpr ⟨List.mem_of_getElem? (i := 280) (by decide +kernel), List.forall_mem_cons.mpr ⟨List.mem_of_getElem? (i := 281) (by decide +kernel), List.forall_mem_cons.mpr ⟨List.mem_of_getElem? (i := 282) (by decide +kernel), List.forall_mem_cons.mpr ⟨List.mem_of_getElem? (i := 345) (by decide +kernel), List.forall_mem_cons.mpr ⟨List.mem_of_getElem? (i := 379) (by decide +kernel), List.forall_mem_cons.mpr ⟨List.mem_of_getElem? (i := 452) (by decide +kernel), fun _ h => absurd h List.not_mem_nil⟩⟩⟩⟩⟩⟩⟩⟩⟩⟩⟩⟩⟩⟩⟩⟩⟩⟩⟩⟩⟩⟩⟩⟩⟩⟩
theorem xl_nso : ∀ w ∈ xk_ns, w.onTables = true := by decide +kernel
theorem xl_ssw : ∀ q ∈ xh_ss, Cond.stringRef "AbsenceRows" q.1 q.2 ∈ lw_tbl := List.forall_mem_cons.mpr ⟨List.mem_of_getElem? (i := 316) (by decide +kernel), List.forall_mem_cons.mpr ⟨List.mem_of_getElem? (i := 352) (by decide +kernel), List.forall_mem_cons.mpr ⟨List.mem_of_getElem? (i := 386) (by decide +kernel), List.forall_mem_cons.mpr ⟨List.mem_of_getElem? (i := 393) (by decide +kernel), List.forall_mem_cons.mpr ⟨List.mem_of_getElem? (i := 459) (by decide +kernel), List.forall_mem_cons.mpr ⟨List.mem_of_getElem? (i := 473) (by decide +kernel), List.forall_mem_cons.mpr ⟨List.mem_of_getElem? (i := 474) (by decide +kernel), List.forall_mem_cons.mpr ⟨List.mem_of_getElem? (i := 482) (by decide +kernel), List.forall_mem_cons.mpr ⟨List.mem_of_getElem? (i := 483) (by decide +kernel), List.forall_mem_cons.mpr ⟨List.mem_of_getElem? (i := 494) (by decide +kernel), List.forall_mem_cons.mpr ⟨List.mem_of_getElem? (i := 506) (by decide +kernel), List.forall_mem_cons.mpr ⟨List.mem_of_getElem? (i := 507) (by decide +kernel), List.forall_mem_cons.mpr ⟨List.mem_of_getElem? (i := 524) (by decide +kernel), List.forall_mem_cons.mpr ⟨List.mem_of_getElem? (i := 531) (by decide +kernel), List.forall_mem_cons.mpr ⟨List.mem_of_getElem? (i := 545) (by decide +kernel), List.forall_mem_cons.mpr ⟨List.mem_of_getElem? (i := 549) (by decide +kernel), List.forall_mem_cons.mpr ⟨List.mem_of_getElem? (i := 554) (by decide +kernel), List.forall_mem_cons.mpr ⟨List.mem_of_getElem? (i := 559) (by decide +kernel), List.forall_mem_cons.mpr ⟨List.mem_of_getElem? (i := 560) (by decide +kernel), List.forall_mem_cons.mpr ⟨List.mem_of_getElem? (i := 577) (by decide +kernel), List.forall_mem_cons.mpr ⟨List.mem_of_getElem? (i := 586) (by decide +kernel), List.forall_mem_cons.mpr ⟨List.mem_of_getElem? (i := 640) (by decide +kernel), List.forall_mem_cons.mpr ⟨List.mem_of_getElem? (i := 641) (by decide +kernel), List.forall_mem_cons.mpr ⟨List.mem_of_getElem? (i := 649) (by decide +kernel), List.forall_mem_cons.mpr ⟨List.mem_of_getElem? (i := 657) (by decide +kernel), List.forall_mem_cons.mpr ⟨List.mem_of_getElem? (i := 682) (by decide +kernel), List.forall_mem_cons.mpr ⟨List.mem_of_getElem? (i := 695) (by decide +kernel), List.forall_mem_cons.mpr ⟨List.mem_of_getElem? (i := 703) (by decide +kernel), List.forall_mem_cons.mpr ⟨List.mem_of_getElem? (i := 711) (by decide +kernel), List.forall_mem_cons.mpr ⟨List.mem_of_getElem? (i := 719) (by decide +kernel), List.forall_mem_cons.mpr ⟨List.mem_of_getElem? (i := 720) (by decide +kernel), List.forall_mem_cons.mpr ⟨List.mem_of_getElem? (i := 765) (by decide +kernel), List.forall_mem_cons.mpr ⟨List.mem_of_getElem? (i := 766) (by decide +kernel), fun _ h => absurd h List.not_mem_nil⟩⟩⟩⟩⟩⟩⟩⟩⟩⟩⟩⟩⟩⟩⟩⟩⟩⟩⟩⟩⟩⟩⟩⟩⟩⟩⟩⟩⟩⟩⟩⟩⟩
theorem xl_psw : ∀ q ∈ xh_ps, Cond.not (.castable q.1 q.2) ∈ flatC (Jvm.Cond.and given_1 narrow_1) := by decide +kernel
theorem xl_arr {s : State} {args : Array Value} {ty : FieldType} (h : (Cond.arrayClass ty).before args s = true) : ∃ cA, ArrOfT s cA ty ∧ s.vm.findClass ("[" ++ ty.toString) = some cA := by
  obtain ⟨c, k, comp, h1, h2, h3⟩ := Cond.arrayClass_spec h
  exact ⟨c, fun n z => ⟨fun k h => (by cases h), k, h2, comp, h3⟩, h1⟩
theorem xl_acc {ad a dA : Nat → Nat} {tr tp : List xm_E} (hc : xn_clo tr.length tr = true) (M N : xm_M) : ∃ ad2 : Nat → Nat, xm_W ad dA tr M ++ xm_W a dA tp N = xm_W ad2 dA (tr ++ tp.map (xm_rl (fun q => q + tr.length))) (fun p => if p < tr.length then M p else N (p - tr.length)) ∧ (∀ k, k < tr.length → ad2 k = ad k) ∧ ∀ k, ad2 (k + tr.length) = a k := by
  refine ⟨fun k => if k < tr.length then ad k else a (k - tr.length), ?_, fun k hk => if_pos hk, fun k => ?_⟩
  · rw [xm_W_cat]
    congr 1
    · exact (xm_W_cong hc (Nat.le_refl _) (fun k hk => if_pos hk) (fun k hk => if_pos hk)).symm
    · have e1 : (fun k => (fun k => if k < tr.length then ad k else a (k - tr.length)) (k + tr.length)) = a := by
        funext k
        show (if k + tr.length < tr.length then ad (k + tr.length) else a (k + tr.length - tr.length)) = a k
        rw [if_neg (by omega), Nat.add_sub_cancel]
      have e2 : (fun k => (fun p => if p < tr.length then M p else N (p - tr.length)) (k + tr.length)) = N := by
        funext k
        show (if k + tr.length < tr.length then M (k + tr.length) else N (k + tr.length - tr.length)) = N k
        rw [if_neg (by omega), Nat.add_sub_cancel]
      rw [e1, e2]
  · show (if k + tr.length < tr.length then ad (k + tr.length) else a (k + tr.length - tr.length)) = a k
    rw [if_neg (by omega), Nat.add_sub_cancel]
theorem xl_tp : (xk_tA ++ xk_tM.map (xm_rl (fun q => q + xk_tA.length))) ++ [Sum.inl (2, 1, true)].map (xm_rl (fun q => q + (xk_tA ++ xk_tM.map (xm_rl (fun q => q + xk_tA.length))).length)) = xk_tC := by decide +kernel
/-- memory at the start -/
def xl_M0 : xm_M := fun p => if p < (xk_tA ++ xk_tM.map (xm_rl (fun q => q + xk_tA.length))).length then (fun p => if p < xk_tA.length then xn_zA p else xn_zM (p - xk_tA.length)) p else xn_z (p - (xk_tA ++ xk_tM.map (xm_rl (fun q => q + xk_tA.length))).length)
theorem xl_l34 : xk_tA.length = 34 := rfl
theorem xl_l63 : (xk_tA ++ xk_tM.map (xm_rl (fun q => q + xk_tA.length))).length = 63 := by decide +kernel
theorem xl_R0 : zR xl_M0 (xl_md xl_M0) := by
  have h0 : zR xn_zA xn_zM := by
    refine z_start (fun p k => ?_) (fun p k => ?_)
    · by_cases h1 : p = 0
      · by_cases h2 : k = 7
        · simp [xn_zA, xm_up, xn_z, h1, h2]
        · simp [xn_zA, xm_up, xn_z, h1, h2]
      · simp [xn_zA, xm_up, xn_z, h1]
    · by_cases h1 : p = 0
      · by_cases h2 : k = 36
        · simp [xn_zM, xm_up, xn_z, h1, h2]
        · simp [xn_zM, xm_up, xn_z, h1, h2]
      · simp [xn_zM, xm_up, xn_z, h1]
  refine zR_cong (fun p hp => ?_) (fun q hq => ?_) h0
  · unfold xl_M0
    rw [xl_l63, xl_l34, if_pos (by omega)]
    show (if p < 34 then xn_zA p else xn_zM (p - 34)) = xn_zA p
    rw [if_pos hp]
  · show xl_M0 (q + 34) = xn_zM q
    unfold xl_M0
    rw [xl_l63, xl_l34, if_pos (by omega)]
    show (if q + 34 < 34 then xn_zA (q + 34) else xn_zM (q + 34 - 34)) = xn_zM q
    rw [if_neg (by omega), Nat.add_sub_cancel]
set_option maxHeartbeats 4000000 in
set_option maxRecDepth 100000 in
theorem whole_start {p : Program} {e : Env} {s : State} {m : MethodId} {below : List Frame} {meth : Method} {c : Code} (l : Launch) (hl : l.stackTraces = false) {b L : Nat} {xs : Nat → Int32} (hL : L ≤ 3072) (C0 : lw_At p s m meth c b L xs) : W p l e room_1 s m #[Value.ref b] below meth c s.heap [] 0 0 (lw_Z below #[Value.ref b] s) (entryFrame m ([Value.ref b] : List Value).toArray 7) := by
  obtain ⟨hx, hb, hr, hml, hown, hts0, hX, hbl, hlocks, hgv⟩ := id C0
  have hts : ∀ w ∈ xt_T, w.before #[Value.ref b] s = true := fun w h => hts0 w (List.mem_filter.mp h).1
  have hfl := flat_of_before _ hgv
  obtain ⟨c0, i0, hk0⟩ := u_known (C := xk_R0) (T := xk_T0) (N := 9) (n := 9) hts xk_w0 (hts _ xz4_55)
  obtain ⟨c1, i1, hk1⟩ := u_known (C := xk_R1) (T := xk_T1) (N := 1) (n := 1) hts xk_w1 (hts _ xz4_63)
  obtain ⟨c2, i2, hk2⟩ := u_known (C := xk_R2) (T := xk_T2) (N := 8) (n := 8) hts xk_w2 (hts _ xz4_75)
  obtain ⟨c3, i3, hk3⟩ := u_known (C := xk_R3) (T := xk_T3) (N := 4) (n := 4) hts xk_w3 (hts _ xz4_113)
  obtain ⟨c4, i4, hk4⟩ := u_known (C := xk_R4) (T := xk_T4) (N := 8) (n := 8) hts xk_w4 (hts _ xz4_136)
  obtain ⟨c5, i5, hk5⟩ := u_known (C := xk_R5) (T := xk_T5) (N := 4) (n := 4) hts xk_w5 (hts _ xz4_175)
  obtain ⟨c6, i6, hk6⟩ := u_known (C := xk_R6) (T := xk_T6) (N := 7) (n := 7) hts xk_w6 (hts _ xz4_197)
  obtain ⟨c7, i7, hk7⟩ := u_known (C := xk_R7) (T := xk_T7) (N := 37) (n := 37) hts xk_w7 (hts _ xz4_801)
  obtain ⟨dC, dI, hKc⟩ : ∃ (dC : Nat → ClassId) (dI : Nat → Nat → Nat), ∀ (k : Nat) (q : vw_C), xk_cl[k]? = some q → u_Kn s q.1 q.2.1 q.2.2 (dC k) (dI k) := by
    refine ⟨fun k => match k with | 0 => c0 | 1 => c1 | 2 => c2 | 3 => c3 | 4 => c4 | 5 => c5 | 6 => c6 | _ => c7, fun k => match k with | 0 => i0 | 1 => i1 | 2 => i2 | 3 => i3 | 4 => i4 | 5 => i5 | 6 => i6 | _ => i7, ?_⟩
    intro k q hq
    match k, hq with
    | 0, hq => cases hq; exact hk0
    | 1, hq => cases hq; exact hk1
    | 2, hq => cases hq; exact hk2
    | 3, hq => cases hq; exact hk3
    | 4, hq => cases hq; exact hk4
    | 5, hq => cases hq; exact hk5
    | 6, hq => cases hq; exact hk6
    | 7, hq => cases hq; exact hk7
    | k + 8, hq => simp [xk_cl] at hq
  obtain ⟨d0, ha0, hf0⟩ := xl_arr (hts _ (xn_arr 0 (by decide)))
  obtain ⟨d1, ha1, hf1⟩ := xl_arr (hts _ (xn_arr 1 (by decide)))
  obtain ⟨d2, ha2, hf2⟩ := xl_arr (hts _ (xn_arr 2 (by decide)))
  obtain ⟨dA, hdA0, hdA1, hdA2⟩ : ∃ dA : Nat → Nat, dA 0 = d0 ∧ dA 1 = d1 ∧ dA 2 = d2 := ⟨fun k => match k with | 0 => d0 | 1 => d1 | _ => d2, rfl, rfl, rfl⟩
  have hK : va_K (dC, dI) xk_cl (xm_tys dA) s := by
    refine ⟨hKc, fun k q hq => ?_⟩
    match k, hq with
    | 0, hq => cases hq; rw [hdA0]; exact ⟨ha0, hf0⟩
    | 1, hq => cases hq; rw [hdA1]; exact ⟨ha1, hf1⟩
    | 2, hq => cases hq; rw [hdA2]; exact ⟨ha2, hf2⟩
    | k + 3, hq => simp [xm_tys] at hq
  have hN : xm_Nw xk_ns s := fun w hw => va_Nw.of (xl_nso w hw) (hts0 w (xl_nsw w hw))
  have hSr : xm_sr "AbsenceRows" xh_ss s := fun q hq => by
    obtain ⟨-, -, -, a, -, -, -, -, -, hev⟩ := Cond.stringRef_spec (hk0.2.1) (hts0 _ (xl_ssw q hq))
    exact ⟨a, vk_R.of (hts0 _ (xl_ssw q hq)) hev⟩
  have hZ : xm_zq (fun q => s.heap.size ≤ q) s s.heap := ⟨vx_Zqof (hts0 _ (List.mem_of_getElem? (i := 301) (by decide +kernel))) (hts0 _ (List.mem_of_getElem? (i := 45) (by decide +kernel))) (hfl _ (by decide +kernel)) (fun a h => Nat.not_le.mpr h), vx_Zqof (hts0 _ (List.mem_of_getElem? (i := 303) (by decide +kernel))) (hts0 _ (List.mem_of_getElem? (i := 45) (by decide +kernel))) (hfl _ (by decide +kernel)) (fun a h => Nat.not_le.mpr h)⟩
  have hNc : xm_nc xh_ps s := fun q hq => va_Nc.of (hfl _ (xl_psw q hq))
  have hA : ∀ q : Nat, s.heap.size ≤ q → (fun q : Nat => s.heap.size ≤ q) q := fun _ h => h
  have hS : va_S (fun q : Nat => s.heap.size ≤ q) s.heap s.heap [] := va_S.rf
  have hP : va_P (dC, dI) xk_cl [] s.heap := fun k q h => by simp at h
  have hD : va_D (fun q : Nat => s.heap.size ≤ q) [] := ⟨fun i j p q h => by simp at h, fun k q h => by simp at h⟩
  have hls := lv_entry ([.ref b]) (n := 7) (Nat.le_of_ble_eq_true rfl)
  rw [lg_entry_eq]
  generalize (lg_sl ([.ref b]) ++ List.replicate (7 - (lg_sl ([.ref b])).length) Slot.unset).toArray = ls at hls ⊢
  have hls : lv_has ls 7 [(0, .ref b)] := hls
  refine xn_new (R := room_1) (fs0 := [.null, .null, .null, .null, .null, .null, .int 0, .int 0, .int 0]) (dC := dC) (dI := dI) (dA := dA) (ci := 0) (T := xk_T0) (N := 9) (idx := 8) (idx2 := 92) (pc := 0) (rest := []) ⟨hx, hb, hml, hown, hts⟩ xt_good xk_ns_ok hN hK (cn_A_init l) rfl rfl xk_w0 xk_t0 xk_p0 (fun j hj => by rcases (show j = 0 ∨ j = 1 ∨ j = 2 ∨ j = 3 ∨ j = 4 ∨ j = 5 ∨ j = 6 ∨ j = 7 ∨ j = 8 by omega) with rfl | rfl | rfl | rfl | rfl | rfl | rfl | rfl | rfl <;> rfl) xz4_54 xz4_55 xz4_37 xe_A_init ⟨by decide, by decide, by decide +kernel⟩ (Or.inl xz4_56) xz4_57 ⟨Nat.le_of_ble_eq_true rfl, Nat.le_of_ble_eq_true rfl⟩ hP hD hS hA (Nat.le_of_ble_eq_true rfl) (Nat.le_of_ble_eq_true rfl) (Nat.le_of_ble_eq_true rfl) hls.1 (by decide +kernel) (by decide +kernel) (by decide +kernel) (fun aA H locs hP hD hS => ?_)
  have hP : va_P (dC, dI) xk_cl (xm_W aA dA xk_tA xn_zA) H := hP
  have hD : va_D (fun q : Nat => s.heap.size ≤ q) (xm_W aA dA xk_tA xn_zA) := hD
  refine lv_astore_n (lv' := [(1, .ref (aA 0)), (0, .ref b)]) (pc := 7) (k := 1) hx hb (by decide +kernel) rfl hls (by decide) rfl (fun ls hls => ?_)
  refine xn_new (R := room_1) (fs0 := [.int 0, .int 0, .null, .int 0, .null, .null, .null, .null, .null, .null, .null, .int 0, .int 0, .null, .null, .null, .int 0, .null, .null, .null, .null, .null, .null, .null, .int 0, .null, .null, .null, .int 0, .null, .null, .null, .null, .null, .null, .null, .int 0]) (dC := dC) (dI := dI) (dA := dA) (ci := 7) (T := xk_T7) (N := 37) (idx := 93) (idx2 := 95) (pc := 8) (rest := []) ⟨hx, hb, hml, hown, hts⟩ xt_good xk_ns_ok hN hK (cn_M_init l) rfl rfl xk_w7 xk_t7 xk_p7 (fun j hj => by rcases (show j = 0 ∨ j = 1 ∨ j = 2 ∨ j = 3 ∨ j = 4 ∨ j = 5 ∨ j = 6 ∨ j = 7 ∨ j = 8 ∨ j = 9 ∨ j = 10 ∨ j = 11 ∨ j = 12 ∨ j = 13 ∨ j = 14 ∨ j = 15 ∨ j = 16 ∨ j = 17 ∨ j = 18 ∨ j = 19 ∨ j = 20 ∨ j = 21 ∨ j = 22 ∨ j = 23 ∨ j = 24 ∨ j = 25 ∨ j = 26 ∨ j = 27 ∨ j = 28 ∨ j = 29 ∨ j = 30 ∨ j = 31 ∨ j = 32 ∨ j = 33 ∨ j = 34 ∨ j = 35 ∨ j = 36 by omega) with rfl | rfl | rfl | rfl | rfl | rfl | rfl | rfl | rfl | rfl | rfl | rfl | rfl | rfl | rfl | rfl | rfl | rfl | rfl | rfl | rfl | rfl | rfl | rfl | rfl | rfl | rfl | rfl | rfl | rfl | rfl | rfl | rfl | rfl | rfl | rfl | rfl <;> rfl) xz4_800 xz4_801 xz4_44 xe_M_init ⟨by decide, by decide, by decide +kernel⟩ (Or.inl xz4_802) xz4_803 ⟨Nat.le_of_ble_eq_true rfl, Nat.le_of_ble_eq_true rfl⟩ hP hD hS hA (Nat.le_of_ble_eq_true rfl) (Nat.le_of_ble_eq_true rfl) (Nat.le_of_ble_eq_true rfl) hls.1 (by decide +kernel) (by decide +kernel) (by decide +kernel) (fun aM H locs hP hD hS => ?_)
  refine lv_astore_n (lv' := [(2, .ref (aM 0)), (1, .ref (aA 0)), (0, .ref b)]) (pc := 15) (k := 2) hx hb (by decide +kernel) rfl hls (by decide) rfl (fun ls hls => ?_)
  refine lv_iconst (n := 1) (v := Int32.ofNat 1) (pc := 16) hx hb (by decide +kernel) (by decide) ?_
  refine xn_newa (D := (dC, dI)) (cls := xk_cl) (dA := dA) (t := 2) (n := 1) (pc := 17) hx hb hts xn_arr hK hP hD hS hA (by decide) (by decide) (by decide) (by decide) (Nat.le_of_ble_eq_true rfl) (Nat.le_of_ble_eq_true rfl) (by decide +kernel) (fun q3 H hP hD hS => ?_)
  refine lv_astore_n (lv' := [(3, .ref q3), (2, .ref (aM 0)), (1, .ref (aA 0)), (0, .ref b)]) (pc := 19) (k := 3) hx hb (by decide +kernel) rfl hls (by decide) rfl (fun ls hls => ?_)
  refine lv_iconst (n := 0) (v := 0) (pc := 20) hx hb (by decide +kernel) (by decide) ?_
  refine lv_istore (lv' := [(4, .int 0), (3, .ref q3), (2, .ref (aM 0)), (1, .ref (aA 0)), (0, .ref b)]) (pc := 21) hx hb (by decide +kernel) hls (by decide) rfl (fun ls hls => ?_)
  obtain ⟨a1, hW1, lo1, hi1⟩ := xl_acc (ad := aA) (a := aM) (dA := dA) (tr := xk_tA) (tp := xk_tM) (by decide +kernel) xn_zA xn_zM
  obtain ⟨a2, hW2, lo2, hi2⟩ := xl_acc (ad := a1) (a := fun _ => q3) (dA := dA) (tr := xk_tA ++ xk_tM.map (xm_rl (fun q => q + xk_tA.length))) (tp := [Sum.inl (2, 1, true)]) (by decide +kernel) (fun p => if p < xk_tA.length then xn_zA p else xn_zM (p - xk_tA.length)) xn_z
  rw [xl_tp] at hW2
  have hout : [(q3, (Sum.inl (dA 2, xn_a0 2 1) : va_E))] = xm_W (fun _ => q3) dA [Sum.inl (2, 1, true)] xn_z := rfl
  rw [hW1, hout, hW2] at hP hD
  have hP : va_P (dC, dI) xk_cl (xm_W a2 dA xk_tC xl_M0) H := hP
  have hD : va_D (fun q : Nat => s.heap.size ≤ q) (xm_W a2 dA xk_tC xl_M0) := hD
  obtain ⟨ad, had, hadk⟩ : ∃ ad : Nat → Nat, ad 1000 = b ∧ ∀ k, k < 64 → ad k = a2 k := ⟨fun k => if k = 1000 then b else a2 k, if_pos rfl, fun k hk => if_neg (by omega)⟩
  have hWc : xm_W ad dA xk_tC xl_M0 = xm_W a2 dA xk_tC xl_M0 := xm_W_cong (n := 64) (by decide +kernel) (Nat.le_of_ble_eq_true rfl) hadk (fun _ _ => rfl)
  rw [← hWc] at hP hD
  have C : xl_C p l s m meth c b L xs dC dI dA ad := ⟨⟨hx, hb, hml, hown, hts⟩, ⟨hr, hlocks⟩, hK, hN, ⟨hSr, hZ, hNc⟩, ⟨xm_W_inj hD, xm_W_in hD⟩, ⟨had, hX, hbl⟩, hl⟩
  have v0 : ad 0 = aA 0 := by rw [hadk 0 (by decide), lo2 0 (by rw [xl_l63]; decide), lo1 0 (by decide)]
  have v34 : ad 34 = aM 0 := by
    have h1 := hi1 0
    rw [xl_l34] at h1
    rw [hadk 34 (by decide), lo2 34 (by rw [xl_l63]; decide), ← h1]
  have v63 : ad 63 = q3 := by
    have h1 := hi2 0
    rw [xl_l63] at h1
    rw [hadk 63 (by decide), ← h1]
  have hfin := xl_head (e := e) (below := below) C hL L 0 1 xl_M0 (by omega) (by omega) xl_R0 (by omega) H _ ls ⟨hP, hS, fun z => absurd z (by decide)⟩ (by
    have e1 : xm_L ad (xl_LS (nI (6 * 0))) = [(0, .ref (ad 1000)), (1, .ref (ad 0)), (2, .ref (ad 34)), (3, .ref (ad 63)), (4, .int 0)] := rfl
    rw [e1, had, v0, v34, v63]
    exact lv_sub hls [4, 3, 2, 1, 0] rfl)
  refine W.widen (k := xl_cf 1) (n := xl_sf 1) (Nat.le_of_ble_eq_true rfl) (Nat.le_of_ble_eq_true rfl) ?_
  exact hfin
-- ===== YOUR PART ENDS =====
set_option maxHeartbeats 4000000 in
theorem lw_walk (l : Launch) (hl : l.stackTraces = false) (b : Addr) (xs : List Int32) : MetFree l x (headSpec (Jvm.Cond.code x code maxLocals ret :: tables_1) room_1) (lw_P b xs) (fun _ _ _ _ _ => True) lw_Q := by
  refine MetFree.of_bodyS (code := code) (maxLocals := maxLocals) (ret := ret) (by decide) ?_ ?_
  · intro args s m h hn
    obtain ⟨meth, c, h1, h2, h3, h4, h5, h6, -, -⟩ := Cond.code_spec hn (atoms_spec (ws := Jvm.Cond.code x code maxLocals ret :: tables_1) h _ List.mem_cons_self)
    exact ⟨meth, c, h1, h2, h3, h4, h5, h6⟩
  · intro p e s m args below meth c s₁ B hml0 hP _
    obtain ⟨rfl, hx, hbd, hgv⟩ := hP
    obtain ⟨scr, harrAt, hlist, hof, hsmall⟩ := hx
    obtain ⟨hcb, hkn, -, -⟩ := State.arrayAt?_spec harrAt
    have hown : s.vm.findClass R_law = some m.cls := findClass_of_methodNamed B.named
    have hts0 : ∀ c ∈ (Jvm.Cond.code x code maxLocals ret :: tables_1), c.before #[Value.ref b] s = true := atoms_spec (ws := Jvm.Cond.code x code maxLocals ret :: tables_1) B.pre
    have hts : ∀ w ∈ lw_tbl, w.before #[Value.ref b] s = true := k2_hts_sels lw_privs (fun w hw => hts0 w (List.mem_cons_of_mem _ hw)) lw_privs_ok
    have hml : c.maxLocals = 7 := B.maxLocals_eq (hts0 _ List.mem_cons_self)
    have X₀ : Stand p l e room_1 s m #[Value.ref b] below meth c s₁ [] 0 0 := Stand.of_body B
    have hh0 : s₁.heap = s.heap := by rw [B.state]; rfl
    have hsz : scr.slots.size = xs.length := by rw [← Array.length_toList, hlist, List.length_map]
    have hval : ∀ j : Nat, j < xs.length → scr.slots[j]? = some (.int (xs.getD j 0)) := fun j hj => by
      rw [← Array.getElem?_toList, hlist]
      simp [hj]
    have hbl : b < s.heap.size := (Array.getElem?_eq_some_iff.mp hcb).1
    have hX : va_X b xs.length (fun j => xs.getD j 0) s s.heap := ⟨scr, hcb, hof, hkn, hsz, hval⟩
    have K : W p l e room_1 s m #[Value.ref b] below meth c s₁.heap [] 0 0 (lw_Z below #[Value.ref b] s) (entryFrame m ([Value.ref b] : List Value).toArray 7) := by
      rw [hh0]
      exact whole_start l hl hbd ⟨B.exec, B.bytes, B.returns, hml, hown, hts, hX, hbl, B.notSynchronized, hgv⟩
    obtain ⟨t, a1, o, b1, b2, b3⟩ := K s₁ rfl X₀
    exact ⟨t, o, a1, b1, b2, b3⟩
theorem lw_pre_spec {args : Array Value} {s : State} (h : (Jvm.Cond.and given_1 narrow_1).before args s = true) (hr : rest_1_c.before args s = true) : ∃ (b : Addr) (xs : List Int32), lw_P b xs args s := by
  have hs := flat_of_before _ h
  have hq := flat_of_before _ hr
  have hc : (Cond.count 1).before args s = true := hs _ (by decide +kernel)
  have harr : (Cond.arrayOf (.arg 0) .int).before args s = true := hs _ (by decide +kernel)
  have hle : (Cond.le (.length (.arg 0)) (.int 3072)).before args s = true := hs _ (by decide +kernel)
  have hlen : (Cond.isInt (.length (.arg 0))).before args s = true := hq _ (by decide +kernel)
  have hall : (Cond.all (.arg 0) (.isInt (.elem (.arg 0) (.index 0)))).before args s = true := hq _ (by decide +kernel)
  obtain ⟨b, xs, hb, hx⟩ := State.ints_of_pre rfl harr hlen hall
  have hsm : xs.length < 2 ^ 31 := hx.choose_spec.2.2.2
  have hev : (Term.length (.arg 0)).eval args s none [] s = some (.int xs.length.toInt32) := hx.length_eval hb
  have hv := Cond.le_ints hev (show (Term.int 3072).eval args s none [] s = some (.int 3072) from rfl)
  have hd : xs.length.toInt32 ≤ 3072 := by
    simpa [Cond.before, Cond.holds, hv] using hle
  have hN : xs.length ≤ 3072 := (Int32.ofNat_le_ofNat hsm (by decide)).mp (show Int32.ofNat xs.length ≤ Int32.ofNat 3072 from hd)
  exact ⟨b, xs, Cond.one_arg hc (show args[0]? = some (.ref b) from hb), hx, hN, h⟩
theorem lw_comes (l : Launch) (hl : l.stackTraces = false) : Comes l x (Jvm.Cond.code x code maxLocals ret :: tables_1) room_1 (fun tb e args s => Calls_1 tb e args s ∧ rest_1 tb e args s ∧ Pre_1 tb e args s)
    (fun _ _ args s o t => lw_Q args s o t) := by
  intro p e ha hc hk s m args below hf hfit hheap happ hpre
  obtain ⟨b, xs, hP⟩ := lw_pre_spec hpre.2.2 hpre.2.1
  obtain ⟨k, o, h1, h2, h3, hQ⟩ := lw_walk l hl b xs p e ha hc hk s m args below hf ((Spec.applies_iff_loose hf).mp happ).1 hP trivial
  exact ⟨k, o, h1, h2, h3, hQ⟩
theorem lw_frame {s t : State} {o : Outcome} {args : Array Value} (h : Framed s o t [] 1132 14352) :
    Framed s o t (fieldLocs frame_1_writes args s ++ arrayLocs frame_1_arrays args s ++ staticLocs frame_1_statics s) 1132 14352 := h
theorem lw_limb (L : Cond) (hL : ∀ (args : Array Value) (s t : State), L.after args s (.returned (some (.int 1))) t = true) :
    ArmFor flags0 classFile x code maxLocals ret World_1 tables_1 room_1 Calls_1 rest_1 Pre_1
      (fun tb e a s o t => postC L tb e a s o t ∧ Framed s o t (fieldLocs frame_1_writes a s ++ arrayLocs frame_1_arrays a s ++ staticLocs frame_1_statics s) 1132 14352) := by
  intro l hfl _ _ p e ha hc hk s m args below hf hfit hheap happ hpre
  have hl : l.stackTraces = false := by
    unfold Launch.stackTraces
    rw [hfl]
    decide +kernel
  obtain ⟨k, o, h1, h2, h3, rfl, hF⟩ := lw_comes l hl p e ha hc hk s m args below hf hfit hheap happ hpre
  exact ⟨k, _, h1, h2, h3, hL args s _, lw_frame hF⟩
theorem i_vc : Claimed_1_1 ∧ Claimed_1_2 := ⟨lw_limb limb_1_1 (fun args s t => by simp [limb_1_1, Cond.after, Cond.holds, Cond.value]), lw_limb limb_1_2 (fun args s t => Cond.after_iff.mpr (by
  first | (rw [show limb_1_2 = Cond.eq .result (.int 1) from rfl, Cond.eq_ints (x := 1) (y := 1) rfl rfl]; simp; done) | (simp [limb_1_2, Cond.value, Term.eval]; done)))⟩
