/-! THE LAW FROM ITS ENTRY -/
theorem xz4_37 : (Cond.initialized "AbsenceRows") ∈ xt_T := xt_in 37 (by decide +kernel) rfl
theorem xz4_44 : (Cond.initialized "AbsenceRowsModel") ∈ xt_T := xt_in 44 (by decide +kernel) rfl
theorem xz4_54 : (Cond.classLink "AbsenceRowsLaw" 8 "AbsenceRows") ∈ xt_T := xt_in 54 (by decide +kernel) rfl
theorem xz4_55 : (Cond.instantiable "AbsenceRows" 9) ∈ xt_T := xt_in 55 (by decide +kernel) rfl
theorem xz4_56 : (Cond.methodLink "AbsenceRowsLaw" 92 ⟨"AbsenceRows", "<init>", "()V"⟩) ∈ xt_T := xt_in 56 (by decide +kernel) rfl
theorem xz4_57 : (Cond.instanceMethod ⟨"AbsenceRows", "<init>", "()V"⟩) ∈ xt_T := xt_in 57 (by decide +kernel) rfl
theorem xz4_63 : (Cond.instantiable "AbsenceRows$Calendar" 1) ∈ xt_T := xt_in 63 (by decide +kernel) rfl
theorem xz4_75 : (Cond.instantiable "AbsenceRows$Persons" 8) ∈ xt_T := xt_in 75 (by decide +kernel) rfl
theorem xz4_113 : (Cond.instantiable "AbsenceRows$Crews" 4) ∈ xt_T := xt_in 113 (by decide +kernel) rfl
theorem xz4_136 : (Cond.instantiable "AbsenceRows$Asks" 8) ∈ xt_T := xt_in 136 (by decide +kernel) rfl
theorem xz4_175 : (Cond.instantiable "AbsenceRows$HeldRows" 4) ∈ xt_T := xt_in 175 (by decide +kernel) rfl
theorem xz4_197 : (Cond.instantiable "AbsenceRows$Calls" 7) ∈ xt_T := xt_in 197 (by decide +kernel) rfl
theorem xz4_800 : (Cond.classLink "AbsenceRowsLaw" 93 "AbsenceRowsModel") ∈ xt_T := xt_in 800 (by decide +kernel) rfl
theorem xz4_801 : (Cond.instantiable "AbsenceRowsModel" 37) ∈ xt_T := xt_in 801 (by decide +kernel) rfl
theorem xz4_802 : (Cond.methodLink "AbsenceRowsLaw" 95 ⟨"AbsenceRowsModel", "<init>", "()V"⟩) ∈ xt_T := xt_in 802 (by decide +kernel) rfl
theorem xz4_803 : (Cond.instanceMethod ⟨"AbsenceRowsModel", "<init>", "()V"⟩) ∈ xt_T := xt_in 803 (by decide +kernel) rfl
theorem xl_nsw : ∀ w ∈ xk_ns, w ∈ lw_tbl := List.forall_mem_cons.mpr ⟨List.mem_of_getElem? (i := 64) (by decide +kernel), List.forall_mem_cons.mpr ⟨List.mem_of_getElem? (i := 76) (by decide +kernel), List.forall_mem_cons.mpr ⟨List.mem_of_getElem? (i := 114) (by decide +kernel), List.forall_mem_cons.mpr ⟨List.mem_of_getElem? (i := 137) (by decide +kernel), List.forall_mem_cons.mpr ⟨List.mem_of_getElem? (i := 176) (by decide +kernel), List.forall_mem_cons.mpr ⟨List.mem_of_getElem? (i := 198) (by decide +kernel), List.forall_mem_cons.mpr ⟨List.mem_of_getElem? (i := 376) (by decide +kernel), List.forall_mem_cons.mpr ⟨List.mem_of_getElem? (i := 425) (by decide +kernel), List.forall_mem_cons.mpr ⟨List.mem_of_getElem? (i := 523) (by decide +kernel), List.forall_mem_cons.mpr ⟨List.mem_of_getElem? (i := 576) (by decide +kernel), List.forall_mem_cons.mpr ⟨List.mem_of_getElem? (i := 613) (by decide +kernel), List.forall_mem_cons.mpr ⟨List.mem_of_getElem? (i := 618) (by decide +kernel), List.forall_mem_cons.mpr ⟨List.mem_of_getElem? (i := 619) (by decide +kernel), List.forall_mem_cons.mpr ⟨List.mem_of_getElem? (i := 624) (by decide +kernel), List.forall_mem_cons.mpr ⟨List.mem_of_getElem? (i := 694) (by decide +kernel), List.forall_mem_cons.mpr ⟨List.mem_of_getElem? (i := 764) (by decide +kernel), List.forall_mem_cons.mpr ⟨List.mem_of_getElem? (i := 276) (by decide +kernel), List.forall_mem_cons.mpr ⟨List.mem_of_getElem? (i := 277) (by decide +kernel), List.forall_mem_cons.mpr ⟨List.mem_of_getElem? (i := 278) (by decide +kernel), List.forall_mem_cons.mpr ⟨List.mem_of_getElem? (i := 279) (by decide +kernel), List.forall_mem_cons.mpr ⟨List.mem_of_getElem? (i := 280) (by decide +kernel), List.forall_mem_cons.mpr ⟨List.mem_of_getElem? (i := 281) (by decide +kernel), List.forall_mem_cons.mpr ⟨List.mem_of_getElem? (i := 282) (by decide +kernel), List.forall_mem_cons.mpr ⟨List.mem_of_getElem? (i := 345) (by decide +kernel), List.forall_mem_cons.mpr ⟨List.mem_of_getElem? (i := 379) (by decide +kernel), List.forall_mem_cons.mpr ⟨List.mem_of_getElem? (i := 452) (by decide +kernel), fun _ h => absurd h List.not_mem_nil⟩⟩⟩⟩⟩⟩⟩⟩⟩⟩⟩⟩⟩⟩⟩⟩⟩⟩⟩⟩⟩⟩⟩⟩⟩⟩
theorem xl_nso : ∀ w ∈ xk_ns, w.onTables = true := by decide +kernel
theorem xl_ssw : ∀ q ∈ xh_ss, Cond.stringRef "AbsenceRows" q.1 q.2 ∈ lw_tbl := List.forall_mem_cons.mpr ⟨List.mem_of_getElem? (i := 316) (by decide +kernel), List.forall_mem_cons.mpr ⟨List.mem_of_getElem? (i := 352) (by decide +kernel), List.forall_mem_cons.mpr ⟨List.mem_of_getElem? (i := 386) (by decide +kernel), List.forall_mem_cons.mpr ⟨List.mem_of_getElem? (i := 393) (by decide +kernel), List.forall_mem_cons.mpr ⟨List.mem_of_getElem? (i := 459) (by decide +kernel), List.forall_mem_cons.mpr ⟨List.mem_of_getElem? (i := 473) (by decide +kernel), List.forall_mem_cons.mpr ⟨List.mem_of_getElem? (i := 474) (by decide +kernel), List.forall_mem_cons.mpr ⟨List.mem_of_getElem? (i := 482) (by decide +kernel), List.forall_mem_cons.mpr ⟨List.mem_of_getElem? (i := 483) (by decide +kernel), List.forall_mem_cons.mpr ⟨List.mem_of_getElem? (i := 494) (by decide +kernel), List.forall_mem_cons.mpr ⟨List.mem_of_getElem? (i := 506) (by decide +kernel), List.forall_mem_cons.mpr ⟨List.mem_of_getElem? (i := 507) (by decide +kernel), List.forall_mem_cons.mpr ⟨List.mem_of_getElem? (i := 524) (by decide +kernel), List.forall_mem_cons.mpr ⟨List.mem_of_getElem? (i := 531) (by decide +kernel), List.forall_mem_cons.mpr ⟨List.mem_of_getElem? (i := 545) (by decide +kernel), List.forall_mem_cons.mpr ⟨List.mem_of_getElem? (i := 549) (by decide +kernel), List.forall_mem_cons.mpr ⟨List.mem_of_getElem? (i := 554) (by decide +kernel), List.forall_mem_cons.mpr ⟨List.mem_of_getElem? (i := 559) (by decide +kernel), List.forall_mem_cons.mpr ⟨List.mem_of_getElem? (i := 560) (by decide +kernel), List.forall_mem_cons.mpr ⟨List.mem_of_getElem? (i := 577) (by decide +kernel), List.forall_mem_cons.mpr ⟨List.mem_of_getElem? (i := 586) (by decide +kernel), List.forall_mem_cons.mpr ⟨List.mem_of_getElem? (i := 640) (by decide +kernel), List.forall_mem_cons.mpr ⟨List.mem_of_getElem? (i := 641) (by decide +kernel), List.forall_mem_cons.mpr ⟨List.mem_of_getElem? (i := 649) (by decide +kernel), List.forall_mem_cons.mpr ⟨List.mem_of_getElem? (i := 657) (by decide +kernel), List.forall_mem_cons.mpr ⟨List.mem_of_getElem? (i := 682) (by decide +kernel), List.forall_mem_cons.mpr ⟨List.mem_of_getElem? (i := 695) (by decide +kernel), List.forall_mem_cons.mpr ⟨List.mem_of_getElem? (i := 703) (by decide +kernel), List.forall_mem_cons.mpr ⟨List.mem_of_getElem? (i := 711) (by decide +kernel), List.forall_mem_cons.mpr ⟨List.mem_of_getElem? (i := 719) (by decide +kernel), List.forall_mem_cons.mpr ⟨List.mem_of_getElem? (i := 720) (by decide +kernel), List.forall_mem_cons.mpr ⟨List.mem_of_getElem? (i := 765) (by decide +kernel), List.forall_mem_cons.mpr ⟨List.mem_of_getElem? (i := 766) (by decide +kernel), fun _ h => absurd h List.not_mem_nil⟩⟩⟩⟩⟩⟩⟩⟩⟩⟩⟩⟩⟩⟩⟩⟩⟩⟩⟩⟩⟩⟩⟩⟩⟩⟩⟩⟩⟩⟩⟩⟩⟩
theorem xl_psw : ∀ q ∈ xh_ps, Cond.not (.castable q.1 q.2) ∈ flatC (Jvm.Cond.and given_1 narrow_1) := by decide +kernel
theorem xl_arr {s : State} {args : Array Value} {ty : FieldType} (h : (Cond.arrayClass ty).before args s = true) : ∃ cA, ArrOfT s cA ty ∧ s.vm.findClass ("[" ++ ty.toString) = some cA := by
  obtain ⟨c, k, comp, h1, h2, h3⟩ := Cond.arrayClass_spec h
  exact ⟨c, fun n z => ⟨fun k h => (by cases h), k, h2, comp, h3⟩, h1⟩
theorem xl_acc {ad a dA : Nat → Nat} {tr tp : List xm_E} (hc : xn_clo tr.length tr = true) (M N : xm_M) : ∃ ad2 : Nat → Nat, xm_W ad dA tr M ++ xm_W a dA tp N = xm_W ad2 dA (tr ++ tp.map (xm_rl (fun q => q + tr.length))) (fun p => if p < tr.length then M p else N (p - tr.length)) ∧ (∀ k, k < tr.length → ad2 k = ad k) ∧ ∀ k, ad2 (k + tr.length) = a k := by
  refine ⟨fun k => if k < tr.length then ad k else a (k - tr.length), ?_, fun k hk => if_pos hk, fun k => ?_⟩
  · rw [xm_W_cat]
    congr 1
    · exact (xm_W_cong hc (Nat.le_refl _) (fun k hk => if_pos hk) (fun k hk => if_pos hk)).symm
    · have e1 : (fun k => (fun k => if k < tr.length then ad k else a (k - tr.length)) (k + tr.length)) = a := by
        funext k
        show (if k + tr.length < tr.length then ad (k + tr.length) else a (k + tr.length - tr.length)) = a k
        rw [if_neg (by omega), Nat.add_sub_cancel]
      have e2 : (fun k => (fun p => if p < tr.length then M p else N (p - tr.length)) (k + tr.length)) = N := by
        funext k
        show (if k + tr.length < tr.length then M (k + tr.length) else N (k + tr.length - tr.length)) = N k
        rw [if_neg (by omega), Nat.add_sub_cancel]
      rw [e1, e2]
  · show (if k + tr.length < tr.length then ad (k + tr.length) else a (k + tr.length - tr.length)) = a k
    rw [if_neg (by omega), Nat.add_sub_cancel]
theorem xl_tp : (xk_tA ++ xk_tM.map (xm_rl (fun q => q + xk_tA.length))) ++ [Sum.inl (2, 1, true)].map (xm_rl (fun q => q + (xk_tA ++ xk_tM.map (xm_rl (fun q => q + xk_tA.length))).length)) = xk_tC := by decide +kernel
/-- memory at the start -/
def xl_M0 : xm_M := fun p => if p < (xk_tA ++ xk_tM.map (xm_rl (fun q => q + xk_tA.length))).length then (fun p => if p < xk_tA.length then xn_zA p else xn_zM (p - xk_tA.length)) p else xn_z (p - (xk_tA ++ xk_tM.map (xm_rl (fun q => q + xk_tA.length))).length)
theorem xl_l34 : xk_tA.length = 34 := rfl
theorem xl_l63 : (xk_tA ++ xk_tM.map (xm_rl (fun q => q + xk_tA.length))).length = 63 := by decide +kernel
theorem xl_R0 : zR xl_M0 (xl_md xl_M0) := by
  have h0 : zR xn_zA xn_zM := by
    refine z_start (fun p k => ?_) (fun p k => ?_)
    · by_cases h1 : p = 0
      · by_cases h2 : k = 7
        · simp [xn_zA, xm_up, xn_z, h1, h2]
        · simp [xn_zA, xm_up, xn_z, h1, h2]
      · simp [xn_zA, xm_up, xn_z, h1]
    · by_cases h1 : p = 0
      · by_cases h2 : k = 36
        · simp [xn_zM, xm_up, xn_z, h1, h2]
        · simp [xn_zM, xm_up, xn_z, h1, h2]
      · simp [xn_zM, xm_up, xn_z, h1]
  refine zR_cong (fun p hp => ?_) (fun q hq => ?_) h0
  · unfold xl_M0
    rw [xl_l63, xl_l34, if_pos (by omega)]
    show (if p < 34 then xn_zA p else xn_zM (p - 34)) = xn_zA p
    rw [if_pos hp]
  · show xl_M0 (q + 34) = xn_zM q
    unfold xl_M0
    rw [xl_l63, xl_l34, if_pos (by omega)]
    show (if q + 34 < 34 then xn_zA (q + 34) else xn_zM (q + 34 - 34)) = xn_zM q
    rw [if_neg (by omega), Nat.add_sub_cancel]
set_option maxHeartbeats 4000000 in
/-- what the tables and the Statement's start give -/
theorem xl_facts {s : State} {b : Nat} (hts0 : ∀ w ∈ lw_tbl, w.before #[Value.ref b] s = true) (hgv : (Jvm.Cond.and given_1 narrow_1).before #[Value.ref b] s = true) : ∃ (dC : Nat → ClassId) (dI : Nat → Nat → Nat) (dA : Nat → Nat), va_K (dC, dI) xk_cl (xm_tys dA) s ∧ xm_Nw xk_ns s ∧ xm_sr "AbsenceRows" xh_ss s ∧ xm_zq (fun q => s.heap.size ≤ q) s s.heap ∧ xm_nc xh_ps s := by
  have hts : ∀ w ∈ xt_T, w.before #[Value.ref b] s = true := fun w h => hts0 w (List.mem_filter.mp h).1
  have hfl := flat_of_before _ hgv
  obtain ⟨c0, i0, hk0⟩ := u_known (C := xk_R0) (T := xk_T0) (N := 9) (n := 9) hts xk_w0 (hts _ xz4_55)
  obtain ⟨c1, i1, hk1⟩ := u_known (C := xk_R1) (T := xk_T1) (N := 1) (n := 1) hts xk_w1 (hts _ xz4_63)
  obtain ⟨c2, i2, hk2⟩ := u_known (C := xk_R2) (T := xk_T2) (N := 8) (n := 8) hts xk_w2 (hts _ xz4_75)
  obtain ⟨c3, i3, hk3⟩ := u_known (C := xk_R3) (T := xk_T3) (N := 4) (n := 4) hts xk_w3 (hts _ xz4_113)
  obtain ⟨c4, i4, hk4⟩ := u_known (C := xk_R4) (T := xk_T4) (N := 8) (n := 8) hts xk_w4 (hts _ xz4_136)
  obtain ⟨c5, i5, hk5⟩ := u_known (C := xk_R5) (T := xk_T5) (N := 4) (n := 4) hts xk_w5 (hts _ xz4_175)
  obtain ⟨c6, i6, hk6⟩ := u_known (C := xk_R6) (T := xk_T6) (N := 7) (n := 7) hts xk_w6 (hts _ xz4_197)
  obtain ⟨c7, i7, hk7⟩ := u_known (C := xk_R7) (T := xk_T7) (N := 37) (n := 37) hts xk_w7 (hts _ xz4_801)
  obtain ⟨dC, dI, hKc⟩ : ∃ (dC : Nat → ClassId) (dI : Nat → Nat → Nat), ∀ (k : Nat) (q : vw_C), xk_cl[k]? = some q → u_Kn s q.1 q.2.1 q.2.2 (dC k) (dI k) := by
    refine ⟨fun k => match k with | 0 => c0 | 1 => c1 | 2 => c2 | 3 => c3 | 4 => c4 | 5 => c5 | 6 => c6 | _ => c7, fun k => match k with | 0 => i0 | 1 => i1 | 2 => i2 | 3 => i3 | 4 => i4 | 5 => i5 | 6 => i6 | _ => i7, ?_⟩
    intro k q hq
    match k, hq with
    | 0, hq => cases hq; exact hk0
    | 1, hq => cases hq; exact hk1
    | 2, hq => cases hq; exact hk2
    | 3, hq => cases hq; exact hk3
    | 4, hq => cases hq; exact hk4
    | 5, hq => cases hq; exact hk5
    | 6, hq => cases hq; exact hk6
    | 7, hq => cases hq; exact hk7
    | k + 8, hq => simp [xk_cl] at hq
  obtain ⟨d0, ha0, hf0⟩ := xl_arr (hts _ (xn_arr 0 (by decide)))
  obtain ⟨d1, ha1, hf1⟩ := xl_arr (hts _ (xn_arr 1 (by decide)))
  obtain ⟨d2, ha2, hf2⟩ := xl_arr (hts _ (xn_arr 2 (by decide)))
  obtain ⟨dA, hdA0, hdA1, hdA2⟩ : ∃ dA : Nat → Nat, dA 0 = d0 ∧ dA 1 = d1 ∧ dA 2 = d2 := ⟨fun k => match k with | 0 => d0 | 1 => d1 | _ => d2, rfl, rfl, rfl⟩
  have hK : va_K (dC, dI) xk_cl (xm_tys dA) s := by
    refine ⟨hKc, fun k q hq => ?_⟩
    match k, hq with
    | 0, hq => cases hq; rw [hdA0]; exact ⟨ha0, hf0⟩
    | 1, hq => cases hq; rw [hdA1]; exact ⟨ha1, hf1⟩
    | 2, hq => cases hq; rw [hdA2]; exact ⟨ha2, hf2⟩
    | k + 3, hq => simp [xm_tys] at hq
  have hN : xm_Nw xk_ns s := fun w hw => va_Nw.of (xl_nso w hw) (hts0 w (xl_nsw w hw))
  have hSr : xm_sr "AbsenceRows" xh_ss s := fun q hq => by
    obtain ⟨-, -, -, a, -, -, -, -, -, hev⟩ := Cond.stringRef_spec (hk0.2.1) (hts0 _ (xl_ssw q hq))
    exact ⟨a, vk_R.of (hts0 _ (xl_ssw q hq)) hev⟩
  have hZ : xm_zq (fun q => s.heap.size ≤ q) s s.heap := ⟨vx_Zqof (hts0 _ (List.mem_of_getElem? (i := 301) (by decide +kernel))) (hts0 _ (List.mem_of_getElem? (i := 45) (by decide +kernel))) (hfl _ (by decide +kernel)) (fun a h => Nat.not_le.mpr h), vx_Zqof (hts0 _ (List.mem_of_getElem? (i := 303) (by decide +kernel))) (hts0 _ (List.mem_of_getElem? (i := 45) (by decide +kernel))) (hfl _ (by decide +kernel)) (fun a h => Nat.not_le.mpr h)⟩
  have hNc : xm_nc xh_ps s := fun q hq => va_Nc.of (hfl _ (xl_psw q hq))
  exact ⟨dC, dI, dA, hK, hN, hSr, hZ, hNc⟩
/-- the world of the law, out of what was made -/
theorem xl_world {D : va_G} {cls : List vw_C} {A : Nat → Prop} {H : Heap} {aA aM dA : Nat → Nat} {q3 : Nat} (b : Nat) (hP : va_P D cls ((xm_W aA dA xk_tA xn_zA ++ xm_W aM dA xk_tM xn_zM) ++ [(q3, (Sum.inl (dA 2, xn_a0 2 1) : va_E))]) H) (hD : va_D A ((xm_W aA dA xk_tA xn_zA ++ xm_W aM dA xk_tM xn_zM) ++ [(q3, (Sum.inl (dA 2, xn_a0 2 1) : va_E))])) : ∃ ad : Nat → Nat, ad 1000 = b ∧ ad 0 = aA 0 ∧ ad 34 = aM 0 ∧ ad 63 = q3 ∧ va_P D cls (xm_W ad dA xk_tC xl_M0) H ∧ va_D A (xm_W ad dA xk_tC xl_M0) := by
  obtain ⟨a1, hW1, lo1, hi1⟩ := xl_acc (ad := aA) (a := aM) (dA := dA) (tr := xk_tA) (tp := xk_tM) (by decide +kernel) xn_zA xn_zM
  obtain ⟨a2, hW2, lo2, hi2⟩ := xl_acc (ad := a1) (a := fun _ => q3) (dA := dA) (tr := xk_tA ++ xk_tM.map (xm_rl (fun q => q + xk_tA.length))) (tp := [Sum.inl (2, 1, true)]) (by decide +kernel) (fun p => if p < xk_tA.length then xn_zA p else xn_zM (p - xk_tA.length)) xn_z
  rw [xl_tp] at hW2
  have hout : [(q3, (Sum.inl (dA 2, xn_a0 2 1) : va_E))] = xm_W (fun _ => q3) dA [Sum.inl (2, 1, true)] xn_z := rfl
  rw [hW1, hout, hW2] at hP hD
  obtain ⟨ad, had, hadk⟩ : ∃ ad : Nat → Nat, ad 1000 = b ∧ ∀ k, k < 64 → ad k = a2 k := ⟨fun k => if k = 1000 then b else a2 k, if_pos rfl, fun k hk => if_neg (by omega)⟩
  have hWc : xm_W ad dA xk_tC xl_M0 = xm_W a2 dA xk_tC xl_M0 := xm_W_cong (n := 64) (by decide +kernel) (Nat.le_of_ble_eq_true rfl) hadk (fun _ _ => rfl)
  refine ⟨ad, had, ?_, ?_, ?_, ?_, ?_⟩
  · rw [hadk 0 (by decide), lo2 0 (by rw [xl_l63]; decide), lo1 0 (by decide)]
  · have h1 := hi1 0
    rw [xl_l34] at h1
    rw [hadk 34 (by decide), lo2 34 (by rw [xl_l63]; decide), ← h1]
  · have h1 := hi2 0
    rw [xl_l63] at h1
    rw [hadk 63 (by decide), ← h1]
  · rw [hWc]; exact hP
  · rw [hWc]; exact hD
theorem xl_fM : ∀ j, j < 37 → defaultValue (xk_t7 j) = vp_V [.int 0, .int 0, .null, .int 0, .null, .null, .null, .null, .null, .null, .null, .int 0, .int 0, .null, .null, .null, .int 0, .null, .null, .null, .null, .null, .null, .null, .int 0, .null, .null, .null, .int 0, .null, .null, .null, .null, .null, .null, .null, .int 0] j := by
  intro j hj
  match j, hj with
  | 0, _ => rfl
  | 1, _ => rfl
  | 2, _ => rfl
  | 3, _ => rfl
  | 4, _ => rfl
  | 5, _ => rfl
  | 6, _ => rfl
  | 7, _ => rfl
  | 8, _ => rfl
  | 9, _ => rfl
  | 10, _ => rfl
  | 11, _ => rfl
  | 12, _ => rfl
  | 13, _ => rfl
  | 14, _ => rfl
  | 15, _ => rfl
  | 16, _ => rfl
  | 17, _ => rfl
  | 18, _ => rfl
  | 19, _ => rfl
  | 20, _ => rfl
  | 21, _ => rfl
  | 22, _ => rfl
  | 23, _ => rfl
  | 24, _ => rfl
  | 25, _ => rfl
  | 26, _ => rfl
  | 27, _ => rfl
  | 28, _ => rfl
  | 29, _ => rfl
  | 30, _ => rfl
  | 31, _ => rfl
  | 32, _ => rfl
  | 33, _ => rfl
  | 34, _ => rfl
  | 35, _ => rfl
  | 36, _ => rfl
  | n + 37, h => exact absurd h (by omega)
