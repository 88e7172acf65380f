/-! THE LAW: the model's calls in its world, its helpers' calls, its room -/
def xl_un (v : Value) : Value := match v with
  | .ref k => .ref (k - 34)
  | w => w
def xl_sh (v : Value) : Value := match v with
  | .ref k => .ref (k + 34)
  | w => w
theorem xl_us (as : List Value) : (as.map xl_sh).map xl_un = as := by
  induction as with
  | nil => rfl
  | cons v r ih =>
    rw [List.map_cons, List.map_cons, ih]
    congr 1
    cases v <;> simp [xl_sh, xl_un]
theorem xl_va (ad : Nat → Nat) (as : List Value) : (as.map xl_sh).map (xm_v ad) = as.map (xm_v (fun q => ad (q + 34))) := by
  rw [List.map_map]
  apply List.map_congr_left
  intro v _
  cases v <;> rfl
/-- the law's memory with the model's part new -/
def xl_jn (M N : xm_M) : xm_M := fun p => if 34 ≤ p ∧ p < 63 then N (p - 34) else M p
/-- the model's part of the law's memory -/
def xl_md (M : xm_M) : xm_M := fun q => M (q + 34)
/-- a call of the model, in the law's world -/
def xl_up (C : xm_C) : xm_C := (C.1, C.2.1, C.2.2.1, fun as M => ∃ as1, as = as1.map xl_sh ∧ C.2.2.2.1 as1 (xl_md M), fun as M => ((C.2.2.2.2 (as.map xl_un) (xl_md M)).1, xl_jn M (C.2.2.2.2 (as.map xl_un) (xl_md M)).2))
section XL1
variable {p : Program} {l : Launch} {e : Env} {R : Room} {s : State} {m : MethodId} {args : Array Value} {below : List Frame} {meth : Method} {c : Code} {H : Heap} {locs : List Loc} {cells slots mc ms : Nat} {Q : State → Prop}
variable {g : JFrame} {rest : List Value}
theorem xl_back {v0 : Option Value} {A A0 : Nat → Prop} {H0 : Heap} {PW : Heap → Prop} {Qa : State → Outcome → State → Prop} (hr : va_Run p l e R s m args below meth c H locs cells slots mc ms g rest Qa A) (hA : ∀ q, A q → A0 q) (hS : va_S A0 H0 H locs)
    (hq : ∀ st o t, Qa st o t → o = .returned v0 ∧ PW t.heap ∧ va_F A st t)
    (kk : ∀ (H1 : Heap) (locs1 : List Loc), PW H1 → (∀ q : Nat, q < H.size → ¬ A q → H1[q]? = H[q]?) → va_S A0 H0 H1 locs1 → W p l e R s m args below meth c H1 locs1 (cells + mc) (slots + ms) Q { g with pc := g.pc + 3, stack := v0.toList ++ rest }) : W p l e R s m args below meth c H locs cells slots Q g := by
  intro T hT X
  obtain ⟨v, st₀, t, T', L, h0, X', hL, e1, e2, hqa, st⟩ := hr T hT X
  obtain ⟨hv, hP, hF⟩ := hq _ _ _ hqa
  cases hv
  have hS1 : va_S A0 H0 t.heap (locs ++ L) := by
    refine ⟨Nat.le_trans hS.1 (by rw [← h0]; exact hF.1), fun q hq1 hq2 => ?_, fun x hx => ?_⟩
    · have h1 : q < st₀.heap.size := by rw [h0]; exact Nat.lt_of_lt_of_le hq1 hS.1
      rw [hF.2 q h1 (fun z => hq2 (hA q z)), h0]
      exact hS.2.1 q hq1 hq2
    · rcases List.mem_append.mp hx with h1 | h1
      · exact hS.2.2 x h1
      · exact hA _ (hL x h1)
  obtain ⟨t2, a1, b1⟩ := kk t.heap (locs ++ L) hP (fun q hq1 hq2 => by rw [hF.2 q (by rw [h0]; exact hq1) hq2, h0]) hS1 T' e1 X'
  exact ⟨t2, st t2 a1, b1⟩
end XL1
section XL2
variable {p : Program} {l : Launch} {e : Env} {rm : Room} {s : State} {m : MethodId} {args : Array Value} {below : List Frame} {meth : Method} {c : Code} {cf sf : Nat → Nat} {Q : State → Prop}
variable {cc : ByteArray} {dC : Nat → ClassId} {dI : Nat → Nat → Nat} {ad dA : Nat → Nat} {nL : Nat} {own : String} {A0 : Nat → Prop}
theorem xl_row (S : CallFix p m c cc nL s args xt_T own) (hN : xm_Nw xk_ns s) (hK : va_K (dC, dI) xk_cl (xm_tys dA) s) (hj : xm_inj ad xk_tC.length) (hA0 : ∀ k, k < xk_tC.length → A0 (ad k)) (hmono : ∀ n, cf n ≤ cf (n + 1) ∧ sf n ≤ sf (n + 1)) (hcs : ∀ n, cf n ≤ rm.cells ∧ sf n ≤ rm.slots) {n : Nat} {C : xm_C} (h : xm_lkV l own xt_T xk_ns rm xk_cl xk_tM n C) (hres : ∀ as N f, (C.2.2.2.2 as N).1.map (xm_v f) = (C.2.2.2.2 as N).1) :
    xm_row (fun cl H locs g => W p l e rm s m args below meth c H locs (cf cl) (sf cl) Q g) m (xm_R (dC, dI) xk_cl A0 ad dA xk_tC s.heap) ad nL cc n (xl_up C) := by
  obtain ⟨kd, na, pu, pre, fn⟩ := C
  obtain ⟨y, bytes, maxL, ret, rmC, np, q0, ci, fk, T, N, hkd, hna, ⟨hcode, hini, hd, hrm, hrc, hrs⟩, hl, hin, hse, htp, hcl, hrec, hM⟩ := h
  dsimp only at hkd hna hrec hM hres
  subst hkd
  subst hna
  have hts := S.2.2.2.2
  have hg := xt_good
  have hns := xk_ns_ok
  intro pc as rest M cl H locs lsC hn hdg hr hpre hR hsz kk
  dsimp only [xl_up] at hn hpre kk ⊢
  have hdg' : decode cc pc = .ok (.invokevirtual n, 3) := hdg
  obtain ⟨as1, rfl, hpre⟩ := hpre
  obtain ⟨as', rfl⟩ := hrec as1 _ hpre
  rw [xl_us] at kk
  have hP1 := xm_subP (σ := fun q => q + 34) xk_sM hR.1
  have hj1 : xm_inj (fun q => ad (q + 34)) xk_tM.length := xm_subj (σ := fun q => q + 34) xk_sM (fun i j z => by omega) hj
  have hfb : ∀ U : State, U.heap = H → s.WarmedH U.vm → (xm_pc xk_cl xk_ns xk_tM dC dI dA (fun q => ad (q + 34)) (.ref q0 :: as') (xl_md M)) (Value.ref (ad (q0 + 34)) :: as'.map (xm_v (fun q => ad (q + 34)))).toArray U := fun U hU hW => ⟨rfl, by rw [hU]; exact hP1, va_K.moved hW.alike hK, hN.warm hns hW⟩
  have hstk : (((Value.ref q0 :: as').map xl_sh).reverse ++ rest).map (xm_v ad) = (as'.map (xm_v (fun q => ad (q + 34)))).reverse ++ Value.ref (ad (q0 + 34)) :: rest.map (xm_v ad) := by
    rw [List.map_append, ← List.map_reverse, List.map_reverse, List.map_reverse, xl_va]
    simp [xm_v]
  have hlen : as'.length = np := by simpa using hn
  have hrun : ∀ {Qc : Array Value → State → Outcome → State → Prop} {free : Addr → Prop}, Met l y (Cond.code y bytes maxL ret :: xt_T) rmC (xm_pc xk_cl xk_ns xk_tM dC dI dA (fun q => ad (q + 34)) (.ref q0 :: as') (xl_md M)) Qc 0 0 free →
      va_Run p l e rm s m args below meth c H locs (cf cl) (sf cl) 0 0 (F0 m pc lsC ((((Value.ref q0 :: as').map xl_sh).reverse ++ rest).map (xm_v ad))) (rest.map (xm_v ad)) (Qc (Value.ref (ad (q0 + 34)) :: as'.map (xm_v (fun q => ad (q + 34)))).toArray) free := by
    intro Qc free hMet
    exact va_runV (C := y.cls) (b := ad (q0 + 34)) (As := as'.map (xm_v (fun q => ad (q + 34)))) (rest := rest.map (xm_v ad)) S hMet ⟨callB_of np hts (xm_goodIn hg hcode) rfl hrc hrs (hts _ hini) (hts _ hl) hd hrm, hts _ hin, hts _ hse⟩ ⟨xm_blind hns, va_recv hK hP1 hcl (xm_W_at htp), hfb⟩ rfl (by simpa using hlen) hsz hstk (lv_room (by rw [xm_catmap]; exact hr)) hdg' (hcs cl)
  have hmap : ∀ (o : Option Value), o.map (xm_v (fun q => ad (q + 34))) = o → o.map (xm_v ad) = o → (o.map (xm_v (fun q => ad (q + 34)))).toList ++ rest.map (xm_v ad) = (o.toList ++ rest).map (xm_v ad) := by
    intro o h1 h2
    rw [h1, ← xm_tl, h2]
  have hm1 := hmap _ (hres (.ref q0 :: as') (xl_md M) (fun q => ad (q + 34))) (hres (.ref q0 :: as') (xl_md M) ad)
  rcases hM with ⟨hpu, hsame, hM⟩ | ⟨hpu, hM⟩
  · subst hpu
    refine xm_back (v0 := (fn (.ref q0 :: as') (xl_md M)).1.map (xm_v (fun q => ad (q + 34)))) (hrun (hM dC dI dA (fun q => ad (q + 34)) _ (xl_md M) hpre hj1)) (fun st o t q => q) ?_
    have h1 := kk H locs hR
    rw [← hm1] at h1
    exact h1
  · subst hpu
    refine xl_back (v0 := (fn (.ref q0 :: as') (xl_md M)).1.map (xm_v (fun q => ad (q + 34)))) (A := xm_A (fun q => ad (q + 34)) xk_tM.length) (A0 := A0) (PW := fun H1 => va_P (dC, dI) xk_cl (xm_W (fun q => ad (q + 34)) dA xk_tM (fn (.ref q0 :: as') (xl_md M)).2) H1) (hrun (hM dC dI dA (fun q => ad (q + 34)) _ (xl_md M) hpre hj1)) (fun q hq => ?_) hR.2.1 (fun st o t q => q) (fun H1 locs1 a1 a2 a3 => ?_)
    · obtain ⟨k, hk, rfl⟩ := xm_subA (σ := fun q => q + 34) xk_sM hq
      exact hA0 k hk
    · have hPj : va_P (dC, dI) xk_cl (xm_W ad dA xk_tC (xl_jn M (fn (.ref q0 :: as') (xl_md M)).2)) H1 := by
        refine xm_joinP (σ := fun q => q + 34) xk_sM hj hR.1 a1 a2 (fun k hk => ?_) (fun q hq => ?_)
        · have h29 : k < 29 := hk
          show (if 34 ≤ k + 34 ∧ k + 34 < 63 then _ else _) = _
          rw [if_pos (by omega), Nat.add_sub_cancel]
        · show (if 34 ≤ q ∧ q < 63 then _ else _) = _
          refine if_neg (fun z => hq (q - 34) (show q - 34 < 29 by omega) (by show q = q - 34 + 34; omega))
      have h1 := kk H1 locs1 (by
        show xm_R (dC, dI) xk_cl A0 ad dA xk_tC s.heap (xl_jn M (fn (((Value.ref q0 :: as').map xl_sh).map xl_un) (xl_md M)).2) (cl + 1) H1 locs1
        rw [xl_us]
        exact ⟨hPj, a3, fun z => absurd z (Nat.succ_ne_zero cl)⟩)
      rw [← hm1] at h1
      exact W.widen (hmono cl).1 (hmono cl).2 h1
/-- a helper's call -/
theorem xl_hp {R : Room} {cells slots : Nat} (S : CallFix p m c cc nL s args xt_T own) (hN : xm_Nw xk_ns s) (hK : va_K (dC, dI) xk_cl (xm_tys dA) s) (hj : xm_inj ad xk_tC.length) (hA0 : ∀ k, k < xk_tC.length → A0 (ad k)) (hSr : xm_sr "AbsenceRows" xh_ss s) (hZ : xm_zq A0 s s.heap) (hNc : xm_nc xh_ps s)
    {y : MethodName} {bytes : ByteArray} {maxL : Nat} {hh : List (Nat × Nat × Nat × Nat)} {pre : List Value → xm_M → Prop} {fn : List Value → xm_M → Option Value × xm_M} (hM : xm_Hp l y (Cond.codeWith y bytes maxL (some .int) hh :: xt_T) xr_h "AbsenceRows" xh_ss xh_ps xk_cl xk_ns xk_tC pre fn)
    {idx np : Nat} (hcode : Cond.codeWith y bytes maxL (some .int) hh ∈ xt_T) (hini : Cond.initialized y.cls ∈ xt_T) (hd : y.cls ≠ "java/lang/invoke/MethodHandle" ∧ y.cls ≠ "java/lang/invoke/VarHandle" ∧ (parseMethodDescriptor y.desc).map (fun d => d.parameters.length) = some np) (hlk : Cond.methodLink own idx y ∈ xt_T) (hstt : Cond.static y ∈ xt_T) (hrm : 8 + 1 ≤ R.frames ∧ 8 + (maxL + 11) + 240 ≤ R.locals)
    {as rest : List Value} {M : xm_M} {cl : Nat} {H : Heap} {locs : List Loc} {lsC : Array Slot} {pc : Nat} (hpre : pre as M) (hn : as.length = np) (hdg : decode cc pc = .ok (.invokestatic idx, 3)) (hrest : (rest.map (fun v => v.category)).sum ≤ 8) (hR : xm_R (dC, dI) xk_cl A0 ad dA xk_tC s.heap M cl H locs) (hsz : lsC.size = nL) (hroom : cells + 1 ≤ R.cells ∧ slots + 6 ≤ R.slots)
    (kk : ∀ (H1 : Heap) (locs1 : List Loc), xm_R (dC, dI) xk_cl A0 ad dA xk_tC s.heap (fn as M).2 (cl + 1) H1 locs1 → W p l e R s m args below meth c H1 locs1 (cells + 1) (slots + 6) Q (F0 m (pc + 3) lsC (((fn as M).1.toList ++ rest).map (xm_v ad)))) : W p l e R s m args below meth c H locs cells slots Q (F0 m pc lsC ((as.reverse ++ rest).map (xm_v ad))) := by
  have hts := S.2.2.2.2
  have hns := xk_ns_ok
  have hgood : GoodIn xt_T (va_wsS own idx y (Cond.codeWith y bytes maxL (some .int) hh :: xt_T)) := by
    have hmem : ∀ w ∈ va_wsS own idx y (Cond.codeWith y bytes maxL (some .int) hh :: xt_T), w ∈ xt_T := by
      intro w hw
      rcases List.mem_append.mp hw with h | h
      · rcases List.mem_cons.mp h with rfl | h
        · exact hlk
        · rcases List.mem_cons.mp h with rfl | h
          · exact hstt
          · rcases List.mem_cons.mp h with rfl | h
            · exact hini
            · cases h
      · rcases List.mem_cons.mp h with rfl | h
        · exact hcode
        · exact h
    exact fun w hw => ⟨hmem w hw, xt_good w (hmem w hw)⟩
  have hAA : ∀ q, xm_A ad xk_tC.length q → A0 q := by
    rintro q ⟨k, hk, rfl⟩
    exact hA0 k hk
  have hfb : ∀ U : State, U.heap = H → s.WarmedH U.vm → (xm_ph "AbsenceRows" xh_ss xh_ps xk_cl xk_ns xk_tC dC dI dA ad as M) (as.map (xm_v ad)).toArray U := by
    intro U hU hW
    refine ⟨rfl, by rw [hU]; exact hR.1, va_K.moved hW.alike hK, hN.warm hns hW, hSr.warm hW, ⟨?_, ?_⟩, xm_nc.moved hW.alike hNc⟩
    · rw [hU]; exact ((hZ.1.kept (fun a h1 h2 => hR.2.1.2.1 a h1 h2)).narrow hAA).moved hW.alike
    · rw [hU]; exact ((hZ.2.kept (fun a h1 h2 => hR.2.1.2.1 a h1 h2)).narrow hAA).moved hW.alike
  have hstk : (as.reverse ++ rest).map (xm_v ad) = (as.map (xm_v ad)).reverse ++ rest.map (xm_v ad) := by simp
  have hrun := vx_runSW (R := R) (H := H) (locs := locs) (cells := cells) (slots := slots) (below := below) (e := e) (p := p) (meth := meth) (As := as.map (xm_v ad)) (rest := rest.map (xm_v ad)) (g := F0 m pc lsC ((as.reverse ++ rest).map (xm_v ad))) (n := np) (mc := 1) (ms := 6) S (hM dC dI dA ad as M hpre hj) (vx_cwSW (hh := hh) (rm := xr_h) np hts hgood rfl rfl rfl hd hrm) ⟨xm_phb hns, hfb⟩ rfl (by simpa using hn) hsz hstk (lv_room (by rw [xm_catmap]; exact hrest)) hdg hroom
  refine xl_back (v0 := (fn as M).1.map (xm_v ad)) (A := xm_A ad xk_tC.length) (A0 := A0) (PW := fun H1 => va_P (dC, dI) xk_cl (xm_W ad dA xk_tC (fn as M).2) H1) hrun hAA hR.2.1 (fun st o t q => q) (fun H1 locs1 a1 a2 a3 => ?_)
  have h1 := kk H1 locs1 ⟨a1, a3, fun z => by cases z⟩
  rw [← xm_tl] at h1
  exact h1
end XL2
/-! the relation sees no more than the class's and the model's places -/
theorem zR_cong {M N M' N' : xm_M} (hM : ∀ p, p < 34 → M' p = M p) (hN : ∀ q, q < 29 → N' q = N q) (h : zR M N) : zR M' N' := by
  have m0 := hM 0 (by decide)
  have m2 := hM 2 (by decide)
  have m3 := hM 3 (by decide)
  have m4 := hM 4 (by decide)
  have m5 := hM 5 (by decide)
  have m6 := hM 6 (by decide)
  have m7 := hM 7 (by decide)
  have m8 := hM 8 (by decide)
  have m9 := hM 9 (by decide)
  have m10 := hM 10 (by decide)
  have m11 := hM 11 (by decide)
  have m12 := hM 12 (by decide)
  have m13 := hM 13 (by decide)
  have m14 := hM 14 (by decide)
  have m15 := hM 15 (by decide)
  have m16 := hM 16 (by decide)
  have m17 := hM 17 (by decide)
  have m18 := hM 18 (by decide)
  have m19 := hM 19 (by decide)
  have m20 := hM 20 (by decide)
  have m21 := hM 21 (by decide)
  have m22 := hM 22 (by decide)
  have m23 := hM 23 (by decide)
  have m24 := hM 24 (by decide)
  have m25 := hM 25 (by decide)
  have m26 := hM 26 (by decide)
  have m27 := hM 27 (by decide)
  have m28 := hM 28 (by decide)
  have m29 := hM 29 (by decide)
  have m30 := hM 30 (by decide)
  have m31 := hM 31 (by decide)
  have m32 := hM 32 (by decide)
  have m33 := hM 33 (by decide)
  have n0 := hN 0 (by decide)
  have n1 := hN 1 (by decide)
  have n2 := hN 2 (by decide)
  have n3 := hN 3 (by decide)
  have n4 := hN 4 (by decide)
  have n5 := hN 5 (by decide)
  have n6 := hN 6 (by decide)
  have n7 := hN 7 (by decide)
  have n8 := hN 8 (by decide)
  have n9 := hN 9 (by decide)
  have n10 := hN 10 (by decide)
  have n11 := hN 11 (by decide)
  have n12 := hN 12 (by decide)
  have n13 := hN 13 (by decide)
  have n14 := hN 14 (by decide)
  have n15 := hN 15 (by decide)
  have n16 := hN 16 (by decide)
  have n17 := hN 17 (by decide)
  have n18 := hN 18 (by decide)
  have n19 := hN 19 (by decide)
  have n20 := hN 20 (by decide)
  have n21 := hN 21 (by decide)
  have n22 := hN 22 (by decide)
  have n23 := hN 23 (by decide)
  have n24 := hN 24 (by decide)
  have n25 := hN 25 (by decide)
  have n26 := hN 26 (by decide)
  have n27 := hN 27 (by decide)
  have n28 := hN 28 (by decide)
  obtain ⟨np, nc, na, nh, nk, cr, pt, h', hP, hC, hA, hQ, hK, hG⟩ := h
  refine ⟨np, nc, na, nh, nk, cr, pt, h', ?_, ?_, ?_, ?_, ?_, ?_⟩
  · unfold zP at hP ⊢
    rw [m2, m8, m9, m10, m11, m12, m13, m14, n0, n2, n3, n4, n5, n6, n7, n8]; exact hP
  · unfold zC at hC ⊢
    rw [m3, m15, m16, m17, n0, n9, n10, n11]; exact hC
  · unfold zA at hA ⊢
    rw [m4, m18, m19, m20, m21, m22, m23, m24, n0, n12, n13, n14, n15, n16, n17, n18]; exact hA
  · unfold zQ at hQ ⊢
    rw [m5, m25, m26, m27, n0, n19, n20, n21]; exact hQ
  · unfold zK zk1 zkm at hK ⊢
    rw [m6, m28, m29, m30, m31, m32, m33, n0, n22, n23, n24, n25, n26, n27, n28]; exact hK
  · unfold zG at hG ⊢
    rw [m0, m7, n0, n1]; exact hG
/-- what one call leaves, as the law's walk needs it -/
def xl_F (pre : List Value → xm_M → Prop) (fn : List Value → xm_M → Option Value × xm_M) (as1 : List Value) (kv : Int32) (M1 : xm_M) (val : Prop) : Prop :=
  pre as1 (xl_md M1) ∧ (fn as1 (xl_md M1)).2 0 0 = kv ∧ (kv = 0 → val → M1 63 0 = xm_ri (fn as1 (xl_md M1)).1) ∧ zR (xl_jn M1 (fn as1 (xl_md M1)).2) (xl_md (xl_jn M1 (fn as1 (xl_md M1)).2))
theorem xl_jR {M1 N2 Ma : xm_M} (hM : ∀ p, p < 34 → M1 p = Ma p) (h : zR Ma N2) : zR (xl_jn M1 N2) (xl_md (xl_jn M1 N2)) := by
  refine zR_cong (fun p hp => ?_) (fun q hq => ?_) h
  · show (if 34 ≤ p ∧ p < 63 then N2 (p - 34) else M1 p) = Ma p
    rw [if_neg (by omega), hM p hp]
  · show (if 34 ≤ q + 34 ∧ q + 34 < 63 then N2 (q + 34 - 34) else M1 (q + 34)) = N2 q
    rw [if_pos (by omega), Nat.add_sub_cancel]
/-- out of equal answers (with an answer) -/
theorem xl_zv {ft : Option String} {es : List String} {M M1 Ma : xm_M} {ra : Option Value} {kv : Int32} {pre : List Value → xm_M → Prop} {fn : List Value → xm_M → Option Value × xm_M} {as1 : List Value}
    (hg : (some (Value.int kv), M1) = (match ft with | none => (some (Value.int 0), xm_up (xm_mix 34 Ma M) 63 0 (xm_ri ra)) | some E => (some (Value.int (nI (xh_ix es E))), M)))
    (hpre : zR M (xl_md M1) → pre as1 (xl_md M1)) (hR : zR M (xl_md M)) (hz : zR M (xl_md M1) → zz ft es M Ma ra (fn as1 (xl_md M1))) : xl_F pre fn as1 kv M1 True := by
  have hR1 : zR M (xl_md M1) := by
    refine zR_cong (fun _ _ => rfl) (fun q hq => ?_) hR
    cases ft with
    | none =>
      have e : M1 = xm_up (xm_mix 34 Ma M) 63 0 (xm_ri ra) := (Prod.mk.inj hg).2
      show M1 (q + 34) = M (q + 34)
      rw [e, xm_up_o (by omega)]
      show (if q + 34 < 34 then Ma (q + 34) else M (q + 34)) = M (q + 34)
      rw [if_neg (by omega)]
    | some E =>
      have e : M1 = M := (Prod.mk.inj hg).2
      rw [e]
  rcases hz hR1 with ⟨h1, h2, h3, h4⟩ | ⟨E, h1, h2, h3, h4⟩
  · subst h1
    have e1 : kv = 0 := by
      have := (Prod.mk.inj hg).1
      exact Value.int.inj (Option.some.inj this)
    have e2 : M1 = xm_up (xm_mix 34 Ma M) 63 0 (xm_ri ra) := (Prod.mk.inj hg).2
    refine ⟨hpre hR1, by rw [h2, e1], fun _ _ => ?_, xl_jR (Ma := Ma) (fun p hp => ?_) h4⟩
    · rw [← h3, e2]; rfl
    · rw [e2, xm_up_o (by omega)]
      show (if p < 34 then Ma p else M p) = Ma p
      rw [if_pos hp]
  · subst h1
    have e1 : kv = nI (xh_ix es E) := Value.int.inj (Option.some.inj (Prod.mk.inj hg).1)
    have e2 : M1 = M := (Prod.mk.inj hg).2
    refine ⟨hpre hR1, by rw [h2, e1], fun z _ => absurd (by rw [h2, ← e1]; exact z) h3, xl_jR (Ma := M) (fun p hp => by rw [e2]) h4⟩
/-- .. without one -/
theorem xl_zn {ft : Option String} {es : List String} {M M1 Ma : xm_M} {ra : Option Value} {kv : Int32} {pre : List Value → xm_M → Prop} {fn : List Value → xm_M → Option Value × xm_M} {as1 : List Value}
    (hg : (some (Value.int kv), M1) = (match ft with | none => (some (Value.int 0), xm_mix 34 Ma M) | some E => (some (Value.int (nI (xh_ix es E))), M)))
    (hpre : zR M (xl_md M1) → pre as1 (xl_md M1)) (hR : zR M (xl_md M)) (hz : zR M (xl_md M1) → zz ft es M Ma ra (fn as1 (xl_md M1))) : xl_F pre fn as1 kv M1 False := by
  have hR1 : zR M (xl_md M1) := by
    refine zR_cong (fun _ _ => rfl) (fun q hq => ?_) hR
    cases ft with
    | none =>
      have e : M1 = xm_mix 34 Ma M := (Prod.mk.inj hg).2
      show M1 (q + 34) = M (q + 34)
      rw [e]
      show (if q + 34 < 34 then Ma (q + 34) else M (q + 34)) = M (q + 34)
      rw [if_neg (by omega)]
    | some E =>
      have e : M1 = M := (Prod.mk.inj hg).2
      rw [e]
  rcases hz hR1 with ⟨h1, h2, h3, h4⟩ | ⟨E, h1, h2, h3, h4⟩
  · subst h1
    have e1 : kv = 0 := Value.int.inj (Option.some.inj (Prod.mk.inj hg).1)
    have e2 : M1 = xm_mix 34 Ma M := (Prod.mk.inj hg).2
    refine ⟨hpre hR1, by rw [h2, e1], fun _ z => z.elim, xl_jR (Ma := Ma) (fun p hp => ?_) h4⟩
    rw [e2]
    show (if p < 34 then Ma p else M p) = Ma p
    rw [if_pos hp]
  · subst h1
    have e1 : kv = nI (xh_ix es E) := Value.int.inj (Option.some.inj (Prod.mk.inj hg).1)
    have e2 : M1 = M := (Prod.mk.inj hg).2
    exact ⟨hpre hR1, by rw [h2, e1], fun _ z => z.elim, xl_jR (Ma := M) (fun p hp => by rw [e2]) h4⟩
/-! room -/
def xl_cf (cl : Nat) : Nat := min (64 + cl) 1132
def xl_sf (cl : Nat) : Nat := min (5896 + 6 * cl) 14352
theorem xl_mono (n : Nat) : xl_cf n ≤ xl_cf (n + 1) ∧ xl_sf n ≤ xl_sf (n + 1) := by unfold xl_cf xl_sf; omega
theorem xl_cap (n : Nat) : xl_cf n ≤ room_1.cells ∧ xl_sf n ≤ room_1.slots := by
  show min (64 + n) 1132 ≤ 1132 ∧ min (5896 + 6 * n) 14352 ≤ 14352
  omega
