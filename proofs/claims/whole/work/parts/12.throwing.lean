/-! METHODS THAT RETURN OR THROW, over the small machine -/
def xm_sr (own : String) (ss : List (Nat × String)) (U : State) : Prop := ∀ q ∈ ss, ∃ a, vk_R own q.1 q.2 a U
theorem xm_sr.warm {own : String} {ss : List (Nat × String)} {s U : State} (hW : s.WarmedH U.vm) (h : xm_sr own ss s) : xm_sr own ss U := fun q hq => by
  obtain ⟨a, ha⟩ := h q hq
  exact ⟨a, vk_R.warm hW ha⟩
theorem xm_sr.same {own : String} {ss : List (Nat × String)} {s U : State} (e : U.vm = s.vm) (h : xm_sr own ss s) : xm_sr own ss U := fun q hq => by
  obtain ⟨a, ha⟩ := h q hq
  exact ⟨a, vk_R.same e ha⟩
/-- the two statics that a throw reads, apart from A -/
def xm_zq (A : Nat → Prop) (U : State) (H : Heap) : Prop := vx_Zq Bundle.tN "UNASSIGNED_STACK" Bundle.steD A U H ∧ vx_Zq Bundle.tN "SUPPRESSED_SENTINEL" Bundle.listD A U H
abbrev xm_pt (own : String) (ss : List (Nat × String)) (cls : List vw_C) (ns : List Cond) (tp : List xm_E) (dC : Nat → ClassId) (dI : Nat → Nat → Nat) (dA ad : Nat → Nat) (as : List Value) (M : xm_M) : Array Value → State → Prop := va_Pc (as.map (xm_v ad)) (fun U => va_P (dC, dI) cls (xm_W ad dA tp M) U.heap ∧ va_K (dC, dI) cls (xm_tys dA) U ∧ xm_Nw ns U ∧ xm_sr own ss U ∧ xm_zq (xm_A ad tp.length) U U.heap)
theorem xm_ptb {own : String} {ss : List (Nat × String)} {cls : List vw_C} {ns : List Cond} (hn : ∀ w ∈ ns, xm_isN w = true) {tp : List xm_E} {dC : Nat → ClassId} {dI : Nat → Nat → Nat} {dA ad : Nat → Nat} {as : List Value} {M : xm_M} : FrameBlind (xm_pt own ss cls ns tp dC dI dA ad as M) := by
  intro a U g mk q
  obtain ⟨q0, qP, qK, qN, qS, qZ⟩ := q
  exact ⟨q0, qP, va_K.moved (u := U) (U := U.calling g mk a) (Vm.Alike.refl U.vm) qK, xm_Nw.same (s := U) (U := U.calling g mk a) hn rfl qN, xm_sr.same (s := U) (U := U.calling g mk a) rfl qS, vx_Zq.moved (u := U) (U := U.calling g mk a) (Vm.Alike.refl U.vm) qZ.1, vx_Zq.moved (u := U) (U := U.calling g mk a) (Vm.Alike.refl U.vm) qZ.2⟩
/-- its contract: ft says whether it throws, and what -/
def xm_Th (l : Launch) (y : MethodName) (ws : List Cond) (rm : Room) (own : String) (ss : List (Nat × String)) (cls : List vw_C) (ns : List Cond) (tp : List xm_E) (pre : List Value → xm_M → Prop) (fn : List Value → xm_M → Option Value × xm_M) (ft : List Value → xm_M → Option String) : Prop :=
  ∀ (dC : Nat → ClassId) (dI : Nat → Nat → Nat) (dA ad : Nat → Nat) (as : List Value) (M : xm_M), pre as M → xm_inj ad tp.length → vx_Met l y ws rm (xm_pt own ss cls ns tp dC dI dA ad as M)
    (fun _ st o t => ft as M = none ∧ o = .returned ((fn as M).1.map (xm_v ad)) ∧ va_P (dC, dI) cls (xm_W ad dA tp (fn as M).2) t.heap ∧ va_F (xm_A ad tp.length) st t)
    (fun E st t => ft as M = some E ∧ va_P (dC, dI) cls (xm_W ad dA tp M) t.heap ∧ va_F (xm_A ad tp.length) st t) 1 6 (xm_A ad tp.length)
def xm_nms : List String := ["java/lang/RuntimeException", "java/lang/Exception"]
/-- a throw: the class's entry, the text's, the constructor's, whether the text's is wide, the class, the text -/
abbrev xm_Q : Type := Nat × Nat × Nat × Bool × String × String
def xm_thr (own : String) (Ts ns : List Cond) (ss : List (Nat × String)) (cc : ByteArray) (pc : Nat) (q : xm_Q) : Prop :=
  (decode cc pc = .ok (.new q.1, 3) ∧ decode cc (pc + 3) = .ok (.dup, 1) ∧ (bif q.2.2.2.1 then decode cc (pc + 4) = .ok (.ldc_w q.2.1, 3) ∧ decode cc (pc + 7) = .ok (.invokespecial q.2.2.1, 3) ∧ decode cc (pc + 10) = .ok (.athrow, 1) else decode cc (pc + 4) = .ok (.ldc q.2.1, 2) ∧ decode cc (pc + 6) = .ok (.invokespecial q.2.2.1, 3) ∧ decode cc (pc + 9) = .ok (.athrow, 1))) ∧
  Bundle.fit q.2.2.2.2.1 = true ∧ Cond.classLink own q.1 q.2.2.2.2.1 ∈ Ts ∧ Cond.initialized q.2.2.2.2.1 ∈ Ts ∧ (∀ w ∈ vx_atS own q.2.2.1 q.2.2.2.2.1 xm_nms, w ∈ Ts ∨ w ∈ ns) ∧ (∀ w ∈ Cond.classLink own q.1 q.2.2.2.2.1 :: Cond.initialized q.2.2.2.2.1 :: vx_atS own q.2.2.1 q.2.2.2.2.1 xm_nms, vx_ot w = true) ∧ (q.2.1, q.2.2.2.2.2) ∈ ss
section XMT
variable {l : Launch} {y : MethodName} {cc : ByteArray} {maxL : Nat} {ret : Option FieldType} {rt : FieldType} {Ts ns : List Cond} {cls : List vw_C} {tp : List xm_E} {fl : List (Nat × Nat × Nat)} {ct : List (Nat × xm_C)} {cn : List (Nat × Int32)} {cj : List (Nat × Int64)} {pr : xm_P} {rm : Room} {ss : List (Nat × String)} {tt : List (Nat × xm_Q)}
theorem xm_mk_th (hl : l.stackTraces = false) (hy : plainName y.cls = true) (hst : xm_stt y.cls Ts ns cls tp fl cn cj) (hch : xm_chb cc pr = true) (h0 : xm_hd1 pr = some 0) (hret : ret = none ∨ ret = some rt) (hct : ∀ n C, (n, C) ∈ ct → xm_lkS l y.cls Ts ns rm cls tp n C ∨ xm_lkV l y.cls Ts ns rm cls tp n C)
    (htt : ∀ q ∈ tt, xm_thr y.cls Ts ns ss cc q.1 q.2) (hrm : 6 ≤ rm.frames ∧ 100 ≤ rm.locals ∧ rm.cells = 1 ∧ rm.slots = 6)
    {pre : List Value → xm_M → Prop} {fn : List Value → xm_M → Option Value × xm_M} {ft : List Value → xm_M → Option String}
    (Kn : List Value → xm_M → Nat → Nat → List (Nat × Value) → List Value → xm_M → Nat → Prop) (hargs : ∀ as M, pre as M → (lg_sl as).length ≤ maxL)
    (hsome : ∀ as M, pre as M → ((fn as M).1 = none ↔ ret = none)) (hlong : ∀ as M v, pre as M → some (Value.long v) = (fn as M).1 → False)
    (hlp : ∀ as M, pre as M → ∀ j pc ls st M' cl, Kn as M j pc ls st M' cl → ∃ n, xm_w 0 (fun _ => 0) pr fl ct cn cj tp rt maxL (fun r M2 _ => ft as M = none ∧ r = (fn as M).1 ∧ M2 = (fn as M).2) (fun pc _ _ cl => cl = 0 ∧ ∃ q, xm_lk tt pc = some q ∧ ft as M = some q.2.2.2.2.1) (fun pc ls st M' cl => ∃ i, i < j ∧ Kn as M i pc ls st M' cl) n false (xm_at pr pc) ls st M' cl)
    (hvc : ∀ as M, pre as M → ∃ n, xm_w 0 (fun _ => 0) pr fl ct cn cj tp rt maxL (fun r M2 _ => ft as M = none ∧ r = (fn as M).1 ∧ M2 = (fn as M).2) (fun pc _ _ cl => cl = 0 ∧ ∃ q, xm_lk tt pc = some q ∧ ft as M = some q.2.2.2.2.1) (fun pc ls st M' cl => ∃ i, Kn as M i pc ls st M' cl) n false pr (lv_args 0 as) [] M 0) :
    xm_Th l y (Cond.code y cc maxL ret :: Ts) rm y.cls ss cls ns tp pre fn ft := by
  intro dC dI dA ad as M hpre hj
  refine vx_ofW (cc := cc) (maxL := maxL) (ret := ret) hy rfl ?_
  intro p e s m args below meth c s₁ B hml htab hv
  obtain ⟨rfl, hP, hK, hN, hSr, hZ⟩ := hv
  have hx := B.exec
  have hb := B.bytes
  have hr := B.returns
  have hts0 := atoms_spec (ws := Cond.code y cc maxL ret :: Ts) B.pre
  have hts : ∀ w ∈ Ts, w.before (as.map (xm_v ad)).toArray s = true := fun w h => hts0 w (List.mem_cons_of_mem _ h)
  have hown : s.vm.findClass y.cls = some m.cls := findClass_of_methodNamed B.named
  have hlocks := B.notSynchronized
  refine xm_body (rm := rm) hst hch h0 hct hx hb hml hown hts hK hN hj (Qr := fun r M2 _ => ft as M = none ∧ r = (fn as M).1 ∧ M2 = (fn as M).2) (Qt := fun pc _ _ cl => cl = 0 ∧ ∃ q, xm_lk tt pc = some q ∧ ft as M = some q.2.2.2.2.1) ?_ ?_ ?_ ?_ (Kn as M) (hargs as M hpre) (hlp as M hpre) (hvc as M hpre) hP
  · intro pc v M' cl H locs lsC hdg hn hq hR
    obtain ⟨e0, e1, e2⟩ := hq
    subst e2
    have hr' : meth.sig.returnType = some rt := by
      rcases hret with h | h
      · exact absurd ((hsome as M hpre).mpr h) (by rw [← e1]; simp)
      · rw [hr, h]
    exact W.widen (k := 1) (n := 6) (Nat.zero_le _) (Nat.zero_le _) (vx_ret (W.zret hx hb hr' hn (fun t ht _ => ⟨e0, by rw [← e1]; rfl, by rw [ht]; exact hR.1, hR.2.1.F ht⟩) hR.2.1.2.2 hdg))
  · intro pc v M' cl H locs lsC hdg hq hR
    exact (hlong as M v hpre hq.2.1).elim
  · intro pc M' cl H locs lsC hdg hq hR
    obtain ⟨e0, e1, e2⟩ := hq
    subst e2
    have hr' : meth.sig.returnType = none := by rw [hr]; exact (hsome as M hpre).mp e1.symm
    exact W.widen (k := 1) (n := 6) (Nat.zero_le _) (Nat.zero_le _) (vx_ret (W.vret hx hb hr' (fun t ht _ => ⟨e0, by rw [← e1]; rfl, by rw [ht]; exact hR.1, hR.2.1.F ht⟩) hR.2.1.2.2 hdg))
  · intro pc n M' cl H locs lsC hdg hq hR hsz
    obtain ⟨e0, q, e1, e2⟩ := hq
    obtain ⟨eH, eL⟩ := hR.2.2 e0
    subst eH; subst eL
    obtain ⟨⟨d0, d3, dd⟩, hfit, hcl, hini, hat, hot, hss⟩ := htt (pc, q) (xm_lk_mem e1)
    obtain ⟨sa, hsa⟩ := hSr _ hss
    have hat' : ∀ w ∈ vx_atS y.cls q.2.2.1 q.2.2.2.2.1 xm_nms, w.before (as.map (xm_v ad)).toArray s = true := by
      intro w hw
      rcases hat w hw with h | h
      · exact hts w h
      · have h1 := hot w (List.mem_cons_of_mem _ (List.mem_cons_of_mem _ hw))
        exact vx_ot_at (args := #[]) (State.WarmedH.refl s) rfl h1 (hN w h)
    have hxc : ∀ t : State, s.vm.Alike t.vm → s.heap.size ≤ t.heap.size → (∀ a : Nat, a < s.heap.size → t.heap[a]? = s.heap[a]?) → ft as M = some q.2.2.2.2.1 ∧ va_P (dC, dI) cls (xm_W ad dA tp M) t.heap ∧ va_F (xm_A ad tp.length) s t := by
      intro t _ h1 h2
      refine ⟨e2, fun k z hk => ?_, h1, fun a ha _ => h2 a ha⟩
      exact (hP k z hk).kept (h2 _ (hP k z hk).lt)
    have hout : ∀ (x : ExceptionTableEntry), x ∈ c.exceptionTable.toList → ∀ z, covers x z = false := fun x hx => (htab x hx).elim
    obtain ⟨q1, q2, q3, wd, X, tx⟩ := q
    dsimp only at d0 d3 dd hfit hcl hini hat hot hss hsa hat' hxc e2
    cases wd with
    | true =>
      obtain ⟨d4, d7, d10⟩ := dd
      exact vx_throwSW hx hb hl (own := y.cls) (cls := X) (text := tx) (names := xm_nms) (ik := q1) (is := q2) (ic := q3) (A := xm_A ad tp.length) hown hfit (by decide) (hts _ hcl) (hts _ hini) hsa hat' hot hZ.1 hZ.2 va_S.rf (hsz.trans hml.symm) d0 d3 d4 d7 d10 (fun x hx => hout x hx _) (by show 2 + 3 < rm.frames; omega) (by show 0 + (13 * (2 + 1) + 43) ≤ rm.locals; omega) (by show 0 + 1 ≤ rm.cells; omega) (by show 0 + 6 ≤ rm.slots; omega) hlocks hxc (fun z h => by cases h) (Nat.le_refl _) (Nat.le_refl _)
    | false =>
      obtain ⟨d4, d7, d10⟩ := dd
      exact vx_throwS hx hb hl (own := y.cls) (cls := X) (text := tx) (names := xm_nms) (ik := q1) (is := q2) (ic := q3) (A := xm_A ad tp.length) hown hfit (by decide) (hts _ hcl) (hts _ hini) hsa hat' hot hZ.1 hZ.2 va_S.rf (hsz.trans hml.symm) d0 d3 d4 d7 d10 (fun x hx => hout x hx _) (by show 2 + 3 < rm.frames; omega) (by show 0 + (13 * (2 + 1) + 43) ≤ rm.locals; omega) (by show 0 + 1 ≤ rm.cells; omega) (by show 0 + 6 ≤ rm.slots; omega) hlocks hxc (fun z h => by cases h) (Nat.le_refl _) (Nat.le_refl _)
end XMT
