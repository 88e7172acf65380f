/-! CONTRACTS over the small machine: what a method asks and answers; a call's row out of a contract -/
def xm_Nw (ns : List Cond) (U : State) : Prop := ∀ w ∈ ns, va_Nw w U
def xm_isN (w : Cond) : Bool := match w with
  | .methodLinkNest .. => true
  | .fieldLinkNest .. => true
  | .castable .. => true
  | .declares .. => true
  | _ => false
theorem xm_Nw.warm {ns : List Cond} (hn : ∀ w ∈ ns, xm_isN w = true) {s U : State} (hW : s.WarmedH U.vm) (h : xm_Nw ns s) : xm_Nw ns U := by
  intro w hw
  have h1 := hn w hw
  have h2 := h w hw
  cases w <;> first | exact va_Nw.warmM hW h2 | exact va_Nw.warmF hW h2 | exact va_Nw.warmC hW h2 | exact va_Nw.warmD hW h2 | exact nomatch h1
theorem xm_Nw.same {ns : List Cond} (hn : ∀ w ∈ ns, xm_isN w = true) {s U : State} (e : s.vm = U.vm) (h : xm_Nw ns s) : xm_Nw ns U := by
  intro w hw
  have h1 := hn w hw
  have h2 := h w hw
  cases w <;> first | exact va_Nw.same rfl e h2 | exact nomatch h1
def xm_A (ad : Nat → Nat) (n : Nat) : Nat → Prop := fun q => ∃ k, k < n ∧ q = ad k
def xm_inj (ad : Nat → Nat) (n : Nat) : Prop := ∀ i j, i < n → j < n → ad i = ad j → i = j
/-- a contract's start -/
abbrev xm_pc (cls : List vw_C) (ns : List Cond) (tp : List xm_E) (dC : Nat → ClassId) (dI : Nat → Nat → Nat) (dA ad : Nat → Nat) (as : List Value) (M : xm_M) : Array Value → State → Prop := va_Pc (as.map (xm_v ad)) (fun U => va_P (dC, dI) cls (xm_W ad dA tp M) U.heap ∧ va_K (dC, dI) cls (xm_tys dA) U ∧ xm_Nw ns U)
/-- a method that writes nothing -/
def xm_Pu (l : Launch) (y : MethodName) (ws : List Cond) (rm : Room) (cls : List vw_C) (ns : List Cond) (tp : List xm_E) (pre : List Value → xm_M → Prop) (fn : List Value → xm_M → Option Value × xm_M) : Prop :=
  ∀ (dC : Nat → ClassId) (dI : Nat → Nat → Nat) (dA ad : Nat → Nat) (as : List Value) (M : xm_M), pre as M → xm_inj ad tp.length → Met l y ws rm (xm_pc cls ns tp dC dI dA ad as M) (fun _ st o t => o = .returned ((fn as M).1.map (xm_v ad)) ∧ t.heap = st.heap) 0 0 (fun _ => False)
/-- a method that writes within its world -/
def xm_Wr (l : Launch) (y : MethodName) (ws : List Cond) (rm : Room) (cls : List vw_C) (ns : List Cond) (tp : List xm_E) (pre : List Value → xm_M → Prop) (fn : List Value → xm_M → Option Value × xm_M) : Prop :=
  ∀ (dC : Nat → ClassId) (dI : Nat → Nat → Nat) (dA ad : Nat → Nat) (as : List Value) (M : xm_M), pre as M → xm_inj ad tp.length → Met l y ws rm (xm_pc cls ns tp dC dI dA ad as M) (fun _ st o t => o = .returned ((fn as M).1.map (xm_v ad)) ∧ va_P (dC, dI) cls (xm_W ad dA tp (fn as M).2) t.heap ∧ va_F (xm_A ad tp.length) st t) 0 0 (xm_A ad tp.length)
theorem xm_blind {cls : List vw_C} {ns : List Cond} (hn : ∀ w ∈ ns, xm_isN w = true) {tp : List xm_E} {dC : Nat → ClassId} {dI : Nat → Nat → Nat} {dA ad : Nat → Nat} {as : List Value} {M : xm_M} : FrameBlind (xm_pc cls ns tp dC dI dA ad as M) := by
  intro a U g mk q
  obtain ⟨q0, qP, qK, qN⟩ := q
  exact ⟨q0, qP, va_K.moved (u := U) (U := U.calling g mk a) (Vm.Alike.refl U.vm) qK, xm_Nw.same (s := U) (U := U.calling g mk a) hn rfl qN⟩
section XMC
variable {p : Program} {l : Launch} {e : Env} {R : Room} {s : State} {m : MethodId} {args : Array Value} {below : List Frame} {meth : Method} {c : Code} {H : Heap} {locs : List Loc} {cells slots : Nat} {Q : State → Prop}
variable {g : JFrame} {rest : List Value}
/-- behind a call that wrote nothing -/
theorem xm_back {v0 : Option Value} {Qa : State → Outcome → State → Prop} (hr : va_Run p l e R s m args below meth c H locs cells slots 0 0 g rest Qa (fun _ => False)) (hq : ∀ st o t, Qa st o t → o = .returned v0 ∧ t.heap = st.heap)
    (kk : W p l e R s m args below meth c H locs cells slots Q { g with pc := g.pc + 3, stack := v0.toList ++ rest }) : W p l e R s m args below meth c H locs cells slots Q g := by
  intro T hT X
  obtain ⟨v, st₀, t, T', L, h0, X', hL, e1, e2, hqa, st⟩ := hr T hT X
  obtain ⟨hv, hh⟩ := hq _ _ _ hqa
  cases hv
  have hL0 : L = [] := by
    cases L with
    | nil => rfl
    | cons a r => exact (hL a List.mem_cons_self).elim
  subst hL0
  rw [List.append_nil] at X'
  obtain ⟨t2, a1, b1⟩ := kk T' (by rw [e1, hh, h0]) X'
  exact ⟨t2, st t2 a1, b1⟩
/-- behind a call that wrote within A -/
theorem xm_backW {v0 : Option Value} {A A0 : Nat → Prop} {H0 : Heap} {PW : Heap → Prop} {Qa : State → Outcome → State → Prop} (hr : va_Run p l e R s m args below meth c H locs cells slots 0 0 g rest Qa A) (hA : ∀ q, A q → A0 q) (hS : va_S A0 H0 H locs)
    (hq : ∀ st o t, Qa st o t → o = .returned v0 ∧ PW t.heap ∧ va_F A st t)
    (kk : ∀ (H1 : Heap) (locs1 : List Loc), PW H1 → va_S A0 H0 H1 locs1 → W p l e R s m args below meth c H1 locs1 cells slots Q { g with pc := g.pc + 3, stack := v0.toList ++ rest }) : W p l e R s m args below meth c H locs cells slots Q g := by
  intro T hT X
  obtain ⟨v, st₀, t, T', L, h0, X', hL, e1, e2, hqa, st⟩ := hr T hT X
  obtain ⟨hv, hP, hF⟩ := hq _ _ _ hqa
  cases hv
  have hS1 : va_S A0 H0 t.heap (locs ++ L) := by
    refine ⟨Nat.le_trans hS.1 (by rw [← h0]; exact hF.1), fun q hq1 hq2 => ?_, fun x hx => ?_⟩
    · have h1 : q < st₀.heap.size := by rw [h0]; exact Nat.lt_of_lt_of_le hq1 hS.1
      rw [hF.2 q h1 (fun z => hq2 (hA q z)), h0]
      exact hS.2.1 q hq1 hq2
    · rcases List.mem_append.mp hx with h1 | h1
      · exact hS.2.2 x h1
      · exact hA _ (hL x h1)
  obtain ⟨t2, a1, b1⟩ := kk t.heap (locs ++ L) hP hS1 T' e1 X'
  exact ⟨t2, st t2 a1, b1⟩
end XMC
/-- one call's row -/
def xm_row (Wf : Nat → Heap → List Loc → JFrame → Prop) (m : MethodId) (Rl : xm_M → Nat → Heap → List Loc → Prop) (ad : Nat → Nat) (nL : Nat) (cc : ByteArray) (n : Nat) (C : xm_C) : Prop := ∀ (pc : Nat) (as rest : List Value) (M : xm_M) (cl : Nat) (H : Heap) (locs : List Loc) (lsC : Array Slot),
  as.length = C.2.1 → decode cc pc = .ok (xm_ci C.1 n, 3) → (rest.map (fun v => v.category)).sum ≤ 8 → C.2.2.2.1 as M → Rl M cl H locs → lsC.size = nL →
  (∀ (H1 : Heap) (locs1 : List Loc), Rl (xm_mem C as M) (cl + C.2.2.1) H1 locs1 → Wf (cl + C.2.2.1) H1 locs1 (F0 m (pc + 3) lsC (((C.2.2.2.2 as M).1.toList ++ rest).map (xm_v ad)))) → Wf cl H locs (F0 m pc lsC ((as.reverse ++ rest).map (xm_v ad)))
theorem xm_okC_of {Wf : Nat → Heap → List Loc → JFrame → Prop} {m : MethodId} {Rl : xm_M → Nat → Heap → List Loc → Prop} {ad : Nat → Nat} {nL : Nat} {cc : ByteArray} {ct : List (Nat × xm_C)} (h : ∀ n C, (n, C) ∈ ct → xm_row Wf m Rl ad nL cc n C) : xm_okC Wf m Rl ad nL cc ct := by
  intro kd n pc st M cl tl ls k H locs lsC hdg hc hR hsz kk
  unfold xm_call at hc
  cases hl : xm_lk ct n with
  | none => rw [hl] at hc; exact False.elim hc
  | some C =>
    rw [hl] at hc
    obtain ⟨e1, hn, hr, hp, hk⟩ := hc
    subst e1
    have hst : ((st.take C.2.1).reverse).reverse ++ st.drop C.2.1 = st := by rw [List.reverse_reverse, List.take_append_drop]
    have h1 := h n C (xm_lk_mem hl) pc (st.take C.2.1).reverse (st.drop C.2.1) M cl H locs lsC (by rw [List.length_reverse, List.length_take]; omega) hdg hr hp hR hsz (fun H1 locs1 hR1 => kk _ _ _ H1 locs1 (xm_aft_of hk) hR1)
    rw [hst] at h1
    exact h1
theorem xm_catmap (ad : Nat → Nat) (st : List Value) : ((st.map (xm_v ad)).map (fun v => v.category)) = st.map (fun v => v.category) := by
  rw [List.map_map]
  apply List.map_congr_left
  intro v _
  exact xm_cat ad v
/-- words that a call may hand on -/
def xm_good (Ts : List Cond) : Prop := ∀ w ∈ Ts, (w.onTables && w.keeps) = true ∨ ∃ ty, w = .arrayClass ty
/-- what links a call by the pool's row n of class own to a contract -/
def xm_lkB (own : String) (Ts : List Cond) (rm rmC : Room) (n : Nat) (y : MethodName) (bytes : ByteArray) (maxL : Nat) (ret : Option FieldType) (np : Nat) : Prop :=
  Cond.code y bytes maxL ret ∈ Ts ∧ Cond.initialized y.cls ∈ Ts ∧ (y.cls ≠ "java/lang/invoke/MethodHandle" ∧ y.cls ≠ "java/lang/invoke/VarHandle" ∧ (parseMethodDescriptor y.desc).map (fun d => d.parameters.length) = some np) ∧ (rmC.frames + 1 ≤ rm.frames ∧ 8 + (maxL + 11) + rmC.locals ≤ rm.locals) ∧ rmC.cells = 0 ∧ rmC.slots = 0
/-- static, in the own class or seen from it -/
def xm_lkS (l : Launch) (own : String) (Ts ns : List Cond) (rm : Room) (cls : List vw_C) (tp : List xm_E) (n : Nat) (C : xm_C) : Prop := ∃ (y : MethodName) (bytes : ByteArray) (maxL : Nat) (ret : Option FieldType) (rmC : Room), C.1 = 1 ∧ xm_lkB own Ts rm rmC n y bytes maxL ret C.2.1 ∧ Cond.static y ∈ Ts ∧
  (Cond.methodLink own n y ∈ Ts ∨ ∃ host, Cond.methodLinkNest own n y host ∈ ns) ∧
  ((C.2.2.1 = 0 ∧ (∀ as M, (C.2.2.2.2 as M).2 = M) ∧ xm_Pu l y (Cond.code y bytes maxL ret :: Ts) rmC cls ns tp C.2.2.2.1 C.2.2.2.2) ∨ (C.2.2.1 = 1 ∧ xm_Wr l y (Cond.code y bytes maxL ret :: Ts) rmC cls ns tp C.2.2.2.1 C.2.2.2.2))
/-- virtual, on the one object at a place -/
def xm_lkV (l : Launch) (own : String) (Ts ns : List Cond) (rm : Room) (cls : List vw_C) (tp : List xm_E) (n : Nat) (C : xm_C) : Prop := ∃ (y : MethodName) (bytes : ByteArray) (maxL : Nat) (ret : Option FieldType) (rmC : Room) (np q0 ci : Nat) (fk : List (Option Nat)) (T : u_T) (N : Nat), C.1 = 0 ∧ C.2.1 = np + 1 ∧ xm_lkB own Ts rm rmC n y bytes maxL ret np ∧
  Cond.methodLink own n y ∈ Ts ∧ Cond.instanceMethod y ∈ Ts ∧ Cond.selects y.cls y y ∈ Ts ∧ tp[q0]? = some (.inr (ci, fk)) ∧ cls[ci]? = some (y.cls, T, N) ∧ (∀ as M, C.2.2.2.1 as M → ∃ as', as = .ref q0 :: as') ∧
  ((C.2.2.1 = 0 ∧ (∀ as M, (C.2.2.2.2 as M).2 = M) ∧ xm_Pu l y (Cond.code y bytes maxL ret :: Ts) rmC cls ns tp C.2.2.2.1 C.2.2.2.2) ∨ (C.2.2.1 = 1 ∧ xm_Wr l y (Cond.code y bytes maxL ret :: Ts) rmC cls ns tp C.2.2.2.1 C.2.2.2.2))
theorem xm_goodIn {Ts : List Cond} (hg : xm_good Ts) {y : MethodName} {b : ByteArray} {n : Nat} {r : Option FieldType} (h : Cond.code y b n r ∈ Ts) : GoodIn Ts (Cond.code y b n r :: Ts) := by
  intro w hw
  rcases List.mem_cons.mp hw with rfl | h1
  · exact ⟨h, hg _ h⟩
  · exact ⟨h1, hg _ h1⟩
theorem xm_tl (ad : Nat → Nat) (o : Option Value) (rest : List Value) : (o.map (xm_v ad)).toList ++ rest.map (xm_v ad) = (o.toList ++ rest).map (xm_v ad) := by
  cases o <;> simp
section XMR
variable {p : Program} {l : Launch} {e : Env} {rm : Room} {s : State} {m : MethodId} {args : Array Value} {below : List Frame} {meth : Method} {c : Code} {cf sf : Nat → Nat} {Q : State → Prop}
variable {cc : ByteArray} {dC : Nat → ClassId} {dI : Nat → Nat → Nat} {cls : List vw_C} {ad dA : Nat → Nat} {tp : List xm_E} {nL : Nat} {own : String} {Ts ns : List Cond}
theorem xm_rowS (S : CallFix p m c cc nL s args Ts own) (hg : xm_good Ts) (hns : ∀ w ∈ ns, xm_isN w = true) (hN : xm_Nw ns s) (hK : va_K (dC, dI) cls (xm_tys dA) s) (hj : xm_inj ad tp.length) (hmono : ∀ n, cf n ≤ cf (n + 1) ∧ sf n ≤ sf (n + 1)) (hcs : ∀ n, cf n ≤ rm.cells ∧ sf n ≤ rm.slots) {n : Nat} {C : xm_C} (h : xm_lkS l own Ts ns rm cls tp n C) :
    xm_row (fun cl H locs g => W p l e rm s m args below meth c H locs (cf cl) (sf cl) Q g) m (xm_R (dC, dI) cls (xm_A ad tp.length) ad dA tp s.heap) ad nL cc n C := by
  obtain ⟨kd, np, pu, pre, fn⟩ := C
  obtain ⟨y, bytes, maxL, ret, rmC, hkd, ⟨hcode, hini, hd, hrm, hrc, hrs⟩, hst, hlink, hM⟩ := h
  dsimp only at hkd hd hM
  subst hkd
  have hts := S.2.2.2.2
  intro pc as rest M cl H locs lsC hn hdg hr hpre hR hsz kk
  dsimp only at hn hpre kk ⊢
  have hdg' : decode cc pc = .ok (.invokestatic n, 3) := hdg
  have hfb : ∀ U : State, U.heap = H → s.WarmedH U.vm → (xm_pc cls ns tp dC dI dA ad as M) (as.map (xm_v ad)).toArray U := fun U hU hW => ⟨rfl, by rw [hU]; exact hR.1, va_K.moved hW.alike hK, hN.warm hns hW⟩
  have hstk : ((as.reverse ++ rest).map (xm_v ad)) = (as.map (xm_v ad)).reverse ++ rest.map (xm_v ad) := by simp
  have hrun : ∀ {Qc : Array Value → State → Outcome → State → Prop} {free : Addr → Prop}, Met l y (Cond.code y bytes maxL ret :: Ts) rmC (xm_pc cls ns tp dC dI dA ad as M) Qc 0 0 free →
      va_Run p l e rm s m args below meth c H locs (cf cl) (sf cl) 0 0 (F0 m pc lsC ((as.reverse ++ rest).map (xm_v ad))) (rest.map (xm_v ad)) (Qc (as.map (xm_v ad)).toArray) free := by
    intro Qc free hMet
    rcases hlink with hl | ⟨host, hl⟩
    · exact va_runS (As := as.map (xm_v ad)) (rest := rest.map (xm_v ad)) S hMet ⟨callB_of np hts (xm_goodIn hg hcode) rfl hrc hrs (hts _ hini) (hts _ hl) hd hrm, hts _ hst⟩ ⟨xm_blind hns, hfb⟩ rfl (by simpa using hn) hsz hstk (lv_room (by rw [xm_catmap]; exact hr)) hdg' (hcs cl)
    · exact va_runSN (host := host) (As := as.map (xm_v ad)) (rest := rest.map (xm_v ad)) S hMet ⟨va_cnB np hts (xm_goodIn hg hcode) rfl hrc hrs (hN _ hl) (hts _ hini) hd hrm, hts _ hst, trivial⟩ ⟨xm_blind hns, hfb⟩ rfl (by simpa using hn) hsz hstk (lv_room (by rw [xm_catmap]; exact hr)) hdg' (hcs cl)
  rcases hM with ⟨hpu, hsame, hM⟩ | ⟨hpu, hM⟩
  · subst hpu
    refine xm_back (v0 := (fn as M).1.map (xm_v ad)) (hrun (hM dC dI dA ad as M hpre hj)) (fun st o t q => q) ?_
    have h1 := kk H locs hR
    rw [← xm_tl] at h1
    exact h1
  · subst hpu
    refine xm_backW (v0 := (fn as M).1.map (xm_v ad)) (A := xm_A ad tp.length) (A0 := xm_A ad tp.length) (PW := fun H1 => va_P (dC, dI) cls (xm_W ad dA tp (fn as M).2) H1) (hrun (hM dC dI dA ad as M hpre hj)) (fun _ q => q) hR.2.1 (fun st o t q => q) (fun H1 locs1 a1 a2 => ?_)
    have h1 := kk H1 locs1 ⟨a1, a2, fun z => by cases z⟩
    rw [← xm_tl] at h1
    exact W.widen (hmono cl).1 (hmono cl).2 h1
theorem xm_rowV (S : CallFix p m c cc nL s args Ts own) (hg : xm_good Ts) (hns : ∀ w ∈ ns, xm_isN w = true) (hN : xm_Nw ns s) (hK : va_K (dC, dI) cls (xm_tys dA) s) (hj : xm_inj ad tp.length) (hmono : ∀ n, cf n ≤ cf (n + 1) ∧ sf n ≤ sf (n + 1)) (hcs : ∀ n, cf n ≤ rm.cells ∧ sf n ≤ rm.slots) {n : Nat} {C : xm_C} (h : xm_lkV l own Ts ns rm cls tp n C) :
    xm_row (fun cl H locs g => W p l e rm s m args below meth c H locs (cf cl) (sf cl) Q g) m (xm_R (dC, dI) cls (xm_A ad tp.length) ad dA tp s.heap) ad nL cc n C := by
  obtain ⟨kd, na, pu, pre, fn⟩ := C
  obtain ⟨y, bytes, maxL, ret, rmC, np, q0, ci, fk, T, N, hkd, hna, ⟨hcode, hini, hd, hrm, hrc, hrs⟩, hl, hin, hse, htp, hcl, hrec, hM⟩ := h
  dsimp only at hkd hna hrec hM
  subst hkd
  subst hna
  have hts := S.2.2.2.2
  intro pc as rest M cl H locs lsC hn hdg hr hpre hR hsz kk
  dsimp only at hn hpre kk ⊢
  have hdg' : decode cc pc = .ok (.invokevirtual n, 3) := hdg
  obtain ⟨as', rfl⟩ := hrec as M hpre
  have hfb : ∀ U : State, U.heap = H → s.WarmedH U.vm → (xm_pc cls ns tp dC dI dA ad (.ref q0 :: as') M) (Value.ref (ad q0) :: as'.map (xm_v ad)).toArray U := fun U hU hW => ⟨rfl, by rw [hU]; exact hR.1, va_K.moved hW.alike hK, hN.warm hns hW⟩
  have hstk : (((Value.ref q0 :: as').reverse ++ rest).map (xm_v ad)) = (as'.map (xm_v ad)).reverse ++ Value.ref (ad q0) :: rest.map (xm_v ad) := by simp [xm_v]
  have hrun : ∀ {Qc : Array Value → State → Outcome → State → Prop} {free : Addr → Prop}, Met l y (Cond.code y bytes maxL ret :: Ts) rmC (xm_pc cls ns tp dC dI dA ad (.ref q0 :: as') M) Qc 0 0 free →
      va_Run p l e rm s m args below meth c H locs (cf cl) (sf cl) 0 0 (F0 m pc lsC (((Value.ref q0 :: as').reverse ++ rest).map (xm_v ad))) (rest.map (xm_v ad)) (Qc (Value.ref (ad q0) :: as'.map (xm_v ad)).toArray) free := by
    intro Qc free hMet
    exact va_runV (C := y.cls) (b := ad q0) (As := as'.map (xm_v ad)) (rest := rest.map (xm_v ad)) S hMet ⟨callB_of np hts (xm_goodIn hg hcode) rfl hrc hrs (hts _ hini) (hts _ hl) hd hrm, hts _ hin, hts _ hse⟩ ⟨xm_blind hns, va_recv hK hR.1 hcl (xm_W_at htp), hfb⟩ rfl (by simpa using hn) hsz hstk (lv_room (by rw [xm_catmap]; exact hr)) hdg' (hcs cl)
  rcases hM with ⟨hpu, hsame, hM⟩ | ⟨hpu, hM⟩
  · subst hpu
    refine xm_back (v0 := (fn (.ref q0 :: as') M).1.map (xm_v ad)) (hrun (hM dC dI dA ad _ M hpre hj)) (fun st o t q => q) ?_
    have h1 := kk H locs hR
    rw [← xm_tl] at h1
    exact h1
  · subst hpu
    refine xm_backW (v0 := (fn (.ref q0 :: as') M).1.map (xm_v ad)) (A := xm_A ad tp.length) (A0 := xm_A ad tp.length) (PW := fun H1 => va_P (dC, dI) cls (xm_W ad dA tp (fn (.ref q0 :: as') M).2) H1) (hrun (hM dC dI dA ad _ M hpre hj)) (fun _ q => q) hR.2.1 (fun st o t q => q) (fun H1 locs1 a1 a2 => ?_)
    have h1 := kk H1 locs1 ⟨a1, a2, fun z => by cases z⟩
    rw [← xm_tl] at h1
    exact W.widen (hmono cl).1 (hmono cl).2 h1
end XMR
/-- what a method's walk leans on, decided once -/
def xm_stt (own : String) (Ts ns : List Cond) (cls : List vw_C) (tp : List xm_E) (fl : List (Nat × Nat × Nat)) (cn : List (Nat × Int32)) (cj : List (Nat × Int64)) : Prop :=
  xm_good Ts ∧ (∀ w ∈ ns, xm_isN w = true) ∧ (∀ n v, (n, v) ∈ cn → Cond.constant own n v ∈ Ts) ∧ (∀ n v, (n, v) ∈ cj → Cond.constantLong own n v ∈ Ts) ∧ xm_okP fl cls tp ∧
  (∀ n ci kf, (n, ci, kf) ∈ fl → ∃ C T N, cls[ci]? = some (C, T, N) ∧ kf < N ∧ (∀ w ∈ u_ws C T N, w ∈ Ts) ∧ (Cond.fieldLink own n (T kf).1 (T kf).2.1 (T kf).2.2.1 ∈ Ts ∨ ∃ host, Cond.fieldLinkNest own n (T kf).1 (T kf).2.1 (T kf).2.2.1 host ∈ ns))

theorem xm_args (ad : Nat → Nat) : ∀ (as : List Value) (i : Nat), lv_args i (as.map (xm_v ad)) = xm_L ad (lv_args i as)
  | [], _ => rfl
  | v :: vs, i => by
    show (i, xm_v ad v) :: lv_args (if (xm_v ad v).category = 2 then i + 2 else i + 1) (vs.map (xm_v ad)) = (i, xm_v ad v) :: xm_L ad (lv_args (if v.category = 2 then i + 2 else i + 1) vs)
    rw [xm_cat, xm_args ad vs]
theorem xm_sl (ad : Nat → Nat) (as : List Value) : (lg_sl (as.map (xm_v ad))).length = (lg_sl as).length := by
  induction as with
  | nil => rfl
  | cons v vs ih =>
    simp only [lg_sl, List.map_cons, List.flatMap_cons, List.length_append] at ih ⊢
    rw [ih, xm_cat]
    split <;> rfl
section XMM
variable {l : Launch} {y : MethodName} {cc : ByteArray} {maxL : Nat} {ret : Option FieldType} {rt : FieldType} {Ts ns : List Cond} {cls : List vw_C} {tp : List xm_E} {fl : List (Nat × Nat × Nat)} {ct : List (Nat × xm_C)} {cn : List (Nat × Int32)} {cj : List (Nat × Int64)} {pr : xm_P} {rm : Room}
/-- the walk of a method's body, out of its condition and those of its cuts -/
theorem xm_body {p : Program} {e : Env} {s : State} {m : MethodId} {args : Array Value} {below : List Frame} {meth : Method} {c : Code} {Q : State → Prop} {dC : Nat → ClassId} {dI : Nat → Nat → Nat} {ad dA : Nat → Nat}
    (hst : xm_stt y.cls Ts ns cls tp fl cn cj) (hch : xm_chb cc pr = true) (h0 : xm_hd1 pr = some 0) (hct : ∀ n C, (n, C) ∈ ct → xm_lkS l y.cls Ts ns rm cls tp n C ∨ xm_lkV l y.cls Ts ns rm cls tp n C)
    (hx : p.tables.exec = Jvm.exec) (hb : c.code = cc) (hml : c.maxLocals = maxL) (hown : s.vm.findClass y.cls = some m.cls) (hts : ∀ w ∈ Ts, w.before args s = true) (hK : va_K (dC, dI) cls (xm_tys dA) s) (hN : xm_Nw ns s) (hj : xm_inj ad tp.length)
    {Qr : Option Value → xm_M → Nat → Prop} {Qt : Nat → Nat → xm_M → Nat → Prop}
    (hreti : xm_okI (fun cl H locs g => W p l e rm s m args below meth c H locs ((fun _ => 0) cl) ((fun _ => 0) cl) Q g) m (xm_R (dC, dI) cls (xm_A ad tp.length) ad dA tp s.heap) cc rt Qr)
    (hretj : xm_okJ (fun cl H locs g => W p l e rm s m args below meth c H locs ((fun _ => 0) cl) ((fun _ => 0) cl) Q g) m (xm_R (dC, dI) cls (xm_A ad tp.length) ad dA tp s.heap) cc Qr)
    (hretv : xm_okV (fun cl H locs g => W p l e rm s m args below meth c H locs ((fun _ => 0) cl) ((fun _ => 0) cl) Q g) m (xm_R (dC, dI) cls (xm_A ad tp.length) ad dA tp s.heap) cc Qr)
    (hthr : xm_okT (fun cl H locs g => W p l e rm s m args below meth c H locs ((fun _ => 0) cl) ((fun _ => 0) cl) Q g) m (xm_R (dC, dI) cls (xm_A ad tp.length) ad dA tp s.heap) maxL cc Qt)
    (Kn : Nat → Nat → List (Nat × Value) → List Value → xm_M → Nat → Prop) {as : List Value} {M : xm_M} (hargs : (lg_sl as).length ≤ maxL)
    (hlp : ∀ j pc ls st M' cl, Kn j pc ls st M' cl → ∃ n, xm_w 0 (fun _ => 0) pr fl ct cn cj tp rt maxL Qr Qt (fun pc ls st M' cl => ∃ i, i < j ∧ Kn i pc ls st M' cl) n false (xm_at pr pc) ls st M' cl)
    (hvc : ∃ n, xm_w 0 (fun _ => 0) pr fl ct cn cj tp rt maxL Qr Qt (fun pc ls st M' cl => ∃ i, Kn i pc ls st M' cl) n false pr (lv_args 0 as) [] M 0)
    (hP : va_P (dC, dI) cls (xm_W ad dA tp M) s.heap) :
    W p l e rm s m args below meth c s.heap [] 0 0 Q (entryFrame m (as.map (xm_v ad)).toArray maxL) := by
  obtain ⟨hg, hns, hcn, hcj, hpf, hfl⟩ := hst
  have hD : ∀ M, va_D (xm_A ad tp.length) (xm_W ad dA tp M) := xm_D hj (fun k hk => ⟨k, hk, rfl⟩)
  have hcn' : ∀ n v, (n, v) ∈ cn → (Jvm.Cond.constant y.cls n v).before args s = true := fun n v h => hts _ (hcn n v h)
  have hcj' : ∀ n v, (n, v) ∈ cj → (Jvm.Cond.constantLong y.cls n v).before args s = true := fun n v h => hts _ (hcj n v h)
  have hfl' : xm_okF y.cls fl cls Ts args s := by
    intro n ci kf h
    obtain ⟨C, T, N, h1, h2, h3, h4⟩ := hfl n ci kf h
    refine ⟨C, T, N, h1, h2, h3, ?_⟩
    rcases h4 with h4 | ⟨host, h4⟩
    · exact Or.inl (hts _ h4)
    · exact Or.inr ⟨host, va_Nw.use rfl (hN _ h4)⟩
  have hcall : xm_okC (fun cl H locs g => W p l e rm s m args below meth c H locs ((fun _ => 0) cl) ((fun _ => 0) cl) Q g) m (xm_R (dC, dI) cls (xm_A ad tp.length) ad dA tp s.heap) ad maxL cc ct := by
    refine xm_okC_of (fun n C h => ?_)
    rcases hct n C h with h1 | h1
    · exact xm_rowS ⟨hx, hb, hml, hown, hts⟩ hg hns hN hK hj (fun _ => ⟨Nat.le_refl _, Nat.le_refl _⟩) (fun _ => ⟨Nat.zero_le _, Nat.zero_le _⟩) h1
    · exact xm_rowV ⟨hx, hb, hml, hown, hts⟩ hg hns hN hK hj (fun _ => ⟨Nat.le_refl _, Nat.le_refl _⟩) (fun _ => ⟨Nat.zero_le _, Nat.zero_le _⟩) h1
  have hch' := xm_ch_of hch
  have hloop : ∀ j pc ls st M' cl, Kn j pc ls st M' cl → xm_J (fun cl H locs g => W p l e rm s m args below meth c H locs ((fun _ => 0) cl) ((fun _ => 0) cl) Q g) m (xm_R (dC, dI) cls (xm_A ad tp.length) ad dA tp s.heap) ad maxL pc ls st M' cl := by
    intro j
    induction j using Nat.strongRecOn with
    | _ j ih =>
      intro pc ls st M' cl h
      obtain ⟨n, h1⟩ := hlp j pc ls st M' cl h
      obtain ⟨q, t, e1, h2⟩ := xm_sound hx hb hown hts hK hD (fun _ => ⟨Nat.le_refl _, Nat.le_refl _⟩) (fun z => absurd z (Nat.lt_irrefl 0)) hcn' hcj' hfl' hpf hcall hreti hretj hretv hthr hch' (fun pc ls st M' cl hh => by obtain ⟨i, hi, h3⟩ := hh; exact ih i hi pc ls st M' cl h3) n false (xm_at pr pc) (xm_at_ch _ hch') ls st M' cl h1
      rw [xm_at_hd e1] at h2
      exact h2
  obtain ⟨n, h1⟩ := hvc
  obtain ⟨q, t, e1, h2⟩ := xm_sound hx hb hown hts hK hD (fun _ => ⟨Nat.le_refl _, Nat.le_refl _⟩) (fun z => absurd z (Nat.lt_irrefl 0)) hcn' hcj' hfl' hpf hcall hreti hretj hretv hthr hch' (fun pc ls st M' cl hh => by obtain ⟨i, h3⟩ := hh; exact hloop i pc ls st M' cl h3) n false pr hch' _ _ _ _ h1
  have hq : q.1 = 0 := by
    rw [e1] at h0
    exact Option.some.inj h0
  rw [hq] at h2
  have hl := lv_entry (as.map (xm_v ad)) (n := maxL) (by rw [xm_sl]; exact hargs)
  rw [xm_args] at hl
  rw [lg_entry_eq]
  exact h2 s.heap [] _ ⟨hP, va_S.rf, fun _ => ⟨rfl, rfl⟩⟩ hl
theorem xm_mk_pu (hy : plainFor y = true) (hst : xm_stt y.cls Ts ns cls tp fl cn cj) (hch : xm_chb cc pr = true) (h0 : xm_hd1 pr = some 0) (hret : ret = none ∨ ret = some rt) (hct : ∀ n C, (n, C) ∈ ct → xm_lkS l y.cls Ts ns rm cls tp n C ∨ xm_lkV l y.cls Ts ns rm cls tp n C)
    {pre : List Value → xm_M → Prop} {fn : List Value → xm_M → Option Value × xm_M}
    (Kn : List Value → xm_M → Nat → Nat → List (Nat × Value) → List Value → xm_M → Nat → Prop) (hargs : ∀ as M, pre as M → (lg_sl as).length ≤ maxL)
    (hsome : ∀ as M, pre as M → ((fn as M).1 = none ↔ ret = none))
    (hlong : ∀ as M v, pre as M → some (Value.long v) = (fn as M).1 → rt = .long)
    (hlp : ∀ as M, pre as M → ∀ j pc ls st M' cl, Kn as M j pc ls st M' cl → ∃ n, xm_w 0 (fun _ => 0) pr fl ct cn cj tp rt maxL (fun r _ cl => r = (fn as M).1 ∧ cl = 0) (fun _ _ _ _ => False) (fun pc ls st M' cl => ∃ i, i < j ∧ Kn as M i pc ls st M' cl) n false (xm_at pr pc) ls st M' cl)
    (hvc : ∀ as M, pre as M → ∃ n, xm_w 0 (fun _ => 0) pr fl ct cn cj tp rt maxL (fun r _ cl => r = (fn as M).1 ∧ cl = 0) (fun _ _ _ _ => False) (fun pc ls st M' cl => ∃ i, Kn as M i pc ls st M' cl) n false pr (lv_args 0 as) [] M 0) :
    xm_Pu l y (Cond.code y cc maxL ret :: Ts) rm cls ns tp pre fn := by
  intro dC dI dA ad as M hpre hj
  refine va_MetF (cc := cc) (maxL := maxL) (ret := ret) hy rfl ?_
  intro p e s m args below meth c s₁ B hml hv
  obtain ⟨rfl, hP, hK, hN⟩ := hv
  have hx := B.exec
  have hb := B.bytes
  have hr := B.returns
  have hts0 := atoms_spec (ws := Cond.code y cc maxL ret :: Ts) B.pre
  have hts : ∀ w ∈ Ts, w.before (as.map (xm_v ad)).toArray s = true := fun w h => hts0 w (List.mem_cons_of_mem _ h)
  have hown : s.vm.findClass y.cls = some m.cls := findClass_of_methodNamed B.named
  have hlocks := B.notSynchronized
  refine xm_body (rm := rm) hst hch h0 hct hx hb hml hown hts hK hN hj (Qr := fun r _ cl => r = (fn as M).1 ∧ cl = 0) (Qt := fun _ _ _ _ => False) ?_ ?_ ?_ (fun pc n M' cl H locs lsC _ h => h.elim) (Kn as M) (hargs as M hpre) (hlp as M hpre) (hvc as M hpre) hP
  · intro pc v M' cl H locs lsC hdg hn hq hR
    obtain ⟨e1, e2⟩ := hq
    obtain ⟨eH, eL⟩ := hR.2.2 e2
    subst eH; subst eL
    have hr' : meth.sig.returnType = some rt := by
      rcases hret with h | h
      · exact absurd ((hsome as M hpre).mpr h) (by rw [← e1]; simp)
      · rw [hr, h]
    exact W.zret hx hb hr' hn (fun t ht _ => ⟨by rw [← e1]; rfl, ht⟩) (fun q h => by cases h) hdg
  · intro pc v M' cl H locs lsC hdg hq hR
    obtain ⟨e1, e2⟩ := hq
    obtain ⟨eH, eL⟩ := hR.2.2 e2
    subst eH; subst eL
    have hr' : meth.sig.returnType = some .long := by
      rcases hret with h | h
      · exact absurd ((hsome as M hpre).mpr h) (by rw [← e1]; simp)
      · rw [hr, h, hlong as M v hpre e1]
    exact W.lret hx hb hr' (fun t ht _ => ⟨by rw [← e1]; rfl, ht⟩) (fun q h => by cases h) hdg
  · intro pc M' cl H locs lsC hdg hq hR
    obtain ⟨e1, e2⟩ := hq
    obtain ⟨eH, eL⟩ := hR.2.2 e2
    subst eH; subst eL
    have hr' : meth.sig.returnType = none := by rw [hr]; exact (hsome as M hpre).mp e1.symm
    exact W.vret hx hb hr' (fun t ht _ => ⟨by rw [← e1]; rfl, ht⟩) (fun q h => by cases h) hdg
theorem xm_mk_wr (hy : plainFor y = true) (hst : xm_stt y.cls Ts ns cls tp fl cn cj) (hch : xm_chb cc pr = true) (h0 : xm_hd1 pr = some 0) (hret : ret = none ∨ ret = some rt) (hct : ∀ n C, (n, C) ∈ ct → xm_lkS l y.cls Ts ns rm cls tp n C ∨ xm_lkV l y.cls Ts ns rm cls tp n C)
    {pre : List Value → xm_M → Prop} {fn : List Value → xm_M → Option Value × xm_M}
    (Kn : List Value → xm_M → Nat → Nat → List (Nat × Value) → List Value → xm_M → Nat → Prop) (hargs : ∀ as M, pre as M → (lg_sl as).length ≤ maxL)
    (hsome : ∀ as M, pre as M → ((fn as M).1 = none ↔ ret = none))
    (hlong : ∀ as M v, pre as M → some (Value.long v) = (fn as M).1 → rt = .long)
    (hlp : ∀ as M, pre as M → ∀ j pc ls st M' cl, Kn as M j pc ls st M' cl → ∃ n, xm_w 0 (fun _ => 0) pr fl ct cn cj tp rt maxL (fun r M2 _ => r = (fn as M).1 ∧ M2 = (fn as M).2) (fun _ _ _ _ => False) (fun pc ls st M' cl => ∃ i, i < j ∧ Kn as M i pc ls st M' cl) n false (xm_at pr pc) ls st M' cl)
    (hvc : ∀ as M, pre as M → ∃ n, xm_w 0 (fun _ => 0) pr fl ct cn cj tp rt maxL (fun r M2 _ => r = (fn as M).1 ∧ M2 = (fn as M).2) (fun _ _ _ _ => False) (fun pc ls st M' cl => ∃ i, Kn as M i pc ls st M' cl) n false pr (lv_args 0 as) [] M 0) :
    xm_Wr l y (Cond.code y cc maxL ret :: Ts) rm cls ns tp pre fn := by
  intro dC dI dA ad as M hpre hj
  refine va_MetF (cc := cc) (maxL := maxL) (ret := ret) hy rfl ?_
  intro p e s m args below meth c s₁ B hml hv
  obtain ⟨rfl, hP, hK, hN⟩ := hv
  have hx := B.exec
  have hb := B.bytes
  have hr := B.returns
  have hts0 := atoms_spec (ws := Cond.code y cc maxL ret :: Ts) B.pre
  have hts : ∀ w ∈ Ts, w.before (as.map (xm_v ad)).toArray s = true := fun w h => hts0 w (List.mem_cons_of_mem _ h)
  have hown : s.vm.findClass y.cls = some m.cls := findClass_of_methodNamed B.named
  have hlocks := B.notSynchronized
  refine xm_body (rm := rm) hst hch h0 hct hx hb hml hown hts hK hN hj (Qr := fun r M2 _ => r = (fn as M).1 ∧ M2 = (fn as M).2) (Qt := fun _ _ _ _ => False) ?_ ?_ ?_ (fun pc n M' cl H locs lsC _ h => h.elim) (Kn as M) (hargs as M hpre) (hlp as M hpre) (hvc as M hpre) hP
  · intro pc v M' cl H locs lsC hdg hn hq hR
    obtain ⟨e1, e2⟩ := hq
    subst e2
    have hr' : meth.sig.returnType = some rt := by
      rcases hret with h | h
      · exact absurd ((hsome as M hpre).mpr h) (by rw [← e1]; simp)
      · rw [hr, h]
    exact W.zret hx hb hr' hn (fun t ht _ => ⟨by rw [← e1]; rfl, by rw [ht]; exact hR.1, hR.2.1.F ht⟩) hR.2.1.2.2 hdg
  · intro pc v M' cl H locs lsC hdg hq hR
    obtain ⟨e1, e2⟩ := hq
    subst e2
    have hr' : meth.sig.returnType = some .long := by
      rcases hret with h | h
      · exact absurd ((hsome as M hpre).mpr h) (by rw [← e1]; simp)
      · rw [hr, h, hlong as M v hpre e1]
    exact W.lret hx hb hr' (fun t ht _ => ⟨by rw [← e1]; rfl, by rw [ht]; exact hR.1, hR.2.1.F ht⟩) hR.2.1.2.2 hdg
  · intro pc M' cl H locs lsC hdg hq hR
    obtain ⟨e1, e2⟩ := hq
    subst e2
    have hr' : meth.sig.returnType = none := by rw [hr]; exact (hsome as M hpre).mp e1.symm
    exact W.vret hx hb hr' (fun t ht _ => ⟨by rw [← e1]; rfl, by rw [ht]; exact hR.1, hR.2.1.F ht⟩) hR.2.1.2.2 hdg
end XMM
