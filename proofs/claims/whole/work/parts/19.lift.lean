/-! PARTS OF A WORLD; the law's helpers, each of which calls one method of the class and catches what it throws -/
def xm_rl (σ : Nat → Nat) (en : xm_E) : xm_E := match en with
  | .inl x => .inl x
  | .inr (ci, fk) => .inr (ci, fk.map (Option.map σ))
theorem xm_rl_e {ad dA σ : Nat → Nat} {M : xm_M} {k : Nat} (en : xm_E) : xm_e ad dA M (σ k) (xm_rl σ en) = xm_e (fun q => ad (σ q)) dA (fun q => M (σ q)) k en := by
  rcases en with ⟨t, n, b⟩ | ⟨ci, fk⟩
  · cases b <;> rfl
  · have h : (fk.map (Option.map σ)).mapIdx (xm_f ad M (σ k)) = fk.mapIdx (xm_f (fun q => ad (σ q)) (fun q => M (σ q)) k) := by
      apply List.ext_getElem?
      intro i
      simp only [List.getElem?_mapIdx, List.getElem?_map]
      cases fk[i]? with
      | none => rfl
      | some o => cases o <;> rfl
    simp only [xm_rl, xm_e, h]
theorem xm_e_M {ad dA : Nat → Nat} {M N : xm_M} {p : Nat} (h : N p = M p) (en : xm_E) : xm_e ad dA N p en = xm_e ad dA M p en := by
  rcases en with ⟨t, n, b⟩ | ⟨ci, fk⟩
  · cases b <;> simp [xm_e, h]
  · have hf : xm_f ad N p = xm_f ad M p := by funext b o; cases o <;> simp [xm_f, h]
    simp [xm_e, hf]
def xm_sub (σ : Nat → Nat) (tp1 tp : List xm_E) : Prop := ∀ k en, tp1[k]? = some en → tp[σ k]? = some (xm_rl σ en)
theorem xm_subP {D : va_G} {cls : List vw_C} {ad dA σ : Nat → Nat} {tp1 tp : List xm_E} {M : xm_M} {H : Heap} (hs : xm_sub σ tp1 tp) (hP : va_P D cls (xm_W ad dA tp M) H) : va_P D cls (xm_W (fun q => ad (σ q)) dA tp1 (fun q => M (σ q))) H := by
  intro k q hk
  cases ht : tp1[k]? with
  | none =>
    simp only [xm_W, List.getElem?_mapIdx, ht] at hk
    cases hk
  | some en =>
    rw [xm_W_at ht] at hk
    have h1 := hP (σ k) _ (xm_W_at (hs k en ht))
    rw [xm_rl_e] at h1
    cases hk
    exact h1
theorem xm_joinP {D : va_G} {cls : List vw_C} {ad dA σ : Nat → Nat} {tp1 tp : List xm_E} {M M' N : xm_M} {H H1 : Heap} (hs : xm_sub σ tp1 tp) (hj : xm_inj ad tp.length) (hP : va_P D cls (xm_W ad dA tp M) H) (hP1 : va_P D cls (xm_W (fun q => ad (σ q)) dA tp1 N) H1)
    (hk : ∀ q : Nat, q < H.size → ¬ xm_A (fun q => ad (σ q)) tp1.length q → H1[q]? = H[q]?) (h1 : ∀ k, k < tp1.length → M' (σ k) = N k) (h2 : ∀ p, (∀ k, k < tp1.length → p ≠ σ k) → M' p = M p) : va_P D cls (xm_W ad dA tp M') H1 := by
  intro p q hp
  cases ht : tp[p]? with
  | none =>
    simp only [xm_W, List.getElem?_mapIdx, ht] at hp
    cases hp
  | some en =>
    rw [xm_W_at ht] at hp
    cases hp
    rcases Classical.em (∃ k, k < tp1.length ∧ p = σ k) with ⟨k, hkl, rfl⟩ | hz
    · have e1 : tp1[k]? = some tp1[k] := List.getElem?_eq_getElem hkl
      have e2 := hs k _ e1
      rw [ht] at e2
      cases e2
      have h3 := hP1 k _ (xm_W_at e1)
      rw [xm_rl_e, xm_e_M (h1 k hkl)]
      exact h3
    · have h3 := hP p _ (xm_W_at ht)
      rw [xm_e_M (h2 p (fun k hkl z => hz ⟨k, hkl, z⟩))]
      refine h3.kept (hk _ h3.lt ?_)
      rintro ⟨k, hkl, z⟩
      have e1 : tp1[k]? = some tp1[k] := List.getElem?_eq_getElem hkl
      have e2 := hs k _ e1
      have l1 : p < tp.length := (List.getElem?_eq_some_iff.mp ht).1
      have l2 : σ k < tp.length := (List.getElem?_eq_some_iff.mp e2).1
      exact hz ⟨k, hkl, hj p (σ k) l1 l2 z⟩
theorem xm_subj {ad σ : Nat → Nat} {tp1 tp : List xm_E} (hs : xm_sub σ tp1 tp) (hσ : ∀ i j, σ i = σ j → i = j) (hj : xm_inj ad tp.length) : xm_inj (fun q => ad (σ q)) tp1.length := by
  intro i j hi hl hij
  have e1 := hs i _ (List.getElem?_eq_getElem hi)
  have e2 := hs j _ (List.getElem?_eq_getElem hl)
  exact hσ _ _ (hj _ _ (List.getElem?_eq_some_iff.mp e1).1 (List.getElem?_eq_some_iff.mp e2).1 hij)
theorem xm_subA {ad σ : Nat → Nat} {tp1 tp : List xm_E} (hs : xm_sub σ tp1 tp) {q : Nat} (h : xm_A (fun q => ad (σ q)) tp1.length q) : xm_A ad tp.length q := by
  obtain ⟨k, hk, e⟩ := h
  have e1 := hs k _ (List.getElem?_eq_getElem hk)
  exact ⟨σ k, (List.getElem?_eq_some_iff.mp e1).1, e⟩
def xm_nc (ps : List (String × String)) (U : State) : Prop := ∀ q ∈ ps, va_Nc q.1 q.2 U
theorem xm_nc.moved {ps : List (String × String)} {u U : State} (hvm : u.vm.Alike U.vm) (h : xm_nc ps u) : xm_nc ps U := fun q hq => va_Nc.moved hvm (h q hq)
abbrev xm_ph (own : String) (ss : List (Nat × String)) (ps : List (String × String)) (cls : List vw_C) (ns : List Cond) (tp : List xm_E) (dC : Nat → ClassId) (dI : Nat → Nat → Nat) (dA ad : Nat → Nat) (as : List Value) (M : xm_M) : Array Value → State → Prop := va_Pc (as.map (xm_v ad)) (fun U => va_P (dC, dI) cls (xm_W ad dA tp M) U.heap ∧ va_K (dC, dI) cls (xm_tys dA) U ∧ xm_Nw ns U ∧ xm_sr own ss U ∧ xm_zq (xm_A ad tp.length) U U.heap ∧ xm_nc ps U)
theorem xm_phb {own : String} {ss : List (Nat × String)} {ps : List (String × String)} {cls : List vw_C} {ns : List Cond} (hn : ∀ w ∈ ns, xm_isN w = true) {tp : List xm_E} {dC : Nat → ClassId} {dI : Nat → Nat → Nat} {dA ad : Nat → Nat} {as : List Value} {M : xm_M} : FrameBlind (xm_ph own ss ps cls ns tp dC dI dA ad as M) := by
  intro a U g mk q
  obtain ⟨q0, qP, qK, qN, qS, qZ, qC⟩ := q
  exact ⟨q0, qP, va_K.moved (u := U) (U := U.calling g mk a) (Vm.Alike.refl U.vm) qK, xm_Nw.same (s := U) (U := U.calling g mk a) hn rfl qN, xm_sr.same (s := U) (U := U.calling g mk a) rfl qS, ⟨vx_Zq.moved (u := U) (U := U.calling g mk a) (Vm.Alike.refl U.vm) qZ.1, vx_Zq.moved (u := U) (U := U.calling g mk a) (Vm.Alike.refl U.vm) qZ.2⟩, xm_nc.moved (u := U) (U := U.calling g mk a) (Vm.Alike.refl U.vm) qC⟩
/-- a helper's contract -/
def xm_Hp (l : Launch) (y : MethodName) (ws : List Cond) (rm : Room) (own : String) (ss : List (Nat × String)) (ps : List (String × String)) (cls : List vw_C) (ns : List Cond) (tp : List xm_E) (pre : List Value → xm_M → Prop) (fn : List Value → xm_M → Option Value × xm_M) : Prop :=
  ∀ (dC : Nat → ClassId) (dI : Nat → Nat → Nat) (dA ad : Nat → Nat) (as : List Value) (M : xm_M), pre as M → xm_inj ad tp.length → Met l y ws rm (xm_ph own ss ps cls ns tp dC dI dA ad as M)
    (fun _ st o t => o = .returned ((fn as M).1.map (xm_v ad)) ∧ va_P (dC, dI) cls (xm_W ad dA tp (fn as M).2) t.heap ∧ va_F (xm_A ad tp.length) st t) 1 6 (xm_A ad tp.length)
section XMX
variable {p : Program} {l : Launch} {e : Env} {R : Room} {s : State} {m : MethodId} {args : Array Value} {below : List Frame} {meth : Method} {c : Code} {H : Heap} {locs : List Loc} {cells slots mc ms : Nat} {Q : State → Prop}
variable {g : JFrame} {rest : List Value}
theorem xm_backX {v0 : Option Value} {ft : Option String} {A A0 : Nat → Prop} {H0 : Heap} {PW PX : Heap → Prop} {Qa : State → Outcome → State → Prop} {XC : String → State → State → Prop} (hr : vx_Run p l e R s m args below meth c H locs cells slots mc ms g rest Qa XC A) (hA : ∀ q, A q → A0 q) (hS : va_S A0 H0 H locs)
    (hq : ∀ st o t, Qa st o t → ft = none ∧ o = .returned v0 ∧ PW t.heap ∧ va_F A st t) (hx : ∀ E st t, XC E st t → ft = some E ∧ PX t.heap ∧ va_F A st t)
    (kk : ∀ (H1 : Heap) (locs1 : List Loc), ft = none → PW H1 → (∀ q : Nat, q < H.size → ¬ A q → H1[q]? = H[q]?) → va_S A0 H0 H1 locs1 → W p l e R s m args below meth c H1 locs1 (cells + mc) (slots + ms) Q { g with pc := g.pc + 3, stack := v0.toList ++ rest })
    (kx : ∀ (E : String) (ce : Cell) (q : Addr) (H1 : Heap) (locs1 : List Loc), ft = some E → PX H1 → (∀ q : Nat, q < H.size → ¬ A q → H1[q]? = H[q]?) → va_S A0 H0 H1 locs1 → H1[q]? = some ce → ce.vm = .none → s.vm.findClass E = some ce.cls → vx_W p l e R s m args below meth c H1 locs1 (cells + mc) (slots + ms) Q { g with stack := rest } q) : W p l e R s m args below meth c H locs cells slots Q g := by
  intro T hT X
  have hSS : ∀ (st₀ t : State) (L : List Loc), st₀.heap = H → va_F A st₀ t → (∀ z ∈ L, A z.base) → va_S A0 H0 t.heap (locs ++ L) := by
    intro st₀ t L h0 hF hL
    refine ⟨Nat.le_trans hS.1 (by rw [← h0]; exact hF.1), fun q hq1 hq2 => ?_, fun x hx => ?_⟩
    · have h1 : q < st₀.heap.size := by rw [h0]; exact Nat.lt_of_lt_of_le hq1 hS.1
      rw [hF.2 q h1 (fun z => hq2 (hA q z)), h0]
      exact hS.2.1 q hq1 hq2
    · rcases List.mem_append.mp hx with h1 | h1
      · exact hS.2.2 x h1
      · exact hA _ (hL x h1)
  rcases hr T hT X with ⟨v, st₀, t, T', L, h0, X', hL, e1, e2, hqa, st⟩ | ⟨q, st₀, t, T', L, E, ce, h0, X', hL, e1, e2, hxc, hce, hcv, hcl, st⟩
  · obtain ⟨hf, hv, hP, hF⟩ := hq _ _ _ hqa
    cases hv
    obtain ⟨t2, a1, b1⟩ := kk t.heap (locs ++ L) hf hP (fun q hq1 hq2 => by rw [hF.2 q (by rw [h0]; exact hq1) hq2, h0]) (hSS st₀ t L h0 hF hL) T' e1 X'
    exact ⟨t2, st t2 a1, b1⟩
  · obtain ⟨hf, hP, hF⟩ := hx _ _ _ hxc
    obtain ⟨t2, a1, b1⟩ := kx E ce q t.heap (locs ++ L) hf hP (fun q hq1 hq2 => by rw [hF.2 q (by rw [h0]; exact hq1) hq2, h0]) (hSS st₀ t L h0 hF hL) hce hcv hcl T' e1 X'
    exact ⟨t2, st.trans a1, b1⟩
end XMX
def xm_mix (n : Nat) (N M : xm_M) : xm_M := fun p => if p < n then N p else M p
/-- a handler: store what was thrown, answer k -/
def xm_hk (cc : ByteArray) (maxL h : Nat) (k : Int) : Prop := ∃ i, i < maxL ∧ (((∃ f : Fin 4, (f : Nat) = i ∧ decode cc h = .ok (.astore_n f, 1)) ∧ decode cc (h + 1) = .ok (.iconst k, 1) ∧ decode cc (h + 2) = .ok (.ireturn, 1)) ∨ (decode cc h = .ok (.astore i, 2) ∧ decode cc (h + 2) = .ok (.iconst k, 1) ∧ decode cc (h + 3) = .ok (.ireturn, 1)))
section XMH
variable {l : Launch} {y : MethodName} {cc : ByteArray} {maxL : Nat} {hh : List (Nat × Nat × Nat × Nat)} {Ts ns : List Cond} {cls : List vw_C} {tpA tp : List xm_E} {pr : xm_P} {rm rmA : Room} {ss : List (Nat × String)} {ps : List (String × String)} {ownA : String}
set_option maxHeartbeats 2000000 in
theorem xm_mk_hp (hy : plainName y.cls = true) (hg : xm_good Ts) (hns : ∀ w ∈ ns, xm_isN w = true) (hch : xm_chb cc pr = true) (h0 : xm_hd1 pr = some 0)
    {yA : MethodName} {bytesA : ByteArray} {maxA : Nat} {retA : Option FieldType} {pA : List Value → xm_M → Prop} {fA : List Value → xm_M → Option Value × xm_M} {ftA : List Value → xm_M → Option String}
    (hA : xm_Th l yA (Cond.code yA bytesA maxA retA :: Ts) rmA ownA ss cls ns tpA pA fA ftA) {idx np pcx ci N : Nat} {T : u_T} {fk : List (Option Nat)}
    (hcode : Cond.code yA bytesA maxA retA ∈ Ts) (hini : Cond.initialized yA.cls ∈ Ts) (hd : yA.cls ≠ "java/lang/invoke/MethodHandle" ∧ yA.cls ≠ "java/lang/invoke/VarHandle" ∧ (parseMethodDescriptor yA.desc).map (fun d => d.parameters.length) = some np)
    (hlk : Cond.methodLink y.cls idx yA ∈ Ts) (hin : Cond.instanceMethod yA ∈ Ts) (hse : Cond.selects yA.cls yA yA ∈ Ts) (hrm : rmA.frames + 1 ≤ rm.frames ∧ 8 + (maxA + 11) + rmA.locals ≤ rm.locals) (hrA : rmA.cells = 1 ∧ rmA.slots = 6) (hrH : rm.cells = 1 ∧ rm.slots = 6)
    (hdx : decode cc pcx = .ok (.invokevirtual idx, 3)) (hs : xm_sub (fun q => q) tpA tp) (htp : tp[0]? = some (.inr (ci, fk))) (hcl : cls[ci]? = some (yA.cls, T, N))
    {pre : List Value → xm_M → Prop} {fn : List Value → xm_M → Option Value × xm_M} (asA restX : List Value → List Value) (lsX : List Value → List (Nat × Value)) (hargs : ∀ as M, pre as M → (lg_sl as).length ≤ maxL) (hint : ∀ as M, pre as M → ∃ v, (fn as M).1 = some (.int v))
    (hvc : ∀ as M, pre as M → ∃ n, xm_w 0 (fun _ => 0) pr [] [] [] [] tp .int maxL (fun _ _ _ => False) (fun _ _ _ _ => False) (fun pc ls st M' cl => pc = pcx ∧ ls = lsX as ∧ st = (asA as).reverse ++ .ref 0 :: restX as ∧ M' = M ∧ cl = 0) n false pr (lv_args 0 as) [] M 0)
    (hpA : ∀ as M, pre as M → pA (.ref 0 :: asA as) M ∧ (asA as).length = np ∧ ((restX as).map (fun v => v.category)).sum ≤ 8)
    (hvk : ∀ as M, pre as M → ftA (.ref 0 :: asA as) M = none → ∃ n, xm_w 0 (fun _ => 0) pr [] [] [] [] tp .int maxL (fun r M2 cl => r = (fn as M).1 ∧ M2 = (fn as M).2 ∧ 0 < cl) (fun _ _ _ _ => False) (fun _ _ _ _ _ => False) n false (xm_at pr (pcx + 3)) (lsX as) ((fA (.ref 0 :: asA as) M).1.toList ++ restX as) (xm_mix tpA.length (fA (.ref 0 :: asA as) M).2 M) 1)
    (hcat : ∀ as M E, pre as M → ftA (.ref 0 :: asA as) M = some E → ∃ (pr1 : List (Nat × Nat × Nat × Nat)) (x : Nat × Nat × Nat × Nat) (sf1 : List (Nat × Nat × Nat × Nat)) (k : Int), hh = pr1 ++ x :: sf1 ∧ (∀ z ∈ pr1, z.2.2.2 ≠ 0 ∧ ∃ nm, Cond.classLink y.cls z.2.2.2 nm ∈ Ts ∧ (E, nm) ∈ ps) ∧ covers ⟨x.1, x.2.1, x.2.2.1, x.2.2.2⟩ pcx = true ∧ x.2.2.2 ≠ 0 ∧ (∃ nm, Cond.classLink y.cls x.2.2.2 nm ∈ Ts ∧ Cond.castable E nm ∈ ns) ∧ xm_hk cc maxL x.2.2.1 k ∧ fn as M = (some (.int (Int32.ofInt k)), M)) :
    xm_Hp l y (Cond.codeWith y cc maxL (some .int) hh :: Ts) rm ownA ss ps cls ns tp pre fn := by
  intro dC dI dA ad as M hpre hj
  refine va_MetW (cc := cc) (maxL := maxL) (ret := some .int) (hh := hh) hy rfl ?_
  intro p e s m args below meth c s₁ B hml hv
  obtain ⟨rfl, hP, hK, hN, hSr, hZ, hNc⟩ := hv
  have hx := B.exec
  have hb := B.bytes
  have hr : meth.sig.returnType = some .int := B.returns
  have hts0 := atoms_spec (ws := Cond.codeWith y cc maxL (some .int) hh :: Ts) B.pre
  have hts : ∀ w ∈ Ts, w.before (as.map (xm_v ad)).toArray s = true := fun w h => hts0 w (List.mem_cons_of_mem _ h)
  have hown : s.vm.findClass y.cls = some m.cls := findClass_of_methodNamed B.named
  have htab := vx_table (x := y) B (hts0 _ List.mem_cons_self)
  have hD : ∀ M, va_D (xm_A ad tp.length) (xm_W ad dA tp M) := xm_D hj (fun k hk => ⟨k, hk, rfl⟩)
  have hch' := xm_ch_of hch
  have hmono : ∀ n : Nat, min n 1 ≤ min (n + 1) 1 ∧ 6 * min n 1 ≤ 6 * min (n + 1) 1 := fun n => by constructor <;> omega
  have hjA : xm_inj ad tpA.length := xm_subj (σ := fun q => q) hs (fun _ _ z => z) hj
  have hzA : xm_zq (xm_A ad tpA.length) s s.heap := ⟨vx_Zq.narrow hZ.1 (fun q z => xm_subA (σ := fun q => q) hs z), vx_Zq.narrow hZ.2 (fun q z => xm_subA (σ := fun q => q) hs z)⟩
  obtain ⟨hpA1, hpA2, hpA3⟩ := hpA as M hpre
  have hret : ∀ (pc : Nat) (v : Int32) (M' : xm_M) (H : Heap) (locs : List Loc) (lsC : Array Slot), decode cc pc = .ok (.ireturn, 1) → some (Value.int v) = (fn as M).1 → M' = (fn as M).2 → va_P (dC, dI) cls (xm_W ad dA tp M') H → va_S (xm_A ad tp.length) s.heap H locs →
      W p l e rm s m (as.map (xm_v ad)).toArray below meth c H locs 1 6 (MQ below (fun _ st o t => o = .returned ((fn as M).1.map (xm_v ad)) ∧ va_P (dC, dI) cls (xm_W ad dA tp (fn as M).2) t.heap ∧ va_F (xm_A ad tp.length) st t) (as.map (xm_v ad)).toArray s 1 6 (xm_A ad tp.length)) (F0 m pc lsC [.int v]) := by
    intro pc v M' H locs lsC hdg e1 e2 hP1 hS1
    subst e2
    exact W.zret hx hb hr (vp_nar_int v) (fun t ht _ => ⟨by rw [← e1]; rfl, by rw [ht]; exact hP1, hS1.F ht⟩) hS1.2.2 hdg
  have hsnd : ∀ {Qr : Option Value → xm_M → Nat → Prop} {K : Nat → List (Nat × Value) → List Value → xm_M → Nat → Prop}, (∀ r M2 cl, Qr r M2 cl → r = (fn as M).1 ∧ M2 = (fn as M).2 ∧ 0 < cl) →
      (∀ pc ls st M' cl, K pc ls st M' cl → xm_J (fun cl H locs g => W p l e rm s m (as.map (xm_v ad)).toArray below meth c H locs (min cl 1) (6 * min cl 1) (MQ below (fun _ st o t => o = .returned ((fn as M).1.map (xm_v ad)) ∧ va_P (dC, dI) cls (xm_W ad dA tp (fn as M).2) t.heap ∧ va_F (xm_A ad tp.length) st t) (as.map (xm_v ad)).toArray s 1 6 (xm_A ad tp.length)) g) m (xm_R (dC, dI) cls (xm_A ad tp.length) ad dA tp s.heap) ad maxL pc ls st M' cl) →
      ∀ (n : Nat) (b : Bool) (z : xm_P), xm_ch cc z → ∀ ls st M' cl, xm_w 0 (fun _ => 0) pr [] [] [] [] tp .int maxL Qr (fun _ _ _ _ => False) K n b z ls st M' cl → ∃ q t, z = q :: t ∧ xm_J (fun cl H locs g => W p l e rm s m (as.map (xm_v ad)).toArray below meth c H locs (min cl 1) (6 * min cl 1) (MQ below (fun _ st o t => o = .returned ((fn as M).1.map (xm_v ad)) ∧ va_P (dC, dI) cls (xm_W ad dA tp (fn as M).2) t.heap ∧ va_F (xm_A ad tp.length) st t) (as.map (xm_v ad)).toArray s 1 6 (xm_A ad tp.length)) g) m (xm_R (dC, dI) cls (xm_A ad tp.length) ad dA tp s.heap) ad maxL q.1 ls st M' cl := by
    intro Qr K hQ hcut
    refine xm_sound (cf := fun n => min n 1) (sf := fun n => 6 * min n 1) hx hb hown hts hK hD hmono (fun z => absurd z (Nat.lt_irrefl 0)) (fun _ _ h => absurd h List.not_mem_nil) (fun _ _ h => absurd h List.not_mem_nil) (fun _ _ _ h => absurd h List.not_mem_nil) (fun _ _ _ _ _ _ h => absurd h List.not_mem_nil) (xm_okC_of (fun _ _ h => absurd h List.not_mem_nil)) ?_ ?_ ?_ (fun pc n M' cl H locs lsC _ h => h.elim) hch' hcut
    · intro pc v M' cl H locs lsC hdg hn hq hR
      obtain ⟨e1, e2, e3⟩ := hQ _ _ _ hq
      have e4 : min cl 1 = 1 := by omega
      rw [e4]
      exact hret pc v M' H locs lsC hdg e1 e2 hR.1 hR.2.1
    · intro pc v M' cl H locs lsC hdg hq hR
      obtain ⟨e1, e2, e3⟩ := hQ _ _ _ hq
      obtain ⟨w, hw⟩ := hint as M hpre
      rw [hw] at e1
      cases e1
    · intro pc M' cl H locs lsC hdg hq hR
      obtain ⟨e1, e2, e3⟩ := hQ _ _ _ hq
      obtain ⟨w, hw⟩ := hint as M hpre
      rw [hw] at e1
      cases e1
  have hcutx : ∀ pc ls st M' cl, (pc = pcx ∧ ls = lsX as ∧ st = (asA as).reverse ++ .ref 0 :: restX as ∧ M' = M ∧ cl = 0) → xm_J (fun cl H locs g => W p l e rm s m (as.map (xm_v ad)).toArray below meth c H locs (min cl 1) (6 * min cl 1) (MQ below (fun _ st o t => o = .returned ((fn as M).1.map (xm_v ad)) ∧ va_P (dC, dI) cls (xm_W ad dA tp (fn as M).2) t.heap ∧ va_F (xm_A ad tp.length) st t) (as.map (xm_v ad)).toArray s 1 6 (xm_A ad tp.length)) g) m (xm_R (dC, dI) cls (xm_A ad tp.length) ad dA tp s.heap) ad maxL pc ls st M' cl := by
    rintro pc ls st M' cl ⟨rfl, rfl, rfl, rfl, rfl⟩
    intro H locs lsC hR hl
    obtain ⟨eH, eL⟩ := hR.2.2 rfl
    subst eH; subst eL
    have hfb : ∀ U : State, U.heap = s.heap → s.WarmedH U.vm → (xm_pt ownA ss cls ns tpA dC dI dA ad (.ref 0 :: asA as) M') (Value.ref (ad 0) :: (asA as).map (xm_v ad)).toArray U := fun U hU hW => ⟨rfl, by rw [hU]; exact xm_subP (σ := fun q => q) hs hP, va_K.moved hW.alike hK, hN.warm hns hW, xm_sr.warm hW hSr, by rw [hU]; exact vx_Zq.moved hW.alike hzA.1, by rw [hU]; exact vx_Zq.moved hW.alike hzA.2⟩
    have hstk : (((asA as).reverse ++ .ref 0 :: restX as).map (xm_v ad)) = ((asA as).map (xm_v ad)).reverse ++ Value.ref (ad 0) :: (restX as).map (xm_v ad) := by simp [xm_v]
    have hrun := vx_runV (R := rm) (H := s.heap) (locs := []) (cells := 0) (slots := 0) (below := below) (meth := meth) (e := e) (C := yA.cls) (b := ad 0) (As := (asA as).map (xm_v ad)) (rest := (restX as).map (xm_v ad)) (g := F0 m pc lsC (((asA as).reverse ++ .ref 0 :: restX as).map (xm_v ad))) (index := idx) (n := np) (cc := cc) (nL := maxL) (own := y.cls) (args := (as.map (xm_v ad)).toArray) (p := p) (c := c) ⟨hx, hb, hml, hown, hts⟩ (hA dC dI dA ad (.ref 0 :: asA as) M' hpA1 hjA) ⟨callB_of np hts (xm_goodIn hg hcode) rfl hrA.1 hrA.2 (hts _ hini) (hts _ hlk) hd hrm, hts _ hin, hts _ hse⟩ ⟨xm_ptb hns, va_recv hK hP hcl (xm_W_at htp), hfb⟩ rfl (by simpa using hpA2) hl.1 hstk (lv_room (by rw [xm_catmap]; exact hpA3)) hdx ⟨by rw [hrH.1]; decide, by rw [hrH.2]; decide⟩
    refine xm_backX (v0 := (fA (.ref 0 :: asA as) M').1.map (xm_v ad)) (ft := ftA (.ref 0 :: asA as) M') (A := xm_A ad tpA.length) (A0 := xm_A ad tp.length) (H0 := s.heap) (PW := fun H1 => va_P (dC, dI) cls (xm_W ad dA tpA (fA (.ref 0 :: asA as) M').2) H1) (PX := fun H1 => va_P (dC, dI) cls (xm_W ad dA tpA M') H1) hrun (fun q z => xm_subA (σ := fun q => q) hs z) va_S.rf (fun st o t q => q) (fun E st t q => q) ?_ ?_
    · intro H1 locs1 hf hP1 hkeep hS1
      have hPj := xm_joinP (σ := fun q => q) (M' := xm_mix tpA.length (fA (.ref 0 :: asA as) M').2 M') hs hj hP hP1 hkeep (fun k hk => if_pos hk) (fun q hq => if_neg (fun z => hq q z rfl))
      obtain ⟨n2, h3⟩ := hvk as M' hpre hf
      obtain ⟨q, t, e2, h4⟩ := hsnd (fun _ _ _ h => h) (fun _ _ _ _ _ h => h.elim) n2 false _ (xm_at_ch _ hch') _ _ _ _ h3
      rw [xm_at_hd e2] at h4
      have h5 := h4 H1 locs1 lsC ⟨hPj, hS1, fun z => by cases z⟩ hl
      rw [← xm_tl] at h5
      exact h5
    · intro E ce q H1 locs1 hf hP1 hkeep hS1 hce hcv hcl'
      obtain ⟨pr1, x, sf1, k, e1, hpass, hcov, hne, ⟨nm, hnm1, hnm2⟩, ⟨i, hi, hhk⟩, hfn⟩ := hcat as M' E hpre hf
      have hPj := xm_joinP (σ := fun q => q) (M' := M') hs hj hP hP1 hkeep (fun _ _ => rfl) (fun _ _ => rfl)
      refine vx_catch (name := nm) (ce := ce) hown (tableOf pr1) ⟨x.1, x.2.1, x.2.2.1, x.2.2.2⟩ (tableOf sf1) (by rw [htab, e1]; simp [tableOf]) ?_ hcov hne (hts _ hnm1) (va_Nw.use rfl (hN _ hnm2)) hce hcv hcl' ?_
      · intro z hz
        obtain ⟨w, hw, rfl⟩ := List.mem_map.mp hz
        obtain ⟨h1, nm2, h2, h3⟩ := hpass w hw
        exact Or.inr ⟨h1, nm2, hts _ h2, hNc (E, nm2) h3⟩
      · rcases hhk with ⟨⟨f, hf2, d0⟩, d1, d2⟩ | ⟨d0, d1, d2⟩
        · refine lv_astore_n hx hb d0 hf2 hl hi rfl (fun ls' hl' => ?_)
          refine lv_iconst hx hb d1 rfl ?_
          exact hret _ _ M' H1 locs1 ls' d2 (by rw [hfn]) (by rw [hfn]) hPj hS1
        · refine lv_astore hx hb d0 hl hi rfl (fun ls' hl' => ?_)
          refine lv_iconst hx hb d1 rfl ?_
          exact hret _ _ M' H1 locs1 ls' d2 (by rw [hfn]) (by rw [hfn]) hPj hS1
  obtain ⟨n, h1⟩ := hvc as M hpre
  obtain ⟨q, t, e1, h2⟩ := hsnd (Qr := fun _ _ _ => False) (fun _ _ _ h => h.elim) hcutx n false pr hch' _ _ _ _ h1
  have hq : q.1 = 0 := by
    rw [e1] at h0
    exact Option.some.inj h0
  rw [hq] at h2
  have hl := lv_entry (as.map (xm_v ad)) (n := maxL) (by rw [xm_sl]; exact hargs as M hpre)
  rw [xm_args] at hl
  rw [lg_entry_eq]
  exact h2 s.heap [] _ ⟨hP, va_S.rf, fun _ => ⟨rfl, rfl⟩⟩ hl
end XMH
