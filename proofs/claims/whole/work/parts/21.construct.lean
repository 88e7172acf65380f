/-! CONSTRUCTORS: an object's arrays are made one behind the other; what is made lies behind the heap as it was -/
def xn_A (h0 sz : Nat) : Nat → Prop := fun q => q = h0 ∨ sz ≤ q
def xn_ty (t : Nat) : FieldType := match t with
  | 0 => .int
  | 1 => .boolean
  | _ => .long
def xn_at (t : Nat) : Jvm.ClassFile.ArrayType := match t with
  | 0 => .int
  | 1 => .boolean
  | _ => .long
def xn_a0 (t n : Nat) : vp_A := match t with
  | 0 => (n, .inl (fun _ => 0))
  | 1 => (n, .inl (fun _ => 0))
  | _ => (n, .inr (.inl (fun _ => 0)))
theorem xn_cell (cA : ClassId) : ∀ t n : Nat, vp_cell cA (xn_a0 t n) = arrV cA n (fun _ => defaultValue (xn_ty t))
  | 0, _ => rfl
  | 1, _ => rfl
  | _ + 2, _ => rfl
theorem xn_typ : ∀ t : Nat, newarray.typeOf (xn_at t) = xn_ty t
  | 0 => rfl
  | 1 => rfl
  | _ + 2 => rfl
/-- an item: the field, its row in the pool, what comes (0 an int, t + 1 an array of kind t), the int or the length, the length of the push -/
abbrev xn_I : Type := Nat × Nat × Nat × Nat × Nat
def xn_pb (cc : ByteArray) (pc v pl : Nat) : Bool :=
  (decide (pl = 1) && decide (decode cc pc = .ok (.iconst (v : Int), 1)) && decide (Int32.ofInt (v : Int) = Int32.ofNat v)) || ((decide (pl = 2) && decide (decode cc pc = .ok (.bipush (v : Int), 2)) && decide ((Int8.ofInt (v : Int)).toInt32 = Int32.ofNat v)) || (decide (pl = 3) && decide (decode cc pc = .ok (.sipush (v : Int), 3)) && decide ((Int16.ofInt (v : Int)).toInt32 = Int32.ofNat v)))
def xn_nx (i : xn_I) (pc : Nat) : Nat := match i.2.2.1 with
  | 0 => pc + 1 + i.2.2.2.2 + 3
  | _ + 1 => pc + 1 + i.2.2.2.2 + 2 + 3
def xn_cb (own : String) (T : u_T) (N : Nat) (cc : ByteArray) (i : xn_I) (pc : Nat) : Bool :=
  decide (decode cc pc = .ok (.aload_n 0, 1)) && (xn_pb cc (pc + 1) i.2.2.2.1 i.2.2.2.2 && (decide (i.1 < N) && (decide ((T i.1).1 = own) && (match i.2.2.1 with
    | 0 => decide (decode cc (pc + 1 + i.2.2.2.2) = .ok (.putfield i.2.1, 3)) && (decide ((T i.1).2.2.2 = false) && decide (parseFieldDescriptor (T i.1).2.2.1 = some .int))
    | t + 1 => decide (t < 3) && (decide (decode cc (pc + 1 + i.2.2.2.2) = .ok (.newarray (xn_at t), 2)) && (decide (decode cc (pc + 1 + i.2.2.2.2 + 2) = .ok (.putfield i.2.1, 3)) && (decide ((T i.1).2.2.2 = true) && (decide (parseFieldDescriptor (T i.1).2.2.1 = some (.array (xn_ty t))) && (decide (i.2.2.2.1 ≤ 100000) && (decide ((Int32.ofNat i.2.2.2.1).toNatClampNeg = i.2.2.2.1) && decide (¬ Int32.ofNat i.2.2.2.1 < 0)))))))))))
def xn_ok (own : String) (T : u_T) (N : Nat) (cc : ByteArray) (Ts : List Cond) : List xn_I → Nat → Nat → Prop
  | [], pc, e => pc = e
  | i :: r, pc, e => xn_cb own T N cc i pc = true ∧ Cond.fieldLink own i.2.1 (T i.1).1 (T i.1).2.1 (T i.1).2.2.1 ∈ Ts ∧ xn_ok own T N cc Ts r (xn_nx i pc) e
def xn_nc : List xn_I → Nat
  | [] => 0
  | (_, _, 0, _, _) :: r => xn_nc r
  | (_, _, _ + 1, _, _) :: r => 1 + xn_nc r
def xn_nl : List xn_I → Nat
  | [] => 0
  | (_, _, 0, _, _) :: r => xn_nl r
  | (_, _, _ + 1, v, _) :: r => v + xn_nl r
def xn_fs : List xn_I → List Nat → List Value → List Value
  | [], _, fs => fs
  | (k, _, 0, v, _) :: r, qs, fs => xn_fs r qs (fs.set k (.int (Int32.ofNat v)))
  | (k, _, _ + 1, _, _) :: r, qs, fs => xn_fs r qs.tail (fs.set k (.ref (qs.headD 0)))
def xn_ar (dA : Nat → Nat) : List xn_I → List Nat → va_W
  | [], _ => []
  | (_, _, 0, _, _) :: r, qs => xn_ar dA r qs
  | (_, _, t + 1, v, _) :: r, qs => (qs.headD 0, .inl (dA t, xn_a0 t v)) :: xn_ar dA r qs.tail
theorem xn_cby {t : Nat} : componentBytes (xn_ty t) ≤ 8 := by
  rcases t with _ | _ | t
  · decide
  · decide
  · show componentBytes .long ≤ 8
    decide
section XN1
variable {p : Program} {l : Launch} {e : Env} {R : Room} {s : State} {m : MethodId} {args : Array Value} {below : List Frame} {meth : Method} {c : Code} {Q : State → Prop} {cc : ByteArray} {ls : Array Slot}
theorem xn_pushW {H : Heap} {locs : List Loc} {cells slots pc v pl : Nat} {rest : List Value} (hx : p.tables.exec = Jvm.exec) (hb : c.code = cc) (h : xn_pb cc pc v pl = true)
    (k : W p l e R s m args below meth c H locs cells slots Q (F0 m (pc + pl) ls (.int (Int32.ofNat v) :: rest))) : W p l e R s m args below meth c H locs cells slots Q (F0 m pc ls rest) := by
  simp only [xn_pb, Bool.or_eq_true, Bool.and_eq_true, decide_eq_true_eq] at h
  rcases h with ⟨⟨rfl, d⟩, ev⟩ | ⟨⟨rfl, d⟩, ev⟩ | ⟨⟨rfl, d⟩, ev⟩
  · exact lv_iconst hx hb d ev k
  · exact lv_bipush hx hb d ev k
  · exact lv_sipush hx hb d ev k
theorem xn_dA {D : va_G} {cls : List vw_C} {dA : Nat → Nat} {t cA : Nat} (ht : t < 3) (hK : va_K D cls (xm_tys dA) s) (hK1 : va_K D cls (xm_tys dA ++ [(cA, xn_ty t)]) s) : cA = dA t := by
  have h1 := (hK1.2 3 (cA, xn_ty t) rfl).2
  rcases (show t = 0 ∨ t = 1 ∨ t = 2 by omega) with rfl | rfl | rfl
  · exact Option.some.inj (Eq.trans (Eq.symm h1) (hK.2 0 _ rfl).2)
  · exact Option.some.inj (Eq.trans (Eq.symm h1) (hK.2 1 _ rfl).2)
  · exact Option.some.inj (Eq.trans (Eq.symm h1) (hK.2 2 _ rfl).2)
/-- a new array of the world -/
theorem xn_newa {D : va_G} {cls : List vw_C} {dA : Nat → Nat} {A : Nat → Prop} {Ts : List Cond} {ws : va_W} {H : Heap} {locs : List Loc} {cells slots pc t n : Nat} {rest : List Value} (hx : p.tables.exec = Jvm.exec) (hb : c.code = cc) (hts : ∀ w ∈ Ts, w.before args s = true) (harr : ∀ t, t < 3 → Cond.arrayClass (xn_ty t) ∈ Ts) (hK : va_K D cls (xm_tys dA) s) (hP : va_P D cls ws H) (hD : va_D A ws) (hS : va_S A s.heap H locs) (hA : ∀ q, s.heap.size ≤ q → A q)
    (ht : t < 3) (hn1 : n ≤ 100000) (hn2 : (Int32.ofNat n).toNatClampNeg = n) (hn3 : ¬ Int32.ofNat n < 0) (hcs : cells + 1 ≤ R.cells) (hss : slots + n ≤ R.slots) (hdg : decode cc pc = .ok (.newarray (xn_at t), 2))
    (kk : ∀ (q : Nat) (H1 : Heap), va_P D cls (ws ++ [(q, .inl (dA t, xn_a0 t n))]) H1 → va_D A (ws ++ [(q, .inl (dA t, xn_a0 t n))]) → va_S A s.heap H1 locs → W p l e R s m args below meth c H1 locs (cells + 1) (slots + n) Q (F0 m (pc + 2) ls (.ref q :: rest))) : W p l e R s m args below meth c H locs cells slots Q (F0 m pc ls (.int (Int32.ofNat n) :: rest)) := by
  have h8 : componentBytes (xn_ty t) ≤ 8 := xn_cby
  have hbytes : n * componentBytes (xn_ty t) ≤ 536870912 := Nat.le_trans (Nat.mul_le_mul hn1 h8) (by decide)
  have harr' : (Cond.arrayClass (newarray.typeOf (xn_at t))).before args s = true := by rw [xn_typ]; exact hts _ (harr t ht)
  refine va_newa (D := D) (cl := cls) (tys := xm_tys dA) (ws := ws) (atype := xn_at t) (ty := xn_ty t) (a0 := xn_a0 t n) (N' := n) hx hb harr' (xn_typ t) hK hP hD hS hA (fun cA => xn_cell cA t n) hn3 hn2 hbytes hcs hss hdg (fun q cA H1 hK1 hP1 hD1 hS1 => ?_)
  obtain rfl := xn_dA ht hK hK1
  exact kk q H1 hP1 hD1 hS1
theorem xn_run {dC : Nat → ClassId} {dI : Nat → Nat → Nat} {dA : Nat → Nat} {cls : List vw_C} {A : Nat → Prop} {own : String} {T : u_T} {N ci h0 pcE : Nat} {Ts : List Cond} (hx : p.tables.exec = Jvm.exec) (hb : c.code = cc) (hts : ∀ w ∈ Ts, w.before args s = true) (hin : ∀ w ∈ u_ws own T N, w ∈ Ts) (ty0 : Nat → FieldType) (hty : ∀ k, k < N → parseFieldDescriptor (T k).2.2.1 = some (ty0 k)) (hnm : ∀ a, a < N → ∀ b, b < N → a ≠ b → (T a).2.1 ≠ (T b).2.1)
    (hown : s.vm.findClass own = some m.cls) (hname : meth.name = "<init>") (hK : va_K (dC, dI) cls (xm_tys dA) s) (hc : cls[ci]? = some (own, T, N)) (hA : ∀ q, s.heap.size ≤ q → A q) (harr : ∀ t, t < 3 → Cond.arrayClass (xn_ty t) ∈ Ts) (hl : ls[0]? = some (.val (.ref h0))) :
    ∀ (its : List xn_I) (pc : Nat) (fs : List Value) (ws : va_W) (H : Heap) (locs : List Loc) (cells slots : Nat), xn_ok own T N cc Ts its pc pcE → va_P (dC, dI) cls ((h0, .inr (ci, fs)) :: ws) H → va_D A ((h0, .inr (ci, fs)) :: ws) → va_S A s.heap H locs → fs.length = N → cells + xn_nc its ≤ R.cells → slots + xn_nl its ≤ R.slots →
    (∀ (qs : List Nat) (H1 : Heap) (locs1 : List Loc), qs.length = xn_nc its → va_P (dC, dI) cls ((h0, .inr (ci, xn_fs its qs fs)) :: (ws ++ xn_ar dA its qs)) H1 → va_D A ((h0, .inr (ci, xn_fs its qs fs)) :: (ws ++ xn_ar dA its qs)) → va_S A s.heap H1 locs1 → W p l e R s m args below meth c H1 locs1 (cells + xn_nc its) (slots + xn_nl its) Q (F0 m pcE ls [])) →
    W p l e R s m args below meth c H locs cells slots Q (F0 m pc ls []) := by
  intro its
  induction its with
  | nil =>
    intro pc fs ws H locs cells slots hok hP hD hS _ _ _ kk
    have e1 : pc = pcE := hok
    subst e1
    exact kk [] H locs rfl (by simpa [xn_fs, xn_ar] using hP) (by simpa [xn_fs, xn_ar] using hD) hS
  | cons i r ih =>
    intro pc fs ws H locs cells slots hok hP hD hS hlen hcs hss kk
    obtain ⟨hcb, hfl, hok'⟩ := hok
    obtain ⟨k, idx, kd, v, pl⟩ := i
    cases kd with
    | zero =>
      simp only [xn_cb, Bool.and_eq_true, decide_eq_true_eq] at hcb
      obtain ⟨d1, d2, d3, d4, d5, d6, d7⟩ := hcb
      refine lv_aload_n hx hb (k := 0) d1 rfl hl ?_
      refine xn_pushW hx hb d2 ?_
      refine va_put (D := (dC, dI)) (ci := ci) (v := .int (Int32.ofNat v)) (ty := .int) (C := own) (T := T) (N := N) (ref := (T k).1) hx hb hts hin ty0 hty hnm hown hK hP hD hS 0 rfl hc k d3 (hts _ hfl) (fun _ h9 => h9) d6 d7 rfl rfl (by omega) d5 (fun H1 locs1 hP1 hD1 hS1 => ?_)
      exact ih (pc + 1 + pl + 3) (fs.set k (.int (Int32.ofNat v))) ws H1 locs1 cells slots hok' hP1 hD1 hS1 (by rw [List.length_set]; exact hlen) hcs hss kk
    | succ t =>
      simp only [xn_cb, Bool.and_eq_true, decide_eq_true_eq] at hcb
      obtain ⟨d1, d2, d3, d4, d5, d6, d7, d8, d9, d10, d11, d12⟩ := hcb
      have hcs' : cells + (1 + xn_nc r) ≤ R.cells := hcs
      have hss' : slots + (v + xn_nl r) ≤ R.slots := hss
      refine lv_aload_n hx hb (k := 0) d1 rfl hl ?_
      refine xn_pushW hx hb d2 ?_
      refine xn_newa (D := (dC, dI)) (cls := cls) (dA := dA) (t := t) (n := v) hx hb hts harr hK hP hD hS hA d5 d10 d11 d12 (by omega) (by omega) d6 (fun q H1 hP1 hD1 hS1 => ?_)
      refine va_putF (D := (dC, dI)) (ci := ci) (v := .ref q) (ty := .array (xn_ty t)) (C := own) (T := T) (N := N) (ref := (T k).1) hx hb hts hin ty0 hty hnm hown hK hP1 hD1 hS1 0 rfl hc k d3 (hts _ hfl) (fun _ h9 => h9) d8 hname d4 d9 rfl rfl (by omega) d7 (fun H2 locs2 hP2 hD2 hS2 => ?_)
      refine ih (pc + 1 + pl + 2 + 3) (fs.set k (.ref q)) (ws ++ [(q, (Sum.inl (dA t, xn_a0 t v) : va_E))]) H2 locs2 (cells + 1) (slots + v) hok' hP2 hD2 hS2 (by rw [List.length_set]; exact hlen) (by omega) (by omega) (fun qs H3 locs3 hq hP3 hD3 hS3 => ?_)
      have h1 := kk (q :: qs) H3 locs3 (by show qs.length + 1 = 1 + xn_nc r; omega) (by rw [List.append_assoc] at hP3; exact hP3) (by rw [List.append_assoc] at hD3; exact hD3) hS3
      have e1 : cells + 1 + xn_nc r = cells + xn_nc ((k, idx, t + 1, v, pl) :: r) := Nat.add_assoc _ _ _
      have e2 : slots + v + xn_nl r = slots + xn_nl ((k, idx, t + 1, v, pl) :: r) := Nat.add_assoc _ _ _
      rw [e1, e2]
      exact h1
end XN1
/-- a constructor's contract: the world tp stands, its first place is the object; all else is new -/
def xn_Ct (l : Launch) (y : MethodName) (wc : List Cond) (rm : Room) (cls : List vw_C) (ns : List Cond) (ci : Nat) (fs0 : List Value) (tp : List xm_E) (M0 : xm_M) : Prop := ∀ (dC : Nat → ClassId) (dI : Nat → Nat → Nat) (dA : Nat → Nat) (h0 sz : Nat), Met l y wc rm (va_Pc [.ref h0] (fun U => U.heap.size = sz ∧ va_P (dC, dI) cls [(h0, .inr (ci, fs0))] U.heap ∧ va_K (dC, dI) cls (xm_tys dA) U ∧ xm_Nw ns U))
  (fun _ st o t => o = .returned none ∧ (∃ ad : Nat → Nat, ad 0 = h0 ∧ va_P (dC, dI) cls (xm_W ad dA tp M0) t.heap ∧ va_D (xn_A h0 sz) (xm_W ad dA tp M0)) ∧ va_F (xn_A h0 sz) st t) rm.cells rm.slots (xn_A h0 sz)
theorem xn_blind {cls : List vw_C} {ns : List Cond} (hn : ∀ w ∈ ns, xm_isN w = true) {dC : Nat → ClassId} {dI : Nat → Nat → Nat} {dA : Nat → Nat} {h0 sz ci : Nat} {fs0 : List Value} : FrameBlind (va_Pc [.ref h0] (fun U => U.heap.size = sz ∧ va_P (dC, dI) cls [(h0, .inr (ci, fs0))] U.heap ∧ va_K (dC, dI) cls (xm_tys dA) U ∧ xm_Nw ns U)) := by
  intro a U g mk q
  obtain ⟨q0, q1, qP, qK, qN⟩ := q
  exact ⟨q0, q1, qP, va_K.moved (u := U) (U := U.calling g mk a) (Vm.Alike.refl U.vm) qK, xm_Nw.same (s := U) (U := U.calling g mk a) hn rfl qN⟩
theorem xn_D1 {A : Nat → Prop} {h0 : Nat} {en : va_E} (h : A h0) : va_D A [(h0, en)] := by
  refine ⟨fun i j p q hi hj _ => ?_, fun k q hk => ?_⟩
  · have h1 : i < 1 := (List.getElem?_eq_some_iff.mp hi).1
    have h2 : j < 1 := (List.getElem?_eq_some_iff.mp hj).1
    omega
  · have h1 : k < 1 := (List.getElem?_eq_some_iff.mp hk).1
    obtain rfl : k = 0 := by omega
    cases hk
    exact h
theorem xn_qs (h0 : Nat) (qs : List Nat) : ∃ ad : Nat → Nat, ad 0 = h0 ∧ ∀ j, qs.getD j 0 = ad (j + 1) := ⟨fun k => match k with | 0 => h0 | k + 1 => qs.getD k 0, rfl, fun _ => rfl⟩
/-! from the list of what was made to the world of places -/
def xn_ta : List xn_I → List xm_E
  | [] => []
  | (_, _, 0, _, _) :: r => xn_ta r
  | (_, _, t + 1, v, _) :: r => .inl (t, v, false) :: xn_ta r
def xn_look : List xn_I → Nat → Nat → Option (Nat ⊕ Nat) → Option (Nat ⊕ Nat)
  | [], _, _, o => o
  | (f, _, 0, v, _) :: r, j, k, o => xn_look r j k (if f = k then some (.inl v) else o)
  | (f, _, _ + 1, _, _) :: r, j, k, o => xn_look r (j + 1) k (if f = k then some (.inr j) else o)
def xn_val (qs : List Nat) (fs : List Value) (k : Nat) (o : Option (Nat ⊕ Nat)) : Value := match o with
  | none => vp_V fs k
  | some (.inl v) => .int (Int32.ofNat v)
  | some (.inr j) => .ref (qs.getD j 0)
theorem xn_vp_set {fs : List Value} {f k : Nat} {v : Value} (hf : f < fs.length) : vp_V (fs.set f v) k = if f = k then v else vp_V fs k := by
  unfold vp_V
  by_cases h : f = k
  · subst h
    rw [if_pos rfl, List.getD_eq_getElem?_getD, List.getElem?_set_self hf]; rfl
  · rw [if_neg h, List.getD_eq_getElem?_getD, List.getElem?_set_ne h, ← List.getD_eq_getElem?_getD]
theorem xn_fs_at (Q : List Nat) (fs0 : List Value) (k : Nat) : ∀ (its : List xn_I) (j : Nat) (qs : List Nat) (fs : List Value) (o : Option (Nat ⊕ Nat)), (∀ i ∈ its, i.1 < fs.length) → (∀ n, qs.getD n 0 = Q.getD (j + n) 0) → vp_V fs k = xn_val Q fs0 k o → vp_V (xn_fs its qs fs) k = xn_val Q fs0 k (xn_look its j k o)
  | [], _, _, _, _, _, _, h => h
  | (f, _, 0, v, _) :: r, j, qs, fs, o, hf, hq, h => by
    show vp_V (xn_fs r qs (fs.set f (.int (Int32.ofNat v)))) k = xn_val Q fs0 k (xn_look r j k (if f = k then some (.inl v) else o))
    refine xn_fs_at Q fs0 k r j qs _ _ (fun i hi => by rw [List.length_set]; exact hf i (List.mem_cons_of_mem _ hi)) hq ?_
    rw [xn_vp_set (hf _ List.mem_cons_self)]
    by_cases c : f = k
    · rw [if_pos c, if_pos c]; rfl
    · rw [if_neg c, if_neg c]; exact h
  | (f, _, t + 1, v, _) :: r, j, qs, fs, o, hf, hq, h => by
    show vp_V (xn_fs r qs.tail (fs.set f (.ref (qs.headD 0)))) k = xn_val Q fs0 k (xn_look r (j + 1) k (if f = k then some (.inr j) else o))
    refine xn_fs_at Q fs0 k r (j + 1) qs.tail _ _ (fun i hi => by rw [List.length_set]; exact hf i (List.mem_cons_of_mem _ hi)) (fun n => ?_) ?_
    · have := hq (n + 1)
      rw [show j + 1 + n = j + (n + 1) by omega, ← this]
      cases qs <;> simp
    · rw [xn_vp_set (hf _ List.mem_cons_self)]
      by_cases c : f = k
      · rw [if_pos c, if_pos c]
        have := hq 0
        show Value.ref (qs.headD 0) = Value.ref (Q.getD j 0)
        rw [Nat.add_zero] at this
        rw [← this]
        cases qs <;> rfl
      · rw [if_neg c, if_neg c]; exact h
theorem xn_ar_at (dA : Nat → Nat) : ∀ (its : List xn_I) (qs : List Nat) (j : Nat) (en : xm_E), (xn_ta its)[j]? = some en → ∃ t n, en = .inl (t, n, false) ∧ (xn_ar dA its qs)[j]? = some (qs.getD j 0, Sum.inl (dA t, xn_a0 t n))
  | [], _, j, en, h => by cases j <;> cases h
  | (_, _, 0, _, _) :: r, qs, j, en, h => xn_ar_at dA r qs j en h
  | (_, _, t + 1, v, _) :: r, qs, 0, en, h => ⟨t, v, (Option.some.inj h).symm, by cases qs <;> rfl⟩
  | (_, _, t + 1, v, _) :: r, qs, j + 1, en, h => by
    obtain ⟨t2, n2, h1, h2⟩ := xn_ar_at dA r qs.tail j en h
    refine ⟨t2, n2, h1, ?_⟩
    show (xn_ar dA r qs.tail)[j]? = _
    rw [h2]
    cases qs <;> simp
def xn_t2 (en : xm_E) : Bool := match en with
  | .inl q => decide (q.1 < 2)
  | .inr _ => true
def xn_lkb (its : List xn_I) (fk : List (Option Nat)) (fs0 : List Value) (M0 : xm_M) (k : Nat) : Bool := match xn_look its 0 k none, fk[k]? with
  | none, some none => (match vp_V fs0 k with | .int z => decide (z = M0 0 k) | _ => false)
  | some (.inl v), some none => decide (M0 0 k = Int32.ofNat v)
  | some (.inr j), some (some q) => decide (q = j + 1)
  | _, _ => false
theorem xn_a0e {ad dA : Nat → Nat} {M0 : xm_M} {p t n : Nat} (ht : t < 2) (hM : M0 p = fun _ => 0) : xm_e ad dA M0 p (.inl (t, n, false)) = Sum.inl (dA t, xn_a0 t n) := by
  rcases (show t = 0 ∨ t = 1 by omega) with rfl | rfl
  · show Sum.inl (dA 0, n, Sum.inl (M0 p)) = _
    rw [hM]; rfl
  · show Sum.inl (dA 1, n, Sum.inl (M0 p)) = _
    rw [hM]; rfl
theorem xn_toW {D : va_G} {cls : List vw_C} {A : Nat → Prop} {its : List xn_I} {ci N : Nat} {C : String} {T : u_T} {fk : List (Option Nat)} {fs0 : List Value} {M0 : xm_M} {qs : List Nat} {ad dA : Nat → Nat} {H : Heap} (had : ∀ j, qs.getD j 0 = ad (j + 1)) (hlen : fs0.length = N) (hfk : fk.length = N) (hfld : ∀ i ∈ its, i.1 < N) (hc : cls[ci]? = some (C, T, N)) (hlk : ∀ k, k < N → xn_lkb its fk fs0 M0 k = true) (hta : (xn_ta its).all xn_t2 = true) (hM : ∀ p, p ≠ 0 → M0 p = fun _ => 0)
    (hP : va_P D cls ((ad 0, Sum.inr (ci, xn_fs its qs fs0)) :: xn_ar dA its qs) H) (hD : va_D A ((ad 0, Sum.inr (ci, xn_fs its qs fs0)) :: xn_ar dA its qs)) :
    va_P D cls (xm_W ad dA (.inr (ci, fk) :: xn_ta its) M0) H ∧ va_D A (xm_W ad dA (.inr (ci, fk) :: xn_ta its) M0) := by
  have hat : ∀ p en, (Sum.inr (ci, fk) :: xn_ta its)[p]? = some en → ∃ e, ((ad 0, Sum.inr (ci, xn_fs its qs fs0)) :: xn_ar dA its qs)[p]? = some (ad p, e) ∧ (va_at D cls (ad p, e) H → va_at D cls (ad p, xm_e ad dA M0 p en) H) := by
    intro p en h
    cases p with
    | zero =>
      cases h
      refine ⟨_, rfl, fun hz => ?_⟩
      obtain ⟨r, h1, h2⟩ := hz
      have hr : r = (C, T, N) := Option.some.inj (h1.symm.trans hc)
      subst hr
      refine ⟨_, hc, h2.to (fun k hk => ?_)⟩
      have e1 := xn_fs_at qs fs0 k its 0 qs fs0 none (fun i hi => by rw [hlen]; exact hfld i hi) (fun n => by rw [Nat.zero_add]) rfl
      show vp_V (xn_fs its qs fs0) k = vp_V (fk.mapIdx (xm_f ad M0 0)) k
      rw [e1]
      have hkf : k < fk.length := by rw [hfk]; exact hk
      have e2 : vp_V (fk.mapIdx (xm_f ad M0 0)) k = xm_f ad M0 0 k fk[k] := by
        unfold vp_V
        rw [List.getD_eq_getElem?_getD, List.getElem?_mapIdx, List.getElem?_eq_getElem hkf]; rfl
      have e3 := hlk k hk
      unfold xn_lkb at e3
      rw [List.getElem?_eq_getElem hkf] at e3
      rw [e2]
      generalize fk[k] = o at e3
      cases hl : xn_look its 0 k none with
      | none =>
        rw [hl] at e3
        cases o with
        | none =>
          show vp_V fs0 k = .int (M0 0 k)
          dsimp only at e3
          cases hv : vp_V fs0 k with
          | int z => rw [hv] at e3; rw [of_decide_eq_true e3]
          | _ => rw [hv] at e3; cases e3
        | some q => cases e3
      | some w =>
        rw [hl] at e3
        cases w with
        | inl v =>
          cases o with
          | none => show Value.int (Int32.ofNat v) = .int (M0 0 k); rw [of_decide_eq_true e3]
          | some q => cases e3
        | inr j =>
          cases o with
          | none => cases e3
          | some q =>
            show Value.ref (qs.getD j 0) = .ref (ad q)
            rw [of_decide_eq_true e3, had]
    | succ p =>
      have h' : (xn_ta its)[p]? = some en := h
      obtain ⟨t, n, h1, h2⟩ := xn_ar_at dA its qs p en h'
      refine ⟨_, by show (xn_ar dA its qs)[p]? = some (ad (p + 1), _); rw [h2, had], fun hz => ?_⟩
      subst h1
      rw [xn_a0e (of_decide_eq_true (List.all_eq_true.mp hta _ (List.mem_of_getElem? h'))) (hM (p + 1) (by omega))]
      exact hz
  have hlt : ∀ p, p < (Sum.inr (ci, fk) :: xn_ta its : List xm_E).length → ∃ e, ((ad 0, Sum.inr (ci, xn_fs its qs fs0)) :: xn_ar dA its qs)[p]? = some (ad p, e) := fun p hp => by
    obtain ⟨e, he, -⟩ := hat p _ (List.getElem?_eq_getElem hp)
    exact ⟨e, he⟩
  refine ⟨fun p q hp => ?_, xm_D (fun i j hi hj hij => ?_) (fun k hk => ?_) M0⟩
  · cases ht : (Sum.inr (ci, fk) :: xn_ta its : List xm_E)[p]? with
    | none =>
      simp only [xm_W, List.getElem?_mapIdx, ht] at hp
      cases hp
    | some en =>
      rw [xm_W_at ht] at hp
      cases hp
      obtain ⟨e, he, hz⟩ := hat p en ht
      exact hz (hP p _ he)
  · obtain ⟨e1, h1⟩ := hlt i hi
    obtain ⟨e2, h2⟩ := hlt j hj
    exact hD.1 i j _ _ h1 h2 hij
  · obtain ⟨e1, h1⟩ := hlt k hk
    exact hD.2 k _ h1
/-! worlds one behind the other -/
theorem xm_W_cat (ad dA : Nat → Nat) (tp0 tp1 : List xm_E) (M : xm_M) : xm_W ad dA (tp0 ++ tp1.map (xm_rl (fun q => q + tp0.length))) M = xm_W ad dA tp0 M ++ xm_W (fun k => ad (k + tp0.length)) dA tp1 (fun k => M (k + tp0.length)) := by
  apply List.ext_getElem?
  intro i
  simp only [xm_W, List.getElem?_mapIdx]
  by_cases h : i < tp0.length
  · rw [List.getElem?_append_left h, List.getElem?_append_left (by simpa using h), List.getElem?_mapIdx]
  · rw [List.getElem?_append_right (by omega), List.getElem?_append_right (by simp; omega), List.getElem?_mapIdx, List.getElem?_map, List.length_mapIdx]
    cases ht : tp1[i - tp0.length]? with
    | none => rfl
    | some en =>
      obtain ⟨j, rfl⟩ : ∃ j, i = j + tp0.length := ⟨i - tp0.length, by omega⟩
      rw [Nat.add_sub_cancel] at ht ⊢
      simp only [Option.map_some]
      have e9 := xm_rl_e (ad := ad) (dA := dA) (σ := fun q => q + tp0.length) (M := M) (k := j) en
      try dsimp only at e9
      rw [e9]
def xn_clo (n : Nat) (tp : List xm_E) : Bool := tp.all (fun en => match en with
  | .inl _ => true
  | .inr q => q.2.all (fun o => match o with | some r => decide (r < n) | none => true))
theorem xm_W_cong {ad ad2 dA : Nat → Nat} {tp : List xm_E} {M M2 : xm_M} {n : Nat} (hc : xn_clo n tp = true) (hn : tp.length ≤ n) (ha : ∀ k, k < n → ad2 k = ad k) (hM : ∀ k, k < n → M2 k = M k) : xm_W ad2 dA tp M2 = xm_W ad dA tp M := by
  apply List.ext_getElem?
  intro i
  simp only [xm_W, List.getElem?_mapIdx]
  cases ht : tp[i]? with
  | none => rfl
  | some en =>
    have hi : i < tp.length := (List.getElem?_eq_some_iff.mp ht).1
    have h1 := List.all_eq_true.mp hc en (List.mem_of_getElem? ht)
    simp only [Option.map_some]
    rw [ha i (by omega)]
    congr 2
    rcases en with ⟨t, m, b⟩ | ⟨ci, fk⟩
    · cases b <;> simp [xm_e, hM i (by omega)]
    · have h2 : fk.all (fun o => match o with | some r => decide (r < n) | none => true) = true := h1
      simp only [xm_e]
      congr 2
      apply List.ext_getElem?
      intro j
      simp only [List.getElem?_mapIdx]
      cases hf : fk[j]? with
      | none => rfl
      | some o =>
        have h3 := List.all_eq_true.mp h2 o (List.mem_of_getElem? hf)
        cases o with
        | none => simp [xm_f, hM i (by omega)]
        | some r => simp [xm_f, ha r (of_decide_eq_true h3)]
/-- what comes behind what stands -/
theorem xn_acc {ad a dA : Nat → Nat} {tr tp : List xm_E} (hc : xn_clo tr.length tr = true) (z : xm_M) (hz : ∀ p, z p = fun _ => 0) : ∃ ad2 : Nat → Nat, xm_W ad dA tr z ++ xm_W a dA tp z = xm_W ad2 dA (tr ++ tp.map (xm_rl (fun q => q + tr.length))) z ∧ (∀ k, k < tr.length → ad2 k = ad k) ∧ ∀ k, ad2 (k + tr.length) = a k := by
  refine ⟨fun k => if k < tr.length then ad k else a (k - tr.length), ?_, fun k hk => if_pos hk, fun k => ?_⟩
  · rw [xm_W_cat]
    congr 1
    · exact (xm_W_cong hc (Nat.le_refl _) (fun k hk => if_pos hk) (fun _ _ => rfl)).symm
    · have e1 : (fun k => (fun k => if k < tr.length then ad k else a (k - tr.length)) (k + tr.length)) = a := by
        funext k
        show (if k + tr.length < tr.length then ad (k + tr.length) else a (k + tr.length - tr.length)) = a k
        rw [if_neg (by omega), Nat.add_sub_cancel]
      have e2 : (fun k => z (k + tr.length)) = z := by funext k; rw [hz, hz]
      rw [e1, e2]
  · show (if k + tr.length < tr.length then ad (k + tr.length) else a (k + tr.length - tr.length)) = a k
    rw [if_neg (by omega), Nat.add_sub_cancel]
def xn_subb (σ : Nat → Nat) (tp1 tp : List xm_E) : Bool := (List.range tp1.length).all (fun k => decide (tp[σ k]? = tp1[k]?.map (xm_rl σ)))
theorem xn_sub_of {σ : Nat → Nat} {tp1 tp : List xm_E} (h : xn_subb σ tp1 tp = true) : xm_sub σ tp1 tp := by
  intro k en hk
  have hl : k < tp1.length := (List.getElem?_eq_some_iff.mp hk).1
  have := of_decide_eq_true (List.all_eq_true.mp h k (List.mem_range.mpr hl))
  rw [this, hk]; rfl
theorem xm_W_inj {A : Nat → Prop} {ad dA : Nat → Nat} {tp : List xm_E} {M : xm_M} (hD : va_D A (xm_W ad dA tp M)) : xm_inj ad tp.length := fun i j hi hj hij => hD.1 i j _ _ (xm_W_at (List.getElem?_eq_getElem hi)) (xm_W_at (List.getElem?_eq_getElem hj)) hij
theorem xm_W_in {A : Nat → Prop} {ad dA : Nat → Nat} {tp : List xm_E} {M : xm_M} (hD : va_D A (xm_W ad dA tp M)) : ∀ k, k < tp.length → A (ad k) := fun k hk => hD.2 k _ (xm_W_at (List.getElem?_eq_getElem hk))
section XN2
variable {l : Launch} {y : MethodName} {cc : ByteArray} {Ts ns : List Cond} {cls : List vw_C} {rm : Room} {T : u_T} {N ci oidx pcE : Nat} {its : List xn_I} {fs0 : List Value} {tp : List xm_E} {M0 : xm_M}
theorem xn_mk (hy : plainFor y = true) (hyn : y.name = "<init>") (hin : ∀ w ∈ u_ws y.cls T N, w ∈ Ts) (ty0 : Nat → FieldType) (hty : ∀ k, k < N → parseFieldDescriptor (T k).2.2.1 = some (ty0 k)) (hnm : ∀ a, a < N → ∀ b, b < N → a ≠ b → (T a).2.1 ≠ (T b).2.1) (hc : cls[ci]? = some (y.cls, T, N))
    (ho : Cond.methodLink y.cls oidx Lib.objectInit ∈ Ts) (hoi : Cond.instanceMethod Lib.objectInit ∈ Ts) (hoc : Cond.code Lib.objectInit ⟨#[0xb1]⟩ 1 none ∈ Ts) (harr : ∀ t, t < 3 → Cond.arrayClass (xn_ty t) ∈ Ts)
    (d0 : decode cc 0 = .ok (.aload_n 0, 1)) (d1 : decode cc 1 = .ok (.invokespecial oidx, 3)) (dE : decode cc pcE = .ok (.return_, 1)) (hok : xn_ok y.cls T N cc Ts its 4 pcE) (hlen : fs0.length = N) (hrm : 1 ≤ rm.frames ∧ 12 ≤ rm.locals ∧ xn_nc its = rm.cells ∧ xn_nl its = rm.slots)
    {fk : List (Option Nat)} (htp : tp = .inr (ci, fk) :: xn_ta its) (hfk : fk.length = N) (hfld : ∀ i ∈ its, i.1 < N) (hlk : ∀ k, k < N → xn_lkb its fk fs0 M0 k = true) (hta : (xn_ta its).all xn_t2 = true) (hM0 : ∀ p, p ≠ 0 → M0 p = fun _ => 0) :
    xn_Ct l y (Cond.code y cc 1 none :: Ts) rm cls ns ci fs0 tp M0 := by
  intro dC dI dA h0 sz
  refine va_MetF (cc := cc) (maxL := 1) (ret := none) hy rfl ?_
  intro p e s m args below meth c s₁ B hml hv
  obtain ⟨rfl, hsz, hP, hK, hN⟩ := hv
  have hx := B.exec
  have hb := B.bytes
  have hr := B.returns
  have hts0 := atoms_spec (ws := Cond.code y cc 1 none :: Ts) B.pre
  have hts : ∀ w ∈ Ts, w.before [Value.ref h0].toArray s = true := fun w h => hts0 w (List.mem_cons_of_mem _ h)
  have hown : s.vm.findClass y.cls = some m.cls := findClass_of_methodNamed B.named
  have hlocks := B.notSynchronized
  have hname : meth.name = "<init>" := ((name_of_methodNamed B.named B.method).1).trans hyn
  subst hsz
  have hA : ∀ q : Nat, s.heap.size ≤ q → xn_A h0 s.heap.size q := fun q h => Or.inr h
  have hD : va_D (xn_A h0 s.heap.size) [(h0, Sum.inr (ci, fs0))] := xn_D1 (Or.inl rfl)
  have hS : va_S (xn_A h0 s.heap.size) s.heap s.heap [] := va_S.rf
  have hl := lv_entry ([.ref h0]) (n := 1) (Nat.le_of_ble_eq_true rfl)
  rw [lg_entry_eq]
  generalize (lg_sl ([.ref h0]) ++ List.replicate (1 - (lg_sl ([.ref h0])).length) Slot.unset).toArray = ls at hl ⊢
  have hl : lv_has ls 1 [(0, .ref h0)] := hl
  refine lv_aload_n hx hb (k := 0) d0 rfl (lv_at hl 0 rfl) ?_
  refine W.objInit hx hb hown (hts _ ho) (hts _ hoi) (hts _ hoc) rfl (by rw [hml]; exact hl.1) rfl d1 hrm.1 hrm.2.1 ?_
  refine W.eq (g2 := F0 m 4 ls []) rfl ?_
  refine xn_run (R := rm) (dC := dC) (dI := dI) (dA := dA) (A := xn_A h0 s.heap.size) (ci := ci) (h0 := h0) hx hb hts hin ty0 hty hnm hown hname hK hc hA harr (lv_at hl 0 rfl) its 4 fs0 [] s.heap [] 0 0 hok hP hD hS hlen (by omega) (by omega) (fun qs H1 locs1 hq hP1 hD1 hS1 => ?_)
  obtain ⟨ad, ha, hqe⟩ := xn_qs h0 qs
  subst ha
  rw [List.nil_append] at hP1 hD1
  obtain ⟨hP1, hD1⟩ := xn_toW (fk := fk) (M0 := M0) hqe hlen hfk hfld hc hlk hta hM0 hP1 hD1
  rw [← htp] at hP1 hD1
  rw [Nat.zero_add, Nat.zero_add, hrm.2.2.1, hrm.2.2.2]
  exact W.vret hx hb hr (fun t ht hW => ⟨rfl, ⟨ad, rfl, by rw [ht]; exact hP1, hD1⟩, hS1.F ht⟩) hS1.2.2 dE
end XN2
section XN3
variable {p : Program} {l : Launch} {e : Env} {R : Room} {s : State} {m : MethodId} {args : Array Value} {below : List Frame} {meth : Method} {c : Code} {Q : State → Prop} {cc : ByteArray} {ls : Array Slot} {H : Heap} {locs : List Loc} {cells slots pc : Nat} {rest : List Value}
/-- new, dup, the constructor -/
theorem xn_new {dC : Nat → ClassId} {dI : Nat → Nat → Nat} {dA : Nat → Nat} {cls : List vw_C} {ns Ts : List Cond} {A : Nat → Prop} {own : String} {nL : Nat} (S : CallFix p m c cc nL s args Ts own) (hg : xm_good Ts) (hns : ∀ w ∈ ns, xm_isN w = true) (hN : xm_Nw ns s) (hK : va_K (dC, dI) cls (xm_tys dA) s)
    {y : MethodName} {bytes : ByteArray} {rmC : Room} {T : u_T} {N ci : Nat} {fs0 : List Value} {tp : List xm_E} {M0 : xm_M} (hM : xn_Ct l y (Cond.code y bytes 1 none :: Ts) rmC cls ns ci fs0 tp M0) (hyn : y.name = "<init>") (hc : cls[ci]? = some (y.cls, T, N)) (hin : ∀ w ∈ u_ws y.cls T N, w ∈ Ts) (ty0 : Nat → FieldType) (hty : ∀ k, k < N → parseFieldDescriptor (T k).2.2.1 = some (ty0 k))
    (hfs : ∀ j, j < N → defaultValue (ty0 j) = vp_V fs0 j) {idx idx2 : Nat} (hcl : Cond.classLink own idx y.cls ∈ Ts) (hinst : Cond.instantiable y.cls N ∈ Ts) (hini : Cond.initialized y.cls ∈ Ts) (hcode : Cond.code y bytes 1 none ∈ Ts) (hd : y.cls ≠ "java/lang/invoke/MethodHandle" ∧ y.cls ≠ "java/lang/invoke/VarHandle" ∧ (parseMethodDescriptor y.desc).map (fun d => d.parameters.length) = some 0)
    (hlk : Cond.methodLink own idx2 y ∈ Ts ∨ ∃ host, Cond.methodLinkNest own idx2 y host ∈ ns) (hinm : Cond.instanceMethod y ∈ Ts) (hrm : rmC.frames + 1 ≤ R.frames ∧ 8 + (1 + 11) + rmC.locals ≤ R.locals)
    {ws : va_W} (hP : va_P (dC, dI) cls ws H) (hD : va_D A ws) (hS : va_S A s.heap H locs) (hA : ∀ q, s.heap.size ≤ q → A q) (hcs : cells + 1 + rmC.cells ≤ R.cells) (hss : slots + N + rmC.slots ≤ R.slots) (hrest : (rest.map (fun v => v.category)).sum ≤ 7) (hls : ls.size = nL)
    (d0 : decode cc pc = .ok (.new idx, 3)) (d1 : decode cc (pc + 3) = .ok (.dup, 1)) (d2 : decode cc (pc + 4) = .ok (.invokespecial idx2, 3))
    (kk : ∀ (ad : Nat → Nat) (H1 : Heap) (locs1 : List Loc), va_P (dC, dI) cls (ws ++ xm_W ad dA tp M0) H1 → va_D A (ws ++ xm_W ad dA tp M0) → va_S A s.heap H1 locs1 → W p l e R s m args below meth c H1 locs1 (cells + 1 + rmC.cells) (slots + N + rmC.slots) Q (F0 m (pc + 7) ls (.ref (ad 0) :: rest))) : W p l e R s m args below meth c H locs cells slots Q (F0 m pc ls rest) := by
  obtain ⟨hx, hb, hml, hown, hts⟩ := S
  refine va_new (ci := ci) (fs := fs0) (C := y.cls) (T := T) (N := N) hx hb hts hin ty0 hty hown (hts _ hcl) (hts _ hinst) (hts _ hini) hK hP hD hS hA hc hfs (by omega) (by omega) d0 (fun q H1 hP1 hD1 hS1 => ?_)
  refine lv_dup hx hb d1 rfl ?_
  have hPq : va_P (dC, dI) cls [(q, Sum.inr (ci, fs0))] H1 := by
    intro k x hk
    have h1 : k < 1 := (List.getElem?_eq_some_iff.mp hk).1
    obtain rfl : k = 0 := by omega
    exact hP1 ws.length x (by rw [List.getElem?_append_right (Nat.le_refl _), Nat.sub_self]; exact hk)
  have hlt : ∀ (k : Nat) (x : Nat × va_E), ws[k]? = some x → x.1 < H1.size ∧ x.1 ≠ q := by
    intro k x hk
    have hkl : k < ws.length := (List.getElem?_eq_some_iff.mp hk).1
    have h1 : (ws ++ [(q, Sum.inr (ci, fs0))])[k]? = some x := by rw [List.getElem?_append_left hkl]; exact hk
    refine ⟨(hP1 k x h1).lt, fun hz => ?_⟩
    have h2 := hD1.1 k ws.length x (q, Sum.inr (ci, fs0)) h1 (by rw [List.getElem?_append_right (Nat.le_refl _), Nat.sub_self]; rfl) hz
    omega
  have hAq : ∀ z, xn_A q H1.size z → A z := by
    intro z hz
    rcases hz with rfl | hz
    · exact hD1.2 ws.length (z, Sum.inr (ci, fs0)) (by rw [List.getElem?_append_right (Nat.le_refl _), Nat.sub_self]; rfl)
    · exact hA z (Nat.le_trans hS1.1 hz)
  have hpre : PreS s H1 (va_Pc [.ref q] (fun U => U.heap.size = H1.size ∧ va_P (dC, dI) cls [(q, Sum.inr (ci, fs0))] U.heap ∧ va_K (dC, dI) cls (xm_tys dA) U ∧ xm_Nw ns U)) (.ref q :: []) := ⟨xn_blind hns, fun U hU hW => ⟨rfl, by rw [hU], by rw [hU]; exact hPq, va_K.moved hW.alike hK, hN.warm hns hW⟩⟩
  have hcat : ((Value.ref q :: rest).map (fun v => v.category)).sum ≤ 8 := by
    have h1 : ((Value.ref q :: rest).map (fun v => v.category)).sum = 1 + (rest.map (fun v => v.category)).sum := rfl
    rw [h1]; omega
  have hrun : va_Run p l e R s m args below meth c H1 locs (cells + 1) (slots + N) rmC.cells rmC.slots (F0 m (pc + 3 + 1) ls (.ref q :: .ref q :: rest)) (.ref q :: rest) ((fun _ st o t => o = .returned none ∧ (∃ ad : Nat → Nat, ad 0 = q ∧ va_P (dC, dI) cls (xm_W ad dA tp M0) t.heap ∧ va_D (xn_A q H1.size) (xm_W ad dA tp M0)) ∧ va_F (xn_A q H1.size) st t) (Value.ref q :: []).toArray) (xn_A q H1.size) := by
    rcases hlk with h | ⟨host, h⟩
    · exact va_runI (As := []) (rest := .ref q :: rest) ⟨hx, hb, hml, hown, hts⟩ (hM dC dI dA q H1.size) ⟨callB_of 0 hts (xm_goodIn hg hcode) rfl rfl rfl (hts _ hini) (hts _ h) hd hrm, hyn, hts _ hinm⟩ hpre rfl rfl hls rfl (lv_room hcat) d2 ⟨hcs, hss⟩
    · exact va_runIN (host := host) (As := []) (rest := .ref q :: rest) ⟨hx, hb, hml, hown, hts⟩ (hM dC dI dA q H1.size) ⟨va_cnB 0 hts (xm_goodIn hg hcode) rfl rfl rfl (hN _ h) (hts _ hini) hd hrm, hyn, hts _ hinm⟩ hpre rfl rfl hls rfl (lv_room hcat) d2 ⟨hcs, hss⟩
  intro Tt hT X
  obtain ⟨v, st₀, t, T', L, e0, X', hL, e1, e2, ⟨hv, ⟨ad, ha, hP2, hD2⟩, hF⟩, st⟩ := hrun Tt hT X
  cases hv
  subst ha
  have hold : ∀ z : Nat, z < H1.size → ¬ xn_A (ad 0) H1.size z → t.heap[z]? = H1[z]? := fun z h1 h2 => by rw [hF.2 z (by rw [e0]; exact h1) h2, e0]
  have hnA : ∀ (k : Nat) (x : Nat × va_E), ws[k]? = some x → ¬ xn_A (ad 0) H1.size x.1 := by
    intro k x hk hz
    obtain ⟨g1, g2⟩ := hlt k x hk
    rcases hz with hz | hz
    · exact g2 hz
    · omega
  have hPw : va_P (dC, dI) cls ws t.heap := by
    intro k x hk
    have hkl : k < ws.length := (List.getElem?_eq_some_iff.mp hk).1
    have h1 : (ws ++ [(ad 0, Sum.inr (ci, fs0))])[k]? = some x := by rw [List.getElem?_append_left hkl]; exact hk
    exact (hP1 k x h1).kept (hold x.1 (hlt k x hk).1 (hnA k x hk))
  have hDw : va_D A (ws ++ xm_W ad dA tp M0) := va_D.app hD (hD2.weaken (fun k x _ h => hAq x.1 h)) (fun i j x y hi hj hz => hnA i x hi (by rw [hz]; exact hD2.2 j y hj))
  have hS2 : va_S A s.heap t.heap (locs ++ L) := by
    refine ⟨Nat.le_trans hS1.1 (by rw [← e0]; exact hF.1), fun z h1 h2 => ?_, fun x hx => ?_⟩
    · rw [hold z (Nat.lt_of_lt_of_le h1 hS1.1) (fun h => h2 (hAq z h))]
      exact hS1.2.1 z h1 h2
    · rcases List.mem_append.mp hx with h | h
      · exact hS1.2.2 x h
      · exact hAq _ (hL x h)
  obtain ⟨t2, a1, b1⟩ := kk ad t.heap (locs ++ L) (hPw.app hP2) hDw hS2 T' e1 X'
  exact ⟨t2, st t2 a1, b1⟩
end XN3
theorem xz1_38 : (Cond.initialized "AbsenceRows$Calendar") ∈ xt_T := xt_in 38 (by decide +kernel) rfl
theorem xz1_39 : (Cond.initialized "AbsenceRows$Persons") ∈ xt_T := xt_in 39 (by decide +kernel) rfl
theorem xz1_40 : (Cond.initialized "AbsenceRows$Crews") ∈ xt_T := xt_in 40 (by decide +kernel) rfl
theorem xz1_41 : (Cond.initialized "AbsenceRows$Asks") ∈ xt_T := xt_in 41 (by decide +kernel) rfl
theorem xz1_42 : (Cond.initialized "AbsenceRows$HeldRows") ∈ xt_T := xt_in 42 (by decide +kernel) rfl
theorem xz1_43 : (Cond.initialized "AbsenceRows$Calls") ∈ xt_T := xt_in 43 (by decide +kernel) rfl
theorem xz1_59 : (Cond.methodLink "AbsenceRows" 1 ⟨"java/lang/Object", "<init>", "()V"⟩) ∈ xt_T := xt_in 59 (by decide +kernel) rfl
theorem xz1_60 : (Cond.instanceMethod ⟨"java/lang/Object", "<init>", "()V"⟩) ∈ xt_T := xt_in 60 (by decide +kernel) rfl
theorem xz1_62 : (Cond.classLink "AbsenceRows" 7 "AbsenceRows$Calendar") ∈ xt_T := xt_in 62 (by decide +kernel) rfl
theorem xz1_63 : (Cond.instantiable "AbsenceRows$Calendar" 1) ∈ xt_T := xt_in 63 (by decide +kernel) rfl
theorem xz1_65 : (Cond.instanceMethod ⟨"AbsenceRows$Calendar", "<init>", "()V"⟩) ∈ xt_T := xt_in 65 (by decide +kernel) rfl
theorem xz1_67 : (Cond.methodLink "AbsenceRows$Calendar" 3 ⟨"java/lang/Object", "<init>", "()V"⟩) ∈ xt_T := xt_in 67 (by decide +kernel) rfl
theorem xz1_68 : (Cond.fieldLink "AbsenceRows$Calendar" 9 "AbsenceRows$Calendar" "isHoliday" "[Z") ∈ xt_T := xt_in 68 (by decide +kernel) rfl
theorem xz1_73 : (Cond.arrayClass .boolean) ∈ xt_T := xt_in 73 (by decide +kernel) rfl
theorem xz1_74 : (Cond.classLink "AbsenceRows" 16 "AbsenceRows$Persons") ∈ xt_T := xt_in 74 (by decide +kernel) rfl
theorem xz1_75 : (Cond.instantiable "AbsenceRows$Persons" 8) ∈ xt_T := xt_in 75 (by decide +kernel) rfl
theorem xz1_77 : (Cond.instanceMethod ⟨"AbsenceRows$Persons", "<init>", "()V"⟩) ∈ xt_T := xt_in 77 (by decide +kernel) rfl
theorem xz1_79 : (Cond.methodLink "AbsenceRows$Persons" 3 ⟨"java/lang/Object", "<init>", "()V"⟩) ∈ xt_T := xt_in 79 (by decide +kernel) rfl
theorem xz1_80 : (Cond.fieldLink "AbsenceRows$Persons" 9 "AbsenceRows$Persons" "count" "I") ∈ xt_T := xt_in 80 (by decide +kernel) rfl
theorem xz1_82 : (Cond.fieldLink "AbsenceRows$Persons" 15 "AbsenceRows$Persons" "skills" "[I") ∈ xt_T := xt_in 82 (by decide +kernel) rfl
theorem xz1_83 : (Cond.fieldLink "AbsenceRows$Persons" 19 "AbsenceRows$Persons" "rank" "[I") ∈ xt_T := xt_in 83 (by decide +kernel) rfl
theorem xz1_85 : (Cond.fieldLink "AbsenceRows$Persons" 22 "AbsenceRows$Persons" "since" "[I") ∈ xt_T := xt_in 85 (by decide +kernel) rfl
theorem xz1_86 : (Cond.fieldLink "AbsenceRows$Persons" 25 "AbsenceRows$Persons" "up" "[I") ∈ xt_T := xt_in 86 (by decide +kernel) rfl
theorem xz1_88 : (Cond.fieldLink "AbsenceRows$Persons" 28 "AbsenceRows$Persons" "down" "[I") ∈ xt_T := xt_in 88 (by decide +kernel) rfl
theorem xz1_90 : (Cond.fieldLink "AbsenceRows$Persons" 31 "AbsenceRows$Persons" "timesAsked" "[I") ∈ xt_T := xt_in 90 (by decide +kernel) rfl
theorem xz1_92 : (Cond.fieldLink "AbsenceRows$Persons" 34 "AbsenceRows$Persons" "barredBefore" "[I") ∈ xt_T := xt_in 92 (by decide +kernel) rfl
theorem xz1_111 : (Cond.arrayClass .int) ∈ xt_T := xt_in 111 (by decide +kernel) rfl
theorem xz1_112 : (Cond.classLink "AbsenceRows" 23 "AbsenceRows$Crews") ∈ xt_T := xt_in 112 (by decide +kernel) rfl
theorem xz1_113 : (Cond.instantiable "AbsenceRows$Crews" 4) ∈ xt_T := xt_in 113 (by decide +kernel) rfl
theorem xz1_115 : (Cond.instanceMethod ⟨"AbsenceRows$Crews", "<init>", "()V"⟩) ∈ xt_T := xt_in 115 (by decide +kernel) rfl
theorem xz1_117 : (Cond.methodLink "AbsenceRows$Crews" 3 ⟨"java/lang/Object", "<init>", "()V"⟩) ∈ xt_T := xt_in 117 (by decide +kernel) rfl
theorem xz1_118 : (Cond.fieldLink "AbsenceRows$Crews" 9 "AbsenceRows$Crews" "count" "I") ∈ xt_T := xt_in 118 (by decide +kernel) rfl
theorem xz1_120 : (Cond.fieldLink "AbsenceRows$Crews" 15 "AbsenceRows$Crews" "skills" "[I") ∈ xt_T := xt_in 120 (by decide +kernel) rfl
theorem xz1_122 : (Cond.fieldLink "AbsenceRows$Crews" 19 "AbsenceRows$Crews" "least" "[I") ∈ xt_T := xt_in 122 (by decide +kernel) rfl
theorem xz1_124 : (Cond.fieldLink "AbsenceRows$Crews" 22 "AbsenceRows$Crews" "members" "[I") ∈ xt_T := xt_in 124 (by decide +kernel) rfl
theorem xz1_135 : (Cond.classLink "AbsenceRows" 30 "AbsenceRows$Asks") ∈ xt_T := xt_in 135 (by decide +kernel) rfl
theorem xz1_136 : (Cond.instantiable "AbsenceRows$Asks" 8) ∈ xt_T := xt_in 136 (by decide +kernel) rfl
theorem xz1_138 : (Cond.instanceMethod ⟨"AbsenceRows$Asks", "<init>", "()V"⟩) ∈ xt_T := xt_in 138 (by decide +kernel) rfl
theorem xz1_140 : (Cond.methodLink "AbsenceRows$Asks" 3 ⟨"java/lang/Object", "<init>", "()V"⟩) ∈ xt_T := xt_in 140 (by decide +kernel) rfl
theorem xz1_141 : (Cond.fieldLink "AbsenceRows$Asks" 9 "AbsenceRows$Asks" "count" "I") ∈ xt_T := xt_in 141 (by decide +kernel) rfl
theorem xz1_143 : (Cond.fieldLink "AbsenceRows$Asks" 15 "AbsenceRows$Asks" "person" "[I") ∈ xt_T := xt_in 143 (by decide +kernel) rfl
theorem xz1_145 : (Cond.fieldLink "AbsenceRows$Asks" 19 "AbsenceRows$Asks" "kind" "[I") ∈ xt_T := xt_in 145 (by decide +kernel) rfl
theorem xz1_147 : (Cond.fieldLink "AbsenceRows$Asks" 22 "AbsenceRows$Asks" "from" "[I") ∈ xt_T := xt_in 147 (by decide +kernel) rfl
theorem xz1_149 : (Cond.fieldLink "AbsenceRows$Asks" 25 "AbsenceRows$Asks" "to" "[I") ∈ xt_T := xt_in 149 (by decide +kernel) rfl
theorem xz1_151 : (Cond.fieldLink "AbsenceRows$Asks" 28 "AbsenceRows$Asks" "halves" "[I") ∈ xt_T := xt_in 151 (by decide +kernel) rfl
theorem xz1_153 : (Cond.fieldLink "AbsenceRows$Asks" 31 "AbsenceRows$Asks" "state" "[I") ∈ xt_T := xt_in 153 (by decide +kernel) rfl
theorem xz1_155 : (Cond.fieldLink "AbsenceRows$Asks" 34 "AbsenceRows$Asks" "firstStepBy" "[I") ∈ xt_T := xt_in 155 (by decide +kernel) rfl
theorem xz1_174 : (Cond.classLink "AbsenceRows" 37 "AbsenceRows$HeldRows") ∈ xt_T := xt_in 174 (by decide +kernel) rfl
theorem xz1_175 : (Cond.instantiable "AbsenceRows$HeldRows" 4) ∈ xt_T := xt_in 175 (by decide +kernel) rfl
theorem xz1_177 : (Cond.instanceMethod ⟨"AbsenceRows$HeldRows", "<init>", "()V"⟩) ∈ xt_T := xt_in 177 (by decide +kernel) rfl
theorem xz1_179 : (Cond.methodLink "AbsenceRows$HeldRows" 3 ⟨"java/lang/Object", "<init>", "()V"⟩) ∈ xt_T := xt_in 179 (by decide +kernel) rfl
theorem xz1_180 : (Cond.fieldLink "AbsenceRows$HeldRows" 9 "AbsenceRows$HeldRows" "count" "I") ∈ xt_T := xt_in 180 (by decide +kernel) rfl
theorem xz1_181 : (Cond.fieldLink "AbsenceRows$HeldRows" 15 "AbsenceRows$HeldRows" "ask" "[I") ∈ xt_T := xt_in 181 (by decide +kernel) rfl
theorem xz1_183 : (Cond.fieldLink "AbsenceRows$HeldRows" 19 "AbsenceRows$HeldRows" "day" "[I") ∈ xt_T := xt_in 183 (by decide +kernel) rfl
theorem xz1_185 : (Cond.fieldLink "AbsenceRows$HeldRows" 22 "AbsenceRows$HeldRows" "crew" "[I") ∈ xt_T := xt_in 185 (by decide +kernel) rfl
theorem xz1_196 : (Cond.classLink "AbsenceRows" 44 "AbsenceRows$Calls") ∈ xt_T := xt_in 196 (by decide +kernel) rfl
theorem xz1_197 : (Cond.instantiable "AbsenceRows$Calls" 7) ∈ xt_T := xt_in 197 (by decide +kernel) rfl
theorem xz1_199 : (Cond.instanceMethod ⟨"AbsenceRows$Calls", "<init>", "()V"⟩) ∈ xt_T := xt_in 199 (by decide +kernel) rfl
theorem xz1_201 : (Cond.methodLink "AbsenceRows$Calls" 3 ⟨"java/lang/Object", "<init>", "()V"⟩) ∈ xt_T := xt_in 201 (by decide +kernel) rfl
theorem xz1_202 : (Cond.fieldLink "AbsenceRows$Calls" 9 "AbsenceRows$Calls" "count" "I") ∈ xt_T := xt_in 202 (by decide +kernel) rfl
theorem xz1_204 : (Cond.fieldLink "AbsenceRows$Calls" 15 "AbsenceRows$Calls" "crew" "[I") ∈ xt_T := xt_in 204 (by decide +kernel) rfl
theorem xz1_206 : (Cond.fieldLink "AbsenceRows$Calls" 19 "AbsenceRows$Calls" "day" "[I") ∈ xt_T := xt_in 206 (by decide +kernel) rfl
theorem xz1_208 : (Cond.fieldLink "AbsenceRows$Calls" 22 "AbsenceRows$Calls" "state" "[I") ∈ xt_T := xt_in 208 (by decide +kernel) rfl
theorem xz1_210 : (Cond.fieldLink "AbsenceRows$Calls" 25 "AbsenceRows$Calls" "person" "[I") ∈ xt_T := xt_in 210 (by decide +kernel) rfl
theorem xz1_212 : (Cond.fieldLink "AbsenceRows$Calls" 28 "AbsenceRows$Calls" "wereAsked" "[I") ∈ xt_T := xt_in 212 (by decide +kernel) rfl
theorem xz1_214 : (Cond.fieldLink "AbsenceRows$Calls" 31 "AbsenceRows$Calls" "nextAt" "[I") ∈ xt_T := xt_in 214 (by decide +kernel) rfl
theorem xz1_231 : (Cond.fieldLink "AbsenceRows" 10 "AbsenceRows" "calendar" "LAbsenceRows$Calendar;") ∈ xt_T := xt_in 231 (by decide +kernel) rfl
theorem xz1_232 : (Cond.fieldLink "AbsenceRows" 19 "AbsenceRows" "persons" "LAbsenceRows$Persons;") ∈ xt_T := xt_in 232 (by decide +kernel) rfl
theorem xz1_233 : (Cond.fieldLink "AbsenceRows" 26 "AbsenceRows" "crews" "LAbsenceRows$Crews;") ∈ xt_T := xt_in 233 (by decide +kernel) rfl
theorem xz1_234 : (Cond.fieldLink "AbsenceRows" 33 "AbsenceRows" "asks" "LAbsenceRows$Asks;") ∈ xt_T := xt_in 234 (by decide +kernel) rfl
theorem xz1_235 : (Cond.fieldLink "AbsenceRows" 40 "AbsenceRows" "heldRows" "LAbsenceRows$HeldRows;") ∈ xt_T := xt_in 235 (by decide +kernel) rfl
theorem xz1_236 : (Cond.fieldLink "AbsenceRows" 47 "AbsenceRows" "calls" "LAbsenceRows$Calls;") ∈ xt_T := xt_in 236 (by decide +kernel) rfl
theorem xz1_237 : (Cond.fieldLink "AbsenceRows" 51 "AbsenceRows" "carryDays" "I") ∈ xt_T := xt_in 237 (by decide +kernel) rfl
theorem xz1_238 : (Cond.fieldLink "AbsenceRows" 55 "AbsenceRows" "patienceHours" "I") ∈ xt_T := xt_in 238 (by decide +kernel) rfl
theorem xz1_239 : (Cond.fieldLink "AbsenceRows" 58 "AbsenceRows" "hour" "I") ∈ xt_T := xt_in 239 (by decide +kernel) rfl
theorem xz1_805 : (Cond.methodLink "AbsenceRowsModel" 1 ⟨"java/lang/Object", "<init>", "()V"⟩) ∈ xt_T := xt_in 805 (by decide +kernel) rfl
theorem xz1_808 : (Cond.fieldLink "AbsenceRowsModel" 7 "AbsenceRowsModel" "free" "[Z") ∈ xt_T := xt_in 808 (by decide +kernel) rfl
theorem xz1_810 : (Cond.fieldLink "AbsenceRowsModel" 13 "AbsenceRowsModel" "skills" "[I") ∈ xt_T := xt_in 810 (by decide +kernel) rfl
theorem xz1_811 : (Cond.fieldLink "AbsenceRowsModel" 17 "AbsenceRowsModel" "rank" "[I") ∈ xt_T := xt_in 811 (by decide +kernel) rfl
theorem xz1_812 : (Cond.fieldLink "AbsenceRowsModel" 20 "AbsenceRowsModel" "since" "[I") ∈ xt_T := xt_in 812 (by decide +kernel) rfl
theorem xz1_813 : (Cond.fieldLink "AbsenceRowsModel" 23 "AbsenceRowsModel" "up" "[I") ∈ xt_T := xt_in 813 (by decide +kernel) rfl
theorem xz1_814 : (Cond.fieldLink "AbsenceRowsModel" 26 "AbsenceRowsModel" "down" "[I") ∈ xt_T := xt_in 814 (by decide +kernel) rfl
theorem xz1_815 : (Cond.fieldLink "AbsenceRowsModel" 29 "AbsenceRowsModel" "times" "[I") ∈ xt_T := xt_in 815 (by decide +kernel) rfl
theorem xz1_816 : (Cond.fieldLink "AbsenceRowsModel" 32 "AbsenceRowsModel" "bars" "[I") ∈ xt_T := xt_in 816 (by decide +kernel) rfl
theorem xz1_819 : (Cond.fieldLink "AbsenceRowsModel" 35 "AbsenceRowsModel" "wants" "[I") ∈ xt_T := xt_in 819 (by decide +kernel) rfl
theorem xz1_820 : (Cond.fieldLink "AbsenceRowsModel" 38 "AbsenceRowsModel" "least" "[I") ∈ xt_T := xt_in 820 (by decide +kernel) rfl
theorem xz1_821 : (Cond.fieldLink "AbsenceRowsModel" 41 "AbsenceRowsModel" "member" "[Z") ∈ xt_T := xt_in 821 (by decide +kernel) rfl
theorem xz1_823 : (Cond.fieldLink "AbsenceRowsModel" 44 "AbsenceRowsModel" "who" "[I") ∈ xt_T := xt_in 823 (by decide +kernel) rfl
theorem xz1_824 : (Cond.fieldLink "AbsenceRowsModel" 47 "AbsenceRowsModel" "kind" "[I") ∈ xt_T := xt_in 824 (by decide +kernel) rfl
theorem xz1_825 : (Cond.fieldLink "AbsenceRowsModel" 50 "AbsenceRowsModel" "from" "[I") ∈ xt_T := xt_in 825 (by decide +kernel) rfl
theorem xz1_826 : (Cond.fieldLink "AbsenceRowsModel" 53 "AbsenceRowsModel" "to" "[I") ∈ xt_T := xt_in 826 (by decide +kernel) rfl
theorem xz1_827 : (Cond.fieldLink "AbsenceRowsModel" 56 "AbsenceRowsModel" "halves" "[I") ∈ xt_T := xt_in 827 (by decide +kernel) rfl
theorem xz1_828 : (Cond.fieldLink "AbsenceRowsModel" 59 "AbsenceRowsModel" "state" "[I") ∈ xt_T := xt_in 828 (by decide +kernel) rfl
theorem xz1_829 : (Cond.fieldLink "AbsenceRowsModel" 62 "AbsenceRowsModel" "step" "[I") ∈ xt_T := xt_in 829 (by decide +kernel) rfl
theorem xz1_831 : (Cond.fieldLink "AbsenceRowsModel" 65 "AbsenceRowsModel" "rowAsk" "[I") ∈ xt_T := xt_in 831 (by decide +kernel) rfl
theorem xz1_832 : (Cond.fieldLink "AbsenceRowsModel" 68 "AbsenceRowsModel" "rowDay" "[I") ∈ xt_T := xt_in 832 (by decide +kernel) rfl
theorem xz1_833 : (Cond.fieldLink "AbsenceRowsModel" 71 "AbsenceRowsModel" "rowCrew" "[I") ∈ xt_T := xt_in 833 (by decide +kernel) rfl
theorem xz1_835 : (Cond.fieldLink "AbsenceRowsModel" 74 "AbsenceRowsModel" "callCrew" "[I") ∈ xt_T := xt_in 835 (by decide +kernel) rfl
theorem xz1_836 : (Cond.fieldLink "AbsenceRowsModel" 77 "AbsenceRowsModel" "callDay" "[I") ∈ xt_T := xt_in 836 (by decide +kernel) rfl
theorem xz1_837 : (Cond.fieldLink "AbsenceRowsModel" 80 "AbsenceRowsModel" "callState" "[I") ∈ xt_T := xt_in 837 (by decide +kernel) rfl
theorem xz1_838 : (Cond.fieldLink "AbsenceRowsModel" 83 "AbsenceRowsModel" "callPerson" "[I") ∈ xt_T := xt_in 838 (by decide +kernel) rfl
theorem xz1_839 : (Cond.fieldLink "AbsenceRowsModel" 86 "AbsenceRowsModel" "callMany" "[I") ∈ xt_T := xt_in 839 (by decide +kernel) rfl
theorem xz1_840 : (Cond.fieldLink "AbsenceRowsModel" 89 "AbsenceRowsModel" "callDue" "[I") ∈ xt_T := xt_in 840 (by decide +kernel) rfl
theorem xz1_841 : (Cond.fieldLink "AbsenceRowsModel" 92 "AbsenceRowsModel" "wasAsked" "[Z") ∈ xt_T := xt_in 841 (by decide +kernel) rfl
theorem xz1_842 : (Cond.fieldLink "AbsenceRowsModel" 95 "AbsenceRowsModel" "patience" "I") ∈ xt_T := xt_in 842 (by decide +kernel) rfl
theorem xz1_1102 : (Cond.arrayClass .long) ∈ xt_T := xt_in 1102 (by decide +kernel) rfl
theorem xz_objc : Cond.code Lib.objectInit ⟨#[0xb1]⟩ 1 none ∈ xt_T := xt_in 61 (by decide +kernel) rfl
theorem xn_arr : ∀ t, t < 3 → Cond.arrayClass (xn_ty t) ∈ xt_T := by
  intro t ht
  rcases (show t = 0 ∨ t = 1 ∨ t = 2 by omega) with rfl | rfl | rfl
  · exact xz1_111
  · exact xz1_73
  · exact xz1_1102
def xn_z : xm_M := fun _ _ => 0
def xn_zM : xm_M := xm_up xn_z 0 36 2
def xn_zA : xm_M := xm_up xn_z 0 7 2
theorem xn_zM0 {p : Nat} (hp : p ≠ 0) : xn_zM p = fun _ => 0 := by
  funext b; simp [xn_zM, xm_up, hp, xn_z]
theorem xn_zA0 {p : Nat} (hp : p ≠ 0) : xn_zA p = fun _ => 0 := by
  funext b; simp [xn_zA, xm_up, hp, xn_z]
abbrev xb_C_init : ByteArray := prog_3_method_1_code
def xy_C_init : MethodName := ⟨"AbsenceRows$Calendar", "<init>", "()V"⟩
theorem xe_C_init : Cond.code xy_C_init xb_C_init 1 none ∈ xt_T := xt_in 66 (by decide +kernel) rfl
def xr_C_init : Room := { frames := 1, cells := 1, slots := 730, locals := 12 }
def xi_C_init : List xn_I := [(0, 9, 2, 730, 3)]
def xn_tC : List xm_E := [.inr (1, [some 1]), .inl (1, 730, false)]
theorem xv_C_init : xn_ok "AbsenceRows$Calendar" xk_T1 1 xb_C_init xt_T xi_C_init 4 13 := ⟨by decide +kernel, xz1_68, rfl⟩
set_option maxRecDepth 20000 in
theorem cn_C_init (l : Launch) : xn_Ct l xy_C_init (Cond.code xy_C_init xb_C_init 1 none :: xt_T) xr_C_init xk_cl xk_ns 1 [.null] xn_tC xn_z := xn_mk (T := xk_T1) (N := 1) (oidx := 3) (pcE := 13) (its := xi_C_init) (by decide) rfl xk_w1 xk_t1 xk_p1 xk_n1 rfl xz1_67 xz1_60 xz_objc xn_arr (by decide +kernel) (by decide +kernel) (by decide +kernel) xv_C_init rfl ⟨Nat.le_of_ble_eq_true rfl, Nat.le_of_ble_eq_true rfl, rfl, rfl⟩ rfl rfl (by decide +kernel) (by decide +kernel) (by decide +kernel) (fun p _ => rfl)
abbrev xb_P_init : ByteArray := prog_7_method_1_code
def xy_P_init : MethodName := ⟨"AbsenceRows$Persons", "<init>", "()V"⟩
theorem xe_P_init : Cond.code xy_P_init xb_P_init 1 none ∈ xt_T := xt_in 78 (by decide +kernel) rfl
def xr_P_init : Room := { frames := 1, cells := 7, slots := 280, locals := 12 }
def xi_P_init : List xn_I := [(0, 9, 0, 0, 1), (1, 15, 1, 20, 2), (2, 19, 1, 20, 2), (3, 22, 1, 20, 2), (4, 25, 1, 20, 2), (5, 28, 1, 20, 2), (6, 31, 1, 20, 2), (7, 34, 1, 160, 3)]
def xn_tP : List xm_E := [.inr (2, [none, some 1, some 2, some 3, some 4, some 5, some 6, some 7]), .inl (0, 20, false), .inl (0, 20, false), .inl (0, 20, false), .inl (0, 20, false), .inl (0, 20, false), .inl (0, 20, false), .inl (0, 160, false)]
theorem xv_P_init : xn_ok "AbsenceRows$Persons" xk_T2 8 xb_P_init xt_T xi_P_init 4 66 := ⟨by decide +kernel, xz1_80, ⟨by decide +kernel, xz1_82, ⟨by decide +kernel, xz1_83, ⟨by decide +kernel, xz1_85, ⟨by decide +kernel, xz1_86, ⟨by decide +kernel, xz1_88, ⟨by decide +kernel, xz1_90, ⟨by decide +kernel, xz1_92, rfl⟩⟩⟩⟩⟩⟩⟩⟩
set_option maxRecDepth 20000 in
theorem cn_P_init (l : Launch) : xn_Ct l xy_P_init (Cond.code xy_P_init xb_P_init 1 none :: xt_T) xr_P_init xk_cl xk_ns 2 [.int 0, .null, .null, .null, .null, .null, .null, .null] xn_tP xn_z := xn_mk (T := xk_T2) (N := 8) (oidx := 3) (pcE := 66) (its := xi_P_init) (by decide) rfl xk_w2 xk_t2 xk_p2 xk_n2 rfl xz1_79 xz1_60 xz_objc xn_arr (by decide +kernel) (by decide +kernel) (by decide +kernel) xv_P_init rfl ⟨Nat.le_of_ble_eq_true rfl, Nat.le_of_ble_eq_true rfl, rfl, rfl⟩ rfl rfl (by decide +kernel) (by decide +kernel) (by decide +kernel) (fun p _ => rfl)
abbrev xb_W_init : ByteArray := prog_5_method_1_code
def xy_W_init : MethodName := ⟨"AbsenceRows$Crews", "<init>", "()V"⟩
theorem xe_W_init : Cond.code xy_W_init xb_W_init 1 none ∈ xt_T := xt_in 116 (by decide +kernel) rfl
def xr_W_init : Room := { frames := 1, cells := 3, slots := 18, locals := 12 }
def xi_W_init : List xn_I := [(0, 9, 0, 0, 1), (1, 15, 1, 6, 2), (2, 19, 1, 6, 2), (3, 22, 1, 6, 2)]
def xn_tW : List xm_E := [.inr (3, [none, some 1, some 2, some 3]), .inl (0, 6, false), .inl (0, 6, false), .inl (0, 6, false)]
theorem xv_W_init : xn_ok "AbsenceRows$Crews" xk_T3 4 xb_W_init xt_T xi_W_init 4 33 := ⟨by decide +kernel, xz1_118, ⟨by decide +kernel, xz1_120, ⟨by decide +kernel, xz1_122, ⟨by decide +kernel, xz1_124, rfl⟩⟩⟩⟩
set_option maxRecDepth 20000 in
theorem cn_W_init (l : Launch) : xn_Ct l xy_W_init (Cond.code xy_W_init xb_W_init 1 none :: xt_T) xr_W_init xk_cl xk_ns 3 [.int 0, .null, .null, .null] xn_tW xn_z := xn_mk (T := xk_T3) (N := 4) (oidx := 3) (pcE := 33) (its := xi_W_init) (by decide) rfl xk_w3 xk_t3 xk_p3 xk_n3 rfl xz1_117 xz1_60 xz_objc xn_arr (by decide +kernel) (by decide +kernel) (by decide +kernel) xv_W_init rfl ⟨Nat.le_of_ble_eq_true rfl, Nat.le_of_ble_eq_true rfl, rfl, rfl⟩ rfl rfl (by decide +kernel) (by decide +kernel) (by decide +kernel) (fun p _ => rfl)
abbrev xb_K_init : ByteArray := prog_2_method_1_code
def xy_K_init : MethodName := ⟨"AbsenceRows$Asks", "<init>", "()V"⟩
theorem xe_K_init : Cond.code xy_K_init xb_K_init 1 none ∈ xt_T := xt_in 139 (by decide +kernel) rfl
def xr_K_init : Room := { frames := 1, cells := 7, slots := 560, locals := 12 }
def xi_K_init : List xn_I := [(0, 9, 0, 0, 1), (1, 15, 1, 80, 2), (2, 19, 1, 80, 2), (3, 22, 1, 80, 2), (4, 25, 1, 80, 2), (5, 28, 1, 80, 2), (6, 31, 1, 80, 2), (7, 34, 1, 80, 2)]
def xn_tK : List xm_E := [.inr (4, [none, some 1, some 2, some 3, some 4, some 5, some 6, some 7]), .inl (0, 80, false), .inl (0, 80, false), .inl (0, 80, false), .inl (0, 80, false), .inl (0, 80, false), .inl (0, 80, false), .inl (0, 80, false)]
theorem xv_K_init : xn_ok "AbsenceRows$Asks" xk_T4 8 xb_K_init xt_T xi_K_init 4 65 := ⟨by decide +kernel, xz1_141, ⟨by decide +kernel, xz1_143, ⟨by decide +kernel, xz1_145, ⟨by decide +kernel, xz1_147, ⟨by decide +kernel, xz1_149, ⟨by decide +kernel, xz1_151, ⟨by decide +kernel, xz1_153, ⟨by decide +kernel, xz1_155, rfl⟩⟩⟩⟩⟩⟩⟩⟩
set_option maxRecDepth 20000 in
theorem cn_K_init (l : Launch) : xn_Ct l xy_K_init (Cond.code xy_K_init xb_K_init 1 none :: xt_T) xr_K_init xk_cl xk_ns 4 [.int 0, .null, .null, .null, .null, .null, .null, .null] xn_tK xn_z := xn_mk (T := xk_T4) (N := 8) (oidx := 3) (pcE := 65) (its := xi_K_init) (by decide) rfl xk_w4 xk_t4 xk_p4 xk_n4 rfl xz1_140 xz1_60 xz_objc xn_arr (by decide +kernel) (by decide +kernel) (by decide +kernel) xv_K_init rfl ⟨Nat.le_of_ble_eq_true rfl, Nat.le_of_ble_eq_true rfl, rfl, rfl⟩ rfl rfl (by decide +kernel) (by decide +kernel) (by decide +kernel) (fun p _ => rfl)
abbrev xb_H_init : ByteArray := prog_6_method_1_code
def xy_H_init : MethodName := ⟨"AbsenceRows$HeldRows", "<init>", "()V"⟩
theorem xe_H_init : Cond.code xy_H_init xb_H_init 1 none ∈ xt_T := xt_in 178 (by decide +kernel) rfl
def xr_H_init : Room := { frames := 1, cells := 3, slots := 300, locals := 12 }
def xi_H_init : List xn_I := [(0, 9, 0, 0, 1), (1, 15, 1, 100, 2), (2, 19, 1, 100, 2), (3, 22, 1, 100, 2)]
def xn_tH : List xm_E := [.inr (5, [none, some 1, some 2, some 3]), .inl (0, 100, false), .inl (0, 100, false), .inl (0, 100, false)]
theorem xv_H_init : xn_ok "AbsenceRows$HeldRows" xk_T5 4 xb_H_init xt_T xi_H_init 4 33 := ⟨by decide +kernel, xz1_180, ⟨by decide +kernel, xz1_181, ⟨by decide +kernel, xz1_183, ⟨by decide +kernel, xz1_185, rfl⟩⟩⟩⟩
set_option maxRecDepth 20000 in
theorem cn_H_init (l : Launch) : xn_Ct l xy_H_init (Cond.code xy_H_init xb_H_init 1 none :: xt_T) xr_H_init xk_cl xk_ns 5 [.int 0, .null, .null, .null] xn_tH xn_z := xn_mk (T := xk_T5) (N := 4) (oidx := 3) (pcE := 33) (its := xi_H_init) (by decide) rfl xk_w5 xk_t5 xk_p5 xk_n5 rfl xz1_179 xz1_60 xz_objc xn_arr (by decide +kernel) (by decide +kernel) (by decide +kernel) xv_H_init rfl ⟨Nat.le_of_ble_eq_true rfl, Nat.le_of_ble_eq_true rfl, rfl, rfl⟩ rfl rfl (by decide +kernel) (by decide +kernel) (by decide +kernel) (fun p _ => rfl)
abbrev xb_L_init : ByteArray := prog_4_method_1_code
def xy_L_init : MethodName := ⟨"AbsenceRows$Calls", "<init>", "()V"⟩
theorem xe_L_init : Cond.code xy_L_init xb_L_init 1 none ∈ xt_T := xt_in 200 (by decide +kernel) rfl
def xr_L_init : Room := { frames := 1, cells := 6, slots := 360, locals := 12 }
def xi_L_init : List xn_I := [(0, 9, 0, 0, 1), (1, 15, 1, 60, 2), (2, 19, 1, 60, 2), (3, 22, 1, 60, 2), (4, 25, 1, 60, 2), (5, 28, 1, 60, 2), (6, 31, 1, 60, 2)]
def xn_tL : List xm_E := [.inr (6, [none, some 1, some 2, some 3, some 4, some 5, some 6]), .inl (0, 60, false), .inl (0, 60, false), .inl (0, 60, false), .inl (0, 60, false), .inl (0, 60, false), .inl (0, 60, false)]
theorem xv_L_init : xn_ok "AbsenceRows$Calls" xk_T6 7 xb_L_init xt_T xi_L_init 4 57 := ⟨by decide +kernel, xz1_202, ⟨by decide +kernel, xz1_204, ⟨by decide +kernel, xz1_206, ⟨by decide +kernel, xz1_208, ⟨by decide +kernel, xz1_210, ⟨by decide +kernel, xz1_212, ⟨by decide +kernel, xz1_214, rfl⟩⟩⟩⟩⟩⟩⟩
set_option maxRecDepth 20000 in
theorem cn_L_init (l : Launch) : xn_Ct l xy_L_init (Cond.code xy_L_init xb_L_init 1 none :: xt_T) xr_L_init xk_cl xk_ns 6 [.int 0, .null, .null, .null, .null, .null, .null] xn_tL xn_z := xn_mk (T := xk_T6) (N := 7) (oidx := 3) (pcE := 57) (its := xi_L_init) (by decide) rfl xk_w6 xk_t6 xk_p6 xk_n6 rfl xz1_201 xz1_60 xz_objc xn_arr (by decide +kernel) (by decide +kernel) (by decide +kernel) xv_L_init rfl ⟨Nat.le_of_ble_eq_true rfl, Nat.le_of_ble_eq_true rfl, rfl, rfl⟩ rfl rfl (by decide +kernel) (by decide +kernel) (by decide +kernel) (fun p _ => rfl)
abbrev xb_M_init : ByteArray := prog_9_method_1_code
def xy_M_init : MethodName := ⟨"AbsenceRowsModel", "<init>", "()V"⟩
theorem xe_M_init : Cond.code xy_M_init xb_M_init 1 none ∈ xt_T := xt_in 804 (by decide +kernel) rfl
def xr_M_init : Room := { frames := 1, cells := 28, slots := 3569, locals := 12 }
def xi_M_init : List xn_I := [(2, 7, 2, 730, 3), (4, 13, 1, 20, 2), (5, 17, 1, 20, 2), (6, 20, 1, 20, 2), (7, 23, 1, 20, 2), (8, 26, 1, 20, 2), (9, 29, 1, 20, 2), (10, 32, 1, 160, 3), (13, 35, 1, 6, 2), (14, 38, 1, 6, 2), (15, 41, 2, 120, 2), (17, 44, 1, 81, 2), (18, 47, 1, 81, 2), (19, 50, 1, 81, 2), (20, 53, 1, 81, 2), (21, 56, 1, 81, 2), (22, 59, 1, 81, 2), (23, 62, 1, 81, 2), (25, 65, 1, 100, 2), (26, 68, 1, 100, 2), (27, 71, 1, 100, 2), (29, 74, 1, 60, 2), (30, 77, 1, 60, 2), (31, 80, 1, 60, 2), (32, 83, 1, 60, 2), (33, 86, 1, 60, 2), (34, 89, 1, 60, 2), (35, 92, 2, 1200, 3), (36, 95, 0, 2, 1)]
theorem xv_M_init : xn_ok "AbsenceRowsModel" xk_T7 37 xb_M_init xt_T xi_M_init 4 236 := ⟨by decide +kernel, xz1_808, ⟨by decide +kernel, xz1_810, ⟨by decide +kernel, xz1_811, ⟨by decide +kernel, xz1_812, ⟨by decide +kernel, xz1_813, ⟨by decide +kernel, xz1_814, ⟨by decide +kernel, xz1_815, ⟨by decide +kernel, xz1_816, ⟨by decide +kernel, xz1_819, ⟨by decide +kernel, xz1_820, ⟨by decide +kernel, xz1_821, ⟨by decide +kernel, xz1_823, ⟨by decide +kernel, xz1_824, ⟨by decide +kernel, xz1_825, ⟨by decide +kernel, xz1_826, ⟨by decide +kernel, xz1_827, ⟨by decide +kernel, xz1_828, ⟨by decide +kernel, xz1_829, ⟨by decide +kernel, xz1_831, ⟨by decide +kernel, xz1_832, ⟨by decide +kernel, xz1_833, ⟨by decide +kernel, xz1_835, ⟨by decide +kernel, xz1_836, ⟨by decide +kernel, xz1_837, ⟨by decide +kernel, xz1_838, ⟨by decide +kernel, xz1_839, ⟨by decide +kernel, xz1_840, ⟨by decide +kernel, xz1_841, ⟨by decide +kernel, xz1_842, rfl⟩⟩⟩⟩⟩⟩⟩⟩⟩⟩⟩⟩⟩⟩⟩⟩⟩⟩⟩⟩⟩⟩⟩⟩⟩⟩⟩⟩⟩
set_option maxRecDepth 20000 in
theorem cn_M_init (l : Launch) : xn_Ct l xy_M_init (Cond.code xy_M_init xb_M_init 1 none :: xt_T) xr_M_init xk_cl xk_ns 7 [.int 0, .int 0, .null, .int 0, .null, .null, .null, .null, .null, .null, .null, .int 0, .int 0, .null, .null, .null, .int 0, .null, .null, .null, .null, .null, .null, .null, .int 0, .null, .null, .null, .int 0, .null, .null, .null, .null, .null, .null, .null, .int 0] xk_tM xn_zM := xn_mk (T := xk_T7) (N := 37) (oidx := 1) (pcE := 236) (its := xi_M_init) (by decide) rfl xk_w7 xk_t7 xk_p7 xk_n7 rfl xz1_805 xz1_60 xz_objc xn_arr (by decide +kernel) (by decide +kernel) (by decide +kernel) xv_M_init rfl ⟨Nat.le_of_ble_eq_true rfl, Nat.le_of_ble_eq_true rfl, rfl, rfl⟩ rfl rfl (by decide +kernel) (by decide +kernel) (by decide +kernel) (fun p hp => xn_zM0 hp)
def xn_u1 : List xm_E := xn_tC
def xn_u2 : List xm_E := xn_u1 ++ xn_tP.map (xm_rl (fun q => q + xn_u1.length))
def xn_u3 : List xm_E := xn_u2 ++ xn_tW.map (xm_rl (fun q => q + xn_u2.length))
def xn_u4 : List xm_E := xn_u3 ++ xn_tK.map (xm_rl (fun q => q + xn_u3.length))
def xn_u5 : List xm_E := xn_u4 ++ xn_tH.map (xm_rl (fun q => q + xn_u4.length))
def xn_u6 : List xm_E := xn_u5 ++ xn_tL.map (xm_rl (fun q => q + xn_u5.length))
def xn_uA : List xm_E := [.inr (0, [some 1, some 3, some 11, some 15, some 23, some 27, none, none, none])] ++ xn_u6.map (xm_rl (fun q => q + 1))
def xn_sl : List Nat := [0, 1, 3, 11, 15, 23, 27, 2, 4, 5, 6, 7, 8, 9, 10, 12, 13, 14, 16, 17, 18, 19, 20, 21, 22, 24, 25, 26, 28, 29, 30, 31, 32, 33]
def xn_sg (p : Nat) : Nat := if p < 34 then xn_sl.getD p 0 else p
theorem xn_sgA : xm_sub xn_sg xk_tA xn_uA := xn_sub_of (by decide +kernel)
theorem xn_sg1 : ∀ i, i < 34 → xn_sg i < 34 := by decide +kernel
theorem xn_sg2 : ∀ i, i < 34 → ∀ j, j < 34 → xn_sg i = xn_sg j → i = j := by decide +kernel
theorem xn_sgi : ∀ i j, xn_sg i = xn_sg j → i = j := by
  intro i j h
  by_cases hi : i < 34
  · by_cases hj : j < 34
    · exact xn_sg2 i hi j hj h
    · have h1 := xn_sg1 i hi
      have h2 : xn_sg j = j := if_neg hj
      omega
  · have h2 : xn_sg i = i := if_neg hi
    by_cases hj : j < 34
    · have h1 := xn_sg1 j hj
      omega
    · have h3 : xn_sg j = j := if_neg hj
      omega
theorem xn_sgz : (fun q => xn_zA (xn_sg q)) = xn_zA := by
  funext q
  by_cases hq : q = 0
  · subst hq; rfl
  · have h1 : xn_sg q ≠ 0 := fun z => hq (xn_sgi q 0 z)
    rw [xn_zA0 h1, xn_zA0 hq]
abbrev xb_A_init : ByteArray := prog_1_method_1_code
def xy_A_init : MethodName := ⟨"AbsenceRows", "<init>", "()V"⟩
theorem xe_A_init : Cond.code xy_A_init xb_A_init 1 none ∈ xt_T := xt_in 58 (by decide +kernel) rfl
def xr_A_init : Room := { frames := 2, cells := 33, slots := 2280, locals := 32 }
set_option maxRecDepth 20000 in
set_option maxHeartbeats 4000000 in
theorem cn_A_init (l : Launch) : xn_Ct l xy_A_init (Cond.code xy_A_init xb_A_init 1 none :: xt_T) xr_A_init xk_cl xk_ns 0 [.null, .null, .null, .null, .null, .null, .int 0, .int 0, .int 0] xk_tA xn_zA := by
  intro dC dI dA h0 sz
  refine va_MetF (cc := xb_A_init) (maxL := 1) (ret := none) (by decide) rfl ?_
  intro p e s m args below meth c s₁ B hml hv
  obtain ⟨rfl, hsz, hP, hK, hN⟩ := hv
  have hx := B.exec
  have hb := B.bytes
  have hr := B.returns
  have hts0 := atoms_spec (ws := Cond.code xy_A_init xb_A_init 1 none :: xt_T) B.pre
  have hts : ∀ w ∈ xt_T, w.before [Value.ref h0].toArray s = true := fun w h => hts0 w (List.mem_cons_of_mem _ h)
  have hown : s.vm.findClass "AbsenceRows" = some m.cls := findClass_of_methodNamed B.named
  have hlocks := B.notSynchronized
  have hname : meth.name = "<init>" := (name_of_methodNamed B.named B.method).1
  subst hsz
  have hA : ∀ q : Nat, s.heap.size ≤ q → xn_A h0 s.heap.size q := fun q h => Or.inr h
  have hD : va_D (xn_A h0 s.heap.size) [(h0, Sum.inr (0, [.null, .null, .null, .null, .null, .null, .int 0, .int 0, .int 0]))] := xn_D1 (Or.inl rfl)
  have hS : va_S (xn_A h0 s.heap.size) s.heap s.heap [] := va_S.rf
  have hl := lv_entry ([.ref h0]) (n := 1) (Nat.le_of_ble_eq_true rfl)
  rw [lg_entry_eq]
  generalize (lg_sl ([.ref h0]) ++ List.replicate (1 - (lg_sl ([.ref h0])).length) Slot.unset).toArray = ls at hl ⊢
  have hl : lv_has ls 1 [(0, .ref h0)] := hl
  refine lv_aload_n hx hb (k := 0) (pc := 0) (by decide +kernel) rfl (lv_at hl 0 rfl) ?_
  refine W.objInit hx hb hown (hts _ xz1_59) (hts _ xz1_60) (hts _ xz_objc) rfl (by rw [hml]; exact hl.1) rfl (show decode xb_A_init 1 = .ok (.invokespecial 1, 3) by decide +kernel) (Nat.le_of_ble_eq_true rfl) (Nat.le_of_ble_eq_true rfl) ?_
  refine W.eq (g2 := F0 m 4 ls []) rfl ?_
  refine lv_aload_n hx hb (k := 0) (pc := 4) (by decide +kernel) rfl (lv_at hl 0 rfl) ?_
  refine xn_new (R := xr_A_init) (fs0 := [.null]) (dC := dC) (dI := dI) (dA := dA) (ci := 1) (T := xk_T1) (N := 1) (idx := 7) (idx2 := 9) (pc := 5) (rest := [.ref h0]) ⟨hx, hb, hml, hown, hts⟩ xt_good xk_ns_ok hN hK (cn_C_init l) rfl rfl xk_w1 xk_t1 xk_p1 (fun j hj => by rcases (show j = 0 by omega) with rfl; rfl) xz1_62 xz1_63 xz1_38 xe_C_init ⟨by decide, by decide, by decide +kernel⟩ (Or.inr ⟨"AbsenceRows", xn_0⟩) xz1_65 ⟨Nat.le_of_ble_eq_true rfl, Nat.le_of_ble_eq_true rfl⟩ hP hD hS hA (Nat.le_of_ble_eq_true rfl) (Nat.le_of_ble_eq_true rfl) (Nat.le_of_ble_eq_true rfl) hl.1 (by decide +kernel) (by decide +kernel) (by decide +kernel) (fun a1 H locs hP hD hS => ?_)
  refine va_putF (D := (dC, dI)) (ci := 0) (v := .ref (a1 0)) (ty := .object "AbsenceRows$Calendar") (C := xk_R0) (T := xk_T0) (N := 9) (ref := "AbsenceRows") hx hb hts xk_w0 xk_t0 xk_p0 xk_n0 hown hK hP hD hS 0 rfl rfl 0 (by decide) (hts _ xz1_231) (fun _ h9 => h9) rfl hname rfl (by decide +kernel) rfl rfl (Nat.le_of_ble_eq_true rfl) (pc := 12) (by decide +kernel) (fun H locs hP hD hS => ?_)
  have hP : va_P (dC, dI) xk_cl ((h0, Sum.inr (0, [.ref (a1 0), .null, .null, .null, .null, .null, .int 0, .int 0, .int 0])) :: xm_W a1 dA xn_tC xn_z) H := hP
  have hD : va_D (xn_A h0 s.heap.size) ((h0, Sum.inr (0, [.ref (a1 0), .null, .null, .null, .null, .null, .int 0, .int 0, .int 0])) :: xm_W a1 dA xn_tC xn_z) := hD
  obtain ⟨b1, hb1⟩ : ∃ b1, b1 = a1 := ⟨_, rfl⟩
  rw [← hb1] at hP hD
  refine lv_aload_n hx hb (k := 0) (pc := 15) (by decide +kernel) rfl (lv_at hl 0 rfl) ?_
  refine xn_new (R := xr_A_init) (fs0 := [.int 0, .null, .null, .null, .null, .null, .null, .null]) (dC := dC) (dI := dI) (dA := dA) (ci := 2) (T := xk_T2) (N := 8) (idx := 16) (idx2 := 18) (pc := 16) (rest := [.ref h0]) ⟨hx, hb, hml, hown, hts⟩ xt_good xk_ns_ok hN hK (cn_P_init l) rfl rfl xk_w2 xk_t2 xk_p2 (fun j hj => by rcases (show j = 0 ∨ j = 1 ∨ j = 2 ∨ j = 3 ∨ j = 4 ∨ j = 5 ∨ j = 6 ∨ j = 7 by omega) with rfl | rfl | rfl | rfl | rfl | rfl | rfl | rfl <;> rfl) xz1_74 xz1_75 xz1_39 xe_P_init ⟨by decide, by decide, by decide +kernel⟩ (Or.inr ⟨"AbsenceRows", xn_1⟩) xz1_77 ⟨Nat.le_of_ble_eq_true rfl, Nat.le_of_ble_eq_true rfl⟩ hP hD hS hA (Nat.le_of_ble_eq_true rfl) (Nat.le_of_ble_eq_true rfl) (Nat.le_of_ble_eq_true rfl) hl.1 (by decide +kernel) (by decide +kernel) (by decide +kernel) (fun a2 H locs hP hD hS => ?_)
  refine va_putF (D := (dC, dI)) (ci := 0) (v := .ref (a2 0)) (ty := .object "AbsenceRows$Persons") (C := xk_R0) (T := xk_T0) (N := 9) (ref := "AbsenceRows") hx hb hts xk_w0 xk_t0 xk_p0 xk_n0 hown hK hP hD hS 0 rfl rfl 1 (by decide) (hts _ xz1_232) (fun _ h9 => h9) rfl hname rfl (by decide +kernel) rfl rfl (Nat.le_of_ble_eq_true rfl) (pc := 23) (by decide +kernel) (fun H locs hP hD hS => ?_)
  have hP : va_P (dC, dI) xk_cl ((h0, Sum.inr (0, [.ref (b1 0), .ref (a2 0), .null, .null, .null, .null, .int 0, .int 0, .int 0])) :: (xm_W b1 dA xn_u1 xn_z ++ xm_W a2 dA xn_tP xn_z)) H := hP
  have hD : va_D (xn_A h0 s.heap.size) ((h0, Sum.inr (0, [.ref (b1 0), .ref (a2 0), .null, .null, .null, .null, .int 0, .int 0, .int 0])) :: (xm_W b1 dA xn_u1 xn_z ++ xm_W a2 dA xn_tP xn_z)) := hD
  obtain ⟨b2, hW, hlo, hhi⟩ := xn_acc (ad := b1) (a := a2) (dA := dA) (tr := xn_u1) (tp := xn_tP) (by decide +kernel) xn_z (fun _ => rfl)
  rw [hW, ← hlo 0 (by decide), ← hhi 0] at hP hD
  have hP : va_P (dC, dI) xk_cl ((h0, Sum.inr (0, [.ref (b2 0), .ref (b2 2), .null, .null, .null, .null, .int 0, .int 0, .int 0])) :: xm_W b2 dA xn_u2 xn_z) H := hP
  have hD : va_D (xn_A h0 s.heap.size) ((h0, Sum.inr (0, [.ref (b2 0), .ref (b2 2), .null, .null, .null, .null, .int 0, .int 0, .int 0])) :: xm_W b2 dA xn_u2 xn_z) := hD
  clear hW hlo hhi
  refine lv_aload_n hx hb (k := 0) (pc := 26) (by decide +kernel) rfl (lv_at hl 0 rfl) ?_
  refine xn_new (R := xr_A_init) (fs0 := [.int 0, .null, .null, .null]) (dC := dC) (dI := dI) (dA := dA) (ci := 3) (T := xk_T3) (N := 4) (idx := 23) (idx2 := 25) (pc := 27) (rest := [.ref h0]) ⟨hx, hb, hml, hown, hts⟩ xt_good xk_ns_ok hN hK (cn_W_init l) rfl rfl xk_w3 xk_t3 xk_p3 (fun j hj => by rcases (show j = 0 ∨ j = 1 ∨ j = 2 ∨ j = 3 by omega) with rfl | rfl | rfl | rfl <;> rfl) xz1_112 xz1_113 xz1_40 xe_W_init ⟨by decide, by decide, by decide +kernel⟩ (Or.inr ⟨"AbsenceRows", xn_2⟩) xz1_115 ⟨Nat.le_of_ble_eq_true rfl, Nat.le_of_ble_eq_true rfl⟩ hP hD hS hA (Nat.le_of_ble_eq_true rfl) (Nat.le_of_ble_eq_true rfl) (Nat.le_of_ble_eq_true rfl) hl.1 (by decide +kernel) (by decide +kernel) (by decide +kernel) (fun a3 H locs hP hD hS => ?_)
  refine va_putF (D := (dC, dI)) (ci := 0) (v := .ref (a3 0)) (ty := .object "AbsenceRows$Crews") (C := xk_R0) (T := xk_T0) (N := 9) (ref := "AbsenceRows") hx hb hts xk_w0 xk_t0 xk_p0 xk_n0 hown hK hP hD hS 0 rfl rfl 2 (by decide) (hts _ xz1_233) (fun _ h9 => h9) rfl hname rfl (by decide +kernel) rfl rfl (Nat.le_of_ble_eq_true rfl) (pc := 34) (by decide +kernel) (fun H locs hP hD hS => ?_)
  have hP : va_P (dC, dI) xk_cl ((h0, Sum.inr (0, [.ref (b2 0), .ref (b2 2), .ref (a3 0), .null, .null, .null, .int 0, .int 0, .int 0])) :: (xm_W b2 dA xn_u2 xn_z ++ xm_W a3 dA xn_tW xn_z)) H := hP
  have hD : va_D (xn_A h0 s.heap.size) ((h0, Sum.inr (0, [.ref (b2 0), .ref (b2 2), .ref (a3 0), .null, .null, .null, .int 0, .int 0, .int 0])) :: (xm_W b2 dA xn_u2 xn_z ++ xm_W a3 dA xn_tW xn_z)) := hD
  obtain ⟨b3, hW, hlo, hhi⟩ := xn_acc (ad := b2) (a := a3) (dA := dA) (tr := xn_u2) (tp := xn_tW) (by decide +kernel) xn_z (fun _ => rfl)
  rw [hW, ← hlo 0 (by decide), ← hlo 2 (by decide), ← hhi 0] at hP hD
  have hP : va_P (dC, dI) xk_cl ((h0, Sum.inr (0, [.ref (b3 0), .ref (b3 2), .ref (b3 10), .null, .null, .null, .int 0, .int 0, .int 0])) :: xm_W b3 dA xn_u3 xn_z) H := hP
  have hD : va_D (xn_A h0 s.heap.size) ((h0, Sum.inr (0, [.ref (b3 0), .ref (b3 2), .ref (b3 10), .null, .null, .null, .int 0, .int 0, .int 0])) :: xm_W b3 dA xn_u3 xn_z) := hD
  clear hW hlo hhi
  refine lv_aload_n hx hb (k := 0) (pc := 37) (by decide +kernel) rfl (lv_at hl 0 rfl) ?_
  refine xn_new (R := xr_A_init) (fs0 := [.int 0, .null, .null, .null, .null, .null, .null, .null]) (dC := dC) (dI := dI) (dA := dA) (ci := 4) (T := xk_T4) (N := 8) (idx := 30) (idx2 := 32) (pc := 38) (rest := [.ref h0]) ⟨hx, hb, hml, hown, hts⟩ xt_good xk_ns_ok hN hK (cn_K_init l) rfl rfl xk_w4 xk_t4 xk_p4 (fun j hj => by rcases (show j = 0 ∨ j = 1 ∨ j = 2 ∨ j = 3 ∨ j = 4 ∨ j = 5 ∨ j = 6 ∨ j = 7 by omega) with rfl | rfl | rfl | rfl | rfl | rfl | rfl | rfl <;> rfl) xz1_135 xz1_136 xz1_41 xe_K_init ⟨by decide, by decide, by decide +kernel⟩ (Or.inr ⟨"AbsenceRows", xn_3⟩) xz1_138 ⟨Nat.le_of_ble_eq_true rfl, Nat.le_of_ble_eq_true rfl⟩ hP hD hS hA (Nat.le_of_ble_eq_true rfl) (Nat.le_of_ble_eq_true rfl) (Nat.le_of_ble_eq_true rfl) hl.1 (by decide +kernel) (by decide +kernel) (by decide +kernel) (fun a4 H locs hP hD hS => ?_)
  refine va_putF (D := (dC, dI)) (ci := 0) (v := .ref (a4 0)) (ty := .object "AbsenceRows$Asks") (C := xk_R0) (T := xk_T0) (N := 9) (ref := "AbsenceRows") hx hb hts xk_w0 xk_t0 xk_p0 xk_n0 hown hK hP hD hS 0 rfl rfl 3 (by decide) (hts _ xz1_234) (fun _ h9 => h9) rfl hname rfl (by decide +kernel) rfl rfl (Nat.le_of_ble_eq_true rfl) (pc := 45) (by decide +kernel) (fun H locs hP hD hS => ?_)
  have hP : va_P (dC, dI) xk_cl ((h0, Sum.inr (0, [.ref (b3 0), .ref (b3 2), .ref (b3 10), .ref (a4 0), .null, .null, .int 0, .int 0, .int 0])) :: (xm_W b3 dA xn_u3 xn_z ++ xm_W a4 dA xn_tK xn_z)) H := hP
  have hD : va_D (xn_A h0 s.heap.size) ((h0, Sum.inr (0, [.ref (b3 0), .ref (b3 2), .ref (b3 10), .ref (a4 0), .null, .null, .int 0, .int 0, .int 0])) :: (xm_W b3 dA xn_u3 xn_z ++ xm_W a4 dA xn_tK xn_z)) := hD
  obtain ⟨b4, hW, hlo, hhi⟩ := xn_acc (ad := b3) (a := a4) (dA := dA) (tr := xn_u3) (tp := xn_tK) (by decide +kernel) xn_z (fun _ => rfl)
  rw [hW, ← hlo 0 (by decide), ← hlo 2 (by decide), ← hlo 10 (by decide), ← hhi 0] at hP hD
  have hP : va_P (dC, dI) xk_cl ((h0, Sum.inr (0, [.ref (b4 0), .ref (b4 2), .ref (b4 10), .ref (b4 14), .null, .null, .int 0, .int 0, .int 0])) :: xm_W b4 dA xn_u4 xn_z) H := hP
  have hD : va_D (xn_A h0 s.heap.size) ((h0, Sum.inr (0, [.ref (b4 0), .ref (b4 2), .ref (b4 10), .ref (b4 14), .null, .null, .int 0, .int 0, .int 0])) :: xm_W b4 dA xn_u4 xn_z) := hD
  clear hW hlo hhi
  refine lv_aload_n hx hb (k := 0) (pc := 48) (by decide +kernel) rfl (lv_at hl 0 rfl) ?_
  refine xn_new (R := xr_A_init) (fs0 := [.int 0, .null, .null, .null]) (dC := dC) (dI := dI) (dA := dA) (ci := 5) (T := xk_T5) (N := 4) (idx := 37) (idx2 := 39) (pc := 49) (rest := [.ref h0]) ⟨hx, hb, hml, hown, hts⟩ xt_good xk_ns_ok hN hK (cn_H_init l) rfl rfl xk_w5 xk_t5 xk_p5 (fun j hj => by rcases (show j = 0 ∨ j = 1 ∨ j = 2 ∨ j = 3 by omega) with rfl | rfl | rfl | rfl <;> rfl) xz1_174 xz1_175 xz1_42 xe_H_init ⟨by decide, by decide, by decide +kernel⟩ (Or.inr ⟨"AbsenceRows", xn_4⟩) xz1_177 ⟨Nat.le_of_ble_eq_true rfl, Nat.le_of_ble_eq_true rfl⟩ hP hD hS hA (Nat.le_of_ble_eq_true rfl) (Nat.le_of_ble_eq_true rfl) (Nat.le_of_ble_eq_true rfl) hl.1 (by decide +kernel) (by decide +kernel) (by decide +kernel) (fun a5 H locs hP hD hS => ?_)
  refine va_putF (D := (dC, dI)) (ci := 0) (v := .ref (a5 0)) (ty := .object "AbsenceRows$HeldRows") (C := xk_R0) (T := xk_T0) (N := 9) (ref := "AbsenceRows") hx hb hts xk_w0 xk_t0 xk_p0 xk_n0 hown hK hP hD hS 0 rfl rfl 4 (by decide) (hts _ xz1_235) (fun _ h9 => h9) rfl hname rfl (by decide +kernel) rfl rfl (Nat.le_of_ble_eq_true rfl) (pc := 56) (by decide +kernel) (fun H locs hP hD hS => ?_)
  have hP : va_P (dC, dI) xk_cl ((h0, Sum.inr (0, [.ref (b4 0), .ref (b4 2), .ref (b4 10), .ref (b4 14), .ref (a5 0), .null, .int 0, .int 0, .int 0])) :: (xm_W b4 dA xn_u4 xn_z ++ xm_W a5 dA xn_tH xn_z)) H := hP
  have hD : va_D (xn_A h0 s.heap.size) ((h0, Sum.inr (0, [.ref (b4 0), .ref (b4 2), .ref (b4 10), .ref (b4 14), .ref (a5 0), .null, .int 0, .int 0, .int 0])) :: (xm_W b4 dA xn_u4 xn_z ++ xm_W a5 dA xn_tH xn_z)) := hD
  obtain ⟨b5, hW, hlo, hhi⟩ := xn_acc (ad := b4) (a := a5) (dA := dA) (tr := xn_u4) (tp := xn_tH) (by decide +kernel) xn_z (fun _ => rfl)
  rw [hW, ← hlo 0 (by decide), ← hlo 2 (by decide), ← hlo 10 (by decide), ← hlo 14 (by decide), ← hhi 0] at hP hD
  have hP : va_P (dC, dI) xk_cl ((h0, Sum.inr (0, [.ref (b5 0), .ref (b5 2), .ref (b5 10), .ref (b5 14), .ref (b5 22), .null, .int 0, .int 0, .int 0])) :: xm_W b5 dA xn_u5 xn_z) H := hP
  have hD : va_D (xn_A h0 s.heap.size) ((h0, Sum.inr (0, [.ref (b5 0), .ref (b5 2), .ref (b5 10), .ref (b5 14), .ref (b5 22), .null, .int 0, .int 0, .int 0])) :: xm_W b5 dA xn_u5 xn_z) := hD
  clear hW hlo hhi
  refine lv_aload_n hx hb (k := 0) (pc := 59) (by decide +kernel) rfl (lv_at hl 0 rfl) ?_
  refine xn_new (R := xr_A_init) (fs0 := [.int 0, .null, .null, .null, .null, .null, .null]) (dC := dC) (dI := dI) (dA := dA) (ci := 6) (T := xk_T6) (N := 7) (idx := 44) (idx2 := 46) (pc := 60) (rest := [.ref h0]) ⟨hx, hb, hml, hown, hts⟩ xt_good xk_ns_ok hN hK (cn_L_init l) rfl rfl xk_w6 xk_t6 xk_p6 (fun j hj => by rcases (show j = 0 ∨ j = 1 ∨ j = 2 ∨ j = 3 ∨ j = 4 ∨ j = 5 ∨ j = 6 by omega) with rfl | rfl | rfl | rfl | rfl | rfl | rfl <;> rfl) xz1_196 xz1_197 xz1_43 xe_L_init ⟨by decide, by decide, by decide +kernel⟩ (Or.inr ⟨"AbsenceRows", xn_5⟩) xz1_199 ⟨Nat.le_of_ble_eq_true rfl, Nat.le_of_ble_eq_true rfl⟩ hP hD hS hA (Nat.le_of_ble_eq_true rfl) (Nat.le_of_ble_eq_true rfl) (Nat.le_of_ble_eq_true rfl) hl.1 (by decide +kernel) (by decide +kernel) (by decide +kernel) (fun a6 H locs hP hD hS => ?_)
  refine va_putF (D := (dC, dI)) (ci := 0) (v := .ref (a6 0)) (ty := .object "AbsenceRows$Calls") (C := xk_R0) (T := xk_T0) (N := 9) (ref := "AbsenceRows") hx hb hts xk_w0 xk_t0 xk_p0 xk_n0 hown hK hP hD hS 0 rfl rfl 5 (by decide) (hts _ xz1_236) (fun _ h9 => h9) rfl hname rfl (by decide +kernel) rfl rfl (Nat.le_of_ble_eq_true rfl) (pc := 67) (by decide +kernel) (fun H locs hP hD hS => ?_)
  have hP : va_P (dC, dI) xk_cl ((h0, Sum.inr (0, [.ref (b5 0), .ref (b5 2), .ref (b5 10), .ref (b5 14), .ref (b5 22), .ref (a6 0), .int 0, .int 0, .int 0])) :: (xm_W b5 dA xn_u5 xn_z ++ xm_W a6 dA xn_tL xn_z)) H := hP
  have hD : va_D (xn_A h0 s.heap.size) ((h0, Sum.inr (0, [.ref (b5 0), .ref (b5 2), .ref (b5 10), .ref (b5 14), .ref (b5 22), .ref (a6 0), .int 0, .int 0, .int 0])) :: (xm_W b5 dA xn_u5 xn_z ++ xm_W a6 dA xn_tL xn_z)) := hD
  obtain ⟨b6, hW, hlo, hhi⟩ := xn_acc (ad := b5) (a := a6) (dA := dA) (tr := xn_u5) (tp := xn_tL) (by decide +kernel) xn_z (fun _ => rfl)
  rw [hW, ← hlo 0 (by decide), ← hlo 2 (by decide), ← hlo 10 (by decide), ← hlo 14 (by decide), ← hlo 22 (by decide), ← hhi 0] at hP hD
  have hP : va_P (dC, dI) xk_cl ((h0, Sum.inr (0, [.ref (b6 0), .ref (b6 2), .ref (b6 10), .ref (b6 14), .ref (b6 22), .ref (b6 26), .int 0, .int 0, .int 0])) :: xm_W b6 dA xn_u6 xn_z) H := hP
  have hD : va_D (xn_A h0 s.heap.size) ((h0, Sum.inr (0, [.ref (b6 0), .ref (b6 2), .ref (b6 10), .ref (b6 14), .ref (b6 22), .ref (b6 26), .int 0, .int 0, .int 0])) :: xm_W b6 dA xn_u6 xn_z) := hD
  clear hW hlo hhi
  refine lv_aload_n hx hb (k := 0) (pc := 70) (by decide +kernel) rfl (lv_at hl 0 rfl) ?_
  refine lv_iconst (n := 0) (v := 0) (pc := 71) hx hb (by decide +kernel) (by decide) ?_
  refine va_put (D := (dC, dI)) (ci := 0) (v := .int 0) (ty := .int) (C := xk_R0) (T := xk_T0) (N := 9) (ref := "AbsenceRows") hx hb hts xk_w0 xk_t0 xk_p0 xk_n0 hown hK hP hD hS 0 rfl rfl 6 (by decide) (hts _ xz1_237) (fun _ h9 => h9) rfl (by decide +kernel) rfl rfl (Nat.le_of_ble_eq_true rfl) (pc := 72) (by decide +kernel) (fun H locs hP hD hS => ?_)
  have hP : va_P (dC, dI) xk_cl ((h0, Sum.inr (0, [.ref (b6 0), .ref (b6 2), .ref (b6 10), .ref (b6 14), .ref (b6 22), .ref (b6 26), .int 0, .int 0, .int 0])) :: xm_W b6 dA xn_u6 xn_z) H := hP
  have hD : va_D (xn_A h0 s.heap.size) ((h0, Sum.inr (0, [.ref (b6 0), .ref (b6 2), .ref (b6 10), .ref (b6 14), .ref (b6 22), .ref (b6 26), .int 0, .int 0, .int 0])) :: xm_W b6 dA xn_u6 xn_z) := hD
  refine lv_aload_n hx hb (k := 0) (pc := 75) (by decide +kernel) rfl (lv_at hl 0 rfl) ?_
  refine lv_iconst (n := 2) (v := 2) (pc := 76) hx hb (by decide +kernel) (by decide) ?_
  refine va_put (D := (dC, dI)) (ci := 0) (v := .int 2) (ty := .int) (C := xk_R0) (T := xk_T0) (N := 9) (ref := "AbsenceRows") hx hb hts xk_w0 xk_t0 xk_p0 xk_n0 hown hK hP hD hS 0 rfl rfl 7 (by decide) (hts _ xz1_238) (fun _ h9 => h9) rfl (by decide +kernel) rfl rfl (Nat.le_of_ble_eq_true rfl) (pc := 77) (by decide +kernel) (fun H locs hP hD hS => ?_)
  have hP : va_P (dC, dI) xk_cl ((h0, Sum.inr (0, [.ref (b6 0), .ref (b6 2), .ref (b6 10), .ref (b6 14), .ref (b6 22), .ref (b6 26), .int 0, .int 2, .int 0])) :: xm_W b6 dA xn_u6 xn_z) H := hP
  have hD : va_D (xn_A h0 s.heap.size) ((h0, Sum.inr (0, [.ref (b6 0), .ref (b6 2), .ref (b6 10), .ref (b6 14), .ref (b6 22), .ref (b6 26), .int 0, .int 2, .int 0])) :: xm_W b6 dA xn_u6 xn_z) := hD
  refine lv_aload_n hx hb (k := 0) (pc := 80) (by decide +kernel) rfl (lv_at hl 0 rfl) ?_
  refine lv_iconst (n := 0) (v := 0) (pc := 81) hx hb (by decide +kernel) (by decide) ?_
  refine va_put (D := (dC, dI)) (ci := 0) (v := .int 0) (ty := .int) (C := xk_R0) (T := xk_T0) (N := 9) (ref := "AbsenceRows") hx hb hts xk_w0 xk_t0 xk_p0 xk_n0 hown hK hP hD hS 0 rfl rfl 8 (by decide) (hts _ xz1_239) (fun _ h9 => h9) rfl (by decide +kernel) rfl rfl (Nat.le_of_ble_eq_true rfl) (pc := 82) (by decide +kernel) (fun H locs hP hD hS => ?_)
  have hP : va_P (dC, dI) xk_cl ((h0, Sum.inr (0, [.ref (b6 0), .ref (b6 2), .ref (b6 10), .ref (b6 14), .ref (b6 22), .ref (b6 26), .int 0, .int 2, .int 0])) :: xm_W b6 dA xn_u6 xn_z) H := hP
  have hD : va_D (xn_A h0 s.heap.size) ((h0, Sum.inr (0, [.ref (b6 0), .ref (b6 2), .ref (b6 10), .ref (b6 14), .ref (b6 22), .ref (b6 26), .int 0, .int 2, .int 0])) :: xm_W b6 dA xn_u6 xn_z) := hD
  obtain ⟨ad, had0, had⟩ : ∃ ad : Nat → Nat, ad 0 = h0 ∧ ∀ k, ad (k + 1) = b6 k := ⟨fun k => match k with | 0 => h0 | k + 1 => b6 k, rfl, fun _ => rfl⟩
  have hWe : (h0, Sum.inr (0, [.ref (b6 0), .ref (b6 2), .ref (b6 10), .ref (b6 14), .ref (b6 22), .ref (b6 26), .int 0, .int 2, .int 0])) :: xm_W b6 dA xn_u6 xn_z = xm_W ad dA xn_uA xn_zA := by
    have e1 : xm_W ad dA xn_uA xn_zA = xm_W ad dA [.inr (0, [some 1, some 3, some 11, some 15, some 23, some 27, none, none, none])] xn_zA ++ xm_W (fun k => ad (k + 1)) dA xn_u6 (fun k => xn_zA (k + 1)) := xm_W_cat ad dA [.inr (0, [some 1, some 3, some 11, some 15, some 23, some 27, none, none, none])] xn_u6 xn_zA
    have e2 : (fun k => ad (k + 1)) = b6 := funext had
    have e3 : (fun k => xn_zA (k + 1)) = xn_z := by funext k; rw [xn_zA0 (by omega)]; rfl
    rw [e1, e2, e3]
    show _ = (ad 0, Sum.inr (0, [.ref (ad 1), .ref (ad 3), .ref (ad 11), .ref (ad 15), .ref (ad 23), .ref (ad 27), .int 0, .int 2, .int 0])) :: xm_W b6 dA xn_u6 xn_z
    rw [had0, had 0, had 2, had 10, had 14, had 22, had 26]
  rw [hWe] at hP hD
  have hPe := xm_subP (σ := xn_sg) xn_sgA hP
  have hDe : va_D (xn_A h0 s.heap.size) (xm_W (fun q => ad (xn_sg q)) dA xk_tA xn_zA) := xm_D (xm_subj (σ := xn_sg) xn_sgA xn_sgi (xm_W_inj hD)) (fun k hk => xm_W_in hD _ ((List.getElem?_eq_some_iff.mp (xn_sgA k _ (List.getElem?_eq_getElem hk))).1)) xn_zA
  rw [xn_sgz] at hPe
  have ha0 : ad (xn_sg 0) = h0 := had0
  refine W.widen (k := 33) (n := 2280) (Nat.le_of_ble_eq_true rfl) (Nat.le_of_ble_eq_true rfl) ?_
  exact W.vret hx hb hr (fun t ht hW => ⟨rfl, ⟨fun q => ad (xn_sg q), ha0, by rw [ht]; exact hPe, hDe⟩, hS.F ht⟩) hS.2.2 (pc := 85) (by decide +kernel)
