/-! THE SMALL MACHINE: memory by places, a program by rows, and its verification condition (xm_w), sound over the kit's W (xm_sound). -/
/-- memory: place p (an object or an array of the world), index k (an int field, an element) -/
abbrev xm_M : Type := Nat → Nat → Int32
def xm_up (M : xm_M) (p k : Nat) (x : Int32) : xm_M := fun a b => if a = p then (if b = k then x else M a b) else M a b
/-- a place: an array (type, length, of longs) or an object (its class, its fields: a fixed place, or an int) -/
abbrev xm_E : Type := (Nat × Nat × Bool) ⊕ (Nat × List (Option Nat))
def xm_v (ad : Nat → Nat) (v : Value) : Value := match v with
  | .ref k => .ref (ad k)
  | w => w
def xm_f (ad : Nat → Nat) (M : xm_M) (p k : Nat) (o : Option Nat) : Value := match o with
  | some q => .ref (ad q)
  | none => .int (M p k)
def xm_e (ad dA : Nat → Nat) (M : xm_M) (p : Nat) (en : xm_E) : va_E := match en with
  | .inl (t, n, false) => .inl (dA t, n, .inl (M p))
  | .inl (t, n, true) => .inl (dA t, n, .inr (.inl (fun i => (M p i).toInt64)))
  | .inr (ci, fk) => .inr (ci, fk.mapIdx (xm_f ad M p))
def xm_W (ad dA : Nat → Nat) (tp : List xm_E) (M : xm_M) : va_W := tp.mapIdx (fun p en => (ad p, xm_e ad dA M p en))
theorem xm_W_at {ad dA : Nat → Nat} {tp : List xm_E} {M : xm_M} {p : Nat} {en : xm_E} (h : tp[p]? = some en) : (xm_W ad dA tp M)[p]? = some (ad p, xm_e ad dA M p en) := by
  simp [xm_W, List.getElem?_mapIdx, h]
theorem xm_e_ne {ad dA : Nat → Nat} {M : xm_M} {p q k : Nat} {x : Int32} {en : xm_E} (h : q ≠ p) : xm_e ad dA (xm_up M p k x) q en = xm_e ad dA M q en := by
  have hM : (xm_up M p k x) q = M q := by funext b; simp [xm_up, h]
  rcases en with ⟨t, n, b⟩ | ⟨ci, fk⟩
  · cases b <;> simp [xm_e, hM]
  · have hf : xm_f ad (xm_up M p k x) q = xm_f ad M q := by funext b o; cases o <;> simp [xm_f, hM]
    simp [xm_e, hf]
theorem xm_W_set {ad dA : Nat → Nat} {tp : List xm_E} {M : xm_M} {p k : Nat} {x : Int32} {en : xm_E} (h : tp[p]? = some en) : (xm_W ad dA tp M).set p (ad p, xm_e ad dA (xm_up M p k x) p en) = xm_W ad dA tp (xm_up M p k x) := by
  apply List.ext_getElem?
  intro i
  by_cases hi : i = p
  · subst hi
    have hlt : i < tp.length := (List.getElem?_eq_some_iff.mp h).1
    rw [xm_W_at h, List.getElem?_set_self (by simpa [xm_W] using hlt)]
  · rw [List.getElem?_set_ne (fun q => hi q.symm)]
    simp only [xm_W, List.getElem?_mapIdx]
    cases htp : tp[i]? with
    | none => rfl
    | some e2 => simp [xm_e_ne hi]
theorem xm_e_O {ad dA : Nat → Nat} {M : xm_M} {p k ci : Nat} {x : Int32} {fk : List (Option Nat)} (h : fk[k]? = some none) : xm_e ad dA (xm_up M p k x) p (.inr (ci, fk)) = .inr (ci, (fk.mapIdx (xm_f ad M p)).set k (.int x)) := by
  have hlt : k < fk.length := (List.getElem?_eq_some_iff.mp h).1
  simp only [xm_e]
  congr 2
  apply List.ext_getElem?
  intro i
  by_cases hi : i = k
  · subst hi
    rw [List.getElem?_set_self (by simpa using hlt)]
    simp [List.getElem?_mapIdx, h, xm_f, xm_up]
  · rw [List.getElem?_set_ne (fun q => hi q.symm)]
    simp only [List.getElem?_mapIdx]
    cases hf : fk[i]? with
    | none => rfl
    | some o => cases o <;> simp [xm_f, xm_up, hi]
theorem xm_e_A {ad dA : Nat → Nat} {M : xm_M} {p j t n : Nat} {x : Int32} : xm_e ad dA (xm_up M p j x) p (.inl (t, n, false)) = .inl (dA t, n, .inl (upd (M p) j x)) := by
  have : (xm_up M p j x) p = upd (M p) j x := by funext b; simp [xm_up, upd]
  simp [xm_e, this]
theorem xm_e_L {ad dA : Nat → Nat} {M : xm_M} {p j t n : Nat} {x : Int32} : xm_e ad dA (xm_up M p j x) p (.inl (t, n, true)) = .inl (dA t, n, .inr (.inl (vp_updL (fun i => (M p i).toInt64) j x.toInt64))) := by
  have : (fun i => ((xm_up M p j x) p i).toInt64) = vp_updL (fun i => (M p i).toInt64) j x.toInt64 := by
    funext b
    by_cases hb : b = j <;> simp [xm_up, vp_updL, hb]
  simp only [xm_e, this]
theorem xm_D {ad dA : Nat → Nat} {tp : List xm_E} {A : Nat → Prop} (hj : ∀ i j, i < tp.length → j < tp.length → ad i = ad j → i = j) (hA : ∀ k, k < tp.length → A (ad k)) (M : xm_M) : va_D A (xm_W ad dA tp M) := by
  have key : ∀ (k : Nat) (q : Nat × va_E), (xm_W ad dA tp M)[k]? = some q → k < tp.length ∧ q.1 = ad k := by
    intro k q h
    simp only [xm_W, List.getElem?_mapIdx] at h
    cases ht : tp[k]? with
    | none => rw [ht] at h; cases h
    | some en => rw [ht] at h; cases h; exact ⟨(List.getElem?_eq_some_iff.mp ht).1, rfl⟩
  refine ⟨fun i j a b h1 h2 h3 => ?_, fun k q h => ?_⟩
  · obtain ⟨l1, e1⟩ := key i a h1
    obtain ⟨l2, e2⟩ := key j b h2
    exact hj i j l1 l2 (by rw [← e1, ← e2]; exact h3)
  · obtain ⟨l1, e1⟩ := key k q h
    rw [e1]; exact hA k l1
/-- locals: what is at a number; a number written anew -/
def xm_lk {α : Type} : List (Nat × α) → Nat → Option α
  | [], _ => none
  | q :: r, i => bif Nat.beq q.1 i then some q.2 else xm_lk r i
theorem xm_lk_mem {α : Type} : ∀ {l : List (Nat × α)} {i : Nat} {v : α}, xm_lk l i = some v → (i, v) ∈ l
  | [], _, _, h => by cases h
  | q :: r, i, v, h => by
    unfold xm_lk at h
    cases hb : Nat.beq q.1 i with
    | true =>
      rw [hb] at h
      have e1 : q.1 = i := Nat.eq_of_beq_eq_true hb
      have e2 : q.2 = v := Option.some.inj h
      rw [← e1, ← e2]; exact List.mem_cons_self
    | false =>
      rw [hb] at h
      exact List.mem_cons_of_mem _ (xm_lk_mem h)
def xm_c2 (v : Value) : Bool := match v with
  | .long _ => true
  | .double _ => true
  | _ => false
def xm_rm (i : Nat) : List (Nat × Value) → List (Nat × Value)
  | [] => []
  | q :: r => bif Nat.beq q.1 i || (Nat.beq (q.1 + 1) i && xm_c2 q.2) then xm_rm i r else q :: xm_rm i r
def xm_L (ad : Nat → Nat) (ls : List (Nat × Value)) : List (Nat × Value) := ls.map (fun q => (q.1, xm_v ad q.2))
theorem xm_beq (a b : Nat) : Nat.beq a b = (a == b) := by
  rw [Bool.eq_iff_iff, Nat.beq_eq, beq_iff_eq]
theorem xm_cat (ad : Nat → Nat) (v : Value) : (xm_v ad v).category = v.category := by cases v <;> rfl
theorem xm_c2_cat (v : Value) : xm_c2 v = (v.category == 2) := by cases v <;> rfl
theorem xm_rm_L (ad : Nat → Nat) (i : Nat) : ∀ ls : List (Nat × Value), (xm_L ad ls).filter (fun q => !(q.1 == i) && !(q.1 + 1 == i && q.2.category == 2)) = xm_L ad (xm_rm i ls)
  | [] => rfl
  | q :: r => by
    have ih := xm_rm_L ad i r
    have hb : (Nat.beq q.1 i || (Nat.beq (q.1 + 1) i && xm_c2 q.2)) = !(!(q.1 == i) && !(q.1 + 1 == i && (xm_v ad q.2).category == 2)) := by
      rw [xm_cat, xm_c2_cat]
      have h1 : Nat.beq q.1 i = (q.1 == i) := xm_beq _ _
      have h2 : Nat.beq (q.1 + 1) i = (q.1 + 1 == i) := xm_beq _ _
      rw [h1, h2]
      cases (q.1 == i) <;> cases (q.1 + 1 == i) <;> cases (q.2.category == 2) <;> rfl
    show List.filter _ ((q.1, xm_v ad q.2) :: xm_L ad r) = xm_L ad (xm_rm i (q :: r))
    rw [List.filter_cons, ih]
    rw [show xm_rm i (q :: r) = (bif Nat.beq q.1 i || (Nat.beq (q.1 + 1) i && xm_c2 q.2) then xm_rm i r else q :: xm_rm i r) from rfl, hb]
    cases hc : (!(q.1 == i) && !(q.1 + 1 == i && (xm_v ad q.2).category == 2)) with
    | true => rfl
    | false => rfl
def xm_rm2 (i : Nat) : List (Nat × Value) → List (Nat × Value)
  | [] => []
  | q :: r => bif Nat.beq q.1 i || (Nat.beq q.1 (i + 1) || (Nat.beq (q.1 + 1) i && xm_c2 q.2)) then xm_rm2 i r else q :: xm_rm2 i r
theorem xm_rm2_L (ad : Nat → Nat) (i : Nat) : ∀ ls : List (Nat × Value), (xm_L ad ls).filter (fun q => !(q.1 == i) && (!(q.1 == i + 1) && !(q.1 + 1 == i && q.2.category == 2))) = xm_L ad (xm_rm2 i ls)
  | [] => rfl
  | q :: r => by
    have ih := xm_rm2_L ad i r
    have hb : (Nat.beq q.1 i || (Nat.beq q.1 (i + 1) || (Nat.beq (q.1 + 1) i && xm_c2 q.2))) = !(!(q.1 == i) && (!(q.1 == i + 1) && !(q.1 + 1 == i && (xm_v ad q.2).category == 2))) := by
      rw [xm_cat, xm_c2_cat]
      have h1 : Nat.beq q.1 i = (q.1 == i) := xm_beq _ _
      have h2 : Nat.beq (q.1 + 1) i = (q.1 + 1 == i) := xm_beq _ _
      have h3 : Nat.beq q.1 (i + 1) = (q.1 == i + 1) := xm_beq _ _
      rw [h1, h2, h3]
      cases (q.1 == i) <;> cases (q.1 + 1 == i) <;> cases (q.1 == i + 1) <;> cases (q.2.category == 2) <;> rfl
    show List.filter _ ((q.1, xm_v ad q.2) :: xm_L ad r) = xm_L ad (xm_rm2 i (q :: r))
    rw [List.filter_cons, ih]
    rw [show xm_rm2 i (q :: r) = (bif Nat.beq q.1 i || (Nat.beq q.1 (i + 1) || (Nat.beq (q.1 + 1) i && xm_c2 q.2)) then xm_rm2 i r else q :: xm_rm2 i r) from rfl, hb]
    cases hc : (!(q.1 == i) && (!(q.1 == i + 1) && !(q.1 + 1 == i && (xm_v ad q.2).category == 2))) with
    | true => rfl
    | false => rfl
/-- a program: rows (pc, instruction, length, a cut and the locals that live there) -/
abbrev xm_P : Type := List (Nat × Jvm.ClassFile.Instr × Nat × Option (List Nat))
/-- the locals that live at a cut, by their numbers -/
def xm_lv : List Nat → List (Nat × Value) → List (Nat × Value)
  | [], _ => []
  | i :: r, ls => match xm_lk ls i with
    | some v => (i, v) :: xm_lv r ls
    | none => xm_lv r ls
theorem xm_lv_mem : ∀ {lv : List Nat} {ls : List (Nat × Value)} {q : Nat × Value}, q ∈ xm_lv lv ls → q ∈ ls
  | [], _, _, h => absurd h List.not_mem_nil
  | i :: r, ls, q, h => by
    unfold xm_lv at h
    cases hl : xm_lk ls i with
    | none => rw [hl] at h; exact xm_lv_mem h
    | some v =>
      rw [hl] at h
      rcases List.mem_cons.mp h with h | h
      · rw [h]; exact xm_lk_mem hl
      · exact xm_lv_mem h
theorem xm_lv_has {ad : Nat → Nat} {lsC : Array Slot} {nL : Nat} {lv : List Nat} {ls : List (Nat × Value)} (h : lv_has lsC nL (xm_L ad ls)) : lv_has lsC nL (xm_L ad (xm_lv lv ls)) := by
  refine ⟨h.1, h.2.1, fun q hq => ?_⟩
  obtain ⟨z, hz, rfl⟩ := List.mem_map.mp hq
  exact h.2.2 _ (List.mem_map.mpr ⟨z, xm_lv_mem hz, rfl⟩)
def xm_at : xm_P → Nat → xm_P
  | [], _ => []
  | q :: r, t => bif Nat.beq q.1 t then q :: r else xm_at r t
/-- a call: 0 virtual, 1 static; how many arguments (the receiver too); by how much the count of writes grows (0: it writes nothing); what it asks; what it answers and leaves -/
abbrev xm_C : Type := Nat × Nat × Nat × (List Value → xm_M → Prop) × (List Value → xm_M → Option Value × xm_M)
abbrev xm_K : Type := xm_P → List (Nat × Value) → List Value → xm_M → Nat → Prop
def xm_tg (pr : xm_P) (pc : Nat) (off : Int) : xm_P := xm_at pr ((pc : Int) + off).toNat
def xm_tb (pr : xm_P) (k : xm_P → Prop) (pc : Nat) (x : Int32) : List Int → Int → Prop
  | [], _ => True
  | o :: os, v => (x.toInt = v → 0 ≤ (pc : Int) + o ∧ k (xm_tg pr pc o)) ∧ xm_tb pr k pc x os (v + 1)
def xm_lp (pr : xm_P) (k : xm_P → Prop) (pc : Nat) (x : Int32) (d : Int) : List (Int × Int) → Prop
  | [] => 0 ≤ (pc : Int) + d ∧ k (xm_tg pr pc d)
  | q :: r => (x.toInt = q.1 → 0 ≤ (pc : Int) + q.2 ∧ k (xm_tg pr pc q.2)) ∧ (¬ x.toInt = q.1 → xm_lp pr k pc x d r)
/-- memory behind a call: untouched where it writes nothing -/
def xm_mem (C : xm_C) (as : List Value) (M : xm_M) : xm_M := match C.2.2.1 with
  | 0 => M
  | _ => (C.2.2.2.2 as M).2
def xm_aft (C : xm_C) (k : List Value → xm_M → Nat → Prop) (as rest : List Value) (M : xm_M) (cl : Nat) : Prop := match C.2.2.1 with
  | 0 => k ((C.2.2.2.2 as M).1.toList ++ rest) M cl
  | n + 1 => k ((C.2.2.2.2 as M).1.toList ++ rest) (C.2.2.2.2 as M).2 (cl + (n + 1))
theorem xm_aft_of {C : xm_C} {k : List Value → xm_M → Nat → Prop} {as rest : List Value} {M : xm_M} {cl : Nat} (h : xm_aft C k as rest M cl) : k ((C.2.2.2.2 as M).1.toList ++ rest) (xm_mem C as M) (cl + C.2.2.1) := by
  obtain ⟨kd, n, dn, pre, fn⟩ := C
  cases dn with
  | zero => exact h
  | succ n => exact h
def xm_call (ct : List (Nat × xm_C)) (kd idx : Nat) (k : xm_K) (tl : xm_P) (ls : List (Nat × Value)) (st : List Value) (M : xm_M) (cl : Nat) : Prop := match xm_lk ct idx with
  | none => False
  | some C => C.1 = kd ∧ C.2.1 ≤ st.length ∧ ((st.drop C.2.1).map (fun v => v.category)).sum ≤ 8 ∧ C.2.2.2.1 (st.take C.2.1).reverse M ∧
    xm_aft C (k tl ls) (st.take C.2.1).reverse (st.drop C.2.1) M cl
def xm_get (tp : List xm_E) (ci kf : Nat) (k : xm_K) (tl : xm_P) (ls : List (Nat × Value)) (p : Nat) (r : List Value) (M : xm_M) (cl : Nat) : Prop := match tp[p]? with
  | some (.inr (c2, fk)) => c2 = ci ∧ (match fk[kf]? with
    | some (some q) => k tl ls (.ref q :: r) M cl
    | some none => k tl ls (.int (M p kf) :: r) M cl
    | none => False)
  | _ => False
def xm_put (tp : List xm_E) (ci kf : Nat) (k : xm_K) (tl : xm_P) (ls : List (Nat × Value)) (p : Nat) (x : Int32) (r : List Value) (M : xm_M) (cl : Nat) : Prop := match tp[p]? with
  | some (.inr (c2, fk)) => c2 = ci ∧ (match fk[kf]? with
    | some none => k tl ls r (xm_up M p kf x) (cl + 1)
    | _ => False)
  | _ => False
def xm_ld (sL : Nat) (sx : Nat → Int32) (tp : List xm_E) (t : Nat) (k : xm_K) (tl : xm_P) (ls : List (Nat × Value)) (j : Int32) (p : Nat) (r : List Value) (M : xm_M) (cl : Nat) : Prop := match tp[p]? with
  | some (.inl (t2, n, false)) => t2 = t ∧ vp_in j n ∧ k tl ls (.int (M p j.toNatClampNeg) :: r) M cl
  | none => p = 1000 ∧ t = 0 ∧ 0 < sL ∧ vp_in j (sL - 1) ∧ k tl ls (.int (sx j.toNatClampNeg) :: r) M cl
  | _ => False
def xm_st (tp : List xm_E) (t : Nat) (k : xm_K) (tl : xm_P) (ls : List (Nat × Value)) (x : Int32) (j : Int32) (p : Nat) (r : List Value) (M : xm_M) (cl : Nat) : Prop := match tp[p]? with
  | some (.inl (t2, n, false)) => t2 = t ∧ vp_in j n ∧ k tl ls r (xm_up M p j.toNatClampNeg x) (cl + 1)
  | _ => False
def xm_p1 (st : List Value) (F : Int32 → List Value → Prop) : Prop := match st with
  | .int x :: r => F x r
  | _ => False
def xm_p2 (st : List Value) (F : Int32 → Int32 → List Value → Prop) : Prop := match st with
  | .int y :: .int x :: r => F y x r
  | _ => False
def xm_pA (st : List Value) (F : Nat → List Value → Prop) : Prop := match st with
  | .ref p :: r => F p r
  | _ => False
def xm_pIA (st : List Value) (F : Int32 → Nat → List Value → Prop) : Prop := match st with
  | .int j :: .ref p :: r => F j p r
  | _ => False
def xm_pIIA (st : List Value) (F : Int32 → Int32 → Nat → List Value → Prop) : Prop := match st with
  | .int x :: .int j :: .ref p :: r => F x j p r
  | _ => False
def xm_pJ (st : List Value) (F : Int64 → List Value → Prop) : Prop := match st with
  | .long x :: r => F x r
  | _ => False
def xm_pJJ (st : List Value) (F : Int64 → Int64 → List Value → Prop) : Prop := match st with
  | .long y :: .long x :: r => F y x r
  | _ => False
def xm_pJIA (st : List Value) (F : Int64 → Int32 → Nat → List Value → Prop) : Prop := match st with
  | .long x :: .int j :: .ref p :: r => F x j p r
  | _ => False
def xm_li (ls : List (Nat × Value)) (n : Nat) (F : Int32 → Prop) : Prop := match xm_lk ls n with
  | some (.int x) => F x
  | _ => False
def xm_la (ls : List (Nat × Value)) (n : Nat) (F : Nat → Prop) : Prop := match xm_lk ls n with
  | some (.ref x) => F x
  | _ => False
def xm_ll (ls : List (Nat × Value)) (n : Nat) (F : Int64 → Prop) : Prop := match xm_lk ls n with
  | some (.long x) => F x
  | _ => False
theorem xm_ll_of {ls : List (Nat × Value)} {n : Nat} {F : Int64 → Prop} (h : xm_ll ls n F) : ∃ x, (n, Value.long x) ∈ ls ∧ F x := by
  unfold xm_ll at h
  cases hx : xm_lk ls n with
  | none => rw [hx] at h; exact False.elim h
  | some v => rw [hx] at h; cases v <;> first | exact ⟨_, xm_lk_mem hx, h⟩ | exact False.elim h
def xm_oneJ (st : List Value) (F : Int64 → Prop) : Prop := match st with
  | [.long x] => F x
  | _ => False
theorem xm_oneJ_of {st : List Value} {F : Int64 → Prop} (h : xm_oneJ st F) : ∃ x, st = [.long x] ∧ F x := by
  rcases st with _ | ⟨v, _ | ⟨u, r⟩⟩
  · exact False.elim h
  · cases v <;> first | exact ⟨_, rfl, h⟩ | exact False.elim h
  · cases v <;> exact False.elim h
def xm_op {α : Type} (o : Option α) (F : α → Prop) : Prop := match o with
  | some x => F x
  | none => False
def xm_nil (st : List Value) (F : Prop) : Prop := match st with
  | [] => F
  | _ => False
def xm_one (st : List Value) (F : Int32 → Prop) : Prop := match st with
  | [.int x] => F x
  | _ => False
theorem xm_p1_of {st : List Value} {F : Int32 → List Value → Prop} (h : xm_p1 st F) : ∃ x r, st = .int x :: r ∧ F x r := by
  rcases st with _ | ⟨v, r⟩
  · exact h.elim
  · cases v <;> first | exact ⟨_, _, rfl, h⟩ | exact False.elim h
theorem xm_p2_of {st : List Value} {F : Int32 → Int32 → List Value → Prop} (h : xm_p2 st F) : ∃ y x r, st = .int y :: .int x :: r ∧ F y x r := by
  rcases st with _ | ⟨v, _ | ⟨u, r⟩⟩
  · exact h.elim
  · cases v <;> exact False.elim h
  · cases v <;> first | (cases u <;> first | exact ⟨_, _, _, rfl, h⟩ | exact False.elim h) | exact False.elim h
theorem xm_pA_of {st : List Value} {F : Nat → List Value → Prop} (h : xm_pA st F) : ∃ x r, st = .ref x :: r ∧ F x r := by
  rcases st with _ | ⟨v, r⟩
  · exact h.elim
  · cases v <;> first | exact ⟨_, _, rfl, h⟩ | exact False.elim h
theorem xm_pIA_of {st : List Value} {F : Int32 → Nat → List Value → Prop} (h : xm_pIA st F) : ∃ y x r, st = .int y :: .ref x :: r ∧ F y x r := by
  rcases st with _ | ⟨v, _ | ⟨u, r⟩⟩
  · exact h.elim
  · cases v <;> exact False.elim h
  · cases v <;> first | (cases u <;> first | exact ⟨_, _, _, rfl, h⟩ | exact False.elim h) | exact False.elim h
theorem xm_pIIA_of {st : List Value} {F : Int32 → Int32 → Nat → List Value → Prop} (h : xm_pIIA st F) : ∃ z y x r, st = .int z :: .int y :: .ref x :: r ∧ F z y x r := by
  rcases st with _ | ⟨v, _ | ⟨u, _ | ⟨w, r⟩⟩⟩
  · exact h.elim
  · cases v <;> exact False.elim h
  · cases v <;> first | (cases u <;> exact False.elim h) | exact False.elim h
  · cases v <;> first | (cases u <;> first | (cases w <;> first | exact ⟨_, _, _, _, rfl, h⟩ | exact False.elim h) | exact False.elim h) | exact False.elim h
theorem xm_pJ_of {st : List Value} {F : Int64 → List Value → Prop} (h : xm_pJ st F) : ∃ x r, st = .long x :: r ∧ F x r := by
  rcases st with _ | ⟨v, r⟩
  · exact h.elim
  · cases v <;> first | exact ⟨_, _, rfl, h⟩ | exact False.elim h
theorem xm_pJJ_of {st : List Value} {F : Int64 → Int64 → List Value → Prop} (h : xm_pJJ st F) : ∃ y x r, st = .long y :: .long x :: r ∧ F y x r := by
  rcases st with _ | ⟨v, _ | ⟨u, r⟩⟩
  · exact h.elim
  · cases v <;> exact False.elim h
  · cases v <;> first | (cases u <;> first | exact ⟨_, _, _, rfl, h⟩ | exact False.elim h) | exact False.elim h
theorem xm_pJIA_of {st : List Value} {F : Int64 → Int32 → Nat → List Value → Prop} (h : xm_pJIA st F) : ∃ z y x r, st = .long z :: .int y :: .ref x :: r ∧ F z y x r := by
  rcases st with _ | ⟨v, _ | ⟨u, _ | ⟨w, r⟩⟩⟩
  · exact h.elim
  · cases v <;> exact False.elim h
  · cases v <;> first | (cases u <;> exact False.elim h) | exact False.elim h
  · cases v <;> first | (cases u <;> first | (cases w <;> first | exact ⟨_, _, _, _, rfl, h⟩ | exact False.elim h) | exact False.elim h) | exact False.elim h
theorem xm_op_of {α : Type} {o : Option α} {F : α → Prop} (h : xm_op o F) : ∃ x, o = some x ∧ F x := by
  cases o with
  | none => exact False.elim h
  | some x => exact ⟨x, rfl, h⟩
theorem xm_li_of {ls : List (Nat × Value)} {n : Nat} {F : Int32 → Prop} (h : xm_li ls n F) : ∃ x, (n, Value.int x) ∈ ls ∧ F x := by
  unfold xm_li at h
  cases hx : xm_lk ls n with
  | none => rw [hx] at h; exact False.elim h
  | some v => rw [hx] at h; cases v <;> first | exact ⟨_, xm_lk_mem hx, h⟩ | exact False.elim h
theorem xm_la_of {ls : List (Nat × Value)} {n : Nat} {F : Nat → Prop} (h : xm_la ls n F) : ∃ x, (n, Value.ref x) ∈ ls ∧ F x := by
  unfold xm_la at h
  cases hx : xm_lk ls n with
  | none => rw [hx] at h; exact False.elim h
  | some v => rw [hx] at h; cases v <;> first | exact ⟨_, xm_lk_mem hx, h⟩ | exact False.elim h
theorem xm_nil_of {st : List Value} {F : Prop} (h : xm_nil st F) : st = [] ∧ F := by
  cases st with
  | nil => exact ⟨rfl, h⟩
  | cons v r => exact False.elim h
theorem xm_one_of {st : List Value} {F : Int32 → Prop} (h : xm_one st F) : ∃ x, st = [.int x] ∧ F x := by
  rcases st with _ | ⟨v, _ | ⟨u, r⟩⟩
  · exact False.elim h
  · cases v <;> first | exact ⟨_, rfl, h⟩ | exact False.elim h
  · cases v <;> exact False.elim h
def xm_hd (st : List Value) (F : Value → List Value → Prop) : Prop := match st with
  | v :: r => v.category = 1 ∧ F v r
  | [] => False
theorem xm_hd_of {st : List Value} {F : Value → List Value → Prop} (h : xm_hd st F) : ∃ v r, st = v :: r ∧ v.category = 1 ∧ F v r := by
  rcases st with _ | ⟨v, r⟩
  · exact False.elim h
  · exact ⟨v, r, rfl, h.1, h.2⟩
def xm_ldJ (tp : List xm_E) (k : xm_K) (tl : xm_P) (ls : List (Nat × Value)) (j : Int32) (p : Nat) (r : List Value) (M : xm_M) (cl : Nat) : Prop := match tp[p]? with
  | some (.inl (t2, n, true)) => t2 = 2 ∧ vp_in j n ∧ k tl ls (.long (M p j.toNatClampNeg).toInt64 :: r) M cl
  | _ => False
def xm_stJ (tp : List xm_E) (k : xm_K) (tl : xm_P) (ls : List (Nat × Value)) (x : Int64) (j : Int32) (p : Nat) (r : List Value) (M : xm_M) (cl : Nat) : Prop := match tp[p]? with
  | some (.inl (t2, n, true)) => t2 = 2 ∧ vp_in j n ∧ ∃ y : Int32, x = y.toInt64 ∧ k tl ls r (xm_up M p j.toNatClampNeg y) (cl + 1)
  | _ => False
def xm_al (sL : Nat) (tp : List xm_E) (k : xm_K) (tl : xm_P) (ls : List (Nat × Value)) (p : Nat) (r : List Value) (M : xm_M) (cl : Nat) : Prop := match tp[p]? with
  | some (.inl (t, n, _)) => t < 3 ∧ k tl ls (.int (Int32.ofNat n) :: r) M cl
  | none => p = 1000 ∧ 0 < sL ∧ k tl ls (.int (Int32.ofNat (sL - 1)) :: r) M cl
  | _ => False
theorem xm_get_of {tp : List xm_E} {ci kf : Nat} {k : xm_K} {tl : xm_P} {ls : List (Nat × Value)} {p : Nat} {r : List Value} {M : xm_M} {cl : Nat} (h : xm_get tp ci kf k tl ls p r M cl) :
    ∃ fk o, tp[p]? = some (.inr (ci, fk)) ∧ fk[kf]? = some o ∧ (match o with | some q => k tl ls (.ref q :: r) M cl | none => k tl ls (.int (M p kf) :: r) M cl) := by
  unfold xm_get at h
  cases ht : tp[p]? with
  | none => rw [ht] at h; exact False.elim h
  | some en =>
    rw [ht] at h
    rcases en with ⟨t, n, b⟩ | ⟨c2, fk⟩
    · exact False.elim h
    · obtain ⟨rfl, h⟩ := h
      cases hf : fk[kf]? with
      | none => rw [hf] at h; exact False.elim h
      | some o =>
        rw [hf] at h
        cases o with
        | none => exact ⟨fk, none, rfl, hf, h⟩
        | some q => exact ⟨fk, some q, rfl, hf, h⟩
theorem xm_put_of {tp : List xm_E} {ci kf : Nat} {k : xm_K} {tl : xm_P} {ls : List (Nat × Value)} {p : Nat} {x : Int32} {r : List Value} {M : xm_M} {cl : Nat} (h : xm_put tp ci kf k tl ls p x r M cl) :
    ∃ fk, tp[p]? = some (.inr (ci, fk)) ∧ fk[kf]? = some none ∧ k tl ls r (xm_up M p kf x) (cl + 1) := by
  unfold xm_put at h
  cases ht : tp[p]? with
  | none => rw [ht] at h; exact False.elim h
  | some en =>
    rw [ht] at h
    rcases en with ⟨t, n, b⟩ | ⟨c2, fk⟩
    · exact False.elim h
    · obtain ⟨rfl, h⟩ := h
      cases hf : fk[kf]? with
      | none => rw [hf] at h; exact False.elim h
      | some o =>
        rw [hf] at h
        cases o with
        | none => exact ⟨fk, rfl, hf, h⟩
        | some q => exact False.elim h
theorem xm_ld_of {sL : Nat} {sx : Nat → Int32} {tp : List xm_E} {t : Nat} {k : xm_K} {tl : xm_P} {ls : List (Nat × Value)} {j : Int32} {p : Nat} {r : List Value} {M : xm_M} {cl : Nat} (h : xm_ld sL sx tp t k tl ls j p r M cl) :
    (∃ n, tp[p]? = some (.inl (t, n, false)) ∧ vp_in j n ∧ k tl ls (.int (M p j.toNatClampNeg) :: r) M cl) ∨ (p = 1000 ∧ t = 0 ∧ 0 < sL ∧ vp_in j (sL - 1) ∧ k tl ls (.int (sx j.toNatClampNeg) :: r) M cl) := by
  unfold xm_ld at h
  cases ht : tp[p]? with
  | none => rw [ht] at h; exact Or.inr h
  | some en =>
    rw [ht] at h
    rcases en with ⟨t2, n, b⟩ | ⟨c2, fk⟩
    · cases b with
      | true => exact False.elim h
      | false => obtain ⟨rfl, h1, h2⟩ := h; exact Or.inl ⟨n, rfl, h1, h2⟩
    · exact False.elim h
theorem xm_st_of {tp : List xm_E} {t : Nat} {k : xm_K} {tl : xm_P} {ls : List (Nat × Value)} {x j : Int32} {p : Nat} {r : List Value} {M : xm_M} {cl : Nat} (h : xm_st tp t k tl ls x j p r M cl) :
    ∃ n, tp[p]? = some (.inl (t, n, false)) ∧ vp_in j n ∧ k tl ls r (xm_up M p j.toNatClampNeg x) (cl + 1) := by
  unfold xm_st at h
  cases ht : tp[p]? with
  | none => rw [ht] at h; exact False.elim h
  | some en =>
    rw [ht] at h
    rcases en with ⟨t2, n, b⟩ | ⟨c2, fk⟩
    · cases b with
      | true => exact False.elim h
      | false => obtain ⟨rfl, h1, h2⟩ := h; exact ⟨n, rfl, h1, h2⟩
    · exact False.elim h
theorem xm_ldJ_of {tp : List xm_E} {k : xm_K} {tl : xm_P} {ls : List (Nat × Value)} {j : Int32} {p : Nat} {r : List Value} {M : xm_M} {cl : Nat} (h : xm_ldJ tp k tl ls j p r M cl) :
    ∃ n, tp[p]? = some (.inl (2, n, true)) ∧ vp_in j n ∧ k tl ls (.long (M p j.toNatClampNeg).toInt64 :: r) M cl := by
  unfold xm_ldJ at h
  cases ht : tp[p]? with
  | none => rw [ht] at h; exact False.elim h
  | some en =>
    rw [ht] at h
    rcases en with ⟨t2, n, b⟩ | ⟨c2, fk⟩
    · cases b with
      | false => exact False.elim h
      | true => obtain ⟨rfl, h1, h2⟩ := h; exact ⟨n, rfl, h1, h2⟩
    · exact False.elim h
theorem xm_stJ_of {tp : List xm_E} {k : xm_K} {tl : xm_P} {ls : List (Nat × Value)} {x : Int64} {j : Int32} {p : Nat} {r : List Value} {M : xm_M} {cl : Nat} (h : xm_stJ tp k tl ls x j p r M cl) :
    ∃ n y, tp[p]? = some (.inl (2, n, true)) ∧ x = Int32.toInt64 y ∧ vp_in j n ∧ k tl ls r (xm_up M p j.toNatClampNeg y) (cl + 1) := by
  unfold xm_stJ at h
  cases ht : tp[p]? with
  | none => rw [ht] at h; exact False.elim h
  | some en =>
    rw [ht] at h
    rcases en with ⟨t2, n, b⟩ | ⟨c2, fk⟩
    · cases b with
      | false => exact False.elim h
      | true => obtain ⟨rfl, h1, y, h3, h2⟩ := h; exact ⟨n, y, rfl, h3, h1, h2⟩
    · exact False.elim h
theorem xm_al_of {sL : Nat} {tp : List xm_E} {k : xm_K} {tl : xm_P} {ls : List (Nat × Value)} {p : Nat} {r : List Value} {M : xm_M} {cl : Nat} (h : xm_al sL tp k tl ls p r M cl) :
    (∃ t n b, tp[p]? = some (.inl (t, n, b)) ∧ t < 3 ∧ k tl ls (.int (Int32.ofNat n) :: r) M cl) ∨ (p = 1000 ∧ 0 < sL ∧ k tl ls (.int (Int32.ofNat (sL - 1)) :: r) M cl) := by
  unfold xm_al at h
  cases ht : tp[p]? with
  | none => rw [ht] at h; exact Or.inr h
  | some en =>
    rw [ht] at h
    rcases en with ⟨t2, n, b⟩ | ⟨c2, fk⟩
    · exact Or.inl ⟨t2, n, b, rfl, h.1, h.2⟩
    · exact False.elim h
theorem xm_tb_of {pr : xm_P} {k : xm_P → Prop} {pc : Nat} {x : Int32} : ∀ {os : List Int} {v : Int}, xm_tb pr k pc x os v → ∀ j : Nat, j < os.length → x.toInt = v + j → ∃ o, os[j]? = some o ∧ 0 ≤ (pc : Int) + o ∧ k (xm_tg pr pc o)
  | [], _, _, j, hj, _ => absurd hj (Nat.not_lt_zero j)
  | o :: os, v, h, 0, _, hx => ⟨o, rfl, (h.1 (by simpa using hx)).1, (h.1 (by simpa using hx)).2⟩
  | o :: os, v, h, j + 1, hj, hx => by
    obtain ⟨o2, e1, e2⟩ := xm_tb_of h.2 j (by simpa using hj) (by rw [hx]; push_cast; omega)
    exact ⟨o2, by simpa using e1, e2⟩
theorem xm_lp_of {pr : xm_P} {k : xm_P → Prop} {pc : Nat} {x : Int32} {d : Int} : ∀ {os : List (Int × Int)}, xm_lp pr k pc x d os → 0 ≤ (pc : Int) + Jvm.Op.lookupswitch.offset os d x.toInt ∧ k (xm_tg pr pc (Jvm.Op.lookupswitch.offset os d x.toInt))
  | [], h => h
  | q :: r, h => by
    by_cases hq : x.toInt = q.1
    · have e : Jvm.Op.lookupswitch.offset (q :: r) d x.toInt = q.2 := by simp [Jvm.Op.lookupswitch.offset, hq]
      rw [e]; exact h.1 hq
    · have e : Jvm.Op.lookupswitch.offset (q :: r) d x.toInt = Jvm.Op.lookupswitch.offset r d x.toInt := by simp [Jvm.Op.lookupswitch.offset, Ne.symm hq, hq]
      rw [e]; exact xm_lp_of (h.2 hq)
/-- what an instruction asks, and how the walk goes on -/
def xm_i (sL : Nat) (sx : Nat → Int32) (pr : xm_P) (fl : List (Nat × Nat × Nat)) (ct : List (Nat × xm_C)) (cn : List (Nat × Int32)) (cj : List (Nat × Int64)) (tp : List xm_E) (rt : FieldType) (nL : Nat) (Qr : Option Value → xm_M → Nat → Prop) (Qt : Nat → Nat → xm_M → Nat → Prop) (k : xm_K)
    (pc : Nat) (i : Jvm.ClassFile.Instr) (tl : xm_P) (ls : List (Nat × Value)) (st : List Value) (M : xm_M) (cl : Nat) : Prop := match i with
  | .iconst n => k tl ls (.int (Int32.ofInt n) :: st) M cl
  | .bipush n => k tl ls (.int (Int32.ofInt n) :: st) M cl
  | .sipush n => k tl ls (.int (Int32.ofInt n) :: st) M cl
  | .ldc n => xm_op (xm_lk cn n) (fun v => k tl ls (.int v :: st) M cl)
  | .ldc_w n => xm_op (xm_lk cn n) (fun v => k tl ls (.int v :: st) M cl)
  | .iload n => xm_li ls n (fun x => k tl ls (.int x :: st) M cl)
  | .iload_n n => xm_li ls n.val (fun x => k tl ls (.int x :: st) M cl)
  | .aload n => xm_la ls n (fun x => k tl ls (.ref x :: st) M cl)
  | .aload_n n => xm_la ls n.val (fun x => k tl ls (.ref x :: st) M cl)
  | .istore n => n < nL ∧ xm_p1 st (fun x r => k tl ((n, .int x) :: xm_rm n ls) r M cl)
  | .istore_n n => n.val < nL ∧ xm_p1 st (fun x r => k tl ((n.val, .int x) :: xm_rm n.val ls) r M cl)
  | .astore n => n < nL ∧ xm_pA st (fun x r => k tl ((n, .ref x) :: xm_rm n ls) r M cl)
  | .astore_n n => n.val < nL ∧ xm_pA st (fun x r => k tl ((n.val, .ref x) :: xm_rm n.val ls) r M cl)
  | .iinc n d => n < nL ∧ xm_li ls n (fun x => k tl ((n, .int (x + Int32.ofInt d)) :: xm_rm n ls) st M cl)
  | .iadd => xm_p2 st (fun y x r => k tl ls (.int (x + y) :: r) M cl)
  | .isub => xm_p2 st (fun y x r => k tl ls (.int (x - y) :: r) M cl)
  | .imul => xm_p2 st (fun y x r => k tl ls (.int (x * y) :: r) M cl)
  | .iand => xm_p2 st (fun y x r => k tl ls (.int (x &&& y) :: r) M cl)
  | .ior => xm_p2 st (fun y x r => k tl ls (.int (x ||| y) :: r) M cl)
  | .ixor => xm_p2 st (fun y x r => k tl ls (.int (x ^^^ y) :: r) M cl)
  | .ishl => xm_p2 st (fun y x r => k tl ls (.int (x <<< (y &&& 31)) :: r) M cl)
  | .ishr => xm_p2 st (fun y x r => k tl ls (.int (x >>> (y &&& 31)) :: r) M cl)
  | .iushr => xm_p2 st (fun y x r => k tl ls (.int (x.toUInt32 >>> (y.toUInt32 &&& Int32.toUInt32 31)).toInt32 :: r) M cl)
  | .idiv => xm_p2 st (fun y x r => ¬ y = 0 ∧ k tl ls (.int (x / y) :: r) M cl)
  | .irem => xm_p2 st (fun y x r => ¬ y = 0 ∧ k tl ls (.int (x - x / y * y) :: r) M cl)
  | .ineg => xm_p1 st (fun x r => k tl ls (.int (-x) :: r) M cl)
  | .dup => xm_hd st (fun v r => k tl ls (v :: v :: r) M cl)
  | .pop => xm_hd st (fun v r => k tl ls r M cl)
  | .dup2 => xm_pIA st (fun x p r => k tl ls (.int x :: .ref p :: .int x :: .ref p :: r) M cl)
  | .dup_x1 => xm_pIA st (fun x p r => k tl ls (.int x :: .ref p :: .int x :: r) M cl)
  | .dup_x2 => xm_pIIA st (fun x z p r => k tl ls (.int x :: .int z :: .ref p :: .int x :: r) M cl)
  | .goto off => 0 ≤ (pc : Int) + off ∧ k (xm_tg pr pc off) ls st M cl
  | .ifCond .eq off => 0 ≤ (pc : Int) + off ∧ xm_p1 st (fun x r => (x = 0 → k (xm_tg pr pc off) ls r M cl) ∧ (¬ x = 0 → k tl ls r M cl))
  | .ifCond .ne off => 0 ≤ (pc : Int) + off ∧ xm_p1 st (fun x r => (¬ x = 0 → k (xm_tg pr pc off) ls r M cl) ∧ (x = 0 → k tl ls r M cl))
  | .ifCond .lt off => 0 ≤ (pc : Int) + off ∧ xm_p1 st (fun x r => (x < 0 → k (xm_tg pr pc off) ls r M cl) ∧ (¬ x < 0 → k tl ls r M cl))
  | .ifCond .ge off => 0 ≤ (pc : Int) + off ∧ xm_p1 st (fun x r => (0 ≤ x → k (xm_tg pr pc off) ls r M cl) ∧ (¬ 0 ≤ x → k tl ls r M cl))
  | .ifCond .gt off => 0 ≤ (pc : Int) + off ∧ xm_p1 st (fun x r => (0 < x → k (xm_tg pr pc off) ls r M cl) ∧ (¬ 0 < x → k tl ls r M cl))
  | .ifCond .le off => 0 ≤ (pc : Int) + off ∧ xm_p1 st (fun x r => (x ≤ 0 → k (xm_tg pr pc off) ls r M cl) ∧ (¬ x ≤ 0 → k tl ls r M cl))
  | .if_icmp .eq off => 0 ≤ (pc : Int) + off ∧ xm_p2 st (fun y x r => (x = y → k (xm_tg pr pc off) ls r M cl) ∧ (¬ x = y → k tl ls r M cl))
  | .if_icmp .ne off => 0 ≤ (pc : Int) + off ∧ xm_p2 st (fun y x r => (¬ x = y → k (xm_tg pr pc off) ls r M cl) ∧ (x = y → k tl ls r M cl))
  | .if_icmp .lt off => 0 ≤ (pc : Int) + off ∧ xm_p2 st (fun y x r => (x < y → k (xm_tg pr pc off) ls r M cl) ∧ (¬ x < y → k tl ls r M cl))
  | .if_icmp .ge off => 0 ≤ (pc : Int) + off ∧ xm_p2 st (fun y x r => (y ≤ x → k (xm_tg pr pc off) ls r M cl) ∧ (¬ y ≤ x → k tl ls r M cl))
  | .if_icmp .gt off => 0 ≤ (pc : Int) + off ∧ xm_p2 st (fun y x r => (y < x → k (xm_tg pr pc off) ls r M cl) ∧ (¬ y < x → k tl ls r M cl))
  | .if_icmp .le off => 0 ≤ (pc : Int) + off ∧ xm_p2 st (fun y x r => (x ≤ y → k (xm_tg pr pc off) ls r M cl) ∧ (¬ x ≤ y → k tl ls r M cl))
  | .getfield n => xm_op (xm_lk fl n) (fun q => xm_pA st (fun p r => xm_get tp q.1 q.2 k tl ls p r M cl))
  | .putfield n => xm_op (xm_lk fl n) (fun q => xm_pIA st (fun x p r => xm_put tp q.1 q.2 k tl ls p x r M cl))
  | .iaload => xm_pIA st (fun j p r => xm_ld sL sx tp 0 k tl ls j p r M cl)
  | .baload => xm_pIA st (fun j p r => xm_ld sL sx tp 1 k tl ls j p r M cl)
  | .iastore => xm_pIIA st (fun x j p r => xm_st tp 0 k tl ls x j p r M cl)
  | .bastore => xm_pIIA st (fun x j p r => vp_nar .boolean x = x ∧ xm_st tp 1 k tl ls x j p r M cl)
  | .laload => xm_pIA st (fun j p r => xm_ldJ tp k tl ls j p r M cl)
  | .lastore => xm_pJIA st (fun x j p r => xm_stJ tp k tl ls x j p r M cl)
  | .i2l => xm_p1 st (fun x r => k tl ls (.long x.toInt64 :: r) M cl)
  | .arraylength => xm_pA st (fun p r => xm_al sL tp k tl ls p r M cl)
  | .invokevirtual n => xm_call ct 0 n k tl ls st M cl
  | .invokestatic n => xm_call ct 1 n k tl ls st M cl
  | .ireturn => xm_one st (fun v => narrow rt (.int v) = .int v ∧ Qr (some (.int v)) M cl)
  | .return_ => xm_nil st (Qr none M cl)
  | .new n => xm_nil st (Qt pc n M cl)
  | .tableswitch d lo hi offs => xm_p1 st (fun x r => (x.toInt < lo ∨ hi < x.toInt → 0 ≤ (pc : Int) + d ∧ k (xm_tg pr pc d) ls r M cl) ∧ hi < lo + offs.size ∧ xm_tb pr (fun c => k c ls r M cl) pc x offs.toList lo)
  | .lookupswitch d ps => xm_p1 st (fun x r => ((ps.toList.zip (ps.toList.drop 1)).all (fun (a, next) => a.1 < next.1)) = true ∧ xm_lp pr (fun c => k c ls r M cl) pc x d ps.toList)
  | .lconst n => k tl ls (.long (Int64.ofNat n.val) :: st) M cl
  | .ldc2_w n => xm_op (xm_lk cj n) (fun v => k tl ls (.long v :: st) M cl)
  | .lload n => xm_ll ls n (fun x => k tl ls (.long x :: st) M cl)
  | .lload_n n => xm_ll ls n.val (fun x => k tl ls (.long x :: st) M cl)
  | .lstore n => n + 1 < nL ∧ xm_pJ st (fun x r => k tl ((n, .long x) :: xm_rm2 n ls) r M cl)
  | .lstore_n n => n.val + 1 < nL ∧ xm_pJ st (fun x r => k tl ((n.val, .long x) :: xm_rm2 n.val ls) r M cl)
  | .ladd => xm_pJJ st (fun y x r => k tl ls (.long (x + y) :: r) M cl)
  | .lsub => xm_pJJ st (fun y x r => k tl ls (.long (x - y) :: r) M cl)
  | .lmul => xm_pJJ st (fun y x r => k tl ls (.long (x * y) :: r) M cl)
  | .ldiv => xm_pJJ st (fun y x r => ¬ y = 0 ∧ k tl ls (.long (x / y) :: r) M cl)
  | .lrem => xm_pJJ st (fun y x r => ¬ y = 0 ∧ k tl ls (.long (x - x / y * y) :: r) M cl)
  | .lneg => xm_pJ st (fun x r => k tl ls (.long (-x) :: r) M cl)
  | .lcmp => xm_pJJ st (fun y x r => k tl ls (.int (lg_cmp x y) :: r) M cl)
  | .l2i => xm_pJ st (fun x r => k tl ls (.int x.toInt32 :: r) M cl)
  | .lreturn => xm_oneJ st (fun v => Qr (some (.long v)) M cl)
  | _ => False
/-- how long an instruction is (0: by its own row) -/
def xm_len (i : Jvm.ClassFile.Instr) : Nat := match i with
  | .iconst _ => 1
  | .bipush _ => 2
  | .sipush _ => 3
  | .ldc _ => 2
  | .ldc_w _ => 3
  | .iload _ => 2
  | .iload_n _ => 1
  | .aload _ => 2
  | .aload_n _ => 1
  | .istore _ => 2
  | .istore_n _ => 1
  | .astore _ => 2
  | .astore_n _ => 1
  | .iinc _ _ => 3
  | .iadd => 1
  | .isub => 1
  | .imul => 1
  | .iand => 1
  | .ior => 1
  | .ixor => 1
  | .ishl => 1
  | .ishr => 1
  | .iushr => 1
  | .idiv => 1
  | .irem => 1
  | .ineg => 1
  | .dup => 1
  | .pop => 1
  | .dup2 => 1
  | .dup_x1 => 1
  | .dup_x2 => 1
  | .goto _ => 3
  | .ifCond _ _ => 3
  | .if_icmp _ _ => 3
  | .getfield _ => 3
  | .putfield _ => 3
  | .iaload => 1
  | .baload => 1
  | .iastore => 1
  | .bastore => 1
  | .laload => 1
  | .lastore => 1
  | .i2l => 1
  | .arraylength => 1
  | .invokevirtual _ => 3
  | .invokestatic _ => 3
  | .ireturn => 1
  | .return_ => 1
  | .new _ => 3
  | .tableswitch _ _ _ _ => 0
  | .lookupswitch _ _ => 0
  | .lconst _ => 1
  | .ldc2_w _ => 3
  | .lload _ => 2
  | .lload_n _ => 1
  | .lstore _ => 2
  | .lstore_n _ => 1
  | .ladd => 1
  | .lsub => 1
  | .lmul => 1
  | .ldiv => 1
  | .lrem => 1
  | .lneg => 1
  | .lcmp => 1
  | .l2i => 1
  | .lreturn => 1
  | _ => 0
def xm_w (sL : Nat) (sx : Nat → Int32) (pr : xm_P) (fl : List (Nat × Nat × Nat)) (ct : List (Nat × xm_C)) (cn : List (Nat × Int32)) (cj : List (Nat × Int64)) (tp : List xm_E) (rt : FieldType) (nL : Nat) (Qr : Option Value → xm_M → Nat → Prop) (Qt : Nat → Nat → xm_M → Nat → Prop) (K : Nat → List (Nat × Value) → List Value → xm_M → Nat → Prop) :
    Nat → Bool → xm_P → List (Nat × Value) → List Value → xm_M → Nat → Prop
  | 0, _, _, _, _, _, _ => False
  | _ + 1, _, [], _, _, _, _ => False
  | n + 1, b, q :: tl, ls, st, M, cl => match b, q.2.2.2 with
    | true, some lv => K q.1 (xm_lv lv ls) st M cl
    | _, _ => xm_i sL sx pr fl ct cn cj tp rt nL Qr Qt (fun c ls st M cl => xm_w sL sx pr fl ct cn cj tp rt nL Qr Qt K n true c ls st M cl) q.1 q.2.1 tl ls st M cl
/-- a small constant is what it says -/
def xm_lit (i : Jvm.ClassFile.Instr) : Bool := match i with
  | .bipush n => decide ((Int8.ofInt n).toInt32 = Int32.ofInt n)
  | .sipush n => decide ((Int16.ofInt n).toInt32 = Int32.ofInt n)
  | _ => true
def xm_ch (cc : ByteArray) : xm_P → Prop
  | [] => True
  | q :: tl => (decode cc q.1 = .ok (q.2.1, q.2.2.1) ∧ xm_lit q.2.1 = true) ∧ (xm_len q.2.1 = 0 ∨ q.2.2.1 = xm_len q.2.1) ∧ (∀ z r, tl = z :: r → z.1 = q.1 + q.2.2.1) ∧ xm_ch cc tl
/-- the same, as a program decides it -/
def xm_hd1 : xm_P → Option Nat
  | [] => none
  | q :: _ => some q.1
def xm_chb (cc : ByteArray) : xm_P → Bool
  | [] => true
  | q :: tl => (decide (decode cc q.1 = .ok (q.2.1, q.2.2.1)) && xm_lit q.2.1) && (decide (xm_len q.2.1 = 0) || decide (q.2.2.1 = xm_len q.2.1)) && (match xm_hd1 tl with | none => true | some z => decide (z = q.1 + q.2.2.1)) && xm_chb cc tl
theorem xm_ch_of {cc : ByteArray} : ∀ {pr : xm_P}, xm_chb cc pr = true → xm_ch cc pr
  | [], _ => trivial
  | q :: tl, h => by
    unfold xm_chb at h
    rw [Bool.and_eq_true, Bool.and_eq_true, Bool.and_eq_true, Bool.and_eq_true, Bool.or_eq_true, decide_eq_true_eq, decide_eq_true_eq, decide_eq_true_eq] at h
    obtain ⟨⟨⟨h1, h2⟩, h3⟩, h4⟩ := h
    refine ⟨h1, h2, fun z r e => ?_, xm_ch_of h4⟩
    subst e
    simpa [xm_hd1] using h3
theorem xm_at_ch {cc : ByteArray} (t : Nat) : ∀ {pr : xm_P}, xm_ch cc pr → xm_ch cc (xm_at pr t)
  | [], _ => trivial
  | q :: tl, h => by
    unfold xm_at
    cases Nat.beq q.1 t with
    | true => exact h
    | false => exact xm_at_ch t h.2.2.2
theorem xm_at_hd {t : Nat} : ∀ {pr : xm_P} {q : Nat × Jvm.ClassFile.Instr × Nat × Option (List Nat)} {tl : xm_P}, xm_at pr t = q :: tl → q.1 = t
  | [], _, _, h => by cases h
  | z :: r, q, tl, h => by
    unfold xm_at at h
    cases hb : Nat.beq z.1 t with
    | true =>
      rw [hb] at h
      have h1 : z = q := (List.cons.inj h).1
      rw [← h1]; exact Nat.eq_of_beq_eq_true hb
    | false => rw [hb] at h; exact xm_at_hd h
theorem xm_inL {ad : Nat → Nat} {ls : List (Nat × Value)} {n : Nat} {v : Value} (h : (n, v) ∈ ls) : (n, xm_v ad v) ∈ xm_L ad ls := List.mem_map.mpr ⟨(n, v), h, rfl⟩
theorem xm_in {ad : Nat → Nat} {ls : List (Nat × Value)} {n : Nat} {v : Value} {lsC : Array Slot} {nL : Nat} (hl : lv_has lsC nL (xm_L ad ls)) (h : (n, v) ∈ ls) : lsC[n]? = some (.val (xm_v ad v)) := hl.2.2 (n, xm_v ad v) (xm_inL h)
/-- some object of the class has an int at that field -/
def xm_isInt (tp : List xm_E) (ci kf : Nat) : Prop := ∃ (p : Nat) (fk : List (Option Nat)), tp[p]? = some (.inr (ci, fk)) ∧ fk[kf]? = some none
theorem xm_int_at {tp : List xm_E} {ci kf p : Nat} {fk : List (Option Nat)} (h : tp[p]? = some (.inr (ci, fk))) (h2 : fk[kf]? = some none) : xm_isInt tp ci kf := ⟨p, fk, h, h2⟩
/-- how memory, heap and what was written stand to each other -/
def xm_R (D : va_G) (cls : List vw_C) (A : Nat → Prop) (ad dA : Nat → Nat) (tp : List xm_E) (H0 : Heap) (M : xm_M) (cl : Nat) (H : Heap) (locs : List Loc) : Prop := va_P D cls (xm_W ad dA tp M) H ∧ va_S A H0 H locs ∧ (cl = 0 → H = H0 ∧ locs = [])
def xm_J (Wf : Nat → Heap → List Loc → JFrame → Prop) (m : MethodId) (Rl : xm_M → Nat → Heap → List Loc → Prop) (ad : Nat → Nat) (nL : Nat) (pc : Nat) (ls : List (Nat × Value)) (st : List Value) (M : xm_M) (cl : Nat) : Prop :=
  ∀ (H : Heap) (locs : List Loc) (lsC : Array Slot), Rl M cl H locs → lv_has lsC nL (xm_L ad ls) → Wf cl H locs (F0 m pc lsC (st.map (xm_v ad)))
/-- the three array types of a world -/
abbrev xm_tys (dA : Nat → Nat) : List (ClassId × FieldType) := [(dA 0, .int), (dA 1, .boolean), (dA 2, .long)]
def xm_ci (kd idx : Nat) : Jvm.ClassFile.Instr := match kd with
  | 0 => .invokevirtual idx
  | _ => .invokestatic idx
section XM
variable {P : Program} {l : Launch} {e : Env} {R : Room} {s : State} {m : MethodId} {args : Array Value} {below : List Frame} {meth : Method} {c : Code} {cf sf : Nat → Nat} {Q : State → Prop}
variable {cc : ByteArray} {D : va_G} {cls : List vw_C} {A : Nat → Prop} {ad dA : Nat → Nat} {tp : List xm_E} {nL : Nat} {own : String} {Ts : List Cond}
variable {sL : Nat} {sx : Nat → Int32} {pr : xm_P} {fl : List (Nat × Nat × Nat)} {ct : List (Nat × xm_C)} {cn : List (Nat × Int32)} {cj : List (Nat × Int64)} {rt : FieldType} {Qr : Option Value → xm_M → Nat → Prop} {Qt : Nat → Nat → xm_M → Nat → Prop}
/-- the fields that a class's pool names, as its tables have them -/
def xm_okF (own : String) (fl : List (Nat × Nat × Nat)) (cls : List vw_C) (Ts : List Cond) (args : Array Value) (s : State) : Prop := ∀ n ci kf, (n, ci, kf) ∈ fl → ∃ C T N, cls[ci]? = some (C, T, N) ∧ kf < N ∧ (∀ w ∈ u_ws C T N, w ∈ Ts) ∧
  ((Cond.fieldLink own n (T kf).1 (T kf).2.1 (T kf).2.2.1).before args s = true ∨ ∃ host, (Cond.fieldLinkNest own n (T kf).1 (T kf).2.1 (T kf).2.2.1 host).before args s = true)
def xm_okP (fl : List (Nat × Nat × Nat)) (cls : List vw_C) (tp : List xm_E) : Prop := ∀ n ci kf C T N, (n, ci, kf) ∈ fl → cls[ci]? = some (C, T, N) → xm_isInt tp ci kf → ∃ ty0 : Nat → FieldType, (∀ k, k < N → parseFieldDescriptor (T k).2.2.1 = some (ty0 k)) ∧ (∀ a, a < N → ∀ b, b < N → a ≠ b → (T a).2.1 ≠ (T b).2.1) ∧ (T kf).2.2.2 = false ∧ parseFieldDescriptor (T kf).2.2.1 = some .int
/-- what a call's row gives -/
def xm_okC (Wf : Nat → Heap → List Loc → JFrame → Prop) (m : MethodId) (Rl : xm_M → Nat → Heap → List Loc → Prop) (ad : Nat → Nat) (nL : Nat) (cc : ByteArray) (ct : List (Nat × xm_C)) : Prop := ∀ (kd n pc : Nat) (st : List Value) (M : xm_M) (cl : Nat) (tl : xm_P) (ls : List (Nat × Value)) (k : xm_K) (H : Heap) (locs : List Loc) (lsC : Array Slot),
  decode cc pc = .ok (xm_ci kd n, 3) → xm_call ct kd n k tl ls st M cl → Rl M cl H locs → lsC.size = nL →
  (∀ (st2 : List Value) (M2 : xm_M) (cl2 : Nat) (H1 : Heap) (locs1 : List Loc), k tl ls st2 M2 cl2 → Rl M2 cl2 H1 locs1 → Wf cl2 H1 locs1 (F0 m (pc + 3) lsC (st2.map (xm_v ad)))) → Wf cl H locs (F0 m pc lsC (st.map (xm_v ad)))
def xm_okI (Wf : Nat → Heap → List Loc → JFrame → Prop) (m : MethodId) (Rl : xm_M → Nat → Heap → List Loc → Prop) (cc : ByteArray) (rt : FieldType) (Qr : Option Value → xm_M → Nat → Prop) : Prop := ∀ (pc : Nat) (v : Int32) (M : xm_M) (cl : Nat) (H : Heap) (locs : List Loc) (lsC : Array Slot), decode cc pc = .ok (.ireturn, 1) → narrow rt (.int v) = .int v → Qr (some (.int v)) M cl → Rl M cl H locs → Wf cl H locs (F0 m pc lsC [.int v])
def xm_okJ (Wf : Nat → Heap → List Loc → JFrame → Prop) (m : MethodId) (Rl : xm_M → Nat → Heap → List Loc → Prop) (cc : ByteArray) (Qr : Option Value → xm_M → Nat → Prop) : Prop := ∀ (pc : Nat) (v : Int64) (M : xm_M) (cl : Nat) (H : Heap) (locs : List Loc) (lsC : Array Slot), decode cc pc = .ok (.lreturn, 1) → Qr (some (.long v)) M cl → Rl M cl H locs → Wf cl H locs (F0 m pc lsC [.long v])
def xm_okV (Wf : Nat → Heap → List Loc → JFrame → Prop) (m : MethodId) (Rl : xm_M → Nat → Heap → List Loc → Prop) (cc : ByteArray) (Qr : Option Value → xm_M → Nat → Prop) : Prop := ∀ (pc : Nat) (M : xm_M) (cl : Nat) (H : Heap) (locs : List Loc) (lsC : Array Slot), decode cc pc = .ok (.return_, 1) → Qr none M cl → Rl M cl H locs → Wf cl H locs (F0 m pc lsC [])
def xm_okT (Wf : Nat → Heap → List Loc → JFrame → Prop) (m : MethodId) (Rl : xm_M → Nat → Heap → List Loc → Prop) (nL : Nat) (cc : ByteArray) (Qt : Nat → Nat → xm_M → Nat → Prop) : Prop := ∀ (pc n : Nat) (M : xm_M) (cl : Nat) (H : Heap) (locs : List Loc) (lsC : Array Slot), decode cc pc = .ok (.new n, 3) → Qt pc n M cl → Rl M cl H locs → lsC.size = nL → Wf cl H locs (F0 m pc lsC [])
set_option maxHeartbeats 4000000 in
theorem xm_i_sound (hx : P.tables.exec = Jvm.exec) (hb : c.code = cc) (hown : s.vm.findClass own = some m.cls) (hts : ∀ w ∈ Ts, w.before args s = true) (hK : va_K D cls (xm_tys dA) s) (hD : ∀ M, va_D A (xm_W ad dA tp M))
    (hmono : ∀ n, cf n ≤ cf (n + 1) ∧ sf n ≤ sf (n + 1)) (hscr : 0 < sL → (va_X (ad 1000) (sL - 1) sx s s.heap ∧ ad 1000 < s.heap.size ∧ ¬ A (ad 1000)))
    (hcn : ∀ n v, (n, v) ∈ cn → (Jvm.Cond.constant own n v).before args s = true) (hcj : ∀ n v, (n, v) ∈ cj → (Jvm.Cond.constantLong own n v).before args s = true) (hfl : xm_okF own fl cls Ts args s) (hpf : xm_okP fl cls tp)
    (hcall : xm_okC (fun cl H locs g => W P l e R s m args below meth c H locs (cf cl) (sf cl) Q g) m (xm_R D cls A ad dA tp s.heap) ad nL cc ct)
    (hreti : xm_okI (fun cl H locs g => W P l e R s m args below meth c H locs (cf cl) (sf cl) Q g) m (xm_R D cls A ad dA tp s.heap) cc rt Qr)
    (hretj : xm_okJ (fun cl H locs g => W P l e R s m args below meth c H locs (cf cl) (sf cl) Q g) m (xm_R D cls A ad dA tp s.heap) cc Qr)
    (hretv : xm_okV (fun cl H locs g => W P l e R s m args below meth c H locs (cf cl) (sf cl) Q g) m (xm_R D cls A ad dA tp s.heap) cc Qr)
    (hthr : xm_okT (fun cl H locs g => W P l e R s m args below meth c H locs (cf cl) (sf cl) Q g) m (xm_R D cls A ad dA tp s.heap) nL cc Qt)
    {k : xm_K} (hch : xm_ch cc pr)
    (hk : ∀ (z : xm_P), xm_ch cc z → ∀ ls st M cl, k z ls st M cl → ∃ q t, z = q :: t ∧ xm_J (fun cl H locs g => W P l e R s m args below meth c H locs (cf cl) (sf cl) Q g) m (xm_R D cls A ad dA tp s.heap) ad nL q.1 ls st M cl)
    {pc len : Nat} {i : Jvm.ClassFile.Instr} {tl : xm_P} (hdg : decode cc pc = .ok (i, len)) (hlit : xm_lit i = true) (hlen : xm_len i = 0 ∨ len = xm_len i) (htl : ∀ z r, tl = z :: r → z.1 = pc + len) (hct : xm_ch cc tl)
    {ls : List (Nat × Value)} {st : List Value} {M : xm_M} {cl : Nat} (h : xm_i sL sx pr fl ct cn cj tp rt nL Qr Qt k pc i tl ls st M cl) :
    xm_J (fun cl H locs g => W P l e R s m args below meth c H locs (cf cl) (sf cl) Q g) m (xm_R D cls A ad dA tp s.heap) ad nL pc ls st M cl := by
  have kt : ∀ {ls : List (Nat × Value)} {st : List Value} {M : xm_M} {cl : Nat}, k tl ls st M cl → xm_J (fun cl H locs g => W P l e R s m args below meth c H locs (cf cl) (sf cl) Q g) m (xm_R D cls A ad dA tp s.heap) ad nL (pc + len) ls st M cl := by
    intro ls st M cl h
    obtain ⟨q, t, e1, h⟩ := hk tl hct ls st M cl h
    rw [htl q t e1] at h
    exact h
  have kj : ∀ {off : Int}, 0 ≤ (pc : Int) + off → ∀ {ls : List (Nat × Value)} {st : List Value} {M : xm_M} {cl : Nat}, k (xm_tg pr pc off) ls st M cl → xm_J (fun cl H locs g => W P l e R s m args below meth c H locs (cf cl) (sf cl) Q g) m (xm_R D cls A ad dA tp s.heap) ad nL ((pc : Int) + off).toNat ls st M cl := by
    intro off _ ls st M cl h
    obtain ⟨q, t, e1, h⟩ := hk _ (xm_at_ch _ hch) ls st M cl h
    rw [xm_at_hd e1] at h
    exact h
  have htys0 : (xm_tys dA)[0]? = some (dA 0, FieldType.int) := rfl
  have htys1 : (xm_tys dA)[1]? = some (dA 1, FieldType.boolean) := rfl
  have htys2 : (xm_tys dA)[2]? = some (dA 2, FieldType.long) := rfl
  have htysA : ∀ t, t < 3 → ∃ ty, (xm_tys dA)[t]? = some (dA t, ty) := by
    intro t ht
    match t, ht with
    | 0, _ => exact ⟨_, rfl⟩
    | 1, _ => exact ⟨_, rfl⟩
    | 2, _ => exact ⟨_, rfl⟩
  intro H locs lsC hR hl
  show W P l e R s m args below meth c H locs (cf cl) (sf cl) Q (F0 m pc lsC (st.map (xm_v ad)))
  cases i with
  | iconst n =>
    obtain rfl : len = 1 := hlen.resolve_left (show ¬ (1 : Nat) = 0 from by decide)
    exact lv_iconst hx hb hdg rfl (kt h H locs lsC hR hl)
  | bipush n =>
    obtain rfl : len = 2 := hlen.resolve_left (show ¬ (2 : Nat) = 0 from by decide)
    exact lv_bipush hx hb hdg (of_decide_eq_true hlit) (kt h H locs lsC hR hl)
  | sipush n =>
    obtain rfl : len = 3 := hlen.resolve_left (show ¬ (3 : Nat) = 0 from by decide)
    exact lv_sipush hx hb hdg (of_decide_eq_true hlit) (kt h H locs lsC hR hl)
  | ldc n =>
    obtain rfl : len = 2 := hlen.resolve_left (show ¬ (2 : Nat) = 0 from by decide)
    obtain ⟨v, e1, h⟩ := xm_op_of h
    exact lv_ldc hx hb hown (hcn n v (xm_lk_mem e1)) hdg (kt h H locs lsC hR hl)
  | ldc_w n =>
    obtain rfl : len = 3 := hlen.resolve_left (show ¬ (3 : Nat) = 0 from by decide)
    obtain ⟨v, e1, h⟩ := xm_op_of h
    exact lv_ldcw hx hb hown (hcn n v (xm_lk_mem e1)) hdg (kt h H locs lsC hR hl)
  | iload n =>
    obtain rfl : len = 2 := hlen.resolve_left (show ¬ (2 : Nat) = 0 from by decide)
    obtain ⟨x, e1, h⟩ := xm_li_of h
    exact lv_iload hx hb hdg (xm_in hl e1) (kt h H locs lsC hR hl)
  | iload_n n =>
    obtain rfl : len = 1 := hlen.resolve_left (show ¬ (1 : Nat) = 0 from by decide)
    obtain ⟨x, e1, h⟩ := xm_li_of h
    exact lv_iload_n hx hb hdg rfl (xm_in hl e1) (kt h H locs lsC hR hl)
  | aload n =>
    obtain rfl : len = 2 := hlen.resolve_left (show ¬ (2 : Nat) = 0 from by decide)
    obtain ⟨x, e1, h⟩ := xm_la_of h
    exact lv_aload hx hb hdg (xm_in hl e1) (kt h H locs lsC hR hl)
  | aload_n n =>
    obtain rfl : len = 1 := hlen.resolve_left (show ¬ (1 : Nat) = 0 from by decide)
    obtain ⟨x, e1, h⟩ := xm_la_of h
    exact lv_aload_n hx hb hdg rfl (xm_in hl e1) (kt h H locs lsC hR hl)
  | istore n =>
    obtain rfl : len = 2 := hlen.resolve_left (show ¬ (2 : Nat) = 0 from by decide)
    obtain ⟨hn, h⟩ := h
    obtain ⟨x, r, rfl, h⟩ := xm_p1_of h
    exact lv_istore hx hb hdg hl hn (by rw [xm_rm_L]; rfl) (fun ls2 hl2 => kt h H locs ls2 hR hl2)
  | istore_n n =>
    obtain rfl : len = 1 := hlen.resolve_left (show ¬ (1 : Nat) = 0 from by decide)
    obtain ⟨hn, h⟩ := h
    obtain ⟨x, r, rfl, h⟩ := xm_p1_of h
    exact lv_istore_n hx hb hdg rfl hl hn (by rw [xm_rm_L]; rfl) (fun ls2 hl2 => kt h H locs ls2 hR hl2)
  | astore n =>
    obtain rfl : len = 2 := hlen.resolve_left (show ¬ (2 : Nat) = 0 from by decide)
    obtain ⟨hn, h⟩ := h
    obtain ⟨x, r, rfl, h⟩ := xm_pA_of h
    exact lv_astore hx hb hdg hl hn (by rw [xm_rm_L]; rfl) (fun ls2 hl2 => kt h H locs ls2 hR hl2)
  | astore_n n =>
    obtain rfl : len = 1 := hlen.resolve_left (show ¬ (1 : Nat) = 0 from by decide)
    obtain ⟨hn, h⟩ := h
    obtain ⟨x, r, rfl, h⟩ := xm_pA_of h
    exact lv_astore_n hx hb hdg rfl hl hn (by rw [xm_rm_L]; rfl) (fun ls2 hl2 => kt h H locs ls2 hR hl2)
  | iinc n d =>
    obtain rfl : len = 3 := hlen.resolve_left (show ¬ (3 : Nat) = 0 from by decide)
    obtain ⟨hn, h⟩ := h
    obtain ⟨x, e1, h⟩ := xm_li_of h
    obtain ⟨j, hj⟩ := List.getElem?_of_mem (xm_inL (ad := ad) e1)
    exact lv_iinc (k := j) hx hb hdg hl hj rfl hn (by rw [xm_rm_L]; rfl) (fun ls2 hl2 => kt h H locs ls2 hR hl2)
  | iadd =>
    obtain rfl : len = 1 := hlen.resolve_left (show ¬ (1 : Nat) = 0 from by decide)
    obtain ⟨y, x, r, rfl, h⟩ := xm_p2_of h
    exact lv_iadd hx hb hdg (kt h H locs lsC hR hl)
  | isub =>
    obtain rfl : len = 1 := hlen.resolve_left (show ¬ (1 : Nat) = 0 from by decide)
    obtain ⟨y, x, r, rfl, h⟩ := xm_p2_of h
    exact lv_isub hx hb hdg (kt h H locs lsC hR hl)
  | imul =>
    obtain rfl : len = 1 := hlen.resolve_left (show ¬ (1 : Nat) = 0 from by decide)
    obtain ⟨y, x, r, rfl, h⟩ := xm_p2_of h
    exact lv_imul hx hb hdg (kt h H locs lsC hR hl)
  | iand =>
    obtain rfl : len = 1 := hlen.resolve_left (show ¬ (1 : Nat) = 0 from by decide)
    obtain ⟨y, x, r, rfl, h⟩ := xm_p2_of h
    exact lv_iand hx hb hdg (kt h H locs lsC hR hl)
  | ior =>
    obtain rfl : len = 1 := hlen.resolve_left (show ¬ (1 : Nat) = 0 from by decide)
    obtain ⟨y, x, r, rfl, h⟩ := xm_p2_of h
    exact lv_ior hx hb hdg (kt h H locs lsC hR hl)
  | ixor =>
    obtain rfl : len = 1 := hlen.resolve_left (show ¬ (1 : Nat) = 0 from by decide)
    obtain ⟨y, x, r, rfl, h⟩ := xm_p2_of h
    exact lv_ixor hx hb hdg (kt h H locs lsC hR hl)
  | ishl =>
    obtain rfl : len = 1 := hlen.resolve_left (show ¬ (1 : Nat) = 0 from by decide)
    obtain ⟨y, x, r, rfl, h⟩ := xm_p2_of h
    exact lv_ishl hx hb hdg (kt h H locs lsC hR hl)
  | ishr =>
    obtain rfl : len = 1 := hlen.resolve_left (show ¬ (1 : Nat) = 0 from by decide)
    obtain ⟨y, x, r, rfl, h⟩ := xm_p2_of h
    exact lv_ishr hx hb hdg (kt h H locs lsC hR hl)
  | iushr =>
    obtain rfl : len = 1 := hlen.resolve_left (show ¬ (1 : Nat) = 0 from by decide)
    obtain ⟨y, x, r, rfl, h⟩ := xm_p2_of h
    exact lv_iushr hx hb hdg rfl (kt h H locs lsC hR hl)
  | idiv =>
    obtain rfl : len = 1 := hlen.resolve_left (show ¬ (1 : Nat) = 0 from by decide)
    obtain ⟨y, x, r, rfl, hne, h⟩ := xm_p2_of h
    exact lv_idiv hx hb hdg hne (kt h H locs lsC hR hl)
  | irem =>
    obtain rfl : len = 1 := hlen.resolve_left (show ¬ (1 : Nat) = 0 from by decide)
    obtain ⟨y, x, r, rfl, hne, h⟩ := xm_p2_of h
    exact lv_irem hx hb hdg hne (kt h H locs lsC hR hl)
  | ineg =>
    obtain rfl : len = 1 := hlen.resolve_left (show ¬ (1 : Nat) = 0 from by decide)
    obtain ⟨x, r, rfl, h⟩ := xm_p1_of h
    exact lv_ineg hx hb hdg (kt h H locs lsC hR hl)
  | dup =>
    obtain rfl : len = 1 := hlen.resolve_left (show ¬ (1 : Nat) = 0 from by decide)
    obtain ⟨v, r, rfl, hv, h⟩ := xm_hd_of h
    exact lv_dup hx hb hdg ((xm_cat ad v).trans hv) (kt h H locs lsC hR hl)
  | pop =>
    obtain rfl : len = 1 := hlen.resolve_left (show ¬ (1 : Nat) = 0 from by decide)
    obtain ⟨v, r, rfl, hv, h⟩ := xm_hd_of h
    exact lv_pop hx hb hdg ((xm_cat ad v).trans hv) (kt h H locs lsC hR hl)
  | dup2 =>
    obtain rfl : len = 1 := hlen.resolve_left (show ¬ (1 : Nat) = 0 from by decide)
    obtain ⟨x, p, r, rfl, h⟩ := xm_pIA_of h
    exact lv_dup2_11 hx hb hdg rfl rfl (kt h H locs lsC hR hl)
  | dup_x1 =>
    obtain rfl : len = 1 := hlen.resolve_left (show ¬ (1 : Nat) = 0 from by decide)
    obtain ⟨x, p, r, rfl, h⟩ := xm_pIA_of h
    exact lv_dup_x1 hx hb hdg rfl rfl (kt h H locs lsC hR hl)
  | dup_x2 =>
    obtain rfl : len = 1 := hlen.resolve_left (show ¬ (1 : Nat) = 0 from by decide)
    obtain ⟨x, z, p, r, rfl, h⟩ := xm_pIIA_of h
    exact lv_dup_x2 hx hb hdg rfl rfl rfl (kt h H locs lsC hR hl)
  | goto off =>
    obtain rfl : len = 3 := hlen.resolve_left (show ¬ (3 : Nat) = 0 from by decide)
    obtain ⟨h0, h⟩ := h
    exact lv_goto hx hb hdg (Int.toNat_of_nonneg h0).symm (kj h0 h H locs lsC hR hl)
  | getfield n =>
    obtain rfl : len = 3 := hlen.resolve_left (show ¬ (3 : Nat) = 0 from by decide)
    obtain ⟨⟨ci, kf⟩, e1, h⟩ := xm_op_of h
    obtain ⟨p, r, rfl, h⟩ := xm_pA_of h
    obtain ⟨C, T, N, hc, hk, hin, hlk⟩ := hfl n ci kf (xm_lk_mem e1)
    obtain ⟨fk, o, e2, e3, h⟩ := xm_get_of h
    have hv : (fk.mapIdx (xm_f ad M p))[kf]? = some (xm_f ad M p kf o) := by simp [List.getElem?_mapIdx, e3]
    cases o with
    | some q => rcases hlk with hlk | ⟨host, hlk⟩
                · exact va_get hx hb hts hin hown hK hR.1 p (xm_W_at e2) hc kf hk hlk (fun _ z => z) hv hdg (kt h H locs lsC hR hl)
                · exact va_getN hx hb hts hin hown hK hR.1 p (xm_W_at e2) hc kf hk hlk (fun _ z => z) hv hdg (kt h H locs lsC hR hl)
    | none => rcases hlk with hlk | ⟨host, hlk⟩
              · exact va_get hx hb hts hin hown hK hR.1 p (xm_W_at e2) hc kf hk hlk (fun _ z => z) hv hdg (kt h H locs lsC hR hl)
              · exact va_getN hx hb hts hin hown hK hR.1 p (xm_W_at e2) hc kf hk hlk (fun _ z => z) hv hdg (kt h H locs lsC hR hl)
  | putfield n =>
    obtain rfl : len = 3 := hlen.resolve_left (show ¬ (3 : Nat) = 0 from by decide)
    obtain ⟨⟨ci, kf⟩, e1, h⟩ := xm_op_of h
    obtain ⟨x, p, r, rfl, h⟩ := xm_pIA_of h
    obtain ⟨C, T, N, hc, hk, hin, hlk⟩ := hfl n ci kf (xm_lk_mem e1)
    obtain ⟨fk, e2, e3, h⟩ := xm_put_of h
    obtain ⟨ty0, hty, hnm, hfin, hd⟩ := hpf n ci kf C T N (xm_lk_mem e1) hc (xm_int_at e2 e3)
    have hlen : kf < (fk.mapIdx (xm_f ad M p)).length := by
      rw [List.length_mapIdx]; exact (List.getElem?_eq_some_iff.mp e3).1
    have hset : (xm_W ad dA tp M).set p (ad p, .inr (ci, (fk.mapIdx (xm_f ad M p)).set kf (.int x))) = xm_W ad dA tp (xm_up M p kf x) := by
      rw [← xm_e_O (dA := dA) e3]; exact xm_W_set e2
    have kk : ∀ (H1 : Heap) (locs1 : List Loc), va_P D cls ((xm_W ad dA tp M).set p (ad p, .inr (ci, (fk.mapIdx (xm_f ad M p)).set kf (.int x)))) H1 → va_D A ((xm_W ad dA tp M).set p (ad p, .inr (ci, (fk.mapIdx (xm_f ad M p)).set kf (.int x)))) → va_S A s.heap H1 locs1 → W P l e R s m args below meth c H1 locs1 (cf cl) (sf cl) Q (F0 m (pc + 3) lsC (r.map (xm_v ad))) := by
      intro H1 locs1 a1 _ a3
      rw [hset] at a1
      exact W.widen (hmono cl).1 (hmono cl).2 (kt h H1 locs1 lsC ⟨a1, a3, fun z => by cases z⟩ hl)
    rcases hlk with hlk | ⟨host, hlk⟩
    · exact va_put hx hb hts hin ty0 hty hnm hown hK hR.1 (hD M) hR.2.1 p (xm_W_at e2) hc kf hk hlk (fun _ z => z) hfin hd rfl rfl hlen hdg kk
    · exact va_putN hx hb hts hin ty0 hty hnm hown hK hR.1 (hD M) hR.2.1 p (xm_W_at e2) hc kf hk hlk (fun _ z => z) hfin hd rfl rfl hlen hdg kk
  | iaload =>
    obtain rfl : len = 1 := hlen.resolve_left (show ¬ (1 : Nat) = 0 from by decide)
    obtain ⟨j, p, r, rfl, h⟩ := xm_pIA_of h
    rcases xm_ld_of h with ⟨n, e2, hin, h2⟩ | ⟨e2, e3, e4, hin, h2⟩
    · exact va_iald hx hb hK hR.1 p 0 (xm_W_at e2) htys0 hin hdg (kt h2 H locs lsC hR hl)
    · subst e2; exact va_sld hx hb (hscr e4).1 (hscr e4).2.1 (hscr e4).2.2 hR.2.1 hin hdg (kt h2 H locs lsC hR hl)
  | baload =>
    obtain rfl : len = 1 := hlen.resolve_left (show ¬ (1 : Nat) = 0 from by decide)
    obtain ⟨j, p, r, rfl, h⟩ := xm_pIA_of h
    rcases xm_ld_of h with ⟨n, e2, hin, h2⟩ | ⟨e2, e3, e4, hin, h2⟩
    · exact va_zald hx hb hK hR.1 p 1 (xm_W_at e2) htys1 hin hdg (kt h2 H locs lsC hR hl)
    · cases e3
  | iastore =>
    obtain rfl : len = 1 := hlen.resolve_left (show ¬ (1 : Nat) = 0 from by decide)
    obtain ⟨x, j, p, r, rfl, h⟩ := xm_pIIA_of h
    obtain ⟨n, e2, hin, h⟩ := xm_st_of h
    refine va_iast hx hb hK hR.1 (hD M) hR.2.1 p 0 (xm_W_at e2) htys0 hin hdg (fun H1 locs1 a1 _ a3 => ?_)
    skip
    rw [← xm_e_A (ad := ad), xm_W_set e2] at a1
    exact W.widen (hmono cl).1 (hmono cl).2 (kt h H1 locs1 lsC ⟨a1, a3, fun z => by cases z⟩ hl)
  | bastore =>
    obtain rfl : len = 1 := hlen.resolve_left (show ¬ (1 : Nat) = 0 from by decide)
    obtain ⟨x, j, p, r, rfl, hz, h⟩ := xm_pIIA_of h
    obtain ⟨n, e2, hin, h⟩ := xm_st_of h
    refine va_zast hx hb hK hR.1 (hD M) hR.2.1 p 1 (xm_W_at e2) htys1 hin hdg (fun H1 locs1 a1 _ a3 => ?_)
    rw [hz] at a1
    rw [← xm_e_A (ad := ad), xm_W_set e2] at a1
    exact W.widen (hmono cl).1 (hmono cl).2 (kt h H1 locs1 lsC ⟨a1, a3, fun z => by cases z⟩ hl)
  | laload =>
    obtain rfl : len = 1 := hlen.resolve_left (show ¬ (1 : Nat) = 0 from by decide)
    obtain ⟨j, p, r, rfl, h⟩ := xm_pIA_of h
    obtain ⟨n, e2, hin, h⟩ := xm_ldJ_of h
    exact va_lald hx hb hK hR.1 p 2 (xm_W_at e2) htys2 hin hdg (kt h H locs lsC hR hl)
  | lastore =>
    obtain rfl : len = 1 := hlen.resolve_left (show ¬ (1 : Nat) = 0 from by decide)
    obtain ⟨x, j, p, r, rfl, h⟩ := xm_pJIA_of h
    obtain ⟨n, y, e2, rfl, hin, h⟩ := xm_stJ_of h
    refine va_last hx hb hK hR.1 (hD M) hR.2.1 p 2 (xm_W_at e2) htys2 hin hdg (fun H1 locs1 a1 _ a3 => ?_)
    rw [← xm_e_L (ad := ad), xm_W_set e2] at a1
    exact W.widen (hmono cl).1 (hmono cl).2 (kt h H1 locs1 lsC ⟨a1, a3, fun z => by cases z⟩ hl)
  | i2l =>
    obtain rfl : len = 1 := hlen.resolve_left (show ¬ (1 : Nat) = 0 from by decide)
    obtain ⟨x, r, rfl, h⟩ := xm_p1_of h
    exact lv_i2l hx hb hdg rfl (kt h H locs lsC hR hl)
  | arraylength =>
    obtain rfl : len = 1 := hlen.resolve_left (show ¬ (1 : Nat) = 0 from by decide)
    obtain ⟨p, r, rfl, h⟩ := xm_pA_of h
    rcases xm_al_of h with ⟨t, n, b, e2, ht, h2⟩ | ⟨e2, e4, h2⟩
    rotate_left
    · subst e2; exact va_slen hx hb (hscr e4).1 (hscr e4).2.1 (hscr e4).2.2 hR.2.1 hdg (kt h2 H locs lsC hR hl)
    obtain ⟨ty, hty⟩ := htysA t ht
    cases b with
    | false => exact va_alen hx hb hK hR.1 p t (x := (n, .inl (M p))) (xm_W_at e2) hty rfl hdg (kt h2 H locs lsC hR hl)
    | true => exact va_alen hx hb hK hR.1 p t (x := (n, .inr (.inl (fun i => (M p i).toInt64)))) (xm_W_at e2) hty rfl hdg (kt h2 H locs lsC hR hl)
  | invokevirtual n =>
    obtain rfl : len = 3 := hlen.resolve_left (show ¬ (3 : Nat) = 0 from by decide)
    exact hcall 0 n pc st M cl tl ls k H locs lsC hdg h hR hl.1 (fun st2 M2 cl2 H1 locs1 h2 hR2 => kt h2 H1 locs1 lsC hR2 hl)
  | invokestatic n =>
    obtain rfl : len = 3 := hlen.resolve_left (show ¬ (3 : Nat) = 0 from by decide)
    exact hcall 1 n pc st M cl tl ls k H locs lsC hdg h hR hl.1 (fun st2 M2 cl2 H1 locs1 h2 hR2 => kt h2 H1 locs1 lsC hR2 hl)
  | ireturn =>
    obtain rfl : len = 1 := hlen.resolve_left (show ¬ (1 : Nat) = 0 from by decide)
    obtain ⟨v, rfl, hn, h⟩ := xm_one_of h
    exact hreti pc v M cl H locs lsC hdg hn h hR
  | return_ =>
    obtain rfl : len = 1 := hlen.resolve_left (show ¬ (1 : Nat) = 0 from by decide)
    obtain ⟨rfl, h⟩ := xm_nil_of h
    exact hretv pc M cl H locs lsC hdg h hR
  | new n =>
    obtain rfl : len = 3 := hlen.resolve_left (show ¬ (3 : Nat) = 0 from by decide)
    obtain ⟨rfl, h⟩ := xm_nil_of h
    exact hthr pc n M cl H locs lsC hdg h hR hl.1
  | tableswitch d lo hi offs =>
    obtain ⟨x, r, rfl, h1, h3, h4⟩ := xm_p1_of h
    by_cases hx1 : x.toInt < lo ∨ hi < x.toInt
    · obtain ⟨h0, h⟩ := h1 hx1
      exact lv_tableOut hx hb hdg hx1 (Int.toNat_of_nonneg h0).symm (kj h0 h H locs lsC hR hl)
    · have hlo : ¬ x.toInt < lo := fun z => hx1 (Or.inl z)
      have hhi : ¬ hi < x.toInt := fun z => hx1 (Or.inr z)
      obtain ⟨o, ho, h0, h⟩ := xm_tb_of h4 (x.toInt - lo).toNat (by rw [Array.length_toList]; omega) (by omega)
      exact lv_tableIn hx hb hdg hlo hhi (by rw [← Array.getElem?_toList]; exact ho) (Int.toNat_of_nonneg h0).symm (kj h0 h H locs lsC hR hl)
  | lookupswitch d ps =>
    obtain ⟨x, r, rfl, h1, h2⟩ := xm_p1_of h
    obtain ⟨h0, h⟩ := xm_lp_of h2
    exact lv_lookup hx hb hdg h1 rfl (Int.toNat_of_nonneg h0).symm (kj h0 h H locs lsC hR hl)
  | lconst n =>
    obtain rfl : len = 1 := hlen.resolve_left (show ¬ (1 : Nat) = 0 from by decide)
    exact lv_lconst hx hb hdg rfl (kt h H locs lsC hR hl)
  | ldc2_w n =>
    obtain rfl : len = 3 := hlen.resolve_left (show ¬ (3 : Nat) = 0 from by decide)
    obtain ⟨v, e1, h⟩ := xm_op_of h
    exact lv_ldc2 hx hb hown (hcj n v (xm_lk_mem e1)) hdg (kt h H locs lsC hR hl)
  | lload n =>
    obtain rfl : len = 2 := hlen.resolve_left (show ¬ (2 : Nat) = 0 from by decide)
    obtain ⟨x, e1, h⟩ := xm_ll_of h
    exact lv_lload hx hb hdg (xm_in hl e1) (kt h H locs lsC hR hl)
  | lload_n n =>
    obtain rfl : len = 1 := hlen.resolve_left (show ¬ (1 : Nat) = 0 from by decide)
    obtain ⟨x, e1, h⟩ := xm_ll_of h
    exact lv_lload_n hx hb hdg rfl (xm_in hl e1) (kt h H locs lsC hR hl)
  | lstore n =>
    obtain rfl : len = 2 := hlen.resolve_left (show ¬ (2 : Nat) = 0 from by decide)
    obtain ⟨hn, h⟩ := h
    obtain ⟨x, r, rfl, h⟩ := xm_pJ_of h
    exact lv_lstore hx hb hdg hl hn (by rw [xm_rm2_L]; rfl) (fun ls2 hl2 => kt h H locs ls2 hR hl2)
  | lstore_n n =>
    obtain rfl : len = 1 := hlen.resolve_left (show ¬ (1 : Nat) = 0 from by decide)
    obtain ⟨hn, h⟩ := h
    obtain ⟨x, r, rfl, h⟩ := xm_pJ_of h
    exact lv_lstore_n hx hb hdg rfl hl hn (by rw [xm_rm2_L]; rfl) (fun ls2 hl2 => kt h H locs ls2 hR hl2)
  | ladd =>
    obtain rfl : len = 1 := hlen.resolve_left (show ¬ (1 : Nat) = 0 from by decide)
    obtain ⟨y, x, r, rfl, h⟩ := xm_pJJ_of h
    exact lv_ladd hx hb hdg (kt h H locs lsC hR hl)
  | lsub =>
    obtain rfl : len = 1 := hlen.resolve_left (show ¬ (1 : Nat) = 0 from by decide)
    obtain ⟨y, x, r, rfl, h⟩ := xm_pJJ_of h
    exact lv_lsub hx hb hdg (kt h H locs lsC hR hl)
  | lmul =>
    obtain rfl : len = 1 := hlen.resolve_left (show ¬ (1 : Nat) = 0 from by decide)
    obtain ⟨y, x, r, rfl, h⟩ := xm_pJJ_of h
    exact lv_lmul hx hb hdg (kt h H locs lsC hR hl)
  | ldiv =>
    obtain rfl : len = 1 := hlen.resolve_left (show ¬ (1 : Nat) = 0 from by decide)
    obtain ⟨y, x, r, rfl, hne, h⟩ := xm_pJJ_of h
    exact lv_ldiv hx hb hdg hne (kt h H locs lsC hR hl)
  | lrem =>
    obtain rfl : len = 1 := hlen.resolve_left (show ¬ (1 : Nat) = 0 from by decide)
    obtain ⟨y, x, r, rfl, hne, h⟩ := xm_pJJ_of h
    exact lv_lrem hx hb hdg hne (kt h H locs lsC hR hl)
  | lneg =>
    obtain rfl : len = 1 := hlen.resolve_left (show ¬ (1 : Nat) = 0 from by decide)
    obtain ⟨x, r, rfl, h⟩ := xm_pJ_of h
    exact lv_lneg hx hb hdg (kt h H locs lsC hR hl)
  | lcmp =>
    obtain rfl : len = 1 := hlen.resolve_left (show ¬ (1 : Nat) = 0 from by decide)
    obtain ⟨y, x, r, rfl, h⟩ := xm_pJJ_of h
    exact W.lcmp hx hb hdg (kt h H locs lsC hR hl)
  | l2i =>
    obtain rfl : len = 1 := hlen.resolve_left (show ¬ (1 : Nat) = 0 from by decide)
    obtain ⟨x, r, rfl, h⟩ := xm_pJ_of h
    exact lv_l2i hx hb hdg rfl (kt h H locs lsC hR hl)
  | lreturn =>
    obtain rfl : len = 1 := hlen.resolve_left (show ¬ (1 : Nat) = 0 from by decide)
    obtain ⟨v, rfl, h⟩ := xm_oneJ_of h
    exact hretj pc v M cl H locs lsC hdg h hR
  | ifCond cd off =>
    obtain rfl : len = 3 := hlen.resolve_left (show ¬ (3 : Nat) = 0 from by decide)
    cases cd with
    | eq =>
      obtain ⟨h0, h⟩ := h
      obtain ⟨x, r, rfl, h1, h2⟩ := xm_p1_of h
      exact lv_if_eq hx hb hdg (Int.toNat_of_nonneg h0).symm (fun q => kj h0 (h1 q) H locs lsC hR hl) (fun q => kt (h2 q) H locs lsC hR hl)
    | ne =>
      obtain ⟨h0, h⟩ := h
      obtain ⟨x, r, rfl, h1, h2⟩ := xm_p1_of h
      exact lv_if_ne hx hb hdg (Int.toNat_of_nonneg h0).symm (fun q => kj h0 (h1 q) H locs lsC hR hl) (fun q => kt (h2 q) H locs lsC hR hl)
    | lt =>
      obtain ⟨h0, h⟩ := h
      obtain ⟨x, r, rfl, h1, h2⟩ := xm_p1_of h
      exact lv_if_lt hx hb hdg (Int.toNat_of_nonneg h0).symm (fun q => kj h0 (h1 q) H locs lsC hR hl) (fun q => kt (h2 q) H locs lsC hR hl)
    | ge =>
      obtain ⟨h0, h⟩ := h
      obtain ⟨x, r, rfl, h1, h2⟩ := xm_p1_of h
      exact lv_if_ge hx hb hdg (Int.toNat_of_nonneg h0).symm (fun q => kj h0 (h1 q) H locs lsC hR hl) (fun q => kt (h2 q) H locs lsC hR hl)
    | gt =>
      obtain ⟨h0, h⟩ := h
      obtain ⟨x, r, rfl, h1, h2⟩ := xm_p1_of h
      exact lv_if_gt hx hb hdg (Int.toNat_of_nonneg h0).symm (fun q => kj h0 (h1 q) H locs lsC hR hl) (fun q => kt (h2 q) H locs lsC hR hl)
    | le =>
      obtain ⟨h0, h⟩ := h
      obtain ⟨x, r, rfl, h1, h2⟩ := xm_p1_of h
      exact lv_if_le hx hb hdg (Int.toNat_of_nonneg h0).symm (fun q => kj h0 (h1 q) H locs lsC hR hl) (fun q => kt (h2 q) H locs lsC hR hl)
  | if_icmp cd off =>
    obtain rfl : len = 3 := hlen.resolve_left (show ¬ (3 : Nat) = 0 from by decide)
    cases cd with
    | eq =>
      obtain ⟨h0, h⟩ := h
      obtain ⟨y, x, r, rfl, h1, h2⟩ := xm_p2_of h
      exact lv_icmp_eq hx hb hdg (Int.toNat_of_nonneg h0).symm (fun q => kj h0 (h1 q) H locs lsC hR hl) (fun q => kt (h2 q) H locs lsC hR hl)
    | ne =>
      obtain ⟨h0, h⟩ := h
      obtain ⟨y, x, r, rfl, h1, h2⟩ := xm_p2_of h
      exact lv_icmp_ne hx hb hdg (Int.toNat_of_nonneg h0).symm (fun q => kj h0 (h1 q) H locs lsC hR hl) (fun q => kt (h2 q) H locs lsC hR hl)
    | lt =>
      obtain ⟨h0, h⟩ := h
      obtain ⟨y, x, r, rfl, h1, h2⟩ := xm_p2_of h
      exact lv_icmp_lt hx hb hdg (Int.toNat_of_nonneg h0).symm (fun q => kj h0 (h1 q) H locs lsC hR hl) (fun q => kt (h2 q) H locs lsC hR hl)
    | ge =>
      obtain ⟨h0, h⟩ := h
      obtain ⟨y, x, r, rfl, h1, h2⟩ := xm_p2_of h
      exact lv_icmp_ge hx hb hdg (Int.toNat_of_nonneg h0).symm (fun q => kj h0 (h1 q) H locs lsC hR hl) (fun q => kt (h2 q) H locs lsC hR hl)
    | gt =>
      obtain ⟨h0, h⟩ := h
      obtain ⟨y, x, r, rfl, h1, h2⟩ := xm_p2_of h
      exact lv_icmp_gt hx hb hdg (Int.toNat_of_nonneg h0).symm (fun q => kj h0 (h1 q) H locs lsC hR hl) (fun q => kt (h2 q) H locs lsC hR hl)
    | le =>
      obtain ⟨h0, h⟩ := h
      obtain ⟨y, x, r, rfl, h1, h2⟩ := xm_p2_of h
      exact lv_icmp_le hx hb hdg (Int.toNat_of_nonneg h0).symm (fun q => kj h0 (h1 q) H locs lsC hR hl) (fun q => kt (h2 q) H locs lsC hR hl)
  | _ => exact False.elim h
/-- what holds where the walk begins, and at its cuts, holds of the machine -/
theorem xm_sound (hx : P.tables.exec = Jvm.exec) (hb : c.code = cc) (hown : s.vm.findClass own = some m.cls) (hts : ∀ w ∈ Ts, w.before args s = true) (hK : va_K D cls (xm_tys dA) s) (hD : ∀ M, va_D A (xm_W ad dA tp M))
    (hmono : ∀ n, cf n ≤ cf (n + 1) ∧ sf n ≤ sf (n + 1)) (hscr : 0 < sL → (va_X (ad 1000) (sL - 1) sx s s.heap ∧ ad 1000 < s.heap.size ∧ ¬ A (ad 1000)))
    (hcn : ∀ n v, (n, v) ∈ cn → (Jvm.Cond.constant own n v).before args s = true) (hcj : ∀ n v, (n, v) ∈ cj → (Jvm.Cond.constantLong own n v).before args s = true) (hfl : xm_okF own fl cls Ts args s) (hpf : xm_okP fl cls tp)
    (hcall : xm_okC (fun cl H locs g => W P l e R s m args below meth c H locs (cf cl) (sf cl) Q g) m (xm_R D cls A ad dA tp s.heap) ad nL cc ct)
    (hreti : xm_okI (fun cl H locs g => W P l e R s m args below meth c H locs (cf cl) (sf cl) Q g) m (xm_R D cls A ad dA tp s.heap) cc rt Qr)
    (hretj : xm_okJ (fun cl H locs g => W P l e R s m args below meth c H locs (cf cl) (sf cl) Q g) m (xm_R D cls A ad dA tp s.heap) cc Qr)
    (hretv : xm_okV (fun cl H locs g => W P l e R s m args below meth c H locs (cf cl) (sf cl) Q g) m (xm_R D cls A ad dA tp s.heap) cc Qr)
    (hthr : xm_okT (fun cl H locs g => W P l e R s m args below meth c H locs (cf cl) (sf cl) Q g) m (xm_R D cls A ad dA tp s.heap) nL cc Qt)
    (hch : xm_ch cc pr) {K : Nat → List (Nat × Value) → List Value → xm_M → Nat → Prop}
    (hcut : ∀ pc ls st M cl, K pc ls st M cl → xm_J (fun cl H locs g => W P l e R s m args below meth c H locs (cf cl) (sf cl) Q g) m (xm_R D cls A ad dA tp s.heap) ad nL pc ls st M cl) :
    ∀ (n : Nat) (b : Bool) (z : xm_P), xm_ch cc z → ∀ ls st M cl, xm_w sL sx pr fl ct cn cj tp rt nL Qr Qt K n b z ls st M cl → ∃ q t, z = q :: t ∧ xm_J (fun cl H locs g => W P l e R s m args below meth c H locs (cf cl) (sf cl) Q g) m (xm_R D cls A ad dA tp s.heap) ad nL q.1 ls st M cl := by
  intro n
  induction n with
  | zero => intro b z _ ls st M cl h; cases z <;> exact False.elim h
  | succ n ih =>
    intro b z hz ls st M cl h
    cases z with
    | nil => exact False.elim h
    | cons q tl =>
      refine ⟨q, tl, rfl, ?_⟩
      unfold xm_w at h
      obtain ⟨pc0, i0, n0, o0⟩ := q
      cases b with
      | true =>
        cases o0 with
        | some lv => exact fun H locs lsC hR hl => hcut _ _ _ _ _ h H locs lsC hR (xm_lv_has hl)
        | none => exact xm_i_sound hx hb hown hts hK hD hmono hscr hcn hcj hfl hpf hcall hreti hretj hretv hthr hch (fun z2 hz2 ls2 st2 M2 cl2 h2 => ih true z2 hz2 ls2 st2 M2 cl2 h2) hz.1.1 hz.1.2 hz.2.1 hz.2.2.1 hz.2.2.2 h
      | false =>
        exact xm_i_sound hx hb hown hts hK hD hmono hscr hcn hcj hfl hpf hcall hreti hretj hretv hthr hch (fun z2 hz2 ls2 st2 M2 cl2 h2 => ih true z2 hz2 ls2 st2 M2 cl2 h2) hz.1.1 hz.1.2 hz.2.1 hz.2.2.1 hz.2.2.2 h
end XM
