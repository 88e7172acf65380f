/-! NAMES: written by a program out of the Statement: words by their places, class tables, worlds, programs -/
def xt_T : List Cond := lw_tbl.filter goodWord
theorem xt_good : xm_good xt_T := fun w h => good_of_word (List.mem_filter.mp h).2
theorem xt_in {w : Cond} (i : Nat) (h : lw_tbl[i]? = some w) (g : goodWord w = true) : w ∈ xt_T := List.mem_filter.mpr ⟨List.mem_of_getElem? h, g⟩
def xk_R0 : String := "AbsenceRows"
def xk_T0 : u_T := fun k => match k with
  | 0 => ("AbsenceRows", "calendar", "LAbsenceRows$Calendar;", true)
  | 1 => ("AbsenceRows", "persons", "LAbsenceRows$Persons;", true)
  | 2 => ("AbsenceRows", "crews", "LAbsenceRows$Crews;", true)
  | 3 => ("AbsenceRows", "asks", "LAbsenceRows$Asks;", true)
  | 4 => ("AbsenceRows", "heldRows", "LAbsenceRows$HeldRows;", true)
  | 5 => ("AbsenceRows", "calls", "LAbsenceRows$Calls;", true)
  | 6 => ("AbsenceRows", "carryDays", "I", false)
  | 7 => ("AbsenceRows", "patienceHours", "I", false)
  | _ => ("AbsenceRows", "hour", "I", false)
def xk_t0 : Nat → FieldType := fun k => match k with
  | 0 => .object "AbsenceRows$Calendar"
  | 1 => .object "AbsenceRows$Persons"
  | 2 => .object "AbsenceRows$Crews"
  | 3 => .object "AbsenceRows$Asks"
  | 4 => .object "AbsenceRows$HeldRows"
  | 5 => .object "AbsenceRows$Calls"
  | 6 => .int
  | 7 => .int
  | _ => .int
theorem xk_n0 : ∀ a, a < 9 → ∀ b, b < 9 → a ≠ b → (xk_T0 a).2.1 ≠ (xk_T0 b).2.1 := by decide +kernel
theorem xk_p0 : ∀ k, k < 9 → parseFieldDescriptor (xk_T0 k).2.2.1 = some (xk_t0 k) := by decide +kernel
theorem xk_w0 : ∀ w ∈ u_ws xk_R0 xk_T0 9, w ∈ xt_T := by decide +kernel
def xk_R1 : String := "AbsenceRows$Calendar"
def xk_T1 : u_T := fun k => match k with
  | _ => ("AbsenceRows$Calendar", "isHoliday", "[Z", true)
def xk_t1 : Nat → FieldType := fun k => match k with
  | _ => .array .boolean
theorem xk_n1 : ∀ a, a < 1 → ∀ b, b < 1 → a ≠ b → (xk_T1 a).2.1 ≠ (xk_T1 b).2.1 := by decide +kernel
theorem xk_p1 : ∀ k, k < 1 → parseFieldDescriptor (xk_T1 k).2.2.1 = some (xk_t1 k) := by decide +kernel
theorem xk_w1 : ∀ w ∈ u_ws xk_R1 xk_T1 1, w ∈ xt_T := by decide +kernel
def xk_R2 : String := "AbsenceRows$Persons"
def xk_T2 : u_T := fun k => match k with
  | 0 => ("AbsenceRows$Persons", "count", "I", false)
  | 1 => ("AbsenceRows$Persons", "skills", "[I", true)
  | 2 => ("AbsenceRows$Persons", "rank", "[I", true)
  | 3 => ("AbsenceRows$Persons", "since", "[I", true)
  | 4 => ("AbsenceRows$Persons", "up", "[I", true)
  | 5 => ("AbsenceRows$Persons", "down", "[I", true)
  | 6 => ("AbsenceRows$Persons", "timesAsked", "[I", true)
  | _ => ("AbsenceRows$Persons", "barredBefore", "[I", true)
def xk_t2 : Nat → FieldType := fun k => match k with
  | 0 => .int
  | 1 => .array .int
  | 2 => .array .int
  | 3 => .array .int
  | 4 => .array .int
  | 5 => .array .int
  | 6 => .array .int
  | _ => .array .int
theorem xk_n2 : ∀ a, a < 8 → ∀ b, b < 8 → a ≠ b → (xk_T2 a).2.1 ≠ (xk_T2 b).2.1 := by decide +kernel
theorem xk_p2 : ∀ k, k < 8 → parseFieldDescriptor (xk_T2 k).2.2.1 = some (xk_t2 k) := by decide +kernel
theorem xk_w2 : ∀ w ∈ u_ws xk_R2 xk_T2 8, w ∈ xt_T := by decide +kernel
def xk_R3 : String := "AbsenceRows$Crews"
def xk_T3 : u_T := fun k => match k with
  | 0 => ("AbsenceRows$Crews", "count", "I", false)
  | 1 => ("AbsenceRows$Crews", "skills", "[I", true)
  | 2 => ("AbsenceRows$Crews", "least", "[I", true)
  | _ => ("AbsenceRows$Crews", "members", "[I", true)
def xk_t3 : Nat → FieldType := fun k => match k with
  | 0 => .int
  | 1 => .array .int
  | 2 => .array .int
  | _ => .array .int
theorem xk_n3 : ∀ a, a < 4 → ∀ b, b < 4 → a ≠ b → (xk_T3 a).2.1 ≠ (xk_T3 b).2.1 := by decide +kernel
theorem xk_p3 : ∀ k, k < 4 → parseFieldDescriptor (xk_T3 k).2.2.1 = some (xk_t3 k) := by decide +kernel
theorem xk_w3 : ∀ w ∈ u_ws xk_R3 xk_T3 4, w ∈ xt_T := by decide +kernel
def xk_R4 : String := "AbsenceRows$Asks"
def xk_T4 : u_T := fun k => match k with
  | 0 => ("AbsenceRows$Asks", "count", "I", false)
  | 1 => ("AbsenceRows$Asks", "person", "[I", true)
  | 2 => ("AbsenceRows$Asks", "kind", "[I", true)
  | 3 => ("AbsenceRows$Asks", "from", "[I", true)
  | 4 => ("AbsenceRows$Asks", "to", "[I", true)
  | 5 => ("AbsenceRows$Asks", "halves", "[I", true)
  | 6 => ("AbsenceRows$Asks", "state", "[I", true)
  | _ => ("AbsenceRows$Asks", "firstStepBy", "[I", true)
def xk_t4 : Nat → FieldType := fun k => match k with
  | 0 => .int
  | 1 => .array .int
  | 2 => .array .int
  | 3 => .array .int
  | 4 => .array .int
  | 5 => .array .int
  | 6 => .array .int
  | _ => .array .int
theorem xk_n4 : ∀ a, a < 8 → ∀ b, b < 8 → a ≠ b → (xk_T4 a).2.1 ≠ (xk_T4 b).2.1 := by decide +kernel
theorem xk_p4 : ∀ k, k < 8 → parseFieldDescriptor (xk_T4 k).2.2.1 = some (xk_t4 k) := by decide +kernel
theorem xk_w4 : ∀ w ∈ u_ws xk_R4 xk_T4 8, w ∈ xt_T := by decide +kernel
def xk_R5 : String := "AbsenceRows$HeldRows"
def xk_T5 : u_T := fun k => match k with
  | 0 => ("AbsenceRows$HeldRows", "count", "I", false)
  | 1 => ("AbsenceRows$HeldRows", "ask", "[I", true)
  | 2 => ("AbsenceRows$HeldRows", "day", "[I", true)
  | _ => ("AbsenceRows$HeldRows", "crew", "[I", true)
def xk_t5 : Nat → FieldType := fun k => match k with
  | 0 => .int
  | 1 => .array .int
  | 2 => .array .int
  | _ => .array .int
theorem xk_n5 : ∀ a, a < 4 → ∀ b, b < 4 → a ≠ b → (xk_T5 a).2.1 ≠ (xk_T5 b).2.1 := by decide +kernel
theorem xk_p5 : ∀ k, k < 4 → parseFieldDescriptor (xk_T5 k).2.2.1 = some (xk_t5 k) := by decide +kernel
theorem xk_w5 : ∀ w ∈ u_ws xk_R5 xk_T5 4, w ∈ xt_T := by decide +kernel
def xk_R6 : String := "AbsenceRows$Calls"
def xk_T6 : u_T := fun k => match k with
  | 0 => ("AbsenceRows$Calls", "count", "I", false)
  | 1 => ("AbsenceRows$Calls", "crew", "[I", true)
  | 2 => ("AbsenceRows$Calls", "day", "[I", true)
  | 3 => ("AbsenceRows$Calls", "state", "[I", true)
  | 4 => ("AbsenceRows$Calls", "person", "[I", true)
  | 5 => ("AbsenceRows$Calls", "wereAsked", "[I", true)
  | _ => ("AbsenceRows$Calls", "nextAt", "[I", true)
def xk_t6 : Nat → FieldType := fun k => match k with
  | 0 => .int
  | 1 => .array .int
  | 2 => .array .int
  | 3 => .array .int
  | 4 => .array .int
  | 5 => .array .int
  | _ => .array .int
theorem xk_n6 : ∀ a, a < 7 → ∀ b, b < 7 → a ≠ b → (xk_T6 a).2.1 ≠ (xk_T6 b).2.1 := by decide +kernel
theorem xk_p6 : ∀ k, k < 7 → parseFieldDescriptor (xk_T6 k).2.2.1 = some (xk_t6 k) := by decide +kernel
theorem xk_w6 : ∀ w ∈ u_ws xk_R6 xk_T6 7, w ∈ xt_T := by decide +kernel
def xk_R7 : String := "AbsenceRowsModel"
def xk_T7 : u_T := fun k => match k with
  | 0 => ("AbsenceRowsModel", "thrown", "I", false)
  | 1 => ("AbsenceRowsModel", "hour", "I", false)
  | 2 => ("AbsenceRowsModel", "free", "[Z", true)
  | 3 => ("AbsenceRowsModel", "persons", "I", false)
  | 4 => ("AbsenceRowsModel", "skills", "[I", true)
  | 5 => ("AbsenceRowsModel", "rank", "[I", true)
  | 6 => ("AbsenceRowsModel", "since", "[I", true)
  | 7 => ("AbsenceRowsModel", "up", "[I", true)
  | 8 => ("AbsenceRowsModel", "down", "[I", true)
  | 9 => ("AbsenceRowsModel", "times", "[I", true)
  | 10 => ("AbsenceRowsModel", "bars", "[I", true)
  | 11 => ("AbsenceRowsModel", "carry", "I", false)
  | 12 => ("AbsenceRowsModel", "crews", "I", false)
  | 13 => ("AbsenceRowsModel", "wants", "[I", true)
  | 14 => ("AbsenceRowsModel", "least", "[I", true)
  | 15 => ("AbsenceRowsModel", "member", "[Z", true)
  | 16 => ("AbsenceRowsModel", "asks", "I", false)
  | 17 => ("AbsenceRowsModel", "who", "[I", true)
  | 18 => ("AbsenceRowsModel", "kind", "[I", true)
  | 19 => ("AbsenceRowsModel", "from", "[I", true)
  | 20 => ("AbsenceRowsModel", "to", "[I", true)
  | 21 => ("AbsenceRowsModel", "halves", "[I", true)
  | 22 => ("AbsenceRowsModel", "state", "[I", true)
  | 23 => ("AbsenceRowsModel", "step", "[I", true)
  | 24 => ("AbsenceRowsModel", "rows", "I", false)
  | 25 => ("AbsenceRowsModel", "rowAsk", "[I", true)
  | 26 => ("AbsenceRowsModel", "rowDay", "[I", true)
  | 27 => ("AbsenceRowsModel", "rowCrew", "[I", true)
  | 28 => ("AbsenceRowsModel", "calls", "I", false)
  | 29 => ("AbsenceRowsModel", "callCrew", "[I", true)
  | 30 => ("AbsenceRowsModel", "callDay", "[I", true)
  | 31 => ("AbsenceRowsModel", "callState", "[I", true)
  | 32 => ("AbsenceRowsModel", "callPerson", "[I", true)
  | 33 => ("AbsenceRowsModel", "callMany", "[I", true)
  | 34 => ("AbsenceRowsModel", "callDue", "[I", true)
  | 35 => ("AbsenceRowsModel", "wasAsked", "[Z", true)
  | _ => ("AbsenceRowsModel", "patience", "I", false)
def xk_t7 : Nat → FieldType := fun k => match k with
  | 0 => .int
  | 1 => .int
  | 2 => .array .boolean
  | 3 => .int
  | 4 => .array .int
  | 5 => .array .int
  | 6 => .array .int
  | 7 => .array .int
  | 8 => .array .int
  | 9 => .array .int
  | 10 => .array .int
  | 11 => .int
  | 12 => .int
  | 13 => .array .int
  | 14 => .array .int
  | 15 => .array .boolean
  | 16 => .int
  | 17 => .array .int
  | 18 => .array .int
  | 19 => .array .int
  | 20 => .array .int
  | 21 => .array .int
  | 22 => .array .int
  | 23 => .array .int
  | 24 => .int
  | 25 => .array .int
  | 26 => .array .int
  | 27 => .array .int
  | 28 => .int
  | 29 => .array .int
  | 30 => .array .int
  | 31 => .array .int
  | 32 => .array .int
  | 33 => .array .int
  | 34 => .array .int
  | 35 => .array .boolean
  | _ => .int
theorem xk_n7 : ∀ a, a < 37 → ∀ b, b < 37 → a ≠ b → (xk_T7 a).2.1 ≠ (xk_T7 b).2.1 := by decide +kernel
theorem xk_p7 : ∀ k, k < 37 → parseFieldDescriptor (xk_T7 k).2.2.1 = some (xk_t7 k) := by decide +kernel
theorem xk_w7 : ∀ w ∈ u_ws xk_R7 xk_T7 37, w ∈ xt_T := by decide +kernel
abbrev xk_cl : List vw_C := [(xk_R0, xk_T0, 9), (xk_R1, xk_T1, 1), (xk_R2, xk_T2, 8), (xk_R3, xk_T3, 4), (xk_R4, xk_T4, 8), (xk_R5, xk_T5, 4), (xk_R6, xk_T6, 7), (xk_R7, xk_T7, 37)]
def xk_ns : List Cond := [(Cond.methodLinkNest "AbsenceRows" 9 ⟨"AbsenceRows$Calendar", "<init>", "()V"⟩ "AbsenceRows"), (Cond.methodLinkNest "AbsenceRows" 18 ⟨"AbsenceRows$Persons", "<init>", "()V"⟩ "AbsenceRows"), (Cond.methodLinkNest "AbsenceRows" 25 ⟨"AbsenceRows$Crews", "<init>", "()V"⟩ "AbsenceRows"), (Cond.methodLinkNest "AbsenceRows" 32 ⟨"AbsenceRows$Asks", "<init>", "()V"⟩ "AbsenceRows"), (Cond.methodLinkNest "AbsenceRows" 39 ⟨"AbsenceRows$HeldRows", "<init>", "()V"⟩ "AbsenceRows"), (Cond.methodLinkNest "AbsenceRows" 46 ⟨"AbsenceRows$Calls", "<init>", "()V"⟩ "AbsenceRows"), (Cond.methodLinkNest "AbsenceRows$Persons" 37 ⟨"AbsenceRows", "isWithin", "(III)Z"⟩ "AbsenceRows"), (Cond.methodLinkNest "AbsenceRows$Calendar" 19 ⟨"AbsenceRows", "isHalf", "(IIII)Z"⟩ "AbsenceRows"), (Cond.methodLinkNest "AbsenceRows$Crews" 25 ⟨"AbsenceRows", "isWithin", "(III)Z"⟩ "AbsenceRows"), (Cond.methodLinkNest "AbsenceRows$Asks" 37 ⟨"AbsenceRows", "isWithin", "(III)Z"⟩ "AbsenceRows"), (Cond.methodLinkNest "AbsenceRows$Persons" 50 ⟨"AbsenceRows", "only", "(I)I"⟩ "AbsenceRows"), (Cond.methodLinkNest "AbsenceRows$Asks" 41 ⟨"AbsenceRows", "isHalf", "(IIII)Z"⟩ "AbsenceRows"), (Cond.methodLinkNest "AbsenceRows$Asks" 45 ⟨"AbsenceRows", "only", "(I)I"⟩ "AbsenceRows"), (Cond.methodLinkNest "AbsenceRows$Calls" 38 ⟨"AbsenceRows", "only", "(I)I"⟩ "AbsenceRows"), (Cond.methodLinkNest "AbsenceRows$HeldRows" 25 ⟨"AbsenceRows", "isWithin", "(III)Z"⟩ "AbsenceRows"), (Cond.methodLinkNest "AbsenceRows$Calls" 34 ⟨"AbsenceRows", "isWithin", "(III)Z"⟩ "AbsenceRows"), (Cond.castable "java/lang/IndexOutOfBoundsException" "java/lang/IndexOutOfBoundsException"), (Cond.declares ⟨"java/lang/RuntimeException", "<init>", "()V"⟩), (Cond.declares ⟨"java/lang/RuntimeException", "<init>", "(Ljava/lang/String;)V"⟩), (Cond.declares ⟨"java/lang/Exception", "<init>", "()V"⟩), (Cond.declares ⟨"java/lang/Exception", "<init>", "(Ljava/lang/String;)V"⟩), (Cond.declares ⟨"java/lang/Throwable", "<init>", "()V"⟩), (Cond.declares ⟨"java/lang/Throwable", "<init>", "(Ljava/lang/String;)V"⟩), (Cond.castable "java/lang/UnsupportedOperationException" "java/lang/UnsupportedOperationException"), (Cond.castable "java/lang/IllegalArgumentException" "java/lang/IllegalArgumentException"), (Cond.castable "java/lang/IllegalStateException" "java/lang/IllegalStateException")]
theorem xk_ns_ok : ∀ w ∈ xk_ns, xm_isN w = true := by decide +kernel
def xk_tA : List xm_E := [.inr (0, [some 1, some 2, some 3, some 4, some 5, some 6, none, none, none]), .inr (1, [some 7]), .inr (2, [none, some 8, some 9, some 10, some 11, some 12, some 13, some 14]), .inr (3, [none, some 15, some 16, some 17]), .inr (4, [none, some 18, some 19, some 20, some 21, some 22, some 23, some 24]), .inr (5, [none, some 25, some 26, some 27]), .inr (6, [none, some 28, some 29, some 30, some 31, some 32, some 33]), .inl (1, 730, false), .inl (0, 20, false), .inl (0, 20, false), .inl (0, 20, false), .inl (0, 20, false), .inl (0, 20, false), .inl (0, 20, false), .inl (0, 160, false), .inl (0, 6, false), .inl (0, 6, false), .inl (0, 6, false), .inl (0, 80, false), .inl (0, 80, false), .inl (0, 80, false), .inl (0, 80, false), .inl (0, 80, false), .inl (0, 80, false), .inl (0, 80, false), .inl (0, 100, false), .inl (0, 100, false), .inl (0, 100, false), .inl (0, 60, false), .inl (0, 60, false), .inl (0, 60, false), .inl (0, 60, false), .inl (0, 60, false), .inl (0, 60, false)]
def xk_tM : List xm_E := [.inr (7, [none, none, some 1, none, some 2, some 3, some 4, some 5, some 6, some 7, some 8, none, none, some 9, some 10, some 11, none, some 12, some 13, some 14, some 15, some 16, some 17, some 18, none, some 19, some 20, some 21, none, some 22, some 23, some 24, some 25, some 26, some 27, some 28, none]), .inl (1, 730, false), .inl (0, 20, false), .inl (0, 20, false), .inl (0, 20, false), .inl (0, 20, false), .inl (0, 20, false), .inl (0, 20, false), .inl (0, 160, false), .inl (0, 6, false), .inl (0, 6, false), .inl (1, 120, false), .inl (0, 81, false), .inl (0, 81, false), .inl (0, 81, false), .inl (0, 81, false), .inl (0, 81, false), .inl (0, 81, false), .inl (0, 81, false), .inl (0, 100, false), .inl (0, 100, false), .inl (0, 100, false), .inl (0, 60, false), .inl (0, 60, false), .inl (0, 60, false), .inl (0, 60, false), .inl (0, 60, false), .inl (0, 60, false), .inl (1, 1200, false)]
def xm_pb (cls : List vw_C) (tp : List xm_E) : Bool := tp.all (fun en => match en with
  | .inl _ => true
  | .inr (ci, fk) => match cls[ci]? with
    | none => false
    | some q => (List.range fk.length).all (fun k => match fk[k]? with
      | some none => decide ((q.2.1 k).2.2.2 = false) && decide (parseFieldDescriptor (q.2.1 k).2.2.1 = some .int)
      | _ => true))
theorem xm_okP_of {fl : List (Nat × Nat × Nat)} {cls : List vw_C} {tp : List xm_E} (hb : xm_pb cls tp = true) (hc : ∀ q ∈ cls, ∃ ty0 : Nat → FieldType, (∀ k, k < q.2.2 → parseFieldDescriptor (q.2.1 k).2.2.1 = some (ty0 k)) ∧ (∀ a, a < q.2.2 → ∀ b, b < q.2.2 → a ≠ b → (q.2.1 a).2.1 ≠ (q.2.1 b).2.1)) : xm_okP fl cls tp := by
  intro n ci kf C T N _ hcl ⟨p, fk, h1, h2⟩
  obtain ⟨ty0, e1, e2⟩ := hc (C, T, N) (List.mem_of_getElem? hcl)
  have h3 := List.all_eq_true.mp hb _ (List.mem_of_getElem? h1)
  simp only [hcl] at h3
  have hlt : kf < fk.length := (List.getElem?_eq_some_iff.mp h2).1
  have h4 := List.all_eq_true.mp h3 kf (List.mem_range.mpr hlt)
  simp only [h2, Bool.and_eq_true, decide_eq_true_eq] at h4
  exact ⟨ty0, e1, e2, h4.1, h4.2⟩
theorem xk_tys : ∀ q ∈ xk_cl, ∃ ty0 : Nat → FieldType, (∀ k, k < q.2.2 → parseFieldDescriptor (q.2.1 k).2.2.1 = some (ty0 k)) ∧ (∀ a, a < q.2.2 → ∀ b, b < q.2.2 → a ≠ b → (q.2.1 a).2.1 ≠ (q.2.1 b).2.1) := List.forall_mem_cons.mpr ⟨⟨xk_t0, xk_p0, xk_n0⟩, List.forall_mem_cons.mpr ⟨⟨xk_t1, xk_p1, xk_n1⟩, List.forall_mem_cons.mpr ⟨⟨xk_t2, xk_p2, xk_n2⟩, List.forall_mem_cons.mpr ⟨⟨xk_t3, xk_p3, xk_n3⟩, List.forall_mem_cons.mpr ⟨⟨xk_t4, xk_p4, xk_n4⟩, List.forall_mem_cons.mpr ⟨⟨xk_t5, xk_p5, xk_n5⟩, List.forall_mem_cons.mpr ⟨⟨xk_t6, xk_p6, xk_n6⟩, List.forall_mem_cons.mpr ⟨⟨xk_t7, xk_p7, xk_n7⟩, fun _ h => absurd h List.not_mem_nil⟩⟩⟩⟩⟩⟩⟩⟩
theorem xk_pA : xm_pb xk_cl xk_tA = true := by decide +kernel
theorem xk_pM : xm_pb xk_cl xk_tM = true := by decide +kernel
def xm_flP (own : String) (q : Nat × Nat × Nat) : Prop := ∃ C T N, xk_cl[q.2.1]? = some (C, T, N) ∧ q.2.2 < N ∧ (∀ w ∈ u_ws C T N, w ∈ xt_T) ∧ (Cond.fieldLink own q.1 (T q.2.2).1 (T q.2.2).2.1 (T q.2.2).2.2.1 ∈ xt_T ∨ ∃ host, Cond.fieldLinkNest own q.1 (T q.2.2).1 (T q.2.2).2.1 (T q.2.2).2.2.1 host ∈ xk_ns)
def xf_A : List (Nat × Nat × Nat) := [(10, 0, 0), (19, 0, 1), (26, 0, 2), (33, 0, 3), (40, 0, 4), (47, 0, 5), (51, 0, 6), (55, 0, 7), (58, 0, 8), (76, 2, 0), (107, 2, 4), (111, 2, 5), (120, 1, 0), (138, 3, 0), (146, 3, 3), (184, 4, 0), (196, 4, 7), (199, 4, 1), (229, 4, 6), (237, 4, 2), (267, 5, 1), (270, 5, 2), (273, 5, 3), (278, 2, 7), (285, 6, 0), (296, 6, 3), (302, 6, 4), (303, 6, 5), (306, 6, 6), (309, 2, 6), (345, 4, 3), (348, 4, 4), (351, 4, 5), (357, 2, 2), (369, 3, 2), (381, 6, 1), (382, 6, 2), (386, 3, 1)]
theorem xf_A_ok : ∀ q ∈ xf_A, xm_flP "AbsenceRows" q := List.forall_mem_cons.mpr ⟨⟨xk_R0, xk_T0, 9, rfl, by decide, xk_w0, Or.inl (xt_in 231 (by decide +kernel) rfl)⟩, List.forall_mem_cons.mpr ⟨⟨xk_R0, xk_T0, 9, rfl, by decide, xk_w0, Or.inl (xt_in 232 (by decide +kernel) rfl)⟩, List.forall_mem_cons.mpr ⟨⟨xk_R0, xk_T0, 9, rfl, by decide, xk_w0, Or.inl (xt_in 233 (by decide +kernel) rfl)⟩, List.forall_mem_cons.mpr ⟨⟨xk_R0, xk_T0, 9, rfl, by decide, xk_w0, Or.inl (xt_in 234 (by decide +kernel) rfl)⟩, List.forall_mem_cons.mpr ⟨⟨xk_R0, xk_T0, 9, rfl, by decide, xk_w0, Or.inl (xt_in 235 (by decide +kernel) rfl)⟩, List.forall_mem_cons.mpr ⟨⟨xk_R0, xk_T0, 9, rfl, by decide, xk_w0, Or.inl (xt_in 236 (by decide +kernel) rfl)⟩, List.forall_mem_cons.mpr ⟨⟨xk_R0, xk_T0, 9, rfl, by decide, xk_w0, Or.inl (xt_in 237 (by decide +kernel) rfl)⟩, List.forall_mem_cons.mpr ⟨⟨xk_R0, xk_T0, 9, rfl, by decide, xk_w0, Or.inl (xt_in 238 (by decide +kernel) rfl)⟩, List.forall_mem_cons.mpr ⟨⟨xk_R0, xk_T0, 9, rfl, by decide, xk_w0, Or.inl (xt_in 239 (by decide +kernel) rfl)⟩, List.forall_mem_cons.mpr ⟨⟨xk_R2, xk_T2, 8, rfl, by decide, xk_w2, Or.inl (xt_in 81 (by decide +kernel) rfl)⟩, List.forall_mem_cons.mpr ⟨⟨xk_R2, xk_T2, 8, rfl, by decide, xk_w2, Or.inl (xt_in 87 (by decide +kernel) rfl)⟩, List.forall_mem_cons.mpr ⟨⟨xk_R2, xk_T2, 8, rfl, by decide, xk_w2, Or.inl (xt_in 89 (by decide +kernel) rfl)⟩, List.forall_mem_cons.mpr ⟨⟨xk_R1, xk_T1, 1, rfl, by decide, xk_w1, Or.inl (xt_in 69 (by decide +kernel) rfl)⟩, List.forall_mem_cons.mpr ⟨⟨xk_R3, xk_T3, 4, rfl, by decide, xk_w3, Or.inl (xt_in 119 (by decide +kernel) rfl)⟩, List.forall_mem_cons.mpr ⟨⟨xk_R3, xk_T3, 4, rfl, by decide, xk_w3, Or.inl (xt_in 125 (by decide +kernel) rfl)⟩, List.forall_mem_cons.mpr ⟨⟨xk_R4, xk_T4, 8, rfl, by decide, xk_w4, Or.inl (xt_in 142 (by decide +kernel) rfl)⟩, List.forall_mem_cons.mpr ⟨⟨xk_R4, xk_T4, 8, rfl, by decide, xk_w4, Or.inl (xt_in 156 (by decide +kernel) rfl)⟩, List.forall_mem_cons.mpr ⟨⟨xk_R4, xk_T4, 8, rfl, by decide, xk_w4, Or.inl (xt_in 144 (by decide +kernel) rfl)⟩, List.forall_mem_cons.mpr ⟨⟨xk_R4, xk_T4, 8, rfl, by decide, xk_w4, Or.inl (xt_in 154 (by decide +kernel) rfl)⟩, List.forall_mem_cons.mpr ⟨⟨xk_R4, xk_T4, 8, rfl, by decide, xk_w4, Or.inl (xt_in 146 (by decide +kernel) rfl)⟩, List.forall_mem_cons.mpr ⟨⟨xk_R5, xk_T5, 4, rfl, by decide, xk_w5, Or.inl (xt_in 182 (by decide +kernel) rfl)⟩, List.forall_mem_cons.mpr ⟨⟨xk_R5, xk_T5, 4, rfl, by decide, xk_w5, Or.inl (xt_in 184 (by decide +kernel) rfl)⟩, List.forall_mem_cons.mpr ⟨⟨xk_R5, xk_T5, 4, rfl, by decide, xk_w5, Or.inl (xt_in 186 (by decide +kernel) rfl)⟩, List.forall_mem_cons.mpr ⟨⟨xk_R2, xk_T2, 8, rfl, by decide, xk_w2, Or.inl (xt_in 93 (by decide +kernel) rfl)⟩, List.forall_mem_cons.mpr ⟨⟨xk_R6, xk_T6, 7, rfl, by decide, xk_w6, Or.inl (xt_in 203 (by decide +kernel) rfl)⟩, List.forall_mem_cons.mpr ⟨⟨xk_R6, xk_T6, 7, rfl, by decide, xk_w6, Or.inl (xt_in 209 (by decide +kernel) rfl)⟩, List.forall_mem_cons.mpr ⟨⟨xk_R6, xk_T6, 7, rfl, by decide, xk_w6, Or.inl (xt_in 211 (by decide +kernel) rfl)⟩, List.forall_mem_cons.mpr ⟨⟨xk_R6, xk_T6, 7, rfl, by decide, xk_w6, Or.inl (xt_in 213 (by decide +kernel) rfl)⟩, List.forall_mem_cons.mpr ⟨⟨xk_R6, xk_T6, 7, rfl, by decide, xk_w6, Or.inl (xt_in 215 (by decide +kernel) rfl)⟩, List.forall_mem_cons.mpr ⟨⟨xk_R2, xk_T2, 8, rfl, by decide, xk_w2, Or.inl (xt_in 91 (by decide +kernel) rfl)⟩, List.forall_mem_cons.mpr ⟨⟨xk_R4, xk_T4, 8, rfl, by decide, xk_w4, Or.inl (xt_in 148 (by decide +kernel) rfl)⟩, List.forall_mem_cons.mpr ⟨⟨xk_R4, xk_T4, 8, rfl, by decide, xk_w4, Or.inl (xt_in 150 (by decide +kernel) rfl)⟩, List.forall_mem_cons.mpr ⟨⟨xk_R4, xk_T4, 8, rfl, by decide, xk_w4, Or.inl (xt_in 152 (by decide +kernel) rfl)⟩, List.forall_mem_cons.mpr ⟨⟨xk_R2, xk_T2, 8, rfl, by decide, xk_w2, Or.inl (xt_in 84 (by decide +kernel) rfl)⟩, List.forall_mem_cons.mpr ⟨⟨xk_R3, xk_T3, 4, rfl, by decide, xk_w3, Or.inl (xt_in 123 (by decide +kernel) rfl)⟩, List.forall_mem_cons.mpr ⟨⟨xk_R6, xk_T6, 7, rfl, by decide, xk_w6, Or.inl (xt_in 205 (by decide +kernel) rfl)⟩, List.forall_mem_cons.mpr ⟨⟨xk_R6, xk_T6, 7, rfl, by decide, xk_w6, Or.inl (xt_in 207 (by decide +kernel) rfl)⟩, List.forall_mem_cons.mpr ⟨⟨xk_R3, xk_T3, 4, rfl, by decide, xk_w3, Or.inl (xt_in 121 (by decide +kernel) rfl)⟩, fun _ h => absurd h List.not_mem_nil⟩⟩⟩⟩⟩⟩⟩⟩⟩⟩⟩⟩⟩⟩⟩⟩⟩⟩⟩⟩⟩⟩⟩⟩⟩⟩⟩⟩⟩⟩⟩⟩⟩⟩⟩⟩⟩⟩
def xf_C : List (Nat × Nat × Nat) := [(9, 1, 0)]
theorem xf_C_ok : ∀ q ∈ xf_C, xm_flP "AbsenceRows$Calendar" q := List.forall_mem_cons.mpr ⟨⟨xk_R1, xk_T1, 1, rfl, by decide, xk_w1, Or.inl (xt_in 68 (by decide +kernel) rfl)⟩, fun _ h => absurd h List.not_mem_nil⟩
def xf_P : List (Nat × Nat × Nat) := [(9, 2, 0), (15, 2, 1), (19, 2, 2), (22, 2, 3), (25, 2, 4), (28, 2, 5), (31, 2, 6), (34, 2, 7)]
theorem xf_P_ok : ∀ q ∈ xf_P, xm_flP "AbsenceRows$Persons" q := List.forall_mem_cons.mpr ⟨⟨xk_R2, xk_T2, 8, rfl, by decide, xk_w2, Or.inl (xt_in 80 (by decide +kernel) rfl)⟩, List.forall_mem_cons.mpr ⟨⟨xk_R2, xk_T2, 8, rfl, by decide, xk_w2, Or.inl (xt_in 82 (by decide +kernel) rfl)⟩, List.forall_mem_cons.mpr ⟨⟨xk_R2, xk_T2, 8, rfl, by decide, xk_w2, Or.inl (xt_in 83 (by decide +kernel) rfl)⟩, List.forall_mem_cons.mpr ⟨⟨xk_R2, xk_T2, 8, rfl, by decide, xk_w2, Or.inl (xt_in 85 (by decide +kernel) rfl)⟩, List.forall_mem_cons.mpr ⟨⟨xk_R2, xk_T2, 8, rfl, by decide, xk_w2, Or.inl (xt_in 86 (by decide +kernel) rfl)⟩, List.forall_mem_cons.mpr ⟨⟨xk_R2, xk_T2, 8, rfl, by decide, xk_w2, Or.inl (xt_in 88 (by decide +kernel) rfl)⟩, List.forall_mem_cons.mpr ⟨⟨xk_R2, xk_T2, 8, rfl, by decide, xk_w2, Or.inl (xt_in 90 (by decide +kernel) rfl)⟩, List.forall_mem_cons.mpr ⟨⟨xk_R2, xk_T2, 8, rfl, by decide, xk_w2, Or.inl (xt_in 92 (by decide +kernel) rfl)⟩, fun _ h => absurd h List.not_mem_nil⟩⟩⟩⟩⟩⟩⟩⟩
def xf_W : List (Nat × Nat × Nat) := [(9, 3, 0), (15, 3, 1), (19, 3, 2), (22, 3, 3)]
theorem xf_W_ok : ∀ q ∈ xf_W, xm_flP "AbsenceRows$Crews" q := List.forall_mem_cons.mpr ⟨⟨xk_R3, xk_T3, 4, rfl, by decide, xk_w3, Or.inl (xt_in 118 (by decide +kernel) rfl)⟩, List.forall_mem_cons.mpr ⟨⟨xk_R3, xk_T3, 4, rfl, by decide, xk_w3, Or.inl (xt_in 120 (by decide +kernel) rfl)⟩, List.forall_mem_cons.mpr ⟨⟨xk_R3, xk_T3, 4, rfl, by decide, xk_w3, Or.inl (xt_in 122 (by decide +kernel) rfl)⟩, List.forall_mem_cons.mpr ⟨⟨xk_R3, xk_T3, 4, rfl, by decide, xk_w3, Or.inl (xt_in 124 (by decide +kernel) rfl)⟩, fun _ h => absurd h List.not_mem_nil⟩⟩⟩⟩
def xf_K : List (Nat × Nat × Nat) := [(9, 4, 0), (15, 4, 1), (19, 4, 2), (22, 4, 3), (25, 4, 4), (28, 4, 5), (31, 4, 6), (34, 4, 7)]
theorem xf_K_ok : ∀ q ∈ xf_K, xm_flP "AbsenceRows$Asks" q := List.forall_mem_cons.mpr ⟨⟨xk_R4, xk_T4, 8, rfl, by decide, xk_w4, Or.inl (xt_in 141 (by decide +kernel) rfl)⟩, List.forall_mem_cons.mpr ⟨⟨xk_R4, xk_T4, 8, rfl, by decide, xk_w4, Or.inl (xt_in 143 (by decide +kernel) rfl)⟩, List.forall_mem_cons.mpr ⟨⟨xk_R4, xk_T4, 8, rfl, by decide, xk_w4, Or.inl (xt_in 145 (by decide +kernel) rfl)⟩, List.forall_mem_cons.mpr ⟨⟨xk_R4, xk_T4, 8, rfl, by decide, xk_w4, Or.inl (xt_in 147 (by decide +kernel) rfl)⟩, List.forall_mem_cons.mpr ⟨⟨xk_R4, xk_T4, 8, rfl, by decide, xk_w4, Or.inl (xt_in 149 (by decide +kernel) rfl)⟩, List.forall_mem_cons.mpr ⟨⟨xk_R4, xk_T4, 8, rfl, by decide, xk_w4, Or.inl (xt_in 151 (by decide +kernel) rfl)⟩, List.forall_mem_cons.mpr ⟨⟨xk_R4, xk_T4, 8, rfl, by decide, xk_w4, Or.inl (xt_in 153 (by decide +kernel) rfl)⟩, List.forall_mem_cons.mpr ⟨⟨xk_R4, xk_T4, 8, rfl, by decide, xk_w4, Or.inl (xt_in 155 (by decide +kernel) rfl)⟩, fun _ h => absurd h List.not_mem_nil⟩⟩⟩⟩⟩⟩⟩⟩
def xf_H : List (Nat × Nat × Nat) := [(9, 5, 0), (15, 5, 1), (19, 5, 2), (22, 5, 3)]
theorem xf_H_ok : ∀ q ∈ xf_H, xm_flP "AbsenceRows$HeldRows" q := List.forall_mem_cons.mpr ⟨⟨xk_R5, xk_T5, 4, rfl, by decide, xk_w5, Or.inl (xt_in 180 (by decide +kernel) rfl)⟩, List.forall_mem_cons.mpr ⟨⟨xk_R5, xk_T5, 4, rfl, by decide, xk_w5, Or.inl (xt_in 181 (by decide +kernel) rfl)⟩, List.forall_mem_cons.mpr ⟨⟨xk_R5, xk_T5, 4, rfl, by decide, xk_w5, Or.inl (xt_in 183 (by decide +kernel) rfl)⟩, List.forall_mem_cons.mpr ⟨⟨xk_R5, xk_T5, 4, rfl, by decide, xk_w5, Or.inl (xt_in 185 (by decide +kernel) rfl)⟩, fun _ h => absurd h List.not_mem_nil⟩⟩⟩⟩
def xf_L : List (Nat × Nat × Nat) := [(9, 6, 0), (15, 6, 1), (19, 6, 2), (22, 6, 3), (25, 6, 4), (28, 6, 5), (31, 6, 6)]
theorem xf_L_ok : ∀ q ∈ xf_L, xm_flP "AbsenceRows$Calls" q := List.forall_mem_cons.mpr ⟨⟨xk_R6, xk_T6, 7, rfl, by decide, xk_w6, Or.inl (xt_in 202 (by decide +kernel) rfl)⟩, List.forall_mem_cons.mpr ⟨⟨xk_R6, xk_T6, 7, rfl, by decide, xk_w6, Or.inl (xt_in 204 (by decide +kernel) rfl)⟩, List.forall_mem_cons.mpr ⟨⟨xk_R6, xk_T6, 7, rfl, by decide, xk_w6, Or.inl (xt_in 206 (by decide +kernel) rfl)⟩, List.forall_mem_cons.mpr ⟨⟨xk_R6, xk_T6, 7, rfl, by decide, xk_w6, Or.inl (xt_in 208 (by decide +kernel) rfl)⟩, List.forall_mem_cons.mpr ⟨⟨xk_R6, xk_T6, 7, rfl, by decide, xk_w6, Or.inl (xt_in 210 (by decide +kernel) rfl)⟩, List.forall_mem_cons.mpr ⟨⟨xk_R6, xk_T6, 7, rfl, by decide, xk_w6, Or.inl (xt_in 212 (by decide +kernel) rfl)⟩, List.forall_mem_cons.mpr ⟨⟨xk_R6, xk_T6, 7, rfl, by decide, xk_w6, Or.inl (xt_in 214 (by decide +kernel) rfl)⟩, fun _ h => absurd h List.not_mem_nil⟩⟩⟩⟩⟩⟩⟩
def xf_M : List (Nat × Nat × Nat) := [(7, 7, 2), (13, 7, 4), (17, 7, 5), (20, 7, 6), (23, 7, 7), (26, 7, 8), (29, 7, 9), (32, 7, 10), (35, 7, 13), (38, 7, 14), (41, 7, 15), (44, 7, 17), (47, 7, 18), (50, 7, 19), (53, 7, 20), (56, 7, 21), (59, 7, 22), (62, 7, 23), (65, 7, 25), (68, 7, 26), (71, 7, 27), (74, 7, 29), (77, 7, 30), (80, 7, 31), (83, 7, 32), (86, 7, 33), (89, 7, 34), (92, 7, 35), (95, 7, 36), (99, 7, 0), (106, 7, 3), (109, 7, 12), (129, 7, 16), (142, 7, 11), (160, 7, 28), (186, 7, 24), (195, 7, 1)]
theorem xf_M_ok : ∀ q ∈ xf_M, xm_flP "AbsenceRowsModel" q := List.forall_mem_cons.mpr ⟨⟨xk_R7, xk_T7, 37, rfl, by decide, xk_w7, Or.inl (xt_in 808 (by decide +kernel) rfl)⟩, List.forall_mem_cons.mpr ⟨⟨xk_R7, xk_T7, 37, rfl, by decide, xk_w7, Or.inl (xt_in 810 (by decide +kernel) rfl)⟩, List.forall_mem_cons.mpr ⟨⟨xk_R7, xk_T7, 37, rfl, by decide, xk_w7, Or.inl (xt_in 811 (by decide +kernel) rfl)⟩, List.forall_mem_cons.mpr ⟨⟨xk_R7, xk_T7, 37, rfl, by decide, xk_w7, Or.inl (xt_in 812 (by decide +kernel) rfl)⟩, List.forall_mem_cons.mpr ⟨⟨xk_R7, xk_T7, 37, rfl, by decide, xk_w7, Or.inl (xt_in 813 (by decide +kernel) rfl)⟩, List.forall_mem_cons.mpr ⟨⟨xk_R7, xk_T7, 37, rfl, by decide, xk_w7, Or.inl (xt_in 814 (by decide +kernel) rfl)⟩, List.forall_mem_cons.mpr ⟨⟨xk_R7, xk_T7, 37, rfl, by decide, xk_w7, Or.inl (xt_in 815 (by decide +kernel) rfl)⟩, List.forall_mem_cons.mpr ⟨⟨xk_R7, xk_T7, 37, rfl, by decide, xk_w7, Or.inl (xt_in 816 (by decide +kernel) rfl)⟩, List.forall_mem_cons.mpr ⟨⟨xk_R7, xk_T7, 37, rfl, by decide, xk_w7, Or.inl (xt_in 819 (by decide +kernel) rfl)⟩, List.forall_mem_cons.mpr ⟨⟨xk_R7, xk_T7, 37, rfl, by decide, xk_w7, Or.inl (xt_in 820 (by decide +kernel) rfl)⟩, List.forall_mem_cons.mpr ⟨⟨xk_R7, xk_T7, 37, rfl, by decide, xk_w7, Or.inl (xt_in 821 (by decide +kernel) rfl)⟩, List.forall_mem_cons.mpr ⟨⟨xk_R7, xk_T7, 37, rfl, by decide, xk_w7, Or.inl (xt_in 823 (by decide +kernel) rfl)⟩, List.forall_mem_cons.mpr ⟨⟨xk_R7, xk_T7, 37, rfl, by decide, xk_w7, Or.inl (xt_in 824 (by decide +kernel) rfl)⟩, List.forall_mem_cons.mpr ⟨⟨xk_R7, xk_T7, 37, rfl, by decide, xk_w7, Or.inl (xt_in 825 (by decide +kernel) rfl)⟩, List.forall_mem_cons.mpr ⟨⟨xk_R7, xk_T7, 37, rfl, by decide, xk_w7, Or.inl (xt_in 826 (by decide +kernel) rfl)⟩, List.forall_mem_cons.mpr ⟨⟨xk_R7, xk_T7, 37, rfl, by decide, xk_w7, Or.inl (xt_in 827 (by decide +kernel) rfl)⟩, List.forall_mem_cons.mpr ⟨⟨xk_R7, xk_T7, 37, rfl, by decide, xk_w7, Or.inl (xt_in 828 (by decide +kernel) rfl)⟩, List.forall_mem_cons.mpr ⟨⟨xk_R7, xk_T7, 37, rfl, by decide, xk_w7, Or.inl (xt_in 829 (by decide +kernel) rfl)⟩, List.forall_mem_cons.mpr ⟨⟨xk_R7, xk_T7, 37, rfl, by decide, xk_w7, Or.inl (xt_in 831 (by decide +kernel) rfl)⟩, List.forall_mem_cons.mpr ⟨⟨xk_R7, xk_T7, 37, rfl, by decide, xk_w7, Or.inl (xt_in 832 (by decide +kernel) rfl)⟩, List.forall_mem_cons.mpr ⟨⟨xk_R7, xk_T7, 37, rfl, by decide, xk_w7, Or.inl (xt_in 833 (by decide +kernel) rfl)⟩, List.forall_mem_cons.mpr ⟨⟨xk_R7, xk_T7, 37, rfl, by decide, xk_w7, Or.inl (xt_in 835 (by decide +kernel) rfl)⟩, List.forall_mem_cons.mpr ⟨⟨xk_R7, xk_T7, 37, rfl, by decide, xk_w7, Or.inl (xt_in 836 (by decide +kernel) rfl)⟩, List.forall_mem_cons.mpr ⟨⟨xk_R7, xk_T7, 37, rfl, by decide, xk_w7, Or.inl (xt_in 837 (by decide +kernel) rfl)⟩, List.forall_mem_cons.mpr ⟨⟨xk_R7, xk_T7, 37, rfl, by decide, xk_w7, Or.inl (xt_in 838 (by decide +kernel) rfl)⟩, List.forall_mem_cons.mpr ⟨⟨xk_R7, xk_T7, 37, rfl, by decide, xk_w7, Or.inl (xt_in 839 (by decide +kernel) rfl)⟩, List.forall_mem_cons.mpr ⟨⟨xk_R7, xk_T7, 37, rfl, by decide, xk_w7, Or.inl (xt_in 840 (by decide +kernel) rfl)⟩, List.forall_mem_cons.mpr ⟨⟨xk_R7, xk_T7, 37, rfl, by decide, xk_w7, Or.inl (xt_in 841 (by decide +kernel) rfl)⟩, List.forall_mem_cons.mpr ⟨⟨xk_R7, xk_T7, 37, rfl, by decide, xk_w7, Or.inl (xt_in 842 (by decide +kernel) rfl)⟩, List.forall_mem_cons.mpr ⟨⟨xk_R7, xk_T7, 37, rfl, by decide, xk_w7, Or.inl (xt_in 806 (by decide +kernel) rfl)⟩, List.forall_mem_cons.mpr ⟨⟨xk_R7, xk_T7, 37, rfl, by decide, xk_w7, Or.inl (xt_in 809 (by decide +kernel) rfl)⟩, List.forall_mem_cons.mpr ⟨⟨xk_R7, xk_T7, 37, rfl, by decide, xk_w7, Or.inl (xt_in 818 (by decide +kernel) rfl)⟩, List.forall_mem_cons.mpr ⟨⟨xk_R7, xk_T7, 37, rfl, by decide, xk_w7, Or.inl (xt_in 822 (by decide +kernel) rfl)⟩, List.forall_mem_cons.mpr ⟨⟨xk_R7, xk_T7, 37, rfl, by decide, xk_w7, Or.inl (xt_in 817 (by decide +kernel) rfl)⟩, List.forall_mem_cons.mpr ⟨⟨xk_R7, xk_T7, 37, rfl, by decide, xk_w7, Or.inl (xt_in 834 (by decide +kernel) rfl)⟩, List.forall_mem_cons.mpr ⟨⟨xk_R7, xk_T7, 37, rfl, by decide, xk_w7, Or.inl (xt_in 830 (by decide +kernel) rfl)⟩, List.forall_mem_cons.mpr ⟨⟨xk_R7, xk_T7, 37, rfl, by decide, xk_w7, Or.inl (xt_in 807 (by decide +kernel) rfl)⟩, fun _ h => absurd h List.not_mem_nil⟩⟩⟩⟩⟩⟩⟩⟩⟩⟩⟩⟩⟩⟩⟩⟩⟩⟩⟩⟩⟩⟩⟩⟩⟩⟩⟩⟩⟩⟩⟩⟩⟩⟩⟩⟩⟩
theorem xs_A : xm_stt "AbsenceRows" xt_T xk_ns xk_cl xk_tA xf_A [] [] := ⟨xt_good, xk_ns_ok, fun _ _ h => absurd h List.not_mem_nil, fun _ _ h => absurd h List.not_mem_nil, xm_okP_of xk_pA xk_tys, fun n ci kf h => xf_A_ok (n, ci, kf) h⟩
theorem xs_C : xm_stt "AbsenceRows$Calendar" xt_T xk_ns xk_cl xk_tA xf_C [] [] := ⟨xt_good, xk_ns_ok, fun _ _ h => absurd h List.not_mem_nil, fun _ _ h => absurd h List.not_mem_nil, xm_okP_of xk_pA xk_tys, fun n ci kf h => xf_C_ok (n, ci, kf) h⟩
theorem xs_P : xm_stt "AbsenceRows$Persons" xt_T xk_ns xk_cl xk_tA xf_P [] [] := ⟨xt_good, xk_ns_ok, fun _ _ h => absurd h List.not_mem_nil, fun _ _ h => absurd h List.not_mem_nil, xm_okP_of xk_pA xk_tys, fun n ci kf h => xf_P_ok (n, ci, kf) h⟩
theorem xs_W : xm_stt "AbsenceRows$Crews" xt_T xk_ns xk_cl xk_tA xf_W [] [] := ⟨xt_good, xk_ns_ok, fun _ _ h => absurd h List.not_mem_nil, fun _ _ h => absurd h List.not_mem_nil, xm_okP_of xk_pA xk_tys, fun n ci kf h => xf_W_ok (n, ci, kf) h⟩
theorem xs_K : xm_stt "AbsenceRows$Asks" xt_T xk_ns xk_cl xk_tA xf_K [] [] := ⟨xt_good, xk_ns_ok, fun _ _ h => absurd h List.not_mem_nil, fun _ _ h => absurd h List.not_mem_nil, xm_okP_of xk_pA xk_tys, fun n ci kf h => xf_K_ok (n, ci, kf) h⟩
theorem xs_H : xm_stt "AbsenceRows$HeldRows" xt_T xk_ns xk_cl xk_tA xf_H [] [] := ⟨xt_good, xk_ns_ok, fun _ _ h => absurd h List.not_mem_nil, fun _ _ h => absurd h List.not_mem_nil, xm_okP_of xk_pA xk_tys, fun n ci kf h => xf_H_ok (n, ci, kf) h⟩
theorem xs_L : xm_stt "AbsenceRows$Calls" xt_T xk_ns xk_cl xk_tA xf_L [] [] := ⟨xt_good, xk_ns_ok, fun _ _ h => absurd h List.not_mem_nil, fun _ _ h => absurd h List.not_mem_nil, xm_okP_of xk_pA xk_tys, fun n ci kf h => xf_L_ok (n, ci, kf) h⟩
def xj_M : List (Nat × Int64) := [(127, 2), (136, 365)]
theorem xj_M_ok : ∀ q ∈ xj_M, Cond.constantLong "AbsenceRowsModel" q.1 q.2 ∈ xt_T := List.forall_mem_cons.mpr ⟨xt_in 956 (by decide +kernel) rfl, List.forall_mem_cons.mpr ⟨xt_in 969 (by decide +kernel) rfl, fun _ h => absurd h List.not_mem_nil⟩⟩
theorem xs_M : xm_stt "AbsenceRowsModel" xt_T xk_ns xk_cl xk_tM xf_M [] xj_M := ⟨xt_good, xk_ns_ok, fun _ _ h => absurd h List.not_mem_nil, fun n v h => xj_M_ok (n, v) h, xm_okP_of xk_pM xk_tys, fun n ci kf h => xf_M_ok (n, ci, kf) h⟩
def xc_I : List (Nat × Int32) := [(265, 1431655765), (266, 858993459), (267, 252645135)]
theorem xc_I_ok : ∀ q ∈ xc_I, Cond.constant "java/lang/Integer" q.1 q.2 ∈ xt_T := List.forall_mem_cons.mpr ⟨xt_in 535 (by decide +kernel) rfl, List.forall_mem_cons.mpr ⟨xt_in 536 (by decide +kernel) rfl, List.forall_mem_cons.mpr ⟨xt_in 537 (by decide +kernel) rfl, fun _ h => absurd h List.not_mem_nil⟩⟩⟩
theorem xs_I : xm_stt "java/lang/Integer" xt_T xk_ns xk_cl xk_tA [] xc_I [] := ⟨xt_good, xk_ns_ok, fun n v h => xc_I_ok (n, v) h, fun _ _ h => absurd h List.not_mem_nil, xm_okP_of xk_pA xk_tys, fun n ci kf h => absurd h List.not_mem_nil⟩
theorem xs_J : xm_stt "java/lang/Math" xt_T xk_ns xk_cl xk_tA [] [] [] := ⟨xt_good, xk_ns_ok, fun _ _ h => absurd h List.not_mem_nil, fun _ _ h => absurd h List.not_mem_nil, xm_okP_of xk_pA xk_tys, fun n ci kf h => absurd h List.not_mem_nil⟩
