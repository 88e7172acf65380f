/-! THE CLAIM OUT OF ONE WALK OF THE LAW'S BODY. Your part is whole_start (and what it stands on); all else here is the same for every law, but numbers. -/
def R_law : String := "AbsenceRowsLaw"
def lw_P (b : Addr) (xs : List Int32) (args : Array Value) (s : State) : Prop := args = #[.ref b] ∧ s.IntsAt b xs ∧ xs.length ≤ 3072 ∧ (Jvm.Cond.and given_1 narrow_1).before args s = true
def lw_Q (_ : Array Value) (s : State) (o : Outcome) (t : State) : Prop := o = .returned (some (.int 1)) ∧ Framed s o t [] 1132 14352
def lw_Z (below : List Frame) (a : Array Value) (s : State) : State → Prop := fun t => ∃ o, t.status = .running ∧ Ended t below o ∧ lw_Q a s o t
/-- the law's own end, with 1 on the stack, nothing written that was there before, its room as the claim has it -/
theorem lw_ret {p : Program} {l : Launch} {e : Env} {s : State} {m : MethodId} {below : List Frame} {meth : Method} {c : Code} {b : Nat} (hx : p.tables.exec = Jvm.exec) (hb : c.code = code) (hr : meth.sig.returnType = ret) (hlocks : meth.locks = false) {pc : Nat} {H : Heap} {ls : Array Slot} (hdg : decode code pc = .ok (.ireturn, 1)) : W p l e room_1 s m #[Value.ref b] below meth c H [] 1132 14352 (lw_Z below #[Value.ref b] s) (F0 m pc ls [.int 1]) := by
  intro T hT X
  obtain ⟨fs, hret, hrun, hended, hW, hframe⟩ := X.leave (v := some (.int 1)) (hlocks := hlocks) (fun h => by rw [hr] at h; cases h)
  have hmeth' : T.vm.method? m = some meth := X.method'
  refine ⟨T.setFrames fs, ?_, .returned (some (.int 1)), hrun, hended, rfl, ⟨_, rfl⟩, hW, hframe⟩
  jvm_step X.here [X.here.top, hx, hb, hdg, hmeth', hr, ret, narrow_b1]
  (try refine ⟨rfl, ?_⟩); (try refine ⟨rfl, ?_⟩)
  first | (intro acts; rw [hret _ acts rfl rfl rfl]) | rw [hret _ _ rfl rfl rfl]
  exact Steps.refl _
/-- what holds at the law's entry: the machine, the code, the tables' words (any of lw_tbl by 'hts w (by decide +kernel)'), the script of L ints xs at the cell b, what the Statement gives of the start (any of its parts by flat_of_before) -/
def lw_At (p : Program) (s : State) (m : MethodId) (meth : Method) (c : Code) (b L : Nat) (xs : Nat → Int32) : Prop :=
  p.tables.exec = Jvm.exec ∧ c.code = code ∧ meth.sig.returnType = ret ∧ c.maxLocals = 7 ∧ s.vm.findClass R_law = some m.cls ∧ (∀ w ∈ lw_tbl, w.before #[Value.ref b] s = true) ∧ va_X b L xs s s.heap ∧ b < s.heap.size ∧ meth.locks = false ∧ (Jvm.Cond.and given_1 narrow_1).before #[Value.ref b] s = true
theorem xz2_44 : (Cond.initialized "AbsenceRowsModel") ∈ xt_T := xt_in 44 (by decide +kernel) rfl
theorem xz2_918 : (Cond.methodLink "AbsenceRowsLaw" 102 ⟨"AbsenceRowsModel", "thrown", "()I"⟩) ∈ xt_T := xt_in 918 (by decide +kernel) rfl
theorem xz2_919 : (Cond.instanceMethod ⟨"AbsenceRowsModel", "thrown", "()I"⟩) ∈ xt_T := xt_in 919 (by decide +kernel) rfl
theorem xz2_920 : (Cond.selects "AbsenceRowsModel" ⟨"AbsenceRowsModel", "thrown", "()I"⟩ ⟨"AbsenceRowsModel", "thrown", "()I"⟩) ∈ xt_T := xt_in 920 (by decide +kernel) rfl
theorem xz2_922 : (Cond.methodLink "AbsenceRowsLaw" 101 ⟨"AbsenceRowsModel", "person", "(III)I"⟩) ∈ xt_T := xt_in 922 (by decide +kernel) rfl
theorem xz2_923 : (Cond.instanceMethod ⟨"AbsenceRowsModel", "person", "(III)I"⟩) ∈ xt_T := xt_in 923 (by decide +kernel) rfl
theorem xz2_924 : (Cond.selects "AbsenceRowsModel" ⟨"AbsenceRowsModel", "person", "(III)I"⟩ ⟨"AbsenceRowsModel", "person", "(III)I"⟩) ∈ xt_T := xt_in 924 (by decide +kernel) rfl
theorem xz2_936 : (Cond.methodLink "AbsenceRowsLaw" 109 ⟨"AbsenceRowsModel", "budget", "(III)V"⟩) ∈ xt_T := xt_in 936 (by decide +kernel) rfl
theorem xz2_937 : (Cond.instanceMethod ⟨"AbsenceRowsModel", "budget", "(III)V"⟩) ∈ xt_T := xt_in 937 (by decide +kernel) rfl
theorem xz2_938 : (Cond.selects "AbsenceRowsModel" ⟨"AbsenceRowsModel", "budget", "(III)V"⟩ ⟨"AbsenceRowsModel", "budget", "(III)V"⟩) ∈ xt_T := xt_in 938 (by decide +kernel) rfl
theorem xz2_974 : (Cond.methodLink "AbsenceRowsLaw" 113 ⟨"AbsenceRowsModel", "carry", "(I)V"⟩) ∈ xt_T := xt_in 974 (by decide +kernel) rfl
theorem xz2_975 : (Cond.instanceMethod ⟨"AbsenceRowsModel", "carry", "(I)V"⟩) ∈ xt_T := xt_in 975 (by decide +kernel) rfl
theorem xz2_976 : (Cond.selects "AbsenceRowsModel" ⟨"AbsenceRowsModel", "carry", "(I)V"⟩ ⟨"AbsenceRowsModel", "carry", "(I)V"⟩) ∈ xt_T := xt_in 976 (by decide +kernel) rfl
theorem xz2_978 : (Cond.methodLink "AbsenceRowsLaw" 116 ⟨"AbsenceRowsModel", "holiday", "(I)V"⟩) ∈ xt_T := xt_in 978 (by decide +kernel) rfl
theorem xz2_979 : (Cond.instanceMethod ⟨"AbsenceRowsModel", "holiday", "(I)V"⟩) ∈ xt_T := xt_in 979 (by decide +kernel) rfl
theorem xz2_980 : (Cond.selects "AbsenceRowsModel" ⟨"AbsenceRowsModel", "holiday", "(I)V"⟩ ⟨"AbsenceRowsModel", "holiday", "(I)V"⟩) ∈ xt_T := xt_in 980 (by decide +kernel) rfl
theorem xz2_982 : (Cond.methodLink "AbsenceRowsLaw" 120 ⟨"AbsenceRowsModel", "working", "(II)I"⟩) ∈ xt_T := xt_in 982 (by decide +kernel) rfl
theorem xz2_983 : (Cond.instanceMethod ⟨"AbsenceRowsModel", "working", "(II)I"⟩) ∈ xt_T := xt_in 983 (by decide +kernel) rfl
theorem xz2_984 : (Cond.selects "AbsenceRowsModel" ⟨"AbsenceRowsModel", "working", "(II)I"⟩ ⟨"AbsenceRowsModel", "working", "(II)I"⟩) ∈ xt_T := xt_in 984 (by decide +kernel) rfl
theorem xz2_986 : (Cond.methodLink "AbsenceRowsLaw" 123 ⟨"AbsenceRowsModel", "crew", "(II)I"⟩) ∈ xt_T := xt_in 986 (by decide +kernel) rfl
theorem xz2_987 : (Cond.instanceMethod ⟨"AbsenceRowsModel", "crew", "(II)I"⟩) ∈ xt_T := xt_in 987 (by decide +kernel) rfl
theorem xz2_988 : (Cond.selects "AbsenceRowsModel" ⟨"AbsenceRowsModel", "crew", "(II)I"⟩ ⟨"AbsenceRowsModel", "crew", "(II)I"⟩) ∈ xt_T := xt_in 988 (by decide +kernel) rfl
theorem xz2_990 : (Cond.methodLink "AbsenceRowsLaw" 127 ⟨"AbsenceRowsModel", "member", "(IIZ)I"⟩) ∈ xt_T := xt_in 990 (by decide +kernel) rfl
theorem xz2_991 : (Cond.instanceMethod ⟨"AbsenceRowsModel", "member", "(IIZ)I"⟩) ∈ xt_T := xt_in 991 (by decide +kernel) rfl
theorem xz2_992 : (Cond.selects "AbsenceRowsModel" ⟨"AbsenceRowsModel", "member", "(IIZ)I"⟩ ⟨"AbsenceRowsModel", "member", "(IIZ)I"⟩) ∈ xt_T := xt_in 992 (by decide +kernel) rfl
theorem xz2_998 : (Cond.methodLink "AbsenceRowsLaw" 147 ⟨"AbsenceRowsModel", "absent", "(II)Z"⟩) ∈ xt_T := xt_in 998 (by decide +kernel) rfl
theorem xz2_999 : (Cond.instanceMethod ⟨"AbsenceRowsModel", "absent", "(II)Z"⟩) ∈ xt_T := xt_in 999 (by decide +kernel) rfl
theorem xz2_1000 : (Cond.selects "AbsenceRowsModel" ⟨"AbsenceRowsModel", "absent", "(II)Z"⟩ ⟨"AbsenceRowsModel", "absent", "(II)Z"⟩) ∈ xt_T := xt_in 1000 (by decide +kernel) rfl
theorem xz2_1006 : (Cond.methodLink "AbsenceRowsLaw" 150 ⟨"AbsenceRowsModel", "present", "(II)I"⟩) ∈ xt_T := xt_in 1006 (by decide +kernel) rfl
theorem xz2_1007 : (Cond.instanceMethod ⟨"AbsenceRowsModel", "present", "(II)I"⟩) ∈ xt_T := xt_in 1007 (by decide +kernel) rfl
theorem xz2_1008 : (Cond.selects "AbsenceRowsModel" ⟨"AbsenceRowsModel", "present", "(II)I"⟩ ⟨"AbsenceRowsModel", "present", "(II)I"⟩) ∈ xt_T := xt_in 1008 (by decide +kernel) rfl
theorem xz2_1022 : (Cond.methodLink "AbsenceRowsLaw" 131 ⟨"AbsenceRowsModel", "ask", "(IIIII)I"⟩) ∈ xt_T := xt_in 1022 (by decide +kernel) rfl
theorem xz2_1023 : (Cond.instanceMethod ⟨"AbsenceRowsModel", "ask", "(IIIII)I"⟩) ∈ xt_T := xt_in 1023 (by decide +kernel) rfl
theorem xz2_1024 : (Cond.selects "AbsenceRowsModel" ⟨"AbsenceRowsModel", "ask", "(IIIII)I"⟩ ⟨"AbsenceRowsModel", "ask", "(IIIII)I"⟩) ∈ xt_T := xt_in 1024 (by decide +kernel) rfl
theorem xz2_1030 : (Cond.methodLink "AbsenceRowsLaw" 134 ⟨"AbsenceRowsModel", "grant", "(II)I"⟩) ∈ xt_T := xt_in 1030 (by decide +kernel) rfl
theorem xz2_1031 : (Cond.instanceMethod ⟨"AbsenceRowsModel", "grant", "(II)I"⟩) ∈ xt_T := xt_in 1031 (by decide +kernel) rfl
theorem xz2_1032 : (Cond.selects "AbsenceRowsModel" ⟨"AbsenceRowsModel", "grant", "(II)I"⟩ ⟨"AbsenceRowsModel", "grant", "(II)I"⟩) ∈ xt_T := xt_in 1032 (by decide +kernel) rfl
theorem xz2_1042 : (Cond.methodLink "AbsenceRowsLaw" 138 ⟨"AbsenceRowsModel", "withdraw", "(I)I"⟩) ∈ xt_T := xt_in 1042 (by decide +kernel) rfl
theorem xz2_1043 : (Cond.instanceMethod ⟨"AbsenceRowsModel", "withdraw", "(I)I"⟩) ∈ xt_T := xt_in 1043 (by decide +kernel) rfl
theorem xz2_1044 : (Cond.selects "AbsenceRowsModel" ⟨"AbsenceRowsModel", "withdraw", "(I)I"⟩ ⟨"AbsenceRowsModel", "withdraw", "(I)I"⟩) ∈ xt_T := xt_in 1044 (by decide +kernel) rfl
theorem xz2_1046 : (Cond.methodLink "AbsenceRowsLaw" 141 ⟨"AbsenceRowsModel", "askAt", "(II)I"⟩) ∈ xt_T := xt_in 1046 (by decide +kernel) rfl
theorem xz2_1047 : (Cond.instanceMethod ⟨"AbsenceRowsModel", "askAt", "(II)I"⟩) ∈ xt_T := xt_in 1047 (by decide +kernel) rfl
theorem xz2_1048 : (Cond.selects "AbsenceRowsModel" ⟨"AbsenceRowsModel", "askAt", "(II)I"⟩ ⟨"AbsenceRowsModel", "askAt", "(II)I"⟩) ∈ xt_T := xt_in 1048 (by decide +kernel) rfl
theorem xz2_1050 : (Cond.methodLink "AbsenceRowsLaw" 144 ⟨"AbsenceRowsModel", "left", "(III)I"⟩) ∈ xt_T := xt_in 1050 (by decide +kernel) rfl
theorem xz2_1051 : (Cond.instanceMethod ⟨"AbsenceRowsModel", "left", "(III)I"⟩) ∈ xt_T := xt_in 1051 (by decide +kernel) rfl
theorem xz2_1052 : (Cond.selects "AbsenceRowsModel" ⟨"AbsenceRowsModel", "left", "(III)I"⟩ ⟨"AbsenceRowsModel", "left", "(III)I"⟩) ∈ xt_T := xt_in 1052 (by decide +kernel) rfl
theorem xz2_1054 : (Cond.methodLink "AbsenceRowsLaw" 153 ⟨"AbsenceRowsModel", "held", "(II)I"⟩) ∈ xt_T := xt_in 1054 (by decide +kernel) rfl
theorem xz2_1055 : (Cond.instanceMethod ⟨"AbsenceRowsModel", "held", "(II)I"⟩) ∈ xt_T := xt_in 1055 (by decide +kernel) rfl
theorem xz2_1056 : (Cond.selects "AbsenceRowsModel" ⟨"AbsenceRowsModel", "held", "(II)I"⟩ ⟨"AbsenceRowsModel", "held", "(II)I"⟩) ∈ xt_T := xt_in 1056 (by decide +kernel) rfl
theorem xz2_1058 : (Cond.methodLink "AbsenceRowsLaw" 156 ⟨"AbsenceRowsModel", "bar", "(III)V"⟩) ∈ xt_T := xt_in 1058 (by decide +kernel) rfl
theorem xz2_1059 : (Cond.instanceMethod ⟨"AbsenceRowsModel", "bar", "(III)V"⟩) ∈ xt_T := xt_in 1059 (by decide +kernel) rfl
theorem xz2_1060 : (Cond.selects "AbsenceRowsModel" ⟨"AbsenceRowsModel", "bar", "(III)V"⟩ ⟨"AbsenceRowsModel", "bar", "(III)V"⟩) ∈ xt_T := xt_in 1060 (by decide +kernel) rfl
theorem xz2_1062 : (Cond.methodLink "AbsenceRowsLaw" 159 ⟨"AbsenceRowsModel", "patience", "(I)V"⟩) ∈ xt_T := xt_in 1062 (by decide +kernel) rfl
theorem xz2_1063 : (Cond.instanceMethod ⟨"AbsenceRowsModel", "patience", "(I)V"⟩) ∈ xt_T := xt_in 1063 (by decide +kernel) rfl
theorem xz2_1064 : (Cond.selects "AbsenceRowsModel" ⟨"AbsenceRowsModel", "patience", "(I)V"⟩ ⟨"AbsenceRowsModel", "patience", "(I)V"⟩) ∈ xt_T := xt_in 1064 (by decide +kernel) rfl
theorem xz2_1066 : (Cond.methodLink "AbsenceRowsLaw" 162 ⟨"AbsenceRowsModel", "call", "(II)I"⟩) ∈ xt_T := xt_in 1066 (by decide +kernel) rfl
theorem xz2_1067 : (Cond.instanceMethod ⟨"AbsenceRowsModel", "call", "(II)I"⟩) ∈ xt_T := xt_in 1067 (by decide +kernel) rfl
theorem xz2_1068 : (Cond.selects "AbsenceRowsModel" ⟨"AbsenceRowsModel", "call", "(II)I"⟩ ⟨"AbsenceRowsModel", "call", "(II)I"⟩) ∈ xt_T := xt_in 1068 (by decide +kernel) rfl
theorem xz2_1082 : (Cond.methodLink "AbsenceRowsLaw" 166 ⟨"AbsenceRowsModel", "answer", "(IZ)I"⟩) ∈ xt_T := xt_in 1082 (by decide +kernel) rfl
theorem xz2_1083 : (Cond.instanceMethod ⟨"AbsenceRowsModel", "answer", "(IZ)I"⟩) ∈ xt_T := xt_in 1083 (by decide +kernel) rfl
theorem xz2_1084 : (Cond.selects "AbsenceRowsModel" ⟨"AbsenceRowsModel", "answer", "(IZ)I"⟩ ⟨"AbsenceRowsModel", "answer", "(IZ)I"⟩) ∈ xt_T := xt_in 1084 (by decide +kernel) rfl
theorem xz2_1090 : (Cond.methodLink "AbsenceRowsLaw" 169 ⟨"AbsenceRowsModel", "callAt", "(II)I"⟩) ∈ xt_T := xt_in 1090 (by decide +kernel) rfl
theorem xz2_1091 : (Cond.instanceMethod ⟨"AbsenceRowsModel", "callAt", "(II)I"⟩) ∈ xt_T := xt_in 1091 (by decide +kernel) rfl
theorem xz2_1092 : (Cond.selects "AbsenceRowsModel" ⟨"AbsenceRowsModel", "callAt", "(II)I"⟩ ⟨"AbsenceRowsModel", "callAt", "(II)I"⟩) ∈ xt_T := xt_in 1092 (by decide +kernel) rfl
theorem xz2_1094 : (Cond.methodLink "AbsenceRowsLaw" 172 ⟨"AbsenceRowsModel", "asked", "(I)I"⟩) ∈ xt_T := xt_in 1094 (by decide +kernel) rfl
theorem xz2_1095 : (Cond.instanceMethod ⟨"AbsenceRowsModel", "asked", "(I)I"⟩) ∈ xt_T := xt_in 1095 (by decide +kernel) rfl
theorem xz2_1096 : (Cond.selects "AbsenceRowsModel" ⟨"AbsenceRowsModel", "asked", "(I)I"⟩ ⟨"AbsenceRowsModel", "asked", "(I)I"⟩) ∈ xt_T := xt_in 1096 (by decide +kernel) rfl
theorem xz2_1098 : (Cond.methodLink "AbsenceRowsLaw" 175 ⟨"AbsenceRowsModel", "tick", "(I)I"⟩) ∈ xt_T := xt_in 1098 (by decide +kernel) rfl
theorem xz2_1099 : (Cond.instanceMethod ⟨"AbsenceRowsModel", "tick", "(I)I"⟩) ∈ xt_T := xt_in 1099 (by decide +kernel) rfl
theorem xz2_1100 : (Cond.selects "AbsenceRowsModel" ⟨"AbsenceRowsModel", "tick", "(I)I"⟩ ⟨"AbsenceRowsModel", "tick", "(I)I"⟩) ∈ xt_T := xt_in 1100 (by decide +kernel) rfl
/-! THE LAW: what its walk leans on -/
noncomputable def xl_ct : List (Nat × xm_C) := [(101, xl_up sM_person), (109, xl_up sM_budget), (113, xl_up sM_carry), (116, xl_up sM_holiday), (120, xl_up sM_working), (123, xl_up sM_crew), (127, xl_up sM_member), (131, xl_up sM_ask), (134, xl_up sM_grant), (138, xl_up sM_withdraw), (141, xl_up sM_askAt), (144, xl_up sM_left), (147, xl_up sM_absent), (150, xl_up sM_present), (153, xl_up sM_held), (156, xl_up sM_bar), (159, xl_up sM_patience), (162, xl_up sM_call), (166, xl_up sM_answer), (169, xl_up sM_callAt), (172, xl_up sM_asked), (175, xl_up sM_tick), (102, xl_up sM_thrown)]
theorem xl_r_person (as : List Value) (N : xm_M) (f : Nat → Nat) : (fM_person as N).1.map (xm_v f) = (fM_person as N).1 := by
  unfold fM_person
  split <;> rfl
theorem xl_k_person (l : Launch) : xm_lkV l "AbsenceRowsLaw" xt_T xk_ns room_1 xk_cl xk_tM 101 sM_person := by
  refine ⟨xy_M_person, xb_M_person, 4, (some .int), (xr_ 2), 3, 0, 7, _, xk_T7, 37, rfl, rfl, ⟨xe_M_person, xz2_44, ⟨by decide, by decide, by decide +kernel⟩, ⟨Nat.le_of_ble_eq_true rfl, Nat.le_of_ble_eq_true rfl⟩, rfl, rfl⟩, xz2_922, xz2_923, xz2_924, rfl, rfl, ?_, (Or.inr ⟨rfl, cM_person l⟩)⟩
  intro as M h
  obtain ⟨_, _, _, h, -⟩ := h
  exact ⟨_, h⟩
theorem xl_r_budget (as : List Value) (N : xm_M) (f : Nat → Nat) : (fM_budget as N).1.map (xm_v f) = (fM_budget as N).1 := by
  unfold fM_budget
  split <;> rfl
theorem xl_k_budget (l : Launch) : xm_lkV l "AbsenceRowsLaw" xt_T xk_ns room_1 xk_cl xk_tM 109 sM_budget := by
  refine ⟨xy_M_budget, xb_M_budget, 9, none, (xr_ 5), 3, 0, 7, _, xk_T7, 37, rfl, rfl, ⟨xe_M_budget, xz2_44, ⟨by decide, by decide, by decide +kernel⟩, ⟨Nat.le_of_ble_eq_true rfl, Nat.le_of_ble_eq_true rfl⟩, rfl, rfl⟩, xz2_936, xz2_937, xz2_938, rfl, rfl, ?_, (Or.inr ⟨rfl, cM_budget l⟩)⟩
  intro as M h
  obtain ⟨_, _, _, h, -⟩ := h
  exact ⟨_, h⟩
theorem xl_r_carry (as : List Value) (N : xm_M) (f : Nat → Nat) : (fM_carry as N).1.map (xm_v f) = (fM_carry as N).1 := by
  unfold fM_carry
  split <;> rfl
theorem xl_k_carry (l : Launch) : xm_lkV l "AbsenceRowsLaw" xt_T xk_ns room_1 xk_cl xk_tM 113 sM_carry := by
  refine ⟨xy_M_carry, xb_M_carry, 2, none, (xr_ 1), 1, 0, 7, _, xk_T7, 37, rfl, rfl, ⟨xe_M_carry, xz2_44, ⟨by decide, by decide, by decide +kernel⟩, ⟨Nat.le_of_ble_eq_true rfl, Nat.le_of_ble_eq_true rfl⟩, rfl, rfl⟩, xz2_974, xz2_975, xz2_976, rfl, rfl, ?_, (Or.inr ⟨rfl, cM_carry l⟩)⟩
  intro as M h
  obtain ⟨_, h, -⟩ := h
  exact ⟨_, h⟩
theorem xl_r_holiday (as : List Value) (N : xm_M) (f : Nat → Nat) : (fM_holiday as N).1.map (xm_v f) = (fM_holiday as N).1 := by
  unfold fM_holiday
  split <;> rfl
theorem xl_k_holiday (l : Launch) : xm_lkV l "AbsenceRowsLaw" xt_T xk_ns room_1 xk_cl xk_tM 116 sM_holiday := by
  refine ⟨xy_M_holiday, xb_M_holiday, 2, none, (xr_ 2), 1, 0, 7, _, xk_T7, 37, rfl, rfl, ⟨xe_M_holiday, xz2_44, ⟨by decide, by decide, by decide +kernel⟩, ⟨Nat.le_of_ble_eq_true rfl, Nat.le_of_ble_eq_true rfl⟩, rfl, rfl⟩, xz2_978, xz2_979, xz2_980, rfl, rfl, ?_, (Or.inr ⟨rfl, cM_holiday l⟩)⟩
  intro as M h
  obtain ⟨_, h, -⟩ := h
  exact ⟨_, h⟩
theorem xl_r_working (as : List Value) (N : xm_M) (f : Nat → Nat) : (fM_working as N).1.map (xm_v f) = (fM_working as N).1 := by
  unfold fM_working
  split <;> rfl
theorem xl_k_working (l : Launch) : xm_lkV l "AbsenceRowsLaw" xt_T xk_ns room_1 xk_cl xk_tM 120 sM_working := by
  refine ⟨xy_M_working, xb_M_working, 5, (some .int), (xr_ 2), 2, 0, 7, _, xk_T7, 37, rfl, rfl, ⟨xe_M_working, xz2_44, ⟨by decide, by decide, by decide +kernel⟩, ⟨Nat.le_of_ble_eq_true rfl, Nat.le_of_ble_eq_true rfl⟩, rfl, rfl⟩, xz2_982, xz2_983, xz2_984, rfl, rfl, ?_, (Or.inr ⟨rfl, cM_working l⟩)⟩
  intro as M h
  obtain ⟨_, _, h, -⟩ := h
  exact ⟨_, h⟩
theorem xl_r_crew (as : List Value) (N : xm_M) (f : Nat → Nat) : (fM_crew as N).1.map (xm_v f) = (fM_crew as N).1 := by
  unfold fM_crew
  split <;> rfl
theorem xl_k_crew (l : Launch) : xm_lkV l "AbsenceRowsLaw" xt_T xk_ns room_1 xk_cl xk_tM 123 sM_crew := by
  refine ⟨xy_M_crew, xb_M_crew, 3, (some .int), (xr_ 1), 2, 0, 7, _, xk_T7, 37, rfl, rfl, ⟨xe_M_crew, xz2_44, ⟨by decide, by decide, by decide +kernel⟩, ⟨Nat.le_of_ble_eq_true rfl, Nat.le_of_ble_eq_true rfl⟩, rfl, rfl⟩, xz2_986, xz2_987, xz2_988, rfl, rfl, ?_, (Or.inr ⟨rfl, cM_crew l⟩)⟩
  intro as M h
  obtain ⟨_, _, h, -⟩ := h
  exact ⟨_, h⟩
theorem xl_r_member (as : List Value) (N : xm_M) (f : Nat → Nat) : (fM_member as N).1.map (xm_v f) = (fM_member as N).1 := by
  unfold fM_member
  split <;> rfl
theorem xl_k_member (l : Launch) : xm_lkV l "AbsenceRowsLaw" xt_T xk_ns room_1 xk_cl xk_tM 127 sM_member := by
  refine ⟨xy_M_member, xb_M_member, 7, (some .int), (xr_ 2), 3, 0, 7, _, xk_T7, 37, rfl, rfl, ⟨xe_M_member, xz2_44, ⟨by decide, by decide, by decide +kernel⟩, ⟨Nat.le_of_ble_eq_true rfl, Nat.le_of_ble_eq_true rfl⟩, rfl, rfl⟩, xz2_990, xz2_991, xz2_992, rfl, rfl, ?_, (Or.inr ⟨rfl, cM_member l⟩)⟩
  intro as M h
  obtain ⟨_, _, _, h, -⟩ := h
  exact ⟨_, h⟩
theorem xl_r_ask (as : List Value) (N : xm_M) (f : Nat → Nat) : (fM_ask as N).1.map (xm_v f) = (fM_ask as N).1 := by
  unfold fM_ask
  split <;> rfl
theorem xl_k_ask (l : Launch) : xm_lkV l "AbsenceRowsLaw" xt_T xk_ns room_1 xk_cl xk_tM 131 sM_ask := by
  refine ⟨xy_M_ask, xb_M_ask, 10, (some .int), (xr_ 5), 5, 0, 7, _, xk_T7, 37, rfl, rfl, ⟨xe_M_ask, xz2_44, ⟨by decide, by decide, by decide +kernel⟩, ⟨Nat.le_of_ble_eq_true rfl, Nat.le_of_ble_eq_true rfl⟩, rfl, rfl⟩, xz2_1022, xz2_1023, xz2_1024, rfl, rfl, ?_, (Or.inr ⟨rfl, cM_ask l⟩)⟩
  intro as M h
  obtain ⟨_, _, _, _, _, h, -⟩ := h
  exact ⟨_, h⟩
theorem xl_r_grant (as : List Value) (N : xm_M) (f : Nat → Nat) : (fM_grant as N).1.map (xm_v f) = (fM_grant as N).1 := by
  unfold fM_grant
  split <;> rfl
theorem xl_k_grant (l : Launch) : xm_lkV l "AbsenceRowsLaw" xt_T xk_ns room_1 xk_cl xk_tM 134 sM_grant := by
  refine ⟨xy_M_grant, xb_M_grant, 6, (some .int), (xr_ 5), 2, 0, 7, _, xk_T7, 37, rfl, rfl, ⟨xe_M_grant, xz2_44, ⟨by decide, by decide, by decide +kernel⟩, ⟨Nat.le_of_ble_eq_true rfl, Nat.le_of_ble_eq_true rfl⟩, rfl, rfl⟩, xz2_1030, xz2_1031, xz2_1032, rfl, rfl, ?_, (Or.inr ⟨rfl, cM_grant l⟩)⟩
  intro as M h
  obtain ⟨_, _, h, -⟩ := h
  exact ⟨_, h⟩
theorem xl_r_withdraw (as : List Value) (N : xm_M) (f : Nat → Nat) : (fM_withdraw as N).1.map (xm_v f) = (fM_withdraw as N).1 := by
  unfold fM_withdraw
  split <;> rfl
theorem xl_k_withdraw (l : Launch) : xm_lkV l "AbsenceRowsLaw" xt_T xk_ns room_1 xk_cl xk_tM 138 sM_withdraw := by
  refine ⟨xy_M_withdraw, xb_M_withdraw, 2, (some .int), (xr_ 2), 1, 0, 7, _, xk_T7, 37, rfl, rfl, ⟨xe_M_withdraw, xz2_44, ⟨by decide, by decide, by decide +kernel⟩, ⟨Nat.le_of_ble_eq_true rfl, Nat.le_of_ble_eq_true rfl⟩, rfl, rfl⟩, xz2_1042, xz2_1043, xz2_1044, rfl, rfl, ?_, (Or.inr ⟨rfl, cM_withdraw l⟩)⟩
  intro as M h
  obtain ⟨_, h, -⟩ := h
  exact ⟨_, h⟩
theorem xl_r_askAt (as : List Value) (N : xm_M) (f : Nat → Nat) : (fM_askAt as N).1.map (xm_v f) = (fM_askAt as N).1 := by
  unfold fM_askAt
  split <;> rfl
theorem xl_k_askAt (l : Launch) : xm_lkV l "AbsenceRowsLaw" xt_T xk_ns room_1 xk_cl xk_tM 141 sM_askAt := by
  refine ⟨xy_M_askAt, xb_M_askAt, 3, (some .int), (xr_ 2), 2, 0, 7, _, xk_T7, 37, rfl, rfl, ⟨xe_M_askAt, xz2_44, ⟨by decide, by decide, by decide +kernel⟩, ⟨Nat.le_of_ble_eq_true rfl, Nat.le_of_ble_eq_true rfl⟩, rfl, rfl⟩, xz2_1046, xz2_1047, xz2_1048, rfl, rfl, ?_, (Or.inr ⟨rfl, cM_askAt l⟩)⟩
  intro as M h
  obtain ⟨_, _, h, -⟩ := h
  exact ⟨_, h⟩
theorem xl_r_left (as : List Value) (N : xm_M) (f : Nat → Nat) : (fM_left as N).1.map (xm_v f) = (fM_left as N).1 := by
  unfold fM_left
  split <;> rfl
theorem xl_k_left (l : Launch) : xm_lkV l "AbsenceRowsLaw" xt_T xk_ns room_1 xk_cl xk_tM 144 sM_left := by
  refine ⟨xy_M_left, xb_M_left, 12, (some .int), (xr_ 4), 3, 0, 7, _, xk_T7, 37, rfl, rfl, ⟨xe_M_left, xz2_44, ⟨by decide, by decide, by decide +kernel⟩, ⟨Nat.le_of_ble_eq_true rfl, Nat.le_of_ble_eq_true rfl⟩, rfl, rfl⟩, xz2_1050, xz2_1051, xz2_1052, rfl, rfl, ?_, (Or.inr ⟨rfl, cM_left l⟩)⟩
  intro as M h
  obtain ⟨_, _, _, h, -⟩ := h
  exact ⟨_, h⟩
theorem xl_r_absent (as : List Value) (N : xm_M) (f : Nat → Nat) : (fM_absent as N).1.map (xm_v f) = (fM_absent as N).1 := by
  unfold fM_absent
  split <;> rfl
theorem xl_k_absent (l : Launch) : xm_lkV l "AbsenceRowsLaw" xt_T xk_ns room_1 xk_cl xk_tM 147 sM_absent := by
  refine ⟨xy_M_absent, xb_M_absent, 3, (some .boolean), (xr_ 2), 2, 0, 7, _, xk_T7, 37, rfl, rfl, ⟨xe_M_absent, xz2_44, ⟨by decide, by decide, by decide +kernel⟩, ⟨Nat.le_of_ble_eq_true rfl, Nat.le_of_ble_eq_true rfl⟩, rfl, rfl⟩, xz2_998, xz2_999, xz2_1000, rfl, rfl, ?_, (Or.inr ⟨rfl, cM_absent l⟩)⟩
  intro as M h
  obtain ⟨_, _, h, -⟩ := h
  exact ⟨_, h⟩
theorem xl_r_present (as : List Value) (N : xm_M) (f : Nat → Nat) : (fM_present as N).1.map (xm_v f) = (fM_present as N).1 := by
  unfold fM_present
  split <;> rfl
theorem xl_k_present (l : Launch) : xm_lkV l "AbsenceRowsLaw" xt_T xk_ns room_1 xk_cl xk_tM 150 sM_present := by
  refine ⟨xy_M_present, xb_M_present, 3, (some .int), (xr_ 4), 2, 0, 7, _, xk_T7, 37, rfl, rfl, ⟨xe_M_present, xz2_44, ⟨by decide, by decide, by decide +kernel⟩, ⟨Nat.le_of_ble_eq_true rfl, Nat.le_of_ble_eq_true rfl⟩, rfl, rfl⟩, xz2_1006, xz2_1007, xz2_1008, rfl, rfl, ?_, (Or.inr ⟨rfl, cM_present l⟩)⟩
  intro as M h
  obtain ⟨_, _, h, -⟩ := h
  exact ⟨_, h⟩
theorem xl_r_held (as : List Value) (N : xm_M) (f : Nat → Nat) : (fM_held as N).1.map (xm_v f) = (fM_held as N).1 := by
  unfold fM_held
  split <;> rfl
theorem xl_k_held (l : Launch) : xm_lkV l "AbsenceRowsLaw" xt_T xk_ns room_1 xk_cl xk_tM 153 sM_held := by
  refine ⟨xy_M_held, xb_M_held, 3, (some .int), (xr_ 1), 2, 0, 7, _, xk_T7, 37, rfl, rfl, ⟨xe_M_held, xz2_44, ⟨by decide, by decide, by decide +kernel⟩, ⟨Nat.le_of_ble_eq_true rfl, Nat.le_of_ble_eq_true rfl⟩, rfl, rfl⟩, xz2_1054, xz2_1055, xz2_1056, rfl, rfl, ?_, (Or.inr ⟨rfl, cM_held l⟩)⟩
  intro as M h
  obtain ⟨_, _, h, -⟩ := h
  exact ⟨_, h⟩
theorem xl_r_bar (as : List Value) (N : xm_M) (f : Nat → Nat) : (fM_bar as N).1.map (xm_v f) = (fM_bar as N).1 := by
  unfold fM_bar
  split <;> rfl
theorem xl_k_bar (l : Launch) : xm_lkV l "AbsenceRowsLaw" xt_T xk_ns room_1 xk_cl xk_tM 156 sM_bar := by
  refine ⟨xy_M_bar, xb_M_bar, 4, none, (xr_ 2), 3, 0, 7, _, xk_T7, 37, rfl, rfl, ⟨xe_M_bar, xz2_44, ⟨by decide, by decide, by decide +kernel⟩, ⟨Nat.le_of_ble_eq_true rfl, Nat.le_of_ble_eq_true rfl⟩, rfl, rfl⟩, xz2_1058, xz2_1059, xz2_1060, rfl, rfl, ?_, (Or.inr ⟨rfl, cM_bar l⟩)⟩
  intro as M h
  obtain ⟨_, _, _, h, -⟩ := h
  exact ⟨_, h⟩
theorem xl_r_patience (as : List Value) (N : xm_M) (f : Nat → Nat) : (fM_patience as N).1.map (xm_v f) = (fM_patience as N).1 := by
  unfold fM_patience
  split <;> rfl
theorem xl_k_patience (l : Launch) : xm_lkV l "AbsenceRowsLaw" xt_T xk_ns room_1 xk_cl xk_tM 159 sM_patience := by
  refine ⟨xy_M_patience, xb_M_patience, 2, none, (xr_ 1), 1, 0, 7, _, xk_T7, 37, rfl, rfl, ⟨xe_M_patience, xz2_44, ⟨by decide, by decide, by decide +kernel⟩, ⟨Nat.le_of_ble_eq_true rfl, Nat.le_of_ble_eq_true rfl⟩, rfl, rfl⟩, xz2_1062, xz2_1063, xz2_1064, rfl, rfl, ?_, (Or.inr ⟨rfl, cM_patience l⟩)⟩
  intro as M h
  obtain ⟨_, h, -⟩ := h
  exact ⟨_, h⟩
theorem xl_r_call (as : List Value) (N : xm_M) (f : Nat → Nat) : (fM_call as N).1.map (xm_v f) = (fM_call as N).1 := by
  unfold fM_call
  split <;> rfl
theorem xl_k_call (l : Launch) : xm_lkV l "AbsenceRowsLaw" xt_T xk_ns room_1 xk_cl xk_tM 162 sM_call := by
  refine ⟨xy_M_call, xb_M_call, 3, (some .int), (xr_ 3), 2, 0, 7, _, xk_T7, 37, rfl, rfl, ⟨xe_M_call, xz2_44, ⟨by decide, by decide, by decide +kernel⟩, ⟨Nat.le_of_ble_eq_true rfl, Nat.le_of_ble_eq_true rfl⟩, rfl, rfl⟩, xz2_1066, xz2_1067, xz2_1068, rfl, rfl, ?_, (Or.inr ⟨rfl, cM_call l⟩)⟩
  intro as M h
  obtain ⟨_, _, h, -⟩ := h
  exact ⟨_, h⟩
theorem xl_r_answer (as : List Value) (N : xm_M) (f : Nat → Nat) : (fM_answer as N).1.map (xm_v f) = (fM_answer as N).1 := by
  unfold fM_answer
  split <;> rfl
theorem xl_k_answer (l : Launch) : xm_lkV l "AbsenceRowsLaw" xt_T xk_ns room_1 xk_cl xk_tM 166 sM_answer := by
  refine ⟨xy_M_answer, xb_M_answer, 3, (some .int), (xr_ 3), 2, 0, 7, _, xk_T7, 37, rfl, rfl, ⟨xe_M_answer, xz2_44, ⟨by decide, by decide, by decide +kernel⟩, ⟨Nat.le_of_ble_eq_true rfl, Nat.le_of_ble_eq_true rfl⟩, rfl, rfl⟩, xz2_1082, xz2_1083, xz2_1084, rfl, rfl, ?_, (Or.inr ⟨rfl, cM_answer l⟩)⟩
  intro as M h
  obtain ⟨_, _, h, -⟩ := h
  exact ⟨_, h⟩
theorem xl_r_callAt (as : List Value) (N : xm_M) (f : Nat → Nat) : (fM_callAt as N).1.map (xm_v f) = (fM_callAt as N).1 := by
  unfold fM_callAt
  split <;> rfl
theorem xl_k_callAt (l : Launch) : xm_lkV l "AbsenceRowsLaw" xt_T xk_ns room_1 xk_cl xk_tM 169 sM_callAt := by
  refine ⟨xy_M_callAt, xb_M_callAt, 3, (some .int), (xr_ 2), 2, 0, 7, _, xk_T7, 37, rfl, rfl, ⟨xe_M_callAt, xz2_44, ⟨by decide, by decide, by decide +kernel⟩, ⟨Nat.le_of_ble_eq_true rfl, Nat.le_of_ble_eq_true rfl⟩, rfl, rfl⟩, xz2_1090, xz2_1091, xz2_1092, rfl, rfl, ?_, (Or.inr ⟨rfl, cM_callAt l⟩)⟩
  intro as M h
  obtain ⟨_, _, h, -⟩ := h
  exact ⟨_, h⟩
theorem xl_r_asked (as : List Value) (N : xm_M) (f : Nat → Nat) : (fM_asked as N).1.map (xm_v f) = (fM_asked as N).1 := by
  unfold fM_asked
  split <;> rfl
theorem xl_k_asked (l : Launch) : xm_lkV l "AbsenceRowsLaw" xt_T xk_ns room_1 xk_cl xk_tM 172 sM_asked := by
  refine ⟨xy_M_asked, xb_M_asked, 2, (some .int), (xr_ 2), 1, 0, 7, _, xk_T7, 37, rfl, rfl, ⟨xe_M_asked, xz2_44, ⟨by decide, by decide, by decide +kernel⟩, ⟨Nat.le_of_ble_eq_true rfl, Nat.le_of_ble_eq_true rfl⟩, rfl, rfl⟩, xz2_1094, xz2_1095, xz2_1096, rfl, rfl, ?_, (Or.inr ⟨rfl, cM_asked l⟩)⟩
  intro as M h
  obtain ⟨_, h, -⟩ := h
  exact ⟨_, h⟩
theorem xl_r_tick (as : List Value) (N : xm_M) (f : Nat → Nat) : (fM_tick as N).1.map (xm_v f) = (fM_tick as N).1 := by
  unfold fM_tick
  split <;> rfl
theorem xl_k_tick (l : Launch) : xm_lkV l "AbsenceRowsLaw" xt_T xk_ns room_1 xk_cl xk_tM 175 sM_tick := by
  refine ⟨xy_M_tick, xb_M_tick, 5, (some .int), (xr_ 3), 1, 0, 7, _, xk_T7, 37, rfl, rfl, ⟨xe_M_tick, xz2_44, ⟨by decide, by decide, by decide +kernel⟩, ⟨Nat.le_of_ble_eq_true rfl, Nat.le_of_ble_eq_true rfl⟩, rfl, rfl⟩, xz2_1098, xz2_1099, xz2_1100, rfl, rfl, ?_, (Or.inr ⟨rfl, cM_tick l⟩)⟩
  intro as M h
  obtain ⟨_, h, -⟩ := h
  exact ⟨_, h⟩
theorem xl_r_thrown (as : List Value) (N : xm_M) (f : Nat → Nat) : (fM_thrown as N).1.map (xm_v f) = (fM_thrown as N).1 := by
  unfold fM_thrown
  split <;> rfl
theorem xl_pt (as : List Value) (M : xm_M) : (fM_thrown as M).2 = M := by
  unfold fM_thrown
  split <;> rfl
theorem xl_k_thrown (l : Launch) : xm_lkV l "AbsenceRowsLaw" xt_T xk_ns room_1 xk_cl xk_tM 102 sM_thrown := by
  refine ⟨xy_M_thrown, xb_M_thrown, 1, (some .int), (xr_ 0), 0, 0, 7, _, xk_T7, 37, rfl, rfl, ⟨xe_M_thrown, xz2_44, ⟨by decide, by decide, by decide +kernel⟩, ⟨Nat.le_of_ble_eq_true rfl, Nat.le_of_ble_eq_true rfl⟩, rfl, rfl⟩, xz2_918, xz2_919, xz2_920, rfl, rfl, ?_, (Or.inl ⟨rfl, fun as M => xl_pt as M, cM_thrown l⟩)⟩
  intro as M h
  exact ⟨[], h⟩
def xl_ok (l : Launch) (q : Nat × xm_C) : Prop := ∃ C1, q.2 = xl_up C1 ∧ xm_lkV l "AbsenceRowsLaw" xt_T xk_ns room_1 xk_cl xk_tM q.1 C1 ∧ ∀ as N f, (C1.2.2.2.2 as N).1.map (xm_v f) = (C1.2.2.2.2 as N).1
theorem xl_ct_ok (l : Launch) : ∀ q ∈ xl_ct, xl_ok l q := List.forall_mem_cons.mpr ⟨⟨sM_person, rfl, xl_k_person l, xl_r_person⟩, List.forall_mem_cons.mpr ⟨⟨sM_budget, rfl, xl_k_budget l, xl_r_budget⟩, List.forall_mem_cons.mpr ⟨⟨sM_carry, rfl, xl_k_carry l, xl_r_carry⟩, List.forall_mem_cons.mpr ⟨⟨sM_holiday, rfl, xl_k_holiday l, xl_r_holiday⟩, List.forall_mem_cons.mpr ⟨⟨sM_working, rfl, xl_k_working l, xl_r_working⟩, List.forall_mem_cons.mpr ⟨⟨sM_crew, rfl, xl_k_crew l, xl_r_crew⟩, List.forall_mem_cons.mpr ⟨⟨sM_member, rfl, xl_k_member l, xl_r_member⟩, List.forall_mem_cons.mpr ⟨⟨sM_ask, rfl, xl_k_ask l, xl_r_ask⟩, List.forall_mem_cons.mpr ⟨⟨sM_grant, rfl, xl_k_grant l, xl_r_grant⟩, List.forall_mem_cons.mpr ⟨⟨sM_withdraw, rfl, xl_k_withdraw l, xl_r_withdraw⟩, List.forall_mem_cons.mpr ⟨⟨sM_askAt, rfl, xl_k_askAt l, xl_r_askAt⟩, List.forall_mem_cons.mpr ⟨⟨sM_left, rfl, xl_k_left l, xl_r_left⟩, List.forall_mem_cons.mpr ⟨⟨sM_absent, rfl, xl_k_absent l, xl_r_absent⟩, List.forall_mem_cons.mpr ⟨⟨sM_present, rfl, xl_k_present l, xl_r_present⟩, List.forall_mem_cons.mpr ⟨⟨sM_held, rfl, xl_k_held l, xl_r_held⟩, List.forall_mem_cons.mpr ⟨⟨sM_bar, rfl, xl_k_bar l, xl_r_bar⟩, List.forall_mem_cons.mpr ⟨⟨sM_patience, rfl, xl_k_patience l, xl_r_patience⟩, List.forall_mem_cons.mpr ⟨⟨sM_call, rfl, xl_k_call l, xl_r_call⟩, List.forall_mem_cons.mpr ⟨⟨sM_answer, rfl, xl_k_answer l, xl_r_answer⟩, List.forall_mem_cons.mpr ⟨⟨sM_callAt, rfl, xl_k_callAt l, xl_r_callAt⟩, List.forall_mem_cons.mpr ⟨⟨sM_asked, rfl, xl_k_asked l, xl_r_asked⟩, List.forall_mem_cons.mpr ⟨⟨sM_tick, rfl, xl_k_tick l, xl_r_tick⟩, List.forall_mem_cons.mpr ⟨⟨sM_thrown, rfl, xl_k_thrown l, xl_r_thrown⟩, fun _ h => absurd h List.not_mem_nil⟩⟩⟩⟩⟩⟩⟩⟩⟩⟩⟩⟩⟩⟩⟩⟩⟩⟩⟩⟩⟩⟩⟩
/-- what the law's walk leans on -/
def xl_C (p : Program) (l : Launch) (s : State) (m : MethodId) (meth : Method) (c : Code) (b L : Nat) (xs : Nat → Int32) (dC : Nat → ClassId) (dI : Nat → Nat → Nat) (dA ad : Nat → Nat) : Prop :=
  (p.tables.exec = Jvm.exec ∧ c.code = code ∧ c.maxLocals = 7 ∧ s.vm.findClass "AbsenceRowsLaw" = some m.cls ∧ ∀ w ∈ xt_T, w.before #[Value.ref b] s = true) ∧ (meth.sig.returnType = ret ∧ meth.locks = false) ∧ va_K (dC, dI) xk_cl (xm_tys dA) s ∧ xm_Nw xk_ns s ∧ (xm_sr "AbsenceRows" xh_ss s ∧ xm_zq (fun q => s.heap.size ≤ q) s s.heap ∧ xm_nc xh_ps s) ∧ (xm_inj ad xk_tC.length ∧ ∀ k, k < xk_tC.length → s.heap.size ≤ ad k) ∧ (ad 1000 = b ∧ va_X b L xs s s.heap ∧ b < s.heap.size) ∧ l.stackTraces = false
/-- the walk holds at a place -/
def xl_J (p : Program) (l : Launch) (e : Env) (s : State) (m : MethodId) (below : List Frame) (meth : Method) (c : Code) (b : Nat) (dC : Nat → ClassId) (dI : Nat → Nat → Nat) (dA ad : Nat → Nat) (pc : Nat) (ls : List (Nat × Value)) (st : List Value) (M : xm_M) (cl : Nat) : Prop :=
  xm_J (fun cl H locs g => W p l e room_1 s m #[Value.ref b] below meth c H locs (xl_cf cl) (xl_sf cl) (lw_Z below #[Value.ref b] s) g) m (xm_R (dC, dI) xk_cl (fun q => s.heap.size ≤ q) ad dA xk_tC s.heap) ad 7 pc ls st M cl
/-- the law answers true -/
abbrev xl_Q : Option Value → xm_M → Nat → Prop := fun r _ _ => r = some (.int 1)
section XL3
variable {p : Program} {l : Launch} {e : Env} {s : State} {m : MethodId} {below : List Frame} {meth : Method} {c : Code} {b L : Nat} {xs : Nat → Int32} {dC : Nat → ClassId} {dI : Nat → Nat → Nat} {dA ad : Nat → Nat}
theorem xl_snd (C : xl_C p l s m meth c b L xs dC dI dA ad) {K : Nat → List (Nat × Value) → List Value → xm_M → Nat → Prop} (hcut : ∀ pc ls st M cl, K pc ls st M cl → xl_J p l e s m below meth c b dC dI dA ad pc ls st M cl) {n pc : Nat} {ls : List (Nat × Value)} {st : List Value} {M : xm_M} {cl : Nat}
    (h : xm_w (L + 1) xs xp_law [] xl_ct [] [] xk_tC .boolean 7 xl_Q (fun _ _ _ _ => False) K n false (xm_at xp_law pc) ls st M cl) : xl_J p l e s m below meth c b dC dI dA ad pc ls st M cl := by
  obtain ⟨⟨hx, hb, hml, hown, hts⟩, ⟨hr, hlocks⟩, hK, hN, -, ⟨hj, hA0⟩, ⟨had, hX, hbl⟩, -⟩ := C
  have hD : ∀ M, va_D (fun q => s.heap.size ≤ q) (xm_W ad dA xk_tC M) := xm_D hj hA0
  have hcall : xm_okC (fun cl H locs g => W p l e room_1 s m #[Value.ref b] below meth c H locs (xl_cf cl) (xl_sf cl) (lw_Z below #[Value.ref b] s) g) m (xm_R (dC, dI) xk_cl (fun q => s.heap.size ≤ q) ad dA xk_tC s.heap) ad 7 code xl_ct := by
    refine xm_okC_of (fun n C h => ?_)
    obtain ⟨C1, h1, h2, h3⟩ := xl_ct_ok l (n, C) h
    dsimp only at h1 h2
    subst h1
    exact xl_row ⟨hx, hb, hml, hown, hts⟩ hN hK hj hA0 xl_mono xl_cap h2 h3
  have hreti : xm_okI (fun cl H locs g => W p l e room_1 s m #[Value.ref b] below meth c H locs (xl_cf cl) (xl_sf cl) (lw_Z below #[Value.ref b] s) g) m (xm_R (dC, dI) xk_cl (fun q => s.heap.size ≤ q) ad dA xk_tC s.heap) code .boolean xl_Q := by
    intro pc v M cl H locs lsC hdg hn hq hR
    have hv : v = 1 := Value.int.inj (Option.some.inj hq)
    subst hv
    refine W.widen (k := 1132) (n := 14352) (by show min (64 + cl) 1132 ≤ 1132; omega) (by show min (5896 + 6 * cl) 14352 ≤ 14352; omega) ?_
    exact va_forget (fun q hq => hR.2.1.2.2 q hq) (lw_ret hx hb hr hlocks hdg)
  have hch' := xd_law
  obtain ⟨q, t, e1, h2⟩ := xm_sound (own := "AbsenceRowsLaw") (cc := code) hx hb hown hts hK hD xl_mono (fun _ => ⟨by rw [had]; exact hX, by rw [had]; exact hbl, by rw [had]; exact Nat.not_le.mpr hbl⟩) (fun _ _ h => absurd h List.not_mem_nil) (fun _ _ h => absurd h List.not_mem_nil) (fun _ _ _ h => absurd h List.not_mem_nil) (fun _ _ _ _ _ _ h => absurd h List.not_mem_nil) hcall hreti
    (fun pc v M cl H locs lsC _ hq _ => by cases hq) (fun pc M cl H locs lsC _ hq _ => by cases hq) (fun pc n M cl H locs lsC _ hq => hq.elim) hch' hcut n false (xm_at xp_law pc) (xm_at_ch _ hch') ls st M cl h
  rw [xm_at_hd e1] at h2
  exact h2
end XL3
/-- the law's locals at the head of its loop -/
def xl_LS (x : Int32) : List (Nat × Value) := [(0, .ref 1000), (1, .ref 0), (2, .ref 34), (3, .ref 63), (4, .int x)]
/-- a cell of the script -/
def xl_g (xs : Nat → Int32) (x : Int32) (k : Int) : Int32 := xs (x + Int32.ofInt k).toNatClampNeg
def xl_bo (x : Int32) : Int32 := if x = 0 then 0 else 1
theorem xl_b0 {x : Int32} (h : x = 0) : xl_bo x = 0 := if_pos h
theorem xl_b1 {x : Int32} (h : ¬ x = 0) : xl_bo x = 1 := if_neg h
theorem xl_b01 (x : Int32) : xl_bo x = 0 ∨ xl_bo x = 1 := by
  by_cases h : x = 0
  · exact Or.inl (xl_b0 h)
  · exact Or.inr (xl_b1 h)
theorem xl_in {i L k : Nat} (hL : L ≤ 3072) (hi : 6 * i + 6 ≤ L) (hk : k < 6) : vp_in (nI (6 * i) + Int32.ofInt k) (L + 1 - 1) := by
  have e : nI (6 * i) + Int32.ofInt k = nI (6 * i + k) := by
    rw [← nI_add]; rfl
  rw [e, Nat.add_sub_cancel]
  exact vp_in_nI (by omega) (by omega)
theorem xl_in0 {i L : Nat} (hL : L ≤ 3072) (hi : 6 * i + 6 ≤ L) : vp_in (nI (6 * i)) (L + 1 - 1) := by
  rw [Nat.add_sub_cancel]
  exact vp_in_nI (by omega) (by omega)
theorem xl_cmp {a b : Int64} (h : a = b) : lg_cmp a b = 0 := by
  subst h
  unfold lg_cmp
  rw [if_neg (by intro h; rw [gt_iff_lt, Int64.lt_iff_toInt_lt] at h; omega), if_pos rfl]
/-- behind one call: the loop's head, a turn on -/
def xl_K (x : Int32) (cl : Nat) : Nat → List (Nat × Value) → List Value → xm_M → Nat → Prop := fun pc ls st M' cl' => pc = 23 ∧ ls = xl_LS (x + Int32.ofInt 6) ∧ st = [] ∧ zR M' (xl_md M') ∧ cl' ≤ cl + 2
